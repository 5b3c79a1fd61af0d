set_option maxRecDepth 20000 in
theorem gX11_redeem_X3_findTicket : GoodIn wsX11_redeem (wsV RX11 65 RX3 yX3_findTicket wsX3_findTicket) := goodIn_app (goodIn_of _ (by decide +kernel)) ggX11_redeem_X3_findTicket
set_option maxRecDepth 20000 in
theorem ggX11_redeem_X3_giveBack : GoodIn wsX11_redeem wsX3_giveBack := goodIn_r _ [12, 13, 14, 15, 16, 17, 18, 5, 19, 20, 21, 22, 23, 24, 25, 26, 27, 28, 29, 30, 31, 32, 33, 34, 35, 36, 37, 38, 39, 40, 41, 42, 43, 44, 45, 46, 47, 48, 49, 50, 51, 52, 53, 54, 55, 56, 57, 58, 59, 60, 61, 62, 63, 64, 65, 66, 67, 68, 69, 70, 71, 72, 73, 74, 75, 76, 77, 78, 79, 80, 81, 82, 83, 84, 85, 86, 87, 88, 89, 90, 91, 92, 93, 94, 95, 96, 97, 98, 99, 100, 101, 102, 103, 104, 105, 106, 107, 108, 109, 110, 111, 112, 131, 132, 133, 134, 135, 136, 137, 138, 139, 140, 141, 142, 143, 144, 145, 146, 147, 148, 149, 150, 151, 152, 153, 154, 155, 122, 123, 124, 125, 126, 127, 128, 129, 130, 156] (by decide +kernel) (by decide +kernel)
set_option maxRecDepth 20000 in
theorem gX11_redeem_X3_giveBack : GoodIn wsX11_redeem (wsV RX11 87 RX3 yX3_giveBack wsX3_giveBack) := goodIn_app (goodIn_of _ (by decide +kernel)) ggX11_redeem_X3_giveBack
set_option maxRecDepth 20000 in
theorem ggX11_redeem_X11_answer : GoodIn wsX11_redeem wsX11_answer := goodIn_r _ [116, 117, 118, 119, 120, 121] (by decide +kernel) (by decide +kernel)
set_option maxRecDepth 20000 in
theorem gX11_redeem_X11_answer : GoodIn wsX11_redeem (wsV RX11 28 RX11 yX11_answer wsX11_answer) := goodIn_app (goodIn_of _ (by decide +kernel)) ggX11_redeem_X11_answer
theorem dX11_redeem_0 : decode cX11_redeem 0 = .ok (.aload_n 0, 1) := by decide +kernel
theorem dX11_redeem_1 : decode cX11_redeem 1 = .ok (.aload_n 0, 1) := by decide +kernel
theorem dX11_redeem_2 : decode cX11_redeem 2 = .ok (.getfield 15, 3) := by decide +kernel
theorem dX11_redeem_5 : decode cX11_redeem 5 = .ok (.aload_n 0, 1) := by decide +kernel
theorem dX11_redeem_6 : decode cX11_redeem 6 = .ok (.getfield 15, 3) := by decide +kernel
theorem dX11_redeem_9 : decode cX11_redeem 9 = .ok (.iload_n 1, 1) := by decide +kernel
theorem dX11_redeem_10 : decode cX11_redeem 10 = .ok (.invokevirtual 65, 3) := by decide +kernel
theorem dX11_redeem_13 : decode cX11_redeem 13 = .ok (.iload_n 2, 1) := by decide +kernel
theorem dX11_redeem_14 : decode cX11_redeem 14 = .ok (.iload_n 3, 1) := by decide +kernel
theorem dX11_redeem_15 : decode cX11_redeem 15 = .ok (.invokevirtual 87, 3) := by decide +kernel
theorem dX11_redeem_18 : decode cX11_redeem 18 = .ok (.invokevirtual 28, 3) := by decide +kernel
theorem dX11_redeem_21 : decode cX11_redeem 21 = .ok (.ireturn, 1) := by decide +kernel
set_option maxRecDepth 20000 in
theorem ggX11_out_X3_findTicket : GoodIn wsX11_out wsX3_findTicket := goodIn_r _ [6, 7, 8, 162, 163, 164, 165, 166, 167, 168, 169, 170] (by decide +kernel) (by decide +kernel)
set_option maxRecDepth 20000 in
theorem gX11_out_X3_findTicket : GoodIn wsX11_out (wsV RX11 65 RX3 yX3_findTicket wsX3_findTicket) := goodIn_app (goodIn_of _ (by decide +kernel)) ggX11_out_X3_findTicket
set_option maxRecDepth 20000 in
theorem ggX11_out_X3_takeItemOut : GoodIn wsX11_out wsX3_takeItemOut := goodIn_r _ [12, 13, 14, 15, 16, 17, 18, 5, 19, 20, 21, 22, 23, 24, 25, 26, 27, 28, 29, 30, 31, 32, 33, 34, 35, 36, 37, 38, 39, 40, 41, 42, 43, 44, 45, 46, 47, 48, 49, 50, 51, 52, 53, 54, 55, 56, 57, 58, 59, 60, 61, 62, 63, 64, 65, 66, 67, 68, 69, 70, 71, 72, 73, 74, 75, 76, 77, 78, 79, 80, 81, 82, 83, 84, 85, 86, 87, 88, 89, 90, 91, 92, 93, 94, 95, 96, 97, 98, 99, 100, 101, 102, 103, 104, 105, 106, 107, 108, 109, 110, 111, 112, 113, 114, 115, 116, 117, 118, 119, 120, 121, 122, 123, 124, 125, 126, 127, 128, 129, 130, 131, 132, 133, 134, 135, 136, 137, 138, 139, 140, 141, 142, 143, 144, 145, 146, 147, 148, 149, 150, 151, 162, 163, 164, 165, 166, 167, 168, 169, 170, 171, 172, 173, 174, 175, 176, 177, 178, 179, 180, 181, 182, 183, 184, 185, 186, 187, 188, 189, 190, 191, 192, 193, 194, 195, 196, 197, 198, 199, 200, 201, 202, 203, 204, 205, 206, 207, 208, 209, 210] (by decide +kernel) (by decide +kernel)
set_option maxRecDepth 20000 in
theorem gX11_out_X3_takeItemOut : GoodIn wsX11_out (wsV RX11 90 RX3 yX3_takeItemOut wsX3_takeItemOut) := goodIn_app (goodIn_of _ (by decide +kernel)) ggX11_out_X3_takeItemOut
set_option maxRecDepth 20000 in
theorem ggX11_out_X11_answer : GoodIn wsX11_out wsX11_answer := goodIn_r _ [156, 157, 158, 159, 160, 161] (by decide +kernel) (by decide +kernel)
set_option maxRecDepth 20000 in
theorem gX11_out_X11_answer : GoodIn wsX11_out (wsV RX11 28 RX11 yX11_answer wsX11_answer) := goodIn_app (goodIn_of _ (by decide +kernel)) ggX11_out_X11_answer
theorem dX11_out_0 : decode cX11_out 0 = .ok (.aload_n 0, 1) := by decide +kernel
theorem dX11_out_1 : decode cX11_out 1 = .ok (.aload_n 0, 1) := by decide +kernel
theorem dX11_out_2 : decode cX11_out 2 = .ok (.getfield 15, 3) := by decide +kernel
theorem dX11_out_5 : decode cX11_out 5 = .ok (.aload_n 0, 1) := by decide +kernel
theorem dX11_out_6 : decode cX11_out 6 = .ok (.getfield 15, 3) := by decide +kernel
theorem dX11_out_9 : decode cX11_out 9 = .ok (.iload_n 1, 1) := by decide +kernel
theorem dX11_out_10 : decode cX11_out 10 = .ok (.invokevirtual 65, 3) := by decide +kernel
theorem dX11_out_13 : decode cX11_out 13 = .ok (.iload_n 2, 1) := by decide +kernel
theorem dX11_out_14 : decode cX11_out 14 = .ok (.iload_n 3, 1) := by decide +kernel
theorem dX11_out_15 : decode cX11_out 15 = .ok (.invokevirtual 90, 3) := by decide +kernel
theorem dX11_out_18 : decode cX11_out 18 = .ok (.invokevirtual 28, 3) := by decide +kernel
theorem dX11_out_21 : decode cX11_out 21 = .ok (.ireturn, 1) := by decide +kernel
set_option maxRecDepth 20000 in
theorem ggX11_forfeit_X3_findTicket : GoodIn wsX11_forfeit wsX3_findTicket := goodIn_r _ [6, 7, 8, 75, 76, 77, 78, 79, 80, 81, 82, 83] (by decide +kernel) (by decide +kernel)
set_option maxRecDepth 20000 in
theorem gX11_forfeit_X3_findTicket : GoodIn wsX11_forfeit (wsV RX11 65 RX3 yX3_findTicket wsX3_findTicket) := goodIn_app (goodIn_of _ (by decide +kernel)) ggX11_forfeit_X3_findTicket
set_option maxRecDepth 20000 in
theorem ggX11_forfeit_X3_makeForfeit : GoodIn wsX11_forfeit wsX3_makeForfeit := goodIn_r _ [12, 13, 14, 15, 16, 17, 18, 19, 20, 21, 22, 23, 24, 25, 26, 27, 28, 29, 30, 31, 32, 33, 34, 35, 36, 37, 38, 39, 40, 41, 42, 43, 44, 45, 46, 47, 48, 49, 50, 51, 52, 53, 54, 55, 56, 57, 58, 59, 60, 61, 62, 63, 64, 75, 76, 77, 78, 79, 80, 81, 82, 83, 84, 85, 86, 87, 88, 89, 90, 91, 92, 93, 94, 95, 96, 97, 98, 99, 100, 101, 102, 103, 104, 105, 106, 107, 108] (by decide +kernel) (by decide +kernel)
set_option maxRecDepth 20000 in
theorem gX11_forfeit_X3_makeForfeit : GoodIn wsX11_forfeit (wsV RX11 93 RX3 yX3_makeForfeit wsX3_makeForfeit) := goodIn_app (goodIn_of _ (by decide +kernel)) ggX11_forfeit_X3_makeForfeit
set_option maxRecDepth 20000 in
theorem ggX11_forfeit_X11_answer : GoodIn wsX11_forfeit wsX11_answer := goodIn_r _ [69, 70, 71, 72, 73, 74] (by decide +kernel) (by decide +kernel)
set_option maxRecDepth 20000 in
theorem gX11_forfeit_X11_answer : GoodIn wsX11_forfeit (wsV RX11 28 RX11 yX11_answer wsX11_answer) := goodIn_app (goodIn_of _ (by decide +kernel)) ggX11_forfeit_X11_answer
theorem dX11_forfeit_0 : decode cX11_forfeit 0 = .ok (.aload_n 0, 1) := by decide +kernel
theorem dX11_forfeit_1 : decode cX11_forfeit 1 = .ok (.aload_n 0, 1) := by decide +kernel
theorem dX11_forfeit_2 : decode cX11_forfeit 2 = .ok (.getfield 15, 3) := by decide +kernel
theorem dX11_forfeit_5 : decode cX11_forfeit 5 = .ok (.aload_n 0, 1) := by decide +kernel
theorem dX11_forfeit_6 : decode cX11_forfeit 6 = .ok (.getfield 15, 3) := by decide +kernel
theorem dX11_forfeit_9 : decode cX11_forfeit 9 = .ok (.iload_n 1, 1) := by decide +kernel
theorem dX11_forfeit_10 : decode cX11_forfeit 10 = .ok (.invokevirtual 65, 3) := by decide +kernel
theorem dX11_forfeit_13 : decode cX11_forfeit 13 = .ok (.invokevirtual 93, 3) := by decide +kernel
theorem dX11_forfeit_16 : decode cX11_forfeit 16 = .ok (.invokevirtual 28, 3) := by decide +kernel
theorem dX11_forfeit_19 : decode cX11_forfeit 19 = .ok (.ireturn, 1) := by decide +kernel
set_option maxRecDepth 20000 in
theorem ggX11_bid_X3_findTicket : GoodIn wsX11_bid wsX3_findTicket := goodIn_r _ [6, 7, 8, 41, 42, 43, 44, 45, 46, 47, 48, 49] (by decide +kernel) (by decide +kernel)
set_option maxRecDepth 20000 in
theorem gX11_bid_X3_findTicket : GoodIn wsX11_bid (wsV RX11 65 RX3 yX3_findTicket wsX3_findTicket) := goodIn_app (goodIn_of _ (by decide +kernel)) ggX11_bid_X3_findTicket
set_option maxRecDepth 20000 in
theorem ggX11_bid_X3_hearBid : GoodIn wsX11_bid wsX3_hearBid := goodIn_r _ [12, 13, 14, 15, 16, 17, 18, 19, 20, 21, 22, 23, 24, 25, 26, 27, 28, 29, 30, 50, 51, 52, 53, 54, 55, 56, 57, 58, 59, 60, 61, 62, 63, 64, 65, 66, 67, 68] (by decide +kernel) (by decide +kernel)
set_option maxRecDepth 20000 in
theorem gX11_bid_X3_hearBid : GoodIn wsX11_bid (wsV RX11 96 RX3 yX3_hearBid wsX3_hearBid) := goodIn_app (goodIn_of _ (by decide +kernel)) ggX11_bid_X3_hearBid
set_option maxRecDepth 20000 in
theorem ggX11_bid_X11_answer : GoodIn wsX11_bid wsX11_answer := goodIn_r _ [35, 36, 37, 38, 39, 40] (by decide +kernel) (by decide +kernel)
set_option maxRecDepth 20000 in
theorem gX11_bid_X11_answer : GoodIn wsX11_bid (wsV RX11 28 RX11 yX11_answer wsX11_answer) := goodIn_app (goodIn_of _ (by decide +kernel)) ggX11_bid_X11_answer
theorem dX11_bid_0 : decode cX11_bid 0 = .ok (.aload_n 0, 1) := by decide +kernel
theorem dX11_bid_1 : decode cX11_bid 1 = .ok (.aload_n 0, 1) := by decide +kernel
theorem dX11_bid_2 : decode cX11_bid 2 = .ok (.getfield 15, 3) := by decide +kernel
theorem dX11_bid_5 : decode cX11_bid 5 = .ok (.aload_n 0, 1) := by decide +kernel
theorem dX11_bid_6 : decode cX11_bid 6 = .ok (.getfield 15, 3) := by decide +kernel
theorem dX11_bid_9 : decode cX11_bid 9 = .ok (.iload_n 1, 1) := by decide +kernel
theorem dX11_bid_10 : decode cX11_bid 10 = .ok (.invokevirtual 65, 3) := by decide +kernel
theorem dX11_bid_13 : decode cX11_bid 13 = .ok (.iload_n 2, 1) := by decide +kernel
theorem dX11_bid_14 : decode cX11_bid 14 = .ok (.invokevirtual 96, 3) := by decide +kernel
theorem dX11_bid_17 : decode cX11_bid 17 = .ok (.invokevirtual 28, 3) := by decide +kernel
theorem dX11_bid_20 : decode cX11_bid 20 = .ok (.ireturn, 1) := by decide +kernel
set_option maxRecDepth 20000 in
theorem ggX11_sale_X3_findTicket : GoodIn wsX11_sale wsX3_findTicket := goodIn_r _ [6, 7, 8, 109, 110, 111, 112, 113, 114, 115, 116, 117] (by decide +kernel) (by decide +kernel)
set_option maxRecDepth 20000 in
theorem gX11_sale_X3_findTicket : GoodIn wsX11_sale (wsV RX11 65 RX3 yX3_findTicket wsX3_findTicket) := goodIn_app (goodIn_of _ (by decide +kernel)) ggX11_sale_X3_findTicket
set_option maxRecDepth 20000 in
theorem ggX11_sale_X3_sellPledge : GoodIn wsX11_sale wsX3_sellPledge := goodIn_r _ [12, 13, 14, 15, 16, 17, 18, 19, 20, 21, 22, 23, 24, 25, 26, 27, 28, 29, 30, 31, 32, 33, 34, 35, 36, 37, 38, 39, 40, 41, 42, 43, 44, 45, 46, 47, 48, 49, 50, 5, 51, 52, 53, 54, 55, 56, 57, 58, 59, 60, 61, 62, 63, 64, 65, 66, 67, 68, 69, 70, 71, 72, 73, 74, 75, 76, 77, 78, 79, 80, 81, 82, 83, 84, 85, 86, 87, 88, 89, 90, 91, 92, 93, 94, 95, 96, 97, 98, 99, 118, 119, 120, 121, 122, 123, 124, 125, 126, 127, 128, 129, 130, 131, 132, 133, 134, 135, 136, 109, 110, 111, 112, 113, 114, 115, 116, 117, 137, 138, 139, 140, 141, 142, 143] (by decide +kernel) (by decide +kernel)
set_option maxRecDepth 20000 in
theorem gX11_sale_X3_sellPledge : GoodIn wsX11_sale (wsV RX11 99 RX3 yX3_sellPledge wsX3_sellPledge) := goodIn_app (goodIn_of _ (by decide +kernel)) ggX11_sale_X3_sellPledge
set_option maxRecDepth 20000 in
theorem ggX11_sale_X11_answer : GoodIn wsX11_sale wsX11_answer := goodIn_r _ [103, 104, 105, 106, 107, 108] (by decide +kernel) (by decide +kernel)
set_option maxRecDepth 20000 in
theorem gX11_sale_X11_answer : GoodIn wsX11_sale (wsV RX11 28 RX11 yX11_answer wsX11_answer) := goodIn_app (goodIn_of _ (by decide +kernel)) ggX11_sale_X11_answer
theorem dX11_sale_0 : decode cX11_sale 0 = .ok (.aload_n 0, 1) := by decide +kernel
theorem dX11_sale_1 : decode cX11_sale 1 = .ok (.aload_n 0, 1) := by decide +kernel
theorem dX11_sale_2 : decode cX11_sale 2 = .ok (.getfield 15, 3) := by decide +kernel
theorem dX11_sale_5 : decode cX11_sale 5 = .ok (.aload_n 0, 1) := by decide +kernel
theorem dX11_sale_6 : decode cX11_sale 6 = .ok (.getfield 15, 3) := by decide +kernel
theorem dX11_sale_9 : decode cX11_sale 9 = .ok (.iload_n 1, 1) := by decide +kernel
theorem dX11_sale_10 : decode cX11_sale 10 = .ok (.invokevirtual 65, 3) := by decide +kernel
theorem dX11_sale_13 : decode cX11_sale 13 = .ok (.invokevirtual 99, 3) := by decide +kernel
theorem dX11_sale_16 : decode cX11_sale 16 = .ok (.invokevirtual 28, 3) := by decide +kernel
theorem dX11_sale_19 : decode cX11_sale 19 = .ok (.ireturn, 1) := by decide +kernel
set_option maxRecDepth 20000 in
theorem ggX11_fetch_X3_findTicket : GoodIn wsX11_fetch wsX3_findTicket := goodIn_r _ [6, 7, 8, 78, 79, 80, 81, 82, 83, 84, 85, 86] (by decide +kernel) (by decide +kernel)
set_option maxRecDepth 20000 in
theorem gX11_fetch_X3_findTicket : GoodIn wsX11_fetch (wsV RX11 65 RX3 yX3_findTicket wsX3_findTicket) := goodIn_app (goodIn_of _ (by decide +kernel)) ggX11_fetch_X3_findTicket
set_option maxRecDepth 20000 in
theorem ggX11_fetch_X3_handOver : GoodIn wsX11_fetch wsX3_handOver := goodIn_r _ [12, 13, 14, 15, 16, 17, 18, 19, 20, 21, 22, 23, 24, 25, 26, 27, 28, 29, 30, 31, 32, 33, 34, 35, 36, 37, 38, 39, 40, 41, 42, 43, 44, 45, 46, 47, 5, 48, 49, 50, 51, 52, 53, 54, 55, 56, 57, 58, 59, 60, 61, 62, 63, 64, 65, 66, 67, 87, 88, 89, 90, 91, 92, 93, 94, 95, 96, 97, 98, 99, 100, 101, 102, 103, 104, 105, 78, 79, 80, 81, 82, 83, 84, 85, 86, 106] (by decide +kernel) (by decide +kernel)
set_option maxRecDepth 20000 in
theorem gX11_fetch_X3_handOver : GoodIn wsX11_fetch (wsV RX11 102 RX3 yX3_handOver wsX3_handOver) := goodIn_app (goodIn_of _ (by decide +kernel)) ggX11_fetch_X3_handOver
set_option maxRecDepth 20000 in
theorem ggX11_fetch_X11_answer : GoodIn wsX11_fetch wsX11_answer := goodIn_r _ [72, 73, 74, 75, 76, 77] (by decide +kernel) (by decide +kernel)
set_option maxRecDepth 20000 in
theorem gX11_fetch_X11_answer : GoodIn wsX11_fetch (wsV RX11 28 RX11 yX11_answer wsX11_answer) := goodIn_app (goodIn_of _ (by decide +kernel)) ggX11_fetch_X11_answer
theorem dX11_fetch_0 : decode cX11_fetch 0 = .ok (.aload_n 0, 1) := by decide +kernel
theorem dX11_fetch_1 : decode cX11_fetch 1 = .ok (.aload_n 0, 1) := by decide +kernel
theorem dX11_fetch_2 : decode cX11_fetch 2 = .ok (.getfield 15, 3) := by decide +kernel
theorem dX11_fetch_5 : decode cX11_fetch 5 = .ok (.aload_n 0, 1) := by decide +kernel
theorem dX11_fetch_6 : decode cX11_fetch 6 = .ok (.getfield 15, 3) := by decide +kernel
theorem dX11_fetch_9 : decode cX11_fetch 9 = .ok (.iload_n 1, 1) := by decide +kernel
theorem dX11_fetch_10 : decode cX11_fetch 10 = .ok (.invokevirtual 65, 3) := by decide +kernel
theorem dX11_fetch_13 : decode cX11_fetch 13 = .ok (.iload_n 2, 1) := by decide +kernel
theorem dX11_fetch_14 : decode cX11_fetch 14 = .ok (.invokevirtual 102, 3) := by decide +kernel
theorem dX11_fetch_17 : decode cX11_fetch 17 = .ok (.invokevirtual 28, 3) := by decide +kernel
theorem dX11_fetch_20 : decode cX11_fetch 20 = .ok (.ireturn, 1) := by decide +kernel
set_option maxRecDepth 20000 in
theorem ggX11_claim_X3_findTicket : GoodIn wsX11_claim wsX3_findTicket := goodIn_r _ [6, 7, 8, 37, 38, 39, 40, 41, 42, 43, 44, 45] (by decide +kernel) (by decide +kernel)
set_option maxRecDepth 20000 in
theorem gX11_claim_X3_findTicket : GoodIn wsX11_claim (wsV RX11 65 RX3 yX3_findTicket wsX3_findTicket) := goodIn_app (goodIn_of _ (by decide +kernel)) ggX11_claim_X3_findTicket
set_option maxRecDepth 20000 in
theorem ggX11_claim_X3_raiseClaim : GoodIn wsX11_claim wsX3_raiseClaim := goodIn_r _ [12, 13, 14, 15, 16, 17, 18, 19, 20, 21, 22, 23, 24, 25, 26, 37, 38, 39, 40, 41, 42, 43, 44, 45, 46, 47, 48, 49, 50, 51, 52, 53, 54, 55, 56, 57, 58, 59, 60, 61, 62, 63, 64] (by decide +kernel) (by decide +kernel)
set_option maxRecDepth 20000 in
theorem gX11_claim_X3_raiseClaim : GoodIn wsX11_claim (wsV RX11 105 RX3 yX3_raiseClaim wsX3_raiseClaim) := goodIn_app (goodIn_of _ (by decide +kernel)) ggX11_claim_X3_raiseClaim
set_option maxRecDepth 20000 in
theorem ggX11_claim_X11_answer : GoodIn wsX11_claim wsX11_answer := goodIn_r _ [31, 32, 33, 34, 35, 36] (by decide +kernel) (by decide +kernel)
set_option maxRecDepth 20000 in
theorem gX11_claim_X11_answer : GoodIn wsX11_claim (wsV RX11 28 RX11 yX11_answer wsX11_answer) := goodIn_app (goodIn_of _ (by decide +kernel)) ggX11_claim_X11_answer
theorem dX11_claim_0 : decode cX11_claim 0 = .ok (.aload_n 0, 1) := by decide +kernel
theorem dX11_claim_1 : decode cX11_claim 1 = .ok (.aload_n 0, 1) := by decide +kernel
theorem dX11_claim_2 : decode cX11_claim 2 = .ok (.getfield 15, 3) := by decide +kernel
theorem dX11_claim_5 : decode cX11_claim 5 = .ok (.aload_n 0, 1) := by decide +kernel
theorem dX11_claim_6 : decode cX11_claim 6 = .ok (.getfield 15, 3) := by decide +kernel
theorem dX11_claim_9 : decode cX11_claim 9 = .ok (.iload_n 1, 1) := by decide +kernel
theorem dX11_claim_10 : decode cX11_claim 10 = .ok (.invokevirtual 65, 3) := by decide +kernel
theorem dX11_claim_13 : decode cX11_claim 13 = .ok (.invokevirtual 105, 3) := by decide +kernel
theorem dX11_claim_16 : decode cX11_claim 16 = .ok (.invokevirtual 28, 3) := by decide +kernel
theorem dX11_claim_19 : decode cX11_claim 19 = .ok (.ireturn, 1) := by decide +kernel
set_option maxRecDepth 20000 in
theorem ggX11_drop_X3_findTicket : GoodIn wsX11_drop wsX3_findTicket := goodIn_r _ [6, 7, 8, 66, 67, 68, 69, 70, 71, 72, 73, 74] (by decide +kernel) (by decide +kernel)
set_option maxRecDepth 20000 in
theorem gX11_drop_X3_findTicket : GoodIn wsX11_drop (wsV RX11 65 RX3 yX3_findTicket wsX3_findTicket) := goodIn_app (goodIn_of _ (by decide +kernel)) ggX11_drop_X3_findTicket
set_option maxRecDepth 20000 in
theorem ggX11_drop_X3_dropClaim : GoodIn wsX11_drop wsX3_dropClaim := goodIn_r _ [12, 13, 14, 15, 16, 17, 5, 18, 19, 20, 21, 22, 23, 24, 25, 26, 27, 28, 29, 30, 31, 32, 33, 34, 35, 36, 37, 38, 39, 40, 41, 42, 43, 44, 45, 46, 47, 48, 49, 50, 51, 52, 53, 54, 55, 66, 67, 68, 69, 70, 71, 72, 73, 74, 75, 76, 77, 78, 79, 80, 81, 82, 83, 84, 85, 86, 87, 88, 89, 90, 91, 92, 93, 94, 95, 96, 97, 98, 99] (by decide +kernel) (by decide +kernel)
set_option maxRecDepth 20000 in
theorem gX11_drop_X3_dropClaim : GoodIn wsX11_drop (wsV RX11 108 RX3 yX3_dropClaim wsX3_dropClaim) := goodIn_app (goodIn_of _ (by decide +kernel)) ggX11_drop_X3_dropClaim
set_option maxRecDepth 20000 in
theorem ggX11_drop_X11_answer : GoodIn wsX11_drop wsX11_answer := goodIn_r _ [60, 61, 62, 63, 64, 65] (by decide +kernel) (by decide +kernel)
set_option maxRecDepth 20000 in
theorem gX11_drop_X11_answer : GoodIn wsX11_drop (wsV RX11 28 RX11 yX11_answer wsX11_answer) := goodIn_app (goodIn_of _ (by decide +kernel)) ggX11_drop_X11_answer
theorem dX11_drop_0 : decode cX11_drop 0 = .ok (.aload_n 0, 1) := by decide +kernel
theorem dX11_drop_1 : decode cX11_drop 1 = .ok (.aload_n 0, 1) := by decide +kernel
theorem dX11_drop_2 : decode cX11_drop 2 = .ok (.getfield 15, 3) := by decide +kernel
theorem dX11_drop_5 : decode cX11_drop 5 = .ok (.aload_n 0, 1) := by decide +kernel
theorem dX11_drop_6 : decode cX11_drop 6 = .ok (.getfield 15, 3) := by decide +kernel
theorem dX11_drop_9 : decode cX11_drop 9 = .ok (.iload_n 1, 1) := by decide +kernel
theorem dX11_drop_10 : decode cX11_drop 10 = .ok (.invokevirtual 65, 3) := by decide +kernel
theorem dX11_drop_13 : decode cX11_drop 13 = .ok (.invokevirtual 108, 3) := by decide +kernel
theorem dX11_drop_16 : decode cX11_drop 16 = .ok (.invokevirtual 28, 3) := by decide +kernel
theorem dX11_drop_19 : decode cX11_drop 19 = .ok (.ireturn, 1) := by decide +kernel
set_option maxRecDepth 20000 in
theorem ggX11_prove_X3_findTicket : GoodIn wsX11_prove wsX3_findTicket := goodIn_r _ [6, 7, 8, 119, 120, 121, 122, 123, 124, 125, 126, 127] (by decide +kernel) (by decide +kernel)
set_option maxRecDepth 20000 in
theorem gX11_prove_X3_findTicket : GoodIn wsX11_prove (wsV RX11 65 RX3 yX3_findTicket wsX3_findTicket) := goodIn_app (goodIn_of _ (by decide +kernel)) ggX11_prove_X3_findTicket
set_option maxRecDepth 20000 in
theorem ggX11_prove_X3_proveClaim : GoodIn wsX11_prove wsX3_proveClaim := goodIn_r _ [12, 13, 14, 15, 16, 5, 17, 18, 19, 20, 21, 22, 23, 24, 25, 26, 27, 28, 29, 30, 31, 32, 33, 34, 35, 36, 37, 38, 39, 40, 41, 42, 43, 44, 45, 46, 47, 48, 49, 50, 51, 52, 53, 54, 55, 56, 57, 58, 59, 60, 61, 62, 63, 64, 65, 66, 67, 68, 69, 70, 71, 72, 73, 74, 75, 76, 77, 78, 79, 80, 81, 82, 83, 84, 85, 86, 87, 88, 89, 90, 91, 92, 93, 94, 95, 96, 97, 98, 99, 100, 101, 102, 103, 104, 105, 106, 107, 108, 109, 119, 120, 121, 122, 123, 124, 125, 126, 127, 128, 129, 130, 131, 132, 133, 134, 135, 136, 137, 138, 139, 140, 141, 142, 143, 144, 145, 146, 147, 148, 149, 150, 151, 152, 153] (by decide +kernel) (by decide +kernel)
set_option maxRecDepth 20000 in
theorem gX11_prove_X3_proveClaim : GoodIn wsX11_prove (wsV RX11 111 RX3 yX3_proveClaim wsX3_proveClaim) := goodIn_app (goodIn_of _ (by decide +kernel)) ggX11_prove_X3_proveClaim
set_option maxRecDepth 20000 in
theorem ggX11_prove_X11_answer : GoodIn wsX11_prove wsX11_answer := goodIn_r _ [113, 114, 115, 116, 117, 118] (by decide +kernel) (by decide +kernel)
set_option maxRecDepth 20000 in
theorem gX11_prove_X11_answer : GoodIn wsX11_prove (wsV RX11 28 RX11 yX11_answer wsX11_answer) := goodIn_app (goodIn_of _ (by decide +kernel)) ggX11_prove_X11_answer
theorem dX11_prove_0 : decode cX11_prove 0 = .ok (.aload_n 0, 1) := by decide +kernel
theorem dX11_prove_1 : decode cX11_prove 1 = .ok (.aload_n 0, 1) := by decide +kernel
theorem dX11_prove_2 : decode cX11_prove 2 = .ok (.getfield 15, 3) := by decide +kernel
theorem dX11_prove_5 : decode cX11_prove 5 = .ok (.aload_n 0, 1) := by decide +kernel
theorem dX11_prove_6 : decode cX11_prove 6 = .ok (.getfield 15, 3) := by decide +kernel
theorem dX11_prove_9 : decode cX11_prove 9 = .ok (.iload_n 1, 1) := by decide +kernel
theorem dX11_prove_10 : decode cX11_prove 10 = .ok (.invokevirtual 65, 3) := by decide +kernel
theorem dX11_prove_13 : decode cX11_prove 13 = .ok (.invokevirtual 111, 3) := by decide +kernel
theorem dX11_prove_16 : decode cX11_prove 16 = .ok (.invokevirtual 28, 3) := by decide +kernel
theorem dX11_prove_19 : decode cX11_prove 19 = .ok (.ireturn, 1) := by decide +kernel
set_option maxRecDepth 20000 in
theorem ggX11_image_X3_become : GoodIn wsX11_image wsX3_become := goodIn_r _ [8, 9, 10, 11, 12, 13, 14, 15, 16, 17, 18, 19, 20, 21, 22, 23, 7, 24, 25, 26, 27, 28, 29, 30, 31, 32, 33, 34, 35, 36, 37, 38, 39, 40, 41, 42, 43, 44, 45, 46, 47, 48, 49, 50, 51, 52, 53, 54, 55, 56, 57, 58, 59, 60, 61, 62, 63, 64, 65, 66, 67, 68, 69, 70, 71, 82, 83, 84, 85, 86, 87, 88, 89, 90, 91, 92, 93, 94, 95, 96, 97, 98, 99, 100, 101, 102, 103, 104, 105, 106, 107, 108, 109, 110, 111, 112, 113, 114, 115] (by decide +kernel) (by decide +kernel)
set_option maxRecDepth 20000 in
theorem gX11_image_X3_become : GoodIn wsX11_image (wsV RX11 114 RX3 yX3_become wsX3_become) := goodIn_app (goodIn_of _ (by decide +kernel)) ggX11_image_X3_become
set_option maxRecDepth 20000 in
theorem ggX11_image_X11_answer : GoodIn wsX11_image wsX11_answer := goodIn_r _ [76, 77, 78, 79, 80, 81] (by decide +kernel) (by decide +kernel)
set_option maxRecDepth 20000 in
theorem gX11_image_X11_answer : GoodIn wsX11_image (wsV RX11 28 RX11 yX11_answer wsX11_answer) := goodIn_app (goodIn_of _ (by decide +kernel)) ggX11_image_X11_answer
theorem dX11_image_0 : decode cX11_image 0 = .ok (.aload_n 0, 1) := by decide +kernel
theorem dX11_image_1 : decode cX11_image 1 = .ok (.getfield 21, 3) := by decide +kernel
theorem dX11_image_4 : decode cX11_image 4 = .ok (.aload_n 0, 1) := by decide +kernel
theorem dX11_image_5 : decode cX11_image 5 = .ok (.getfield 15, 3) := by decide +kernel
theorem dX11_image_8 : decode cX11_image 8 = .ok (.invokevirtual 114, 3) := by decide +kernel
theorem dX11_image_11 : decode cX11_image 11 = .ok (.aload_n 0, 1) := by decide +kernel
theorem dX11_image_12 : decode cX11_image 12 = .ok (.iconst 1, 1) := by decide +kernel
theorem dX11_image_13 : decode cX11_image 13 = .ok (.putfield 118, 3) := by decide +kernel
theorem dX11_image_16 : decode cX11_image 16 = .ok (.aload_n 0, 1) := by decide +kernel
theorem dX11_image_17 : decode cX11_image 17 = .ok (.iconst 0, 1) := by decide +kernel
theorem dX11_image_18 : decode cX11_image 18 = .ok (.invokevirtual 28, 3) := by decide +kernel
theorem dX11_image_21 : decode cX11_image 21 = .ok (.ireturn, 1) := by decide +kernel
set_option maxRecDepth 20000 in
theorem ggX11_back_X11_answer : GoodIn wsX11_back wsX11_answer := goodIn_r _ [8, 9, 78, 79, 80, 81] (by decide +kernel) (by decide +kernel)
set_option maxRecDepth 20000 in
theorem gX11_back_X11_answer : GoodIn wsX11_back (wsV RX11 28 RX11 yX11_answer wsX11_answer) := goodIn_app (goodIn_of _ (by decide +kernel)) ggX11_back_X11_answer
set_option maxRecDepth 20000 in
theorem ggX11_back_X3_become : GoodIn wsX11_back wsX3_become := goodIn_r _ [14, 15, 16, 17, 18, 19, 20, 21, 22, 23, 24, 25, 26, 27, 28, 29, 13, 30, 31, 32, 33, 34, 35, 36, 37, 38, 39, 40, 41, 42, 43, 44, 45, 46, 47, 48, 49, 50, 51, 52, 53, 54, 55, 56, 57, 58, 59, 60, 61, 62, 63, 64, 65, 66, 67, 68, 69, 70, 71, 72, 73, 74, 75, 76, 77, 82, 83, 84, 85, 86, 87, 88, 89, 90, 91, 92, 93, 94, 95, 96, 97, 98, 99, 100, 101, 102, 103, 104, 105, 106, 107, 108, 109, 110, 111, 112, 113, 114, 115] (by decide +kernel) (by decide +kernel)
set_option maxRecDepth 20000 in
theorem gX11_back_X3_become : GoodIn wsX11_back (wsV RX11 114 RX3 yX3_become wsX3_become) := goodIn_app (goodIn_of _ (by decide +kernel)) ggX11_back_X3_become
theorem dX11_back_0 : decode cX11_back 0 = .ok (.aload_n 0, 1) := by decide +kernel
theorem dX11_back_1 : decode cX11_back 1 = .ok (.getfield 118, 3) := by decide +kernel
theorem dX11_back_4 : decode cX11_back 4 = .ok (.ifCond .ne 10, 3) := by decide +kernel
theorem dX11_back_7 : decode cX11_back 7 = .ok (.aload_n 0, 1) := by decide +kernel
theorem dX11_back_8 : decode cX11_back 8 = .ok (.bipush (-2), 2) := by decide +kernel
theorem dX11_back_10 : decode cX11_back 10 = .ok (.invokevirtual 28, 3) := by decide +kernel
theorem dX11_back_13 : decode cX11_back 13 = .ok (.ireturn, 1) := by decide +kernel
theorem dX11_back_14 : decode cX11_back 14 = .ok (.aload_n 0, 1) := by decide +kernel
theorem dX11_back_15 : decode cX11_back 15 = .ok (.getfield 15, 3) := by decide +kernel
theorem dX11_back_18 : decode cX11_back 18 = .ok (.aload_n 0, 1) := by decide +kernel
theorem dX11_back_19 : decode cX11_back 19 = .ok (.getfield 21, 3) := by decide +kernel
theorem dX11_back_22 : decode cX11_back 22 = .ok (.invokevirtual 114, 3) := by decide +kernel
theorem dX11_back_25 : decode cX11_back 25 = .ok (.aload_n 0, 1) := by decide +kernel
theorem dX11_back_26 : decode cX11_back 26 = .ok (.iconst 0, 1) := by decide +kernel
theorem dX11_back_27 : decode cX11_back 27 = .ok (.invokevirtual 28, 3) := by decide +kernel
theorem dX11_back_30 : decode cX11_back 30 = .ok (.ireturn, 1) := by decide +kernel
set_option maxRecDepth 20000 in
theorem ggX11_place_X3_lookAtPlace : GoodIn wsX11_place wsX3_lookAtPlace := goodIn_r _ [6, 7, 8, 9, 10, 11, 5, 12, 13, 14, 15, 16, 17, 18, 19, 20, 21, 22, 23, 24, 25, 26, 27, 28, 29, 30, 31, 32, 33, 34, 35, 36, 37, 38, 39, 40, 41, 42, 43, 44, 45, 46, 47, 48, 49, 50, 51, 52, 53, 54, 55, 56, 57, 58, 59, 60, 61, 62, 63, 64, 65, 66, 67, 68, 69, 70, 71, 72, 73, 74, 75, 76, 77, 78, 79, 80, 81, 82, 83, 84, 85, 86, 87, 88, 89, 90, 91, 92, 93, 94, 95, 96, 97, 98, 99, 100, 101, 102, 103, 104, 105, 106, 107, 108, 109, 110, 111, 112, 113, 114, 115, 116, 117, 118, 119, 120, 121, 122, 123, 124, 125, 126, 127, 128, 129, 130, 131, 132, 137, 138, 139, 140, 141, 142, 143, 144, 145, 146, 147, 148, 149, 150, 151, 152, 153, 154, 155, 156, 157, 158, 159, 160] (by decide +kernel) (by decide +kernel)
set_option maxRecDepth 20000 in
theorem gX11_place_X3_lookAtPlace : GoodIn wsX11_place (wsV RX11 122 RX3 yX3_lookAtPlace wsX3_lookAtPlace) := goodIn_app (goodIn_of _ (by decide +kernel)) ggX11_place_X3_lookAtPlace
theorem dX11_place_0 : decode cX11_place 0 = .ok (.aload_n 0, 1) := by decide +kernel
theorem dX11_place_1 : decode cX11_place 1 = .ok (.getfield 15, 3) := by decide +kernel
theorem dX11_place_4 : decode cX11_place 4 = .ok (.iload_n 1, 1) := by decide +kernel
theorem dX11_place_5 : decode cX11_place 5 = .ok (.iload_n 2, 1) := by decide +kernel
theorem dX11_place_6 : decode cX11_place 6 = .ok (.invokevirtual 122, 3) := by decide +kernel
theorem dX11_place_9 : decode cX11_place 9 = .ok (.lreturn, 1) := by decide +kernel
set_option maxRecDepth 20000 in
theorem ggX11_told_X3_findTicket : GoodIn wsX11_told wsX3_findTicket := goodIn_r _ [6, 7, 8, 97, 98, 99, 100, 101, 102, 103, 104, 105] (by decide +kernel) (by decide +kernel)
set_option maxRecDepth 20000 in
theorem gX11_told_X3_findTicket : GoodIn wsX11_told (wsV RX11 65 RX3 yX3_findTicket wsX3_findTicket) := goodIn_app (goodIn_of _ (by decide +kernel)) ggX11_told_X3_findTicket
set_option maxRecDepth 20000 in
theorem ggX11_told_X3_lookAtTicket : GoodIn wsX11_told wsX3_lookAtTicket := goodIn_r _ [12, 13, 14, 15, 16, 17, 18, 19, 20, 21, 22, 23, 24, 25, 26, 27, 28, 29, 30, 31, 32, 33, 34, 35, 36, 37, 38, 39, 40, 41, 42, 43, 44, 45, 46, 47, 48, 49, 50, 51, 52, 53, 54, 55, 56, 57, 58, 59, 60, 61, 62, 63, 64, 65, 66, 67, 68, 69, 70, 71, 72, 73, 74, 75, 76, 77, 78, 79, 80, 81, 82, 83, 84, 85, 86, 87, 88, 89, 90, 91, 92, 106, 107, 108, 109, 110, 111, 112, 113, 114, 115, 116, 117, 118, 119, 120, 121, 122, 123, 124, 125, 126, 127, 128, 129, 130, 97, 98, 99, 100, 101, 102, 103, 104, 105] (by decide +kernel) (by decide +kernel)
set_option maxRecDepth 20000 in
theorem gX11_told_X3_lookAtTicket : GoodIn wsX11_told (wsV RX11 126 RX3 yX3_lookAtTicket wsX3_lookAtTicket) := goodIn_app (goodIn_of _ (by decide +kernel)) ggX11_told_X3_lookAtTicket
theorem dX11_told_0 : decode cX11_told 0 = .ok (.aload_n 0, 1) := by decide +kernel
theorem dX11_told_1 : decode cX11_told 1 = .ok (.getfield 15, 3) := by decide +kernel
theorem dX11_told_4 : decode cX11_told 4 = .ok (.aload_n 0, 1) := by decide +kernel
theorem dX11_told_5 : decode cX11_told 5 = .ok (.getfield 15, 3) := by decide +kernel
theorem dX11_told_8 : decode cX11_told 8 = .ok (.iload_n 1, 1) := by decide +kernel
theorem dX11_told_9 : decode cX11_told 9 = .ok (.invokevirtual 65, 3) := by decide +kernel
theorem dX11_told_12 : decode cX11_told 12 = .ok (.iload_n 2, 1) := by decide +kernel
theorem dX11_told_13 : decode cX11_told 13 = .ok (.invokevirtual 126, 3) := by decide +kernel
theorem dX11_told_16 : decode cX11_told 16 = .ok (.ireturn, 1) := by decide +kernel
set_option maxRecDepth 20000 in
theorem ggX11_half_X3_latestHalf : GoodIn wsX11_half wsX3_latestHalf := goodIn_r _ [6, 7, 8, 9, 10, 11, 5, 12, 13, 18, 19, 20, 21, 22, 23, 24, 25, 26, 27, 28, 29, 30, 31, 32, 33, 34, 35, 36, 37, 38, 39, 40, 41, 42, 43, 44, 45] (by decide +kernel) (by decide +kernel)
set_option maxRecDepth 20000 in
theorem gX11_half_X3_latestHalf : GoodIn wsX11_half (wsV RX11 129 RX3 yX3_latestHalf wsX3_latestHalf) := goodIn_app (goodIn_of _ (by decide +kernel)) ggX11_half_X3_latestHalf
theorem dX11_half_0 : decode cX11_half 0 = .ok (.aload_n 0, 1) := by decide +kernel
theorem dX11_half_1 : decode cX11_half 1 = .ok (.getfield 15, 3) := by decide +kernel
theorem dX11_half_4 : decode cX11_half 4 = .ok (.invokevirtual 129, 3) := by decide +kernel
theorem dX11_half_7 : decode cX11_half 7 = .ok (.ireturn, 1) := by decide +kernel
set_option maxRecDepth 20000 in
theorem ggX11_sum_X3_sumOn : GoodIn wsX11_sum wsX3_sumOn := goodIn_r _ [6, 7, 8, 9, 10, 11, 12, 13, 5, 14, 15, 16, 17, 18, 19, 20, 21, 22, 23, 24, 25, 26, 27, 28, 29, 30, 31, 32, 33, 34, 35, 36, 37, 38, 39, 40, 41, 42, 43, 44, 45, 46, 47, 48, 49, 50, 51, 52, 53, 54, 55, 56, 57, 58, 59, 60, 61, 62, 63, 64, 69, 70, 71, 72, 73, 74, 75, 76, 77, 78, 79, 80, 81, 82, 83, 84, 85, 86, 87, 88, 89, 90, 91, 92, 93, 94, 95, 96, 97] (by decide +kernel) (by decide +kernel)
set_option maxRecDepth 20000 in
theorem gX11_sum_X3_sumOn : GoodIn wsX11_sum (wsV RX11 137 RX3 yX3_sumOn wsX3_sumOn) := goodIn_app (goodIn_of _ (by decide +kernel)) ggX11_sum_X3_sumOn
theorem dX11_sum_0 : decode cX11_sum 0 = .ok (.aload_n 0, 1) := by decide +kernel
theorem dX11_sum_1 : decode cX11_sum 1 = .ok (.getfield 15, 3) := by decide +kernel
theorem dX11_sum_4 : decode cX11_sum 4 = .ok (.aload_n 0, 1) := by decide +kernel
theorem dX11_sum_5 : decode cX11_sum 5 = .ok (.getfield 15, 3) := by decide +kernel
theorem dX11_sum_8 : decode cX11_sum 8 = .ok (.getfield 133, 3) := by decide +kernel
theorem dX11_sum_11 : decode cX11_sum 11 = .ok (.iload_n 1, 1) := by decide +kernel
theorem dX11_sum_12 : decode cX11_sum 12 = .ok (.invokevirtual 137, 3) := by decide +kernel
theorem dX11_sum_15 : decode cX11_sum 15 = .ok (.lreturn, 1) := by decide +kernel
set_option maxRecDepth 20000 in
theorem ggX11_as_X3_sumOn : GoodIn wsX11_as wsX3_sumOn := goodIn_r _ [6, 7, 8, 9, 10, 11, 12, 13, 5, 14, 15, 16, 17, 18, 19, 20, 21, 22, 23, 24, 25, 26, 27, 28, 29, 30, 31, 32, 33, 34, 35, 36, 37, 38, 39, 40, 41, 42, 43, 44, 45, 46, 47, 48, 49, 50, 51, 52, 53, 54, 55, 56, 57, 58, 59, 60, 61, 62, 63, 64, 69, 70, 71, 72, 73, 74, 75, 76, 77, 78, 79, 80, 81, 82, 83, 84, 85, 86, 87, 88, 89, 90, 91, 92, 93, 94, 95, 96, 97] (by decide +kernel) (by decide +kernel)
set_option maxRecDepth 20000 in
theorem gX11_as_X3_sumOn : GoodIn wsX11_as (wsV RX11 137 RX3 yX3_sumOn wsX3_sumOn) := goodIn_app (goodIn_of _ (by decide +kernel)) ggX11_as_X3_sumOn
theorem dX11_as_0 : decode cX11_as 0 = .ok (.aload_n 0, 1) := by decide +kernel
theorem dX11_as_1 : decode cX11_as 1 = .ok (.getfield 15, 3) := by decide +kernel
theorem dX11_as_4 : decode cX11_as 4 = .ok (.iload_n 1, 1) := by decide +kernel
theorem dX11_as_5 : decode cX11_as 5 = .ok (.iload_n 2, 1) := by decide +kernel
theorem dX11_as_6 : decode cX11_as 6 = .ok (.invokevirtual 137, 3) := by decide +kernel
theorem dX11_as_9 : decode cX11_as 9 = .ok (.lreturn, 1) := by decide +kernel
set_option maxRecDepth 20000 in
theorem ggX11_check_X3_countFaults : GoodIn wsX11_check wsX3_countFaults := goodIn_r _ [6, 7, 8, 9, 5, 10, 11, 12, 13, 14, 15, 16, 17, 18, 19, 20, 21, 22, 23, 24, 25, 26, 27, 28, 29, 30, 31, 32, 33, 34, 35, 36, 37, 38, 39, 40, 41, 42, 43, 44, 45, 46, 47, 48, 49, 50, 51, 52, 53, 54, 55, 56, 57, 58, 63, 64, 65, 66, 67, 68, 69, 70, 71, 72, 73, 74, 75, 76, 77, 78, 79, 80, 81, 82, 83, 84, 85, 86, 87, 88, 89, 90, 91] (by decide +kernel) (by decide +kernel)
set_option maxRecDepth 20000 in
theorem gX11_check_X3_countFaults : GoodIn wsX11_check (wsV RX11 140 RX3 yX3_countFaults wsX3_countFaults) := goodIn_app (goodIn_of _ (by decide +kernel)) ggX11_check_X3_countFaults
theorem dX11_check_0 : decode cX11_check 0 = .ok (.aload_n 0, 1) := by decide +kernel
theorem dX11_check_1 : decode cX11_check 1 = .ok (.getfield 15, 3) := by decide +kernel
theorem dX11_check_4 : decode cX11_check 4 = .ok (.invokevirtual 140, 3) := by decide +kernel
theorem dX11_check_7 : decode cX11_check 7 = .ok (.ireturn, 1) := by decide +kernel
theorem dX11_status_0 : decode cX11_status 0 = .ok (.aload_n 0, 1) := by decide +kernel
theorem dX11_status_1 : decode cX11_status 1 = .ok (.getfield 143, 3) := by decide +kernel
theorem dX11_status_4 : decode cX11_status 4 = .ok (.ireturn, 1) := by decide +kernel
theorem dX11_answer_0 : decode cX11_answer 0 = .ok (.aload_n 0, 1) := by decide +kernel
theorem dX11_answer_1 : decode cX11_answer 1 = .ok (.iload_n 1, 1) := by decide +kernel
theorem dX11_answer_2 : decode cX11_answer 2 = .ok (.putfield 143, 3) := by decide +kernel
theorem dX11_answer_5 : decode cX11_answer 5 = .ok (.iload_n 1, 1) := by decide +kernel
theorem dX11_answer_6 : decode cX11_answer 6 = .ok (.ireturn, 1) := by decide +kernel
theorem dX11_cutUp_0 : decode cX11_cutUp 0 = .ok (.iload_n 0, 1) := by decide +kernel
theorem dX11_cutUp_1 : decode cX11_cutUp 1 = .ok (.i2l, 1) := by decide +kernel
theorem dX11_cutUp_2 : decode cX11_cutUp 2 = .ok (.iload_n 1, 1) := by decide +kernel
theorem dX11_cutUp_3 : decode cX11_cutUp 3 = .ok (.i2l, 1) := by decide +kernel
theorem dX11_cutUp_4 : decode cX11_cutUp 4 = .ok (.lmul, 1) := by decide +kernel
theorem dX11_cutUp_5 : decode cX11_cutUp 5 = .ok (.ldc2_w 146, 3) := by decide +kernel
theorem dX11_cutUp_8 : decode cX11_cutUp 8 = .ok (.ladd, 1) := by decide +kernel
theorem dX11_cutUp_9 : decode cX11_cutUp 9 = .ok (.ldc2_w 148, 3) := by decide +kernel
theorem dX11_cutUp_12 : decode cX11_cutUp 12 = .ok (.ldiv, 1) := by decide +kernel
theorem dX11_cutUp_13 : decode cX11_cutUp 13 = .ok (.l2i, 1) := by decide +kernel
theorem dX11_cutUp_14 : decode cX11_cutUp 14 = .ok (.ireturn, 1) := by decide +kernel
