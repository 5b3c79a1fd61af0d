theorem dX3_findTicket_10 : decode cX3_findTicket 10 = .ok (.if_icmp .gt 14, 3) := by decide +kernel
theorem dX3_findTicket_13 : decode cX3_findTicket 13 = .ok (.aload_n 0, 1) := by decide +kernel
theorem dX3_findTicket_14 : decode cX3_findTicket 14 = .ok (.getfield 38, 3) := by decide +kernel
theorem dX3_findTicket_17 : decode cX3_findTicket 17 = .ok (.iload_n 1, 1) := by decide +kernel
theorem dX3_findTicket_18 : decode cX3_findTicket 18 = .ok (.iconst 1, 1) := by decide +kernel
theorem dX3_findTicket_19 : decode cX3_findTicket 19 = .ok (.isub, 1) := by decide +kernel
theorem dX3_findTicket_20 : decode cX3_findTicket 20 = .ok (.aaload, 1) := by decide +kernel
theorem dX3_findTicket_21 : decode cX3_findTicket 21 = .ok (.goto 4, 3) := by decide +kernel
theorem dX3_findTicket_24 : decode cX3_findTicket 24 = .ok (.aconst_null, 1) := by decide +kernel
theorem dX3_findTicket_25 : decode cX3_findTicket 25 = .ok (.areturn, 1) := by decide +kernel
set_option maxRecDepth 20000 in
theorem ggX3_findOpen_X3_findTicket : GoodIn wsX3_findOpen wsX3_findTicket := goodIn_r _ [5, 6, 7, 14, 15, 16, 17, 18, 19, 20, 21, 22] (by decide +kernel) (by decide +kernel)
set_option maxRecDepth 20000 in
theorem gX3_findOpen_X3_findTicket : GoodIn wsX3_findOpen (wsV RX3 233 RX3 yX3_findTicket wsX3_findTicket) := goodIn_app (goodIn_of _ (by decide +kernel)) ggX3_findOpen_X3_findTicket
set_option maxRecDepth 20000 in
theorem ggX3_findOpen_X9_isOpen : GoodIn wsX3_findOpen wsX9_isOpen := goodIn_r _ [12, 13, 23, 24, 25, 26, 27, 28, 29, 30, 31, 32, 33, 34, 35, 36, 37, 38, 39, 40, 41] (by decide +kernel) (by decide +kernel)
set_option maxRecDepth 20000 in
theorem gX3_findOpen_X9_isOpen : GoodIn wsX3_findOpen (wsV RX3 236 RX9 yX9_isOpen wsX9_isOpen) := goodIn_app (goodIn_of _ (by decide +kernel)) ggX3_findOpen_X9_isOpen
theorem dX3_findOpen_0 : decode cX3_findOpen 0 = .ok (.aload_n 0, 1) := by decide +kernel
theorem dX3_findOpen_1 : decode cX3_findOpen 1 = .ok (.iload_n 1, 1) := by decide +kernel
theorem dX3_findOpen_2 : decode cX3_findOpen 2 = .ok (.invokevirtual 233, 3) := by decide +kernel
theorem dX3_findOpen_5 : decode cX3_findOpen 5 = .ok (.astore_n 2, 1) := by decide +kernel
theorem dX3_findOpen_6 : decode cX3_findOpen 6 = .ok (.aload_n 2, 1) := by decide +kernel
theorem dX3_findOpen_7 : decode cX3_findOpen 7 = .ok (.ifnull 14, 3) := by decide +kernel
theorem dX3_findOpen_10 : decode cX3_findOpen 10 = .ok (.aload_n 2, 1) := by decide +kernel
theorem dX3_findOpen_11 : decode cX3_findOpen 11 = .ok (.invokevirtual 236, 3) := by decide +kernel
theorem dX3_findOpen_14 : decode cX3_findOpen 14 = .ok (.ifCond .eq 7, 3) := by decide +kernel
theorem dX3_findOpen_17 : decode cX3_findOpen 17 = .ok (.aload_n 2, 1) := by decide +kernel
theorem dX3_findOpen_18 : decode cX3_findOpen 18 = .ok (.goto 4, 3) := by decide +kernel
theorem dX3_findOpen_21 : decode cX3_findOpen 21 = .ok (.aconst_null, 1) := by decide +kernel
theorem dX3_findOpen_22 : decode cX3_findOpen 22 = .ok (.areturn, 1) := by decide +kernel
set_option maxRecDepth 20000 in
theorem ggX3_latestHalf_X3_findTicket : GoodIn wsX3_latestHalf wsX3_findTicket := goodIn_r _ [7, 1, 8, 9, 10, 11, 12, 13, 14, 15, 16, 17] (by decide +kernel) (by decide +kernel)
set_option maxRecDepth 20000 in
theorem gX3_latestHalf_X3_findTicket : GoodIn wsX3_latestHalf (wsV RX3 233 RX3 yX3_findTicket wsX3_findTicket) := goodIn_app (goodIn_of _ (by decide +kernel)) ggX3_latestHalf_X3_findTicket
theorem dX3_latestHalf_0 : decode cX3_latestHalf 0 = .ok (.aload_n 0, 1) := by decide +kernel
theorem dX3_latestHalf_1 : decode cX3_latestHalf 1 = .ok (.aload_n 0, 1) := by decide +kernel
theorem dX3_latestHalf_2 : decode cX3_latestHalf 2 = .ok (.getfield 59, 3) := by decide +kernel
theorem dX3_latestHalf_5 : decode cX3_latestHalf 5 = .ok (.invokevirtual 233, 3) := by decide +kernel
theorem dX3_latestHalf_8 : decode cX3_latestHalf 8 = .ok (.astore_n 1, 1) := by decide +kernel
theorem dX3_latestHalf_9 : decode cX3_latestHalf 9 = .ok (.aload_n 1, 1) := by decide +kernel
theorem dX3_latestHalf_10 : decode cX3_latestHalf 10 = .ok (.ifnonnull 7, 3) := by decide +kernel
theorem dX3_latestHalf_13 : decode cX3_latestHalf 13 = .ok (.iconst 0, 1) := by decide +kernel
theorem dX3_latestHalf_14 : decode cX3_latestHalf 14 = .ok (.goto 7, 3) := by decide +kernel
theorem dX3_latestHalf_17 : decode cX3_latestHalf 17 = .ok (.aload_n 1, 1) := by decide +kernel
theorem dX3_latestHalf_18 : decode cX3_latestHalf 18 = .ok (.getfield 224, 3) := by decide +kernel
theorem dX3_latestHalf_21 : decode cX3_latestHalf 21 = .ok (.ireturn, 1) := by decide +kernel
set_option maxRecDepth 20000 in
theorem ggX3_tearHalf_X9_isTorn : GoodIn wsX3_tearHalf wsX9_isTorn := goodIn_r _ [5, 6, 15, 16, 17, 18, 19, 20, 21, 22, 23, 24, 25, 26, 27, 28, 29, 30, 31, 32, 33] (by decide +kernel) (by decide +kernel)
set_option maxRecDepth 20000 in
theorem gX3_tearHalf_X9_isTorn : GoodIn wsX3_tearHalf (wsV RX3 239 RX9 yX9_isTorn wsX9_isTorn) := goodIn_app (goodIn_of _ (by decide +kernel)) ggX3_tearHalf_X9_isTorn
set_option maxRecDepth 20000 in
theorem ggX3_tearHalf_X9_tearAll : GoodIn wsX3_tearHalf wsX9_tearAll := goodIn_r _ [10, 6, 15, 16, 17, 18, 19, 20, 21, 22, 23, 24, 25, 26, 27, 28, 29, 30, 31, 32, 33] (by decide +kernel) (by decide +kernel)
set_option maxRecDepth 20000 in
theorem gX3_tearHalf_X9_tearAll : GoodIn wsX3_tearHalf (wsV RX3 242 RX9 yX9_tearAll wsX9_tearAll) := goodIn_app (goodIn_of _ (by decide +kernel)) ggX3_tearHalf_X9_tearAll
set_option maxRecDepth 20000 in
theorem ggX3_tearHalf_X9_tearAllButNumber : GoodIn wsX3_tearHalf wsX9_tearAllButNumber := goodIn_r _ [14, 6, 15, 16, 17, 18, 19, 20, 21, 22, 23, 24, 25, 26, 27, 28, 29, 30, 31, 32, 33] (by decide +kernel) (by decide +kernel)
set_option maxRecDepth 20000 in
theorem gX3_tearHalf_X9_tearAllButNumber : GoodIn wsX3_tearHalf (wsV RX3 245 RX9 yX9_tearAllButNumber wsX9_tearAllButNumber) := goodIn_app (goodIn_of _ (by decide +kernel)) ggX3_tearHalf_X9_tearAllButNumber
theorem dX3_tearHalf_0 : decode cX3_tearHalf 0 = .ok (.aload_n 1, 1) := by decide +kernel
theorem dX3_tearHalf_1 : decode cX3_tearHalf 1 = .ok (.ifnonnull 5, 3) := by decide +kernel
theorem dX3_tearHalf_4 : decode cX3_tearHalf 4 = .ok (.iconst (-1), 1) := by decide +kernel
theorem dX3_tearHalf_5 : decode cX3_tearHalf 5 = .ok (.ireturn, 1) := by decide +kernel
theorem dX3_tearHalf_6 : decode cX3_tearHalf 6 = .ok (.aload_n 1, 1) := by decide +kernel
theorem dX3_tearHalf_7 : decode cX3_tearHalf 7 = .ok (.invokevirtual 239, 3) := by decide +kernel
theorem dX3_tearHalf_10 : decode cX3_tearHalf 10 = .ok (.ifCond .eq 6, 3) := by decide +kernel
theorem dX3_tearHalf_13 : decode cX3_tearHalf 13 = .ok (.bipush (-2), 2) := by decide +kernel
theorem dX3_tearHalf_15 : decode cX3_tearHalf 15 = .ok (.ireturn, 1) := by decide +kernel
theorem dX3_tearHalf_16 : decode cX3_tearHalf 16 = .ok (.iload_n 2, 1) := by decide +kernel
theorem dX3_tearHalf_17 : decode cX3_tearHalf 17 = .ok (.ifCond .ne 9, 3) := by decide +kernel
theorem dX3_tearHalf_20 : decode cX3_tearHalf 20 = .ok (.aload_n 1, 1) := by decide +kernel
theorem dX3_tearHalf_21 : decode cX3_tearHalf 21 = .ok (.invokevirtual 242, 3) := by decide +kernel
theorem dX3_tearHalf_24 : decode cX3_tearHalf 24 = .ok (.iconst 0, 1) := by decide +kernel
theorem dX3_tearHalf_25 : decode cX3_tearHalf 25 = .ok (.ireturn, 1) := by decide +kernel
theorem dX3_tearHalf_26 : decode cX3_tearHalf 26 = .ok (.iload_n 2, 1) := by decide +kernel
theorem dX3_tearHalf_27 : decode cX3_tearHalf 27 = .ok (.iconst 1, 1) := by decide +kernel
theorem dX3_tearHalf_28 : decode cX3_tearHalf 28 = .ok (.if_icmp .ne 9, 3) := by decide +kernel
theorem dX3_tearHalf_31 : decode cX3_tearHalf 31 = .ok (.aload_n 1, 1) := by decide +kernel
theorem dX3_tearHalf_32 : decode cX3_tearHalf 32 = .ok (.invokevirtual 245, 3) := by decide +kernel
theorem dX3_tearHalf_35 : decode cX3_tearHalf 35 = .ok (.iconst 0, 1) := by decide +kernel
theorem dX3_tearHalf_36 : decode cX3_tearHalf 36 = .ok (.ireturn, 1) := by decide +kernel
theorem dX3_tearHalf_37 : decode cX3_tearHalf 37 = .ok (.bipush (-6), 2) := by decide +kernel
theorem dX3_tearHalf_39 : decode cX3_tearHalf 39 = .ok (.ireturn, 1) := by decide +kernel
set_option maxRecDepth 20000 in
theorem ggX3_hearOath_X9_isOpen : GoodIn wsX3_hearOath wsX9_isOpen := goodIn_r _ [7, 8, 18, 19, 20, 21, 22, 23, 24, 25, 26, 27, 28, 29, 30, 31, 32, 33, 34, 35, 36] (by decide +kernel) (by decide +kernel)
set_option maxRecDepth 20000 in
theorem gX3_hearOath_X9_isOpen : GoodIn wsX3_hearOath (wsV RX3 236 RX9 yX9_isOpen wsX9_isOpen) := goodIn_app (goodIn_of _ (by decide +kernel)) ggX3_hearOath_X9_isOpen
theorem dX3_hearOath_0 : decode cX3_hearOath 0 = .ok (.aload_n 1, 1) := by decide +kernel
theorem dX3_hearOath_1 : decode cX3_hearOath 1 = .ok (.ifnonnull 5, 3) := by decide +kernel
theorem dX3_hearOath_4 : decode cX3_hearOath 4 = .ok (.iconst (-1), 1) := by decide +kernel
theorem dX3_hearOath_5 : decode cX3_hearOath 5 = .ok (.ireturn, 1) := by decide +kernel
theorem dX3_hearOath_6 : decode cX3_hearOath 6 = .ok (.aload_n 1, 1) := by decide +kernel
theorem dX3_hearOath_7 : decode cX3_hearOath 7 = .ok (.invokevirtual 236, 3) := by decide +kernel
theorem dX3_hearOath_10 : decode cX3_hearOath 10 = .ok (.ifCond .ne 6, 3) := by decide +kernel
theorem dX3_hearOath_13 : decode cX3_hearOath 13 = .ok (.bipush (-2), 2) := by decide +kernel
theorem dX3_hearOath_15 : decode cX3_hearOath 15 = .ok (.ireturn, 1) := by decide +kernel
theorem dX3_hearOath_16 : decode cX3_hearOath 16 = .ok (.aload_n 1, 1) := by decide +kernel
theorem dX3_hearOath_17 : decode cX3_hearOath 17 = .ok (.aload_n 0, 1) := by decide +kernel
theorem dX3_hearOath_18 : decode cX3_hearOath 18 = .ok (.getfield 50, 3) := by decide +kernel
theorem dX3_hearOath_21 : decode cX3_hearOath 21 = .ok (.putfield 248, 3) := by decide +kernel
theorem dX3_hearOath_24 : decode cX3_hearOath 24 = .ok (.iconst 0, 1) := by decide +kernel
theorem dX3_hearOath_25 : decode cX3_hearOath 25 = .ok (.ireturn, 1) := by decide +kernel
set_option maxRecDepth 20000 in
theorem ggX3_payPart_X9_isHolders : GoodIn wsX3_payPart wsX9_isHolders := goodIn_r _ [14, 15, 16, 17, 18, 13, 19, 20, 93, 94, 95, 96, 97, 98, 99, 100, 101, 102, 103, 104, 105, 106, 107, 108, 109, 110, 111] (by decide +kernel) (by decide +kernel)
set_option maxRecDepth 20000 in
theorem gX3_payPart_X9_isHolders : GoodIn wsX3_payPart (wsV RX3 251 RX9 yX9_isHolders wsX9_isHolders) := goodIn_app (goodIn_of _ (by decide +kernel)) ggX3_payPart_X9_isHolders
set_option maxRecDepth 20000 in
theorem ggX3_payPart_X9_isRight : GoodIn wsX3_payPart wsX9_isRight := goodIn_r _ [24, 25, 26, 27, 28, 29, 30, 13, 31, 32, 93, 94, 95, 96, 97, 98, 99, 100, 101, 102, 103, 104, 105, 106, 107, 108, 109, 110, 111] (by decide +kernel) (by decide +kernel)
set_option maxRecDepth 20000 in
theorem gX3_payPart_X9_isRight : GoodIn wsX3_payPart (wsV RX3 254 RX9 yX9_isRight wsX9_isRight) := goodIn_app (goodIn_of _ (by decide +kernel)) ggX3_payPart_X9_isRight
set_option maxRecDepth 20000 in
theorem ggX3_payPart_X9_owed : GoodIn wsX3_payPart wsX9_owed := goodIn_r _ [36, 37, 38, 39, 93, 94, 95, 96, 97, 98, 99, 100, 101, 102, 103, 104, 105, 106, 107, 108, 109, 110, 111, 112, 113, 114, 115, 116, 117] (by decide +kernel) (by decide +kernel)
set_option maxRecDepth 20000 in
theorem gX3_payPart_X9_owed : GoodIn wsX3_payPart (wsV RX3 258 RX9 yX9_owed wsX9_owed) := goodIn_app (goodIn_of _ (by decide +kernel)) ggX3_payPart_X9_owed
set_option maxRecDepth 20000 in
theorem ggX3_payPart_X3_addRow : GoodIn wsX3_payPart wsX3_addRow := goodIn_r _ [44, 45, 46, 1, 47, 48, 49, 50, 51, 52, 5, 6, 7, 53, 54, 55, 56, 57, 58, 59, 60, 84, 85, 86, 87, 88, 89, 90, 91, 92, 118] (by decide +kernel) (by decide +kernel)
set_option maxRecDepth 20000 in
theorem gX3_payPart_X3_addRow : GoodIn wsX3_payPart (wsV RX3 104 RX3 yX3_addRow wsX3_addRow) := goodIn_app (goodIn_of _ (by decide +kernel)) ggX3_payPart_X3_addRow
set_option maxRecDepth 20000 in
theorem ggX3_payPart_X0_writeGrowing : GoodIn wsX3_payPart wsX0_writeGrowing := goodIn_r _ [63, 64, 65, 66, 67, 68, 69, 70, 71, 72, 73, 74, 75, 76, 77, 78, 79, 93, 94, 95, 96, 97, 98, 99, 100, 101, 102, 103, 104, 105, 106, 107, 108, 109, 110, 111, 112, 113, 114, 115, 116, 117] (by decide +kernel) (by decide +kernel)
set_option maxRecDepth 20000 in
theorem gX3_payPart_X0_writeGrowing : GoodIn wsX3_payPart (va_wsS RX3 218 yX0_writeGrowing wsX0_writeGrowing) := goodIn_app (goodIn_of _ (by decide +kernel)) ggX3_payPart_X0_writeGrowing
set_option maxRecDepth 20000 in
theorem ggX3_payPart_X9_endOathBy : GoodIn wsX3_payPart wsX9_endOathBy := goodIn_r _ [83, 25, 93, 94, 95, 96, 97, 98, 99, 100, 101, 102, 103, 104, 105, 106, 107, 108, 109, 110, 111] (by decide +kernel) (by decide +kernel)
set_option maxRecDepth 20000 in
theorem gX3_payPart_X9_endOathBy : GoodIn wsX3_payPart (wsV RX3 272 RX9 yX9_endOathBy wsX9_endOathBy) := goodIn_app (goodIn_of _ (by decide +kernel)) ggX3_payPart_X9_endOathBy
theorem dX3_payPart_0 : decode cX3_payPart 0 = .ok (.aload_n 1, 1) := by decide +kernel
theorem dX3_payPart_1 : decode cX3_payPart 1 = .ok (.ifnonnull 5, 3) := by decide +kernel
theorem dX3_payPart_4 : decode cX3_payPart 4 = .ok (.iconst (-1), 1) := by decide +kernel
theorem dX3_payPart_5 : decode cX3_payPart 5 = .ok (.ireturn, 1) := by decide +kernel
theorem dX3_payPart_6 : decode cX3_payPart 6 = .ok (.aload_n 1, 1) := by decide +kernel
theorem dX3_payPart_7 : decode cX3_payPart 7 = .ok (.invokevirtual 251, 3) := by decide +kernel
theorem dX3_payPart_10 : decode cX3_payPart 10 = .ok (.ifCond .ne 6, 3) := by decide +kernel
theorem dX3_payPart_13 : decode cX3_payPart 13 = .ok (.bipush (-2), 2) := by decide +kernel
theorem dX3_payPart_15 : decode cX3_payPart 15 = .ok (.ireturn, 1) := by decide +kernel
theorem dX3_payPart_16 : decode cX3_payPart 16 = .ok (.aload_n 1, 1) := by decide +kernel
theorem dX3_payPart_17 : decode cX3_payPart 17 = .ok (.iload_n 2, 1) := by decide +kernel
theorem dX3_payPart_18 : decode cX3_payPart 18 = .ok (.aload_n 0, 1) := by decide +kernel
theorem dX3_payPart_19 : decode cX3_payPart 19 = .ok (.getfield 50, 3) := by decide +kernel
theorem dX3_payPart_22 : decode cX3_payPart 22 = .ok (.invokevirtual 254, 3) := by decide +kernel
theorem dX3_payPart_25 : decode cX3_payPart 25 = .ok (.ifCond .ne 6, 3) := by decide +kernel
theorem dX3_payPart_28 : decode cX3_payPart 28 = .ok (.bipush (-4), 2) := by decide +kernel
theorem dX3_payPart_30 : decode cX3_payPart 30 = .ok (.ireturn, 1) := by decide +kernel
theorem dX3_payPart_31 : decode cX3_payPart 31 = .ok (.iload_n 3, 1) := by decide +kernel
theorem dX3_payPart_32 : decode cX3_payPart 32 = .ok (.iconst 1, 1) := by decide +kernel
theorem dX3_payPart_33 : decode cX3_payPart 33 = .ok (.if_icmp .lt 11, 3) := by decide +kernel
theorem dX3_payPart_36 : decode cX3_payPart 36 = .ok (.iload_n 3, 1) := by decide +kernel
theorem dX3_payPart_37 : decode cX3_payPart 37 = .ok (.aload_n 1, 1) := by decide +kernel
theorem dX3_payPart_38 : decode cX3_payPart 38 = .ok (.invokevirtual 258, 3) := by decide +kernel
theorem dX3_payPart_41 : decode cX3_payPart 41 = .ok (.if_icmp .lt 6, 3) := by decide +kernel
theorem dX3_payPart_44 : decode cX3_payPart 44 = .ok (.bipush (-6), 2) := by decide +kernel
theorem dX3_payPart_46 : decode cX3_payPart 46 = .ok (.ireturn, 1) := by decide +kernel
theorem dX3_payPart_47 : decode cX3_payPart 47 = .ok (.iload_n 3, 1) := by decide +kernel
theorem dX3_payPart_48 : decode cX3_payPart 48 = .ok (.aload_n 1, 1) := by decide +kernel
theorem dX3_payPart_49 : decode cX3_payPart 49 = .ok (.getfield 77, 3) := by decide +kernel
theorem dX3_payPart_52 : decode cX3_payPart 52 = .ok (.getfield 261, 3) := by decide +kernel
theorem dX3_payPart_55 : decode cX3_payPart 55 = .ok (.invokestatic 264, 3) := by decide +kernel
theorem dX3_payPart_58 : decode cX3_payPart 58 = .ok (.istore 4, 2) := by decide +kernel
theorem dX3_payPart_60 : decode cX3_payPart 60 = .ok (.iload_n 3, 1) := by decide +kernel
theorem dX3_payPart_61 : decode cX3_payPart 61 = .ok (.iload 4, 2) := by decide +kernel
theorem dX3_payPart_63 : decode cX3_payPart 63 = .ok (.isub, 1) := by decide +kernel
theorem dX3_payPart_64 : decode cX3_payPart 64 = .ok (.istore 5, 2) := by decide +kernel
theorem dX3_payPart_66 : decode cX3_payPart 66 = .ok (.aload_n 0, 1) := by decide +kernel
theorem dX3_payPart_67 : decode cX3_payPart 67 = .ok (.invokevirtual 104, 3) := by decide +kernel
theorem dX3_payPart_70 : decode cX3_payPart 70 = .ok (.astore 6, 2) := by decide +kernel
theorem dX3_payPart_72 : decode cX3_payPart 72 = .ok (.aload 6, 2) := by decide +kernel
theorem dX3_payPart_74 : decode cX3_payPart 74 = .ok (.bipush 14, 2) := by decide +kernel
theorem dX3_payPart_76 : decode cX3_payPart 76 = .ok (.aload_n 1, 1) := by decide +kernel
theorem dX3_payPart_77 : decode cX3_payPart 77 = .ok (.invokestatic 218, 3) := by decide +kernel
theorem dX3_payPart_80 : decode cX3_payPart 80 = .ok (.aload_n 1, 1) := by decide +kernel
theorem dX3_payPart_81 : decode cX3_payPart 81 = .ok (.getfield 77, 3) := by decide +kernel
theorem dX3_payPart_84 : decode cX3_payPart 84 = .ok (.dup, 1) := by decide +kernel
theorem dX3_payPart_85 : decode cX3_payPart 85 = .ok (.getfield 261, 3) := by decide +kernel
theorem dX3_payPart_88 : decode cX3_payPart 88 = .ok (.iload 4, 2) := by decide +kernel
theorem dX3_payPart_90 : decode cX3_payPart 90 = .ok (.isub, 1) := by decide +kernel
theorem dX3_payPart_91 : decode cX3_payPart 91 = .ok (.putfield 261, 3) := by decide +kernel
theorem dX3_payPart_94 : decode cX3_payPart 94 = .ok (.aload_n 1, 1) := by decide +kernel
theorem dX3_payPart_95 : decode cX3_payPart 95 = .ok (.dup, 1) := by decide +kernel
theorem dX3_payPart_96 : decode cX3_payPart 96 = .ok (.getfield 81, 3) := by decide +kernel
theorem dX3_payPart_99 : decode cX3_payPart 99 = .ok (.iload 5, 2) := by decide +kernel
theorem dX3_payPart_101 : decode cX3_payPart 101 = .ok (.isub, 1) := by decide +kernel
theorem dX3_payPart_102 : decode cX3_payPart 102 = .ok (.putfield 81, 3) := by decide +kernel
theorem dX3_payPart_105 : decode cX3_payPart 105 = .ok (.aload_n 1, 1) := by decide +kernel
theorem dX3_payPart_106 : decode cX3_payPart 106 = .ok (.iconst (-1), 1) := by decide +kernel
theorem dX3_payPart_107 : decode cX3_payPart 107 = .ok (.putfield 269, 3) := by decide +kernel
theorem dX3_payPart_110 : decode cX3_payPart 110 = .ok (.aload_n 1, 1) := by decide +kernel
theorem dX3_payPart_111 : decode cX3_payPart 111 = .ok (.iload_n 2, 1) := by decide +kernel
theorem dX3_payPart_112 : decode cX3_payPart 112 = .ok (.invokevirtual 272, 3) := by decide +kernel
theorem dX3_payPart_115 : decode cX3_payPart 115 = .ok (.aload 6, 2) := by decide +kernel
theorem dX3_payPart_117 : decode cX3_payPart 117 = .ok (.bipush 17, 2) := by decide +kernel
theorem dX3_payPart_119 : decode cX3_payPart 119 = .ok (.aload_n 1, 1) := by decide +kernel
theorem dX3_payPart_120 : decode cX3_payPart 120 = .ok (.invokestatic 218, 3) := by decide +kernel
theorem dX3_payPart_123 : decode cX3_payPart 123 = .ok (.aload 6, 2) := by decide +kernel
theorem dX3_payPart_125 : decode cX3_payPart 125 = .ok (.iconst 1, 1) := by decide +kernel
theorem dX3_payPart_126 : decode cX3_payPart 126 = .ok (.dup2, 1) := by decide +kernel
theorem dX3_payPart_127 : decode cX3_payPart 127 = .ok (.laload, 1) := by decide +kernel
theorem dX3_payPart_128 : decode cX3_payPart 128 = .ok (.iload 4, 2) := by decide +kernel
theorem dX3_payPart_130 : decode cX3_payPart 130 = .ok (.i2l, 1) := by decide +kernel
theorem dX3_payPart_131 : decode cX3_payPart 131 = .ok (.ladd, 1) := by decide +kernel
theorem dX3_payPart_132 : decode cX3_payPart 132 = .ok (.lastore, 1) := by decide +kernel
theorem dX3_payPart_133 : decode cX3_payPart 133 = .ok (.aload 6, 2) := by decide +kernel
theorem dX3_payPart_135 : decode cX3_payPart 135 = .ok (.iconst 2, 1) := by decide +kernel
theorem dX3_payPart_136 : decode cX3_payPart 136 = .ok (.dup2, 1) := by decide +kernel
theorem dX3_payPart_137 : decode cX3_payPart 137 = .ok (.laload, 1) := by decide +kernel
theorem dX3_payPart_138 : decode cX3_payPart 138 = .ok (.iload 5, 2) := by decide +kernel
theorem dX3_payPart_140 : decode cX3_payPart 140 = .ok (.i2l, 1) := by decide +kernel
theorem dX3_payPart_141 : decode cX3_payPart 141 = .ok (.ladd, 1) := by decide +kernel
theorem dX3_payPart_142 : decode cX3_payPart 142 = .ok (.lastore, 1) := by decide +kernel
theorem dX3_payPart_143 : decode cX3_payPart 143 = .ok (.aload 6, 2) := by decide +kernel
theorem dX3_payPart_145 : decode cX3_payPart 145 = .ok (.bipush 8, 2) := by decide +kernel
theorem dX3_payPart_147 : decode cX3_payPart 147 = .ok (.dup2, 1) := by decide +kernel
theorem dX3_payPart_148 : decode cX3_payPart 148 = .ok (.laload, 1) := by decide +kernel
theorem dX3_payPart_149 : decode cX3_payPart 149 = .ok (.iload 5, 2) := by decide +kernel
theorem dX3_payPart_151 : decode cX3_payPart 151 = .ok (.i2l, 1) := by decide +kernel
theorem dX3_payPart_152 : decode cX3_payPart 152 = .ok (.lsub, 1) := by decide +kernel
theorem dX3_payPart_153 : decode cX3_payPart 153 = .ok (.lastore, 1) := by decide +kernel
theorem dX3_payPart_154 : decode cX3_payPart 154 = .ok (.aload_n 1, 1) := by decide +kernel
theorem dX3_payPart_155 : decode cX3_payPart 155 = .ok (.invokevirtual 258, 3) := by decide +kernel
theorem dX3_payPart_158 : decode cX3_payPart 158 = .ok (.ireturn, 1) := by decide +kernel
set_option maxRecDepth 20000 in
theorem ggX3_whyNotHolders_X9_isHolders : GoodIn wsX3_whyNotHolders wsX9_isHolders := goodIn_r _ [6, 7, 8, 9, 10, 5, 11, 12, 39, 40, 41, 42, 43, 44, 45, 46, 47, 48, 49, 50, 51, 52, 53, 54, 55, 56, 57] (by decide +kernel) (by decide +kernel)
set_option maxRecDepth 20000 in
theorem gX3_whyNotHolders_X9_isHolders : GoodIn wsX3_whyNotHolders (wsV RX3 251 RX9 yX9_isHolders wsX9_isHolders) := goodIn_app (goodIn_of _ (by decide +kernel)) ggX3_whyNotHolders_X9_isHolders
set_option maxRecDepth 20000 in
theorem ggX3_whyNotHolders_X9_isClaimed : GoodIn wsX3_whyNotHolders wsX9_isClaimed := goodIn_r _ [16, 17, 39, 40, 41, 42, 43, 44, 45, 46, 47, 48, 49, 50, 51, 52, 53, 54, 55, 56, 57] (by decide +kernel) (by decide +kernel)
set_option maxRecDepth 20000 in
theorem gX3_whyNotHolders_X9_isClaimed : GoodIn wsX3_whyNotHolders (wsV RX3 275 RX9 yX9_isClaimed wsX9_isClaimed) := goodIn_app (goodIn_of _ (by decide +kernel)) ggX3_whyNotHolders_X9_isClaimed
set_option maxRecDepth 20000 in
theorem ggX3_whyNotHolders_X9_isRight : GoodIn wsX3_whyNotHolders wsX9_isRight := goodIn_r _ [21, 22, 23, 24, 25, 26, 27, 5, 28, 29, 39, 40, 41, 42, 43, 44, 45, 46, 47, 48, 49, 50, 51, 52, 53, 54, 55, 56, 57] (by decide +kernel) (by decide +kernel)
set_option maxRecDepth 20000 in
theorem gX3_whyNotHolders_X9_isRight : GoodIn wsX3_whyNotHolders (wsV RX3 254 RX9 yX9_isRight wsX9_isRight) := goodIn_app (goodIn_of _ (by decide +kernel)) ggX3_whyNotHolders_X9_isRight
theorem dX3_whyNotHolders_0 : decode cX3_whyNotHolders 0 = .ok (.aload_n 1, 1) := by decide +kernel
theorem dX3_whyNotHolders_1 : decode cX3_whyNotHolders 1 = .ok (.ifnonnull 5, 3) := by decide +kernel
theorem dX3_whyNotHolders_4 : decode cX3_whyNotHolders 4 = .ok (.iconst (-1), 1) := by decide +kernel
theorem dX3_whyNotHolders_5 : decode cX3_whyNotHolders 5 = .ok (.ireturn, 1) := by decide +kernel
theorem dX3_whyNotHolders_6 : decode cX3_whyNotHolders 6 = .ok (.aload_n 1, 1) := by decide +kernel
theorem dX3_whyNotHolders_7 : decode cX3_whyNotHolders 7 = .ok (.invokevirtual 251, 3) := by decide +kernel
theorem dX3_whyNotHolders_10 : decode cX3_whyNotHolders 10 = .ok (.ifCond .ne 6, 3) := by decide +kernel
theorem dX3_whyNotHolders_13 : decode cX3_whyNotHolders 13 = .ok (.bipush (-2), 2) := by decide +kernel
theorem dX3_whyNotHolders_15 : decode cX3_whyNotHolders 15 = .ok (.ireturn, 1) := by decide +kernel
theorem dX3_whyNotHolders_16 : decode cX3_whyNotHolders 16 = .ok (.aload_n 1, 1) := by decide +kernel
theorem dX3_whyNotHolders_17 : decode cX3_whyNotHolders 17 = .ok (.invokevirtual 275, 3) := by decide +kernel
theorem dX3_whyNotHolders_20 : decode cX3_whyNotHolders 20 = .ok (.ifCond .eq 6, 3) := by decide +kernel
theorem dX3_whyNotHolders_23 : decode cX3_whyNotHolders 23 = .ok (.bipush (-3), 2) := by decide +kernel
theorem dX3_whyNotHolders_25 : decode cX3_whyNotHolders 25 = .ok (.ireturn, 1) := by decide +kernel
theorem dX3_whyNotHolders_26 : decode cX3_whyNotHolders 26 = .ok (.aload_n 1, 1) := by decide +kernel
theorem dX3_whyNotHolders_27 : decode cX3_whyNotHolders 27 = .ok (.iload_n 2, 1) := by decide +kernel
theorem dX3_whyNotHolders_28 : decode cX3_whyNotHolders 28 = .ok (.aload_n 0, 1) := by decide +kernel
theorem dX3_whyNotHolders_29 : decode cX3_whyNotHolders 29 = .ok (.getfield 50, 3) := by decide +kernel
theorem dX3_whyNotHolders_32 : decode cX3_whyNotHolders 32 = .ok (.invokevirtual 254, 3) := by decide +kernel
theorem dX3_whyNotHolders_35 : decode cX3_whyNotHolders 35 = .ok (.ifCond .eq 7, 3) := by decide +kernel
theorem dX3_whyNotHolders_38 : decode cX3_whyNotHolders 38 = .ok (.iconst 0, 1) := by decide +kernel
theorem dX3_whyNotHolders_39 : decode cX3_whyNotHolders 39 = .ok (.goto 5, 3) := by decide +kernel
theorem dX3_whyNotHolders_42 : decode cX3_whyNotHolders 42 = .ok (.bipush (-4), 2) := by decide +kernel
theorem dX3_whyNotHolders_44 : decode cX3_whyNotHolders 44 = .ok (.ireturn, 1) := by decide +kernel
set_option maxRecDepth 20000 in
theorem ggX3_renewTerm_X3_whyNotHolders : GoodIn wsX3_renewTerm wsX3_whyNotHolders := goodIn_r _ [11, 5, 12, 13, 14, 15, 16, 17, 18, 19, 20, 21, 22, 23, 24, 25, 26, 27, 28, 29, 30, 31, 32, 33, 34, 35, 36, 37, 38, 39, 136, 137, 138, 139, 140, 141, 142, 143, 144, 111, 112, 113, 114, 115, 116, 117, 118, 119, 120, 121, 122, 123, 124, 125, 126, 127, 128, 129] (by decide +kernel) (by decide +kernel)
set_option maxRecDepth 20000 in
theorem gX3_renewTerm_X3_whyNotHolders : GoodIn wsX3_renewTerm (wsV RX3 278 RX3 yX3_whyNotHolders wsX3_whyNotHolders) := goodIn_app (goodIn_of _ (by decide +kernel)) ggX3_renewTerm_X3_whyNotHolders
set_option maxRecDepth 20000 in
theorem ggX3_renewTerm_X3_isTerm : GoodIn wsX3_renewTerm wsX3_isTerm := goodIn_r _ [42] (by decide +kernel) (by decide +kernel)
set_option maxRecDepth 20000 in
theorem gX3_renewTerm_X3_isTerm : GoodIn wsX3_renewTerm (va_wsS RX3 195 yX3_isTerm wsX3_isTerm) := goodIn_app (goodIn_of _ (by decide +kernel)) ggX3_renewTerm_X3_isTerm
set_option maxRecDepth 20000 in
theorem ggX3_renewTerm_X3_addRow : GoodIn wsX3_renewTerm wsX3_addRow := goodIn_r _ [46, 47, 48, 5, 49, 50, 51, 52, 53, 54, 55, 56, 57, 58, 59, 60, 61, 62, 63, 64, 65, 136, 137, 138, 139, 140, 141, 142, 143, 144, 145] (by decide +kernel) (by decide +kernel)
set_option maxRecDepth 20000 in
theorem gX3_renewTerm_X3_addRow : GoodIn wsX3_renewTerm (wsV RX3 104 RX3 yX3_addRow wsX3_addRow) := goodIn_app (goodIn_of _ (by decide +kernel)) ggX3_renewTerm_X3_addRow
set_option maxRecDepth 20000 in
theorem ggX3_renewTerm_X0_writeGrowing : GoodIn wsX3_renewTerm wsX0_writeGrowing := goodIn_r _ [68, 69, 70, 71, 72, 73, 74, 75, 76, 77, 78, 79, 80, 81, 82, 83, 84, 111, 112, 113, 114, 115, 116, 117, 118, 119, 120, 121, 122, 123, 124, 125, 126, 127, 128, 129, 130, 131, 132, 133, 134, 135] (by decide +kernel) (by decide +kernel)
set_option maxRecDepth 20000 in
theorem gX3_renewTerm_X0_writeGrowing : GoodIn wsX3_renewTerm (va_wsS RX3 218 yX0_writeGrowing wsX0_writeGrowing) := goodIn_app (goodIn_of _ (by decide +kernel)) ggX3_renewTerm_X0_writeGrowing
set_option maxRecDepth 20000 in
theorem ggX3_renewTerm_X7_become : GoodIn wsX3_renewTerm wsX7_become := goodIn_r _ [88, 89, 90, 79, 91, 92, 93, 130, 131, 132, 133, 134, 135] (by decide +kernel) (by decide +kernel)
set_option maxRecDepth 20000 in
theorem gX3_renewTerm_X7_become : GoodIn wsX3_renewTerm (wsV RX3 285 RX7 yX7_become wsX7_become) := goodIn_app (goodIn_of _ (by decide +kernel)) ggX3_renewTerm_X7_become
set_option maxRecDepth 20000 in
theorem ggX3_renewTerm_X7_nextBeginning : GoodIn wsX3_renewTerm wsX7_nextBeginning := goodIn_r _ [97, 89, 91, 130, 131, 132, 133, 134, 135] (by decide +kernel) (by decide +kernel)
set_option maxRecDepth 20000 in
theorem gX3_renewTerm_X7_nextBeginning : GoodIn wsX3_renewTerm (wsV RX3 288 RX7 yX7_nextBeginning wsX7_nextBeginning) := goodIn_app (goodIn_of _ (by decide +kernel)) ggX3_renewTerm_X7_nextBeginning
set_option maxRecDepth 20000 in
theorem ggX3_renewTerm_X3_rateOf : GoodIn wsX3_renewTerm wsX3_rateOf := goodIn_r _ [101, 102, 136, 137, 138, 139, 140, 141, 142, 143, 144] (by decide +kernel) (by decide +kernel)
set_option maxRecDepth 20000 in
theorem gX3_renewTerm_X3_rateOf : GoodIn wsX3_renewTerm (wsV RX3 227 RX3 yX3_rateOf wsX3_rateOf) := goodIn_app (goodIn_of _ (by decide +kernel)) ggX3_renewTerm_X3_rateOf
set_option maxRecDepth 20000 in
theorem ggX3_renewTerm_X7_beginAnew : GoodIn wsX3_renewTerm wsX7_beginAnew := goodIn_r _ [106, 89, 90, 79, 91, 92, 93, 130, 131, 132, 133, 134, 135] (by decide +kernel) (by decide +kernel)
set_option maxRecDepth 20000 in
theorem gX3_renewTerm_X7_beginAnew : GoodIn wsX3_renewTerm (wsV RX3 230 RX7 yX7_beginAnew wsX7_beginAnew) := goodIn_app (goodIn_of _ (by decide +kernel)) ggX3_renewTerm_X7_beginAnew
set_option maxRecDepth 20000 in
theorem ggX3_renewTerm_X9_endOathBy : GoodIn wsX3_renewTerm wsX9_endOathBy := goodIn_r _ [110, 32, 111, 112, 113, 114, 115, 116, 117, 118, 119, 120, 121, 122, 123, 124, 125, 126, 127, 128, 129] (by decide +kernel) (by decide +kernel)
set_option maxRecDepth 20000 in
theorem gX3_renewTerm_X9_endOathBy : GoodIn wsX3_renewTerm (wsV RX3 272 RX9 yX9_endOathBy wsX9_endOathBy) := goodIn_app (goodIn_of _ (by decide +kernel)) ggX3_renewTerm_X9_endOathBy
theorem dX3_renewTerm_0 : decode cX3_renewTerm 0 = .ok (.aload_n 0, 1) := by decide +kernel
theorem dX3_renewTerm_1 : decode cX3_renewTerm 1 = .ok (.aload_n 1, 1) := by decide +kernel
theorem dX3_renewTerm_2 : decode cX3_renewTerm 2 = .ok (.iload_n 2, 1) := by decide +kernel
theorem dX3_renewTerm_3 : decode cX3_renewTerm 3 = .ok (.invokevirtual 278, 3) := by decide +kernel
theorem dX3_renewTerm_6 : decode cX3_renewTerm 6 = .ok (.istore 4, 2) := by decide +kernel
theorem dX3_renewTerm_8 : decode cX3_renewTerm 8 = .ok (.iload 4, 2) := by decide +kernel
theorem dX3_renewTerm_10 : decode cX3_renewTerm 10 = .ok (.ifCond .eq 6, 3) := by decide +kernel
theorem dX3_renewTerm_13 : decode cX3_renewTerm 13 = .ok (.iload 4, 2) := by decide +kernel
theorem dX3_renewTerm_15 : decode cX3_renewTerm 15 = .ok (.ireturn, 1) := by decide +kernel
theorem dX3_renewTerm_16 : decode cX3_renewTerm 16 = .ok (.iload_n 3, 1) := by decide +kernel
theorem dX3_renewTerm_17 : decode cX3_renewTerm 17 = .ok (.invokestatic 195, 3) := by decide +kernel
theorem dX3_renewTerm_20 : decode cX3_renewTerm 20 = .ok (.ifCond .ne 6, 3) := by decide +kernel
theorem dX3_renewTerm_23 : decode cX3_renewTerm 23 = .ok (.bipush (-6), 2) := by decide +kernel
theorem dX3_renewTerm_25 : decode cX3_renewTerm 25 = .ok (.ireturn, 1) := by decide +kernel
theorem dX3_renewTerm_26 : decode cX3_renewTerm 26 = .ok (.aload_n 1, 1) := by decide +kernel
theorem dX3_renewTerm_27 : decode cX3_renewTerm 27 = .ok (.getfield 77, 3) := by decide +kernel
theorem dX3_renewTerm_30 : decode cX3_renewTerm 30 = .ok (.getfield 261, 3) := by decide +kernel
theorem dX3_renewTerm_33 : decode cX3_renewTerm 33 = .ok (.istore 5, 2) := by decide +kernel
theorem dX3_renewTerm_35 : decode cX3_renewTerm 35 = .ok (.aload_n 0, 1) := by decide +kernel
theorem dX3_renewTerm_36 : decode cX3_renewTerm 36 = .ok (.invokevirtual 104, 3) := by decide +kernel
theorem dX3_renewTerm_39 : decode cX3_renewTerm 39 = .ok (.astore 6, 2) := by decide +kernel
theorem dX3_renewTerm_41 : decode cX3_renewTerm 41 = .ok (.aload 6, 2) := by decide +kernel
theorem dX3_renewTerm_43 : decode cX3_renewTerm 43 = .ok (.bipush 14, 2) := by decide +kernel
theorem dX3_renewTerm_45 : decode cX3_renewTerm 45 = .ok (.aload_n 1, 1) := by decide +kernel
theorem dX3_renewTerm_46 : decode cX3_renewTerm 46 = .ok (.invokestatic 218, 3) := by decide +kernel
theorem dX3_renewTerm_49 : decode cX3_renewTerm 49 = .ok (.aload_n 1, 1) := by decide +kernel
theorem dX3_renewTerm_50 : decode cX3_renewTerm 50 = .ok (.getfield 282, 3) := by decide +kernel
theorem dX3_renewTerm_53 : decode cX3_renewTerm 53 = .ok (.aload_n 1, 1) := by decide +kernel
theorem dX3_renewTerm_54 : decode cX3_renewTerm 54 = .ok (.getfield 77, 3) := by decide +kernel
theorem dX3_renewTerm_57 : decode cX3_renewTerm 57 = .ok (.invokevirtual 285, 3) := by decide +kernel
theorem dX3_renewTerm_60 : decode cX3_renewTerm 60 = .ok (.aload_n 1, 1) := by decide +kernel
theorem dX3_renewTerm_61 : decode cX3_renewTerm 61 = .ok (.getfield 77, 3) := by decide +kernel
theorem dX3_renewTerm_64 : decode cX3_renewTerm 64 = .ok (.aload_n 1, 1) := by decide +kernel
theorem dX3_renewTerm_65 : decode cX3_renewTerm 65 = .ok (.getfield 77, 3) := by decide +kernel
theorem dX3_renewTerm_68 : decode cX3_renewTerm 68 = .ok (.invokevirtual 288, 3) := by decide +kernel
theorem dX3_renewTerm_71 : decode cX3_renewTerm 71 = .ok (.iload_n 3, 1) := by decide +kernel
theorem dX3_renewTerm_72 : decode cX3_renewTerm 72 = .ok (.aload_n 0, 1) := by decide +kernel
theorem dX3_renewTerm_73 : decode cX3_renewTerm 73 = .ok (.aload_n 1, 1) := by decide +kernel
theorem dX3_renewTerm_74 : decode cX3_renewTerm 74 = .ok (.getfield 222, 3) := by decide +kernel
theorem dX3_renewTerm_77 : decode cX3_renewTerm 77 = .ok (.invokevirtual 227, 3) := by decide +kernel
theorem dX3_renewTerm_80 : decode cX3_renewTerm 80 = .ok (.invokevirtual 230, 3) := by decide +kernel
theorem dX3_renewTerm_83 : decode cX3_renewTerm 83 = .ok (.aload_n 1, 1) := by decide +kernel
theorem dX3_renewTerm_84 : decode cX3_renewTerm 84 = .ok (.aload_n 0, 1) := by decide +kernel
theorem dX3_renewTerm_85 : decode cX3_renewTerm 85 = .ok (.getfield 50, 3) := by decide +kernel
theorem dX3_renewTerm_88 : decode cX3_renewTerm 88 = .ok (.putfield 269, 3) := by decide +kernel
theorem dX3_renewTerm_91 : decode cX3_renewTerm 91 = .ok (.aload_n 1, 1) := by decide +kernel
theorem dX3_renewTerm_92 : decode cX3_renewTerm 92 = .ok (.iload_n 2, 1) := by decide +kernel
theorem dX3_renewTerm_93 : decode cX3_renewTerm 93 = .ok (.invokevirtual 272, 3) := by decide +kernel
theorem dX3_renewTerm_96 : decode cX3_renewTerm 96 = .ok (.aload 6, 2) := by decide +kernel
theorem dX3_renewTerm_98 : decode cX3_renewTerm 98 = .ok (.bipush 17, 2) := by decide +kernel
theorem dX3_renewTerm_100 : decode cX3_renewTerm 100 = .ok (.aload_n 1, 1) := by decide +kernel
theorem dX3_renewTerm_101 : decode cX3_renewTerm 101 = .ok (.invokestatic 218, 3) := by decide +kernel
theorem dX3_renewTerm_104 : decode cX3_renewTerm 104 = .ok (.aload 6, 2) := by decide +kernel
theorem dX3_renewTerm_106 : decode cX3_renewTerm 106 = .ok (.iconst 1, 1) := by decide +kernel
theorem dX3_renewTerm_107 : decode cX3_renewTerm 107 = .ok (.dup2, 1) := by decide +kernel
theorem dX3_renewTerm_108 : decode cX3_renewTerm 108 = .ok (.laload, 1) := by decide +kernel
theorem dX3_renewTerm_109 : decode cX3_renewTerm 109 = .ok (.iload 5, 2) := by decide +kernel
theorem dX3_renewTerm_111 : decode cX3_renewTerm 111 = .ok (.i2l, 1) := by decide +kernel
theorem dX3_renewTerm_112 : decode cX3_renewTerm 112 = .ok (.ladd, 1) := by decide +kernel
theorem dX3_renewTerm_113 : decode cX3_renewTerm 113 = .ok (.lastore, 1) := by decide +kernel
theorem dX3_renewTerm_114 : decode cX3_renewTerm 114 = .ok (.iload 5, 2) := by decide +kernel
theorem dX3_renewTerm_116 : decode cX3_renewTerm 116 = .ok (.ireturn, 1) := by decide +kernel
set_option maxRecDepth 20000 in
theorem ggX3_undoRenewing_X9_isOpen : GoodIn wsX3_undoRenewing wsX9_isOpen := goodIn_r _ [10, 11, 64, 65, 66, 67, 68, 69, 70, 71, 72, 73, 74, 75, 76, 77, 78, 79, 80, 81, 82] (by decide +kernel) (by decide +kernel)
set_option maxRecDepth 20000 in
theorem gX3_undoRenewing_X9_isOpen : GoodIn wsX3_undoRenewing (wsV RX3 236 RX9 yX9_isOpen wsX9_isOpen) := goodIn_app (goodIn_of _ (by decide +kernel)) ggX3_undoRenewing_X9_isOpen
set_option maxRecDepth 20000 in
theorem ggX3_undoRenewing_X3_addRow : GoodIn wsX3_undoRenewing wsX3_addRow := goodIn_r _ [16, 17, 18, 2, 19, 20, 21, 22, 23, 24, 25, 26, 27, 28, 29, 30, 31, 32, 33, 34, 35, 83, 84, 85, 86, 87, 88, 89, 90, 91, 98] (by decide +kernel) (by decide +kernel)
set_option maxRecDepth 20000 in
theorem gX3_undoRenewing_X3_addRow : GoodIn wsX3_undoRenewing (wsV RX3 104 RX3 yX3_addRow wsX3_addRow) := goodIn_app (goodIn_of _ (by decide +kernel)) ggX3_undoRenewing_X3_addRow
set_option maxRecDepth 20000 in
theorem ggX3_undoRenewing_X0_writeGrowing : GoodIn wsX3_undoRenewing wsX0_writeGrowing := goodIn_r _ [38, 39, 40, 41, 42, 43, 44, 45, 46, 47, 48, 49, 50, 51, 52, 53, 54, 64, 65, 66, 67, 68, 69, 70, 71, 72, 73, 74, 75, 76, 77, 78, 79, 80, 81, 82, 92, 93, 94, 95, 96, 97] (by decide +kernel) (by decide +kernel)
set_option maxRecDepth 20000 in
theorem gX3_undoRenewing_X0_writeGrowing : GoodIn wsX3_undoRenewing (va_wsS RX3 218 yX0_writeGrowing wsX0_writeGrowing) := goodIn_app (goodIn_of _ (by decide +kernel)) ggX3_undoRenewing_X0_writeGrowing
set_option maxRecDepth 20000 in
theorem ggX3_undoRenewing_X7_become : GoodIn wsX3_undoRenewing wsX7_become := goodIn_r _ [58, 59, 60, 49, 61, 62, 63, 92, 93, 94, 95, 96, 97] (by decide +kernel) (by decide +kernel)
set_option maxRecDepth 20000 in
theorem gX3_undoRenewing_X7_become : GoodIn wsX3_undoRenewing (wsV RX3 285 RX7 yX7_become wsX7_become) := goodIn_app (goodIn_of _ (by decide +kernel)) ggX3_undoRenewing_X7_become
theorem dX3_undoRenewing_0 : decode cX3_undoRenewing 0 = .ok (.aload_n 1, 1) := by decide +kernel
theorem dX3_undoRenewing_1 : decode cX3_undoRenewing 1 = .ok (.ifnonnull 5, 3) := by decide +kernel
theorem dX3_undoRenewing_4 : decode cX3_undoRenewing 4 = .ok (.iconst (-1), 1) := by decide +kernel
theorem dX3_undoRenewing_5 : decode cX3_undoRenewing 5 = .ok (.ireturn, 1) := by decide +kernel
theorem dX3_undoRenewing_6 : decode cX3_undoRenewing 6 = .ok (.aload_n 1, 1) := by decide +kernel
theorem dX3_undoRenewing_7 : decode cX3_undoRenewing 7 = .ok (.invokevirtual 236, 3) := by decide +kernel
theorem dX3_undoRenewing_10 : decode cX3_undoRenewing 10 = .ok (.ifCond .eq 11, 3) := by decide +kernel
theorem dX3_undoRenewing_13 : decode cX3_undoRenewing 13 = .ok (.aload_n 1, 1) := by decide +kernel
theorem dX3_undoRenewing_14 : decode cX3_undoRenewing 14 = .ok (.getfield 269, 3) := by decide +kernel
theorem dX3_undoRenewing_17 : decode cX3_undoRenewing 17 = .ok (.iconst (-1), 1) := by decide +kernel
theorem dX3_undoRenewing_18 : decode cX3_undoRenewing 18 = .ok (.if_icmp .ne 6, 3) := by decide +kernel
theorem dX3_undoRenewing_21 : decode cX3_undoRenewing 21 = .ok (.bipush (-2), 2) := by decide +kernel
theorem dX3_undoRenewing_23 : decode cX3_undoRenewing 23 = .ok (.ireturn, 1) := by decide +kernel
theorem dX3_undoRenewing_24 : decode cX3_undoRenewing 24 = .ok (.aload_n 1, 1) := by decide +kernel
theorem dX3_undoRenewing_25 : decode cX3_undoRenewing 25 = .ok (.getfield 269, 3) := by decide +kernel
theorem dX3_undoRenewing_28 : decode cX3_undoRenewing 28 = .ok (.aload_n 0, 1) := by decide +kernel
theorem dX3_undoRenewing_29 : decode cX3_undoRenewing 29 = .ok (.getfield 50, 3) := by decide +kernel
theorem dX3_undoRenewing_32 : decode cX3_undoRenewing 32 = .ok (.if_icmp .eq 6, 3) := by decide +kernel
theorem dX3_undoRenewing_35 : decode cX3_undoRenewing 35 = .ok (.bipush (-5), 2) := by decide +kernel
theorem dX3_undoRenewing_37 : decode cX3_undoRenewing 37 = .ok (.ireturn, 1) := by decide +kernel
theorem dX3_undoRenewing_38 : decode cX3_undoRenewing 38 = .ok (.aload_n 0, 1) := by decide +kernel
theorem dX3_undoRenewing_39 : decode cX3_undoRenewing 39 = .ok (.invokevirtual 104, 3) := by decide +kernel
theorem dX3_undoRenewing_42 : decode cX3_undoRenewing 42 = .ok (.astore_n 2, 1) := by decide +kernel
theorem dX3_undoRenewing_43 : decode cX3_undoRenewing 43 = .ok (.aload_n 2, 1) := by decide +kernel
theorem dX3_undoRenewing_44 : decode cX3_undoRenewing 44 = .ok (.bipush 14, 2) := by decide +kernel
theorem dX3_undoRenewing_46 : decode cX3_undoRenewing 46 = .ok (.aload_n 1, 1) := by decide +kernel
theorem dX3_undoRenewing_47 : decode cX3_undoRenewing 47 = .ok (.invokestatic 218, 3) := by decide +kernel
theorem dX3_undoRenewing_50 : decode cX3_undoRenewing 50 = .ok (.aload_n 1, 1) := by decide +kernel
theorem dX3_undoRenewing_51 : decode cX3_undoRenewing 51 = .ok (.getfield 77, 3) := by decide +kernel
theorem dX3_undoRenewing_54 : decode cX3_undoRenewing 54 = .ok (.aload_n 1, 1) := by decide +kernel
theorem dX3_undoRenewing_55 : decode cX3_undoRenewing 55 = .ok (.getfield 282, 3) := by decide +kernel
theorem dX3_undoRenewing_58 : decode cX3_undoRenewing 58 = .ok (.invokevirtual 285, 3) := by decide +kernel
theorem dX3_undoRenewing_61 : decode cX3_undoRenewing 61 = .ok (.aload_n 1, 1) := by decide +kernel
theorem dX3_undoRenewing_62 : decode cX3_undoRenewing 62 = .ok (.iconst (-1), 1) := by decide +kernel
theorem dX3_undoRenewing_63 : decode cX3_undoRenewing 63 = .ok (.putfield 269, 3) := by decide +kernel
theorem dX3_undoRenewing_66 : decode cX3_undoRenewing 66 = .ok (.aload_n 2, 1) := by decide +kernel
theorem dX3_undoRenewing_67 : decode cX3_undoRenewing 67 = .ok (.bipush 17, 2) := by decide +kernel
theorem dX3_undoRenewing_69 : decode cX3_undoRenewing 69 = .ok (.aload_n 1, 1) := by decide +kernel
theorem dX3_undoRenewing_70 : decode cX3_undoRenewing 70 = .ok (.invokestatic 218, 3) := by decide +kernel
theorem dX3_undoRenewing_73 : decode cX3_undoRenewing 73 = .ok (.aload_n 2, 1) := by decide +kernel
theorem dX3_undoRenewing_74 : decode cX3_undoRenewing 74 = .ok (.iconst 1, 1) := by decide +kernel
theorem dX3_undoRenewing_75 : decode cX3_undoRenewing 75 = .ok (.dup2, 1) := by decide +kernel
theorem dX3_undoRenewing_76 : decode cX3_undoRenewing 76 = .ok (.laload, 1) := by decide +kernel
theorem dX3_undoRenewing_77 : decode cX3_undoRenewing 77 = .ok (.aload_n 1, 1) := by decide +kernel
theorem dX3_undoRenewing_78 : decode cX3_undoRenewing 78 = .ok (.getfield 77, 3) := by decide +kernel
theorem dX3_undoRenewing_81 : decode cX3_undoRenewing 81 = .ok (.getfield 261, 3) := by decide +kernel
theorem dX3_undoRenewing_84 : decode cX3_undoRenewing 84 = .ok (.i2l, 1) := by decide +kernel
theorem dX3_undoRenewing_85 : decode cX3_undoRenewing 85 = .ok (.lsub, 1) := by decide +kernel
theorem dX3_undoRenewing_86 : decode cX3_undoRenewing 86 = .ok (.lastore, 1) := by decide +kernel
theorem dX3_undoRenewing_87 : decode cX3_undoRenewing 87 = .ok (.aload_n 1, 1) := by decide +kernel
theorem dX3_undoRenewing_88 : decode cX3_undoRenewing 88 = .ok (.getfield 77, 3) := by decide +kernel
theorem dX3_undoRenewing_91 : decode cX3_undoRenewing 91 = .ok (.getfield 261, 3) := by decide +kernel
theorem dX3_undoRenewing_94 : decode cX3_undoRenewing 94 = .ok (.ireturn, 1) := by decide +kernel
set_option maxRecDepth 20000 in
theorem ggX3_giveBack_X3_whyNotHolders : GoodIn wsX3_giveBack wsX3_whyNotHolders := goodIn_r _ [8, 9, 10, 11, 12, 13, 14, 15, 16, 17, 18, 19, 20, 21, 22, 23, 24, 25, 26, 27, 28, 29, 30, 31, 32, 33, 34, 35, 36, 37, 127, 128, 129, 130, 131, 132, 133, 134, 135, 102, 103, 104, 105, 106, 107, 108, 109, 110, 111, 112, 113, 114, 115, 116, 117, 118, 119, 120] (by decide +kernel) (by decide +kernel)
set_option maxRecDepth 20000 in
theorem gX3_giveBack_X3_whyNotHolders : GoodIn wsX3_giveBack (wsV RX3 278 RX3 yX3_whyNotHolders wsX3_whyNotHolders) := goodIn_app (goodIn_of _ (by decide +kernel)) ggX3_giveBack_X3_whyNotHolders
set_option maxRecDepth 20000 in
theorem ggX3_giveBack_X9_owed : GoodIn wsX3_giveBack wsX9_owed := goodIn_r _ [41, 42, 43, 44, 102, 103, 104, 105, 106, 107, 108, 109, 110, 111, 112, 113, 114, 115, 116, 117, 118, 119, 120, 121, 122, 123, 124, 125, 126] (by decide +kernel) (by decide +kernel)
set_option maxRecDepth 20000 in
theorem gX3_giveBack_X9_owed : GoodIn wsX3_giveBack (wsV RX3 258 RX9 yX9_owed wsX9_owed) := goodIn_app (goodIn_of _ (by decide +kernel)) ggX3_giveBack_X9_owed
set_option maxRecDepth 20000 in
theorem ggX3_giveBack_X9_endOathBy : GoodIn wsX3_giveBack wsX9_endOathBy := goodIn_r _ [48, 30, 102, 103, 104, 105, 106, 107, 108, 109, 110, 111, 112, 113, 114, 115, 116, 117, 118, 119, 120] (by decide +kernel) (by decide +kernel)
set_option maxRecDepth 20000 in
theorem gX3_giveBack_X9_endOathBy : GoodIn wsX3_giveBack (wsV RX3 272 RX9 yX9_endOathBy wsX9_endOathBy) := goodIn_app (goodIn_of _ (by decide +kernel)) ggX3_giveBack_X9_endOathBy
set_option maxRecDepth 20000 in
theorem ggX3_giveBack_X3_endTicket : GoodIn wsX3_giveBack wsX3_endTicket := goodIn_r _ [52, 3, 53, 54, 55, 56, 57, 58, 59, 7, 60, 61, 62, 9, 63, 64, 65, 66, 67, 68, 69, 70, 71, 72, 73, 74, 75, 76, 77, 78, 79, 80, 81, 82, 83, 84, 85, 86, 87, 88, 89, 90, 91, 92, 93, 94, 95, 96, 97, 98, 99, 100, 101, 102, 103, 104, 105, 106, 107, 108, 109, 110, 111, 112, 113, 114, 115, 116, 117, 118, 119, 120, 127, 128, 129, 130, 131, 132, 133, 134, 135, 136, 121, 122, 123, 124, 125, 126] (by decide +kernel) (by decide +kernel)
set_option maxRecDepth 20000 in
theorem gX3_giveBack_X3_endTicket : GoodIn wsX3_giveBack (wsV RX3 291 RX3 yX3_endTicket wsX3_endTicket) := goodIn_app (goodIn_of _ (by decide +kernel)) ggX3_giveBack_X3_endTicket
theorem dX3_giveBack_0 : decode cX3_giveBack 0 = .ok (.aload_n 0, 1) := by decide +kernel
theorem dX3_giveBack_1 : decode cX3_giveBack 1 = .ok (.aload_n 1, 1) := by decide +kernel
theorem dX3_giveBack_2 : decode cX3_giveBack 2 = .ok (.iload_n 2, 1) := by decide +kernel
theorem dX3_giveBack_3 : decode cX3_giveBack 3 = .ok (.invokevirtual 278, 3) := by decide +kernel
theorem dX3_giveBack_6 : decode cX3_giveBack 6 = .ok (.istore 4, 2) := by decide +kernel
theorem dX3_giveBack_8 : decode cX3_giveBack 8 = .ok (.iload 4, 2) := by decide +kernel
theorem dX3_giveBack_10 : decode cX3_giveBack 10 = .ok (.ifCond .eq 6, 3) := by decide +kernel
theorem dX3_giveBack_13 : decode cX3_giveBack 13 = .ok (.iload 4, 2) := by decide +kernel
theorem dX3_giveBack_15 : decode cX3_giveBack 15 = .ok (.ireturn, 1) := by decide +kernel
theorem dX3_giveBack_16 : decode cX3_giveBack 16 = .ok (.iload_n 3, 1) := by decide +kernel
theorem dX3_giveBack_17 : decode cX3_giveBack 17 = .ok (.aload_n 1, 1) := by decide +kernel
theorem dX3_giveBack_18 : decode cX3_giveBack 18 = .ok (.invokevirtual 258, 3) := by decide +kernel
theorem dX3_giveBack_21 : decode cX3_giveBack 21 = .ok (.if_icmp .eq 6, 3) := by decide +kernel
theorem dX3_giveBack_24 : decode cX3_giveBack 24 = .ok (.bipush (-6), 2) := by decide +kernel
theorem dX3_giveBack_26 : decode cX3_giveBack 26 = .ok (.ireturn, 1) := by decide +kernel
theorem dX3_giveBack_27 : decode cX3_giveBack 27 = .ok (.aload_n 1, 1) := by decide +kernel
theorem dX3_giveBack_28 : decode cX3_giveBack 28 = .ok (.iload_n 2, 1) := by decide +kernel
theorem dX3_giveBack_29 : decode cX3_giveBack 29 = .ok (.invokevirtual 272, 3) := by decide +kernel
theorem dX3_giveBack_32 : decode cX3_giveBack 32 = .ok (.aload_n 0, 1) := by decide +kernel
theorem dX3_giveBack_33 : decode cX3_giveBack 33 = .ok (.aload_n 1, 1) := by decide +kernel
theorem dX3_giveBack_34 : decode cX3_giveBack 34 = .ok (.iconst 1, 1) := by decide +kernel
theorem dX3_giveBack_35 : decode cX3_giveBack 35 = .ok (.invokevirtual 291, 3) := by decide +kernel
theorem dX3_giveBack_38 : decode cX3_giveBack 38 = .ok (.astore 5, 2) := by decide +kernel
theorem dX3_giveBack_40 : decode cX3_giveBack 40 = .ok (.aload 5, 2) := by decide +kernel
theorem dX3_giveBack_42 : decode cX3_giveBack 42 = .ok (.iconst 1, 1) := by decide +kernel
theorem dX3_giveBack_43 : decode cX3_giveBack 43 = .ok (.dup2, 1) := by decide +kernel
theorem dX3_giveBack_44 : decode cX3_giveBack 44 = .ok (.laload, 1) := by decide +kernel
theorem dX3_giveBack_45 : decode cX3_giveBack 45 = .ok (.aload_n 1, 1) := by decide +kernel
theorem dX3_giveBack_46 : decode cX3_giveBack 46 = .ok (.getfield 77, 3) := by decide +kernel
theorem dX3_giveBack_49 : decode cX3_giveBack 49 = .ok (.getfield 261, 3) := by decide +kernel
theorem dX3_giveBack_52 : decode cX3_giveBack 52 = .ok (.i2l, 1) := by decide +kernel
theorem dX3_giveBack_53 : decode cX3_giveBack 53 = .ok (.ladd, 1) := by decide +kernel
theorem dX3_giveBack_54 : decode cX3_giveBack 54 = .ok (.lastore, 1) := by decide +kernel
theorem dX3_giveBack_55 : decode cX3_giveBack 55 = .ok (.aload 5, 2) := by decide +kernel
theorem dX3_giveBack_57 : decode cX3_giveBack 57 = .ok (.iconst 2, 1) := by decide +kernel
theorem dX3_giveBack_58 : decode cX3_giveBack 58 = .ok (.dup2, 1) := by decide +kernel
theorem dX3_giveBack_59 : decode cX3_giveBack 59 = .ok (.laload, 1) := by decide +kernel
theorem dX3_giveBack_60 : decode cX3_giveBack 60 = .ok (.aload_n 1, 1) := by decide +kernel
theorem dX3_giveBack_61 : decode cX3_giveBack 61 = .ok (.getfield 81, 3) := by decide +kernel
theorem dX3_giveBack_64 : decode cX3_giveBack 64 = .ok (.i2l, 1) := by decide +kernel
theorem dX3_giveBack_65 : decode cX3_giveBack 65 = .ok (.ladd, 1) := by decide +kernel
theorem dX3_giveBack_66 : decode cX3_giveBack 66 = .ok (.lastore, 1) := by decide +kernel
theorem dX3_giveBack_67 : decode cX3_giveBack 67 = .ok (.iconst 0, 1) := by decide +kernel
theorem dX3_giveBack_68 : decode cX3_giveBack 68 = .ok (.ireturn, 1) := by decide +kernel
set_option maxRecDepth 20000 in
theorem ggX3_endTicket_X3_addRow : GoodIn wsX3_endTicket wsX3_addRow := goodIn_r _ [10, 11, 12, 13, 14, 15, 16, 17, 18, 19, 20, 21, 22, 23, 24, 25, 26, 27, 28, 29, 30, 72, 73, 74, 75, 76, 77, 78, 79, 80, 81] (by decide +kernel) (by decide +kernel)
set_option maxRecDepth 20000 in
theorem gX3_endTicket_X3_addRow : GoodIn wsX3_endTicket (wsV RX3 104 RX3 yX3_addRow wsX3_addRow) := goodIn_app (goodIn_of _ (by decide +kernel)) ggX3_endTicket_X3_addRow
set_option maxRecDepth 20000 in
theorem ggX3_endTicket_X0_writeGrowing : GoodIn wsX3_endTicket wsX0_writeGrowing := goodIn_r _ [33, 34, 35, 36, 37, 38, 39, 40, 41, 42, 43, 44, 45, 46, 47, 48, 49, 53, 54, 55, 56, 57, 58, 59, 60, 61, 62, 63, 64, 65, 66, 67, 68, 69, 70, 71, 82, 83, 84, 85, 86, 87] (by decide +kernel) (by decide +kernel)
set_option maxRecDepth 20000 in
theorem gX3_endTicket_X0_writeGrowing : GoodIn wsX3_endTicket (va_wsS RX3 218 yX0_writeGrowing wsX0_writeGrowing) := goodIn_app (goodIn_of _ (by decide +kernel)) ggX3_endTicket_X0_writeGrowing
set_option maxRecDepth 20000 in
theorem ggX3_endTicket_X3_isPlace : GoodIn wsX3_endTicket wsX3_isPlace := goodIn_r _ [52] (by decide +kernel) (by decide +kernel)
set_option maxRecDepth 20000 in
theorem gX3_endTicket_X3_isPlace : GoodIn wsX3_endTicket (va_wsS RX3 97 yX3_isPlace wsX3_isPlace) := goodIn_app (goodIn_of _ (by decide +kernel)) ggX3_endTicket_X3_isPlace
theorem dX3_endTicket_0 : decode cX3_endTicket 0 = .ok (.aload_n 0, 1) := by decide +kernel
theorem dX3_endTicket_1 : decode cX3_endTicket 1 = .ok (.invokevirtual 104, 3) := by decide +kernel
theorem dX3_endTicket_4 : decode cX3_endTicket 4 = .ok (.astore_n 3, 1) := by decide +kernel
theorem dX3_endTicket_5 : decode cX3_endTicket 5 = .ok (.aload_n 3, 1) := by decide +kernel
theorem dX3_endTicket_6 : decode cX3_endTicket 6 = .ok (.bipush 14, 2) := by decide +kernel
theorem dX3_endTicket_8 : decode cX3_endTicket 8 = .ok (.aload_n 1, 1) := by decide +kernel
theorem dX3_endTicket_9 : decode cX3_endTicket 9 = .ok (.invokestatic 218, 3) := by decide +kernel
theorem dX3_endTicket_12 : decode cX3_endTicket 12 = .ok (.aload_n 3, 1) := by decide +kernel
theorem dX3_endTicket_13 : decode cX3_endTicket 13 = .ok (.bipush 8, 2) := by decide +kernel
theorem dX3_endTicket_15 : decode cX3_endTicket 15 = .ok (.dup2, 1) := by decide +kernel
theorem dX3_endTicket_16 : decode cX3_endTicket 16 = .ok (.laload, 1) := by decide +kernel
theorem dX3_endTicket_17 : decode cX3_endTicket 17 = .ok (.aload_n 1, 1) := by decide +kernel
theorem dX3_endTicket_18 : decode cX3_endTicket 18 = .ok (.getfield 81, 3) := by decide +kernel
theorem dX3_endTicket_21 : decode cX3_endTicket 21 = .ok (.i2l, 1) := by decide +kernel
theorem dX3_endTicket_22 : decode cX3_endTicket 22 = .ok (.lsub, 1) := by decide +kernel
theorem dX3_endTicket_23 : decode cX3_endTicket 23 = .ok (.lastore, 1) := by decide +kernel
theorem dX3_endTicket_24 : decode cX3_endTicket 24 = .ok (.aload_n 3, 1) := by decide +kernel
theorem dX3_endTicket_25 : decode cX3_endTicket 25 = .ok (.bipush 10, 2) := by decide +kernel
theorem dX3_endTicket_27 : decode cX3_endTicket 27 = .ok (.dup2, 1) := by decide +kernel
theorem dX3_endTicket_28 : decode cX3_endTicket 28 = .ok (.laload, 1) := by decide +kernel
theorem dX3_endTicket_29 : decode cX3_endTicket 29 = .ok (.lconst 1, 1) := by decide +kernel
theorem dX3_endTicket_30 : decode cX3_endTicket 30 = .ok (.lsub, 1) := by decide +kernel
theorem dX3_endTicket_31 : decode cX3_endTicket 31 = .ok (.lastore, 1) := by decide +kernel
theorem dX3_endTicket_32 : decode cX3_endTicket 32 = .ok (.aload_n 3, 1) := by decide +kernel
theorem dX3_endTicket_33 : decode cX3_endTicket 33 = .ok (.bipush 11, 2) := by decide +kernel
theorem dX3_endTicket_35 : decode cX3_endTicket 35 = .ok (.dup2, 1) := by decide +kernel
theorem dX3_endTicket_36 : decode cX3_endTicket 36 = .ok (.laload, 1) := by decide +kernel
theorem dX3_endTicket_37 : decode cX3_endTicket 37 = .ok (.lconst 1, 1) := by decide +kernel
theorem dX3_endTicket_38 : decode cX3_endTicket 38 = .ok (.lsub, 1) := by decide +kernel
theorem dX3_endTicket_39 : decode cX3_endTicket 39 = .ok (.lastore, 1) := by decide +kernel
theorem dX3_endTicket_40 : decode cX3_endTicket 40 = .ok (.aload_n 1, 1) := by decide +kernel
theorem dX3_endTicket_41 : decode cX3_endTicket 41 = .ok (.iload_n 2, 1) := by decide +kernel
theorem dX3_endTicket_42 : decode cX3_endTicket 42 = .ok (.putfield 295, 3) := by decide +kernel
theorem dX3_endTicket_45 : decode cX3_endTicket 45 = .ok (.aload_n 1, 1) := by decide +kernel
theorem dX3_endTicket_46 : decode cX3_endTicket 46 = .ok (.getfield 212, 3) := by decide +kernel
theorem dX3_endTicket_49 : decode cX3_endTicket 49 = .ok (.invokestatic 97, 3) := by decide +kernel
theorem dX3_endTicket_52 : decode cX3_endTicket 52 = .ok (.ifCond .eq 23, 3) := by decide +kernel
theorem dX3_endTicket_55 : decode cX3_endTicket 55 = .ok (.aload_n 0, 1) := by decide +kernel
theorem dX3_endTicket_56 : decode cX3_endTicket 56 = .ok (.getfield 25, 3) := by decide +kernel
theorem dX3_endTicket_59 : decode cX3_endTicket 59 = .ok (.aload_n 1, 1) := by decide +kernel
theorem dX3_endTicket_60 : decode cX3_endTicket 60 = .ok (.getfield 212, 3) := by decide +kernel
theorem dX3_endTicket_63 : decode cX3_endTicket 63 = .ok (.aconst_null, 1) := by decide +kernel
theorem dX3_endTicket_64 : decode cX3_endTicket 64 = .ok (.aastore, 1) := by decide +kernel
theorem dX3_endTicket_65 : decode cX3_endTicket 65 = .ok (.aload_n 0, 1) := by decide +kernel
theorem dX3_endTicket_66 : decode cX3_endTicket 66 = .ok (.getfield 33, 3) := by decide +kernel
theorem dX3_endTicket_69 : decode cX3_endTicket 69 = .ok (.aload_n 1, 1) := by decide +kernel
theorem dX3_endTicket_70 : decode cX3_endTicket 70 = .ok (.getfield 212, 3) := by decide +kernel
theorem dX3_endTicket_73 : decode cX3_endTicket 73 = .ok (.iconst 0, 1) := by decide +kernel
theorem dX3_endTicket_74 : decode cX3_endTicket 74 = .ok (.iastore, 1) := by decide +kernel
theorem dX3_endTicket_75 : decode cX3_endTicket 75 = .ok (.aload_n 3, 1) := by decide +kernel
theorem dX3_endTicket_76 : decode cX3_endTicket 76 = .ok (.areturn, 1) := by decide +kernel
set_option maxRecDepth 20000 in
theorem ggX3_takeItemOut_X3_lotUnder : GoodIn wsX3_takeItemOut wsX3_lotUnder := goodIn_r _ [8, 2, 1, 9, 10, 11, 12, 13, 14, 15, 16, 17, 18, 19, 20, 21, 22, 7, 23, 150, 151, 152, 153, 154, 155, 156, 157, 158, 159, 160, 161, 162, 163, 164, 165, 166, 167, 168, 141, 142, 143, 144, 145, 146, 147, 148, 149] (by decide +kernel) (by decide +kernel)
set_option maxRecDepth 20000 in
theorem gX3_takeItemOut_X3_lotUnder : GoodIn wsX3_takeItemOut (wsV RX3 298 RX3 yX3_lotUnder wsX3_lotUnder) := goodIn_app (goodIn_of _ (by decide +kernel)) ggX3_takeItemOut_X3_lotUnder
set_option maxRecDepth 20000 in
theorem ggX3_takeItemOut_X4_holds : GoodIn wsX3_takeItemOut wsX4_holds := goodIn_r _ [28, 29, 169, 170] (by decide +kernel) (by decide +kernel)
set_option maxRecDepth 20000 in
theorem gX3_takeItemOut_X4_holds : GoodIn wsX3_takeItemOut (wsV RX3 302 RX4 yX4_holds wsX4_holds) := goodIn_app (goodIn_of _ (by decide +kernel)) ggX3_takeItemOut_X4_holds
set_option maxRecDepth 20000 in
theorem ggX3_takeItemOut_X3_whyNotHolders : GoodIn wsX3_takeItemOut wsX3_whyNotHolders := goodIn_r _ [33, 34, 10, 11, 12, 13, 14, 15, 16, 17, 18, 19, 20, 35, 36, 37, 38, 39, 40, 41, 42, 43, 44, 45, 46, 47, 48, 49, 50, 51, 141, 142, 143, 144, 145, 146, 147, 148, 149, 150, 151, 152, 153, 154, 155, 156, 157, 158, 159, 160, 161, 162, 163, 164, 165, 166, 167, 168] (by decide +kernel) (by decide +kernel)
set_option maxRecDepth 20000 in
theorem gX3_takeItemOut_X3_whyNotHolders : GoodIn wsX3_takeItemOut (wsV RX3 278 RX3 yX3_whyNotHolders wsX3_whyNotHolders) := goodIn_app (goodIn_of _ (by decide +kernel)) ggX3_takeItemOut_X3_whyNotHolders
set_option maxRecDepth 20000 in
theorem ggX3_takeItemOut_X4_withoutItem : GoodIn wsX3_takeItemOut wsX4_withoutItem := goodIn_r _ [55, 29, 56, 57, 58, 59, 60, 61, 62, 63, 27, 64, 65, 66, 67, 68, 69, 70, 71, 72, 73, 169, 170] (by decide +kernel) (by decide +kernel)
set_option maxRecDepth 20000 in
theorem gX3_takeItemOut_X4_withoutItem : GoodIn wsX3_takeItemOut (wsV RX3 305 RX4 yX4_withoutItem wsX4_withoutItem) := goodIn_app (goodIn_of _ (by decide +kernel)) ggX3_takeItemOut_X4_withoutItem
set_option maxRecDepth 20000 in
theorem ggX3_takeItemOut_X3_worthOf : GoodIn wsX3_takeItemOut wsX3_worthOf := goodIn_r _ [77, 34, 78, 79, 80, 81, 82, 83, 84, 85, 86, 87, 88, 89, 90, 91, 92, 93, 94, 95, 96, 97, 98, 99, 100, 101, 102, 103, 27, 104, 29, 105, 106, 107, 108, 109, 110, 111, 112, 113, 114, 115, 116, 117, 118, 119, 120, 141, 142, 143, 144, 145, 146, 147, 148, 149, 171, 172, 173, 174, 175, 176, 177, 178, 179, 180, 181, 182, 169, 170, 183] (by decide +kernel) (by decide +kernel)
set_option maxRecDepth 20000 in
theorem gX3_takeItemOut_X3_worthOf : GoodIn wsX3_takeItemOut (wsV RX3 201 RX3 yX3_worthOf wsX3_worthOf) := goodIn_app (goodIn_of _ (by decide +kernel)) ggX3_takeItemOut_X3_worthOf
set_option maxRecDepth 20000 in
theorem ggX3_takeItemOut_X4_itemCount : GoodIn wsX3_takeItemOut wsX4_itemCount := goodIn_r _ [124, 29, 169, 170] (by decide +kernel) (by decide +kernel)
set_option maxRecDepth 20000 in
theorem gX3_takeItemOut_X4_itemCount : GoodIn wsX3_takeItemOut (wsV RX3 308 RX4 yX4_itemCount wsX4_itemCount) := goodIn_app (goodIn_of _ (by decide +kernel)) ggX3_takeItemOut_X4_itemCount
set_option maxRecDepth 20000 in
theorem ggX3_takeItemOut_X9_owed : GoodIn wsX3_takeItemOut wsX9_owed := goodIn_r _ [128, 129, 130, 131, 150, 151, 152, 153, 154, 155, 156, 157, 158, 159, 160, 161, 162, 163, 164, 165, 166, 167, 168, 184, 185, 186, 187, 188, 189] (by decide +kernel) (by decide +kernel)
set_option maxRecDepth 20000 in
theorem gX3_takeItemOut_X9_owed : GoodIn wsX3_takeItemOut (wsV RX3 258 RX9 yX9_owed wsX9_owed) := goodIn_app (goodIn_of _ (by decide +kernel)) ggX3_takeItemOut_X9_owed
set_option maxRecDepth 20000 in
theorem ggX3_takeItemOut_X3_partOf : GoodIn wsX3_takeItemOut wsX3_partOf := goodIn_r _ [135, 78, 136, 141, 142, 143, 144, 145, 146, 147, 148, 149] (by decide +kernel) (by decide +kernel)
set_option maxRecDepth 20000 in
theorem gX3_takeItemOut_X3_partOf : GoodIn wsX3_takeItemOut (wsV RX3 205 RX3 yX3_partOf wsX3_partOf) := goodIn_app (goodIn_of _ (by decide +kernel)) ggX3_takeItemOut_X3_partOf
set_option maxRecDepth 20000 in
theorem ggX3_takeItemOut_X9_endOathBy : GoodIn wsX3_takeItemOut wsX9_endOathBy := goodIn_r _ [140, 44, 150, 151, 152, 153, 154, 155, 156, 157, 158, 159, 160, 161, 162, 163, 164, 165, 166, 167, 168] (by decide +kernel) (by decide +kernel)
set_option maxRecDepth 20000 in
theorem gX3_takeItemOut_X9_endOathBy : GoodIn wsX3_takeItemOut (wsV RX3 272 RX9 yX9_endOathBy wsX9_endOathBy) := goodIn_app (goodIn_of _ (by decide +kernel)) ggX3_takeItemOut_X9_endOathBy
theorem dX3_takeItemOut_0 : decode cX3_takeItemOut 0 = .ok (.aload_n 1, 1) := by decide +kernel
theorem dX3_takeItemOut_1 : decode cX3_takeItemOut 1 = .ok (.ifnull 13, 3) := by decide +kernel
theorem dX3_takeItemOut_4 : decode cX3_takeItemOut 4 = .ok (.iload_n 3, 1) := by decide +kernel
theorem dX3_takeItemOut_5 : decode cX3_takeItemOut 5 = .ok (.ifCond .lt 9, 3) := by decide +kernel
theorem dX3_takeItemOut_8 : decode cX3_takeItemOut 8 = .ok (.iload_n 3, 1) := by decide +kernel
theorem dX3_takeItemOut_9 : decode cX3_takeItemOut 9 = .ok (.bipush 6, 2) := by decide +kernel
theorem dX3_takeItemOut_11 : decode cX3_takeItemOut 11 = .ok (.if_icmp .lt 5, 3) := by decide +kernel
theorem dX3_takeItemOut_14 : decode cX3_takeItemOut 14 = .ok (.iconst (-1), 1) := by decide +kernel
theorem dX3_takeItemOut_15 : decode cX3_takeItemOut 15 = .ok (.ireturn, 1) := by decide +kernel
theorem dX3_takeItemOut_16 : decode cX3_takeItemOut 16 = .ok (.aload_n 0, 1) := by decide +kernel
theorem dX3_takeItemOut_17 : decode cX3_takeItemOut 17 = .ok (.aload_n 1, 1) := by decide +kernel
theorem dX3_takeItemOut_18 : decode cX3_takeItemOut 18 = .ok (.invokevirtual 298, 3) := by decide +kernel
theorem dX3_takeItemOut_21 : decode cX3_takeItemOut 21 = .ok (.astore 4, 2) := by decide +kernel
theorem dX3_takeItemOut_23 : decode cX3_takeItemOut 23 = .ok (.aload 4, 2) := by decide +kernel
theorem dX3_takeItemOut_25 : decode cX3_takeItemOut 25 = .ok (.ifnull 12, 3) := by decide +kernel
theorem dX3_takeItemOut_28 : decode cX3_takeItemOut 28 = .ok (.aload 4, 2) := by decide +kernel
theorem dX3_takeItemOut_30 : decode cX3_takeItemOut 30 = .ok (.iload_n 3, 1) := by decide +kernel
theorem dX3_takeItemOut_31 : decode cX3_takeItemOut 31 = .ok (.invokevirtual 302, 3) := by decide +kernel
theorem dX3_takeItemOut_34 : decode cX3_takeItemOut 34 = .ok (.ifCond .ne 6, 3) := by decide +kernel
theorem dX3_takeItemOut_37 : decode cX3_takeItemOut 37 = .ok (.bipush (-2), 2) := by decide +kernel
theorem dX3_takeItemOut_39 : decode cX3_takeItemOut 39 = .ok (.ireturn, 1) := by decide +kernel
theorem dX3_takeItemOut_40 : decode cX3_takeItemOut 40 = .ok (.aload_n 0, 1) := by decide +kernel
theorem dX3_takeItemOut_41 : decode cX3_takeItemOut 41 = .ok (.aload_n 1, 1) := by decide +kernel
theorem dX3_takeItemOut_42 : decode cX3_takeItemOut 42 = .ok (.iload_n 2, 1) := by decide +kernel
theorem dX3_takeItemOut_43 : decode cX3_takeItemOut 43 = .ok (.invokevirtual 278, 3) := by decide +kernel
theorem dX3_takeItemOut_46 : decode cX3_takeItemOut 46 = .ok (.istore 5, 2) := by decide +kernel
theorem dX3_takeItemOut_48 : decode cX3_takeItemOut 48 = .ok (.iload 5, 2) := by decide +kernel
theorem dX3_takeItemOut_50 : decode cX3_takeItemOut 50 = .ok (.ifCond .eq 6, 3) := by decide +kernel
theorem dX3_takeItemOut_53 : decode cX3_takeItemOut 53 = .ok (.iload 5, 2) := by decide +kernel
theorem dX3_takeItemOut_55 : decode cX3_takeItemOut 55 = .ok (.ireturn, 1) := by decide +kernel
theorem dX3_takeItemOut_56 : decode cX3_takeItemOut 56 = .ok (.aload 4, 2) := by decide +kernel
theorem dX3_takeItemOut_58 : decode cX3_takeItemOut 58 = .ok (.iload_n 3, 1) := by decide +kernel
theorem dX3_takeItemOut_59 : decode cX3_takeItemOut 59 = .ok (.invokevirtual 305, 3) := by decide +kernel
theorem dX3_takeItemOut_62 : decode cX3_takeItemOut 62 = .ok (.astore 6, 2) := by decide +kernel
theorem dX3_takeItemOut_64 : decode cX3_takeItemOut 64 = .ok (.aload_n 0, 1) := by decide +kernel
theorem dX3_takeItemOut_65 : decode cX3_takeItemOut 65 = .ok (.aload 6, 2) := by decide +kernel
theorem dX3_takeItemOut_67 : decode cX3_takeItemOut 67 = .ok (.invokevirtual 201, 3) := by decide +kernel
theorem dX3_takeItemOut_70 : decode cX3_takeItemOut 70 = .ok (.istore 7, 2) := by decide +kernel
theorem dX3_takeItemOut_72 : decode cX3_takeItemOut 72 = .ok (.aload 6, 2) := by decide +kernel
theorem dX3_takeItemOut_74 : decode cX3_takeItemOut 74 = .ok (.invokevirtual 308, 3) := by decide +kernel
theorem dX3_takeItemOut_77 : decode cX3_takeItemOut 77 = .ok (.ifCond .eq 17, 3) := by decide +kernel
theorem dX3_takeItemOut_80 : decode cX3_takeItemOut 80 = .ok (.aload_n 1, 1) := by decide +kernel
theorem dX3_takeItemOut_81 : decode cX3_takeItemOut 81 = .ok (.invokevirtual 258, 3) := by decide +kernel
theorem dX3_takeItemOut_84 : decode cX3_takeItemOut 84 = .ok (.aload_n 0, 1) := by decide +kernel
theorem dX3_takeItemOut_85 : decode cX3_takeItemOut 85 = .ok (.iconst 2, 1) := by decide +kernel
theorem dX3_takeItemOut_86 : decode cX3_takeItemOut 86 = .ok (.iload 7, 2) := by decide +kernel
theorem dX3_takeItemOut_88 : decode cX3_takeItemOut 88 = .ok (.invokevirtual 205, 3) := by decide +kernel
theorem dX3_takeItemOut_91 : decode cX3_takeItemOut 91 = .ok (.if_icmp .le 6, 3) := by decide +kernel
theorem dX3_takeItemOut_94 : decode cX3_takeItemOut 94 = .ok (.bipush (-6), 2) := by decide +kernel
theorem dX3_takeItemOut_96 : decode cX3_takeItemOut 96 = .ok (.ireturn, 1) := by decide +kernel
theorem dX3_takeItemOut_97 : decode cX3_takeItemOut 97 = .ok (.aload_n 0, 1) := by decide +kernel
theorem dX3_takeItemOut_98 : decode cX3_takeItemOut 98 = .ok (.getfield 25, 3) := by decide +kernel
theorem dX3_takeItemOut_101 : decode cX3_takeItemOut 101 = .ok (.aload_n 1, 1) := by decide +kernel
theorem dX3_takeItemOut_102 : decode cX3_takeItemOut 102 = .ok (.getfield 212, 3) := by decide +kernel
theorem dX3_takeItemOut_105 : decode cX3_takeItemOut 105 = .ok (.aload 6, 2) := by decide +kernel
theorem dX3_takeItemOut_107 : decode cX3_takeItemOut 107 = .ok (.aastore, 1) := by decide +kernel
theorem dX3_takeItemOut_108 : decode cX3_takeItemOut 108 = .ok (.aload_n 1, 1) := by decide +kernel
theorem dX3_takeItemOut_109 : decode cX3_takeItemOut 109 = .ok (.iconst (-1), 1) := by decide +kernel
theorem dX3_takeItemOut_110 : decode cX3_takeItemOut 110 = .ok (.putfield 269, 3) := by decide +kernel
theorem dX3_takeItemOut_113 : decode cX3_takeItemOut 113 = .ok (.aload_n 1, 1) := by decide +kernel
theorem dX3_takeItemOut_114 : decode cX3_takeItemOut 114 = .ok (.iload_n 2, 1) := by decide +kernel
theorem dX3_takeItemOut_115 : decode cX3_takeItemOut 115 = .ok (.invokevirtual 272, 3) := by decide +kernel
theorem dX3_takeItemOut_118 : decode cX3_takeItemOut 118 = .ok (.iload 7, 2) := by decide +kernel
theorem dX3_takeItemOut_120 : decode cX3_takeItemOut 120 = .ok (.ireturn, 1) := by decide +kernel
set_option maxRecDepth 20000 in
theorem ggX3_lotUnder_X9_isHolders : GoodIn wsX3_lotUnder wsX9_isHolders := goodIn_r _ [8, 9, 10, 11, 12, 7, 13, 14, 19, 20, 21, 22, 23, 24, 25, 26, 27, 28, 29, 30, 31, 32, 33, 34, 35, 36, 37] (by decide +kernel) (by decide +kernel)
set_option maxRecDepth 20000 in
theorem gX3_lotUnder_X9_isHolders : GoodIn wsX3_lotUnder (wsV RX3 251 RX9 yX9_isHolders wsX9_isHolders) := goodIn_app (goodIn_of _ (by decide +kernel)) ggX3_lotUnder_X9_isHolders
set_option maxRecDepth 20000 in
theorem ggX3_lotUnder_X3_isPlace : GoodIn wsX3_lotUnder wsX3_isPlace := goodIn_r _ [18] (by decide +kernel) (by decide +kernel)
set_option maxRecDepth 20000 in
theorem gX3_lotUnder_X3_isPlace : GoodIn wsX3_lotUnder (va_wsS RX3 97 yX3_isPlace wsX3_isPlace) := goodIn_app (goodIn_of _ (by decide +kernel)) ggX3_lotUnder_X3_isPlace
theorem dX3_lotUnder_0 : decode cX3_lotUnder 0 = .ok (.aload_n 1, 1) := by decide +kernel
theorem dX3_lotUnder_1 : decode cX3_lotUnder 1 = .ok (.invokevirtual 251, 3) := by decide +kernel
theorem dX3_lotUnder_4 : decode cX3_lotUnder 4 = .ok (.ifCond .eq 37, 3) := by decide +kernel
theorem dX3_lotUnder_7 : decode cX3_lotUnder 7 = .ok (.aload_n 1, 1) := by decide +kernel
theorem dX3_lotUnder_8 : decode cX3_lotUnder 8 = .ok (.getfield 212, 3) := by decide +kernel
theorem dX3_lotUnder_11 : decode cX3_lotUnder 11 = .ok (.invokestatic 97, 3) := by decide +kernel
theorem dX3_lotUnder_14 : decode cX3_lotUnder 14 = .ok (.ifCond .eq 27, 3) := by decide +kernel
theorem dX3_lotUnder_17 : decode cX3_lotUnder 17 = .ok (.aload_n 0, 1) := by decide +kernel
theorem dX3_lotUnder_18 : decode cX3_lotUnder 18 = .ok (.getfield 25, 3) := by decide +kernel
theorem dX3_lotUnder_21 : decode cX3_lotUnder 21 = .ok (.aload_n 1, 1) := by decide +kernel
theorem dX3_lotUnder_22 : decode cX3_lotUnder 22 = .ok (.getfield 212, 3) := by decide +kernel
theorem dX3_lotUnder_25 : decode cX3_lotUnder 25 = .ok (.aaload, 1) := by decide +kernel
theorem dX3_lotUnder_26 : decode cX3_lotUnder 26 = .ok (.astore_n 3, 1) := by decide +kernel
theorem dX3_lotUnder_27 : decode cX3_lotUnder 27 = .ok (.aload_n 3, 1) := by decide +kernel
theorem dX3_lotUnder_28 : decode cX3_lotUnder 28 = .ok (.instanceof 170, 3) := by decide +kernel
theorem dX3_lotUnder_31 : decode cX3_lotUnder 31 = .ok (.ifCond .eq 10, 3) := by decide +kernel
theorem dX3_lotUnder_34 : decode cX3_lotUnder 34 = .ok (.aload_n 3, 1) := by decide +kernel
theorem dX3_lotUnder_35 : decode cX3_lotUnder 35 = .ok (.checkcast 170, 3) := by decide +kernel
theorem dX3_lotUnder_38 : decode cX3_lotUnder 38 = .ok (.astore_n 2, 1) := by decide +kernel
theorem dX3_lotUnder_39 : decode cX3_lotUnder 39 = .ok (.aload_n 2, 1) := by decide +kernel
theorem dX3_lotUnder_40 : decode cX3_lotUnder 40 = .ok (.areturn, 1) := by decide +kernel
theorem dX3_lotUnder_41 : decode cX3_lotUnder 41 = .ok (.aconst_null, 1) := by decide +kernel
theorem dX3_lotUnder_42 : decode cX3_lotUnder 42 = .ok (.areturn, 1) := by decide +kernel
set_option maxRecDepth 20000 in
theorem ggX3_makeForfeit_X9_isHolders : GoodIn wsX3_makeForfeit wsX9_isHolders := goodIn_r _ [8, 9, 10, 11, 12, 7, 13, 14, 62, 63, 64, 65, 66, 67, 68, 69, 70, 71, 72, 73, 74, 75, 76, 77, 78, 79, 80] (by decide +kernel) (by decide +kernel)
set_option maxRecDepth 20000 in
theorem gX3_makeForfeit_X9_isHolders : GoodIn wsX3_makeForfeit (wsV RX3 251 RX9 yX9_isHolders wsX9_isHolders) := goodIn_app (goodIn_of _ (by decide +kernel)) ggX3_makeForfeit_X9_isHolders
set_option maxRecDepth 20000 in
theorem ggX3_makeForfeit_X9_isClaimed : GoodIn wsX3_makeForfeit wsX9_isClaimed := goodIn_r _ [18, 19, 62, 63, 64, 65, 66, 67, 68, 69, 70, 71, 72, 73, 74, 75, 76, 77, 78, 79, 80] (by decide +kernel) (by decide +kernel)
set_option maxRecDepth 20000 in
theorem gX3_makeForfeit_X9_isClaimed : GoodIn wsX3_makeForfeit (wsV RX3 275 RX9 yX9_isClaimed wsX9_isClaimed) := goodIn_app (goodIn_of _ (by decide +kernel)) ggX3_makeForfeit_X9_isClaimed
set_option maxRecDepth 20000 in
theorem ggX3_makeForfeit_X9_forfeitDay : GoodIn wsX3_makeForfeit wsX9_forfeitDay := goodIn_r _ [23, 24, 25, 26, 27, 28, 29, 30, 31, 32, 33, 34, 7, 35, 36, 19, 37, 16, 17, 18, 38, 39, 40, 41, 42, 43, 44, 45, 46, 62, 63, 64, 65, 66, 67, 68, 69, 70, 71, 72, 73, 74, 75, 76, 77, 78, 79, 80, 81, 82, 83, 84, 85, 86] (by decide +kernel) (by decide +kernel)
set_option maxRecDepth 20000 in
theorem gX3_makeForfeit_X9_forfeitDay : GoodIn wsX3_makeForfeit (wsV RX3 311 RX9 yX9_forfeitDay wsX9_forfeitDay) := goodIn_app (goodIn_of _ (by decide +kernel)) ggX3_makeForfeit_X9_forfeitDay
set_option maxRecDepth 20000 in
theorem ggX3_makeForfeit_X9_owed : GoodIn wsX3_makeForfeit wsX9_owed := goodIn_r _ [50, 51, 24, 52, 62, 63, 64, 65, 66, 67, 68, 69, 70, 71, 72, 73, 74, 75, 76, 77, 78, 79, 80, 81, 82, 83, 84, 85, 86] (by decide +kernel) (by decide +kernel)
set_option maxRecDepth 20000 in
theorem gX3_makeForfeit_X9_owed : GoodIn wsX3_makeForfeit (wsV RX3 258 RX9 yX9_owed wsX9_owed) := goodIn_app (goodIn_of _ (by decide +kernel)) ggX3_makeForfeit_X9_owed
theorem dX3_makeForfeit_0 : decode cX3_makeForfeit 0 = .ok (.aload_n 1, 1) := by decide +kernel
theorem dX3_makeForfeit_1 : decode cX3_makeForfeit 1 = .ok (.ifnonnull 5, 3) := by decide +kernel
theorem dX3_makeForfeit_4 : decode cX3_makeForfeit 4 = .ok (.iconst (-1), 1) := by decide +kernel
theorem dX3_makeForfeit_5 : decode cX3_makeForfeit 5 = .ok (.ireturn, 1) := by decide +kernel
theorem dX3_makeForfeit_6 : decode cX3_makeForfeit 6 = .ok (.aload_n 1, 1) := by decide +kernel
theorem dX3_makeForfeit_7 : decode cX3_makeForfeit 7 = .ok (.invokevirtual 251, 3) := by decide +kernel
theorem dX3_makeForfeit_10 : decode cX3_makeForfeit 10 = .ok (.ifCond .ne 6, 3) := by decide +kernel
theorem dX3_makeForfeit_13 : decode cX3_makeForfeit 13 = .ok (.bipush (-2), 2) := by decide +kernel
theorem dX3_makeForfeit_15 : decode cX3_makeForfeit 15 = .ok (.ireturn, 1) := by decide +kernel
theorem dX3_makeForfeit_16 : decode cX3_makeForfeit 16 = .ok (.aload_n 1, 1) := by decide +kernel
theorem dX3_makeForfeit_17 : decode cX3_makeForfeit 17 = .ok (.invokevirtual 275, 3) := by decide +kernel
theorem dX3_makeForfeit_20 : decode cX3_makeForfeit 20 = .ok (.ifCond .eq 6, 3) := by decide +kernel
theorem dX3_makeForfeit_23 : decode cX3_makeForfeit 23 = .ok (.bipush (-3), 2) := by decide +kernel
theorem dX3_makeForfeit_25 : decode cX3_makeForfeit 25 = .ok (.ireturn, 1) := by decide +kernel
theorem dX3_makeForfeit_26 : decode cX3_makeForfeit 26 = .ok (.aload_n 0, 1) := by decide +kernel
theorem dX3_makeForfeit_27 : decode cX3_makeForfeit 27 = .ok (.getfield 50, 3) := by decide +kernel
theorem dX3_makeForfeit_30 : decode cX3_makeForfeit 30 = .ok (.aload_n 1, 1) := by decide +kernel
theorem dX3_makeForfeit_31 : decode cX3_makeForfeit 31 = .ok (.aload_n 0, 1) := by decide +kernel
theorem dX3_makeForfeit_32 : decode cX3_makeForfeit 32 = .ok (.getfield 50, 3) := by decide +kernel
theorem dX3_makeForfeit_35 : decode cX3_makeForfeit 35 = .ok (.aload_n 0, 1) := by decide +kernel
theorem dX3_makeForfeit_36 : decode cX3_makeForfeit 36 = .ok (.getfield 18, 3) := by decide +kernel
theorem dX3_makeForfeit_39 : decode cX3_makeForfeit 39 = .ok (.iconst 0, 1) := by decide +kernel
theorem dX3_makeForfeit_40 : decode cX3_makeForfeit 40 = .ok (.iaload, 1) := by decide +kernel
theorem dX3_makeForfeit_41 : decode cX3_makeForfeit 41 = .ok (.invokevirtual 311, 3) := by decide +kernel
theorem dX3_makeForfeit_44 : decode cX3_makeForfeit 44 = .ok (.if_icmp .ge 6, 3) := by decide +kernel
theorem dX3_makeForfeit_47 : decode cX3_makeForfeit 47 = .ok (.bipush (-5), 2) := by decide +kernel
theorem dX3_makeForfeit_49 : decode cX3_makeForfeit 49 = .ok (.ireturn, 1) := by decide +kernel
theorem dX3_makeForfeit_50 : decode cX3_makeForfeit 50 = .ok (.aload_n 1, 1) := by decide +kernel
theorem dX3_makeForfeit_51 : decode cX3_makeForfeit 51 = .ok (.iconst 1, 1) := by decide +kernel
theorem dX3_makeForfeit_52 : decode cX3_makeForfeit 52 = .ok (.putfield 314, 3) := by decide +kernel
theorem dX3_makeForfeit_55 : decode cX3_makeForfeit 55 = .ok (.aload_n 1, 1) := by decide +kernel
theorem dX3_makeForfeit_56 : decode cX3_makeForfeit 56 = .ok (.invokevirtual 258, 3) := by decide +kernel
theorem dX3_makeForfeit_59 : decode cX3_makeForfeit 59 = .ok (.ireturn, 1) := by decide +kernel
set_option maxRecDepth 20000 in
theorem ggX3_hearBid_X9_isForSale : GoodIn wsX3_hearBid wsX9_isForSale := goodIn_r _ [12, 13, 14, 15, 16, 11, 17, 18, 19, 20, 21, 22, 23, 24, 25, 26, 27, 28, 29, 30, 31, 32, 33, 34, 35, 36, 37] (by decide +kernel) (by decide +kernel)
set_option maxRecDepth 20000 in
theorem gX3_hearBid_X9_isForSale : GoodIn wsX3_hearBid (wsV RX3 318 RX9 yX9_isForSale wsX9_isForSale) := goodIn_app (goodIn_of _ (by decide +kernel)) ggX3_hearBid_X9_isForSale
theorem dX3_hearBid_0 : decode cX3_hearBid 0 = .ok (.aload_n 1, 1) := by decide +kernel
theorem dX3_hearBid_1 : decode cX3_hearBid 1 = .ok (.ifnonnull 5, 3) := by decide +kernel
theorem dX3_hearBid_4 : decode cX3_hearBid 4 = .ok (.iconst (-1), 1) := by decide +kernel
theorem dX3_hearBid_5 : decode cX3_hearBid 5 = .ok (.ireturn, 1) := by decide +kernel
theorem dX3_hearBid_6 : decode cX3_hearBid 6 = .ok (.aload_n 1, 1) := by decide +kernel
theorem dX3_hearBid_7 : decode cX3_hearBid 7 = .ok (.invokevirtual 318, 3) := by decide +kernel
theorem dX3_hearBid_10 : decode cX3_hearBid 10 = .ok (.ifCond .ne 6, 3) := by decide +kernel
theorem dX3_hearBid_13 : decode cX3_hearBid 13 = .ok (.bipush (-2), 2) := by decide +kernel
theorem dX3_hearBid_15 : decode cX3_hearBid 15 = .ok (.ireturn, 1) := by decide +kernel
theorem dX3_hearBid_16 : decode cX3_hearBid 16 = .ok (.iload_n 2, 1) := by decide +kernel
theorem dX3_hearBid_17 : decode cX3_hearBid 17 = .ok (.iconst 1, 1) := by decide +kernel
theorem dX3_hearBid_18 : decode cX3_hearBid 18 = .ok (.if_icmp .lt 10, 3) := by decide +kernel
theorem dX3_hearBid_21 : decode cX3_hearBid 21 = .ok (.iload_n 2, 1) := by decide +kernel
theorem dX3_hearBid_22 : decode cX3_hearBid 22 = .ok (.ldc_w 321, 3) := by decide +kernel
theorem dX3_hearBid_25 : decode cX3_hearBid 25 = .ok (.if_icmp .le 6, 3) := by decide +kernel
theorem dX3_hearBid_28 : decode cX3_hearBid 28 = .ok (.bipush (-6), 2) := by decide +kernel
theorem dX3_hearBid_30 : decode cX3_hearBid 30 = .ok (.ireturn, 1) := by decide +kernel
theorem dX3_hearBid_31 : decode cX3_hearBid 31 = .ok (.aload_n 1, 1) := by decide +kernel
theorem dX3_hearBid_32 : decode cX3_hearBid 32 = .ok (.dup, 1) := by decide +kernel
theorem dX3_hearBid_33 : decode cX3_hearBid 33 = .ok (.getfield 322, 3) := by decide +kernel
theorem dX3_hearBid_36 : decode cX3_hearBid 36 = .ok (.iconst 1, 1) := by decide +kernel
theorem dX3_hearBid_37 : decode cX3_hearBid 37 = .ok (.iadd, 1) := by decide +kernel
theorem dX3_hearBid_38 : decode cX3_hearBid 38 = .ok (.putfield 322, 3) := by decide +kernel
theorem dX3_hearBid_41 : decode cX3_hearBid 41 = .ok (.aload_n 1, 1) := by decide +kernel
theorem dX3_hearBid_42 : decode cX3_hearBid 42 = .ok (.aload_n 1, 1) := by decide +kernel
theorem dX3_hearBid_43 : decode cX3_hearBid 43 = .ok (.getfield 325, 3) := by decide +kernel
theorem dX3_hearBid_46 : decode cX3_hearBid 46 = .ok (.iload_n 2, 1) := by decide +kernel
theorem dX3_hearBid_47 : decode cX3_hearBid 47 = .ok (.invokestatic 328, 3) := by decide +kernel
theorem dX3_hearBid_50 : decode cX3_hearBid 50 = .ok (.putfield 325, 3) := by decide +kernel
theorem dX3_hearBid_53 : decode cX3_hearBid 53 = .ok (.aload_n 1, 1) := by decide +kernel
theorem dX3_hearBid_54 : decode cX3_hearBid 54 = .ok (.getfield 322, 3) := by decide +kernel
theorem dX3_hearBid_57 : decode cX3_hearBid 57 = .ok (.ireturn, 1) := by decide +kernel
set_option maxRecDepth 20000 in
theorem ggX3_sellPledge_X9_isForSale : GoodIn wsX3_sellPledge wsX9_isForSale := goodIn_r _ [19, 20, 21, 22, 23, 18, 24, 25, 89, 90, 91, 92, 93, 94, 95, 96, 97, 98, 99, 100, 101, 102, 103, 104, 105, 106, 107] (by decide +kernel) (by decide +kernel)
set_option maxRecDepth 20000 in
theorem gX3_sellPledge_X9_isForSale : GoodIn wsX3_sellPledge (wsV RX3 318 RX9 yX9_isForSale wsX9_isForSale) := goodIn_app (goodIn_of _ (by decide +kernel)) ggX3_sellPledge_X9_isForSale
set_option maxRecDepth 20000 in
theorem ggX3_sellPledge_X9_isClaimed : GoodIn wsX3_sellPledge wsX9_isClaimed := goodIn_r _ [29, 30, 89, 90, 91, 92, 93, 94, 95, 96, 97, 98, 99, 100, 101, 102, 103, 104, 105, 106, 107] (by decide +kernel) (by decide +kernel)
set_option maxRecDepth 20000 in
theorem gX3_sellPledge_X9_isClaimed : GoodIn wsX3_sellPledge (wsV RX3 275 RX9 yX9_isClaimed wsX9_isClaimed) := goodIn_app (goodIn_of _ (by decide +kernel)) ggX3_sellPledge_X9_isClaimed
set_option maxRecDepth 20000 in
theorem ggX3_sellPledge_X11_cutUp : GoodIn wsX3_sellPledge wsX11_cutUp := goodIn_r _ [33, 34, 35] (by decide +kernel) (by decide +kernel)
set_option maxRecDepth 20000 in
theorem gX3_sellPledge_X11_cutUp_n331 : GoodIn wsX3_sellPledge (wsX11_cutUp) := ggX3_sellPledge_X11_cutUp
set_option maxRecDepth 20000 in
theorem ggX3_sellPledge_X3_endTicket : GoodIn wsX3_sellPledge wsX3_endTicket := goodIn_r _ [40, 10, 41, 42, 43, 44, 45, 46, 47, 39, 48, 49, 50, 12, 51, 52, 53, 54, 55, 56, 7, 8, 9, 57, 58, 59, 60, 61, 62, 63, 64, 65, 66, 67, 68, 69, 70, 71, 72, 73, 74, 75, 76, 77, 78, 31, 32, 33, 34, 35, 79, 80, 81, 89, 90, 91, 92, 93, 94, 95, 96, 97, 98, 99, 100, 101, 102, 103, 104, 105, 106, 107, 108, 109, 110, 111, 112, 113, 114, 115, 116, 123, 117, 118, 119, 120, 121, 122] (by decide +kernel) (by decide +kernel)
set_option maxRecDepth 20000 in
theorem gX3_sellPledge_X3_endTicket : GoodIn wsX3_sellPledge (wsV RX3 291 RX3 yX3_endTicket wsX3_endTicket) := goodIn_app (goodIn_of _ (by decide +kernel)) ggX3_sellPledge_X3_endTicket
set_option maxRecDepth 20000 in
theorem ggX3_sellPledge_X9_owed : GoodIn wsX3_sellPledge wsX9_owed := goodIn_r _ [85, 86, 87, 88, 89, 90, 91, 92, 93, 94, 95, 96, 97, 98, 99, 100, 101, 102, 103, 104, 105, 106, 107, 117, 118, 119, 120, 121, 122] (by decide +kernel) (by decide +kernel)
set_option maxRecDepth 20000 in
theorem gX3_sellPledge_X9_owed : GoodIn wsX3_sellPledge (wsV RX3 258 RX9 yX9_owed wsX9_owed) := goodIn_app (goodIn_of _ (by decide +kernel)) ggX3_sellPledge_X9_owed
theorem dX3_sellPledge_0 : decode cX3_sellPledge 0 = .ok (.aload_n 1, 1) := by decide +kernel
theorem dX3_sellPledge_1 : decode cX3_sellPledge 1 = .ok (.ifnonnull 5, 3) := by decide +kernel
theorem dX3_sellPledge_4 : decode cX3_sellPledge 4 = .ok (.iconst (-1), 1) := by decide +kernel
theorem dX3_sellPledge_5 : decode cX3_sellPledge 5 = .ok (.ireturn, 1) := by decide +kernel
theorem dX3_sellPledge_6 : decode cX3_sellPledge 6 = .ok (.aload_n 1, 1) := by decide +kernel
theorem dX3_sellPledge_7 : decode cX3_sellPledge 7 = .ok (.invokevirtual 318, 3) := by decide +kernel
theorem dX3_sellPledge_10 : decode cX3_sellPledge 10 = .ok (.ifCond .eq 10, 3) := by decide +kernel
theorem dX3_sellPledge_13 : decode cX3_sellPledge 13 = .ok (.aload_n 1, 1) := by decide +kernel
theorem dX3_sellPledge_14 : decode cX3_sellPledge 14 = .ok (.getfield 322, 3) := by decide +kernel
theorem dX3_sellPledge_17 : decode cX3_sellPledge 17 = .ok (.ifCond .ne 6, 3) := by decide +kernel
theorem dX3_sellPledge_20 : decode cX3_sellPledge 20 = .ok (.bipush (-2), 2) := by decide +kernel
theorem dX3_sellPledge_22 : decode cX3_sellPledge 22 = .ok (.ireturn, 1) := by decide +kernel
theorem dX3_sellPledge_23 : decode cX3_sellPledge 23 = .ok (.aload_n 1, 1) := by decide +kernel
theorem dX3_sellPledge_24 : decode cX3_sellPledge 24 = .ok (.invokevirtual 275, 3) := by decide +kernel
theorem dX3_sellPledge_27 : decode cX3_sellPledge 27 = .ok (.ifCond .eq 6, 3) := by decide +kernel
theorem dX3_sellPledge_30 : decode cX3_sellPledge 30 = .ok (.bipush (-3), 2) := by decide +kernel
theorem dX3_sellPledge_32 : decode cX3_sellPledge 32 = .ok (.ireturn, 1) := by decide +kernel
theorem dX3_sellPledge_33 : decode cX3_sellPledge 33 = .ok (.aload_n 1, 1) := by decide +kernel
theorem dX3_sellPledge_34 : decode cX3_sellPledge 34 = .ok (.getfield 325, 3) := by decide +kernel
theorem dX3_sellPledge_37 : decode cX3_sellPledge 37 = .ok (.aload_n 0, 1) := by decide +kernel
theorem dX3_sellPledge_38 : decode cX3_sellPledge 38 = .ok (.getfield 18, 3) := by decide +kernel
theorem dX3_sellPledge_41 : decode cX3_sellPledge 41 = .ok (.iconst 1, 1) := by decide +kernel
theorem dX3_sellPledge_42 : decode cX3_sellPledge 42 = .ok (.iaload, 1) := by decide +kernel
theorem dX3_sellPledge_43 : decode cX3_sellPledge 43 = .ok (.invokestatic 331, 3) := by decide +kernel
theorem dX3_sellPledge_46 : decode cX3_sellPledge 46 = .ok (.istore_n 2, 1) := by decide +kernel
theorem dX3_sellPledge_47 : decode cX3_sellPledge 47 = .ok (.aload_n 1, 1) := by decide +kernel
theorem dX3_sellPledge_48 : decode cX3_sellPledge 48 = .ok (.getfield 325, 3) := by decide +kernel
theorem dX3_sellPledge_51 : decode cX3_sellPledge 51 = .ok (.iload_n 2, 1) := by decide +kernel
theorem dX3_sellPledge_52 : decode cX3_sellPledge 52 = .ok (.isub, 1) := by decide +kernel
theorem dX3_sellPledge_53 : decode cX3_sellPledge 53 = .ok (.istore_n 3, 1) := by decide +kernel
theorem dX3_sellPledge_54 : decode cX3_sellPledge 54 = .ok (.iload_n 3, 1) := by decide +kernel
theorem dX3_sellPledge_55 : decode cX3_sellPledge 55 = .ok (.aload_n 1, 1) := by decide +kernel
theorem dX3_sellPledge_56 : decode cX3_sellPledge 56 = .ok (.getfield 77, 3) := by decide +kernel
theorem dX3_sellPledge_59 : decode cX3_sellPledge 59 = .ok (.getfield 261, 3) := by decide +kernel
theorem dX3_sellPledge_62 : decode cX3_sellPledge 62 = .ok (.invokestatic 264, 3) := by decide +kernel
theorem dX3_sellPledge_65 : decode cX3_sellPledge 65 = .ok (.istore 4, 2) := by decide +kernel
theorem dX3_sellPledge_67 : decode cX3_sellPledge 67 = .ok (.iload_n 3, 1) := by decide +kernel
theorem dX3_sellPledge_68 : decode cX3_sellPledge 68 = .ok (.iload 4, 2) := by decide +kernel
theorem dX3_sellPledge_70 : decode cX3_sellPledge 70 = .ok (.isub, 1) := by decide +kernel
theorem dX3_sellPledge_71 : decode cX3_sellPledge 71 = .ok (.aload_n 1, 1) := by decide +kernel
theorem dX3_sellPledge_72 : decode cX3_sellPledge 72 = .ok (.getfield 81, 3) := by decide +kernel
theorem dX3_sellPledge_75 : decode cX3_sellPledge 75 = .ok (.invokestatic 264, 3) := by decide +kernel
theorem dX3_sellPledge_78 : decode cX3_sellPledge 78 = .ok (.istore 5, 2) := by decide +kernel
theorem dX3_sellPledge_80 : decode cX3_sellPledge 80 = .ok (.aload_n 1, 1) := by decide +kernel
theorem dX3_sellPledge_81 : decode cX3_sellPledge 81 = .ok (.iload_n 3, 1) := by decide +kernel
theorem dX3_sellPledge_82 : decode cX3_sellPledge 82 = .ok (.iload 4, 2) := by decide +kernel
theorem dX3_sellPledge_84 : decode cX3_sellPledge 84 = .ok (.isub, 1) := by decide +kernel
theorem dX3_sellPledge_85 : decode cX3_sellPledge 85 = .ok (.iload 5, 2) := by decide +kernel
theorem dX3_sellPledge_87 : decode cX3_sellPledge 87 = .ok (.isub, 1) := by decide +kernel
theorem dX3_sellPledge_88 : decode cX3_sellPledge 88 = .ok (.putfield 334, 3) := by decide +kernel
theorem dX3_sellPledge_91 : decode cX3_sellPledge 91 = .ok (.aload_n 1, 1) := by decide +kernel
theorem dX3_sellPledge_92 : decode cX3_sellPledge 92 = .ok (.aload_n 0, 1) := by decide +kernel
theorem dX3_sellPledge_93 : decode cX3_sellPledge 93 = .ok (.getfield 50, 3) := by decide +kernel
theorem dX3_sellPledge_96 : decode cX3_sellPledge 96 = .ok (.putfield 337, 3) := by decide +kernel
theorem dX3_sellPledge_99 : decode cX3_sellPledge 99 = .ok (.aload_n 1, 1) := by decide +kernel
theorem dX3_sellPledge_100 : decode cX3_sellPledge 100 = .ok (.aload_n 0, 1) := by decide +kernel
theorem dX3_sellPledge_101 : decode cX3_sellPledge 101 = .ok (.getfield 50, 3) := by decide +kernel
theorem dX3_sellPledge_104 : decode cX3_sellPledge 104 = .ok (.aload_n 0, 1) := by decide +kernel
theorem dX3_sellPledge_105 : decode cX3_sellPledge 105 = .ok (.getfield 18, 3) := by decide +kernel
theorem dX3_sellPledge_108 : decode cX3_sellPledge 108 = .ok (.iconst 2, 1) := by decide +kernel
theorem dX3_sellPledge_109 : decode cX3_sellPledge 109 = .ok (.iaload, 1) := by decide +kernel
theorem dX3_sellPledge_110 : decode cX3_sellPledge 110 = .ok (.iadd, 1) := by decide +kernel
theorem dX3_sellPledge_111 : decode cX3_sellPledge 111 = .ok (.putfield 340, 3) := by decide +kernel
theorem dX3_sellPledge_114 : decode cX3_sellPledge 114 = .ok (.aload_n 0, 1) := by decide +kernel
theorem dX3_sellPledge_115 : decode cX3_sellPledge 115 = .ok (.aload_n 1, 1) := by decide +kernel
theorem dX3_sellPledge_116 : decode cX3_sellPledge 116 = .ok (.iconst 2, 1) := by decide +kernel
theorem dX3_sellPledge_117 : decode cX3_sellPledge 117 = .ok (.invokevirtual 291, 3) := by decide +kernel
theorem dX3_sellPledge_120 : decode cX3_sellPledge 120 = .ok (.astore 6, 2) := by decide +kernel
theorem dX3_sellPledge_122 : decode cX3_sellPledge 122 = .ok (.aload 6, 2) := by decide +kernel
theorem dX3_sellPledge_124 : decode cX3_sellPledge 124 = .ok (.iconst 3, 1) := by decide +kernel
theorem dX3_sellPledge_125 : decode cX3_sellPledge 125 = .ok (.dup2, 1) := by decide +kernel
theorem dX3_sellPledge_126 : decode cX3_sellPledge 126 = .ok (.laload, 1) := by decide +kernel
theorem dX3_sellPledge_127 : decode cX3_sellPledge 127 = .ok (.iload_n 2, 1) := by decide +kernel
theorem dX3_sellPledge_128 : decode cX3_sellPledge 128 = .ok (.i2l, 1) := by decide +kernel
theorem dX3_sellPledge_129 : decode cX3_sellPledge 129 = .ok (.ladd, 1) := by decide +kernel
theorem dX3_sellPledge_130 : decode cX3_sellPledge 130 = .ok (.lastore, 1) := by decide +kernel
theorem dX3_sellPledge_131 : decode cX3_sellPledge 131 = .ok (.aload 6, 2) := by decide +kernel
theorem dX3_sellPledge_133 : decode cX3_sellPledge 133 = .ok (.iconst 1, 1) := by decide +kernel
theorem dX3_sellPledge_134 : decode cX3_sellPledge 134 = .ok (.dup2, 1) := by decide +kernel
theorem dX3_sellPledge_135 : decode cX3_sellPledge 135 = .ok (.laload, 1) := by decide +kernel
theorem dX3_sellPledge_136 : decode cX3_sellPledge 136 = .ok (.iload 4, 2) := by decide +kernel
theorem dX3_sellPledge_138 : decode cX3_sellPledge 138 = .ok (.i2l, 1) := by decide +kernel
theorem dX3_sellPledge_139 : decode cX3_sellPledge 139 = .ok (.ladd, 1) := by decide +kernel
theorem dX3_sellPledge_140 : decode cX3_sellPledge 140 = .ok (.lastore, 1) := by decide +kernel
theorem dX3_sellPledge_141 : decode cX3_sellPledge 141 = .ok (.aload 6, 2) := by decide +kernel
theorem dX3_sellPledge_143 : decode cX3_sellPledge 143 = .ok (.iconst 2, 1) := by decide +kernel
theorem dX3_sellPledge_144 : decode cX3_sellPledge 144 = .ok (.dup2, 1) := by decide +kernel
theorem dX3_sellPledge_145 : decode cX3_sellPledge 145 = .ok (.laload, 1) := by decide +kernel
theorem dX3_sellPledge_146 : decode cX3_sellPledge 146 = .ok (.iload 5, 2) := by decide +kernel
theorem dX3_sellPledge_148 : decode cX3_sellPledge 148 = .ok (.i2l, 1) := by decide +kernel
theorem dX3_sellPledge_149 : decode cX3_sellPledge 149 = .ok (.ladd, 1) := by decide +kernel
theorem dX3_sellPledge_150 : decode cX3_sellPledge 150 = .ok (.lastore, 1) := by decide +kernel
theorem dX3_sellPledge_151 : decode cX3_sellPledge 151 = .ok (.aload 6, 2) := by decide +kernel
theorem dX3_sellPledge_153 : decode cX3_sellPledge 153 = .ok (.bipush 7, 2) := by decide +kernel
theorem dX3_sellPledge_155 : decode cX3_sellPledge 155 = .ok (.dup2, 1) := by decide +kernel
theorem dX3_sellPledge_156 : decode cX3_sellPledge 156 = .ok (.laload, 1) := by decide +kernel
theorem dX3_sellPledge_157 : decode cX3_sellPledge 157 = .ok (.aload_n 1, 1) := by decide +kernel
theorem dX3_sellPledge_158 : decode cX3_sellPledge 158 = .ok (.invokevirtual 258, 3) := by decide +kernel
theorem dX3_sellPledge_161 : decode cX3_sellPledge 161 = .ok (.iload 4, 2) := by decide +kernel
theorem dX3_sellPledge_163 : decode cX3_sellPledge 163 = .ok (.isub, 1) := by decide +kernel
theorem dX3_sellPledge_164 : decode cX3_sellPledge 164 = .ok (.iload 5, 2) := by decide +kernel
theorem dX3_sellPledge_166 : decode cX3_sellPledge 166 = .ok (.isub, 1) := by decide +kernel
theorem dX3_sellPledge_167 : decode cX3_sellPledge 167 = .ok (.i2l, 1) := by decide +kernel
theorem dX3_sellPledge_168 : decode cX3_sellPledge 168 = .ok (.ladd, 1) := by decide +kernel
theorem dX3_sellPledge_169 : decode cX3_sellPledge 169 = .ok (.lastore, 1) := by decide +kernel
theorem dX3_sellPledge_170 : decode cX3_sellPledge 170 = .ok (.aload 6, 2) := by decide +kernel
theorem dX3_sellPledge_172 : decode cX3_sellPledge 172 = .ok (.bipush 13, 2) := by decide +kernel
theorem dX3_sellPledge_174 : decode cX3_sellPledge 174 = .ok (.dup2, 1) := by decide +kernel
theorem dX3_sellPledge_175 : decode cX3_sellPledge 175 = .ok (.laload, 1) := by decide +kernel
theorem dX3_sellPledge_176 : decode cX3_sellPledge 176 = .ok (.aload_n 1, 1) := by decide +kernel
theorem dX3_sellPledge_177 : decode cX3_sellPledge 177 = .ok (.getfield 81, 3) := by decide +kernel
theorem dX3_sellPledge_180 : decode cX3_sellPledge 180 = .ok (.iload 5, 2) := by decide +kernel
theorem dX3_sellPledge_182 : decode cX3_sellPledge 182 = .ok (.isub, 1) := by decide +kernel
theorem dX3_sellPledge_183 : decode cX3_sellPledge 183 = .ok (.i2l, 1) := by decide +kernel
theorem dX3_sellPledge_184 : decode cX3_sellPledge 184 = .ok (.ladd, 1) := by decide +kernel
theorem dX3_sellPledge_185 : decode cX3_sellPledge 185 = .ok (.lastore, 1) := by decide +kernel
theorem dX3_sellPledge_186 : decode cX3_sellPledge 186 = .ok (.aload_n 1, 1) := by decide +kernel
theorem dX3_sellPledge_187 : decode cX3_sellPledge 187 = .ok (.getfield 325, 3) := by decide +kernel
theorem dX3_sellPledge_190 : decode cX3_sellPledge 190 = .ok (.ireturn, 1) := by decide +kernel
set_option maxRecDepth 20000 in
theorem ggX3_handOver_X9_isRight : GoodIn wsX3_handOver wsX9_isRight := goodIn_r _ [8, 9, 10, 11, 12, 13, 14, 7, 15, 16, 57, 58, 59, 60, 61, 62, 63, 64, 65, 66, 67, 68, 69, 70, 71, 72, 73, 74, 75] (by decide +kernel) (by decide +kernel)
set_option maxRecDepth 20000 in
theorem gX3_handOver_X9_isRight : GoodIn wsX3_handOver (wsV RX3 254 RX9 yX9_isRight wsX9_isRight) := goodIn_app (goodIn_of _ (by decide +kernel)) ggX3_handOver_X9_isRight
set_option maxRecDepth 20000 in
theorem ggX3_handOver_X9_isKeptOver : GoodIn wsX3_handOver wsX9_isKeptOver := goodIn_r _ [20, 21, 22, 23, 24, 7, 25, 26, 27, 28, 57, 58, 59, 60, 61, 62, 63, 64, 65, 66, 67, 68, 69, 70, 71, 72, 73, 74, 75] (by decide +kernel) (by decide +kernel)
set_option maxRecDepth 20000 in
theorem gX3_handOver_X9_isKeptOver : GoodIn wsX3_handOver (wsV RX3 346 RX9 yX9_isKeptOver wsX9_isKeptOver) := goodIn_app (goodIn_of _ (by decide +kernel)) ggX3_handOver_X9_isKeptOver
set_option maxRecDepth 20000 in
theorem ggX3_handOver_X9_endOathBy : GoodIn wsX3_handOver wsX9_endOathBy := goodIn_r _ [32, 9, 57, 58, 59, 60, 61, 62, 63, 64, 65, 66, 67, 68, 69, 70, 71, 72, 73, 74, 75] (by decide +kernel) (by decide +kernel)
set_option maxRecDepth 20000 in
theorem gX3_handOver_X9_endOathBy : GoodIn wsX3_handOver (wsV RX3 272 RX9 yX9_endOathBy wsX9_endOathBy) := goodIn_app (goodIn_of _ (by decide +kernel)) ggX3_handOver_X9_endOathBy
set_option maxRecDepth 20000 in
theorem ggX3_handOver_X3_addRow : GoodIn wsX3_handOver wsX3_addRow := goodIn_r _ [37, 38, 39, 3, 40, 41, 42, 43, 44, 45, 46, 47, 48, 49, 50, 51, 52, 53, 54, 55, 56, 76, 77, 78, 79, 80, 81, 82, 83, 84, 85] (by decide +kernel) (by decide +kernel)
set_option maxRecDepth 20000 in
theorem gX3_handOver_X3_addRow : GoodIn wsX3_handOver (wsV RX3 104 RX3 yX3_addRow wsX3_addRow) := goodIn_app (goodIn_of _ (by decide +kernel)) ggX3_handOver_X3_addRow
theorem dX3_handOver_0 : decode cX3_handOver 0 = .ok (.aload_n 1, 1) := by decide +kernel
theorem dX3_handOver_1 : decode cX3_handOver 1 = .ok (.ifnonnull 5, 3) := by decide +kernel
theorem dX3_handOver_4 : decode cX3_handOver 4 = .ok (.iconst (-1), 1) := by decide +kernel
theorem dX3_handOver_5 : decode cX3_handOver 5 = .ok (.ireturn, 1) := by decide +kernel
theorem dX3_handOver_6 : decode cX3_handOver 6 = .ok (.aload_n 1, 1) := by decide +kernel
theorem dX3_handOver_7 : decode cX3_handOver 7 = .ok (.getfield 334, 3) := by decide +kernel
theorem dX3_handOver_10 : decode cX3_handOver 10 = .ok (.ifCond .eq 11, 3) := by decide +kernel
theorem dX3_handOver_13 : decode cX3_handOver 13 = .ok (.aload_n 1, 1) := by decide +kernel
theorem dX3_handOver_14 : decode cX3_handOver 14 = .ok (.getfield 343, 3) := by decide +kernel
theorem dX3_handOver_17 : decode cX3_handOver 17 = .ok (.iconst (-1), 1) := by decide +kernel
theorem dX3_handOver_18 : decode cX3_handOver 18 = .ok (.if_icmp .eq 6, 3) := by decide +kernel
theorem dX3_handOver_21 : decode cX3_handOver 21 = .ok (.bipush (-2), 2) := by decide +kernel
theorem dX3_handOver_23 : decode cX3_handOver 23 = .ok (.ireturn, 1) := by decide +kernel
theorem dX3_handOver_24 : decode cX3_handOver 24 = .ok (.aload_n 1, 1) := by decide +kernel
theorem dX3_handOver_25 : decode cX3_handOver 25 = .ok (.iload_n 2, 1) := by decide +kernel
theorem dX3_handOver_26 : decode cX3_handOver 26 = .ok (.aload_n 0, 1) := by decide +kernel
theorem dX3_handOver_27 : decode cX3_handOver 27 = .ok (.getfield 50, 3) := by decide +kernel
theorem dX3_handOver_30 : decode cX3_handOver 30 = .ok (.invokevirtual 254, 3) := by decide +kernel
theorem dX3_handOver_33 : decode cX3_handOver 33 = .ok (.ifCond .ne 6, 3) := by decide +kernel
theorem dX3_handOver_36 : decode cX3_handOver 36 = .ok (.bipush (-4), 2) := by decide +kernel
theorem dX3_handOver_38 : decode cX3_handOver 38 = .ok (.ireturn, 1) := by decide +kernel
theorem dX3_handOver_39 : decode cX3_handOver 39 = .ok (.aload_n 1, 1) := by decide +kernel
theorem dX3_handOver_40 : decode cX3_handOver 40 = .ok (.aload_n 0, 1) := by decide +kernel
theorem dX3_handOver_41 : decode cX3_handOver 41 = .ok (.getfield 50, 3) := by decide +kernel
theorem dX3_handOver_44 : decode cX3_handOver 44 = .ok (.invokevirtual 346, 3) := by decide +kernel
theorem dX3_handOver_47 : decode cX3_handOver 47 = .ok (.ifCond .ne 6, 3) := by decide +kernel
theorem dX3_handOver_50 : decode cX3_handOver 50 = .ok (.bipush (-5), 2) := by decide +kernel
theorem dX3_handOver_52 : decode cX3_handOver 52 = .ok (.ireturn, 1) := by decide +kernel
theorem dX3_handOver_53 : decode cX3_handOver 53 = .ok (.aload_n 1, 1) := by decide +kernel
theorem dX3_handOver_54 : decode cX3_handOver 54 = .ok (.aload_n 0, 1) := by decide +kernel
theorem dX3_handOver_55 : decode cX3_handOver 55 = .ok (.getfield 50, 3) := by decide +kernel
theorem dX3_handOver_58 : decode cX3_handOver 58 = .ok (.putfield 343, 3) := by decide +kernel
theorem dX3_handOver_61 : decode cX3_handOver 61 = .ok (.aload_n 1, 1) := by decide +kernel
theorem dX3_handOver_62 : decode cX3_handOver 62 = .ok (.iload_n 2, 1) := by decide +kernel
theorem dX3_handOver_63 : decode cX3_handOver 63 = .ok (.invokevirtual 272, 3) := by decide +kernel
theorem dX3_handOver_66 : decode cX3_handOver 66 = .ok (.aload_n 0, 1) := by decide +kernel
theorem dX3_handOver_67 : decode cX3_handOver 67 = .ok (.invokevirtual 104, 3) := by decide +kernel
theorem dX3_handOver_70 : decode cX3_handOver 70 = .ok (.iconst 5, 1) := by decide +kernel
theorem dX3_handOver_71 : decode cX3_handOver 71 = .ok (.dup2, 1) := by decide +kernel
theorem dX3_handOver_72 : decode cX3_handOver 72 = .ok (.laload, 1) := by decide +kernel
theorem dX3_handOver_73 : decode cX3_handOver 73 = .ok (.aload_n 1, 1) := by decide +kernel
theorem dX3_handOver_74 : decode cX3_handOver 74 = .ok (.getfield 334, 3) := by decide +kernel
theorem dX3_handOver_77 : decode cX3_handOver 77 = .ok (.i2l, 1) := by decide +kernel
theorem dX3_handOver_78 : decode cX3_handOver 78 = .ok (.ladd, 1) := by decide +kernel
theorem dX3_handOver_79 : decode cX3_handOver 79 = .ok (.lastore, 1) := by decide +kernel
theorem dX3_handOver_80 : decode cX3_handOver 80 = .ok (.aload_n 1, 1) := by decide +kernel
theorem dX3_handOver_81 : decode cX3_handOver 81 = .ok (.getfield 334, 3) := by decide +kernel
theorem dX3_handOver_84 : decode cX3_handOver 84 = .ok (.ireturn, 1) := by decide +kernel
set_option maxRecDepth 20000 in
theorem ggX3_raiseClaim_X9_isOpen : GoodIn wsX3_raiseClaim wsX9_isOpen := goodIn_r _ [8, 9, 24, 25, 26, 27, 28, 29, 30, 31, 32, 33, 34, 35, 36, 37, 38, 39, 40, 41, 42] (by decide +kernel) (by decide +kernel)
set_option maxRecDepth 20000 in
theorem gX3_raiseClaim_X9_isOpen : GoodIn wsX3_raiseClaim (wsV RX3 236 RX9 yX9_isOpen wsX9_isOpen) := goodIn_app (goodIn_of _ (by decide +kernel)) ggX3_raiseClaim_X9_isOpen
set_option maxRecDepth 20000 in
theorem ggX3_raiseClaim_X9_isClaimed : GoodIn wsX3_raiseClaim wsX9_isClaimed := goodIn_r _ [13, 14, 24, 25, 26, 27, 28, 29, 30, 31, 32, 33, 34, 35, 36, 37, 38, 39, 40, 41, 42] (by decide +kernel) (by decide +kernel)
set_option maxRecDepth 20000 in
theorem gX3_raiseClaim_X9_isClaimed : GoodIn wsX3_raiseClaim (wsV RX3 275 RX9 yX9_isClaimed wsX9_isClaimed) := goodIn_app (goodIn_of _ (by decide +kernel)) ggX3_raiseClaim_X9_isClaimed
theorem dX3_raiseClaim_0 : decode cX3_raiseClaim 0 = .ok (.aload_n 1, 1) := by decide +kernel
theorem dX3_raiseClaim_1 : decode cX3_raiseClaim 1 = .ok (.ifnonnull 5, 3) := by decide +kernel
theorem dX3_raiseClaim_4 : decode cX3_raiseClaim 4 = .ok (.iconst (-1), 1) := by decide +kernel
theorem dX3_raiseClaim_5 : decode cX3_raiseClaim 5 = .ok (.ireturn, 1) := by decide +kernel
theorem dX3_raiseClaim_6 : decode cX3_raiseClaim 6 = .ok (.aload_n 1, 1) := by decide +kernel
theorem dX3_raiseClaim_7 : decode cX3_raiseClaim 7 = .ok (.invokevirtual 236, 3) := by decide +kernel
theorem dX3_raiseClaim_10 : decode cX3_raiseClaim 10 = .ok (.ifCond .ne 6, 3) := by decide +kernel
theorem dX3_raiseClaim_13 : decode cX3_raiseClaim 13 = .ok (.bipush (-2), 2) := by decide +kernel
theorem dX3_raiseClaim_15 : decode cX3_raiseClaim 15 = .ok (.ireturn, 1) := by decide +kernel
theorem dX3_raiseClaim_16 : decode cX3_raiseClaim 16 = .ok (.aload_n 1, 1) := by decide +kernel
theorem dX3_raiseClaim_17 : decode cX3_raiseClaim 17 = .ok (.invokevirtual 275, 3) := by decide +kernel
theorem dX3_raiseClaim_20 : decode cX3_raiseClaim 20 = .ok (.ifCond .eq 6, 3) := by decide +kernel
theorem dX3_raiseClaim_23 : decode cX3_raiseClaim 23 = .ok (.bipush (-3), 2) := by decide +kernel
theorem dX3_raiseClaim_25 : decode cX3_raiseClaim 25 = .ok (.ireturn, 1) := by decide +kernel
theorem dX3_raiseClaim_26 : decode cX3_raiseClaim 26 = .ok (.aload_n 1, 1) := by decide +kernel
theorem dX3_raiseClaim_27 : decode cX3_raiseClaim 27 = .ok (.aload_n 0, 1) := by decide +kernel
theorem dX3_raiseClaim_28 : decode cX3_raiseClaim 28 = .ok (.getfield 50, 3) := by decide +kernel
theorem dX3_raiseClaim_31 : decode cX3_raiseClaim 31 = .ok (.putfield 349, 3) := by decide +kernel
theorem dX3_raiseClaim_34 : decode cX3_raiseClaim 34 = .ok (.aload_n 1, 1) := by decide +kernel
theorem dX3_raiseClaim_35 : decode cX3_raiseClaim 35 = .ok (.iconst (-1), 1) := by decide +kernel
theorem dX3_raiseClaim_36 : decode cX3_raiseClaim 36 = .ok (.putfield 269, 3) := by decide +kernel
theorem dX3_raiseClaim_39 : decode cX3_raiseClaim 39 = .ok (.iconst 0, 1) := by decide +kernel
theorem dX3_raiseClaim_40 : decode cX3_raiseClaim 40 = .ok (.ireturn, 1) := by decide +kernel
set_option maxRecDepth 20000 in
theorem ggX3_whyNotClaimed_X9_isOpen : GoodIn wsX3_whyNotClaimed wsX9_isOpen := goodIn_r _ [5, 6, 12, 13, 14, 15, 16, 17, 18, 19, 20, 21, 22, 23, 24, 25, 26, 27, 28, 29, 30] (by decide +kernel) (by decide +kernel)
set_option maxRecDepth 20000 in
theorem gX3_whyNotClaimed_X9_isOpen : GoodIn wsX3_whyNotClaimed (wsV RX3 236 RX9 yX9_isOpen wsX9_isOpen) := goodIn_app (goodIn_of _ (by decide +kernel)) ggX3_whyNotClaimed_X9_isOpen
set_option maxRecDepth 20000 in
theorem ggX3_whyNotClaimed_X9_isClaimed : GoodIn wsX3_whyNotClaimed wsX9_isClaimed := goodIn_r _ [10, 11, 12, 13, 14, 15, 16, 17, 18, 19, 20, 21, 22, 23, 24, 25, 26, 27, 28, 29, 30] (by decide +kernel) (by decide +kernel)
set_option maxRecDepth 20000 in
theorem gX3_whyNotClaimed_X9_isClaimed : GoodIn wsX3_whyNotClaimed (wsV RX3 275 RX9 yX9_isClaimed wsX9_isClaimed) := goodIn_app (goodIn_of _ (by decide +kernel)) ggX3_whyNotClaimed_X9_isClaimed
theorem dX3_whyNotClaimed_0 : decode cX3_whyNotClaimed 0 = .ok (.aload_n 0, 1) := by decide +kernel
theorem dX3_whyNotClaimed_1 : decode cX3_whyNotClaimed 1 = .ok (.ifnonnull 5, 3) := by decide +kernel
theorem dX3_whyNotClaimed_4 : decode cX3_whyNotClaimed 4 = .ok (.iconst (-1), 1) := by decide +kernel
theorem dX3_whyNotClaimed_5 : decode cX3_whyNotClaimed 5 = .ok (.ireturn, 1) := by decide +kernel
theorem dX3_whyNotClaimed_6 : decode cX3_whyNotClaimed 6 = .ok (.aload_n 0, 1) := by decide +kernel
theorem dX3_whyNotClaimed_7 : decode cX3_whyNotClaimed 7 = .ok (.invokevirtual 236, 3) := by decide +kernel
theorem dX3_whyNotClaimed_10 : decode cX3_whyNotClaimed 10 = .ok (.ifCond .ne 6, 3) := by decide +kernel
theorem dX3_whyNotClaimed_13 : decode cX3_whyNotClaimed 13 = .ok (.bipush (-2), 2) := by decide +kernel
theorem dX3_whyNotClaimed_15 : decode cX3_whyNotClaimed 15 = .ok (.ireturn, 1) := by decide +kernel
theorem dX3_whyNotClaimed_16 : decode cX3_whyNotClaimed 16 = .ok (.aload_n 0, 1) := by decide +kernel
theorem dX3_whyNotClaimed_17 : decode cX3_whyNotClaimed 17 = .ok (.invokevirtual 275, 3) := by decide +kernel
theorem dX3_whyNotClaimed_20 : decode cX3_whyNotClaimed 20 = .ok (.ifCond .eq 7, 3) := by decide +kernel
theorem dX3_whyNotClaimed_23 : decode cX3_whyNotClaimed 23 = .ok (.iconst 0, 1) := by decide +kernel
theorem dX3_whyNotClaimed_24 : decode cX3_whyNotClaimed 24 = .ok (.goto 5, 3) := by decide +kernel
theorem dX3_whyNotClaimed_27 : decode cX3_whyNotClaimed 27 = .ok (.bipush (-3), 2) := by decide +kernel
theorem dX3_whyNotClaimed_29 : decode cX3_whyNotClaimed 29 = .ok (.ireturn, 1) := by decide +kernel
set_option maxRecDepth 20000 in
theorem ggX3_dropClaim_X3_whyNotClaimed : GoodIn wsX3_dropClaim wsX3_whyNotClaimed := goodIn_r _ [7, 8, 9, 10, 11, 12, 13, 14, 15, 16, 17, 18, 54, 55, 56, 57, 58, 59, 60, 61, 62, 63, 64, 65, 66, 67, 68, 69, 70, 71, 72] (by decide +kernel) (by decide +kernel)
set_option maxRecDepth 20000 in
theorem gX3_dropClaim_X3_whyNotClaimed : GoodIn wsX3_dropClaim (va_wsS RX3 352 yX3_whyNotClaimed wsX3_whyNotClaimed) := goodIn_app (goodIn_of _ (by decide +kernel)) ggX3_dropClaim_X3_whyNotClaimed
set_option maxRecDepth 20000 in
theorem ggX3_dropClaim_X9_endClaim : GoodIn wsX3_dropClaim wsX9_endClaim := goodIn_r _ [22, 23, 24, 18, 25, 26, 27, 11, 28, 29, 15, 16, 17, 30, 31, 32, 33, 34, 35, 36, 37, 38, 39, 40, 41, 42, 43, 44, 54, 55, 56, 57, 58, 59, 60, 61, 62, 63, 64, 65, 66, 67, 68, 69, 70, 71, 72, 73, 74, 75, 76, 77, 78] (by decide +kernel) (by decide +kernel)
set_option maxRecDepth 20000 in
theorem gX3_dropClaim_X9_endClaim : GoodIn wsX3_dropClaim (wsV RX3 356 RX9 yX9_endClaim wsX9_endClaim) := goodIn_app (goodIn_of _ (by decide +kernel)) ggX3_dropClaim_X9_endClaim
theorem dX3_dropClaim_0 : decode cX3_dropClaim 0 = .ok (.aload_n 1, 1) := by decide +kernel
theorem dX3_dropClaim_1 : decode cX3_dropClaim 1 = .ok (.invokestatic 352, 3) := by decide +kernel
theorem dX3_dropClaim_4 : decode cX3_dropClaim 4 = .ok (.istore_n 2, 1) := by decide +kernel
theorem dX3_dropClaim_5 : decode cX3_dropClaim 5 = .ok (.iload_n 2, 1) := by decide +kernel
theorem dX3_dropClaim_6 : decode cX3_dropClaim 6 = .ok (.ifCond .eq 5, 3) := by decide +kernel
theorem dX3_dropClaim_9 : decode cX3_dropClaim 9 = .ok (.iload_n 2, 1) := by decide +kernel
theorem dX3_dropClaim_10 : decode cX3_dropClaim 10 = .ok (.ireturn, 1) := by decide +kernel
theorem dX3_dropClaim_11 : decode cX3_dropClaim 11 = .ok (.aload_n 1, 1) := by decide +kernel
theorem dX3_dropClaim_12 : decode cX3_dropClaim 12 = .ok (.aload_n 0, 1) := by decide +kernel
theorem dX3_dropClaim_13 : decode cX3_dropClaim 13 = .ok (.getfield 50, 3) := by decide +kernel
theorem dX3_dropClaim_16 : decode cX3_dropClaim 16 = .ok (.invokevirtual 356, 3) := by decide +kernel
theorem dX3_dropClaim_19 : decode cX3_dropClaim 19 = .ok (.aload_n 1, 1) := by decide +kernel
theorem dX3_dropClaim_20 : decode cX3_dropClaim 20 = .ok (.getfield 77, 3) := by decide +kernel
theorem dX3_dropClaim_23 : decode cX3_dropClaim 23 = .ok (.getfield 359, 3) := by decide +kernel
theorem dX3_dropClaim_26 : decode cX3_dropClaim 26 = .ok (.ireturn, 1) := by decide +kernel
set_option maxRecDepth 20000 in
theorem ggX3_proveClaim_X3_whyNotClaimed : GoodIn wsX3_proveClaim wsX3_whyNotClaimed := goodIn_r _ [6, 7, 8, 9, 10, 11, 12, 13, 14, 15, 16, 17, 108, 109, 110, 111, 112, 113, 114, 115, 116, 117, 118, 119, 120, 121, 122, 123, 124, 125, 126] (by decide +kernel) (by decide +kernel)
set_option maxRecDepth 20000 in
theorem gX3_proveClaim_X3_whyNotClaimed : GoodIn wsX3_proveClaim (va_wsS RX3 352 yX3_whyNotClaimed wsX3_whyNotClaimed) := goodIn_app (goodIn_of _ (by decide +kernel)) ggX3_proveClaim_X3_whyNotClaimed
set_option maxRecDepth 20000 in
theorem ggX3_proveClaim_X9_endClaim : GoodIn wsX3_proveClaim wsX9_endClaim := goodIn_r _ [21, 22, 23, 17, 24, 25, 26, 10, 27, 28, 14, 15, 16, 29, 30, 31, 32, 33, 34, 35, 36, 37, 38, 39, 40, 41, 42, 43, 108, 109, 110, 111, 112, 113, 114, 115, 116, 117, 118, 119, 120, 121, 122, 123, 124, 125, 126, 127, 128, 129, 130, 131, 132] (by decide +kernel) (by decide +kernel)
set_option maxRecDepth 20000 in
theorem gX3_proveClaim_X9_endClaim : GoodIn wsX3_proveClaim (wsV RX3 356 RX9 yX9_endClaim wsX9_endClaim) := goodIn_app (goodIn_of _ (by decide +kernel)) ggX3_proveClaim_X9_endClaim
set_option maxRecDepth 20000 in
theorem ggX3_proveClaim_X3_endTicket : GoodIn wsX3_proveClaim wsX3_endTicket := goodIn_r _ [47, 2, 48, 49, 50, 51, 52, 53, 54, 5, 55, 56, 57, 1, 58, 59, 60, 61, 62, 63, 64, 36, 65, 66, 35, 37, 67, 68, 69, 70, 71, 72, 73, 74, 75, 76, 77, 78, 79, 80, 81, 82, 32, 83, 84, 85, 86, 87, 88, 89, 90, 91, 92, 108, 109, 110, 111, 112, 113, 114, 115, 116, 117, 118, 119, 120, 121, 122, 123, 124, 125, 126, 99, 100, 101, 102, 103, 104, 105, 106, 107, 133, 127, 128, 129, 130, 131, 132] (by decide +kernel) (by decide +kernel)
set_option maxRecDepth 20000 in
theorem gX3_proveClaim_X3_endTicket : GoodIn wsX3_proveClaim (wsV RX3 291 RX3 yX3_endTicket wsX3_endTicket) := goodIn_app (goodIn_of _ (by decide +kernel)) ggX3_proveClaim_X3_endTicket
set_option maxRecDepth 20000 in
theorem ggX3_proveClaim_X9_owed : GoodIn wsX3_proveClaim wsX9_owed := goodIn_r _ [96, 97, 22, 98, 108, 109, 110, 111, 112, 113, 114, 115, 116, 117, 118, 119, 120, 121, 122, 123, 124, 125, 126, 127, 128, 129, 130, 131, 132] (by decide +kernel) (by decide +kernel)
set_option maxRecDepth 20000 in
theorem gX3_proveClaim_X9_owed : GoodIn wsX3_proveClaim (wsV RX3 258 RX9 yX9_owed wsX9_owed) := goodIn_app (goodIn_of _ (by decide +kernel)) ggX3_proveClaim_X9_owed
theorem dX3_proveClaim_0 : decode cX3_proveClaim 0 = .ok (.aload_n 1, 1) := by decide +kernel
theorem dX3_proveClaim_1 : decode cX3_proveClaim 1 = .ok (.invokestatic 352, 3) := by decide +kernel
theorem dX3_proveClaim_4 : decode cX3_proveClaim 4 = .ok (.istore_n 2, 1) := by decide +kernel
theorem dX3_proveClaim_5 : decode cX3_proveClaim 5 = .ok (.iload_n 2, 1) := by decide +kernel
theorem dX3_proveClaim_6 : decode cX3_proveClaim 6 = .ok (.ifCond .eq 5, 3) := by decide +kernel
theorem dX3_proveClaim_9 : decode cX3_proveClaim 9 = .ok (.iload_n 2, 1) := by decide +kernel
theorem dX3_proveClaim_10 : decode cX3_proveClaim 10 = .ok (.ireturn, 1) := by decide +kernel
theorem dX3_proveClaim_11 : decode cX3_proveClaim 11 = .ok (.aload_n 1, 1) := by decide +kernel
theorem dX3_proveClaim_12 : decode cX3_proveClaim 12 = .ok (.aload_n 0, 1) := by decide +kernel
theorem dX3_proveClaim_13 : decode cX3_proveClaim 13 = .ok (.getfield 50, 3) := by decide +kernel
theorem dX3_proveClaim_16 : decode cX3_proveClaim 16 = .ok (.invokevirtual 356, 3) := by decide +kernel
theorem dX3_proveClaim_19 : decode cX3_proveClaim 19 = .ok (.aload_n 0, 1) := by decide +kernel
theorem dX3_proveClaim_20 : decode cX3_proveClaim 20 = .ok (.aload_n 1, 1) := by decide +kernel
theorem dX3_proveClaim_21 : decode cX3_proveClaim 21 = .ok (.iconst 3, 1) := by decide +kernel
theorem dX3_proveClaim_22 : decode cX3_proveClaim 22 = .ok (.invokevirtual 291, 3) := by decide +kernel
theorem dX3_proveClaim_25 : decode cX3_proveClaim 25 = .ok (.astore_n 3, 1) := by decide +kernel
theorem dX3_proveClaim_26 : decode cX3_proveClaim 26 = .ok (.aload_n 3, 1) := by decide +kernel
theorem dX3_proveClaim_27 : decode cX3_proveClaim 27 = .ok (.bipush 7, 2) := by decide +kernel
theorem dX3_proveClaim_29 : decode cX3_proveClaim 29 = .ok (.dup2, 1) := by decide +kernel
theorem dX3_proveClaim_30 : decode cX3_proveClaim 30 = .ok (.laload, 1) := by decide +kernel
theorem dX3_proveClaim_31 : decode cX3_proveClaim 31 = .ok (.aload_n 1, 1) := by decide +kernel
theorem dX3_proveClaim_32 : decode cX3_proveClaim 32 = .ok (.invokevirtual 258, 3) := by decide +kernel
theorem dX3_proveClaim_35 : decode cX3_proveClaim 35 = .ok (.i2l, 1) := by decide +kernel
theorem dX3_proveClaim_36 : decode cX3_proveClaim 36 = .ok (.ladd, 1) := by decide +kernel
theorem dX3_proveClaim_37 : decode cX3_proveClaim 37 = .ok (.lastore, 1) := by decide +kernel
theorem dX3_proveClaim_38 : decode cX3_proveClaim 38 = .ok (.aload_n 3, 1) := by decide +kernel
theorem dX3_proveClaim_39 : decode cX3_proveClaim 39 = .ok (.bipush 13, 2) := by decide +kernel
theorem dX3_proveClaim_41 : decode cX3_proveClaim 41 = .ok (.dup2, 1) := by decide +kernel
theorem dX3_proveClaim_42 : decode cX3_proveClaim 42 = .ok (.laload, 1) := by decide +kernel
theorem dX3_proveClaim_43 : decode cX3_proveClaim 43 = .ok (.aload_n 1, 1) := by decide +kernel
theorem dX3_proveClaim_44 : decode cX3_proveClaim 44 = .ok (.getfield 81, 3) := by decide +kernel
theorem dX3_proveClaim_47 : decode cX3_proveClaim 47 = .ok (.i2l, 1) := by decide +kernel
theorem dX3_proveClaim_48 : decode cX3_proveClaim 48 = .ok (.ladd, 1) := by decide +kernel
theorem dX3_proveClaim_49 : decode cX3_proveClaim 49 = .ok (.lastore, 1) := by decide +kernel
theorem dX3_proveClaim_50 : decode cX3_proveClaim 50 = .ok (.aload_n 1, 1) := by decide +kernel
theorem dX3_proveClaim_51 : decode cX3_proveClaim 51 = .ok (.invokevirtual 258, 3) := by decide +kernel
theorem dX3_proveClaim_54 : decode cX3_proveClaim 54 = .ok (.ireturn, 1) := by decide +kernel
set_option maxRecDepth 20000 in
theorem ggX3_lookAtPlace_X3_isPlace : GoodIn wsX3_lookAtPlace wsX3_isPlace := goodIn_r _ [7] (by decide +kernel) (by decide +kernel)
set_option maxRecDepth 20000 in
theorem gX3_lookAtPlace_X3_isPlace : GoodIn wsX3_lookAtPlace (va_wsS RX3 97 yX3_isPlace wsX3_isPlace) := goodIn_app (goodIn_of _ (by decide +kernel)) ggX3_lookAtPlace_X3_isPlace
set_option maxRecDepth 20000 in
theorem ggX3_lookAtPlace_X3_boxOrNothing : GoodIn wsX3_lookAtPlace wsX3_boxOrNothing := goodIn_r _ [11, 12, 128, 129, 130, 131, 132, 133, 134, 135, 136] (by decide +kernel) (by decide +kernel)
set_option maxRecDepth 20000 in
theorem gX3_lookAtPlace_X3_boxOrNothing : GoodIn wsX3_lookAtPlace (wsV RX3 364 RX3 yX3_boxOrNothing wsX3_boxOrNothing) := goodIn_app (goodIn_of _ (by decide +kernel)) ggX3_lookAtPlace_X3_boxOrNothing
set_option maxRecDepth 20000 in
theorem ggX3_lookAtPlace_X1_kind : GoodIn wsX3_lookAtPlace wsX1_kind := goodIn_r _ [18] (by decide +kernel) (by decide +kernel)
set_option maxRecDepth 20000 in
theorem gX3_lookAtPlace_X1_kind_u198X1 : GoodIn wsX3_lookAtPlace (va_wsU RX3 198 RX1 "PledgeHouse$Pledge" ⟨"PledgeHouse$Pledge", "kind", "()I"⟩ yX1_kind wsX1_kind) := goodIn_app (goodIn_of _ (by decide +kernel)) ggX3_lookAtPlace_X1_kind
set_option maxRecDepth 20000 in
theorem ggX3_lookAtPlace_X2_kind : GoodIn wsX3_lookAtPlace wsX2_kind := goodIn_r _ [22] (by decide +kernel) (by decide +kernel)
set_option maxRecDepth 20000 in
theorem gX3_lookAtPlace_X2_kind_u198X2 : GoodIn wsX3_lookAtPlace (va_wsU RX3 198 RX2 "PledgeHouse$Pledge" ⟨"PledgeHouse$Pledge", "kind", "()I"⟩ yX2_kind wsX2_kind) := goodIn_app (goodIn_of _ (by decide +kernel)) ggX3_lookAtPlace_X2_kind
set_option maxRecDepth 20000 in
theorem ggX3_lookAtPlace_X4_kind : GoodIn wsX3_lookAtPlace wsX4_kind := goodIn_r _ [26] (by decide +kernel) (by decide +kernel)
set_option maxRecDepth 20000 in
theorem gX3_lookAtPlace_X4_kind_u198X4 : GoodIn wsX3_lookAtPlace (va_wsU RX3 198 RX4 "PledgeHouse$Pledge" ⟨"PledgeHouse$Pledge", "kind", "()I"⟩ yX4_kind wsX4_kind) := goodIn_app (goodIn_of _ (by decide +kernel)) ggX3_lookAtPlace_X4_kind
set_option maxRecDepth 20000 in
theorem ggX3_lookAtPlace_X6_kind : GoodIn wsX3_lookAtPlace wsX6_kind := goodIn_r _ [30] (by decide +kernel) (by decide +kernel)
set_option maxRecDepth 20000 in
theorem gX3_lookAtPlace_X6_kind_u198X6 : GoodIn wsX3_lookAtPlace (va_wsU RX3 198 RX6 "PledgeHouse$Pledge" ⟨"PledgeHouse$Pledge", "kind", "()I"⟩ yX6_kind wsX6_kind) := goodIn_app (goodIn_of _ (by decide +kernel)) ggX3_lookAtPlace_X6_kind
set_option maxRecDepth 20000 in
theorem ggX3_lookAtPlace_X8_kind : GoodIn wsX3_lookAtPlace wsX8_kind := goodIn_r _ [34] (by decide +kernel) (by decide +kernel)
set_option maxRecDepth 20000 in
theorem gX3_lookAtPlace_X8_kind_u198X8 : GoodIn wsX3_lookAtPlace (va_wsU RX3 198 RX8 "PledgeHouse$Pledge" ⟨"PledgeHouse$Pledge", "kind", "()I"⟩ yX8_kind wsX8_kind) := goodIn_app (goodIn_of _ (by decide +kernel)) ggX3_lookAtPlace_X8_kind
set_option maxRecDepth 20000 in
theorem ggX3_lookAtPlace_X3_worthOf : GoodIn wsX3_lookAtPlace wsX3_worthOf := goodIn_r _ [38, 39, 40, 41, 42, 43, 44, 17, 45, 46, 47, 48, 49, 50, 51, 21, 52, 53, 54, 55, 56, 57, 58, 59, 60, 61, 62, 63, 25, 64, 65, 66, 67, 29, 68, 69, 70, 71, 72, 73, 74, 75, 76, 77, 33, 78, 79, 128, 129, 130, 131, 132, 133, 134, 135, 136, 137, 138, 139, 140, 141, 142, 143, 144, 145, 146, 147, 148, 149, 150, 151] (by decide +kernel) (by decide +kernel)
set_option maxRecDepth 20000 in
theorem gX3_lookAtPlace_X3_worthOf : GoodIn wsX3_lookAtPlace (wsV RX3 201 RX3 yX3_worthOf wsX3_worthOf) := goodIn_app (goodIn_of _ (by decide +kernel)) ggX3_lookAtPlace_X3_worthOf
set_option maxRecDepth 20000 in
theorem ggX3_lookAtPlace_X5_hundredths : GoodIn wsX3_lookAtPlace wsX5_hundredths := goodIn_r _ [85] (by decide +kernel) (by decide +kernel)
set_option maxRecDepth 20000 in
theorem gX3_lookAtPlace_X5_hundredths_u367X1 : GoodIn wsX3_lookAtPlace (va_wsU RX3 367 RX1 "PledgeHouse$Pledge" ⟨"PledgeHouse$Pledge", "hundredths", "()I"⟩ yX5_hundredths wsX5_hundredths) := goodIn_app (goodIn_of _ (by decide +kernel)) ggX3_lookAtPlace_X5_hundredths
set_option maxRecDepth 20000 in
theorem ggX3_lookAtPlace_X10_hundredths : GoodIn wsX3_lookAtPlace wsX10_hundredths := goodIn_r _ [60, 61, 140, 141, 142, 143, 144, 145, 146, 147, 148] (by decide +kernel) (by decide +kernel)
set_option maxRecDepth 20000 in
theorem gX3_lookAtPlace_X10_hundredths_u367X2 : GoodIn wsX3_lookAtPlace (va_wsO RX3 367 RX2 "PledgeHouse$Pledge" ⟨"PledgeHouse$Pledge", "hundredths", "()I"⟩ yX10_hundredths wsX10_hundredths) := goodIn_app (goodIn_of _ (by decide +kernel)) ggX3_lookAtPlace_X10_hundredths
set_option maxRecDepth 20000 in
theorem gX3_lookAtPlace_X5_hundredths_u367X4 : GoodIn wsX3_lookAtPlace (va_wsU RX3 367 RX4 "PledgeHouse$Pledge" ⟨"PledgeHouse$Pledge", "hundredths", "()I"⟩ yX5_hundredths wsX5_hundredths) := goodIn_app (goodIn_of _ (by decide +kernel)) ggX3_lookAtPlace_X5_hundredths
set_option maxRecDepth 20000 in
theorem gX3_lookAtPlace_X10_hundredths_u367X6 : GoodIn wsX3_lookAtPlace (va_wsO RX3 367 RX6 "PledgeHouse$Pledge" ⟨"PledgeHouse$Pledge", "hundredths", "()I"⟩ yX10_hundredths wsX10_hundredths) := goodIn_app (goodIn_of _ (by decide +kernel)) ggX3_lookAtPlace_X10_hundredths
set_option maxRecDepth 20000 in
theorem gX3_lookAtPlace_X5_hundredths_u367X8 : GoodIn wsX3_lookAtPlace (va_wsU RX3 367 RX8 "PledgeHouse$Pledge" ⟨"PledgeHouse$Pledge", "hundredths", "()I"⟩ yX5_hundredths wsX5_hundredths) := goodIn_app (goodIn_of _ (by decide +kernel)) ggX3_lookAtPlace_X5_hundredths
set_option maxRecDepth 20000 in
theorem ggX3_lookAtPlace_X5_leftOver : GoodIn wsX3_lookAtPlace wsX5_leftOver := goodIn_r _ [95] (by decide +kernel) (by decide +kernel)
set_option maxRecDepth 20000 in
theorem gX3_lookAtPlace_X5_leftOver_u368X1 : GoodIn wsX3_lookAtPlace (va_wsU RX3 368 RX1 "PledgeHouse$Pledge" ⟨"PledgeHouse$Pledge", "leftOver", "()I"⟩ yX5_leftOver wsX5_leftOver) := goodIn_app (goodIn_of _ (by decide +kernel)) ggX3_lookAtPlace_X5_leftOver
set_option maxRecDepth 20000 in
theorem ggX3_lookAtPlace_X10_leftOver : GoodIn wsX3_lookAtPlace wsX10_leftOver := goodIn_r _ [99, 100, 140, 141, 142, 143, 144, 145, 146, 147, 148] (by decide +kernel) (by decide +kernel)
set_option maxRecDepth 20000 in
theorem gX3_lookAtPlace_X10_leftOver_u368X2 : GoodIn wsX3_lookAtPlace (va_wsO RX3 368 RX2 "PledgeHouse$Pledge" ⟨"PledgeHouse$Pledge", "leftOver", "()I"⟩ yX10_leftOver wsX10_leftOver) := goodIn_app (goodIn_of _ (by decide +kernel)) ggX3_lookAtPlace_X10_leftOver
set_option maxRecDepth 20000 in
theorem gX3_lookAtPlace_X5_leftOver_u368X4 : GoodIn wsX3_lookAtPlace (va_wsU RX3 368 RX4 "PledgeHouse$Pledge" ⟨"PledgeHouse$Pledge", "leftOver", "()I"⟩ yX5_leftOver wsX5_leftOver) := goodIn_app (goodIn_of _ (by decide +kernel)) ggX3_lookAtPlace_X5_leftOver
set_option maxRecDepth 20000 in
theorem gX3_lookAtPlace_X10_leftOver_u368X6 : GoodIn wsX3_lookAtPlace (va_wsO RX3 368 RX6 "PledgeHouse$Pledge" ⟨"PledgeHouse$Pledge", "leftOver", "()I"⟩ yX10_leftOver wsX10_leftOver) := goodIn_app (goodIn_of _ (by decide +kernel)) ggX3_lookAtPlace_X10_leftOver
set_option maxRecDepth 20000 in
theorem gX3_lookAtPlace_X5_leftOver_u368X8 : GoodIn wsX3_lookAtPlace (va_wsU RX3 368 RX8 "PledgeHouse$Pledge" ⟨"PledgeHouse$Pledge", "leftOver", "()I"⟩ yX5_leftOver wsX5_leftOver) := goodIn_app (goodIn_of _ (by decide +kernel)) ggX3_lookAtPlace_X5_leftOver
set_option maxRecDepth 20000 in
theorem ggX3_lookAtPlace_X5_itemCount : GoodIn wsX3_lookAtPlace wsX5_itemCount := goodIn_r _ [108] (by decide +kernel) (by decide +kernel)
set_option maxRecDepth 20000 in
theorem gX3_lookAtPlace_X5_itemCount_u371X1 : GoodIn wsX3_lookAtPlace (va_wsU RX3 371 RX1 "PledgeHouse$Pledge" ⟨"PledgeHouse$Pledge", "itemCount", "()I"⟩ yX5_itemCount wsX5_itemCount) := goodIn_app (goodIn_of _ (by decide +kernel)) ggX3_lookAtPlace_X5_itemCount
set_option maxRecDepth 20000 in
theorem gX3_lookAtPlace_X5_itemCount_u371X2 : GoodIn wsX3_lookAtPlace (va_wsU RX3 371 RX2 "PledgeHouse$Pledge" ⟨"PledgeHouse$Pledge", "itemCount", "()I"⟩ yX5_itemCount wsX5_itemCount) := goodIn_app (goodIn_of _ (by decide +kernel)) ggX3_lookAtPlace_X5_itemCount
set_option maxRecDepth 20000 in
theorem ggX3_lookAtPlace_X4_itemCount : GoodIn wsX3_lookAtPlace wsX4_itemCount := goodIn_r _ [113, 65, 149, 150] (by decide +kernel) (by decide +kernel)
set_option maxRecDepth 20000 in
theorem gX3_lookAtPlace_X4_itemCount_u371X4 : GoodIn wsX3_lookAtPlace (va_wsO RX3 371 RX4 "PledgeHouse$Pledge" ⟨"PledgeHouse$Pledge", "itemCount", "()I"⟩ yX4_itemCount wsX4_itemCount) := goodIn_app (goodIn_of _ (by decide +kernel)) ggX3_lookAtPlace_X4_itemCount
set_option maxRecDepth 20000 in
theorem gX3_lookAtPlace_X5_itemCount_u371X6 : GoodIn wsX3_lookAtPlace (va_wsU RX3 371 RX6 "PledgeHouse$Pledge" ⟨"PledgeHouse$Pledge", "itemCount", "()I"⟩ yX5_itemCount wsX5_itemCount) := goodIn_app (goodIn_of _ (by decide +kernel)) ggX3_lookAtPlace_X5_itemCount
set_option maxRecDepth 20000 in
theorem gX3_lookAtPlace_X5_itemCount_u371X8 : GoodIn wsX3_lookAtPlace (va_wsU RX3 371 RX8 "PledgeHouse$Pledge" ⟨"PledgeHouse$Pledge", "itemCount", "()I"⟩ yX5_itemCount wsX5_itemCount) := goodIn_app (goodIn_of _ (by decide +kernel)) ggX3_lookAtPlace_X5_itemCount
set_option maxRecDepth 20000 in
theorem ggX3_lookAtPlace_X5_tellers : GoodIn wsX3_lookAtPlace wsX5_tellers := goodIn_r _ [120] (by decide +kernel) (by decide +kernel)
set_option maxRecDepth 20000 in
theorem gX3_lookAtPlace_X5_tellers_u372X1 : GoodIn wsX3_lookAtPlace (va_wsU RX3 372 RX1 "PledgeHouse$Pledge" ⟨"PledgeHouse$Pledge", "tellers", "()I"⟩ yX5_tellers wsX5_tellers) := goodIn_app (goodIn_of _ (by decide +kernel)) ggX3_lookAtPlace_X5_tellers
set_option maxRecDepth 20000 in
theorem gX3_lookAtPlace_X5_tellers_u372X2 : GoodIn wsX3_lookAtPlace (va_wsU RX3 372 RX2 "PledgeHouse$Pledge" ⟨"PledgeHouse$Pledge", "tellers", "()I"⟩ yX5_tellers wsX5_tellers) := goodIn_app (goodIn_of _ (by decide +kernel)) ggX3_lookAtPlace_X5_tellers
set_option maxRecDepth 20000 in
theorem gX3_lookAtPlace_X5_tellers_u372X4 : GoodIn wsX3_lookAtPlace (va_wsU RX3 372 RX4 "PledgeHouse$Pledge" ⟨"PledgeHouse$Pledge", "tellers", "()I"⟩ yX5_tellers wsX5_tellers) := goodIn_app (goodIn_of _ (by decide +kernel)) ggX3_lookAtPlace_X5_tellers
set_option maxRecDepth 20000 in
theorem ggX3_lookAtPlace_X6_tellers : GoodIn wsX3_lookAtPlace wsX6_tellers := goodIn_r _ [126, 69, 143, 144, 145, 146, 147, 148] (by decide +kernel) (by decide +kernel)
set_option maxRecDepth 20000 in
theorem gX3_lookAtPlace_X6_tellers_u372X6 : GoodIn wsX3_lookAtPlace (va_wsO RX3 372 RX6 "PledgeHouse$Pledge" ⟨"PledgeHouse$Pledge", "tellers", "()I"⟩ yX6_tellers wsX6_tellers) := goodIn_app (goodIn_of _ (by decide +kernel)) ggX3_lookAtPlace_X6_tellers
set_option maxRecDepth 20000 in
theorem gX3_lookAtPlace_X5_tellers_u372X8 : GoodIn wsX3_lookAtPlace (va_wsU RX3 372 RX8 "PledgeHouse$Pledge" ⟨"PledgeHouse$Pledge", "tellers", "()I"⟩ yX5_tellers wsX5_tellers) := goodIn_app (goodIn_of _ (by decide +kernel)) ggX3_lookAtPlace_X5_tellers
theorem dX3_lookAtPlace_0 : decode cX3_lookAtPlace 0 = .ok (.iload_n 1, 1) := by decide +kernel
theorem dX3_lookAtPlace_1 : decode cX3_lookAtPlace 1 = .ok (.invokestatic 97, 3) := by decide +kernel
theorem dX3_lookAtPlace_4 : decode cX3_lookAtPlace 4 = .ok (.ifCond .eq 13, 3) := by decide +kernel
theorem dX3_lookAtPlace_7 : decode cX3_lookAtPlace 7 = .ok (.iload_n 2, 1) := by decide +kernel
theorem dX3_lookAtPlace_8 : decode cX3_lookAtPlace 8 = .ok (.ifCond .lt 9, 3) := by decide +kernel
theorem dX3_lookAtPlace_11 : decode cX3_lookAtPlace 11 = .ok (.iload_n 2, 1) := by decide +kernel
theorem dX3_lookAtPlace_12 : decode cX3_lookAtPlace 12 = .ok (.bipush 6, 2) := by decide +kernel
theorem dX3_lookAtPlace_14 : decode cX3_lookAtPlace 14 = .ok (.if_icmp .le 7, 3) := by decide +kernel
theorem dX3_lookAtPlace_17 : decode cX3_lookAtPlace 17 = .ok (.ldc2_w 362, 3) := by decide +kernel
theorem dX3_lookAtPlace_20 : decode cX3_lookAtPlace 20 = .ok (.lreturn, 1) := by decide +kernel
theorem dX3_lookAtPlace_21 : decode cX3_lookAtPlace 21 = .ok (.aload_n 0, 1) := by decide +kernel
theorem dX3_lookAtPlace_22 : decode cX3_lookAtPlace 22 = .ok (.getfield 25, 3) := by decide +kernel
theorem dX3_lookAtPlace_25 : decode cX3_lookAtPlace 25 = .ok (.iload_n 1, 1) := by decide +kernel
theorem dX3_lookAtPlace_26 : decode cX3_lookAtPlace 26 = .ok (.aaload, 1) := by decide +kernel
theorem dX3_lookAtPlace_27 : decode cX3_lookAtPlace 27 = .ok (.astore_n 3, 1) := by decide +kernel
theorem dX3_lookAtPlace_28 : decode cX3_lookAtPlace 28 = .ok (.aload_n 3, 1) := by decide +kernel
theorem dX3_lookAtPlace_29 : decode cX3_lookAtPlace 29 = .ok (.ifnonnull 18, 3) := by decide +kernel
theorem dX3_lookAtPlace_32 : decode cX3_lookAtPlace 32 = .ok (.iload_n 2, 1) := by decide +kernel
theorem dX3_lookAtPlace_33 : decode cX3_lookAtPlace 33 = .ok (.ifCond .ne 12, 3) := by decide +kernel
theorem dX3_lookAtPlace_36 : decode cX3_lookAtPlace 36 = .ok (.aload_n 0, 1) := by decide +kernel
theorem dX3_lookAtPlace_37 : decode cX3_lookAtPlace 37 = .ok (.iload_n 1, 1) := by decide +kernel
theorem dX3_lookAtPlace_38 : decode cX3_lookAtPlace 38 = .ok (.invokevirtual 364, 3) := by decide +kernel
theorem dX3_lookAtPlace_41 : decode cX3_lookAtPlace 41 = .ok (.i2l, 1) := by decide +kernel
theorem dX3_lookAtPlace_42 : decode cX3_lookAtPlace 42 = .ok (.goto 4, 3) := by decide +kernel
theorem dX3_lookAtPlace_45 : decode cX3_lookAtPlace 45 = .ok (.lconst 0, 1) := by decide +kernel
theorem dX3_lookAtPlace_46 : decode cX3_lookAtPlace 46 = .ok (.lreturn, 1) := by decide +kernel
theorem dX3_lookAtPlace_47 : decode cX3_lookAtPlace 47 = .ok (.iload_n 2, 1) := by decide +kernel
theorem dX3_lookAtPlace_48 : decode cX3_lookAtPlace 48 = .ok (.tableswitch 79 0 5 #[40, 46, 53, 61, 67, 73], 40) := by decide +kernel
theorem dX3_lookAtPlace_88 : decode cX3_lookAtPlace 88 = .ok (.aload_n 3, 1) := by decide +kernel
theorem dX3_lookAtPlace_89 : decode cX3_lookAtPlace 89 = .ok (.invokevirtual 198, 3) := by decide +kernel
theorem dX3_lookAtPlace_92 : decode cX3_lookAtPlace 92 = .ok (.i2l, 1) := by decide +kernel
theorem dX3_lookAtPlace_93 : decode cX3_lookAtPlace 93 = .ok (.lreturn, 1) := by decide +kernel
theorem dX3_lookAtPlace_94 : decode cX3_lookAtPlace 94 = .ok (.aload_n 0, 1) := by decide +kernel
theorem dX3_lookAtPlace_95 : decode cX3_lookAtPlace 95 = .ok (.aload_n 3, 1) := by decide +kernel
theorem dX3_lookAtPlace_96 : decode cX3_lookAtPlace 96 = .ok (.invokevirtual 201, 3) := by decide +kernel
theorem dX3_lookAtPlace_99 : decode cX3_lookAtPlace 99 = .ok (.i2l, 1) := by decide +kernel
theorem dX3_lookAtPlace_100 : decode cX3_lookAtPlace 100 = .ok (.lreturn, 1) := by decide +kernel
theorem dX3_lookAtPlace_101 : decode cX3_lookAtPlace 101 = .ok (.aload_n 0, 1) := by decide +kernel
theorem dX3_lookAtPlace_102 : decode cX3_lookAtPlace 102 = .ok (.getfield 33, 3) := by decide +kernel
theorem dX3_lookAtPlace_105 : decode cX3_lookAtPlace 105 = .ok (.iload_n 1, 1) := by decide +kernel
theorem dX3_lookAtPlace_106 : decode cX3_lookAtPlace 106 = .ok (.iaload, 1) := by decide +kernel
theorem dX3_lookAtPlace_107 : decode cX3_lookAtPlace 107 = .ok (.i2l, 1) := by decide +kernel
theorem dX3_lookAtPlace_108 : decode cX3_lookAtPlace 108 = .ok (.lreturn, 1) := by decide +kernel
theorem dX3_lookAtPlace_109 : decode cX3_lookAtPlace 109 = .ok (.aload_n 3, 1) := by decide +kernel
theorem dX3_lookAtPlace_110 : decode cX3_lookAtPlace 110 = .ok (.invokevirtual 367, 3) := by decide +kernel
theorem dX3_lookAtPlace_113 : decode cX3_lookAtPlace 113 = .ok (.i2l, 1) := by decide +kernel
theorem dX3_lookAtPlace_114 : decode cX3_lookAtPlace 114 = .ok (.lreturn, 1) := by decide +kernel
theorem dX3_lookAtPlace_115 : decode cX3_lookAtPlace 115 = .ok (.aload_n 3, 1) := by decide +kernel
theorem dX3_lookAtPlace_116 : decode cX3_lookAtPlace 116 = .ok (.invokevirtual 368, 3) := by decide +kernel
theorem dX3_lookAtPlace_119 : decode cX3_lookAtPlace 119 = .ok (.i2l, 1) := by decide +kernel
theorem dX3_lookAtPlace_120 : decode cX3_lookAtPlace 120 = .ok (.lreturn, 1) := by decide +kernel
theorem dX3_lookAtPlace_121 : decode cX3_lookAtPlace 121 = .ok (.aload_n 3, 1) := by decide +kernel
theorem dX3_lookAtPlace_122 : decode cX3_lookAtPlace 122 = .ok (.invokevirtual 371, 3) := by decide +kernel
theorem dX3_lookAtPlace_125 : decode cX3_lookAtPlace 125 = .ok (.i2l, 1) := by decide +kernel
theorem dX3_lookAtPlace_126 : decode cX3_lookAtPlace 126 = .ok (.lreturn, 1) := by decide +kernel
theorem dX3_lookAtPlace_127 : decode cX3_lookAtPlace 127 = .ok (.aload_n 3, 1) := by decide +kernel
theorem dX3_lookAtPlace_128 : decode cX3_lookAtPlace 128 = .ok (.invokevirtual 372, 3) := by decide +kernel
theorem dX3_lookAtPlace_131 : decode cX3_lookAtPlace 131 = .ok (.i2l, 1) := by decide +kernel
theorem dX3_lookAtPlace_132 : decode cX3_lookAtPlace 132 = .ok (.lreturn, 1) := by decide +kernel
theorem dX3_boxOrNothing_0 : decode cX3_boxOrNothing 0 = .ok (.aload_n 0, 1) := by decide +kernel
theorem dX3_boxOrNothing_1 : decode cX3_boxOrNothing 1 = .ok (.getfield 29, 3) := by decide +kernel
theorem dX3_boxOrNothing_4 : decode cX3_boxOrNothing 4 = .ok (.iload_n 1, 1) := by decide +kernel
theorem dX3_boxOrNothing_5 : decode cX3_boxOrNothing 5 = .ok (.baload, 1) := by decide +kernel
theorem dX3_boxOrNothing_6 : decode cX3_boxOrNothing 6 = .ok (.ifCond .eq 7, 3) := by decide +kernel
theorem dX3_boxOrNothing_9 : decode cX3_boxOrNothing 9 = .ok (.iconst 5, 1) := by decide +kernel
theorem dX3_boxOrNothing_10 : decode cX3_boxOrNothing 10 = .ok (.goto 4, 3) := by decide +kernel
theorem dX3_boxOrNothing_13 : decode cX3_boxOrNothing 13 = .ok (.iconst (-1), 1) := by decide +kernel
theorem dX3_boxOrNothing_14 : decode cX3_boxOrNothing 14 = .ok (.ireturn, 1) := by decide +kernel
set_option maxRecDepth 20000 in
theorem ggX3_lookAtTicket_X9_forfeitDay : GoodIn wsX3_lookAtTicket wsX9_forfeitDay := goodIn_r _ [21, 22, 23, 24, 25, 26, 27, 28, 29, 30, 31, 32, 20, 33, 34, 35, 36, 37, 38, 39, 40, 41, 42, 43, 44, 45, 46, 47, 48, 81, 82, 83, 84, 85, 86, 87, 88, 89, 90, 91, 92, 93, 94, 95, 96, 97, 98, 99, 100, 101, 102, 103, 104, 105] (by decide +kernel) (by decide +kernel)
set_option maxRecDepth 20000 in
theorem gX3_lookAtTicket_X9_forfeitDay : GoodIn wsX3_lookAtTicket (wsV RX3 311 RX9 yX9_forfeitDay wsX9_forfeitDay) := goodIn_app (goodIn_of _ (by decide +kernel)) ggX3_lookAtTicket_X9_forfeitDay
set_option maxRecDepth 20000 in
theorem ggX3_lookAtTicket_X9_isClaimed : GoodIn wsX3_lookAtTicket wsX9_isClaimed := goodIn_r _ [39, 35, 81, 82, 83, 84, 85, 86, 87, 88, 89, 90, 91, 92, 93, 94, 95, 96, 97, 98, 99] (by decide +kernel) (by decide +kernel)
set_option maxRecDepth 20000 in
theorem gX3_lookAtTicket_X9_isClaimed : GoodIn wsX3_lookAtTicket (wsV RX3 275 RX9 yX9_isClaimed wsX9_isClaimed) := goodIn_app (goodIn_of _ (by decide +kernel)) ggX3_lookAtTicket_X9_isClaimed
set_option maxRecDepth 20000 in
theorem ggX3_lookAtTicket_X9_overState : GoodIn wsX3_lookAtTicket wsX9_overState := goodIn_r _ [53, 54, 55, 56, 57, 20, 58, 59, 60, 61, 62, 63, 64, 65, 81, 82, 83, 84, 85, 86, 87, 88, 89, 90, 91, 92, 93, 94, 95, 96, 97, 98, 99] (by decide +kernel) (by decide +kernel)
set_option maxRecDepth 20000 in
theorem gX3_lookAtTicket_X9_overState : GoodIn wsX3_lookAtTicket (wsV RX3 385 RX9 yX9_overState wsX9_overState) := goodIn_app (goodIn_of _ (by decide +kernel)) ggX3_lookAtTicket_X9_overState
set_option maxRecDepth 20000 in
theorem ggX3_lookAtTicket_X9_numberInHouseHalf : GoodIn wsX3_lookAtTicket wsX9_numberInHouseHalf := goodIn_r _ [69, 70, 71, 81, 82, 83, 84, 85, 86, 87, 88, 89, 90, 91, 92, 93, 94, 95, 96, 97, 98, 99] (by decide +kernel) (by decide +kernel)
set_option maxRecDepth 20000 in
theorem gX3_lookAtTicket_X9_numberInHouseHalf : GoodIn wsX3_lookAtTicket (wsV RX3 388 RX9 yX9_numberInHouseHalf wsX9_numberInHouseHalf) := goodIn_app (goodIn_of _ (by decide +kernel)) ggX3_lookAtTicket_X9_numberInHouseHalf
set_option maxRecDepth 20000 in
theorem ggX3_lookAtTicket_X9_halfInHouseHalf : GoodIn wsX3_lookAtTicket wsX9_halfInHouseHalf := goodIn_r _ [75, 76, 77, 78, 79, 20, 80, 70, 81, 82, 83, 84, 85, 86, 87, 88, 89, 90, 91, 92, 93, 94, 95, 96, 97, 98, 99] (by decide +kernel) (by decide +kernel)
set_option maxRecDepth 20000 in
theorem gX3_lookAtTicket_X9_halfInHouseHalf : GoodIn wsX3_lookAtTicket (wsV RX3 391 RX9 yX9_halfInHouseHalf wsX9_halfInHouseHalf) := goodIn_app (goodIn_of _ (by decide +kernel)) ggX3_lookAtTicket_X9_halfInHouseHalf
theorem dX3_lookAtTicket_0 : decode cX3_lookAtTicket 0 = .ok (.aload_n 1, 1) := by decide +kernel
theorem dX3_lookAtTicket_1 : decode cX3_lookAtTicket 1 = .ok (.ifnonnull 5, 3) := by decide +kernel
theorem dX3_lookAtTicket_4 : decode cX3_lookAtTicket 4 = .ok (.iconst (-1), 1) := by decide +kernel
theorem dX3_lookAtTicket_5 : decode cX3_lookAtTicket 5 = .ok (.ireturn, 1) := by decide +kernel
theorem dX3_lookAtTicket_6 : decode cX3_lookAtTicket 6 = .ok (.iload_n 2, 1) := by decide +kernel
theorem dX3_lookAtTicket_7 : decode cX3_lookAtTicket 7 = .ok (.tableswitch 223 0 17 #[85, 90, 95, 103, 111, 119, 127, 135, 148, 163, 176, 184, 189, 194, 203, 208, 213, 218], 85) := by decide +kernel
theorem dX3_lookAtTicket_92 : decode cX3_lookAtTicket 92 = .ok (.aload_n 1, 1) := by decide +kernel
theorem dX3_lookAtTicket_93 : decode cX3_lookAtTicket 93 = .ok (.getfield 295, 3) := by decide +kernel
theorem dX3_lookAtTicket_96 : decode cX3_lookAtTicket 96 = .ok (.ireturn, 1) := by decide +kernel
theorem dX3_lookAtTicket_97 : decode cX3_lookAtTicket 97 = .ok (.aload_n 1, 1) := by decide +kernel
theorem dX3_lookAtTicket_98 : decode cX3_lookAtTicket 98 = .ok (.getfield 81, 3) := by decide +kernel
theorem dX3_lookAtTicket_101 : decode cX3_lookAtTicket 101 = .ok (.ireturn, 1) := by decide +kernel
theorem dX3_lookAtTicket_102 : decode cX3_lookAtTicket 102 = .ok (.aload_n 1, 1) := by decide +kernel
theorem dX3_lookAtTicket_103 : decode cX3_lookAtTicket 103 = .ok (.getfield 77, 3) := by decide +kernel
theorem dX3_lookAtTicket_106 : decode cX3_lookAtTicket 106 = .ok (.getfield 261, 3) := by decide +kernel
theorem dX3_lookAtTicket_109 : decode cX3_lookAtTicket 109 = .ok (.ireturn, 1) := by decide +kernel
theorem dX3_lookAtTicket_110 : decode cX3_lookAtTicket 110 = .ok (.aload_n 1, 1) := by decide +kernel
theorem dX3_lookAtTicket_111 : decode cX3_lookAtTicket 111 = .ok (.getfield 77, 3) := by decide +kernel
theorem dX3_lookAtTicket_114 : decode cX3_lookAtTicket 114 = .ok (.getfield 373, 3) := by decide +kernel
theorem dX3_lookAtTicket_117 : decode cX3_lookAtTicket 117 = .ok (.ireturn, 1) := by decide +kernel
theorem dX3_lookAtTicket_118 : decode cX3_lookAtTicket 118 = .ok (.aload_n 1, 1) := by decide +kernel
theorem dX3_lookAtTicket_119 : decode cX3_lookAtTicket 119 = .ok (.getfield 77, 3) := by decide +kernel
theorem dX3_lookAtTicket_122 : decode cX3_lookAtTicket 122 = .ok (.getfield 376, 3) := by decide +kernel
theorem dX3_lookAtTicket_125 : decode cX3_lookAtTicket 125 = .ok (.ireturn, 1) := by decide +kernel
theorem dX3_lookAtTicket_126 : decode cX3_lookAtTicket 126 = .ok (.aload_n 1, 1) := by decide +kernel
theorem dX3_lookAtTicket_127 : decode cX3_lookAtTicket 127 = .ok (.getfield 77, 3) := by decide +kernel
theorem dX3_lookAtTicket_130 : decode cX3_lookAtTicket 130 = .ok (.getfield 379, 3) := by decide +kernel
theorem dX3_lookAtTicket_133 : decode cX3_lookAtTicket 133 = .ok (.ireturn, 1) := by decide +kernel
theorem dX3_lookAtTicket_134 : decode cX3_lookAtTicket 134 = .ok (.aload_n 1, 1) := by decide +kernel
theorem dX3_lookAtTicket_135 : decode cX3_lookAtTicket 135 = .ok (.getfield 77, 3) := by decide +kernel
theorem dX3_lookAtTicket_138 : decode cX3_lookAtTicket 138 = .ok (.getfield 382, 3) := by decide +kernel
theorem dX3_lookAtTicket_141 : decode cX3_lookAtTicket 141 = .ok (.ireturn, 1) := by decide +kernel
theorem dX3_lookAtTicket_142 : decode cX3_lookAtTicket 142 = .ok (.aload_n 1, 1) := by decide +kernel
theorem dX3_lookAtTicket_143 : decode cX3_lookAtTicket 143 = .ok (.getfield 314, 3) := by decide +kernel
theorem dX3_lookAtTicket_146 : decode cX3_lookAtTicket 146 = .ok (.ifCond .eq 7, 3) := by decide +kernel
theorem dX3_lookAtTicket_149 : decode cX3_lookAtTicket 149 = .ok (.iconst 1, 1) := by decide +kernel
theorem dX3_lookAtTicket_150 : decode cX3_lookAtTicket 150 = .ok (.goto 4, 3) := by decide +kernel
theorem dX3_lookAtTicket_153 : decode cX3_lookAtTicket 153 = .ok (.iconst 0, 1) := by decide +kernel
theorem dX3_lookAtTicket_154 : decode cX3_lookAtTicket 154 = .ok (.ireturn, 1) := by decide +kernel
theorem dX3_lookAtTicket_155 : decode cX3_lookAtTicket 155 = .ok (.aload_n 1, 1) := by decide +kernel
theorem dX3_lookAtTicket_156 : decode cX3_lookAtTicket 156 = .ok (.aload_n 0, 1) := by decide +kernel
theorem dX3_lookAtTicket_157 : decode cX3_lookAtTicket 157 = .ok (.getfield 50, 3) := by decide +kernel
theorem dX3_lookAtTicket_160 : decode cX3_lookAtTicket 160 = .ok (.aload_n 0, 1) := by decide +kernel
theorem dX3_lookAtTicket_161 : decode cX3_lookAtTicket 161 = .ok (.getfield 18, 3) := by decide +kernel
theorem dX3_lookAtTicket_164 : decode cX3_lookAtTicket 164 = .ok (.iconst 0, 1) := by decide +kernel
theorem dX3_lookAtTicket_165 : decode cX3_lookAtTicket 165 = .ok (.iaload, 1) := by decide +kernel
theorem dX3_lookAtTicket_166 : decode cX3_lookAtTicket 166 = .ok (.invokevirtual 311, 3) := by decide +kernel
theorem dX3_lookAtTicket_169 : decode cX3_lookAtTicket 169 = .ok (.ireturn, 1) := by decide +kernel
theorem dX3_lookAtTicket_170 : decode cX3_lookAtTicket 170 = .ok (.aload_n 1, 1) := by decide +kernel
theorem dX3_lookAtTicket_171 : decode cX3_lookAtTicket 171 = .ok (.invokevirtual 275, 3) := by decide +kernel
theorem dX3_lookAtTicket_174 : decode cX3_lookAtTicket 174 = .ok (.ifCond .eq 7, 3) := by decide +kernel
theorem dX3_lookAtTicket_177 : decode cX3_lookAtTicket 177 = .ok (.iconst 1, 1) := by decide +kernel
theorem dX3_lookAtTicket_178 : decode cX3_lookAtTicket 178 = .ok (.goto 4, 3) := by decide +kernel
theorem dX3_lookAtTicket_181 : decode cX3_lookAtTicket 181 = .ok (.iconst 0, 1) := by decide +kernel
theorem dX3_lookAtTicket_182 : decode cX3_lookAtTicket 182 = .ok (.ireturn, 1) := by decide +kernel
theorem dX3_lookAtTicket_183 : decode cX3_lookAtTicket 183 = .ok (.aload_n 1, 1) := by decide +kernel
theorem dX3_lookAtTicket_184 : decode cX3_lookAtTicket 184 = .ok (.getfield 77, 3) := by decide +kernel
theorem dX3_lookAtTicket_187 : decode cX3_lookAtTicket 187 = .ok (.getfield 359, 3) := by decide +kernel
theorem dX3_lookAtTicket_190 : decode cX3_lookAtTicket 190 = .ok (.ireturn, 1) := by decide +kernel
theorem dX3_lookAtTicket_191 : decode cX3_lookAtTicket 191 = .ok (.aload_n 1, 1) := by decide +kernel
theorem dX3_lookAtTicket_192 : decode cX3_lookAtTicket 192 = .ok (.getfield 325, 3) := by decide +kernel
theorem dX3_lookAtTicket_195 : decode cX3_lookAtTicket 195 = .ok (.ireturn, 1) := by decide +kernel
theorem dX3_lookAtTicket_196 : decode cX3_lookAtTicket 196 = .ok (.aload_n 1, 1) := by decide +kernel
theorem dX3_lookAtTicket_197 : decode cX3_lookAtTicket 197 = .ok (.getfield 334, 3) := by decide +kernel
theorem dX3_lookAtTicket_200 : decode cX3_lookAtTicket 200 = .ok (.ireturn, 1) := by decide +kernel
theorem dX3_lookAtTicket_201 : decode cX3_lookAtTicket 201 = .ok (.aload_n 1, 1) := by decide +kernel
theorem dX3_lookAtTicket_202 : decode cX3_lookAtTicket 202 = .ok (.aload_n 0, 1) := by decide +kernel
theorem dX3_lookAtTicket_203 : decode cX3_lookAtTicket 203 = .ok (.getfield 50, 3) := by decide +kernel
theorem dX3_lookAtTicket_206 : decode cX3_lookAtTicket 206 = .ok (.invokevirtual 385, 3) := by decide +kernel
theorem dX3_lookAtTicket_209 : decode cX3_lookAtTicket 209 = .ok (.ireturn, 1) := by decide +kernel
theorem dX3_lookAtTicket_210 : decode cX3_lookAtTicket 210 = .ok (.aload_n 1, 1) := by decide +kernel
theorem dX3_lookAtTicket_211 : decode cX3_lookAtTicket 211 = .ok (.getfield 212, 3) := by decide +kernel
theorem dX3_lookAtTicket_214 : decode cX3_lookAtTicket 214 = .ok (.ireturn, 1) := by decide +kernel
theorem dX3_lookAtTicket_215 : decode cX3_lookAtTicket 215 = .ok (.aload_n 1, 1) := by decide +kernel
theorem dX3_lookAtTicket_216 : decode cX3_lookAtTicket 216 = .ok (.invokevirtual 388, 3) := by decide +kernel
theorem dX3_lookAtTicket_219 : decode cX3_lookAtTicket 219 = .ok (.ireturn, 1) := by decide +kernel
theorem dX3_lookAtTicket_220 : decode cX3_lookAtTicket 220 = .ok (.aload_n 1, 1) := by decide +kernel
theorem dX3_lookAtTicket_221 : decode cX3_lookAtTicket 221 = .ok (.invokevirtual 391, 3) := by decide +kernel
theorem dX3_lookAtTicket_224 : decode cX3_lookAtTicket 224 = .ok (.ireturn, 1) := by decide +kernel
theorem dX3_lookAtTicket_225 : decode cX3_lookAtTicket 225 = .ok (.aload_n 1, 1) := by decide +kernel
theorem dX3_lookAtTicket_226 : decode cX3_lookAtTicket 226 = .ok (.getfield 248, 3) := by decide +kernel
theorem dX3_lookAtTicket_229 : decode cX3_lookAtTicket 229 = .ok (.ireturn, 1) := by decide +kernel
theorem dX3_lookAtTicket_230 : decode cX3_lookAtTicket 230 = .ok (.iconst (-1), 1) := by decide +kernel
theorem dX3_lookAtTicket_231 : decode cX3_lookAtTicket 231 = .ok (.ireturn, 1) := by decide +kernel
set_option maxRecDepth 20000 in
theorem ggX3_sumOn_X3_oversOn : GoodIn wsX3_sumOn wsX3_oversOn := goodIn_r _ [9, 10, 11, 12, 13, 14, 8, 15, 16, 17, 18, 19, 20, 21, 22, 23, 24, 25, 26, 27, 28, 29, 30, 31, 32, 33, 60, 61, 62, 63, 64, 65, 66, 67, 68, 69, 70, 71, 72, 73, 74, 75, 76, 77, 78, 79, 80, 81, 82, 83, 84, 85, 86, 87] (by decide +kernel) (by decide +kernel)
set_option maxRecDepth 20000 in
theorem gX3_sumOn_X3_oversOn : GoodIn wsX3_sumOn (wsV RX3 394 RX3 yX3_oversOn wsX3_oversOn) := goodIn_app (goodIn_of _ (by decide +kernel)) ggX3_sumOn_X3_oversOn
set_option maxRecDepth 20000 in
theorem ggX3_sumOn_X0_rowsUpTo : GoodIn wsX3_sumOn wsX0_rowsUpTo := goodIn_r _ [38, 39, 40, 41, 42, 43, 88] (by decide +kernel) (by decide +kernel)
set_option maxRecDepth 20000 in
theorem gX3_sumOn_X0_rowsUpTo : GoodIn wsX3_sumOn (wsV RX3 398 RX0 yX0_rowsUpTo wsX0_rowsUpTo) := goodIn_app (goodIn_of _ (by decide +kernel)) ggX3_sumOn_X0_rowsUpTo
set_option maxRecDepth 20000 in
theorem ggX3_sumOn_X0_interestOn : GoodIn wsX3_sumOn wsX0_interestOn := goodIn_r _ [47, 43, 48, 49, 37, 50, 51, 52, 53, 54, 55, 88] (by decide +kernel) (by decide +kernel)
set_option maxRecDepth 20000 in
theorem gX3_sumOn_X0_interestOn : GoodIn wsX3_sumOn (wsV RX3 401 RX0 yX0_interestOn wsX0_interestOn) := goodIn_app (goodIn_of _ (by decide +kernel)) ggX3_sumOn_X0_interestOn
set_option maxRecDepth 20000 in
theorem ggX3_sumOn_X0_total : GoodIn wsX3_sumOn wsX0_total := goodIn_r _ [59, 43, 88] (by decide +kernel) (by decide +kernel)
set_option maxRecDepth 20000 in
theorem gX3_sumOn_X0_total : GoodIn wsX3_sumOn (wsV RX3 405 RX0 yX0_total wsX0_total) := goodIn_app (goodIn_of _ (by decide +kernel)) ggX3_sumOn_X0_total
theorem dX3_sumOn_0 : decode cX3_sumOn 0 = .ok (.iload_n 1, 1) := by decide +kernel
theorem dX3_sumOn_1 : decode cX3_sumOn 1 = .ok (.ifCond .lt 21, 3) := by decide +kernel
theorem dX3_sumOn_4 : decode cX3_sumOn 4 = .ok (.iload_n 1, 1) := by decide +kernel
theorem dX3_sumOn_5 : decode cX3_sumOn 5 = .ok (.aload_n 0, 1) := by decide +kernel
theorem dX3_sumOn_6 : decode cX3_sumOn 6 = .ok (.getfield 50, 3) := by decide +kernel
theorem dX3_sumOn_9 : decode cX3_sumOn 9 = .ok (.if_icmp .gt 13, 3) := by decide +kernel
theorem dX3_sumOn_12 : decode cX3_sumOn 12 = .ok (.iload_n 2, 1) := by decide +kernel
theorem dX3_sumOn_13 : decode cX3_sumOn 13 = .ok (.ifCond .lt 9, 3) := by decide +kernel
theorem dX3_sumOn_16 : decode cX3_sumOn 16 = .ok (.iload_n 2, 1) := by decide +kernel
theorem dX3_sumOn_17 : decode cX3_sumOn 17 = .ok (.bipush 13, 2) := by decide +kernel
theorem dX3_sumOn_19 : decode cX3_sumOn 19 = .ok (.if_icmp .lt 7, 3) := by decide +kernel
theorem dX3_sumOn_22 : decode cX3_sumOn 22 = .ok (.ldc2_w 362, 3) := by decide +kernel
theorem dX3_sumOn_25 : decode cX3_sumOn 25 = .ok (.lreturn, 1) := by decide +kernel
theorem dX3_sumOn_26 : decode cX3_sumOn 26 = .ok (.iload_n 2, 1) := by decide +kernel
theorem dX3_sumOn_27 : decode cX3_sumOn 27 = .ok (.iconst 4, 1) := by decide +kernel
theorem dX3_sumOn_28 : decode cX3_sumOn 28 = .ok (.if_icmp .eq 9, 3) := by decide +kernel
theorem dX3_sumOn_31 : decode cX3_sumOn 31 = .ok (.iload_n 2, 1) := by decide +kernel
theorem dX3_sumOn_32 : decode cX3_sumOn 32 = .ok (.bipush 6, 2) := by decide +kernel
theorem dX3_sumOn_34 : decode cX3_sumOn 34 = .ok (.if_icmp .ne 19, 3) := by decide +kernel
theorem dX3_sumOn_37 : decode cX3_sumOn 37 = .ok (.aload_n 0, 1) := by decide +kernel
theorem dX3_sumOn_38 : decode cX3_sumOn 38 = .ok (.iload_n 1, 1) := by decide +kernel
theorem dX3_sumOn_39 : decode cX3_sumOn 39 = .ok (.iload_n 2, 1) := by decide +kernel
theorem dX3_sumOn_40 : decode cX3_sumOn 40 = .ok (.iconst 4, 1) := by decide +kernel
theorem dX3_sumOn_41 : decode cX3_sumOn 41 = .ok (.if_icmp .ne 7, 3) := by decide +kernel
theorem dX3_sumOn_44 : decode cX3_sumOn 44 = .ok (.iconst 1, 1) := by decide +kernel
theorem dX3_sumOn_45 : decode cX3_sumOn 45 = .ok (.goto 4, 3) := by decide +kernel
theorem dX3_sumOn_48 : decode cX3_sumOn 48 = .ok (.iconst 0, 1) := by decide +kernel
theorem dX3_sumOn_49 : decode cX3_sumOn 49 = .ok (.invokevirtual 394, 3) := by decide +kernel
theorem dX3_sumOn_52 : decode cX3_sumOn 52 = .ok (.lreturn, 1) := by decide +kernel
theorem dX3_sumOn_53 : decode cX3_sumOn 53 = .ok (.aload_n 0, 1) := by decide +kernel
theorem dX3_sumOn_54 : decode cX3_sumOn 54 = .ok (.getfield 42, 3) := by decide +kernel
theorem dX3_sumOn_57 : decode cX3_sumOn 57 = .ok (.iload_n 1, 1) := by decide +kernel
theorem dX3_sumOn_58 : decode cX3_sumOn 58 = .ok (.aload_n 0, 1) := by decide +kernel
