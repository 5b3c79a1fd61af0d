theorem dX3_sumOn_59 : decode cX3_sumOn 59 = .ok (.getfield 46, 3) := by decide +kernel
theorem dX3_sumOn_62 : decode cX3_sumOn 62 = .ok (.invokevirtual 398, 3) := by decide +kernel
theorem dX3_sumOn_65 : decode cX3_sumOn 65 = .ok (.istore_n 3, 1) := by decide +kernel
theorem dX3_sumOn_66 : decode cX3_sumOn 66 = .ok (.iload_n 2, 1) := by decide +kernel
theorem dX3_sumOn_67 : decode cX3_sumOn 67 = .ok (.bipush 9, 2) := by decide +kernel
theorem dX3_sumOn_69 : decode cX3_sumOn 69 = .ok (.if_icmp .ne 15, 3) := by decide +kernel
theorem dX3_sumOn_72 : decode cX3_sumOn 72 = .ok (.aload_n 0, 1) := by decide +kernel
theorem dX3_sumOn_73 : decode cX3_sumOn 73 = .ok (.getfield 42, 3) := by decide +kernel
theorem dX3_sumOn_76 : decode cX3_sumOn 76 = .ok (.iload_n 1, 1) := by decide +kernel
theorem dX3_sumOn_77 : decode cX3_sumOn 77 = .ok (.iload_n 3, 1) := by decide +kernel
theorem dX3_sumOn_78 : decode cX3_sumOn 78 = .ok (.invokevirtual 401, 3) := by decide +kernel
theorem dX3_sumOn_81 : decode cX3_sumOn 81 = .ok (.goto 12, 3) := by decide +kernel
theorem dX3_sumOn_84 : decode cX3_sumOn 84 = .ok (.aload_n 0, 1) := by decide +kernel
theorem dX3_sumOn_85 : decode cX3_sumOn 85 = .ok (.getfield 42, 3) := by decide +kernel
theorem dX3_sumOn_88 : decode cX3_sumOn 88 = .ok (.iload_n 2, 1) := by decide +kernel
theorem dX3_sumOn_89 : decode cX3_sumOn 89 = .ok (.iload_n 3, 1) := by decide +kernel
theorem dX3_sumOn_90 : decode cX3_sumOn 90 = .ok (.invokevirtual 405, 3) := by decide +kernel
theorem dX3_sumOn_93 : decode cX3_sumOn 93 = .ok (.lreturn, 1) := by decide +kernel
set_option maxRecDepth 20000 in
theorem ggX3_oversOn_X3_findTicket : GoodIn wsX3_oversOn wsX3_findTicket := goodIn_r _ [7, 1, 8, 26, 27, 28, 29, 30, 31, 32, 33, 34] (by decide +kernel) (by decide +kernel)
set_option maxRecDepth 20000 in
theorem gX3_oversOn_X3_findTicket : GoodIn wsX3_oversOn (wsV RX3 233 RX3 yX3_findTicket wsX3_findTicket) := goodIn_app (goodIn_of _ (by decide +kernel)) ggX3_oversOn_X3_findTicket
set_option maxRecDepth 20000 in
theorem ggX3_oversOn_X9_isKeptOver : GoodIn wsX3_oversOn wsX9_isKeptOver := goodIn_r _ [13, 14, 15, 16, 17, 12, 18, 19, 20, 21, 35, 36, 37, 38, 39, 40, 41, 42, 43, 44, 45, 46, 47, 48, 49, 50, 51, 52, 53] (by decide +kernel) (by decide +kernel)
set_option maxRecDepth 20000 in
theorem gX3_oversOn_X9_isKeptOver : GoodIn wsX3_oversOn (wsV RX3 346 RX9 yX9_isKeptOver wsX9_isKeptOver) := goodIn_app (goodIn_of _ (by decide +kernel)) ggX3_oversOn_X9_isKeptOver
set_option maxRecDepth 20000 in
theorem ggX3_oversOn_X9_isHousesOver : GoodIn wsX3_oversOn wsX9_isHousesOver := goodIn_r _ [25, 14, 15, 16, 17, 12, 18, 19, 20, 21, 35, 36, 37, 38, 39, 40, 41, 42, 43, 44, 45, 46, 47, 48, 49, 50, 51, 52, 53] (by decide +kernel) (by decide +kernel)
set_option maxRecDepth 20000 in
theorem gX3_oversOn_X9_isHousesOver : GoodIn wsX3_oversOn (wsV RX3 408 RX9 yX9_isHousesOver wsX9_isHousesOver) := goodIn_app (goodIn_of _ (by decide +kernel)) ggX3_oversOn_X9_isHousesOver
theorem dX3_oversOn_0 : decode cX3_oversOn 0 = .ok (.lconst 0, 1) := by decide +kernel
theorem dX3_oversOn_1 : decode cX3_oversOn 1 = .ok (.lstore_n 3, 1) := by decide +kernel
theorem dX3_oversOn_2 : decode cX3_oversOn 2 = .ok (.iconst 1, 1) := by decide +kernel
theorem dX3_oversOn_3 : decode cX3_oversOn 3 = .ok (.istore 5, 2) := by decide +kernel
theorem dX3_oversOn_5 : decode cX3_oversOn 5 = .ok (.iload 5, 2) := by decide +kernel
theorem dX3_oversOn_7 : decode cX3_oversOn 7 = .ok (.aload_n 0, 1) := by decide +kernel
theorem dX3_oversOn_8 : decode cX3_oversOn 8 = .ok (.getfield 59, 3) := by decide +kernel
theorem dX3_oversOn_11 : decode cX3_oversOn 11 = .ok (.if_icmp .gt 56, 3) := by decide +kernel
theorem dX3_oversOn_14 : decode cX3_oversOn 14 = .ok (.aload_n 0, 1) := by decide +kernel
theorem dX3_oversOn_15 : decode cX3_oversOn 15 = .ok (.iload 5, 2) := by decide +kernel
theorem dX3_oversOn_17 : decode cX3_oversOn 17 = .ok (.invokevirtual 233, 3) := by decide +kernel
theorem dX3_oversOn_20 : decode cX3_oversOn 20 = .ok (.astore 6, 2) := by decide +kernel
theorem dX3_oversOn_22 : decode cX3_oversOn 22 = .ok (.aload 6, 2) := by decide +kernel
theorem dX3_oversOn_24 : decode cX3_oversOn 24 = .ok (.ifnull 37, 3) := by decide +kernel
theorem dX3_oversOn_27 : decode cX3_oversOn 27 = .ok (.iload_n 2, 1) := by decide +kernel
theorem dX3_oversOn_28 : decode cX3_oversOn 28 = .ok (.ifCond .eq 15, 3) := by decide +kernel
theorem dX3_oversOn_31 : decode cX3_oversOn 31 = .ok (.aload 6, 2) := by decide +kernel
theorem dX3_oversOn_33 : decode cX3_oversOn 33 = .ok (.iload_n 1, 1) := by decide +kernel
theorem dX3_oversOn_34 : decode cX3_oversOn 34 = .ok (.invokevirtual 346, 3) := by decide +kernel
theorem dX3_oversOn_37 : decode cX3_oversOn 37 = .ok (.ifCond .eq 24, 3) := by decide +kernel
theorem dX3_oversOn_40 : decode cX3_oversOn 40 = .ok (.goto 12, 3) := by decide +kernel
theorem dX3_oversOn_43 : decode cX3_oversOn 43 = .ok (.aload 6, 2) := by decide +kernel
theorem dX3_oversOn_45 : decode cX3_oversOn 45 = .ok (.iload_n 1, 1) := by decide +kernel
theorem dX3_oversOn_46 : decode cX3_oversOn 46 = .ok (.invokevirtual 408, 3) := by decide +kernel
theorem dX3_oversOn_49 : decode cX3_oversOn 49 = .ok (.ifCond .eq 12, 3) := by decide +kernel
theorem dX3_oversOn_52 : decode cX3_oversOn 52 = .ok (.lload_n 3, 1) := by decide +kernel
theorem dX3_oversOn_53 : decode cX3_oversOn 53 = .ok (.aload 6, 2) := by decide +kernel
theorem dX3_oversOn_55 : decode cX3_oversOn 55 = .ok (.getfield 334, 3) := by decide +kernel
theorem dX3_oversOn_58 : decode cX3_oversOn 58 = .ok (.i2l, 1) := by decide +kernel
theorem dX3_oversOn_59 : decode cX3_oversOn 59 = .ok (.ladd, 1) := by decide +kernel
theorem dX3_oversOn_60 : decode cX3_oversOn 60 = .ok (.lstore_n 3, 1) := by decide +kernel
theorem dX3_oversOn_61 : decode cX3_oversOn 61 = .ok (.iinc 5 1, 3) := by decide +kernel
theorem dX3_oversOn_64 : decode cX3_oversOn 64 = .ok (.goto (-59), 3) := by decide +kernel
theorem dX3_oversOn_67 : decode cX3_oversOn 67 = .ok (.lload_n 3, 1) := by decide +kernel
theorem dX3_oversOn_68 : decode cX3_oversOn 68 = .ok (.lreturn, 1) := by decide +kernel
set_option maxRecDepth 20000 in
theorem ggX3_countFaults_X3_areCoinsThere : GoodIn wsX3_countFaults wsX3_areCoinsThere := goodIn_r _ [5, 6, 7, 8, 9, 10, 11, 12, 13, 14, 15, 16, 17, 18, 4, 19, 20, 21, 22, 23, 24, 25, 26, 27, 28, 29, 30, 54, 55, 56, 57, 58, 59, 60, 61, 62, 63, 64, 65, 66, 67, 68, 69, 70, 71, 72, 73, 74, 75, 76, 77, 78, 79, 80, 81, 82] (by decide +kernel) (by decide +kernel)
set_option maxRecDepth 20000 in
theorem gX3_countFaults_X3_areCoinsThere : GoodIn wsX3_countFaults (wsV RX3 411 RX3 yX3_areCoinsThere wsX3_areCoinsThere) := goodIn_app (goodIn_of _ (by decide +kernel)) ggX3_countFaults_X3_areCoinsThere
set_option maxRecDepth 20000 in
theorem ggX3_countFaults_X3_isEachUnderOneAtMost : GoodIn wsX3_countFaults wsX3_isEachUnderOneAtMost := goodIn_r _ [34, 35, 36, 37, 4, 38, 8, 39, 16, 17, 18, 19, 20, 21, 22, 23, 24, 25, 26, 27, 28, 29, 30, 54, 55, 56, 57, 58, 59, 60, 61, 62, 63, 64, 65, 66, 67, 68, 69, 70, 71, 72, 73, 74, 75, 76, 77, 78, 79, 80, 81] (by decide +kernel) (by decide +kernel)
set_option maxRecDepth 20000 in
theorem gX3_countFaults_X3_isEachUnderOneAtMost : GoodIn wsX3_countFaults (wsV RX3 414 RX3 yX3_isEachUnderOneAtMost wsX3_isEachUnderOneAtMost) := goodIn_app (goodIn_of _ (by decide +kernel)) ggX3_countFaults_X3_isEachUnderOneAtMost
set_option maxRecDepth 20000 in
theorem ggX3_countFaults_X3_isEachOpenOnItsPlace : GoodIn wsX3_countFaults wsX3_isEachOpenOnItsPlace := goodIn_r _ [43, 8, 16, 17, 18, 4, 19, 20, 21, 22, 23, 24, 25, 26, 27, 28, 29, 30, 44, 45, 46, 47, 39, 48, 49, 50, 51, 52, 53, 54, 55, 56, 57, 58, 59, 60, 61, 62, 63, 64, 65, 66, 67, 68, 69, 70, 71, 72, 73, 74, 75, 76, 77, 78, 79, 80, 81] (by decide +kernel) (by decide +kernel)
set_option maxRecDepth 20000 in
theorem gX3_countFaults_X3_isEachOpenOnItsPlace : GoodIn wsX3_countFaults (wsV RX3 417 RX3 yX3_isEachOpenOnItsPlace wsX3_isEachOpenOnItsPlace) := goodIn_app (goodIn_of _ (by decide +kernel)) ggX3_countFaults_X3_isEachOpenOnItsPlace
theorem dX3_countFaults_0 : decode cX3_countFaults 0 = .ok (.iconst 0, 1) := by decide +kernel
theorem dX3_countFaults_1 : decode cX3_countFaults 1 = .ok (.istore_n 1, 1) := by decide +kernel
theorem dX3_countFaults_2 : decode cX3_countFaults 2 = .ok (.aload_n 0, 1) := by decide +kernel
theorem dX3_countFaults_3 : decode cX3_countFaults 3 = .ok (.invokevirtual 411, 3) := by decide +kernel
theorem dX3_countFaults_6 : decode cX3_countFaults 6 = .ok (.ifCond .ne 6, 3) := by decide +kernel
theorem dX3_countFaults_9 : decode cX3_countFaults 9 = .ok (.iinc 1 1, 3) := by decide +kernel
theorem dX3_countFaults_12 : decode cX3_countFaults 12 = .ok (.aload_n 0, 1) := by decide +kernel
theorem dX3_countFaults_13 : decode cX3_countFaults 13 = .ok (.invokevirtual 414, 3) := by decide +kernel
theorem dX3_countFaults_16 : decode cX3_countFaults 16 = .ok (.ifCond .ne 6, 3) := by decide +kernel
theorem dX3_countFaults_19 : decode cX3_countFaults 19 = .ok (.iinc 1 1, 3) := by decide +kernel
theorem dX3_countFaults_22 : decode cX3_countFaults 22 = .ok (.aload_n 0, 1) := by decide +kernel
theorem dX3_countFaults_23 : decode cX3_countFaults 23 = .ok (.invokevirtual 417, 3) := by decide +kernel
theorem dX3_countFaults_26 : decode cX3_countFaults 26 = .ok (.ifCond .ne 6, 3) := by decide +kernel
theorem dX3_countFaults_29 : decode cX3_countFaults 29 = .ok (.iinc 1 1, 3) := by decide +kernel
theorem dX3_countFaults_32 : decode cX3_countFaults 32 = .ok (.iload_n 1, 1) := by decide +kernel
theorem dX3_countFaults_33 : decode cX3_countFaults 33 = .ok (.ireturn, 1) := by decide +kernel
set_option maxRecDepth 20000 in
theorem ggX3_areCoinsThere_X0_total : GoodIn wsX3_areCoinsThere wsX0_total := goodIn_r _ [9, 10, 55] (by decide +kernel) (by decide +kernel)
set_option maxRecDepth 20000 in
theorem gX3_areCoinsThere_X0_total : GoodIn wsX3_areCoinsThere (wsV RX3 405 RX0 yX0_total wsX0_total) := goodIn_app (goodIn_of _ (by decide +kernel)) ggX3_areCoinsThere_X0_total
set_option maxRecDepth 20000 in
theorem ggX3_areCoinsThere_X3_findOpen : GoodIn wsX3_areCoinsThere wsX3_findOpen := goodIn_r _ [15, 16, 17, 18, 14, 19, 3, 20, 21, 22, 23, 24, 25, 26, 27, 28, 29, 30, 31, 32, 33, 34, 35, 36, 37, 38, 39, 40, 41, 42, 43, 44, 45, 46, 47, 48, 49, 50, 51, 52, 53, 54] (by decide +kernel) (by decide +kernel)
set_option maxRecDepth 20000 in
theorem gX3_areCoinsThere_X3_findOpen : GoodIn wsX3_areCoinsThere (wsV RX3 73 RX3 yX3_findOpen wsX3_findOpen) := goodIn_app (goodIn_of _ (by decide +kernel)) ggX3_areCoinsThere_X3_findOpen
theorem dX3_areCoinsThere_0 : decode cX3_areCoinsThere 0 = .ok (.aload_n 0, 1) := by decide +kernel
theorem dX3_areCoinsThere_1 : decode cX3_areCoinsThere 1 = .ok (.getfield 42, 3) := by decide +kernel
theorem dX3_areCoinsThere_4 : decode cX3_areCoinsThere 4 = .ok (.iconst 2, 1) := by decide +kernel
theorem dX3_areCoinsThere_5 : decode cX3_areCoinsThere 5 = .ok (.aload_n 0, 1) := by decide +kernel
theorem dX3_areCoinsThere_6 : decode cX3_areCoinsThere 6 = .ok (.getfield 46, 3) := by decide +kernel
theorem dX3_areCoinsThere_9 : decode cX3_areCoinsThere 9 = .ok (.invokevirtual 405, 3) := by decide +kernel
theorem dX3_areCoinsThere_12 : decode cX3_areCoinsThere 12 = .ok (.aload_n 0, 1) := by decide +kernel
theorem dX3_areCoinsThere_13 : decode cX3_areCoinsThere 13 = .ok (.getfield 42, 3) := by decide +kernel
theorem dX3_areCoinsThere_16 : decode cX3_areCoinsThere 16 = .ok (.bipush 13, 2) := by decide +kernel
theorem dX3_areCoinsThere_18 : decode cX3_areCoinsThere 18 = .ok (.aload_n 0, 1) := by decide +kernel
theorem dX3_areCoinsThere_19 : decode cX3_areCoinsThere 19 = .ok (.getfield 46, 3) := by decide +kernel
theorem dX3_areCoinsThere_22 : decode cX3_areCoinsThere 22 = .ok (.invokevirtual 405, 3) := by decide +kernel
theorem dX3_areCoinsThere_25 : decode cX3_areCoinsThere 25 = .ok (.ladd, 1) := by decide +kernel
theorem dX3_areCoinsThere_26 : decode cX3_areCoinsThere 26 = .ok (.lstore_n 1, 1) := by decide +kernel
theorem dX3_areCoinsThere_27 : decode cX3_areCoinsThere 27 = .ok (.iconst 1, 1) := by decide +kernel
theorem dX3_areCoinsThere_28 : decode cX3_areCoinsThere 28 = .ok (.istore_n 3, 1) := by decide +kernel
theorem dX3_areCoinsThere_29 : decode cX3_areCoinsThere 29 = .ok (.iload_n 3, 1) := by decide +kernel
theorem dX3_areCoinsThere_30 : decode cX3_areCoinsThere 30 = .ok (.aload_n 0, 1) := by decide +kernel
theorem dX3_areCoinsThere_31 : decode cX3_areCoinsThere 31 = .ok (.getfield 59, 3) := by decide +kernel
theorem dX3_areCoinsThere_34 : decode cX3_areCoinsThere 34 = .ok (.if_icmp .gt 30, 3) := by decide +kernel
theorem dX3_areCoinsThere_37 : decode cX3_areCoinsThere 37 = .ok (.aload_n 0, 1) := by decide +kernel
theorem dX3_areCoinsThere_38 : decode cX3_areCoinsThere 38 = .ok (.iload_n 3, 1) := by decide +kernel
theorem dX3_areCoinsThere_39 : decode cX3_areCoinsThere 39 = .ok (.invokevirtual 73, 3) := by decide +kernel
theorem dX3_areCoinsThere_42 : decode cX3_areCoinsThere 42 = .ok (.astore 4, 2) := by decide +kernel
theorem dX3_areCoinsThere_44 : decode cX3_areCoinsThere 44 = .ok (.aload 4, 2) := by decide +kernel
theorem dX3_areCoinsThere_46 : decode cX3_areCoinsThere 46 = .ok (.ifnull 12, 3) := by decide +kernel
theorem dX3_areCoinsThere_49 : decode cX3_areCoinsThere 49 = .ok (.lload_n 1, 1) := by decide +kernel
theorem dX3_areCoinsThere_50 : decode cX3_areCoinsThere 50 = .ok (.aload 4, 2) := by decide +kernel
theorem dX3_areCoinsThere_52 : decode cX3_areCoinsThere 52 = .ok (.getfield 81, 3) := by decide +kernel
theorem dX3_areCoinsThere_55 : decode cX3_areCoinsThere 55 = .ok (.i2l, 1) := by decide +kernel
theorem dX3_areCoinsThere_56 : decode cX3_areCoinsThere 56 = .ok (.ladd, 1) := by decide +kernel
theorem dX3_areCoinsThere_57 : decode cX3_areCoinsThere 57 = .ok (.lstore_n 1, 1) := by decide +kernel
theorem dX3_areCoinsThere_58 : decode cX3_areCoinsThere 58 = .ok (.iinc 3 1, 3) := by decide +kernel
theorem dX3_areCoinsThere_61 : decode cX3_areCoinsThere 61 = .ok (.goto (-32), 3) := by decide +kernel
theorem dX3_areCoinsThere_64 : decode cX3_areCoinsThere 64 = .ok (.lload_n 1, 1) := by decide +kernel
theorem dX3_areCoinsThere_65 : decode cX3_areCoinsThere 65 = .ok (.aload_n 0, 1) := by decide +kernel
theorem dX3_areCoinsThere_66 : decode cX3_areCoinsThere 66 = .ok (.getfield 42, 3) := by decide +kernel
theorem dX3_areCoinsThere_69 : decode cX3_areCoinsThere 69 = .ok (.iconst 0, 1) := by decide +kernel
theorem dX3_areCoinsThere_70 : decode cX3_areCoinsThere 70 = .ok (.aload_n 0, 1) := by decide +kernel
theorem dX3_areCoinsThere_71 : decode cX3_areCoinsThere 71 = .ok (.getfield 46, 3) := by decide +kernel
theorem dX3_areCoinsThere_74 : decode cX3_areCoinsThere 74 = .ok (.invokevirtual 405, 3) := by decide +kernel
theorem dX3_areCoinsThere_77 : decode cX3_areCoinsThere 77 = .ok (.lcmp, 1) := by decide +kernel
theorem dX3_areCoinsThere_78 : decode cX3_areCoinsThere 78 = .ok (.ifCond .ne 7, 3) := by decide +kernel
theorem dX3_areCoinsThere_81 : decode cX3_areCoinsThere 81 = .ok (.iconst 1, 1) := by decide +kernel
theorem dX3_areCoinsThere_82 : decode cX3_areCoinsThere 82 = .ok (.goto 4, 3) := by decide +kernel
theorem dX3_areCoinsThere_85 : decode cX3_areCoinsThere 85 = .ok (.iconst 0, 1) := by decide +kernel
theorem dX3_areCoinsThere_86 : decode cX3_areCoinsThere 86 = .ok (.ireturn, 1) := by decide +kernel
set_option maxRecDepth 20000 in
theorem ggX3_isEachUnderOneAtMost_X3_countOpenOn : GoodIn wsX3_isEachUnderOneAtMost wsX3_countOpenOn := goodIn_r _ [5, 6, 7, 8, 9, 10, 4, 11, 12, 13, 14, 15, 16, 17, 18, 19, 20, 21, 22, 23, 24, 25, 26, 27, 28, 29, 30, 31, 32, 33, 34, 35, 36, 37, 38, 39, 40, 41, 42, 43, 44, 45, 46, 47, 48, 49, 50] (by decide +kernel) (by decide +kernel)
set_option maxRecDepth 20000 in
theorem gX3_isEachUnderOneAtMost_X3_countOpenOn : GoodIn wsX3_isEachUnderOneAtMost (wsV RX3 420 RX3 yX3_countOpenOn wsX3_countOpenOn) := goodIn_app (goodIn_of _ (by decide +kernel)) ggX3_isEachUnderOneAtMost_X3_countOpenOn
theorem dX3_isEachUnderOneAtMost_0 : decode cX3_isEachUnderOneAtMost 0 = .ok (.iconst 0, 1) := by decide +kernel
theorem dX3_isEachUnderOneAtMost_1 : decode cX3_isEachUnderOneAtMost 1 = .ok (.istore_n 1, 1) := by decide +kernel
theorem dX3_isEachUnderOneAtMost_2 : decode cX3_isEachUnderOneAtMost 2 = .ok (.iload_n 1, 1) := by decide +kernel
theorem dX3_isEachUnderOneAtMost_3 : decode cX3_isEachUnderOneAtMost 3 = .ok (.bipush 40, 2) := by decide +kernel
theorem dX3_isEachUnderOneAtMost_5 : decode cX3_isEachUnderOneAtMost 5 = .ok (.if_icmp .ge 20, 3) := by decide +kernel
theorem dX3_isEachUnderOneAtMost_8 : decode cX3_isEachUnderOneAtMost 8 = .ok (.aload_n 0, 1) := by decide +kernel
theorem dX3_isEachUnderOneAtMost_9 : decode cX3_isEachUnderOneAtMost 9 = .ok (.iload_n 1, 1) := by decide +kernel
theorem dX3_isEachUnderOneAtMost_10 : decode cX3_isEachUnderOneAtMost 10 = .ok (.invokevirtual 420, 3) := by decide +kernel
theorem dX3_isEachUnderOneAtMost_13 : decode cX3_isEachUnderOneAtMost 13 = .ok (.iconst 1, 1) := by decide +kernel
theorem dX3_isEachUnderOneAtMost_14 : decode cX3_isEachUnderOneAtMost 14 = .ok (.if_icmp .le 5, 3) := by decide +kernel
theorem dX3_isEachUnderOneAtMost_17 : decode cX3_isEachUnderOneAtMost 17 = .ok (.iconst 0, 1) := by decide +kernel
theorem dX3_isEachUnderOneAtMost_18 : decode cX3_isEachUnderOneAtMost 18 = .ok (.ireturn, 1) := by decide +kernel
theorem dX3_isEachUnderOneAtMost_19 : decode cX3_isEachUnderOneAtMost 19 = .ok (.iinc 1 1, 3) := by decide +kernel
theorem dX3_isEachUnderOneAtMost_22 : decode cX3_isEachUnderOneAtMost 22 = .ok (.goto (-20), 3) := by decide +kernel
theorem dX3_isEachUnderOneAtMost_25 : decode cX3_isEachUnderOneAtMost 25 = .ok (.iconst 1, 1) := by decide +kernel
theorem dX3_isEachUnderOneAtMost_26 : decode cX3_isEachUnderOneAtMost 26 = .ok (.ireturn, 1) := by decide +kernel
set_option maxRecDepth 20000 in
theorem ggX3_countOpenOn_X3_findOpen : GoodIn wsX3_countOpenOn wsX3_findOpen := goodIn_r _ [7, 8, 9, 10, 6, 11, 1, 12, 13, 14, 15, 16, 17, 18, 19, 20, 21, 22, 23, 24, 25, 26, 27, 28, 29, 30, 31, 32, 33, 34, 35, 36, 37, 38, 39, 40, 41, 42, 43, 44, 45, 46] (by decide +kernel) (by decide +kernel)
set_option maxRecDepth 20000 in
theorem gX3_countOpenOn_X3_findOpen : GoodIn wsX3_countOpenOn (wsV RX3 73 RX3 yX3_findOpen wsX3_findOpen) := goodIn_app (goodIn_of _ (by decide +kernel)) ggX3_countOpenOn_X3_findOpen
theorem dX3_countOpenOn_0 : decode cX3_countOpenOn 0 = .ok (.iconst 0, 1) := by decide +kernel
theorem dX3_countOpenOn_1 : decode cX3_countOpenOn 1 = .ok (.istore_n 2, 1) := by decide +kernel
theorem dX3_countOpenOn_2 : decode cX3_countOpenOn 2 = .ok (.iconst 1, 1) := by decide +kernel
theorem dX3_countOpenOn_3 : decode cX3_countOpenOn 3 = .ok (.istore_n 3, 1) := by decide +kernel
theorem dX3_countOpenOn_4 : decode cX3_countOpenOn 4 = .ok (.iload_n 3, 1) := by decide +kernel
theorem dX3_countOpenOn_5 : decode cX3_countOpenOn 5 = .ok (.aload_n 0, 1) := by decide +kernel
theorem dX3_countOpenOn_6 : decode cX3_countOpenOn 6 = .ok (.getfield 59, 3) := by decide +kernel
theorem dX3_countOpenOn_9 : decode cX3_countOpenOn 9 = .ok (.if_icmp .gt 33, 3) := by decide +kernel
theorem dX3_countOpenOn_12 : decode cX3_countOpenOn 12 = .ok (.aload_n 0, 1) := by decide +kernel
theorem dX3_countOpenOn_13 : decode cX3_countOpenOn 13 = .ok (.iload_n 3, 1) := by decide +kernel
theorem dX3_countOpenOn_14 : decode cX3_countOpenOn 14 = .ok (.invokevirtual 73, 3) := by decide +kernel
theorem dX3_countOpenOn_17 : decode cX3_countOpenOn 17 = .ok (.astore 4, 2) := by decide +kernel
theorem dX3_countOpenOn_19 : decode cX3_countOpenOn 19 = .ok (.aload 4, 2) := by decide +kernel
theorem dX3_countOpenOn_21 : decode cX3_countOpenOn 21 = .ok (.ifnull 15, 3) := by decide +kernel
theorem dX3_countOpenOn_24 : decode cX3_countOpenOn 24 = .ok (.aload 4, 2) := by decide +kernel
theorem dX3_countOpenOn_26 : decode cX3_countOpenOn 26 = .ok (.getfield 212, 3) := by decide +kernel
theorem dX3_countOpenOn_29 : decode cX3_countOpenOn 29 = .ok (.iload_n 1, 1) := by decide +kernel
theorem dX3_countOpenOn_30 : decode cX3_countOpenOn 30 = .ok (.if_icmp .ne 6, 3) := by decide +kernel
theorem dX3_countOpenOn_33 : decode cX3_countOpenOn 33 = .ok (.iinc 2 1, 3) := by decide +kernel
theorem dX3_countOpenOn_36 : decode cX3_countOpenOn 36 = .ok (.iinc 3 1, 3) := by decide +kernel
theorem dX3_countOpenOn_39 : decode cX3_countOpenOn 39 = .ok (.goto (-35), 3) := by decide +kernel
theorem dX3_countOpenOn_42 : decode cX3_countOpenOn 42 = .ok (.iload_n 2, 1) := by decide +kernel
theorem dX3_countOpenOn_43 : decode cX3_countOpenOn 43 = .ok (.ireturn, 1) := by decide +kernel
set_option maxRecDepth 20000 in
theorem ggX3_isEachOpenOnItsPlace_X3_findOpen : GoodIn wsX3_isEachOpenOnItsPlace wsX3_findOpen := goodIn_r _ [6, 7, 8, 9, 5, 10, 1, 11, 12, 13, 14, 15, 16, 17, 29, 30, 31, 32, 33, 34, 35, 36, 37, 38, 39, 40, 41, 42, 43, 44, 45, 46, 47, 48, 49, 50, 51, 52, 53, 54, 55, 56] (by decide +kernel) (by decide +kernel)
set_option maxRecDepth 20000 in
theorem gX3_isEachOpenOnItsPlace_X3_findOpen : GoodIn wsX3_isEachOpenOnItsPlace (wsV RX3 73 RX3 yX3_findOpen wsX3_findOpen) := goodIn_app (goodIn_of _ (by decide +kernel)) ggX3_isEachOpenOnItsPlace_X3_findOpen
set_option maxRecDepth 20000 in
theorem ggX3_isEachOpenOnItsPlace_X3_isOnItsPlace : GoodIn wsX3_isEachOpenOnItsPlace wsX3_isOnItsPlace := goodIn_r _ [21, 22, 23, 24, 25, 26, 27, 5, 28, 38, 39, 40, 41, 42, 43, 44, 45, 46, 47, 48, 49, 50, 51, 52, 53, 54, 55, 56, 29, 30, 31, 32, 33, 34, 35, 36, 37] (by decide +kernel) (by decide +kernel)
set_option maxRecDepth 20000 in
theorem gX3_isEachOpenOnItsPlace_X3_isOnItsPlace : GoodIn wsX3_isEachOpenOnItsPlace (wsV RX3 423 RX3 yX3_isOnItsPlace wsX3_isOnItsPlace) := goodIn_app (goodIn_of _ (by decide +kernel)) ggX3_isEachOpenOnItsPlace_X3_isOnItsPlace
theorem dX3_isEachOpenOnItsPlace_0 : decode cX3_isEachOpenOnItsPlace 0 = .ok (.iconst 1, 1) := by decide +kernel
theorem dX3_isEachOpenOnItsPlace_1 : decode cX3_isEachOpenOnItsPlace 1 = .ok (.istore_n 1, 1) := by decide +kernel
theorem dX3_isEachOpenOnItsPlace_2 : decode cX3_isEachOpenOnItsPlace 2 = .ok (.iload_n 1, 1) := by decide +kernel
theorem dX3_isEachOpenOnItsPlace_3 : decode cX3_isEachOpenOnItsPlace 3 = .ok (.aload_n 0, 1) := by decide +kernel
theorem dX3_isEachOpenOnItsPlace_4 : decode cX3_isEachOpenOnItsPlace 4 = .ok (.getfield 59, 3) := by decide +kernel
theorem dX3_isEachOpenOnItsPlace_7 : decode cX3_isEachOpenOnItsPlace 7 = .ok (.if_icmp .gt 29, 3) := by decide +kernel
theorem dX3_isEachOpenOnItsPlace_10 : decode cX3_isEachOpenOnItsPlace 10 = .ok (.aload_n 0, 1) := by decide +kernel
theorem dX3_isEachOpenOnItsPlace_11 : decode cX3_isEachOpenOnItsPlace 11 = .ok (.iload_n 1, 1) := by decide +kernel
theorem dX3_isEachOpenOnItsPlace_12 : decode cX3_isEachOpenOnItsPlace 12 = .ok (.invokevirtual 73, 3) := by decide +kernel
theorem dX3_isEachOpenOnItsPlace_15 : decode cX3_isEachOpenOnItsPlace 15 = .ok (.astore_n 2, 1) := by decide +kernel
theorem dX3_isEachOpenOnItsPlace_16 : decode cX3_isEachOpenOnItsPlace 16 = .ok (.aload_n 2, 1) := by decide +kernel
theorem dX3_isEachOpenOnItsPlace_17 : decode cX3_isEachOpenOnItsPlace 17 = .ok (.ifnull 13, 3) := by decide +kernel
theorem dX3_isEachOpenOnItsPlace_20 : decode cX3_isEachOpenOnItsPlace 20 = .ok (.aload_n 0, 1) := by decide +kernel
theorem dX3_isEachOpenOnItsPlace_21 : decode cX3_isEachOpenOnItsPlace 21 = .ok (.aload_n 2, 1) := by decide +kernel
theorem dX3_isEachOpenOnItsPlace_22 : decode cX3_isEachOpenOnItsPlace 22 = .ok (.invokevirtual 423, 3) := by decide +kernel
theorem dX3_isEachOpenOnItsPlace_25 : decode cX3_isEachOpenOnItsPlace 25 = .ok (.ifCond .ne 5, 3) := by decide +kernel
theorem dX3_isEachOpenOnItsPlace_28 : decode cX3_isEachOpenOnItsPlace 28 = .ok (.iconst 0, 1) := by decide +kernel
theorem dX3_isEachOpenOnItsPlace_29 : decode cX3_isEachOpenOnItsPlace 29 = .ok (.ireturn, 1) := by decide +kernel
theorem dX3_isEachOpenOnItsPlace_30 : decode cX3_isEachOpenOnItsPlace 30 = .ok (.iinc 1 1, 3) := by decide +kernel
theorem dX3_isEachOpenOnItsPlace_33 : decode cX3_isEachOpenOnItsPlace 33 = .ok (.goto (-31), 3) := by decide +kernel
theorem dX3_isEachOpenOnItsPlace_36 : decode cX3_isEachOpenOnItsPlace 36 = .ok (.iconst 1, 1) := by decide +kernel
theorem dX3_isEachOpenOnItsPlace_37 : decode cX3_isEachOpenOnItsPlace 37 = .ok (.ireturn, 1) := by decide +kernel
set_option maxRecDepth 20000 in
theorem ggX3_isOnItsPlace_X3_isPlace : GoodIn wsX3_isOnItsPlace wsX3_isPlace := goodIn_r _ [8] (by decide +kernel) (by decide +kernel)
set_option maxRecDepth 20000 in
theorem gX3_isOnItsPlace_X3_isPlace : GoodIn wsX3_isOnItsPlace (va_wsS RX3 97 yX3_isPlace wsX3_isPlace) := goodIn_app (goodIn_of _ (by decide +kernel)) ggX3_isOnItsPlace_X3_isPlace
theorem dX3_isOnItsPlace_0 : decode cX3_isOnItsPlace 0 = .ok (.aload_n 1, 1) := by decide +kernel
theorem dX3_isOnItsPlace_1 : decode cX3_isOnItsPlace 1 = .ok (.getfield 212, 3) := by decide +kernel
theorem dX3_isOnItsPlace_4 : decode cX3_isOnItsPlace 4 = .ok (.invokestatic 97, 3) := by decide +kernel
theorem dX3_isOnItsPlace_7 : decode cX3_isOnItsPlace 7 = .ok (.ifCond .eq 35, 3) := by decide +kernel
theorem dX3_isOnItsPlace_10 : decode cX3_isOnItsPlace 10 = .ok (.aload_n 0, 1) := by decide +kernel
theorem dX3_isOnItsPlace_11 : decode cX3_isOnItsPlace 11 = .ok (.getfield 25, 3) := by decide +kernel
theorem dX3_isOnItsPlace_14 : decode cX3_isOnItsPlace 14 = .ok (.aload_n 1, 1) := by decide +kernel
theorem dX3_isOnItsPlace_15 : decode cX3_isOnItsPlace 15 = .ok (.getfield 212, 3) := by decide +kernel
theorem dX3_isOnItsPlace_18 : decode cX3_isOnItsPlace 18 = .ok (.aaload, 1) := by decide +kernel
theorem dX3_isOnItsPlace_19 : decode cX3_isOnItsPlace 19 = .ok (.ifnull 23, 3) := by decide +kernel
theorem dX3_isOnItsPlace_22 : decode cX3_isOnItsPlace 22 = .ok (.aload_n 0, 1) := by decide +kernel
theorem dX3_isOnItsPlace_23 : decode cX3_isOnItsPlace 23 = .ok (.getfield 33, 3) := by decide +kernel
theorem dX3_isOnItsPlace_26 : decode cX3_isOnItsPlace 26 = .ok (.aload_n 1, 1) := by decide +kernel
theorem dX3_isOnItsPlace_27 : decode cX3_isOnItsPlace 27 = .ok (.getfield 212, 3) := by decide +kernel
theorem dX3_isOnItsPlace_30 : decode cX3_isOnItsPlace 30 = .ok (.iaload, 1) := by decide +kernel
theorem dX3_isOnItsPlace_31 : decode cX3_isOnItsPlace 31 = .ok (.aload_n 1, 1) := by decide +kernel
theorem dX3_isOnItsPlace_32 : decode cX3_isOnItsPlace 32 = .ok (.getfield 215, 3) := by decide +kernel
theorem dX3_isOnItsPlace_35 : decode cX3_isOnItsPlace 35 = .ok (.if_icmp .ne 7, 3) := by decide +kernel
theorem dX3_isOnItsPlace_38 : decode cX3_isOnItsPlace 38 = .ok (.iconst 1, 1) := by decide +kernel
theorem dX3_isOnItsPlace_39 : decode cX3_isOnItsPlace 39 = .ok (.goto 4, 3) := by decide +kernel
theorem dX3_isOnItsPlace_42 : decode cX3_isOnItsPlace 42 = .ok (.iconst 0, 1) := by decide +kernel
theorem dX3_isOnItsPlace_43 : decode cX3_isOnItsPlace 43 = .ok (.ireturn, 1) := by decide +kernel
set_option maxRecDepth 20000 in
theorem ggX4_init_X5_init : GoodIn wsX4_init wsX5_init := goodIn_r _ [5, 6, 7, 8] (by decide +kernel) (by decide +kernel)
set_option maxRecDepth 20000 in
theorem gX4_init_X5_init_n3 : GoodIn wsX4_init (wsX5_init) := ggX4_init_X5_init
theorem dX4_init_0 : decode cX4_init 0 = .ok (.aload_n 0, 1) := by decide +kernel
theorem dX4_init_1 : decode cX4_init 1 = .ok (.invokespecial 3, 3) := by decide +kernel
theorem dX4_init_4 : decode cX4_init 4 = .ok (.aload_n 0, 1) := by decide +kernel
theorem dX4_init_5 : decode cX4_init 5 = .ok (.aload_n 1, 1) := by decide +kernel
theorem dX4_init_6 : decode cX4_init 6 = .ok (.putfield 9, 3) := by decide +kernel
theorem dX4_init_9 : decode cX4_init 9 = .ok (.aload_n 0, 1) := by decide +kernel
theorem dX4_init_10 : decode cX4_init 10 = .ok (.iload_n 2, 1) := by decide +kernel
theorem dX4_init_11 : decode cX4_init 11 = .ok (.putfield 15, 3) := by decide +kernel
theorem dX4_init_14 : decode cX4_init 14 = .ok (.return_, 1) := by decide +kernel
set_option maxRecDepth 20000 in
theorem ggX4_empty_X4_init : GoodIn wsX4_empty wsX4_init := goodIn_r _ [7, 8, 9, 10, 11, 12, 13, 14, 15, 16, 17] (by decide +kernel) (by decide +kernel)
set_option maxRecDepth 20000 in
theorem gX4_empty_X4_init : GoodIn wsX4_empty (wsX4_init) := ggX4_empty_X4_init
theorem dX4_empty_0 : decode cX4_empty 0 = .ok (.new 10, 3) := by decide +kernel
theorem dX4_empty_3 : decode cX4_empty 3 = .ok (.dup, 1) := by decide +kernel
theorem dX4_empty_4 : decode cX4_empty 4 = .ok (.bipush 6, 2) := by decide +kernel
theorem dX4_empty_6 : decode cX4_empty 6 = .ok (.newarray .int, 2) := by decide +kernel
theorem dX4_empty_8 : decode cX4_empty 8 = .ok (.iconst 0, 1) := by decide +kernel
theorem dX4_empty_9 : decode cX4_empty 9 = .ok (.invokespecial 19, 3) := by decide +kernel
theorem dX4_empty_12 : decode cX4_empty 12 = .ok (.areturn, 1) := by decide +kernel
theorem dX4_isFull_0 : decode cX4_isFull 0 = .ok (.aload_n 0, 1) := by decide +kernel
theorem dX4_isFull_1 : decode cX4_isFull 1 = .ok (.getfield 15, 3) := by decide +kernel
theorem dX4_isFull_4 : decode cX4_isFull 4 = .ok (.bipush 6, 2) := by decide +kernel
theorem dX4_isFull_6 : decode cX4_isFull 6 = .ok (.if_icmp .lt 7, 3) := by decide +kernel
theorem dX4_isFull_9 : decode cX4_isFull 9 = .ok (.iconst 1, 1) := by decide +kernel
theorem dX4_isFull_10 : decode cX4_isFull 10 = .ok (.goto 4, 3) := by decide +kernel
theorem dX4_isFull_13 : decode cX4_isFull 13 = .ok (.iconst 0, 1) := by decide +kernel
theorem dX4_isFull_14 : decode cX4_isFull 14 = .ok (.ireturn, 1) := by decide +kernel
theorem dX4_holds_0 : decode cX4_holds 0 = .ok (.iload_n 1, 1) := by decide +kernel
theorem dX4_holds_1 : decode cX4_holds 1 = .ok (.ifCond .lt 25, 3) := by decide +kernel
theorem dX4_holds_4 : decode cX4_holds 4 = .ok (.iload_n 1, 1) := by decide +kernel
theorem dX4_holds_5 : decode cX4_holds 5 = .ok (.aload_n 0, 1) := by decide +kernel
theorem dX4_holds_6 : decode cX4_holds 6 = .ok (.getfield 9, 3) := by decide +kernel
theorem dX4_holds_9 : decode cX4_holds 9 = .ok (.arraylength, 1) := by decide +kernel
theorem dX4_holds_10 : decode cX4_holds 10 = .ok (.if_icmp .ge 16, 3) := by decide +kernel
theorem dX4_holds_13 : decode cX4_holds 13 = .ok (.aload_n 0, 1) := by decide +kernel
theorem dX4_holds_14 : decode cX4_holds 14 = .ok (.getfield 9, 3) := by decide +kernel
theorem dX4_holds_17 : decode cX4_holds 17 = .ok (.iload_n 1, 1) := by decide +kernel
theorem dX4_holds_18 : decode cX4_holds 18 = .ok (.iaload, 1) := by decide +kernel
theorem dX4_holds_19 : decode cX4_holds 19 = .ok (.ifCond .eq 7, 3) := by decide +kernel
theorem dX4_holds_22 : decode cX4_holds 22 = .ok (.iconst 1, 1) := by decide +kernel
theorem dX4_holds_23 : decode cX4_holds 23 = .ok (.goto 4, 3) := by decide +kernel
theorem dX4_holds_26 : decode cX4_holds 26 = .ok (.iconst 0, 1) := by decide +kernel
theorem dX4_holds_27 : decode cX4_holds 27 = .ok (.ireturn, 1) := by decide +kernel
set_option maxRecDepth 20000 in
theorem ggX4_withItem_X4_init : GoodIn wsX4_withItem wsX4_init := goodIn_r _ [14, 1, 8, 15, 16, 17, 18, 19, 20, 21, 22] (by decide +kernel) (by decide +kernel)
set_option maxRecDepth 20000 in
theorem gX4_withItem_X4_init : GoodIn wsX4_withItem (wsX4_init) := ggX4_withItem_X4_init
theorem dX4_withItem_0 : decode cX4_withItem 0 = .ok (.aload_n 0, 1) := by decide +kernel
theorem dX4_withItem_1 : decode cX4_withItem 1 = .ok (.getfield 9, 3) := by decide +kernel
theorem dX4_withItem_4 : decode cX4_withItem 4 = .ok (.invokevirtual 22, 3) := by decide +kernel
theorem dX4_withItem_7 : decode cX4_withItem 7 = .ok (.checkcast 23, 3) := by decide +kernel
theorem dX4_withItem_10 : decode cX4_withItem 10 = .ok (.astore_n 2, 1) := by decide +kernel
theorem dX4_withItem_11 : decode cX4_withItem 11 = .ok (.aload_n 0, 1) := by decide +kernel
theorem dX4_withItem_12 : decode cX4_withItem 12 = .ok (.getfield 15, 3) := by decide +kernel
theorem dX4_withItem_15 : decode cX4_withItem 15 = .ok (.aload_n 2, 1) := by decide +kernel
theorem dX4_withItem_16 : decode cX4_withItem 16 = .ok (.arraylength, 1) := by decide +kernel
theorem dX4_withItem_17 : decode cX4_withItem 17 = .ok (.if_icmp .ge 10, 3) := by decide +kernel
theorem dX4_withItem_20 : decode cX4_withItem 20 = .ok (.aload_n 2, 1) := by decide +kernel
theorem dX4_withItem_21 : decode cX4_withItem 21 = .ok (.aload_n 0, 1) := by decide +kernel
theorem dX4_withItem_22 : decode cX4_withItem 22 = .ok (.getfield 15, 3) := by decide +kernel
theorem dX4_withItem_25 : decode cX4_withItem 25 = .ok (.iload_n 1, 1) := by decide +kernel
theorem dX4_withItem_26 : decode cX4_withItem 26 = .ok (.iastore, 1) := by decide +kernel
theorem dX4_withItem_27 : decode cX4_withItem 27 = .ok (.new 10, 3) := by decide +kernel
theorem dX4_withItem_30 : decode cX4_withItem 30 = .ok (.dup, 1) := by decide +kernel
theorem dX4_withItem_31 : decode cX4_withItem 31 = .ok (.aload_n 2, 1) := by decide +kernel
theorem dX4_withItem_32 : decode cX4_withItem 32 = .ok (.aload_n 0, 1) := by decide +kernel
theorem dX4_withItem_33 : decode cX4_withItem 33 = .ok (.getfield 15, 3) := by decide +kernel
theorem dX4_withItem_36 : decode cX4_withItem 36 = .ok (.iconst 1, 1) := by decide +kernel
theorem dX4_withItem_37 : decode cX4_withItem 37 = .ok (.iadd, 1) := by decide +kernel
theorem dX4_withItem_38 : decode cX4_withItem 38 = .ok (.invokespecial 19, 3) := by decide +kernel
theorem dX4_withItem_41 : decode cX4_withItem 41 = .ok (.areturn, 1) := by decide +kernel
set_option maxRecDepth 20000 in
theorem ggX4_withoutItem_X4_init : GoodIn wsX4_withoutItem wsX4_init := goodIn_r _ [14, 1, 11, 15, 16, 17, 18, 19, 20, 21, 22] (by decide +kernel) (by decide +kernel)
set_option maxRecDepth 20000 in
theorem gX4_withoutItem_X4_init : GoodIn wsX4_withoutItem (wsX4_init) := ggX4_withoutItem_X4_init
theorem dX4_withoutItem_0 : decode cX4_withoutItem 0 = .ok (.aload_n 0, 1) := by decide +kernel
theorem dX4_withoutItem_1 : decode cX4_withoutItem 1 = .ok (.getfield 9, 3) := by decide +kernel
theorem dX4_withoutItem_4 : decode cX4_withoutItem 4 = .ok (.invokevirtual 22, 3) := by decide +kernel
theorem dX4_withoutItem_7 : decode cX4_withoutItem 7 = .ok (.checkcast 23, 3) := by decide +kernel
theorem dX4_withoutItem_10 : decode cX4_withoutItem 10 = .ok (.astore_n 2, 1) := by decide +kernel
theorem dX4_withoutItem_11 : decode cX4_withoutItem 11 = .ok (.iload_n 1, 1) := by decide +kernel
theorem dX4_withoutItem_12 : decode cX4_withoutItem 12 = .ok (.ifCond .lt 13, 3) := by decide +kernel
theorem dX4_withoutItem_15 : decode cX4_withoutItem 15 = .ok (.iload_n 1, 1) := by decide +kernel
theorem dX4_withoutItem_16 : decode cX4_withoutItem 16 = .ok (.aload_n 2, 1) := by decide +kernel
theorem dX4_withoutItem_17 : decode cX4_withoutItem 17 = .ok (.arraylength, 1) := by decide +kernel
theorem dX4_withoutItem_18 : decode cX4_withoutItem 18 = .ok (.if_icmp .ge 7, 3) := by decide +kernel
theorem dX4_withoutItem_21 : decode cX4_withoutItem 21 = .ok (.aload_n 2, 1) := by decide +kernel
theorem dX4_withoutItem_22 : decode cX4_withoutItem 22 = .ok (.iload_n 1, 1) := by decide +kernel
theorem dX4_withoutItem_23 : decode cX4_withoutItem 23 = .ok (.iconst 0, 1) := by decide +kernel
theorem dX4_withoutItem_24 : decode cX4_withoutItem 24 = .ok (.iastore, 1) := by decide +kernel
theorem dX4_withoutItem_25 : decode cX4_withoutItem 25 = .ok (.new 10, 3) := by decide +kernel
theorem dX4_withoutItem_28 : decode cX4_withoutItem 28 = .ok (.dup, 1) := by decide +kernel
theorem dX4_withoutItem_29 : decode cX4_withoutItem 29 = .ok (.aload_n 2, 1) := by decide +kernel
theorem dX4_withoutItem_30 : decode cX4_withoutItem 30 = .ok (.aload_n 0, 1) := by decide +kernel
theorem dX4_withoutItem_31 : decode cX4_withoutItem 31 = .ok (.getfield 15, 3) := by decide +kernel
theorem dX4_withoutItem_34 : decode cX4_withoutItem 34 = .ok (.invokespecial 19, 3) := by decide +kernel
theorem dX4_withoutItem_37 : decode cX4_withoutItem 37 = .ok (.areturn, 1) := by decide +kernel
theorem dX4_numberOfLatest_0 : decode cX4_numberOfLatest 0 = .ok (.aload_n 0, 1) := by decide +kernel
theorem dX4_numberOfLatest_1 : decode cX4_numberOfLatest 1 = .ok (.getfield 15, 3) := by decide +kernel
theorem dX4_numberOfLatest_4 : decode cX4_numberOfLatest 4 = .ok (.iconst 1, 1) := by decide +kernel
theorem dX4_numberOfLatest_5 : decode cX4_numberOfLatest 5 = .ok (.isub, 1) := by decide +kernel
theorem dX4_numberOfLatest_6 : decode cX4_numberOfLatest 6 = .ok (.ireturn, 1) := by decide +kernel
theorem dX4_kind_0 : decode cX4_kind 0 = .ok (.iconst 2, 1) := by decide +kernel
theorem dX4_kind_1 : decode cX4_kind 1 = .ok (.ireturn, 1) := by decide +kernel
theorem dX4_worth_0 : decode cX4_worth 0 = .ok (.iconst 0, 1) := by decide +kernel
theorem dX4_worth_1 : decode cX4_worth 1 = .ok (.istore_n 3, 1) := by decide +kernel
theorem dX4_worth_2 : decode cX4_worth 2 = .ok (.iconst 0, 1) := by decide +kernel
theorem dX4_worth_3 : decode cX4_worth 3 = .ok (.istore 4, 2) := by decide +kernel
theorem dX4_worth_5 : decode cX4_worth 5 = .ok (.iload 4, 2) := by decide +kernel
theorem dX4_worth_7 : decode cX4_worth 7 = .ok (.aload_n 0, 1) := by decide +kernel
theorem dX4_worth_8 : decode cX4_worth 8 = .ok (.getfield 9, 3) := by decide +kernel
theorem dX4_worth_11 : decode cX4_worth 11 = .ok (.arraylength, 1) := by decide +kernel
theorem dX4_worth_12 : decode cX4_worth 12 = .ok (.if_icmp .ge 19, 3) := by decide +kernel
theorem dX4_worth_15 : decode cX4_worth 15 = .ok (.iload_n 3, 1) := by decide +kernel
theorem dX4_worth_16 : decode cX4_worth 16 = .ok (.aload_n 0, 1) := by decide +kernel
theorem dX4_worth_17 : decode cX4_worth 17 = .ok (.getfield 9, 3) := by decide +kernel
theorem dX4_worth_20 : decode cX4_worth 20 = .ok (.iload 4, 2) := by decide +kernel
theorem dX4_worth_22 : decode cX4_worth 22 = .ok (.iaload, 1) := by decide +kernel
theorem dX4_worth_23 : decode cX4_worth 23 = .ok (.iadd, 1) := by decide +kernel
theorem dX4_worth_24 : decode cX4_worth 24 = .ok (.istore_n 3, 1) := by decide +kernel
theorem dX4_worth_25 : decode cX4_worth 25 = .ok (.iinc 4 1, 3) := by decide +kernel
theorem dX4_worth_28 : decode cX4_worth 28 = .ok (.goto (-23), 3) := by decide +kernel
theorem dX4_worth_31 : decode cX4_worth 31 = .ok (.iload_n 3, 1) := by decide +kernel
theorem dX4_worth_32 : decode cX4_worth 32 = .ok (.ireturn, 1) := by decide +kernel
theorem dX4_itemCount_0 : decode cX4_itemCount 0 = .ok (.iconst 0, 1) := by decide +kernel
theorem dX4_itemCount_1 : decode cX4_itemCount 1 = .ok (.istore_n 1, 1) := by decide +kernel
theorem dX4_itemCount_2 : decode cX4_itemCount 2 = .ok (.iconst 0, 1) := by decide +kernel
theorem dX4_itemCount_3 : decode cX4_itemCount 3 = .ok (.istore_n 2, 1) := by decide +kernel
theorem dX4_itemCount_4 : decode cX4_itemCount 4 = .ok (.iload_n 2, 1) := by decide +kernel
theorem dX4_itemCount_5 : decode cX4_itemCount 5 = .ok (.aload_n 0, 1) := by decide +kernel
theorem dX4_itemCount_6 : decode cX4_itemCount 6 = .ok (.getfield 9, 3) := by decide +kernel
theorem dX4_itemCount_9 : decode cX4_itemCount 9 = .ok (.arraylength, 1) := by decide +kernel
theorem dX4_itemCount_10 : decode cX4_itemCount 10 = .ok (.if_icmp .ge 21, 3) := by decide +kernel
theorem dX4_itemCount_13 : decode cX4_itemCount 13 = .ok (.aload_n 0, 1) := by decide +kernel
theorem dX4_itemCount_14 : decode cX4_itemCount 14 = .ok (.getfield 9, 3) := by decide +kernel
theorem dX4_itemCount_17 : decode cX4_itemCount 17 = .ok (.iload_n 2, 1) := by decide +kernel
theorem dX4_itemCount_18 : decode cX4_itemCount 18 = .ok (.iaload, 1) := by decide +kernel
theorem dX4_itemCount_19 : decode cX4_itemCount 19 = .ok (.ifCond .eq 6, 3) := by decide +kernel
theorem dX4_itemCount_22 : decode cX4_itemCount 22 = .ok (.iinc 1 1, 3) := by decide +kernel
theorem dX4_itemCount_25 : decode cX4_itemCount 25 = .ok (.iinc 2 1, 3) := by decide +kernel
theorem dX4_itemCount_28 : decode cX4_itemCount 28 = .ok (.goto (-24), 3) := by decide +kernel
theorem dX4_itemCount_31 : decode cX4_itemCount 31 = .ok (.iload_n 1, 1) := by decide +kernel
theorem dX4_itemCount_32 : decode cX4_itemCount 32 = .ok (.ireturn, 1) := by decide +kernel
theorem dX5_init_0 : decode cX5_init 0 = .ok (.aload_n 0, 1) := by decide +kernel
theorem dX5_init_1 : decode cX5_init 1 = .ok (.invokespecial 1, 3) := by decide +kernel
theorem dX5_init_4 : decode cX5_init 4 = .ok (.return_, 1) := by decide +kernel
theorem dX5_hundredths_0 : decode cX5_hundredths 0 = .ok (.iconst 0, 1) := by decide +kernel
theorem dX5_hundredths_1 : decode cX5_hundredths 1 = .ok (.ireturn, 1) := by decide +kernel
theorem dX5_leftOver_0 : decode cX5_leftOver 0 = .ok (.iconst 0, 1) := by decide +kernel
theorem dX5_leftOver_1 : decode cX5_leftOver 1 = .ok (.ireturn, 1) := by decide +kernel
theorem dX5_itemCount_0 : decode cX5_itemCount 0 = .ok (.iconst 0, 1) := by decide +kernel
theorem dX5_itemCount_1 : decode cX5_itemCount 1 = .ok (.ireturn, 1) := by decide +kernel
theorem dX5_tellers_0 : decode cX5_tellers 0 = .ok (.iconst 0, 1) := by decide +kernel
theorem dX5_tellers_1 : decode cX5_tellers 1 = .ok (.ireturn, 1) := by decide +kernel
set_option maxRecDepth 20000 in
theorem ggX6_init_X10_init : GoodIn wsX6_init wsX10_init := goodIn_r _ [8, 9, 10, 11, 12, 13, 14, 15, 16, 17, 18, 25, 26, 27, 19, 20, 21, 22, 23, 24] (by decide +kernel) (by decide +kernel)
set_option maxRecDepth 20000 in
theorem gX6_init_X10_init : GoodIn wsX6_init (wsX10_init) := ggX6_init_X10_init
theorem dX6_init_0 : decode cX6_init 0 = .ok (.aload_n 0, 1) := by decide +kernel
theorem dX6_init_1 : decode cX6_init 1 = .ok (.fload_n 1, 1) := by decide +kernel
theorem dX6_init_2 : decode cX6_init 2 = .ok (.invokespecial 3, 3) := by decide +kernel
theorem dX6_init_5 : decode cX6_init 5 = .ok (.aload_n 0, 1) := by decide +kernel
theorem dX6_init_6 : decode cX6_init 6 = .ok (.fload_n 1, 1) := by decide +kernel
theorem dX6_init_7 : decode cX6_init 7 = .ok (.putfield 9, 3) := by decide +kernel
theorem dX6_init_10 : decode cX6_init 10 = .ok (.aload_n 0, 1) := by decide +kernel
theorem dX6_init_11 : decode cX6_init 11 = .ok (.iload_n 2, 1) := by decide +kernel
theorem dX6_init_12 : decode cX6_init 12 = .ok (.putfield 15, 3) := by decide +kernel
theorem dX6_init_15 : decode cX6_init 15 = .ok (.aload_n 0, 1) := by decide +kernel
theorem dX6_init_16 : decode cX6_init 16 = .ok (.iload_n 3, 1) := by decide +kernel
theorem dX6_init_17 : decode cX6_init 17 = .ok (.putfield 19, 3) := by decide +kernel
theorem dX6_init_20 : decode cX6_init 20 = .ok (.aload_n 0, 1) := by decide +kernel
theorem dX6_init_21 : decode cX6_init 21 = .ok (.iload 4, 2) := by decide +kernel
theorem dX6_init_23 : decode cX6_init 23 = .ok (.putfield 22, 3) := by decide +kernel
theorem dX6_init_26 : decode cX6_init 26 = .ok (.return_, 1) := by decide +kernel
set_option maxRecDepth 20000 in
theorem ggX6_withValue_X6_init : GoodIn wsX6_withValue wsX6_init := goodIn_r _ [9, 4, 5, 6, 10, 11, 12, 13, 14, 15, 16, 17, 18, 19, 20, 21, 22, 23, 24, 25, 26, 27, 28, 29, 30, 31, 32, 33] (by decide +kernel) (by decide +kernel)
set_option maxRecDepth 20000 in
theorem gX6_withValue_X6_init : GoodIn wsX6_withValue (wsX6_init) := ggX6_withValue_X6_init
theorem dX6_withValue_0 : decode cX6_withValue 0 = .ok (.new 10, 3) := by decide +kernel
theorem dX6_withValue_3 : decode cX6_withValue 3 = .ok (.dup, 1) := by decide +kernel
theorem dX6_withValue_4 : decode cX6_withValue 4 = .ok (.aload_n 0, 1) := by decide +kernel
theorem dX6_withValue_5 : decode cX6_withValue 5 = .ok (.getfield 9, 3) := by decide +kernel
theorem dX6_withValue_8 : decode cX6_withValue 8 = .ok (.aload_n 0, 1) := by decide +kernel
theorem dX6_withValue_9 : decode cX6_withValue 9 = .ok (.getfield 15, 3) := by decide +kernel
theorem dX6_withValue_12 : decode cX6_withValue 12 = .ok (.iconst 1, 1) := by decide +kernel
theorem dX6_withValue_13 : decode cX6_withValue 13 = .ok (.iadd, 1) := by decide +kernel
theorem dX6_withValue_14 : decode cX6_withValue 14 = .ok (.iload_n 1, 1) := by decide +kernel
theorem dX6_withValue_15 : decode cX6_withValue 15 = .ok (.aload_n 0, 1) := by decide +kernel
theorem dX6_withValue_16 : decode cX6_withValue 16 = .ok (.getfield 19, 3) := by decide +kernel
theorem dX6_withValue_19 : decode cX6_withValue 19 = .ok (.invokespecial 25, 3) := by decide +kernel
theorem dX6_withValue_22 : decode cX6_withValue 22 = .ok (.areturn, 1) := by decide +kernel
theorem dX6_kind_0 : decode cX6_kind 0 = .ok (.iconst 4, 1) := by decide +kernel
theorem dX6_kind_1 : decode cX6_kind 1 = .ok (.ireturn, 1) := by decide +kernel
theorem dX6_worth_0 : decode cX6_worth 0 = .ok (.aload_n 0, 1) := by decide +kernel
theorem dX6_worth_1 : decode cX6_worth 1 = .ok (.getfield 15, 3) := by decide +kernel
theorem dX6_worth_4 : decode cX6_worth 4 = .ok (.iconst 2, 1) := by decide +kernel
theorem dX6_worth_5 : decode cX6_worth 5 = .ok (.if_icmp .ge 7, 3) := by decide +kernel
theorem dX6_worth_8 : decode cX6_worth 8 = .ok (.iconst 0, 1) := by decide +kernel
theorem dX6_worth_9 : decode cX6_worth 9 = .ok (.goto 14, 3) := by decide +kernel
theorem dX6_worth_12 : decode cX6_worth 12 = .ok (.aload_n 0, 1) := by decide +kernel
theorem dX6_worth_13 : decode cX6_worth 13 = .ok (.getfield 19, 3) := by decide +kernel
theorem dX6_worth_16 : decode cX6_worth 16 = .ok (.aload_n 0, 1) := by decide +kernel
theorem dX6_worth_17 : decode cX6_worth 17 = .ok (.getfield 22, 3) := by decide +kernel
theorem dX6_worth_20 : decode cX6_worth 20 = .ok (.invokestatic 28, 3) := by decide +kernel
theorem dX6_worth_23 : decode cX6_worth 23 = .ok (.ireturn, 1) := by decide +kernel
theorem dX6_tellers_0 : decode cX6_tellers 0 = .ok (.aload_n 0, 1) := by decide +kernel
theorem dX6_tellers_1 : decode cX6_tellers 1 = .ok (.getfield 15, 3) := by decide +kernel
theorem dX6_tellers_4 : decode cX6_tellers 4 = .ok (.ireturn, 1) := by decide +kernel
theorem dX7_init_0 : decode cX7_init 0 = .ok (.aload_n 0, 1) := by decide +kernel
theorem dX7_init_1 : decode cX7_init 1 = .ok (.invokespecial 1, 3) := by decide +kernel
theorem dX7_init_4 : decode cX7_init 4 = .ok (.return_, 1) := by decide +kernel
theorem dX7_begunUpTo_0 : decode cX7_begunUpTo 0 = .ok (.lload_n 2, 1) := by decide +kernel
theorem dX7_begunUpTo_1 : decode cX7_begunUpTo 1 = .ok (.lload_n 0, 1) := by decide +kernel
theorem dX7_begunUpTo_2 : decode cX7_begunUpTo 2 = .ok (.lcmp, 1) := by decide +kernel
theorem dX7_begunUpTo_3 : decode cX7_begunUpTo 3 = .ok (.ifCond .ge 7, 3) := by decide +kernel
theorem dX7_begunUpTo_6 : decode cX7_begunUpTo 6 = .ok (.iconst 0, 1) := by decide +kernel
theorem dX7_begunUpTo_7 : decode cX7_begunUpTo 7 = .ok (.goto 13, 3) := by decide +kernel
theorem dX7_begunUpTo_10 : decode cX7_begunUpTo 10 = .ok (.lload_n 2, 1) := by decide +kernel
theorem dX7_begunUpTo_11 : decode cX7_begunUpTo 11 = .ok (.lload_n 0, 1) := by decide +kernel
theorem dX7_begunUpTo_12 : decode cX7_begunUpTo 12 = .ok (.lsub, 1) := by decide +kernel
theorem dX7_begunUpTo_13 : decode cX7_begunUpTo 13 = .ok (.ldc2_w 9, 3) := by decide +kernel
theorem dX7_begunUpTo_16 : decode cX7_begunUpTo 16 = .ok (.ldiv, 1) := by decide +kernel
theorem dX7_begunUpTo_17 : decode cX7_begunUpTo 17 = .ok (.l2i, 1) := by decide +kernel
theorem dX7_begunUpTo_18 : decode cX7_begunUpTo 18 = .ok (.iconst 1, 1) := by decide +kernel
theorem dX7_begunUpTo_19 : decode cX7_begunUpTo 19 = .ok (.iadd, 1) := by decide +kernel
theorem dX7_begunUpTo_20 : decode cX7_begunUpTo 20 = .ok (.ireturn, 1) := by decide +kernel
theorem dX7_become_0 : decode cX7_become 0 = .ok (.aload_n 0, 1) := by decide +kernel
theorem dX7_become_1 : decode cX7_become 1 = .ok (.aload_n 1, 1) := by decide +kernel
theorem dX7_become_2 : decode cX7_become 2 = .ok (.getfield 11, 3) := by decide +kernel
theorem dX7_become_5 : decode cX7_become 5 = .ok (.putfield 11, 3) := by decide +kernel
theorem dX7_become_8 : decode cX7_become 8 = .ok (.aload_n 0, 1) := by decide +kernel
theorem dX7_become_9 : decode cX7_become 9 = .ok (.aload_n 1, 1) := by decide +kernel
theorem dX7_become_10 : decode cX7_become 10 = .ok (.getfield 15, 3) := by decide +kernel
theorem dX7_become_13 : decode cX7_become 13 = .ok (.putfield 15, 3) := by decide +kernel
theorem dX7_become_16 : decode cX7_become 16 = .ok (.aload_n 0, 1) := by decide +kernel
theorem dX7_become_17 : decode cX7_become 17 = .ok (.aload_n 1, 1) := by decide +kernel
theorem dX7_become_18 : decode cX7_become 18 = .ok (.getfield 18, 3) := by decide +kernel
theorem dX7_become_21 : decode cX7_become 21 = .ok (.putfield 18, 3) := by decide +kernel
theorem dX7_become_24 : decode cX7_become 24 = .ok (.aload_n 0, 1) := by decide +kernel
theorem dX7_become_25 : decode cX7_become 25 = .ok (.aload_n 1, 1) := by decide +kernel
theorem dX7_become_26 : decode cX7_become 26 = .ok (.getfield 21, 3) := by decide +kernel
theorem dX7_become_29 : decode cX7_become 29 = .ok (.putfield 21, 3) := by decide +kernel
theorem dX7_become_32 : decode cX7_become 32 = .ok (.aload_n 0, 1) := by decide +kernel
theorem dX7_become_33 : decode cX7_become 33 = .ok (.aload_n 1, 1) := by decide +kernel
theorem dX7_become_34 : decode cX7_become 34 = .ok (.getfield 24, 3) := by decide +kernel
theorem dX7_become_37 : decode cX7_become 37 = .ok (.putfield 24, 3) := by decide +kernel
theorem dX7_become_40 : decode cX7_become 40 = .ok (.aload_n 0, 1) := by decide +kernel
theorem dX7_become_41 : decode cX7_become 41 = .ok (.aload_n 1, 1) := by decide +kernel
theorem dX7_become_42 : decode cX7_become 42 = .ok (.getfield 27, 3) := by decide +kernel
theorem dX7_become_45 : decode cX7_become 45 = .ok (.putfield 27, 3) := by decide +kernel
theorem dX7_become_48 : decode cX7_become 48 = .ok (.return_, 1) := by decide +kernel
theorem dX7_beginAnew_0 : decode cX7_beginAnew 0 = .ok (.aload_n 0, 1) := by decide +kernel
theorem dX7_beginAnew_1 : decode cX7_beginAnew 1 = .ok (.iload_n 1, 1) := by decide +kernel
theorem dX7_beginAnew_2 : decode cX7_beginAnew 2 = .ok (.putfield 11, 3) := by decide +kernel
theorem dX7_beginAnew_5 : decode cX7_beginAnew 5 = .ok (.aload_n 0, 1) := by decide +kernel
theorem dX7_beginAnew_6 : decode cX7_beginAnew 6 = .ok (.iload_n 2, 1) := by decide +kernel
theorem dX7_beginAnew_7 : decode cX7_beginAnew 7 = .ok (.putfield 15, 3) := by decide +kernel
theorem dX7_beginAnew_10 : decode cX7_beginAnew 10 = .ok (.aload_n 0, 1) := by decide +kernel
theorem dX7_beginAnew_11 : decode cX7_beginAnew 11 = .ok (.iload_n 3, 1) := by decide +kernel
theorem dX7_beginAnew_12 : decode cX7_beginAnew 12 = .ok (.putfield 18, 3) := by decide +kernel
theorem dX7_beginAnew_15 : decode cX7_beginAnew 15 = .ok (.aload_n 0, 1) := by decide +kernel
theorem dX7_beginAnew_16 : decode cX7_beginAnew 16 = .ok (.iconst 0, 1) := by decide +kernel
theorem dX7_beginAnew_17 : decode cX7_beginAnew 17 = .ok (.putfield 21, 3) := by decide +kernel
theorem dX7_beginAnew_20 : decode cX7_beginAnew 20 = .ok (.aload_n 0, 1) := by decide +kernel
theorem dX7_beginAnew_21 : decode cX7_beginAnew 21 = .ok (.iconst 0, 1) := by decide +kernel
theorem dX7_beginAnew_22 : decode cX7_beginAnew 22 = .ok (.putfield 24, 3) := by decide +kernel
theorem dX7_beginAnew_25 : decode cX7_beginAnew 25 = .ok (.aload_n 0, 1) := by decide +kernel
theorem dX7_beginAnew_26 : decode cX7_beginAnew 26 = .ok (.iconst 0, 1) := by decide +kernel
theorem dX7_beginAnew_27 : decode cX7_beginAnew 27 = .ok (.putfield 27, 3) := by decide +kernel
theorem dX7_beginAnew_30 : decode cX7_beginAnew 30 = .ok (.return_, 1) := by decide +kernel
theorem dX7_lastDay_0 : decode cX7_lastDay 0 = .ok (.aload_n 0, 1) := by decide +kernel
theorem dX7_lastDay_1 : decode cX7_lastDay 1 = .ok (.getfield 11, 3) := by decide +kernel
theorem dX7_lastDay_4 : decode cX7_lastDay 4 = .ok (.bipush 30, 2) := by decide +kernel
theorem dX7_lastDay_6 : decode cX7_lastDay 6 = .ok (.aload_n 0, 1) := by decide +kernel
theorem dX7_lastDay_7 : decode cX7_lastDay 7 = .ok (.getfield 15, 3) := by decide +kernel
theorem dX7_lastDay_10 : decode cX7_lastDay 10 = .ok (.imul, 1) := by decide +kernel
theorem dX7_lastDay_11 : decode cX7_lastDay 11 = .ok (.iadd, 1) := by decide +kernel
theorem dX7_lastDay_12 : decode cX7_lastDay 12 = .ok (.ireturn, 1) := by decide +kernel
theorem dX7_nextBeginning_0 : decode cX7_nextBeginning 0 = .ok (.aload_n 0, 1) := by decide +kernel
theorem dX7_nextBeginning_1 : decode cX7_nextBeginning 1 = .ok (.getfield 11, 3) := by decide +kernel
theorem dX7_nextBeginning_4 : decode cX7_nextBeginning 4 = .ok (.bipush 30, 2) := by decide +kernel
theorem dX7_nextBeginning_6 : decode cX7_nextBeginning 6 = .ok (.aload_n 0, 1) := by decide +kernel
theorem dX7_nextBeginning_7 : decode cX7_nextBeginning 7 = .ok (.getfield 21, 3) := by decide +kernel
theorem dX7_nextBeginning_10 : decode cX7_nextBeginning 10 = .ok (.imul, 1) := by decide +kernel
theorem dX7_nextBeginning_11 : decode cX7_nextBeginning 11 = .ok (.iadd, 1) := by decide +kernel
theorem dX7_nextBeginning_12 : decode cX7_nextBeginning 12 = .ok (.ireturn, 1) := by decide +kernel
set_option maxRecDepth 20000 in
theorem ggX7_growth_X11_cutUp : GoodIn wsX7_growth wsX11_cutUp := goodIn_r _ [4, 5, 6] (by decide +kernel) (by decide +kernel)
set_option maxRecDepth 20000 in
theorem gX7_growth_X11_cutUp_n30 : GoodIn wsX7_growth (wsX11_cutUp) := ggX7_growth_X11_cutUp
theorem dX7_growth_0 : decode cX7_growth 0 = .ok (.iload_n 1, 1) := by decide +kernel
theorem dX7_growth_1 : decode cX7_growth 1 = .ok (.aload_n 0, 1) := by decide +kernel
theorem dX7_growth_2 : decode cX7_growth 2 = .ok (.getfield 18, 3) := by decide +kernel
theorem dX7_growth_5 : decode cX7_growth 5 = .ok (.invokestatic 30, 3) := by decide +kernel
theorem dX7_growth_8 : decode cX7_growth 8 = .ok (.ireturn, 1) := by decide +kernel
set_option maxRecDepth 20000 in
theorem ggX7_reachDay_X7_begunUpTo : GoodIn wsX7_reachDay wsX7_begunUpTo := goodIn_r _ [7, 8] (by decide +kernel) (by decide +kernel)
set_option maxRecDepth 20000 in
theorem gX7_reachDay_X7_begunUpTo : GoodIn wsX7_reachDay (va_wsS RX7 36 yX7_begunUpTo wsX7_begunUpTo) := goodIn_app (goodIn_of _ (by decide +kernel)) ggX7_reachDay_X7_begunUpTo
set_option maxRecDepth 20000 in
theorem ggX7_reachDay_X7_growth : GoodIn wsX7_reachDay wsX7_growth := goodIn_r _ [12, 13, 14, 15, 16, 17, 18, 19, 20, 21, 22, 23, 24] (by decide +kernel) (by decide +kernel)
set_option maxRecDepth 20000 in
theorem gX7_reachDay_X7_growth : GoodIn wsX7_reachDay (wsV RX7 40 RX7 yX7_growth wsX7_growth) := goodIn_app (goodIn_of _ (by decide +kernel)) ggX7_reachDay_X7_growth
theorem dX7_reachDay_0 : decode cX7_reachDay 0 = .ok (.aload_n 0, 1) := by decide +kernel
theorem dX7_reachDay_1 : decode cX7_reachDay 1 = .ok (.getfield 11, 3) := by decide +kernel
theorem dX7_reachDay_4 : decode cX7_reachDay 4 = .ok (.i2l, 1) := by decide +kernel
theorem dX7_reachDay_5 : decode cX7_reachDay 5 = .ok (.iload_n 1, 1) := by decide +kernel
theorem dX7_reachDay_6 : decode cX7_reachDay 6 = .ok (.i2l, 1) := by decide +kernel
theorem dX7_reachDay_7 : decode cX7_reachDay 7 = .ok (.invokestatic 36, 3) := by decide +kernel
theorem dX7_reachDay_10 : decode cX7_reachDay 10 = .ok (.istore_n 3, 1) := by decide +kernel
theorem dX7_reachDay_11 : decode cX7_reachDay 11 = .ok (.aload_n 0, 1) := by decide +kernel
theorem dX7_reachDay_12 : decode cX7_reachDay 12 = .ok (.dup, 1) := by decide +kernel
theorem dX7_reachDay_13 : decode cX7_reachDay 13 = .ok (.getfield 24, 3) := by decide +kernel
theorem dX7_reachDay_16 : decode cX7_reachDay 16 = .ok (.iload_n 3, 1) := by decide +kernel
theorem dX7_reachDay_17 : decode cX7_reachDay 17 = .ok (.aload_n 0, 1) := by decide +kernel
theorem dX7_reachDay_18 : decode cX7_reachDay 18 = .ok (.getfield 21, 3) := by decide +kernel
theorem dX7_reachDay_21 : decode cX7_reachDay 21 = .ok (.isub, 1) := by decide +kernel
theorem dX7_reachDay_22 : decode cX7_reachDay 22 = .ok (.aload_n 0, 1) := by decide +kernel
theorem dX7_reachDay_23 : decode cX7_reachDay 23 = .ok (.iload_n 2, 1) := by decide +kernel
theorem dX7_reachDay_24 : decode cX7_reachDay 24 = .ok (.invokevirtual 40, 3) := by decide +kernel
theorem dX7_reachDay_27 : decode cX7_reachDay 27 = .ok (.imul, 1) := by decide +kernel
theorem dX7_reachDay_28 : decode cX7_reachDay 28 = .ok (.iadd, 1) := by decide +kernel
theorem dX7_reachDay_29 : decode cX7_reachDay 29 = .ok (.putfield 24, 3) := by decide +kernel
theorem dX7_reachDay_32 : decode cX7_reachDay 32 = .ok (.aload_n 0, 1) := by decide +kernel
theorem dX7_reachDay_33 : decode cX7_reachDay 33 = .ok (.iload_n 3, 1) := by decide +kernel
theorem dX7_reachDay_34 : decode cX7_reachDay 34 = .ok (.putfield 21, 3) := by decide +kernel
theorem dX7_reachDay_37 : decode cX7_reachDay 37 = .ok (.return_, 1) := by decide +kernel
set_option maxRecDepth 20000 in
theorem ggX7_daysOfClaim_X7_lastDay : GoodIn wsX7_daysOfClaim wsX7_lastDay := goodIn_r _ [9, 10, 11, 12, 13, 14, 15, 16, 17] (by decide +kernel) (by decide +kernel)
set_option maxRecDepth 20000 in
theorem gX7_daysOfClaim_X7_lastDay : GoodIn wsX7_daysOfClaim (wsV RX7 44 RX7 yX7_lastDay wsX7_lastDay) := goodIn_app (goodIn_of _ (by decide +kernel)) ggX7_daysOfClaim_X7_lastDay
theorem dX7_daysOfClaim_0 : decode cX7_daysOfClaim 0 = .ok (.iconst 0, 1) := by decide +kernel
theorem dX7_daysOfClaim_1 : decode cX7_daysOfClaim 1 = .ok (.iload_n 2, 1) := by decide +kernel
theorem dX7_daysOfClaim_2 : decode cX7_daysOfClaim 2 = .ok (.iload_n 1, 1) := by decide +kernel
theorem dX7_daysOfClaim_3 : decode cX7_daysOfClaim 3 = .ok (.aload_n 0, 1) := by decide +kernel
theorem dX7_daysOfClaim_4 : decode cX7_daysOfClaim 4 = .ok (.invokevirtual 44, 3) := by decide +kernel
theorem dX7_daysOfClaim_7 : decode cX7_daysOfClaim 7 = .ok (.invokestatic 48, 3) := by decide +kernel
theorem dX7_daysOfClaim_10 : decode cX7_daysOfClaim 10 = .ok (.isub, 1) := by decide +kernel
theorem dX7_daysOfClaim_11 : decode cX7_daysOfClaim 11 = .ok (.invokestatic 48, 3) := by decide +kernel
theorem dX7_daysOfClaim_14 : decode cX7_daysOfClaim 14 = .ok (.ireturn, 1) := by decide +kernel
set_option maxRecDepth 20000 in
theorem ggX8_init_X5_init : GoodIn wsX8_init wsX5_init := goodIn_r _ [4, 5, 6, 7] (by decide +kernel) (by decide +kernel)
set_option maxRecDepth 20000 in
theorem gX8_init_X5_init_n3 : GoodIn wsX8_init (wsX5_init) := ggX8_init_X5_init
theorem dX8_init_0 : decode cX8_init 0 = .ok (.aload_n 0, 1) := by decide +kernel
theorem dX8_init_1 : decode cX8_init 1 = .ok (.invokespecial 3, 3) := by decide +kernel
theorem dX8_init_4 : decode cX8_init 4 = .ok (.aload_n 0, 1) := by decide +kernel
theorem dX8_init_5 : decode cX8_init 5 = .ok (.iload_n 1, 1) := by decide +kernel
theorem dX8_init_6 : decode cX8_init 6 = .ok (.putfield 9, 3) := by decide +kernel
theorem dX8_init_9 : decode cX8_init 9 = .ok (.return_, 1) := by decide +kernel
theorem dX8_kind_0 : decode cX8_kind 0 = .ok (.iconst 0, 1) := by decide +kernel
theorem dX8_kind_1 : decode cX8_kind 1 = .ok (.ireturn, 1) := by decide +kernel
theorem dX8_worth_0 : decode cX8_worth 0 = .ok (.aload_n 0, 1) := by decide +kernel
theorem dX8_worth_1 : decode cX8_worth 1 = .ok (.getfield 9, 3) := by decide +kernel
theorem dX8_worth_4 : decode cX8_worth 4 = .ok (.ireturn, 1) := by decide +kernel
set_option maxRecDepth 20000 in
theorem ggX9_init_X7_init : GoodIn wsX9_init wsX7_init := goodIn_r _ [15, 16, 2, 3] (by decide +kernel) (by decide +kernel)
set_option maxRecDepth 20000 in
theorem gX9_init_X7_init_n11 : GoodIn wsX9_init (wsX7_init) := ggX9_init_X7_init
theorem dX9_init_0 : decode cX9_init 0 = .ok (.aload_n 0, 1) := by decide +kernel
theorem dX9_init_1 : decode cX9_init 1 = .ok (.invokespecial 3, 3) := by decide +kernel
theorem dX9_init_4 : decode cX9_init 4 = .ok (.aload_n 0, 1) := by decide +kernel
theorem dX9_init_5 : decode cX9_init 5 = .ok (.new 9, 3) := by decide +kernel
theorem dX9_init_8 : decode cX9_init 8 = .ok (.dup, 1) := by decide +kernel
theorem dX9_init_9 : decode cX9_init 9 = .ok (.invokespecial 11, 3) := by decide +kernel
theorem dX9_init_12 : decode cX9_init 12 = .ok (.putfield 12, 3) := by decide +kernel
theorem dX9_init_15 : decode cX9_init 15 = .ok (.aload_n 0, 1) := by decide +kernel
theorem dX9_init_16 : decode cX9_init 16 = .ok (.new 9, 3) := by decide +kernel
theorem dX9_init_19 : decode cX9_init 19 = .ok (.dup, 1) := by decide +kernel
theorem dX9_init_20 : decode cX9_init 20 = .ok (.invokespecial 11, 3) := by decide +kernel
theorem dX9_init_23 : decode cX9_init 23 = .ok (.putfield 18, 3) := by decide +kernel
theorem dX9_init_26 : decode cX9_init 26 = .ok (.aload_n 0, 1) := by decide +kernel
theorem dX9_init_27 : decode cX9_init 27 = .ok (.iconst (-1), 1) := by decide +kernel
theorem dX9_init_28 : decode cX9_init 28 = .ok (.putfield 21, 3) := by decide +kernel
theorem dX9_init_31 : decode cX9_init 31 = .ok (.aload_n 0, 1) := by decide +kernel
theorem dX9_init_32 : decode cX9_init 32 = .ok (.iconst (-1), 1) := by decide +kernel
theorem dX9_init_33 : decode cX9_init 33 = .ok (.putfield 25, 3) := by decide +kernel
theorem dX9_init_36 : decode cX9_init 36 = .ok (.aload_n 0, 1) := by decide +kernel
theorem dX9_init_37 : decode cX9_init 37 = .ok (.iconst (-1), 1) := by decide +kernel
theorem dX9_init_38 : decode cX9_init 38 = .ok (.putfield 28, 3) := by decide +kernel
theorem dX9_init_41 : decode cX9_init 41 = .ok (.aload_n 0, 1) := by decide +kernel
theorem dX9_init_42 : decode cX9_init 42 = .ok (.iconst (-1), 1) := by decide +kernel
theorem dX9_init_43 : decode cX9_init 43 = .ok (.putfield 31, 3) := by decide +kernel
theorem dX9_init_46 : decode cX9_init 46 = .ok (.aload_n 0, 1) := by decide +kernel
theorem dX9_init_47 : decode cX9_init 47 = .ok (.iconst (-1), 1) := by decide +kernel
theorem dX9_init_48 : decode cX9_init 48 = .ok (.putfield 34, 3) := by decide +kernel
theorem dX9_init_51 : decode cX9_init 51 = .ok (.return_, 1) := by decide +kernel
set_option maxRecDepth 20000 in
theorem ggX9_become_X7_become : GoodIn wsX9_become wsX7_become := goodIn_r _ [24, 25, 26, 27, 28, 29, 30, 50, 51, 52, 53, 54, 55] (by decide +kernel) (by decide +kernel)
set_option maxRecDepth 20000 in
theorem gX9_become_X7_become : GoodIn wsX9_become (wsV RX9 56 RX7 yX7_become wsX7_become) := goodIn_app (goodIn_of _ (by decide +kernel)) ggX9_become_X7_become
theorem dX9_become_0 : decode cX9_become 0 = .ok (.aload_n 0, 1) := by decide +kernel
theorem dX9_become_1 : decode cX9_become 1 = .ok (.aload_n 1, 1) := by decide +kernel
theorem dX9_become_2 : decode cX9_become 2 = .ok (.getfield 37, 3) := by decide +kernel
theorem dX9_become_5 : decode cX9_become 5 = .ok (.putfield 37, 3) := by decide +kernel
theorem dX9_become_8 : decode cX9_become 8 = .ok (.aload_n 0, 1) := by decide +kernel
theorem dX9_become_9 : decode cX9_become 9 = .ok (.aload_n 1, 1) := by decide +kernel
theorem dX9_become_10 : decode cX9_become 10 = .ok (.getfield 40, 3) := by decide +kernel
theorem dX9_become_13 : decode cX9_become 13 = .ok (.putfield 40, 3) := by decide +kernel
theorem dX9_become_16 : decode cX9_become 16 = .ok (.aload_n 0, 1) := by decide +kernel
theorem dX9_become_17 : decode cX9_become 17 = .ok (.aload_n 1, 1) := by decide +kernel
theorem dX9_become_18 : decode cX9_become 18 = .ok (.getfield 43, 3) := by decide +kernel
theorem dX9_become_21 : decode cX9_become 21 = .ok (.putfield 43, 3) := by decide +kernel
theorem dX9_become_24 : decode cX9_become 24 = .ok (.aload_n 0, 1) := by decide +kernel
theorem dX9_become_25 : decode cX9_become 25 = .ok (.aload_n 1, 1) := by decide +kernel
theorem dX9_become_26 : decode cX9_become 26 = .ok (.getfield 46, 3) := by decide +kernel
theorem dX9_become_29 : decode cX9_become 29 = .ok (.putfield 46, 3) := by decide +kernel
theorem dX9_become_32 : decode cX9_become 32 = .ok (.aload_n 0, 1) := by decide +kernel
theorem dX9_become_33 : decode cX9_become 33 = .ok (.aload_n 1, 1) := by decide +kernel
theorem dX9_become_34 : decode cX9_become 34 = .ok (.getfield 49, 3) := by decide +kernel
theorem dX9_become_37 : decode cX9_become 37 = .ok (.putfield 49, 3) := by decide +kernel
theorem dX9_become_40 : decode cX9_become 40 = .ok (.aload_n 0, 1) := by decide +kernel
theorem dX9_become_41 : decode cX9_become 41 = .ok (.aload_n 1, 1) := by decide +kernel
theorem dX9_become_42 : decode cX9_become 42 = .ok (.getfield 52, 3) := by decide +kernel
theorem dX9_become_45 : decode cX9_become 45 = .ok (.putfield 52, 3) := by decide +kernel
theorem dX9_become_48 : decode cX9_become 48 = .ok (.aload_n 0, 1) := by decide +kernel
theorem dX9_become_49 : decode cX9_become 49 = .ok (.getfield 12, 3) := by decide +kernel
theorem dX9_become_52 : decode cX9_become 52 = .ok (.aload_n 1, 1) := by decide +kernel
theorem dX9_become_53 : decode cX9_become 53 = .ok (.getfield 12, 3) := by decide +kernel
theorem dX9_become_56 : decode cX9_become 56 = .ok (.invokevirtual 56, 3) := by decide +kernel
theorem dX9_become_59 : decode cX9_become 59 = .ok (.aload_n 0, 1) := by decide +kernel
theorem dX9_become_60 : decode cX9_become 60 = .ok (.getfield 18, 3) := by decide +kernel
theorem dX9_become_63 : decode cX9_become 63 = .ok (.aload_n 1, 1) := by decide +kernel
theorem dX9_become_64 : decode cX9_become 64 = .ok (.getfield 18, 3) := by decide +kernel
theorem dX9_become_67 : decode cX9_become 67 = .ok (.invokevirtual 56, 3) := by decide +kernel
theorem dX9_become_70 : decode cX9_become 70 = .ok (.aload_n 0, 1) := by decide +kernel
theorem dX9_become_71 : decode cX9_become 71 = .ok (.aload_n 1, 1) := by decide +kernel
theorem dX9_become_72 : decode cX9_become 72 = .ok (.getfield 21, 3) := by decide +kernel
theorem dX9_become_75 : decode cX9_become 75 = .ok (.putfield 21, 3) := by decide +kernel
theorem dX9_become_78 : decode cX9_become 78 = .ok (.aload_n 0, 1) := by decide +kernel
theorem dX9_become_79 : decode cX9_become 79 = .ok (.aload_n 1, 1) := by decide +kernel
theorem dX9_become_80 : decode cX9_become 80 = .ok (.getfield 60, 3) := by decide +kernel
theorem dX9_become_83 : decode cX9_become 83 = .ok (.putfield 60, 3) := by decide +kernel
theorem dX9_become_86 : decode cX9_become 86 = .ok (.aload_n 0, 1) := by decide +kernel
theorem dX9_become_87 : decode cX9_become 87 = .ok (.aload_n 1, 1) := by decide +kernel
theorem dX9_become_88 : decode cX9_become 88 = .ok (.getfield 63, 3) := by decide +kernel
theorem dX9_become_91 : decode cX9_become 91 = .ok (.putfield 63, 3) := by decide +kernel
theorem dX9_become_94 : decode cX9_become 94 = .ok (.aload_n 0, 1) := by decide +kernel
theorem dX9_become_95 : decode cX9_become 95 = .ok (.aload_n 1, 1) := by decide +kernel
theorem dX9_become_96 : decode cX9_become 96 = .ok (.getfield 25, 3) := by decide +kernel
theorem dX9_become_99 : decode cX9_become 99 = .ok (.putfield 25, 3) := by decide +kernel
theorem dX9_become_102 : decode cX9_become 102 = .ok (.aload_n 0, 1) := by decide +kernel
theorem dX9_become_103 : decode cX9_become 103 = .ok (.aload_n 1, 1) := by decide +kernel
theorem dX9_become_104 : decode cX9_become 104 = .ok (.getfield 28, 3) := by decide +kernel
theorem dX9_become_107 : decode cX9_become 107 = .ok (.putfield 28, 3) := by decide +kernel
theorem dX9_become_110 : decode cX9_become 110 = .ok (.aload_n 0, 1) := by decide +kernel
theorem dX9_become_111 : decode cX9_become 111 = .ok (.aload_n 1, 1) := by decide +kernel
theorem dX9_become_112 : decode cX9_become 112 = .ok (.getfield 66, 3) := by decide +kernel
theorem dX9_become_115 : decode cX9_become 115 = .ok (.putfield 66, 3) := by decide +kernel
theorem dX9_become_118 : decode cX9_become 118 = .ok (.aload_n 0, 1) := by decide +kernel
theorem dX9_become_119 : decode cX9_become 119 = .ok (.aload_n 1, 1) := by decide +kernel
theorem dX9_become_120 : decode cX9_become 120 = .ok (.getfield 69, 3) := by decide +kernel
theorem dX9_become_123 : decode cX9_become 123 = .ok (.putfield 69, 3) := by decide +kernel
theorem dX9_become_126 : decode cX9_become 126 = .ok (.aload_n 0, 1) := by decide +kernel
theorem dX9_become_127 : decode cX9_become 127 = .ok (.aload_n 1, 1) := by decide +kernel
theorem dX9_become_128 : decode cX9_become 128 = .ok (.getfield 72, 3) := by decide +kernel
theorem dX9_become_131 : decode cX9_become 131 = .ok (.putfield 72, 3) := by decide +kernel
theorem dX9_become_134 : decode cX9_become 134 = .ok (.aload_n 0, 1) := by decide +kernel
theorem dX9_become_135 : decode cX9_become 135 = .ok (.aload_n 1, 1) := by decide +kernel
theorem dX9_become_136 : decode cX9_become 136 = .ok (.getfield 31, 3) := by decide +kernel
theorem dX9_become_139 : decode cX9_become 139 = .ok (.putfield 31, 3) := by decide +kernel
theorem dX9_become_142 : decode cX9_become 142 = .ok (.aload_n 0, 1) := by decide +kernel
theorem dX9_become_143 : decode cX9_become 143 = .ok (.aload_n 1, 1) := by decide +kernel
theorem dX9_become_144 : decode cX9_become 144 = .ok (.getfield 75, 3) := by decide +kernel
theorem dX9_become_147 : decode cX9_become 147 = .ok (.putfield 75, 3) := by decide +kernel
theorem dX9_become_150 : decode cX9_become 150 = .ok (.aload_n 0, 1) := by decide +kernel
theorem dX9_become_151 : decode cX9_become 151 = .ok (.aload_n 1, 1) := by decide +kernel
theorem dX9_become_152 : decode cX9_become 152 = .ok (.getfield 34, 3) := by decide +kernel
theorem dX9_become_155 : decode cX9_become 155 = .ok (.putfield 34, 3) := by decide +kernel
theorem dX9_become_158 : decode cX9_become 158 = .ok (.return_, 1) := by decide +kernel
theorem dX9_isOpen_0 : decode cX9_isOpen 0 = .ok (.aload_n 0, 1) := by decide +kernel
theorem dX9_isOpen_1 : decode cX9_isOpen 1 = .ok (.getfield 46, 3) := by decide +kernel
theorem dX9_isOpen_4 : decode cX9_isOpen 4 = .ok (.ifCond .ne 7, 3) := by decide +kernel
theorem dX9_isOpen_7 : decode cX9_isOpen 7 = .ok (.iconst 1, 1) := by decide +kernel
theorem dX9_isOpen_8 : decode cX9_isOpen 8 = .ok (.goto 4, 3) := by decide +kernel
theorem dX9_isOpen_11 : decode cX9_isOpen 11 = .ok (.iconst 0, 1) := by decide +kernel
theorem dX9_isOpen_12 : decode cX9_isOpen 12 = .ok (.ireturn, 1) := by decide +kernel
set_option maxRecDepth 20000 in
theorem ggX9_isHolders_X9_isOpen : GoodIn wsX9_isHolders wsX9_isOpen := goodIn_r _ [6, 7, 8, 9, 10, 11, 12, 13, 14, 15, 16, 17, 18, 19, 20, 21, 22, 23, 24, 25, 26] (by decide +kernel) (by decide +kernel)
set_option maxRecDepth 20000 in
theorem gX9_isHolders_X9_isOpen : GoodIn wsX9_isHolders (wsV RX9 78 RX9 yX9_isOpen wsX9_isOpen) := goodIn_app (goodIn_of _ (by decide +kernel)) ggX9_isHolders_X9_isOpen
theorem dX9_isHolders_0 : decode cX9_isHolders 0 = .ok (.aload_n 0, 1) := by decide +kernel
theorem dX9_isHolders_1 : decode cX9_isHolders 1 = .ok (.invokevirtual 78, 3) := by decide +kernel
theorem dX9_isHolders_4 : decode cX9_isHolders 4 = .ok (.ifCond .eq 14, 3) := by decide +kernel
theorem dX9_isHolders_7 : decode cX9_isHolders 7 = .ok (.aload_n 0, 1) := by decide +kernel
theorem dX9_isHolders_8 : decode cX9_isHolders 8 = .ok (.getfield 52, 3) := by decide +kernel
theorem dX9_isHolders_11 : decode cX9_isHolders 11 = .ok (.ifCond .ne 7, 3) := by decide +kernel
theorem dX9_isHolders_14 : decode cX9_isHolders 14 = .ok (.iconst 1, 1) := by decide +kernel
theorem dX9_isHolders_15 : decode cX9_isHolders 15 = .ok (.goto 4, 3) := by decide +kernel
theorem dX9_isHolders_18 : decode cX9_isHolders 18 = .ok (.iconst 0, 1) := by decide +kernel
theorem dX9_isHolders_19 : decode cX9_isHolders 19 = .ok (.ireturn, 1) := by decide +kernel
set_option maxRecDepth 20000 in
theorem ggX9_isForSale_X9_isOpen : GoodIn wsX9_isForSale wsX9_isOpen := goodIn_r _ [6, 7, 8, 9, 10, 11, 12, 13, 14, 15, 16, 17, 18, 19, 20, 21, 22, 23, 24, 25, 26] (by decide +kernel) (by decide +kernel)
set_option maxRecDepth 20000 in
theorem gX9_isForSale_X9_isOpen : GoodIn wsX9_isForSale (wsV RX9 78 RX9 yX9_isOpen wsX9_isOpen) := goodIn_app (goodIn_of _ (by decide +kernel)) ggX9_isForSale_X9_isOpen
theorem dX9_isForSale_0 : decode cX9_isForSale 0 = .ok (.aload_n 0, 1) := by decide +kernel
theorem dX9_isForSale_1 : decode cX9_isForSale 1 = .ok (.invokevirtual 78, 3) := by decide +kernel
theorem dX9_isForSale_4 : decode cX9_isForSale 4 = .ok (.ifCond .eq 14, 3) := by decide +kernel
theorem dX9_isForSale_7 : decode cX9_isForSale 7 = .ok (.aload_n 0, 1) := by decide +kernel
theorem dX9_isForSale_8 : decode cX9_isForSale 8 = .ok (.getfield 52, 3) := by decide +kernel
theorem dX9_isForSale_11 : decode cX9_isForSale 11 = .ok (.ifCond .eq 7, 3) := by decide +kernel
theorem dX9_isForSale_14 : decode cX9_isForSale 14 = .ok (.iconst 1, 1) := by decide +kernel
theorem dX9_isForSale_15 : decode cX9_isForSale 15 = .ok (.goto 4, 3) := by decide +kernel
theorem dX9_isForSale_18 : decode cX9_isForSale 18 = .ok (.iconst 0, 1) := by decide +kernel
theorem dX9_isForSale_19 : decode cX9_isForSale 19 = .ok (.ireturn, 1) := by decide +kernel
theorem dX9_isClaimed_0 : decode cX9_isClaimed 0 = .ok (.aload_n 0, 1) := by decide +kernel
theorem dX9_isClaimed_1 : decode cX9_isClaimed 1 = .ok (.getfield 28, 3) := by decide +kernel
theorem dX9_isClaimed_4 : decode cX9_isClaimed 4 = .ok (.iconst (-1), 1) := by decide +kernel
theorem dX9_isClaimed_5 : decode cX9_isClaimed 5 = .ok (.if_icmp .eq 7, 3) := by decide +kernel
theorem dX9_isClaimed_8 : decode cX9_isClaimed 8 = .ok (.iconst 1, 1) := by decide +kernel
theorem dX9_isClaimed_9 : decode cX9_isClaimed 9 = .ok (.goto 4, 3) := by decide +kernel
theorem dX9_isClaimed_12 : decode cX9_isClaimed 12 = .ok (.iconst 0, 1) := by decide +kernel
theorem dX9_isClaimed_13 : decode cX9_isClaimed 13 = .ok (.ireturn, 1) := by decide +kernel
theorem dX9_isTorn_0 : decode cX9_isTorn 0 = .ok (.aload_n 0, 1) := by decide +kernel
theorem dX9_isTorn_1 : decode cX9_isTorn 1 = .ok (.getfield 63, 3) := by decide +kernel
theorem dX9_isTorn_4 : decode cX9_isTorn 4 = .ok (.ifCond .eq 7, 3) := by decide +kernel
theorem dX9_isTorn_7 : decode cX9_isTorn 7 = .ok (.iconst 1, 1) := by decide +kernel
theorem dX9_isTorn_8 : decode cX9_isTorn 8 = .ok (.goto 4, 3) := by decide +kernel
theorem dX9_isTorn_11 : decode cX9_isTorn 11 = .ok (.iconst 0, 1) := by decide +kernel
theorem dX9_isTorn_12 : decode cX9_isTorn 12 = .ok (.ireturn, 1) := by decide +kernel
theorem dX9_tearAll_0 : decode cX9_tearAll 0 = .ok (.aload_n 0, 1) := by decide +kernel
theorem dX9_tearAll_1 : decode cX9_tearAll 1 = .ok (.iconst 2, 1) := by decide +kernel
theorem dX9_tearAll_2 : decode cX9_tearAll 2 = .ok (.putfield 63, 3) := by decide +kernel
theorem dX9_tearAll_5 : decode cX9_tearAll 5 = .ok (.return_, 1) := by decide +kernel
theorem dX9_tearAllButNumber_0 : decode cX9_tearAllButNumber 0 = .ok (.aload_n 0, 1) := by decide +kernel
theorem dX9_tearAllButNumber_1 : decode cX9_tearAllButNumber 1 = .ok (.iconst 1, 1) := by decide +kernel
theorem dX9_tearAllButNumber_2 : decode cX9_tearAllButNumber 2 = .ok (.putfield 63, 3) := by decide +kernel
theorem dX9_tearAllButNumber_5 : decode cX9_tearAllButNumber 5 = .ok (.return_, 1) := by decide +kernel
theorem dX9_numberInHouseHalf_0 : decode cX9_numberInHouseHalf 0 = .ok (.aload_n 0, 1) := by decide +kernel
theorem dX9_numberInHouseHalf_1 : decode cX9_numberInHouseHalf 1 = .ok (.getfield 63, 3) := by decide +kernel
theorem dX9_numberInHouseHalf_4 : decode cX9_numberInHouseHalf 4 = .ok (.iconst 2, 1) := by decide +kernel
theorem dX9_numberInHouseHalf_5 : decode cX9_numberInHouseHalf 5 = .ok (.if_icmp .ne 7, 3) := by decide +kernel
theorem dX9_numberInHouseHalf_8 : decode cX9_numberInHouseHalf 8 = .ok (.iconst (-1), 1) := by decide +kernel
theorem dX9_numberInHouseHalf_9 : decode cX9_numberInHouseHalf 9 = .ok (.goto 7, 3) := by decide +kernel
theorem dX9_numberInHouseHalf_12 : decode cX9_numberInHouseHalf 12 = .ok (.aload_n 0, 1) := by decide +kernel
theorem dX9_numberInHouseHalf_13 : decode cX9_numberInHouseHalf 13 = .ok (.getfield 37, 3) := by decide +kernel
theorem dX9_numberInHouseHalf_16 : decode cX9_numberInHouseHalf 16 = .ok (.ireturn, 1) := by decide +kernel
set_option maxRecDepth 20000 in
theorem ggX9_halfInHouseHalf_X9_isTorn : GoodIn wsX9_halfInHouseHalf wsX9_isTorn := goodIn_r _ [6, 7, 8, 9, 10, 11, 12, 13, 14, 15, 16, 17, 18, 19, 20, 21, 22, 23, 24, 25, 26] (by decide +kernel) (by decide +kernel)
set_option maxRecDepth 20000 in
theorem gX9_halfInHouseHalf_X9_isTorn : GoodIn wsX9_halfInHouseHalf (wsV RX9 82 RX9 yX9_isTorn wsX9_isTorn) := goodIn_app (goodIn_of _ (by decide +kernel)) ggX9_halfInHouseHalf_X9_isTorn
theorem dX9_halfInHouseHalf_0 : decode cX9_halfInHouseHalf 0 = .ok (.aload_n 0, 1) := by decide +kernel
theorem dX9_halfInHouseHalf_1 : decode cX9_halfInHouseHalf 1 = .ok (.invokevirtual 82, 3) := by decide +kernel
theorem dX9_halfInHouseHalf_4 : decode cX9_halfInHouseHalf 4 = .ok (.ifCond .eq 7, 3) := by decide +kernel
theorem dX9_halfInHouseHalf_7 : decode cX9_halfInHouseHalf 7 = .ok (.iconst (-1), 1) := by decide +kernel
theorem dX9_halfInHouseHalf_8 : decode cX9_halfInHouseHalf 8 = .ok (.goto 7, 3) := by decide +kernel
theorem dX9_halfInHouseHalf_11 : decode cX9_halfInHouseHalf 11 = .ok (.aload_n 0, 1) := by decide +kernel
theorem dX9_halfInHouseHalf_12 : decode cX9_halfInHouseHalf 12 = .ok (.getfield 60, 3) := by decide +kernel
theorem dX9_halfInHouseHalf_15 : decode cX9_halfInHouseHalf 15 = .ok (.ireturn, 1) := by decide +kernel
set_option maxRecDepth 20000 in
theorem ggX9_isRight_X9_isTorn : GoodIn wsX9_isRight wsX9_isTorn := goodIn_r _ [8, 9, 10, 11, 12, 13, 14, 15, 16, 17, 18, 19, 20, 21, 22, 23, 24, 25, 26, 27, 28] (by decide +kernel) (by decide +kernel)
set_option maxRecDepth 20000 in
theorem gX9_isRight_X9_isTorn : GoodIn wsX9_isRight (wsV RX9 82 RX9 yX9_isTorn wsX9_isTorn) := goodIn_app (goodIn_of _ (by decide +kernel)) ggX9_isRight_X9_isTorn
theorem dX9_isRight_0 : decode cX9_isRight 0 = .ok (.iload_n 1, 1) := by decide +kernel
theorem dX9_isRight_1 : decode cX9_isRight 1 = .ok (.ifCond .ne 28, 3) := by decide +kernel
theorem dX9_isRight_4 : decode cX9_isRight 4 = .ok (.aload_n 0, 1) := by decide +kernel
theorem dX9_isRight_5 : decode cX9_isRight 5 = .ok (.getfield 25, 3) := by decide +kernel
theorem dX9_isRight_8 : decode cX9_isRight 8 = .ok (.iconst (-1), 1) := by decide +kernel
theorem dX9_isRight_9 : decode cX9_isRight 9 = .ok (.if_icmp .eq 18, 3) := by decide +kernel
theorem dX9_isRight_12 : decode cX9_isRight 12 = .ok (.iload_n 2, 1) := by decide +kernel
theorem dX9_isRight_13 : decode cX9_isRight 13 = .ok (.aload_n 0, 1) := by decide +kernel
theorem dX9_isRight_14 : decode cX9_isRight 14 = .ok (.getfield 25, 3) := by decide +kernel
theorem dX9_isRight_17 : decode cX9_isRight 17 = .ok (.isub, 1) := by decide +kernel
theorem dX9_isRight_18 : decode cX9_isRight 18 = .ok (.bipush 14, 2) := by decide +kernel
theorem dX9_isRight_20 : decode cX9_isRight 20 = .ok (.if_icmp .lt 7, 3) := by decide +kernel
theorem dX9_isRight_23 : decode cX9_isRight 23 = .ok (.iconst 1, 1) := by decide +kernel
theorem dX9_isRight_24 : decode cX9_isRight 24 = .ok (.goto 4, 3) := by decide +kernel
theorem dX9_isRight_27 : decode cX9_isRight 27 = .ok (.iconst 0, 1) := by decide +kernel
theorem dX9_isRight_28 : decode cX9_isRight 28 = .ok (.ireturn, 1) := by decide +kernel
theorem dX9_isRight_29 : decode cX9_isRight 29 = .ok (.aload_n 0, 1) := by decide +kernel
theorem dX9_isRight_30 : decode cX9_isRight 30 = .ok (.invokevirtual 82, 3) := by decide +kernel
theorem dX9_isRight_33 : decode cX9_isRight 33 = .ok (.ifCond .eq 37, 3) := by decide +kernel
theorem dX9_isRight_36 : decode cX9_isRight 36 = .ok (.iload_n 1, 1) := by decide +kernel
theorem dX9_isRight_37 : decode cX9_isRight 37 = .ok (.sipush 1000, 3) := by decide +kernel
theorem dX9_isRight_40 : decode cX9_isRight 40 = .ok (.aload_n 0, 1) := by decide +kernel
theorem dX9_isRight_41 : decode cX9_isRight 41 = .ok (.getfield 37, 3) := by decide +kernel
theorem dX9_isRight_44 : decode cX9_isRight 44 = .ok (.imul, 1) := by decide +kernel
theorem dX9_isRight_45 : decode cX9_isRight 45 = .ok (.if_icmp .lt 23, 3) := by decide +kernel
theorem dX9_isRight_48 : decode cX9_isRight 48 = .ok (.iload_n 1, 1) := by decide +kernel
theorem dX9_isRight_49 : decode cX9_isRight 49 = .ok (.sipush 1000, 3) := by decide +kernel
theorem dX9_isRight_52 : decode cX9_isRight 52 = .ok (.aload_n 0, 1) := by decide +kernel
theorem dX9_isRight_53 : decode cX9_isRight 53 = .ok (.getfield 37, 3) := by decide +kernel
theorem dX9_isRight_56 : decode cX9_isRight 56 = .ok (.imul, 1) := by decide +kernel
theorem dX9_isRight_57 : decode cX9_isRight 57 = .ok (.sipush 999, 3) := by decide +kernel
theorem dX9_isRight_60 : decode cX9_isRight 60 = .ok (.iadd, 1) := by decide +kernel
theorem dX9_isRight_61 : decode cX9_isRight 61 = .ok (.if_icmp .gt 7, 3) := by decide +kernel
theorem dX9_isRight_64 : decode cX9_isRight 64 = .ok (.iconst 1, 1) := by decide +kernel
theorem dX9_isRight_65 : decode cX9_isRight 65 = .ok (.goto 4, 3) := by decide +kernel
theorem dX9_isRight_68 : decode cX9_isRight 68 = .ok (.iconst 0, 1) := by decide +kernel
theorem dX9_isRight_69 : decode cX9_isRight 69 = .ok (.ireturn, 1) := by decide +kernel
theorem dX9_isRight_70 : decode cX9_isRight 70 = .ok (.iload_n 1, 1) := by decide +kernel
theorem dX9_isRight_71 : decode cX9_isRight 71 = .ok (.aload_n 0, 1) := by decide +kernel
theorem dX9_isRight_72 : decode cX9_isRight 72 = .ok (.getfield 60, 3) := by decide +kernel
theorem dX9_isRight_75 : decode cX9_isRight 75 = .ok (.if_icmp .ne 7, 3) := by decide +kernel
theorem dX9_isRight_78 : decode cX9_isRight 78 = .ok (.iconst 1, 1) := by decide +kernel
theorem dX9_isRight_79 : decode cX9_isRight 79 = .ok (.goto 4, 3) := by decide +kernel
theorem dX9_isRight_82 : decode cX9_isRight 82 = .ok (.iconst 0, 1) := by decide +kernel
theorem dX9_isRight_83 : decode cX9_isRight 83 = .ok (.ireturn, 1) := by decide +kernel
theorem dX9_endOathBy_0 : decode cX9_endOathBy 0 = .ok (.iload_n 1, 1) := by decide +kernel
theorem dX9_endOathBy_1 : decode cX9_endOathBy 1 = .ok (.ifCond .eq 8, 3) := by decide +kernel
theorem dX9_endOathBy_4 : decode cX9_endOathBy 4 = .ok (.aload_n 0, 1) := by decide +kernel
theorem dX9_endOathBy_5 : decode cX9_endOathBy 5 = .ok (.iconst (-1), 1) := by decide +kernel
theorem dX9_endOathBy_6 : decode cX9_endOathBy 6 = .ok (.putfield 25, 3) := by decide +kernel
theorem dX9_endOathBy_9 : decode cX9_endOathBy 9 = .ok (.return_, 1) := by decide +kernel
theorem dX9_owed_0 : decode cX9_owed 0 = .ok (.aload_n 0, 1) := by decide +kernel
theorem dX9_owed_1 : decode cX9_owed 1 = .ok (.getfield 49, 3) := by decide +kernel
theorem dX9_owed_4 : decode cX9_owed 4 = .ok (.aload_n 0, 1) := by decide +kernel
theorem dX9_owed_5 : decode cX9_owed 5 = .ok (.getfield 12, 3) := by decide +kernel
theorem dX9_owed_8 : decode cX9_owed 8 = .ok (.getfield 85, 3) := by decide +kernel
theorem dX9_owed_11 : decode cX9_owed 11 = .ok (.iadd, 1) := by decide +kernel
theorem dX9_owed_12 : decode cX9_owed 12 = .ok (.ireturn, 1) := by decide +kernel
set_option maxRecDepth 20000 in
theorem ggX9_claimedDaysIfDropped_X9_isClaimed : GoodIn wsX9_claimedDaysIfDropped wsX9_isClaimed := goodIn_r _ [8, 3, 24, 25, 26, 27, 28, 29, 30, 31, 32, 33, 34, 35, 36, 37, 38, 39, 40, 41, 42] (by decide +kernel) (by decide +kernel)
set_option maxRecDepth 20000 in
theorem gX9_claimedDaysIfDropped_X9_isClaimed : GoodIn wsX9_claimedDaysIfDropped (wsV RX9 88 RX9 yX9_isClaimed wsX9_isClaimed) := goodIn_app (goodIn_of _ (by decide +kernel)) ggX9_claimedDaysIfDropped_X9_isClaimed
set_option maxRecDepth 20000 in
theorem ggX9_claimedDaysIfDropped_X7_daysOfClaim : GoodIn wsX9_claimedDaysIfDropped wsX7_daysOfClaim := goodIn_r _ [13, 14, 15, 16, 17, 18, 19, 20, 12, 21, 22, 23, 43, 44, 45, 46, 47, 48] (by decide +kernel) (by decide +kernel)
set_option maxRecDepth 20000 in
theorem gX9_claimedDaysIfDropped_X7_daysOfClaim : GoodIn wsX9_claimedDaysIfDropped (wsV RX9 94 RX7 yX7_daysOfClaim wsX7_daysOfClaim) := goodIn_app (goodIn_of _ (by decide +kernel)) ggX9_claimedDaysIfDropped_X7_daysOfClaim
theorem dX9_claimedDaysIfDropped_0 : decode cX9_claimedDaysIfDropped 0 = .ok (.aload_n 0, 1) := by decide +kernel
theorem dX9_claimedDaysIfDropped_1 : decode cX9_claimedDaysIfDropped 1 = .ok (.invokevirtual 88, 3) := by decide +kernel
theorem dX9_claimedDaysIfDropped_4 : decode cX9_claimedDaysIfDropped 4 = .ok (.ifCond .eq 26, 3) := by decide +kernel
theorem dX9_claimedDaysIfDropped_7 : decode cX9_claimedDaysIfDropped 7 = .ok (.aload_n 0, 1) := by decide +kernel
theorem dX9_claimedDaysIfDropped_8 : decode cX9_claimedDaysIfDropped 8 = .ok (.getfield 12, 3) := by decide +kernel
theorem dX9_claimedDaysIfDropped_11 : decode cX9_claimedDaysIfDropped 11 = .ok (.getfield 91, 3) := by decide +kernel
theorem dX9_claimedDaysIfDropped_14 : decode cX9_claimedDaysIfDropped 14 = .ok (.aload_n 0, 1) := by decide +kernel
theorem dX9_claimedDaysIfDropped_15 : decode cX9_claimedDaysIfDropped 15 = .ok (.getfield 12, 3) := by decide +kernel
theorem dX9_claimedDaysIfDropped_18 : decode cX9_claimedDaysIfDropped 18 = .ok (.aload_n 0, 1) := by decide +kernel
theorem dX9_claimedDaysIfDropped_19 : decode cX9_claimedDaysIfDropped 19 = .ok (.getfield 28, 3) := by decide +kernel
theorem dX9_claimedDaysIfDropped_22 : decode cX9_claimedDaysIfDropped 22 = .ok (.iload_n 1, 1) := by decide +kernel
theorem dX9_claimedDaysIfDropped_23 : decode cX9_claimedDaysIfDropped 23 = .ok (.invokevirtual 94, 3) := by decide +kernel
theorem dX9_claimedDaysIfDropped_26 : decode cX9_claimedDaysIfDropped 26 = .ok (.iadd, 1) := by decide +kernel
theorem dX9_claimedDaysIfDropped_27 : decode cX9_claimedDaysIfDropped 27 = .ok (.goto 10, 3) := by decide +kernel
theorem dX9_claimedDaysIfDropped_30 : decode cX9_claimedDaysIfDropped 30 = .ok (.aload_n 0, 1) := by decide +kernel
theorem dX9_claimedDaysIfDropped_31 : decode cX9_claimedDaysIfDropped 31 = .ok (.getfield 12, 3) := by decide +kernel
theorem dX9_claimedDaysIfDropped_34 : decode cX9_claimedDaysIfDropped 34 = .ok (.getfield 91, 3) := by decide +kernel
theorem dX9_claimedDaysIfDropped_37 : decode cX9_claimedDaysIfDropped 37 = .ok (.ireturn, 1) := by decide +kernel
set_option maxRecDepth 20000 in
theorem ggX9_endClaim_X9_claimedDaysIfDropped : GoodIn wsX9_endClaim wsX9_claimedDaysIfDropped := goodIn_r _ [8, 1, 2, 3, 9, 10, 11, 7, 12, 13, 14, 15, 16, 17, 18, 19, 20, 21, 22, 23, 24, 25, 26, 27, 28, 29, 30, 31, 32, 33, 34, 35, 36, 37, 38, 39, 40, 41, 42, 43, 44, 45, 46, 47, 48, 49, 50, 51, 52] (by decide +kernel) (by decide +kernel)
set_option maxRecDepth 20000 in
theorem gX9_endClaim_X9_claimedDaysIfDropped : GoodIn wsX9_endClaim (wsV RX9 98 RX9 yX9_claimedDaysIfDropped wsX9_claimedDaysIfDropped) := goodIn_app (goodIn_of _ (by decide +kernel)) ggX9_endClaim_X9_claimedDaysIfDropped
theorem dX9_endClaim_0 : decode cX9_endClaim 0 = .ok (.aload_n 0, 1) := by decide +kernel
theorem dX9_endClaim_1 : decode cX9_endClaim 1 = .ok (.getfield 12, 3) := by decide +kernel
theorem dX9_endClaim_4 : decode cX9_endClaim 4 = .ok (.aload_n 0, 1) := by decide +kernel
theorem dX9_endClaim_5 : decode cX9_endClaim 5 = .ok (.iload_n 1, 1) := by decide +kernel
theorem dX9_endClaim_6 : decode cX9_endClaim 6 = .ok (.invokevirtual 98, 3) := by decide +kernel
theorem dX9_endClaim_9 : decode cX9_endClaim 9 = .ok (.putfield 91, 3) := by decide +kernel
theorem dX9_endClaim_12 : decode cX9_endClaim 12 = .ok (.aload_n 0, 1) := by decide +kernel
theorem dX9_endClaim_13 : decode cX9_endClaim 13 = .ok (.iconst (-1), 1) := by decide +kernel
theorem dX9_endClaim_14 : decode cX9_endClaim 14 = .ok (.putfield 28, 3) := by decide +kernel
theorem dX9_endClaim_17 : decode cX9_endClaim 17 = .ok (.return_, 1) := by decide +kernel
set_option maxRecDepth 20000 in
theorem ggX9_forfeitDay_X7_lastDay : GoodIn wsX9_forfeitDay wsX7_lastDay := goodIn_r _ [6, 7, 8, 48, 49, 50, 51, 52, 53] (by decide +kernel) (by decide +kernel)
set_option maxRecDepth 20000 in
theorem gX9_forfeitDay_X7_lastDay : GoodIn wsX9_forfeitDay (wsV RX9 102 RX7 yX7_lastDay wsX7_lastDay) := goodIn_app (goodIn_of _ (by decide +kernel)) ggX9_forfeitDay_X7_lastDay
set_option maxRecDepth 20000 in
theorem ggX9_forfeitDay_X9_claimedDaysIfDropped : GoodIn wsX9_forfeitDay wsX9_claimedDaysIfDropped := goodIn_r _ [13, 1, 14, 15, 16, 17, 18, 12, 19, 20, 21, 22, 5, 23, 24, 25, 26, 27, 28, 3, 4, 6, 7, 8, 29, 30, 31, 32, 33, 34, 35, 36, 37, 38, 39, 40, 41, 42, 43, 44, 45, 46, 47, 48, 49, 50, 51, 52, 53] (by decide +kernel) (by decide +kernel)
set_option maxRecDepth 20000 in
theorem gX9_forfeitDay_X9_claimedDaysIfDropped : GoodIn wsX9_forfeitDay (wsV RX9 98 RX9 yX9_claimedDaysIfDropped wsX9_claimedDaysIfDropped) := goodIn_app (goodIn_of _ (by decide +kernel)) ggX9_forfeitDay_X9_claimedDaysIfDropped
theorem dX9_forfeitDay_0 : decode cX9_forfeitDay 0 = .ok (.aload_n 0, 1) := by decide +kernel
theorem dX9_forfeitDay_1 : decode cX9_forfeitDay 1 = .ok (.getfield 12, 3) := by decide +kernel
theorem dX9_forfeitDay_4 : decode cX9_forfeitDay 4 = .ok (.invokevirtual 102, 3) := by decide +kernel
theorem dX9_forfeitDay_7 : decode cX9_forfeitDay 7 = .ok (.iload_n 2, 1) := by decide +kernel
theorem dX9_forfeitDay_8 : decode cX9_forfeitDay 8 = .ok (.iadd, 1) := by decide +kernel
theorem dX9_forfeitDay_9 : decode cX9_forfeitDay 9 = .ok (.aload_n 0, 1) := by decide +kernel
theorem dX9_forfeitDay_10 : decode cX9_forfeitDay 10 = .ok (.iload_n 1, 1) := by decide +kernel
theorem dX9_forfeitDay_11 : decode cX9_forfeitDay 11 = .ok (.invokevirtual 98, 3) := by decide +kernel
theorem dX9_forfeitDay_14 : decode cX9_forfeitDay 14 = .ok (.iadd, 1) := by decide +kernel
theorem dX9_forfeitDay_15 : decode cX9_forfeitDay 15 = .ok (.ireturn, 1) := by decide +kernel
set_option maxRecDepth 20000 in
theorem ggX9_isKeptOver_X9_hasOverOn : GoodIn wsX9_isKeptOver wsX9_hasOverOn := goodIn_r _ [6, 7, 8, 9, 10, 11, 12, 13, 14, 15, 16, 17, 18, 19, 20, 21, 22, 23, 24, 25, 26, 27, 28] (by decide +kernel) (by decide +kernel)
set_option maxRecDepth 20000 in
theorem gX9_isKeptOver_X9_hasOverOn : GoodIn wsX9_isKeptOver (wsV RX9 106 RX9 yX9_hasOverOn wsX9_hasOverOn) := goodIn_app (goodIn_of _ (by decide +kernel)) ggX9_isKeptOver_X9_hasOverOn
theorem dX9_isKeptOver_0 : decode cX9_isKeptOver 0 = .ok (.aload_n 0, 1) := by decide +kernel
theorem dX9_isKeptOver_1 : decode cX9_isKeptOver 1 = .ok (.iload_n 1, 1) := by decide +kernel
theorem dX9_isKeptOver_2 : decode cX9_isKeptOver 2 = .ok (.invokevirtual 106, 3) := by decide +kernel
theorem dX9_isKeptOver_5 : decode cX9_isKeptOver 5 = .ok (.ifCond .eq 15, 3) := by decide +kernel
theorem dX9_isKeptOver_8 : decode cX9_isKeptOver 8 = .ok (.iload_n 1, 1) := by decide +kernel
theorem dX9_isKeptOver_9 : decode cX9_isKeptOver 9 = .ok (.aload_n 0, 1) := by decide +kernel
theorem dX9_isKeptOver_10 : decode cX9_isKeptOver 10 = .ok (.getfield 75, 3) := by decide +kernel
theorem dX9_isKeptOver_13 : decode cX9_isKeptOver 13 = .ok (.if_icmp .gt 7, 3) := by decide +kernel
theorem dX9_isKeptOver_16 : decode cX9_isKeptOver 16 = .ok (.iconst 1, 1) := by decide +kernel
theorem dX9_isKeptOver_17 : decode cX9_isKeptOver 17 = .ok (.goto 4, 3) := by decide +kernel
theorem dX9_isKeptOver_20 : decode cX9_isKeptOver 20 = .ok (.iconst 0, 1) := by decide +kernel
theorem dX9_isKeptOver_21 : decode cX9_isKeptOver 21 = .ok (.ireturn, 1) := by decide +kernel
set_option maxRecDepth 20000 in
theorem ggX9_isHousesOver_X9_hasOverOn : GoodIn wsX9_isHousesOver wsX9_hasOverOn := goodIn_r _ [6, 7, 8, 9, 10, 11, 12, 13, 14, 15, 16, 17, 18, 19, 20, 21, 22, 23, 24, 25, 26, 27, 28] (by decide +kernel) (by decide +kernel)
set_option maxRecDepth 20000 in
theorem gX9_isHousesOver_X9_hasOverOn : GoodIn wsX9_isHousesOver (wsV RX9 106 RX9 yX9_hasOverOn wsX9_hasOverOn) := goodIn_app (goodIn_of _ (by decide +kernel)) ggX9_isHousesOver_X9_hasOverOn
theorem dX9_isHousesOver_0 : decode cX9_isHousesOver 0 = .ok (.aload_n 0, 1) := by decide +kernel
theorem dX9_isHousesOver_1 : decode cX9_isHousesOver 1 = .ok (.iload_n 1, 1) := by decide +kernel
theorem dX9_isHousesOver_2 : decode cX9_isHousesOver 2 = .ok (.invokevirtual 106, 3) := by decide +kernel
theorem dX9_isHousesOver_5 : decode cX9_isHousesOver 5 = .ok (.ifCond .eq 15, 3) := by decide +kernel
theorem dX9_isHousesOver_8 : decode cX9_isHousesOver 8 = .ok (.iload_n 1, 1) := by decide +kernel
theorem dX9_isHousesOver_9 : decode cX9_isHousesOver 9 = .ok (.aload_n 0, 1) := by decide +kernel
theorem dX9_isHousesOver_10 : decode cX9_isHousesOver 10 = .ok (.getfield 75, 3) := by decide +kernel
theorem dX9_isHousesOver_13 : decode cX9_isHousesOver 13 = .ok (.if_icmp .le 7, 3) := by decide +kernel
theorem dX9_isHousesOver_16 : decode cX9_isHousesOver 16 = .ok (.iconst 1, 1) := by decide +kernel
theorem dX9_isHousesOver_17 : decode cX9_isHousesOver 17 = .ok (.goto 4, 3) := by decide +kernel
theorem dX9_isHousesOver_20 : decode cX9_isHousesOver 20 = .ok (.iconst 0, 1) := by decide +kernel
theorem dX9_isHousesOver_21 : decode cX9_isHousesOver 21 = .ok (.ireturn, 1) := by decide +kernel
theorem dX9_hasOverOn_0 : decode cX9_hasOverOn 0 = .ok (.aload_n 0, 1) := by decide +kernel
theorem dX9_hasOverOn_1 : decode cX9_hasOverOn 1 = .ok (.getfield 72, 3) := by decide +kernel
theorem dX9_hasOverOn_4 : decode cX9_hasOverOn 4 = .ok (.ifCond .le 31, 3) := by decide +kernel
theorem dX9_hasOverOn_7 : decode cX9_hasOverOn 7 = .ok (.aload_n 0, 1) := by decide +kernel
theorem dX9_hasOverOn_8 : decode cX9_hasOverOn 8 = .ok (.getfield 31, 3) := by decide +kernel
theorem dX9_hasOverOn_11 : decode cX9_hasOverOn 11 = .ok (.iload_n 1, 1) := by decide +kernel
theorem dX9_hasOverOn_12 : decode cX9_hasOverOn 12 = .ok (.if_icmp .gt 23, 3) := by decide +kernel
theorem dX9_hasOverOn_15 : decode cX9_hasOverOn 15 = .ok (.aload_n 0, 1) := by decide +kernel
theorem dX9_hasOverOn_16 : decode cX9_hasOverOn 16 = .ok (.getfield 34, 3) := by decide +kernel
theorem dX9_hasOverOn_19 : decode cX9_hasOverOn 19 = .ok (.iconst (-1), 1) := by decide +kernel
theorem dX9_hasOverOn_20 : decode cX9_hasOverOn 20 = .ok (.if_icmp .eq 11, 3) := by decide +kernel
theorem dX9_hasOverOn_23 : decode cX9_hasOverOn 23 = .ok (.aload_n 0, 1) := by decide +kernel
theorem dX9_hasOverOn_24 : decode cX9_hasOverOn 24 = .ok (.getfield 34, 3) := by decide +kernel
theorem dX9_hasOverOn_27 : decode cX9_hasOverOn 27 = .ok (.iload_n 1, 1) := by decide +kernel
theorem dX9_hasOverOn_28 : decode cX9_hasOverOn 28 = .ok (.if_icmp .le 7, 3) := by decide +kernel
theorem dX9_hasOverOn_31 : decode cX9_hasOverOn 31 = .ok (.iconst 1, 1) := by decide +kernel
theorem dX9_hasOverOn_32 : decode cX9_hasOverOn 32 = .ok (.goto 4, 3) := by decide +kernel
theorem dX9_hasOverOn_35 : decode cX9_hasOverOn 35 = .ok (.iconst 0, 1) := by decide +kernel
theorem dX9_hasOverOn_36 : decode cX9_hasOverOn 36 = .ok (.ireturn, 1) := by decide +kernel
set_option maxRecDepth 20000 in
theorem ggX9_overState_X9_isHousesOver : GoodIn wsX9_overState wsX9_isHousesOver := goodIn_r _ [6, 7, 8, 9, 10, 5, 11, 12, 13, 1, 14, 15, 16, 17, 18, 19, 20, 21, 22, 23, 24, 25, 26, 27, 28, 29, 30, 31, 32] (by decide +kernel) (by decide +kernel)
set_option maxRecDepth 20000 in
theorem gX9_overState_X9_isHousesOver : GoodIn wsX9_overState (wsV RX9 110 RX9 yX9_isHousesOver wsX9_isHousesOver) := goodIn_app (goodIn_of _ (by decide +kernel)) ggX9_overState_X9_isHousesOver
theorem dX9_overState_0 : decode cX9_overState 0 = .ok (.aload_n 0, 1) := by decide +kernel
theorem dX9_overState_1 : decode cX9_overState 1 = .ok (.getfield 34, 3) := by decide +kernel
theorem dX9_overState_4 : decode cX9_overState 4 = .ok (.iconst (-1), 1) := by decide +kernel
theorem dX9_overState_5 : decode cX9_overState 5 = .ok (.if_icmp .eq 5, 3) := by decide +kernel
theorem dX9_overState_8 : decode cX9_overState 8 = .ok (.iconst 1, 1) := by decide +kernel
theorem dX9_overState_9 : decode cX9_overState 9 = .ok (.ireturn, 1) := by decide +kernel
theorem dX9_overState_10 : decode cX9_overState 10 = .ok (.aload_n 0, 1) := by decide +kernel
theorem dX9_overState_11 : decode cX9_overState 11 = .ok (.iload_n 1, 1) := by decide +kernel
theorem dX9_overState_12 : decode cX9_overState 12 = .ok (.invokevirtual 110, 3) := by decide +kernel
theorem dX9_overState_15 : decode cX9_overState 15 = .ok (.ifCond .eq 7, 3) := by decide +kernel
theorem dX9_overState_18 : decode cX9_overState 18 = .ok (.iconst 2, 1) := by decide +kernel
theorem dX9_overState_19 : decode cX9_overState 19 = .ok (.goto 4, 3) := by decide +kernel
theorem dX9_overState_22 : decode cX9_overState 22 = .ok (.iconst 0, 1) := by decide +kernel
theorem dX9_overState_23 : decode cX9_overState 23 = .ok (.ireturn, 1) := by decide +kernel
set_option maxRecDepth 20000 in
theorem ggX10_init_X5_init : GoodIn wsX10_init wsX5_init := goodIn_r _ [7, 8, 9, 10] (by decide +kernel) (by decide +kernel)
set_option maxRecDepth 20000 in
theorem gX10_init_X5_init_n1 : GoodIn wsX10_init (wsX5_init) := ggX10_init_X5_init
theorem dX10_init_0 : decode cX10_init 0 = .ok (.aload_n 0, 1) := by decide +kernel
theorem dX10_init_1 : decode cX10_init 1 = .ok (.invokespecial 1, 3) := by decide +kernel
theorem dX10_init_4 : decode cX10_init 4 = .ok (.fload_n 1, 1) := by decide +kernel
theorem dX10_init_5 : decode cX10_init 5 = .ok (.ldc 7, 2) := by decide +kernel
theorem dX10_init_7 : decode cX10_init 7 = .ok (.fmul, 1) := by decide +kernel
theorem dX10_init_8 : decode cX10_init 8 = .ok (.fstore_n 2, 1) := by decide +kernel
theorem dX10_init_9 : decode cX10_init 9 = .ok (.aload_n 0, 1) := by decide +kernel
theorem dX10_init_10 : decode cX10_init 10 = .ok (.fload_n 2, 1) := by decide +kernel
theorem dX10_init_11 : decode cX10_init 11 = .ok (.f2i, 1) := by decide +kernel
theorem dX10_init_12 : decode cX10_init 12 = .ok (.putfield 8, 3) := by decide +kernel
theorem dX10_init_15 : decode cX10_init 15 = .ok (.aload_n 0, 1) := by decide +kernel
theorem dX10_init_16 : decode cX10_init 16 = .ok (.fload_n 2, 1) := by decide +kernel
theorem dX10_init_17 : decode cX10_init 17 = .ok (.aload_n 0, 1) := by decide +kernel
theorem dX10_init_18 : decode cX10_init 18 = .ok (.getfield 8, 3) := by decide +kernel
theorem dX10_init_21 : decode cX10_init 21 = .ok (.i2f, 1) := by decide +kernel
theorem dX10_init_22 : decode cX10_init 22 = .ok (.fsub, 1) := by decide +kernel
theorem dX10_init_23 : decode cX10_init 23 = .ok (.ldc 14, 2) := by decide +kernel
theorem dX10_init_25 : decode cX10_init 25 = .ok (.fmul, 1) := by decide +kernel
theorem dX10_init_26 : decode cX10_init 26 = .ok (.f2i, 1) := by decide +kernel
theorem dX10_init_27 : decode cX10_init 27 = .ok (.putfield 15, 3) := by decide +kernel
theorem dX10_init_30 : decode cX10_init 30 = .ok (.return_, 1) := by decide +kernel
theorem dX10_isWeight_0 : decode cX10_isWeight 0 = .ok (.fload_n 0, 1) := by decide +kernel
theorem dX10_isWeight_1 : decode cX10_isWeight 1 = .ok (.fconst 0, 1) := by decide +kernel
theorem dX10_isWeight_2 : decode cX10_isWeight 2 = .ok (.fcmp .l, 1) := by decide +kernel
theorem dX10_isWeight_3 : decode cX10_isWeight 3 = .ok (.ifCond .lt 14, 3) := by decide +kernel
theorem dX10_isWeight_6 : decode cX10_isWeight 6 = .ok (.fload_n 0, 1) := by decide +kernel
theorem dX10_isWeight_7 : decode cX10_isWeight 7 = .ok (.ldc 18, 2) := by decide +kernel
theorem dX10_isWeight_9 : decode cX10_isWeight 9 = .ok (.fcmp .g, 1) := by decide +kernel
theorem dX10_isWeight_10 : decode cX10_isWeight 10 = .ok (.ifCond .gt 7, 3) := by decide +kernel
theorem dX10_isWeight_13 : decode cX10_isWeight 13 = .ok (.iconst 1, 1) := by decide +kernel
theorem dX10_isWeight_14 : decode cX10_isWeight 14 = .ok (.goto 4, 3) := by decide +kernel
theorem dX10_isWeight_17 : decode cX10_isWeight 17 = .ok (.iconst 0, 1) := by decide +kernel
theorem dX10_isWeight_18 : decode cX10_isWeight 18 = .ok (.ireturn, 1) := by decide +kernel
theorem dX10_hundredths_0 : decode cX10_hundredths 0 = .ok (.aload_n 0, 1) := by decide +kernel
theorem dX10_hundredths_1 : decode cX10_hundredths 1 = .ok (.getfield 8, 3) := by decide +kernel
theorem dX10_hundredths_4 : decode cX10_hundredths 4 = .ok (.ireturn, 1) := by decide +kernel
theorem dX10_leftOver_0 : decode cX10_leftOver 0 = .ok (.aload_n 0, 1) := by decide +kernel
theorem dX10_leftOver_1 : decode cX10_leftOver 1 = .ok (.getfield 15, 3) := by decide +kernel
theorem dX10_leftOver_4 : decode cX10_leftOver 4 = .ok (.ireturn, 1) := by decide +kernel
set_option maxRecDepth 20000 in
theorem ggX11_init_X0_init : GoodIn wsX11_init wsX0_init := goodIn_r _ [13, 14, 2, 3, 15, 16, 17, 38] (by decide +kernel) (by decide +kernel)
set_option maxRecDepth 20000 in
theorem gX11_init_X0_init_n9 : GoodIn wsX11_init (wsX0_init) := ggX11_init_X0_init
set_option maxRecDepth 20000 in
theorem ggX11_init_X3_init : GoodIn wsX11_init wsX3_init := goodIn_r _ [20, 21, 2, 3, 22, 23, 24, 25, 26, 27, 28, 29, 30, 31, 32, 33, 34, 35, 36, 37, 39, 40, 41, 42, 43, 44, 45, 46, 47] (by decide +kernel) (by decide +kernel)
set_option maxRecDepth 20000 in
theorem gX11_init_X3_init : GoodIn wsX11_init (wsX3_init) := ggX11_init_X3_init
theorem dX11_init_0 : decode cX11_init 0 = .ok (.aload_n 0, 1) := by decide +kernel
theorem dX11_init_1 : decode cX11_init 1 = .ok (.invokespecial 1, 3) := by decide +kernel
theorem dX11_init_4 : decode cX11_init 4 = .ok (.new 7, 3) := by decide +kernel
theorem dX11_init_7 : decode cX11_init 7 = .ok (.dup, 1) := by decide +kernel
theorem dX11_init_8 : decode cX11_init 8 = .ok (.invokespecial 9, 3) := by decide +kernel
theorem dX11_init_11 : decode cX11_init 11 = .ok (.astore_n 1, 1) := by decide +kernel
theorem dX11_init_12 : decode cX11_init 12 = .ok (.aload_n 0, 1) := by decide +kernel
theorem dX11_init_13 : decode cX11_init 13 = .ok (.new 10, 3) := by decide +kernel
theorem dX11_init_16 : decode cX11_init 16 = .ok (.dup, 1) := by decide +kernel
theorem dX11_init_17 : decode cX11_init 17 = .ok (.aload_n 1, 1) := by decide +kernel
theorem dX11_init_18 : decode cX11_init 18 = .ok (.invokespecial 12, 3) := by decide +kernel
theorem dX11_init_21 : decode cX11_init 21 = .ok (.putfield 15, 3) := by decide +kernel
theorem dX11_init_24 : decode cX11_init 24 = .ok (.aload_n 0, 1) := by decide +kernel
theorem dX11_init_25 : decode cX11_init 25 = .ok (.new 10, 3) := by decide +kernel
theorem dX11_init_28 : decode cX11_init 28 = .ok (.dup, 1) := by decide +kernel
theorem dX11_init_29 : decode cX11_init 29 = .ok (.aload_n 1, 1) := by decide +kernel
theorem dX11_init_30 : decode cX11_init 30 = .ok (.invokespecial 12, 3) := by decide +kernel
theorem dX11_init_33 : decode cX11_init 33 = .ok (.putfield 21, 3) := by decide +kernel
theorem dX11_init_36 : decode cX11_init 36 = .ok (.return_, 1) := by decide +kernel
set_option maxRecDepth 20000 in
theorem ggX11_day_X3_passDays : GoodIn wsX11_day wsX3_passDays := goodIn_r _ [6, 7, 8, 9, 10, 11, 12, 13, 14, 5, 15, 16, 17, 18, 19, 20, 21, 22, 23, 24, 25, 26, 27, 28, 29, 30, 31, 32, 33, 34, 35, 36, 37, 38, 39, 40, 41, 42, 43, 44, 45, 46, 47, 48, 58, 59, 60, 61, 62, 63, 64, 65, 66, 67, 68, 69, 70, 71, 72, 73, 74, 75, 76, 77, 78, 79, 80, 81, 82, 83, 84, 85, 86, 87, 88, 89, 90, 91] (by decide +kernel) (by decide +kernel)
set_option maxRecDepth 20000 in
theorem gX11_day_X3_passDays : GoodIn wsX11_day (wsV RX11 24 RX3 yX3_passDays wsX3_passDays) := goodIn_app (goodIn_of _ (by decide +kernel)) ggX11_day_X3_passDays
set_option maxRecDepth 20000 in
theorem ggX11_day_X11_answer : GoodIn wsX11_day wsX11_answer := goodIn_r _ [52, 53, 54, 55, 56, 57] (by decide +kernel) (by decide +kernel)
set_option maxRecDepth 20000 in
theorem gX11_day_X11_answer : GoodIn wsX11_day (wsV RX11 28 RX11 yX11_answer wsX11_answer) := goodIn_app (goodIn_of _ (by decide +kernel)) ggX11_day_X11_answer
theorem dX11_day_0 : decode cX11_day 0 = .ok (.aload_n 0, 1) := by decide +kernel
theorem dX11_day_1 : decode cX11_day 1 = .ok (.aload_n 0, 1) := by decide +kernel
theorem dX11_day_2 : decode cX11_day 2 = .ok (.getfield 15, 3) := by decide +kernel
theorem dX11_day_5 : decode cX11_day 5 = .ok (.iload_n 1, 1) := by decide +kernel
theorem dX11_day_6 : decode cX11_day 6 = .ok (.invokevirtual 24, 3) := by decide +kernel
theorem dX11_day_9 : decode cX11_day 9 = .ok (.invokevirtual 28, 3) := by decide +kernel
theorem dX11_day_12 : decode cX11_day 12 = .ok (.ireturn, 1) := by decide +kernel
set_option maxRecDepth 20000 in
theorem ggX11_rule_X3_setRule : GoodIn wsX11_rule wsX3_setRule := goodIn_r _ [6, 7, 18, 19, 20, 21, 22, 23, 24, 25, 26] (by decide +kernel) (by decide +kernel)
set_option maxRecDepth 20000 in
theorem gX11_rule_X3_setRule : GoodIn wsX11_rule (wsV RX11 31 RX3 yX3_setRule wsX3_setRule) := goodIn_app (goodIn_of _ (by decide +kernel)) ggX11_rule_X3_setRule
set_option maxRecDepth 20000 in
theorem ggX11_rule_X11_answer : GoodIn wsX11_rule wsX11_answer := goodIn_r _ [12, 13, 14, 15, 16, 17] (by decide +kernel) (by decide +kernel)
set_option maxRecDepth 20000 in
theorem gX11_rule_X11_answer : GoodIn wsX11_rule (wsV RX11 28 RX11 yX11_answer wsX11_answer) := goodIn_app (goodIn_of _ (by decide +kernel)) ggX11_rule_X11_answer
theorem dX11_rule_0 : decode cX11_rule 0 = .ok (.aload_n 0, 1) := by decide +kernel
theorem dX11_rule_1 : decode cX11_rule 1 = .ok (.aload_n 0, 1) := by decide +kernel
theorem dX11_rule_2 : decode cX11_rule 2 = .ok (.getfield 15, 3) := by decide +kernel
theorem dX11_rule_5 : decode cX11_rule 5 = .ok (.iload_n 1, 1) := by decide +kernel
theorem dX11_rule_6 : decode cX11_rule 6 = .ok (.iload_n 2, 1) := by decide +kernel
theorem dX11_rule_7 : decode cX11_rule 7 = .ok (.invokevirtual 31, 3) := by decide +kernel
theorem dX11_rule_10 : decode cX11_rule 10 = .ok (.invokevirtual 28, 3) := by decide +kernel
theorem dX11_rule_13 : decode cX11_rule 13 = .ok (.ireturn, 1) := by decide +kernel
set_option maxRecDepth 20000 in
theorem ggX11_thing_X3_bringThing : GoodIn wsX11_thing wsX3_bringThing := goodIn_r _ [6, 7, 8, 9, 10, 11, 12, 5, 13, 14, 15, 16, 17, 18, 19, 20, 21, 22, 23, 24, 25, 26, 27, 28, 29, 30, 31, 32, 33, 34, 35, 36, 37, 38, 39, 40, 41, 42, 43, 44, 45, 46, 47, 48, 49, 50, 51, 52, 53, 54, 55, 56, 57, 58, 59, 60, 61, 62, 63, 64, 75, 76, 77, 78, 79, 80, 81, 82, 83, 84, 85] (by decide +kernel) (by decide +kernel)
set_option maxRecDepth 20000 in
theorem gX11_thing_X3_bringThing : GoodIn wsX11_thing (wsV RX11 35 RX3 yX3_bringThing wsX3_bringThing) := goodIn_app (goodIn_of _ (by decide +kernel)) ggX11_thing_X3_bringThing
set_option maxRecDepth 20000 in
theorem ggX11_thing_X11_answer : GoodIn wsX11_thing wsX11_answer := goodIn_r _ [69, 70, 71, 72, 73, 74] (by decide +kernel) (by decide +kernel)
set_option maxRecDepth 20000 in
theorem gX11_thing_X11_answer : GoodIn wsX11_thing (wsV RX11 28 RX11 yX11_answer wsX11_answer) := goodIn_app (goodIn_of _ (by decide +kernel)) ggX11_thing_X11_answer
theorem dX11_thing_0 : decode cX11_thing 0 = .ok (.aload_n 0, 1) := by decide +kernel
theorem dX11_thing_1 : decode cX11_thing 1 = .ok (.aload_n 0, 1) := by decide +kernel
theorem dX11_thing_2 : decode cX11_thing 2 = .ok (.getfield 15, 3) := by decide +kernel
theorem dX11_thing_5 : decode cX11_thing 5 = .ok (.iload_n 1, 1) := by decide +kernel
theorem dX11_thing_6 : decode cX11_thing 6 = .ok (.iload_n 2, 1) := by decide +kernel
theorem dX11_thing_7 : decode cX11_thing 7 = .ok (.invokevirtual 35, 3) := by decide +kernel
theorem dX11_thing_10 : decode cX11_thing 10 = .ok (.invokevirtual 28, 3) := by decide +kernel
theorem dX11_thing_13 : decode cX11_thing 13 = .ok (.ireturn, 1) := by decide +kernel
set_option maxRecDepth 20000 in
theorem ggX11_gold_X3_bringGold : GoodIn wsX11_gold wsX3_bringGold := goodIn_r _ [6, 7, 8, 9, 10, 11, 12, 5, 13, 14, 15, 16, 17, 18, 19, 20, 21, 22, 23, 24, 25, 26, 27, 28, 29, 30, 31, 32, 33, 34, 35, 36, 37, 38, 39, 40, 41, 42, 43, 44, 45, 46, 47, 48, 49, 50, 51, 52, 53, 54, 55, 56, 57, 58, 59, 60, 61, 62, 63, 64, 65, 66, 67, 68, 69, 70, 71, 72, 73, 74, 75, 76, 77, 88, 89, 90, 91, 92, 93, 94, 95, 96, 97, 98, 99, 100, 101, 102, 103, 104, 105, 106] (by decide +kernel) (by decide +kernel)
set_option maxRecDepth 20000 in
theorem gX11_gold_X3_bringGold : GoodIn wsX11_gold (wsV RX11 38 RX3 yX3_bringGold wsX3_bringGold) := goodIn_app (goodIn_of _ (by decide +kernel)) ggX11_gold_X3_bringGold
set_option maxRecDepth 20000 in
theorem ggX11_gold_X11_answer : GoodIn wsX11_gold wsX11_answer := goodIn_r _ [82, 83, 84, 85, 86, 87] (by decide +kernel) (by decide +kernel)
set_option maxRecDepth 20000 in
theorem gX11_gold_X11_answer : GoodIn wsX11_gold (wsV RX11 28 RX11 yX11_answer wsX11_answer) := goodIn_app (goodIn_of _ (by decide +kernel)) ggX11_gold_X11_answer
theorem dX11_gold_0 : decode cX11_gold 0 = .ok (.aload_n 0, 1) := by decide +kernel
theorem dX11_gold_1 : decode cX11_gold 1 = .ok (.aload_n 0, 1) := by decide +kernel
theorem dX11_gold_2 : decode cX11_gold 2 = .ok (.getfield 15, 3) := by decide +kernel
theorem dX11_gold_5 : decode cX11_gold 5 = .ok (.iload_n 1, 1) := by decide +kernel
theorem dX11_gold_6 : decode cX11_gold 6 = .ok (.fload_n 2, 1) := by decide +kernel
theorem dX11_gold_7 : decode cX11_gold 7 = .ok (.iload_n 3, 1) := by decide +kernel
theorem dX11_gold_8 : decode cX11_gold 8 = .ok (.invokevirtual 38, 3) := by decide +kernel
theorem dX11_gold_11 : decode cX11_gold 11 = .ok (.invokevirtual 28, 3) := by decide +kernel
theorem dX11_gold_14 : decode cX11_gold 14 = .ok (.ireturn, 1) := by decide +kernel
set_option maxRecDepth 20000 in
theorem ggX11_coat_X3_bringCoat : GoodIn wsX11_coat wsX3_bringCoat := goodIn_r _ [6, 7, 8, 9, 10, 11, 12, 13, 5, 14, 15, 16, 17, 18, 19, 20, 21, 22, 23, 24, 25, 26, 27, 28, 29, 30, 31, 32, 33, 34, 35, 36, 37, 38, 39, 40, 41, 42, 43, 44, 45, 46, 47, 48, 49, 50, 51, 52, 53, 54, 55, 56, 57, 58, 59, 60, 61, 62, 63, 64, 65, 66, 77, 78, 79, 80, 81, 82, 83, 84, 85, 86, 87, 88, 89] (by decide +kernel) (by decide +kernel)
set_option maxRecDepth 20000 in
theorem gX11_coat_X3_bringCoat : GoodIn wsX11_coat (wsV RX11 42 RX3 yX3_bringCoat wsX3_bringCoat) := goodIn_app (goodIn_of _ (by decide +kernel)) ggX11_coat_X3_bringCoat
set_option maxRecDepth 20000 in
theorem ggX11_coat_X11_answer : GoodIn wsX11_coat wsX11_answer := goodIn_r _ [71, 72, 73, 74, 75, 76] (by decide +kernel) (by decide +kernel)
set_option maxRecDepth 20000 in
theorem gX11_coat_X11_answer : GoodIn wsX11_coat (wsV RX11 28 RX11 yX11_answer wsX11_answer) := goodIn_app (goodIn_of _ (by decide +kernel)) ggX11_coat_X11_answer
theorem dX11_coat_0 : decode cX11_coat 0 = .ok (.aload_n 0, 1) := by decide +kernel
theorem dX11_coat_1 : decode cX11_coat 1 = .ok (.aload_n 0, 1) := by decide +kernel
theorem dX11_coat_2 : decode cX11_coat 2 = .ok (.getfield 15, 3) := by decide +kernel
theorem dX11_coat_5 : decode cX11_coat 5 = .ok (.iload_n 1, 1) := by decide +kernel
theorem dX11_coat_6 : decode cX11_coat 6 = .ok (.iload_n 2, 1) := by decide +kernel
theorem dX11_coat_7 : decode cX11_coat 7 = .ok (.iload_n 3, 1) := by decide +kernel
theorem dX11_coat_8 : decode cX11_coat 8 = .ok (.invokevirtual 42, 3) := by decide +kernel
theorem dX11_coat_11 : decode cX11_coat 11 = .ok (.invokevirtual 28, 3) := by decide +kernel
theorem dX11_coat_14 : decode cX11_coat 14 = .ok (.ireturn, 1) := by decide +kernel
set_option maxRecDepth 20000 in
theorem ggX11_rare_X3_bringRare : GoodIn wsX11_rare wsX3_bringRare := goodIn_r _ [6, 7, 8, 9, 10, 11, 12, 5, 13, 14, 15, 16, 17, 18, 19, 20, 21, 22, 23, 24, 25, 26, 27, 28, 29, 30, 31, 32, 33, 34, 35, 36, 37, 38, 39, 40, 41, 42, 43, 44, 45, 46, 47, 48, 49, 50, 51, 52, 53, 54, 55, 56, 57, 58, 59, 60, 61, 62, 63, 64, 65, 66, 67, 68, 69, 70, 71, 72, 73, 74, 75, 76, 77, 78, 79, 80, 91, 92, 93, 94, 95, 96, 97, 98, 99, 100, 101, 102, 103, 104, 105, 106, 107, 108, 109] (by decide +kernel) (by decide +kernel)
set_option maxRecDepth 20000 in
theorem gX11_rare_X3_bringRare : GoodIn wsX11_rare (wsV RX11 46 RX3 yX3_bringRare wsX3_bringRare) := goodIn_app (goodIn_of _ (by decide +kernel)) ggX11_rare_X3_bringRare
set_option maxRecDepth 20000 in
theorem ggX11_rare_X11_answer : GoodIn wsX11_rare wsX11_answer := goodIn_r _ [85, 86, 87, 88, 89, 90] (by decide +kernel) (by decide +kernel)
set_option maxRecDepth 20000 in
theorem gX11_rare_X11_answer : GoodIn wsX11_rare (wsV RX11 28 RX11 yX11_answer wsX11_answer) := goodIn_app (goodIn_of _ (by decide +kernel)) ggX11_rare_X11_answer
theorem dX11_rare_0 : decode cX11_rare 0 = .ok (.aload_n 0, 1) := by decide +kernel
theorem dX11_rare_1 : decode cX11_rare 1 = .ok (.aload_n 0, 1) := by decide +kernel
theorem dX11_rare_2 : decode cX11_rare 2 = .ok (.getfield 15, 3) := by decide +kernel
theorem dX11_rare_5 : decode cX11_rare 5 = .ok (.iload_n 1, 1) := by decide +kernel
theorem dX11_rare_6 : decode cX11_rare 6 = .ok (.fload_n 2, 1) := by decide +kernel
theorem dX11_rare_7 : decode cX11_rare 7 = .ok (.invokevirtual 46, 3) := by decide +kernel
theorem dX11_rare_10 : decode cX11_rare 10 = .ok (.invokevirtual 28, 3) := by decide +kernel
theorem dX11_rare_13 : decode cX11_rare 13 = .ok (.ireturn, 1) := by decide +kernel
set_option maxRecDepth 20000 in
theorem ggX11_second_X3_tellValue : GoodIn wsX11_second wsX3_tellValue := goodIn_r _ [6, 7, 8, 9, 10, 11, 5, 12, 13, 14, 15, 16, 17, 18, 19, 20, 21, 22, 23, 24, 25, 26, 27, 28, 29, 30, 31, 32, 33, 34, 35, 36, 37, 38, 39, 40, 41, 42, 43, 44, 45, 46, 47, 48, 59, 60, 61, 62, 63, 64, 65, 66, 67, 68, 69, 70, 71, 72, 73, 74, 75, 76] (by decide +kernel) (by decide +kernel)
set_option maxRecDepth 20000 in
theorem gX11_second_X3_tellValue : GoodIn wsX11_second (wsV RX11 50 RX3 yX3_tellValue wsX3_tellValue) := goodIn_app (goodIn_of _ (by decide +kernel)) ggX11_second_X3_tellValue
set_option maxRecDepth 20000 in
theorem ggX11_second_X11_answer : GoodIn wsX11_second wsX11_answer := goodIn_r _ [53, 54, 55, 56, 57, 58] (by decide +kernel) (by decide +kernel)
set_option maxRecDepth 20000 in
theorem gX11_second_X11_answer : GoodIn wsX11_second (wsV RX11 28 RX11 yX11_answer wsX11_answer) := goodIn_app (goodIn_of _ (by decide +kernel)) ggX11_second_X11_answer
theorem dX11_second_0 : decode cX11_second 0 = .ok (.aload_n 0, 1) := by decide +kernel
theorem dX11_second_1 : decode cX11_second 1 = .ok (.aload_n 0, 1) := by decide +kernel
theorem dX11_second_2 : decode cX11_second 2 = .ok (.getfield 15, 3) := by decide +kernel
theorem dX11_second_5 : decode cX11_second 5 = .ok (.iload_n 1, 1) := by decide +kernel
theorem dX11_second_6 : decode cX11_second 6 = .ok (.iload_n 2, 1) := by decide +kernel
theorem dX11_second_7 : decode cX11_second 7 = .ok (.invokevirtual 50, 3) := by decide +kernel
theorem dX11_second_10 : decode cX11_second 10 = .ok (.invokevirtual 28, 3) := by decide +kernel
theorem dX11_second_13 : decode cX11_second 13 = .ok (.ireturn, 1) := by decide +kernel
set_option maxRecDepth 20000 in
theorem ggX11_item_X3_bringItem : GoodIn wsX11_item wsX3_bringItem := goodIn_r _ [6, 7, 8, 9, 10, 11, 5, 12, 13, 14, 15, 16, 17, 18, 19, 20, 21, 22, 23, 24, 25, 26, 27, 28, 29, 30, 31, 32, 33, 34, 35, 36, 37, 38, 39, 40, 41, 42, 43, 44, 45, 46, 47, 48, 49, 50, 51, 52, 53, 54, 55, 56, 57, 58, 59, 60, 61, 62, 63, 64, 65, 66, 67, 68, 69, 70, 71, 72, 73, 74, 75, 76, 77, 78, 79, 80, 81, 82, 83, 84, 85, 86, 87, 88, 89, 100, 101, 102, 103, 104, 105, 106, 107, 108, 109, 110, 111] (by decide +kernel) (by decide +kernel)
set_option maxRecDepth 20000 in
theorem gX11_item_X3_bringItem : GoodIn wsX11_item (wsV RX11 53 RX3 yX3_bringItem wsX3_bringItem) := goodIn_app (goodIn_of _ (by decide +kernel)) ggX11_item_X3_bringItem
set_option maxRecDepth 20000 in
theorem ggX11_item_X11_answer : GoodIn wsX11_item wsX11_answer := goodIn_r _ [94, 95, 96, 97, 98, 99] (by decide +kernel) (by decide +kernel)
set_option maxRecDepth 20000 in
theorem gX11_item_X11_answer : GoodIn wsX11_item (wsV RX11 28 RX11 yX11_answer wsX11_answer) := goodIn_app (goodIn_of _ (by decide +kernel)) ggX11_item_X11_answer
theorem dX11_item_0 : decode cX11_item 0 = .ok (.aload_n 0, 1) := by decide +kernel
theorem dX11_item_1 : decode cX11_item 1 = .ok (.aload_n 0, 1) := by decide +kernel
theorem dX11_item_2 : decode cX11_item 2 = .ok (.getfield 15, 3) := by decide +kernel
theorem dX11_item_5 : decode cX11_item 5 = .ok (.iload_n 1, 1) := by decide +kernel
theorem dX11_item_6 : decode cX11_item 6 = .ok (.iload_n 2, 1) := by decide +kernel
theorem dX11_item_7 : decode cX11_item 7 = .ok (.invokevirtual 53, 3) := by decide +kernel
theorem dX11_item_10 : decode cX11_item 10 = .ok (.invokevirtual 28, 3) := by decide +kernel
theorem dX11_item_13 : decode cX11_item 13 = .ok (.ireturn, 1) := by decide +kernel
set_option maxRecDepth 20000 in
theorem ggX11_box_X3_moveBox : GoodIn wsX11_box wsX3_moveBox := goodIn_r _ [6, 7, 8, 9, 10, 5, 11, 22, 23, 24, 25, 26, 27, 28, 29, 30] (by decide +kernel) (by decide +kernel)
set_option maxRecDepth 20000 in
theorem gX11_box_X3_moveBox : GoodIn wsX11_box (wsV RX11 56 RX3 yX3_moveBox wsX3_moveBox) := goodIn_app (goodIn_of _ (by decide +kernel)) ggX11_box_X3_moveBox
set_option maxRecDepth 20000 in
theorem ggX11_box_X11_answer : GoodIn wsX11_box wsX11_answer := goodIn_r _ [16, 17, 18, 19, 20, 21] (by decide +kernel) (by decide +kernel)
set_option maxRecDepth 20000 in
theorem gX11_box_X11_answer : GoodIn wsX11_box (wsV RX11 28 RX11 yX11_answer wsX11_answer) := goodIn_app (goodIn_of _ (by decide +kernel)) ggX11_box_X11_answer
theorem dX11_box_0 : decode cX11_box 0 = .ok (.aload_n 0, 1) := by decide +kernel
theorem dX11_box_1 : decode cX11_box 1 = .ok (.aload_n 0, 1) := by decide +kernel
theorem dX11_box_2 : decode cX11_box 2 = .ok (.getfield 15, 3) := by decide +kernel
theorem dX11_box_5 : decode cX11_box 5 = .ok (.iload_n 1, 1) := by decide +kernel
theorem dX11_box_6 : decode cX11_box 6 = .ok (.invokevirtual 56, 3) := by decide +kernel
theorem dX11_box_9 : decode cX11_box 9 = .ok (.invokevirtual 28, 3) := by decide +kernel
theorem dX11_box_12 : decode cX11_box 12 = .ok (.ireturn, 1) := by decide +kernel
set_option maxRecDepth 20000 in
theorem ggX11_away_X3_takeAway : GoodIn wsX11_away wsX3_takeAway := goodIn_r _ [6, 7, 8, 9, 10, 5, 11, 12, 13, 14, 15, 16, 17, 18, 19, 20, 21, 22, 23, 24, 25, 26, 27, 28, 29, 30, 31, 32, 33, 34, 35, 36, 37, 38, 39, 50, 51, 52, 53, 54, 55, 56, 57, 58, 59] (by decide +kernel) (by decide +kernel)
set_option maxRecDepth 20000 in
theorem gX11_away_X3_takeAway : GoodIn wsX11_away (wsV RX11 59 RX3 yX3_takeAway wsX3_takeAway) := goodIn_app (goodIn_of _ (by decide +kernel)) ggX11_away_X3_takeAway
set_option maxRecDepth 20000 in
theorem ggX11_away_X11_answer : GoodIn wsX11_away wsX11_answer := goodIn_r _ [44, 45, 46, 47, 48, 49] (by decide +kernel) (by decide +kernel)
set_option maxRecDepth 20000 in
theorem gX11_away_X11_answer : GoodIn wsX11_away (wsV RX11 28 RX11 yX11_answer wsX11_answer) := goodIn_app (goodIn_of _ (by decide +kernel)) ggX11_away_X11_answer
theorem dX11_away_0 : decode cX11_away 0 = .ok (.aload_n 0, 1) := by decide +kernel
theorem dX11_away_1 : decode cX11_away 1 = .ok (.aload_n 0, 1) := by decide +kernel
theorem dX11_away_2 : decode cX11_away 2 = .ok (.getfield 15, 3) := by decide +kernel
theorem dX11_away_5 : decode cX11_away 5 = .ok (.iload_n 1, 1) := by decide +kernel
theorem dX11_away_6 : decode cX11_away 6 = .ok (.invokevirtual 59, 3) := by decide +kernel
theorem dX11_away_9 : decode cX11_away 9 = .ok (.invokevirtual 28, 3) := by decide +kernel
theorem dX11_away_12 : decode cX11_away 12 = .ok (.ireturn, 1) := by decide +kernel
set_option maxRecDepth 20000 in
theorem ggX11_lend_X3_lendOn : GoodIn wsX11_lend wsX3_lendOn := goodIn_r _ [6, 7, 8, 9, 10, 11, 12, 13, 14, 5, 15, 16, 17, 18, 19, 20, 21, 22, 23, 24, 25, 26, 27, 28, 29, 30, 31, 32, 33, 34, 35, 36, 37, 38, 39, 40, 41, 42, 43, 44, 45, 46, 47, 48, 49, 50, 51, 52, 53, 54, 55, 56, 57, 58, 59, 60, 61, 62, 63, 64, 65, 66, 67, 68, 69, 70, 71, 72, 73, 74, 75, 76, 77, 78, 79, 80, 81, 82, 83, 84, 85, 86, 87, 88, 89, 90, 91, 92, 93, 94, 95, 96, 97, 98, 99, 100, 101, 102, 103, 104, 105, 106, 107, 108, 109, 110, 111, 112, 113, 114, 115, 116, 117, 118, 119, 120, 121, 122, 123, 124, 125, 126, 127, 128, 129, 130, 131, 132, 133, 134, 135, 136, 137, 138, 139, 140, 141, 142, 143, 144, 145, 146, 147, 148, 149, 150, 151, 152, 153, 154, 155, 156, 157, 158, 159, 160, 161, 162, 163, 164, 165, 166, 167, 168, 169, 170, 171, 172, 173, 174, 175, 176, 177, 178, 179, 180, 181, 182, 183, 193, 194, 195, 196, 197, 198, 199, 200, 201, 202, 203, 204, 205, 206, 207, 208, 209, 210, 211, 212, 213, 214, 215, 216, 217, 218, 219, 220, 221, 222, 223, 224, 225, 226, 227, 228, 229, 230, 231, 232, 233, 234, 235, 236, 237, 238, 239, 240, 241, 242] (by decide +kernel) (by decide +kernel)
set_option maxRecDepth 20000 in
theorem gX11_lend_X3_lendOn : GoodIn wsX11_lend (wsV RX11 62 RX3 yX3_lendOn wsX3_lendOn) := goodIn_app (goodIn_of _ (by decide +kernel)) ggX11_lend_X3_lendOn
set_option maxRecDepth 20000 in
theorem ggX11_lend_X11_answer : GoodIn wsX11_lend wsX11_answer := goodIn_r _ [187, 188, 189, 190, 191, 192] (by decide +kernel) (by decide +kernel)
set_option maxRecDepth 20000 in
theorem gX11_lend_X11_answer : GoodIn wsX11_lend (wsV RX11 28 RX11 yX11_answer wsX11_answer) := goodIn_app (goodIn_of _ (by decide +kernel)) ggX11_lend_X11_answer
theorem dX11_lend_0 : decode cX11_lend 0 = .ok (.aload_n 0, 1) := by decide +kernel
theorem dX11_lend_1 : decode cX11_lend 1 = .ok (.aload_n 0, 1) := by decide +kernel
theorem dX11_lend_2 : decode cX11_lend 2 = .ok (.getfield 15, 3) := by decide +kernel
theorem dX11_lend_5 : decode cX11_lend 5 = .ok (.iload_n 1, 1) := by decide +kernel
theorem dX11_lend_6 : decode cX11_lend 6 = .ok (.iload_n 2, 1) := by decide +kernel
theorem dX11_lend_7 : decode cX11_lend 7 = .ok (.iload_n 3, 1) := by decide +kernel
theorem dX11_lend_8 : decode cX11_lend 8 = .ok (.invokevirtual 62, 3) := by decide +kernel
theorem dX11_lend_11 : decode cX11_lend 11 = .ok (.invokevirtual 28, 3) := by decide +kernel
theorem dX11_lend_14 : decode cX11_lend 14 = .ok (.ireturn, 1) := by decide +kernel
set_option maxRecDepth 20000 in
theorem ggX11_tear_X3_findTicket : GoodIn wsX11_tear wsX3_findTicket := goodIn_r _ [6, 7, 8, 37, 38, 39, 40, 41, 42, 43, 44, 45] (by decide +kernel) (by decide +kernel)
set_option maxRecDepth 20000 in
theorem gX11_tear_X3_findTicket : GoodIn wsX11_tear (wsV RX11 65 RX3 yX3_findTicket wsX3_findTicket) := goodIn_app (goodIn_of _ (by decide +kernel)) ggX11_tear_X3_findTicket
set_option maxRecDepth 20000 in
theorem ggX11_tear_X3_tearHalf : GoodIn wsX11_tear wsX3_tearHalf := goodIn_r _ [12, 13, 14, 15, 16, 17, 18, 19, 20, 21, 22, 23, 24, 25, 26, 46, 47, 48, 49, 50, 51, 52, 53, 54, 55, 56, 57, 58, 59, 60, 61, 62, 63, 64] (by decide +kernel) (by decide +kernel)
set_option maxRecDepth 20000 in
theorem gX11_tear_X3_tearHalf : GoodIn wsX11_tear (wsV RX11 69 RX3 yX3_tearHalf wsX3_tearHalf) := goodIn_app (goodIn_of _ (by decide +kernel)) ggX11_tear_X3_tearHalf
set_option maxRecDepth 20000 in
theorem ggX11_tear_X11_answer : GoodIn wsX11_tear wsX11_answer := goodIn_r _ [31, 32, 33, 34, 35, 36] (by decide +kernel) (by decide +kernel)
set_option maxRecDepth 20000 in
theorem gX11_tear_X11_answer : GoodIn wsX11_tear (wsV RX11 28 RX11 yX11_answer wsX11_answer) := goodIn_app (goodIn_of _ (by decide +kernel)) ggX11_tear_X11_answer
theorem dX11_tear_0 : decode cX11_tear 0 = .ok (.aload_n 0, 1) := by decide +kernel
theorem dX11_tear_1 : decode cX11_tear 1 = .ok (.aload_n 0, 1) := by decide +kernel
theorem dX11_tear_2 : decode cX11_tear 2 = .ok (.getfield 15, 3) := by decide +kernel
theorem dX11_tear_5 : decode cX11_tear 5 = .ok (.aload_n 0, 1) := by decide +kernel
theorem dX11_tear_6 : decode cX11_tear 6 = .ok (.getfield 15, 3) := by decide +kernel
theorem dX11_tear_9 : decode cX11_tear 9 = .ok (.iload_n 1, 1) := by decide +kernel
theorem dX11_tear_10 : decode cX11_tear 10 = .ok (.invokevirtual 65, 3) := by decide +kernel
theorem dX11_tear_13 : decode cX11_tear 13 = .ok (.iload_n 2, 1) := by decide +kernel
theorem dX11_tear_14 : decode cX11_tear 14 = .ok (.invokevirtual 69, 3) := by decide +kernel
theorem dX11_tear_17 : decode cX11_tear 17 = .ok (.invokevirtual 28, 3) := by decide +kernel
theorem dX11_tear_20 : decode cX11_tear 20 = .ok (.ireturn, 1) := by decide +kernel
set_option maxRecDepth 20000 in
theorem ggX11_oath_X3_findTicket : GoodIn wsX11_oath wsX3_findTicket := goodIn_r _ [6, 7, 8, 31, 32, 33, 34, 35, 36, 37, 38, 39] (by decide +kernel) (by decide +kernel)
set_option maxRecDepth 20000 in
theorem gX11_oath_X3_findTicket : GoodIn wsX11_oath (wsV RX11 65 RX3 yX3_findTicket wsX3_findTicket) := goodIn_app (goodIn_of _ (by decide +kernel)) ggX11_oath_X3_findTicket
set_option maxRecDepth 20000 in
theorem ggX11_oath_X3_hearOath : GoodIn wsX11_oath wsX3_hearOath := goodIn_r _ [12, 13, 14, 15, 16, 17, 18, 19, 20, 31, 32, 33, 34, 35, 36, 37, 38, 39, 40, 41, 42, 43, 44, 45, 46, 47, 48, 49, 50, 51, 52, 53, 54, 55, 56, 57, 58] (by decide +kernel) (by decide +kernel)
set_option maxRecDepth 20000 in
theorem gX11_oath_X3_hearOath : GoodIn wsX11_oath (wsV RX11 73 RX3 yX3_hearOath wsX3_hearOath) := goodIn_app (goodIn_of _ (by decide +kernel)) ggX11_oath_X3_hearOath
set_option maxRecDepth 20000 in
theorem ggX11_oath_X11_answer : GoodIn wsX11_oath wsX11_answer := goodIn_r _ [25, 26, 27, 28, 29, 30] (by decide +kernel) (by decide +kernel)
set_option maxRecDepth 20000 in
theorem gX11_oath_X11_answer : GoodIn wsX11_oath (wsV RX11 28 RX11 yX11_answer wsX11_answer) := goodIn_app (goodIn_of _ (by decide +kernel)) ggX11_oath_X11_answer
theorem dX11_oath_0 : decode cX11_oath 0 = .ok (.aload_n 0, 1) := by decide +kernel
theorem dX11_oath_1 : decode cX11_oath 1 = .ok (.aload_n 0, 1) := by decide +kernel
theorem dX11_oath_2 : decode cX11_oath 2 = .ok (.getfield 15, 3) := by decide +kernel
theorem dX11_oath_5 : decode cX11_oath 5 = .ok (.aload_n 0, 1) := by decide +kernel
theorem dX11_oath_6 : decode cX11_oath 6 = .ok (.getfield 15, 3) := by decide +kernel
theorem dX11_oath_9 : decode cX11_oath 9 = .ok (.iload_n 1, 1) := by decide +kernel
theorem dX11_oath_10 : decode cX11_oath 10 = .ok (.invokevirtual 65, 3) := by decide +kernel
theorem dX11_oath_13 : decode cX11_oath 13 = .ok (.invokevirtual 73, 3) := by decide +kernel
theorem dX11_oath_16 : decode cX11_oath 16 = .ok (.invokevirtual 28, 3) := by decide +kernel
theorem dX11_oath_19 : decode cX11_oath 19 = .ok (.ireturn, 1) := by decide +kernel
set_option maxRecDepth 20000 in
theorem ggX11_pay_X3_findTicket : GoodIn wsX11_pay wsX3_findTicket := goodIn_r _ [6, 7, 8, 104, 105, 106, 107, 108, 109, 110, 111, 112] (by decide +kernel) (by decide +kernel)
set_option maxRecDepth 20000 in
theorem gX11_pay_X3_findTicket : GoodIn wsX11_pay (wsV RX11 65 RX3 yX3_findTicket wsX3_findTicket) := goodIn_app (goodIn_of _ (by decide +kernel)) ggX11_pay_X3_findTicket
set_option maxRecDepth 20000 in
theorem ggX11_pay_X3_payPart : GoodIn wsX11_pay wsX3_payPart := goodIn_r _ [12, 13, 14, 15, 16, 17, 18, 19, 20, 21, 22, 23, 24, 25, 26, 27, 28, 29, 30, 31, 32, 33, 34, 35, 36, 37, 38, 39, 40, 41, 42, 43, 44, 45, 46, 47, 48, 49, 50, 51, 52, 53, 54, 5, 55, 56, 57, 58, 59, 60, 61, 62, 63, 64, 65, 66, 67, 68, 69, 70, 71, 72, 73, 74, 75, 76, 77, 78, 79, 80, 81, 82, 83, 84, 85, 86, 87, 88, 89, 90, 91, 92, 93, 94, 104, 105, 106, 107, 108, 109, 110, 111, 112, 113, 114, 115, 116, 117, 118, 119, 120, 121, 122, 123, 124, 125, 126, 127, 128, 129, 130, 131, 132, 133, 134, 135, 136, 137, 138] (by decide +kernel) (by decide +kernel)
set_option maxRecDepth 20000 in
theorem gX11_pay_X3_payPart : GoodIn wsX11_pay (wsV RX11 77 RX3 yX3_payPart wsX3_payPart) := goodIn_app (goodIn_of _ (by decide +kernel)) ggX11_pay_X3_payPart
set_option maxRecDepth 20000 in
theorem ggX11_pay_X11_answer : GoodIn wsX11_pay wsX11_answer := goodIn_r _ [98, 99, 100, 101, 102, 103] (by decide +kernel) (by decide +kernel)
set_option maxRecDepth 20000 in
theorem gX11_pay_X11_answer : GoodIn wsX11_pay (wsV RX11 28 RX11 yX11_answer wsX11_answer) := goodIn_app (goodIn_of _ (by decide +kernel)) ggX11_pay_X11_answer
theorem dX11_pay_0 : decode cX11_pay 0 = .ok (.aload_n 0, 1) := by decide +kernel
theorem dX11_pay_1 : decode cX11_pay 1 = .ok (.aload_n 0, 1) := by decide +kernel
theorem dX11_pay_2 : decode cX11_pay 2 = .ok (.getfield 15, 3) := by decide +kernel
theorem dX11_pay_5 : decode cX11_pay 5 = .ok (.aload_n 0, 1) := by decide +kernel
theorem dX11_pay_6 : decode cX11_pay 6 = .ok (.getfield 15, 3) := by decide +kernel
theorem dX11_pay_9 : decode cX11_pay 9 = .ok (.iload_n 1, 1) := by decide +kernel
theorem dX11_pay_10 : decode cX11_pay 10 = .ok (.invokevirtual 65, 3) := by decide +kernel
theorem dX11_pay_13 : decode cX11_pay 13 = .ok (.iload_n 2, 1) := by decide +kernel
theorem dX11_pay_14 : decode cX11_pay 14 = .ok (.iload_n 3, 1) := by decide +kernel
theorem dX11_pay_15 : decode cX11_pay 15 = .ok (.invokevirtual 77, 3) := by decide +kernel
theorem dX11_pay_18 : decode cX11_pay 18 = .ok (.invokevirtual 28, 3) := by decide +kernel
theorem dX11_pay_21 : decode cX11_pay 21 = .ok (.ireturn, 1) := by decide +kernel
set_option maxRecDepth 20000 in
theorem ggX11_renew_X3_findTicket : GoodIn wsX11_renew wsX3_findTicket := goodIn_r _ [6, 7, 8, 131, 132, 133, 134, 135, 136, 137, 138, 139] (by decide +kernel) (by decide +kernel)
set_option maxRecDepth 20000 in
theorem gX11_renew_X3_findTicket : GoodIn wsX11_renew (wsV RX11 65 RX3 yX3_findTicket wsX3_findTicket) := goodIn_app (goodIn_of _ (by decide +kernel)) ggX11_renew_X3_findTicket
set_option maxRecDepth 20000 in
theorem ggX11_renew_X3_renewTerm : GoodIn wsX11_renew wsX3_renewTerm := goodIn_r _ [12, 13, 14, 15, 16, 17, 18, 19, 20, 21, 5, 22, 23, 24, 25, 26, 27, 28, 29, 30, 31, 32, 33, 34, 35, 36, 37, 38, 39, 40, 41, 42, 43, 44, 45, 46, 47, 48, 49, 50, 51, 52, 53, 54, 55, 56, 57, 58, 59, 60, 61, 62, 63, 64, 65, 66, 67, 68, 69, 70, 71, 72, 73, 74, 75, 76, 77, 78, 79, 80, 81, 82, 83, 84, 85, 86, 87, 88, 89, 90, 91, 92, 93, 94, 95, 96, 97, 98, 99, 100, 101, 102, 103, 104, 105, 106, 107, 108, 109, 110, 111, 112, 113, 114, 115, 116, 117, 118, 119, 120, 121, 140, 141, 142, 143, 144, 145, 146, 147, 148, 149, 150, 151, 152, 153, 154, 155, 156, 157, 158, 159, 160, 161, 162, 163, 164, 131, 132, 133, 134, 135, 136, 137, 138, 139, 165] (by decide +kernel) (by decide +kernel)
set_option maxRecDepth 20000 in
theorem gX11_renew_X3_renewTerm : GoodIn wsX11_renew (wsV RX11 81 RX3 yX3_renewTerm wsX3_renewTerm) := goodIn_app (goodIn_of _ (by decide +kernel)) ggX11_renew_X3_renewTerm
set_option maxRecDepth 20000 in
theorem ggX11_renew_X11_answer : GoodIn wsX11_renew wsX11_answer := goodIn_r _ [125, 126, 127, 128, 129, 130] (by decide +kernel) (by decide +kernel)
set_option maxRecDepth 20000 in
theorem gX11_renew_X11_answer : GoodIn wsX11_renew (wsV RX11 28 RX11 yX11_answer wsX11_answer) := goodIn_app (goodIn_of _ (by decide +kernel)) ggX11_renew_X11_answer
theorem dX11_renew_0 : decode cX11_renew 0 = .ok (.aload_n 0, 1) := by decide +kernel
theorem dX11_renew_1 : decode cX11_renew 1 = .ok (.aload_n 0, 1) := by decide +kernel
theorem dX11_renew_2 : decode cX11_renew 2 = .ok (.getfield 15, 3) := by decide +kernel
theorem dX11_renew_5 : decode cX11_renew 5 = .ok (.aload_n 0, 1) := by decide +kernel
theorem dX11_renew_6 : decode cX11_renew 6 = .ok (.getfield 15, 3) := by decide +kernel
theorem dX11_renew_9 : decode cX11_renew 9 = .ok (.iload_n 1, 1) := by decide +kernel
theorem dX11_renew_10 : decode cX11_renew 10 = .ok (.invokevirtual 65, 3) := by decide +kernel
theorem dX11_renew_13 : decode cX11_renew 13 = .ok (.iload_n 2, 1) := by decide +kernel
theorem dX11_renew_14 : decode cX11_renew 14 = .ok (.iload_n 3, 1) := by decide +kernel
theorem dX11_renew_15 : decode cX11_renew 15 = .ok (.invokevirtual 81, 3) := by decide +kernel
theorem dX11_renew_18 : decode cX11_renew 18 = .ok (.invokevirtual 28, 3) := by decide +kernel
theorem dX11_renew_21 : decode cX11_renew 21 = .ok (.ireturn, 1) := by decide +kernel
set_option maxRecDepth 20000 in
theorem ggX11_undo_X3_findTicket : GoodIn wsX11_undo wsX3_findTicket := goodIn_r _ [6, 7, 8, 84, 85, 86, 87, 88, 89, 90, 91, 92] (by decide +kernel) (by decide +kernel)
set_option maxRecDepth 20000 in
theorem gX11_undo_X3_findTicket : GoodIn wsX11_undo (wsV RX11 65 RX3 yX3_findTicket wsX3_findTicket) := goodIn_app (goodIn_of _ (by decide +kernel)) ggX11_undo_X3_findTicket
set_option maxRecDepth 20000 in
theorem ggX11_undo_X3_undoRenewing : GoodIn wsX11_undo wsX3_undoRenewing := goodIn_r _ [12, 13, 14, 15, 16, 17, 18, 19, 20, 21, 22, 23, 24, 25, 26, 5, 27, 28, 29, 30, 31, 32, 33, 34, 35, 36, 37, 38, 39, 40, 41, 42, 43, 44, 45, 46, 47, 48, 49, 50, 51, 52, 53, 54, 55, 56, 57, 58, 59, 60, 61, 62, 63, 64, 65, 66, 67, 68, 69, 70, 71, 72, 73, 74, 93, 94, 95, 96, 97, 98, 99, 100, 101, 102, 103, 104, 105, 106, 107, 108, 109, 110, 111, 84, 85, 86, 87, 88, 89, 90, 91, 92, 112, 113, 114, 115, 116, 117, 118] (by decide +kernel) (by decide +kernel)
set_option maxRecDepth 20000 in
theorem gX11_undo_X3_undoRenewing : GoodIn wsX11_undo (wsV RX11 84 RX3 yX3_undoRenewing wsX3_undoRenewing) := goodIn_app (goodIn_of _ (by decide +kernel)) ggX11_undo_X3_undoRenewing
set_option maxRecDepth 20000 in
theorem ggX11_undo_X11_answer : GoodIn wsX11_undo wsX11_answer := goodIn_r _ [78, 79, 80, 81, 82, 83] (by decide +kernel) (by decide +kernel)
set_option maxRecDepth 20000 in
theorem gX11_undo_X11_answer : GoodIn wsX11_undo (wsV RX11 28 RX11 yX11_answer wsX11_answer) := goodIn_app (goodIn_of _ (by decide +kernel)) ggX11_undo_X11_answer
theorem dX11_undo_0 : decode cX11_undo 0 = .ok (.aload_n 0, 1) := by decide +kernel
theorem dX11_undo_1 : decode cX11_undo 1 = .ok (.aload_n 0, 1) := by decide +kernel
theorem dX11_undo_2 : decode cX11_undo 2 = .ok (.getfield 15, 3) := by decide +kernel
theorem dX11_undo_5 : decode cX11_undo 5 = .ok (.aload_n 0, 1) := by decide +kernel
theorem dX11_undo_6 : decode cX11_undo 6 = .ok (.getfield 15, 3) := by decide +kernel
theorem dX11_undo_9 : decode cX11_undo 9 = .ok (.iload_n 1, 1) := by decide +kernel
theorem dX11_undo_10 : decode cX11_undo 10 = .ok (.invokevirtual 65, 3) := by decide +kernel
theorem dX11_undo_13 : decode cX11_undo 13 = .ok (.invokevirtual 84, 3) := by decide +kernel
theorem dX11_undo_16 : decode cX11_undo 16 = .ok (.invokevirtual 28, 3) := by decide +kernel
theorem dX11_undo_19 : decode cX11_undo 19 = .ok (.ireturn, 1) := by decide +kernel
set_option maxRecDepth 20000 in
theorem ggX11_redeem_X3_findTicket : GoodIn wsX11_redeem wsX3_findTicket := goodIn_r _ [6, 7, 8, 122, 123, 124, 125, 126, 127, 128, 129, 130] (by decide +kernel) (by decide +kernel)
