theorem dX0_init_0 : decode cX0_init 0 = .ok (.aload_n 0, 1) := by decide +kernel
theorem dX0_init_1 : decode cX0_init 1 = .ok (.invokespecial 1, 3) := by decide +kernel
theorem dX0_init_4 : decode cX0_init 4 = .ok (.aload_n 0, 1) := by decide +kernel
theorem dX0_init_5 : decode cX0_init 5 = .ok (.sipush 513, 3) := by decide +kernel
theorem dX0_init_8 : decode cX0_init 8 = .ok (.bipush 21, 2) := by decide +kernel
theorem dX0_init_10 : decode cX0_init 10 = .ok (.multianewarray 9 2, 4) := by decide +kernel
theorem dX0_init_14 : decode cX0_init 14 = .ok (.putfield 11, 3) := by decide +kernel
theorem dX0_init_17 : decode cX0_init 17 = .ok (.return_, 1) := by decide +kernel
theorem dX0_rowBehind_0 : decode cX0_rowBehind 0 = .ok (.iconst 0, 1) := by decide +kernel
theorem dX0_rowBehind_1 : decode cX0_rowBehind 1 = .ok (.iload_n 1, 1) := by decide +kernel
theorem dX0_rowBehind_2 : decode cX0_rowBehind 2 = .ok (.sipush 512, 3) := by decide +kernel
theorem dX0_rowBehind_5 : decode cX0_rowBehind 5 = .ok (.invokestatic 14, 3) := by decide +kernel
theorem dX0_rowBehind_8 : decode cX0_rowBehind 8 = .ok (.invokestatic 20, 3) := by decide +kernel
theorem dX0_rowBehind_11 : decode cX0_rowBehind 11 = .ok (.istore_n 3, 1) := by decide +kernel
theorem dX0_rowBehind_12 : decode cX0_rowBehind 12 = .ok (.aload_n 0, 1) := by decide +kernel
theorem dX0_rowBehind_13 : decode cX0_rowBehind 13 = .ok (.getfield 11, 3) := by decide +kernel
theorem dX0_rowBehind_16 : decode cX0_rowBehind 16 = .ok (.iload_n 3, 1) := by decide +kernel
theorem dX0_rowBehind_17 : decode cX0_rowBehind 17 = .ok (.aaload, 1) := by decide +kernel
theorem dX0_rowBehind_18 : decode cX0_rowBehind 18 = .ok (.astore 4, 2) := by decide +kernel
theorem dX0_rowBehind_20 : decode cX0_rowBehind 20 = .ok (.iconst 0, 1) := by decide +kernel
theorem dX0_rowBehind_21 : decode cX0_rowBehind 21 = .ok (.istore 5, 2) := by decide +kernel
theorem dX0_rowBehind_23 : decode cX0_rowBehind 23 = .ok (.iload 5, 2) := by decide +kernel
theorem dX0_rowBehind_25 : decode cX0_rowBehind 25 = .ok (.bipush 21, 2) := by decide +kernel
theorem dX0_rowBehind_27 : decode cX0_rowBehind 27 = .ok (.if_icmp .ge 40, 3) := by decide +kernel
theorem dX0_rowBehind_30 : decode cX0_rowBehind 30 = .ok (.aload 4, 2) := by decide +kernel
theorem dX0_rowBehind_32 : decode cX0_rowBehind 32 = .ok (.iload 5, 2) := by decide +kernel
theorem dX0_rowBehind_34 : decode cX0_rowBehind 34 = .ok (.iload_n 3, 1) := by decide +kernel
theorem dX0_rowBehind_35 : decode cX0_rowBehind 35 = .ok (.ifCond .le 24, 3) := by decide +kernel
theorem dX0_rowBehind_38 : decode cX0_rowBehind 38 = .ok (.iload 5, 2) := by decide +kernel
theorem dX0_rowBehind_40 : decode cX0_rowBehind 40 = .ok (.bipush 14, 2) := by decide +kernel
theorem dX0_rowBehind_42 : decode cX0_rowBehind 42 = .ok (.if_icmp .ge 17, 3) := by decide +kernel
theorem dX0_rowBehind_45 : decode cX0_rowBehind 45 = .ok (.aload_n 0, 1) := by decide +kernel
theorem dX0_rowBehind_46 : decode cX0_rowBehind 46 = .ok (.getfield 11, 3) := by decide +kernel
theorem dX0_rowBehind_49 : decode cX0_rowBehind 49 = .ok (.iload_n 3, 1) := by decide +kernel
theorem dX0_rowBehind_50 : decode cX0_rowBehind 50 = .ok (.iconst 1, 1) := by decide +kernel
theorem dX0_rowBehind_51 : decode cX0_rowBehind 51 = .ok (.isub, 1) := by decide +kernel
theorem dX0_rowBehind_52 : decode cX0_rowBehind 52 = .ok (.aaload, 1) := by decide +kernel
theorem dX0_rowBehind_53 : decode cX0_rowBehind 53 = .ok (.iload 5, 2) := by decide +kernel
theorem dX0_rowBehind_55 : decode cX0_rowBehind 55 = .ok (.laload, 1) := by decide +kernel
theorem dX0_rowBehind_56 : decode cX0_rowBehind 56 = .ok (.goto 4, 3) := by decide +kernel
theorem dX0_rowBehind_59 : decode cX0_rowBehind 59 = .ok (.lconst 0, 1) := by decide +kernel
theorem dX0_rowBehind_60 : decode cX0_rowBehind 60 = .ok (.lastore, 1) := by decide +kernel
theorem dX0_rowBehind_61 : decode cX0_rowBehind 61 = .ok (.iinc 5 1, 3) := by decide +kernel
theorem dX0_rowBehind_64 : decode cX0_rowBehind 64 = .ok (.goto (-41), 3) := by decide +kernel
theorem dX0_rowBehind_67 : decode cX0_rowBehind 67 = .ok (.aload 4, 2) := by decide +kernel
theorem dX0_rowBehind_69 : decode cX0_rowBehind 69 = .ok (.bipush 20, 2) := by decide +kernel
theorem dX0_rowBehind_71 : decode cX0_rowBehind 71 = .ok (.iload_n 2, 1) := by decide +kernel
theorem dX0_rowBehind_72 : decode cX0_rowBehind 72 = .ok (.i2l, 1) := by decide +kernel
theorem dX0_rowBehind_73 : decode cX0_rowBehind 73 = .ok (.lastore, 1) := by decide +kernel
theorem dX0_rowBehind_74 : decode cX0_rowBehind 74 = .ok (.aload 4, 2) := by decide +kernel
theorem dX0_rowBehind_76 : decode cX0_rowBehind 76 = .ok (.areturn, 1) := by decide +kernel
theorem dX0_countBehind_0 : decode cX0_countBehind 0 = .ok (.iload_n 1, 1) := by decide +kernel
theorem dX0_countBehind_1 : decode cX0_countBehind 1 = .ok (.iconst 1, 1) := by decide +kernel
theorem dX0_countBehind_2 : decode cX0_countBehind 2 = .ok (.iadd, 1) := by decide +kernel
theorem dX0_countBehind_3 : decode cX0_countBehind 3 = .ok (.sipush 513, 3) := by decide +kernel
theorem dX0_countBehind_6 : decode cX0_countBehind 6 = .ok (.invokestatic 14, 3) := by decide +kernel
theorem dX0_countBehind_9 : decode cX0_countBehind 9 = .ok (.ireturn, 1) := by decide +kernel
theorem dX0_rowsUpTo_0 : decode cX0_rowsUpTo 0 = .ok (.iload_n 2, 1) := by decide +kernel
theorem dX0_rowsUpTo_1 : decode cX0_rowsUpTo 1 = .ok (.sipush 513, 3) := by decide +kernel
theorem dX0_rowsUpTo_4 : decode cX0_rowsUpTo 4 = .ok (.invokestatic 14, 3) := by decide +kernel
theorem dX0_rowsUpTo_7 : decode cX0_rowsUpTo 7 = .ok (.istore_n 3, 1) := by decide +kernel
theorem dX0_rowsUpTo_8 : decode cX0_rowsUpTo 8 = .ok (.iload_n 3, 1) := by decide +kernel
theorem dX0_rowsUpTo_9 : decode cX0_rowsUpTo 9 = .ok (.ifCond .le 26, 3) := by decide +kernel
theorem dX0_rowsUpTo_12 : decode cX0_rowsUpTo 12 = .ok (.aload_n 0, 1) := by decide +kernel
theorem dX0_rowsUpTo_13 : decode cX0_rowsUpTo 13 = .ok (.getfield 11, 3) := by decide +kernel
theorem dX0_rowsUpTo_16 : decode cX0_rowsUpTo 16 = .ok (.iload_n 3, 1) := by decide +kernel
theorem dX0_rowsUpTo_17 : decode cX0_rowsUpTo 17 = .ok (.iconst 1, 1) := by decide +kernel
theorem dX0_rowsUpTo_18 : decode cX0_rowsUpTo 18 = .ok (.isub, 1) := by decide +kernel
theorem dX0_rowsUpTo_19 : decode cX0_rowsUpTo 19 = .ok (.aaload, 1) := by decide +kernel
theorem dX0_rowsUpTo_20 : decode cX0_rowsUpTo 20 = .ok (.bipush 20, 2) := by decide +kernel
theorem dX0_rowsUpTo_22 : decode cX0_rowsUpTo 22 = .ok (.laload, 1) := by decide +kernel
theorem dX0_rowsUpTo_23 : decode cX0_rowsUpTo 23 = .ok (.iload_n 1, 1) := by decide +kernel
theorem dX0_rowsUpTo_24 : decode cX0_rowsUpTo 24 = .ok (.i2l, 1) := by decide +kernel
theorem dX0_rowsUpTo_25 : decode cX0_rowsUpTo 25 = .ok (.lcmp, 1) := by decide +kernel
theorem dX0_rowsUpTo_26 : decode cX0_rowsUpTo 26 = .ok (.ifCond .le 9, 3) := by decide +kernel
theorem dX0_rowsUpTo_29 : decode cX0_rowsUpTo 29 = .ok (.iinc 3 (-1), 3) := by decide +kernel
theorem dX0_rowsUpTo_32 : decode cX0_rowsUpTo 32 = .ok (.goto (-24), 3) := by decide +kernel
theorem dX0_rowsUpTo_35 : decode cX0_rowsUpTo 35 = .ok (.iload_n 3, 1) := by decide +kernel
theorem dX0_rowsUpTo_36 : decode cX0_rowsUpTo 36 = .ok (.ireturn, 1) := by decide +kernel
theorem dX0_total_0 : decode cX0_total 0 = .ok (.iload_n 2, 1) := by decide +kernel
theorem dX0_total_1 : decode cX0_total 1 = .ok (.iconst 1, 1) := by decide +kernel
theorem dX0_total_2 : decode cX0_total 2 = .ok (.if_icmp .lt 20, 3) := by decide +kernel
theorem dX0_total_5 : decode cX0_total 5 = .ok (.iload_n 2, 1) := by decide +kernel
theorem dX0_total_6 : decode cX0_total 6 = .ok (.sipush 513, 3) := by decide +kernel
theorem dX0_total_9 : decode cX0_total 9 = .ok (.if_icmp .gt 13, 3) := by decide +kernel
theorem dX0_total_12 : decode cX0_total 12 = .ok (.iload_n 1, 1) := by decide +kernel
theorem dX0_total_13 : decode cX0_total 13 = .ok (.ifCond .lt 9, 3) := by decide +kernel
theorem dX0_total_16 : decode cX0_total 16 = .ok (.iload_n 1, 1) := by decide +kernel
theorem dX0_total_17 : decode cX0_total 17 = .ok (.bipush 14, 2) := by decide +kernel
theorem dX0_total_19 : decode cX0_total 19 = .ok (.if_icmp .lt 5, 3) := by decide +kernel
theorem dX0_total_22 : decode cX0_total 22 = .ok (.lconst 0, 1) := by decide +kernel
theorem dX0_total_23 : decode cX0_total 23 = .ok (.lreturn, 1) := by decide +kernel
theorem dX0_total_24 : decode cX0_total 24 = .ok (.aload_n 0, 1) := by decide +kernel
theorem dX0_total_25 : decode cX0_total 25 = .ok (.getfield 11, 3) := by decide +kernel
theorem dX0_total_28 : decode cX0_total 28 = .ok (.iload_n 2, 1) := by decide +kernel
theorem dX0_total_29 : decode cX0_total 29 = .ok (.iconst 1, 1) := by decide +kernel
theorem dX0_total_30 : decode cX0_total 30 = .ok (.isub, 1) := by decide +kernel
theorem dX0_total_31 : decode cX0_total 31 = .ok (.aaload, 1) := by decide +kernel
theorem dX0_total_32 : decode cX0_total 32 = .ok (.iload_n 1, 1) := by decide +kernel
theorem dX0_total_33 : decode cX0_total 33 = .ok (.laload, 1) := by decide +kernel
theorem dX0_total_34 : decode cX0_total 34 = .ok (.lreturn, 1) := by decide +kernel
set_option maxRecDepth 20000 in
theorem ggX0_writeGrowing_X7_growth : GoodIn wsX0_writeGrowing wsX7_growth := goodIn_r _ [10, 11, 12, 13, 14, 15, 16, 36, 37, 38, 39, 40, 41] (by decide +kernel) (by decide +kernel)
set_option maxRecDepth 20000 in
theorem gX0_writeGrowing_X7_growth : GoodIn wsX0_writeGrowing (wsV RX0 33 RX7 yX7_growth wsX7_growth) := goodIn_app (goodIn_of _ (by decide +kernel)) ggX0_writeGrowing_X7_growth
theorem dX0_writeGrowing_0 : decode cX0_writeGrowing 0 = .ok (.aload_n 2, 1) := by decide +kernel
theorem dX0_writeGrowing_1 : decode cX0_writeGrowing 1 = .ok (.getfield 23, 3) := by decide +kernel
theorem dX0_writeGrowing_4 : decode cX0_writeGrowing 4 = .ok (.aload_n 2, 1) := by decide +kernel
theorem dX0_writeGrowing_5 : decode cX0_writeGrowing 5 = .ok (.getfield 29, 3) := by decide +kernel
theorem dX0_writeGrowing_8 : decode cX0_writeGrowing 8 = .ok (.invokevirtual 33, 3) := by decide +kernel
theorem dX0_writeGrowing_11 : decode cX0_writeGrowing 11 = .ok (.i2l, 1) := by decide +kernel
theorem dX0_writeGrowing_12 : decode cX0_writeGrowing 12 = .ok (.lstore_n 3, 1) := by decide +kernel
theorem dX0_writeGrowing_13 : decode cX0_writeGrowing 13 = .ok (.aload_n 0, 1) := by decide +kernel
theorem dX0_writeGrowing_14 : decode cX0_writeGrowing 14 = .ok (.iload_n 1, 1) := by decide +kernel
theorem dX0_writeGrowing_15 : decode cX0_writeGrowing 15 = .ok (.iconst 0, 1) := by decide +kernel
theorem dX0_writeGrowing_16 : decode cX0_writeGrowing 16 = .ok (.iadd, 1) := by decide +kernel
theorem dX0_writeGrowing_17 : decode cX0_writeGrowing 17 = .ok (.aload_n 2, 1) := by decide +kernel
theorem dX0_writeGrowing_18 : decode cX0_writeGrowing 18 = .ok (.getfield 23, 3) := by decide +kernel
theorem dX0_writeGrowing_21 : decode cX0_writeGrowing 21 = .ok (.getfield 39, 3) := by decide +kernel
theorem dX0_writeGrowing_24 : decode cX0_writeGrowing 24 = .ok (.i2l, 1) := by decide +kernel
theorem dX0_writeGrowing_25 : decode cX0_writeGrowing 25 = .ok (.lastore, 1) := by decide +kernel
theorem dX0_writeGrowing_26 : decode cX0_writeGrowing 26 = .ok (.aload_n 0, 1) := by decide +kernel
theorem dX0_writeGrowing_27 : decode cX0_writeGrowing 27 = .ok (.iload_n 1, 1) := by decide +kernel
theorem dX0_writeGrowing_28 : decode cX0_writeGrowing 28 = .ok (.iconst 1, 1) := by decide +kernel
theorem dX0_writeGrowing_29 : decode cX0_writeGrowing 29 = .ok (.iadd, 1) := by decide +kernel
theorem dX0_writeGrowing_30 : decode cX0_writeGrowing 30 = .ok (.lload_n 3, 1) := by decide +kernel
theorem dX0_writeGrowing_31 : decode cX0_writeGrowing 31 = .ok (.lastore, 1) := by decide +kernel
theorem dX0_writeGrowing_32 : decode cX0_writeGrowing 32 = .ok (.aload_n 0, 1) := by decide +kernel
theorem dX0_writeGrowing_33 : decode cX0_writeGrowing 33 = .ok (.iload_n 1, 1) := by decide +kernel
theorem dX0_writeGrowing_34 : decode cX0_writeGrowing 34 = .ok (.iconst 2, 1) := by decide +kernel
theorem dX0_writeGrowing_35 : decode cX0_writeGrowing 35 = .ok (.iadd, 1) := by decide +kernel
theorem dX0_writeGrowing_36 : decode cX0_writeGrowing 36 = .ok (.aload_n 2, 1) := by decide +kernel
theorem dX0_writeGrowing_37 : decode cX0_writeGrowing 37 = .ok (.getfield 23, 3) := by decide +kernel
theorem dX0_writeGrowing_40 : decode cX0_writeGrowing 40 = .ok (.getfield 42, 3) := by decide +kernel
theorem dX0_writeGrowing_43 : decode cX0_writeGrowing 43 = .ok (.i2l, 1) := by decide +kernel
theorem dX0_writeGrowing_44 : decode cX0_writeGrowing 44 = .ok (.lload_n 3, 1) := by decide +kernel
theorem dX0_writeGrowing_45 : decode cX0_writeGrowing 45 = .ok (.aload_n 2, 1) := by decide +kernel
theorem dX0_writeGrowing_46 : decode cX0_writeGrowing 46 = .ok (.getfield 23, 3) := by decide +kernel
theorem dX0_writeGrowing_49 : decode cX0_writeGrowing 49 = .ok (.getfield 45, 3) := by decide +kernel
theorem dX0_writeGrowing_52 : decode cX0_writeGrowing 52 = .ok (.i2l, 1) := by decide +kernel
theorem dX0_writeGrowing_53 : decode cX0_writeGrowing 53 = .ok (.lmul, 1) := by decide +kernel
theorem dX0_writeGrowing_54 : decode cX0_writeGrowing 54 = .ok (.lsub, 1) := by decide +kernel
theorem dX0_writeGrowing_55 : decode cX0_writeGrowing 55 = .ok (.lastore, 1) := by decide +kernel
theorem dX0_writeGrowing_56 : decode cX0_writeGrowing 56 = .ok (.return_, 1) := by decide +kernel
set_option maxRecDepth 20000 in
theorem ggX0_interestOn_X0_grown : GoodIn wsX0_interestOn wsX0_grown := goodIn_r _ [5, 6, 7, 8, 9, 10] (by decide +kernel) (by decide +kernel)
set_option maxRecDepth 20000 in
theorem gX0_interestOn_X0_grown : GoodIn wsX0_interestOn (va_wsS RX0 48 yX0_grown wsX0_grown) := goodIn_app (goodIn_of _ (by decide +kernel)) ggX0_interestOn_X0_grown
theorem dX0_interestOn_0 : decode cX0_interestOn 0 = .ok (.lconst 0, 1) := by decide +kernel
theorem dX0_interestOn_1 : decode cX0_interestOn 1 = .ok (.lstore_n 3, 1) := by decide +kernel
theorem dX0_interestOn_2 : decode cX0_interestOn 2 = .ok (.iconst 0, 1) := by decide +kernel
theorem dX0_interestOn_3 : decode cX0_interestOn 3 = .ok (.istore 5, 2) := by decide +kernel
theorem dX0_interestOn_5 : decode cX0_interestOn 5 = .ok (.iload 5, 2) := by decide +kernel
theorem dX0_interestOn_7 : decode cX0_interestOn 7 = .ok (.iload_n 2, 1) := by decide +kernel
theorem dX0_interestOn_8 : decode cX0_interestOn 8 = .ok (.if_icmp .ge 47, 3) := by decide +kernel
theorem dX0_interestOn_11 : decode cX0_interestOn 11 = .ok (.iload 5, 2) := by decide +kernel
theorem dX0_interestOn_13 : decode cX0_interestOn 13 = .ok (.sipush 513, 3) := by decide +kernel
theorem dX0_interestOn_16 : decode cX0_interestOn 16 = .ok (.if_icmp .ge 39, 3) := by decide +kernel
theorem dX0_interestOn_19 : decode cX0_interestOn 19 = .ok (.lload_n 3, 1) := by decide +kernel
theorem dX0_interestOn_20 : decode cX0_interestOn 20 = .ok (.aload_n 0, 1) := by decide +kernel
theorem dX0_interestOn_21 : decode cX0_interestOn 21 = .ok (.getfield 11, 3) := by decide +kernel
theorem dX0_interestOn_24 : decode cX0_interestOn 24 = .ok (.iload 5, 2) := by decide +kernel
theorem dX0_interestOn_26 : decode cX0_interestOn 26 = .ok (.aaload, 1) := by decide +kernel
theorem dX0_interestOn_27 : decode cX0_interestOn 27 = .ok (.bipush 17, 2) := by decide +kernel
theorem dX0_interestOn_29 : decode cX0_interestOn 29 = .ok (.iload_n 1, 1) := by decide +kernel
theorem dX0_interestOn_30 : decode cX0_interestOn 30 = .ok (.invokestatic 48, 3) := by decide +kernel
theorem dX0_interestOn_33 : decode cX0_interestOn 33 = .ok (.aload_n 0, 1) := by decide +kernel
theorem dX0_interestOn_34 : decode cX0_interestOn 34 = .ok (.getfield 11, 3) := by decide +kernel
theorem dX0_interestOn_37 : decode cX0_interestOn 37 = .ok (.iload 5, 2) := by decide +kernel
theorem dX0_interestOn_39 : decode cX0_interestOn 39 = .ok (.aaload, 1) := by decide +kernel
theorem dX0_interestOn_40 : decode cX0_interestOn 40 = .ok (.bipush 14, 2) := by decide +kernel
theorem dX0_interestOn_42 : decode cX0_interestOn 42 = .ok (.iload_n 1, 1) := by decide +kernel
theorem dX0_interestOn_43 : decode cX0_interestOn 43 = .ok (.invokestatic 48, 3) := by decide +kernel
theorem dX0_interestOn_46 : decode cX0_interestOn 46 = .ok (.lsub, 1) := by decide +kernel
theorem dX0_interestOn_47 : decode cX0_interestOn 47 = .ok (.ladd, 1) := by decide +kernel
theorem dX0_interestOn_48 : decode cX0_interestOn 48 = .ok (.lstore_n 3, 1) := by decide +kernel
theorem dX0_interestOn_49 : decode cX0_interestOn 49 = .ok (.iinc 5 1, 3) := by decide +kernel
theorem dX0_interestOn_52 : decode cX0_interestOn 52 = .ok (.goto (-47), 3) := by decide +kernel
theorem dX0_interestOn_55 : decode cX0_interestOn 55 = .ok (.lload_n 3, 1) := by decide +kernel
theorem dX0_interestOn_56 : decode cX0_interestOn 56 = .ok (.lreturn, 1) := by decide +kernel
set_option maxRecDepth 20000 in
theorem ggX0_grown_X7_begunUpTo : GoodIn wsX0_grown wsX7_begunUpTo := goodIn_r _ [4, 5] (by decide +kernel) (by decide +kernel)
set_option maxRecDepth 20000 in
theorem gX0_grown_X7_begunUpTo : GoodIn wsX0_grown (va_wsS RX0 52 yX7_begunUpTo wsX7_begunUpTo) := goodIn_app (goodIn_of _ (by decide +kernel)) ggX0_grown_X7_begunUpTo
theorem dX0_grown_0 : decode cX0_grown 0 = .ok (.aload_n 0, 1) := by decide +kernel
theorem dX0_grown_1 : decode cX0_grown 1 = .ok (.iload_n 1, 1) := by decide +kernel
theorem dX0_grown_2 : decode cX0_grown 2 = .ok (.iconst 2, 1) := by decide +kernel
theorem dX0_grown_3 : decode cX0_grown 3 = .ok (.iadd, 1) := by decide +kernel
theorem dX0_grown_4 : decode cX0_grown 4 = .ok (.laload, 1) := by decide +kernel
theorem dX0_grown_5 : decode cX0_grown 5 = .ok (.aload_n 0, 1) := by decide +kernel
theorem dX0_grown_6 : decode cX0_grown 6 = .ok (.iload_n 1, 1) := by decide +kernel
theorem dX0_grown_7 : decode cX0_grown 7 = .ok (.iconst 1, 1) := by decide +kernel
theorem dX0_grown_8 : decode cX0_grown 8 = .ok (.iadd, 1) := by decide +kernel
theorem dX0_grown_9 : decode cX0_grown 9 = .ok (.laload, 1) := by decide +kernel
theorem dX0_grown_10 : decode cX0_grown 10 = .ok (.aload_n 0, 1) := by decide +kernel
theorem dX0_grown_11 : decode cX0_grown 11 = .ok (.iload_n 1, 1) := by decide +kernel
theorem dX0_grown_12 : decode cX0_grown 12 = .ok (.iconst 0, 1) := by decide +kernel
theorem dX0_grown_13 : decode cX0_grown 13 = .ok (.iadd, 1) := by decide +kernel
theorem dX0_grown_14 : decode cX0_grown 14 = .ok (.laload, 1) := by decide +kernel
theorem dX0_grown_15 : decode cX0_grown 15 = .ok (.iload_n 2, 1) := by decide +kernel
theorem dX0_grown_16 : decode cX0_grown 16 = .ok (.i2l, 1) := by decide +kernel
theorem dX0_grown_17 : decode cX0_grown 17 = .ok (.invokestatic 52, 3) := by decide +kernel
theorem dX0_grown_20 : decode cX0_grown 20 = .ok (.i2l, 1) := by decide +kernel
theorem dX0_grown_21 : decode cX0_grown 21 = .ok (.lmul, 1) := by decide +kernel
theorem dX0_grown_22 : decode cX0_grown 22 = .ok (.ladd, 1) := by decide +kernel
theorem dX0_grown_23 : decode cX0_grown 23 = .ok (.lreturn, 1) := by decide +kernel
set_option maxRecDepth 20000 in
theorem ggX1_init_X5_init : GoodIn wsX1_init wsX5_init := goodIn_r _ [6, 7, 8, 9] (by decide +kernel) (by decide +kernel)
set_option maxRecDepth 20000 in
theorem gX1_init_X5_init_n3 : GoodIn wsX1_init (wsX5_init) := ggX1_init_X5_init
theorem dX1_init_0 : decode cX1_init 0 = .ok (.aload_n 0, 1) := by decide +kernel
theorem dX1_init_1 : decode cX1_init 1 = .ok (.invokespecial 3, 3) := by decide +kernel
theorem dX1_init_4 : decode cX1_init 4 = .ok (.aload_n 0, 1) := by decide +kernel
theorem dX1_init_5 : decode cX1_init 5 = .ok (.iload_n 1, 1) := by decide +kernel
theorem dX1_init_6 : decode cX1_init 6 = .ok (.putfield 9, 3) := by decide +kernel
theorem dX1_init_9 : decode cX1_init 9 = .ok (.aload_n 0, 1) := by decide +kernel
theorem dX1_init_10 : decode cX1_init 10 = .ok (.iload_n 2, 1) := by decide +kernel
theorem dX1_init_11 : decode cX1_init 11 = .ok (.putfield 15, 3) := by decide +kernel
theorem dX1_init_14 : decode cX1_init 14 = .ok (.aload_n 0, 1) := by decide +kernel
theorem dX1_init_15 : decode cX1_init 15 = .ok (.iload_n 3, 1) := by decide +kernel
theorem dX1_init_16 : decode cX1_init 16 = .ok (.putfield 18, 3) := by decide +kernel
theorem dX1_init_19 : decode cX1_init 19 = .ok (.return_, 1) := by decide +kernel
theorem dX1_kind_0 : decode cX1_kind 0 = .ok (.iconst 3, 1) := by decide +kernel
theorem dX1_kind_1 : decode cX1_kind 1 = .ok (.ireturn, 1) := by decide +kernel
theorem dX1_worth_0 : decode cX1_worth 0 = .ok (.ldc2_w 21, 3) := by decide +kernel
theorem dX1_worth_3 : decode cX1_worth 3 = .ok (.aload_n 0, 1) := by decide +kernel
theorem dX1_worth_4 : decode cX1_worth 4 = .ok (.getfield 15, 3) := by decide +kernel
theorem dX1_worth_7 : decode cX1_worth 7 = .ok (.i2l, 1) := by decide +kernel
theorem dX1_worth_8 : decode cX1_worth 8 = .ok (.iload_n 1, 1) := by decide +kernel
theorem dX1_worth_9 : decode cX1_worth 9 = .ok (.aload_n 0, 1) := by decide +kernel
theorem dX1_worth_10 : decode cX1_worth 10 = .ok (.getfield 18, 3) := by decide +kernel
theorem dX1_worth_13 : decode cX1_worth 13 = .ok (.isub, 1) := by decide +kernel
theorem dX1_worth_14 : decode cX1_worth 14 = .ok (.sipush 360, 3) := by decide +kernel
theorem dX1_worth_17 : decode cX1_worth 17 = .ok (.idiv, 1) := by decide +kernel
theorem dX1_worth_18 : decode cX1_worth 18 = .ok (.i2l, 1) := by decide +kernel
theorem dX1_worth_19 : decode cX1_worth 19 = .ok (.lmul, 1) := by decide +kernel
theorem dX1_worth_20 : decode cX1_worth 20 = .ok (.lsub, 1) := by decide +kernel
theorem dX1_worth_21 : decode cX1_worth 21 = .ok (.lstore_n 3, 1) := by decide +kernel
theorem dX1_worth_22 : decode cX1_worth 22 = .ok (.lload_n 3, 1) := by decide +kernel
theorem dX1_worth_23 : decode cX1_worth 23 = .ok (.lconst 0, 1) := by decide +kernel
theorem dX1_worth_24 : decode cX1_worth 24 = .ok (.lcmp, 1) := by decide +kernel
theorem dX1_worth_25 : decode cX1_worth 25 = .ok (.ifCond .gt 7, 3) := by decide +kernel
theorem dX1_worth_28 : decode cX1_worth 28 = .ok (.iconst 0, 1) := by decide +kernel
theorem dX1_worth_29 : decode cX1_worth 29 = .ok (.goto 15, 3) := by decide +kernel
theorem dX1_worth_32 : decode cX1_worth 32 = .ok (.aload_n 0, 1) := by decide +kernel
theorem dX1_worth_33 : decode cX1_worth 33 = .ok (.getfield 9, 3) := by decide +kernel
theorem dX1_worth_36 : decode cX1_worth 36 = .ok (.i2l, 1) := by decide +kernel
theorem dX1_worth_37 : decode cX1_worth 37 = .ok (.lload_n 3, 1) := by decide +kernel
theorem dX1_worth_38 : decode cX1_worth 38 = .ok (.lmul, 1) := by decide +kernel
theorem dX1_worth_39 : decode cX1_worth 39 = .ok (.ldc2_w 21, 3) := by decide +kernel
theorem dX1_worth_42 : decode cX1_worth 42 = .ok (.ldiv, 1) := by decide +kernel
theorem dX1_worth_43 : decode cX1_worth 43 = .ok (.l2i, 1) := by decide +kernel
theorem dX1_worth_44 : decode cX1_worth 44 = .ok (.ireturn, 1) := by decide +kernel
set_option maxRecDepth 20000 in
theorem ggX2_init_X10_init : GoodIn wsX2_init wsX10_init := goodIn_r _ [5, 6, 7, 8, 9, 10, 11, 12, 13, 14, 15, 16, 17, 18, 19, 20, 21, 22, 23, 24] (by decide +kernel) (by decide +kernel)
set_option maxRecDepth 20000 in
theorem gX2_init_X10_init : GoodIn wsX2_init (wsX10_init) := ggX2_init_X10_init
theorem dX2_init_0 : decode cX2_init 0 = .ok (.aload_n 0, 1) := by decide +kernel
theorem dX2_init_1 : decode cX2_init 1 = .ok (.fload_n 1, 1) := by decide +kernel
theorem dX2_init_2 : decode cX2_init 2 = .ok (.invokespecial 3, 3) := by decide +kernel
theorem dX2_init_5 : decode cX2_init 5 = .ok (.aload_n 0, 1) := by decide +kernel
theorem dX2_init_6 : decode cX2_init 6 = .ok (.iload_n 2, 1) := by decide +kernel
theorem dX2_init_7 : decode cX2_init 7 = .ok (.putfield 9, 3) := by decide +kernel
theorem dX2_init_10 : decode cX2_init 10 = .ok (.return_, 1) := by decide +kernel
theorem dX2_kind_0 : decode cX2_kind 0 = .ok (.iconst 1, 1) := by decide +kernel
theorem dX2_kind_1 : decode cX2_kind 1 = .ok (.ireturn, 1) := by decide +kernel
set_option maxRecDepth 20000 in
theorem ggX2_worth_X10_hundredths : GoodIn wsX2_worth wsX10_hundredths := goodIn_r _ [8, 9, 10, 11, 12, 13, 14, 15, 16, 17, 18] (by decide +kernel) (by decide +kernel)
set_option maxRecDepth 20000 in
theorem gX2_worth_X10_hundredths_u15X2 : GoodIn wsX2_worth (va_wsU RX2 15 RX2 "PledgeHouse$Weighed" ⟨"PledgeHouse$Gold", "hundredths", "()I"⟩ yX10_hundredths wsX10_hundredths) := goodIn_app (goodIn_of _ (by decide +kernel)) ggX2_worth_X10_hundredths
theorem dX2_worth_0 : decode cX2_worth 0 = .ok (.aload_n 0, 1) := by decide +kernel
theorem dX2_worth_1 : decode cX2_worth 1 = .ok (.invokevirtual 15, 3) := by decide +kernel
theorem dX2_worth_4 : decode cX2_worth 4 = .ok (.i2l, 1) := by decide +kernel
theorem dX2_worth_5 : decode cX2_worth 5 = .ok (.aload_n 0, 1) := by decide +kernel
theorem dX2_worth_6 : decode cX2_worth 6 = .ok (.getfield 9, 3) := by decide +kernel
theorem dX2_worth_9 : decode cX2_worth 9 = .ok (.i2l, 1) := by decide +kernel
theorem dX2_worth_10 : decode cX2_worth 10 = .ok (.lmul, 1) := by decide +kernel
theorem dX2_worth_11 : decode cX2_worth 11 = .ok (.iload_n 2, 1) := by decide +kernel
theorem dX2_worth_12 : decode cX2_worth 12 = .ok (.i2l, 1) := by decide +kernel
theorem dX2_worth_13 : decode cX2_worth 13 = .ok (.lmul, 1) := by decide +kernel
theorem dX2_worth_14 : decode cX2_worth 14 = .ok (.ldc2_w 19, 3) := by decide +kernel
theorem dX2_worth_17 : decode cX2_worth 17 = .ok (.ldiv, 1) := by decide +kernel
theorem dX2_worth_18 : decode cX2_worth 18 = .ok (.l2i, 1) := by decide +kernel
theorem dX2_worth_19 : decode cX2_worth 19 = .ok (.ireturn, 1) := by decide +kernel
theorem dX3_init_0 : decode cX3_init 0 = .ok (.aload_n 0, 1) := by decide +kernel
theorem dX3_init_1 : decode cX3_init 1 = .ok (.invokespecial 3, 3) := by decide +kernel
theorem dX3_init_4 : decode cX3_init 4 = .ok (.aload_n 0, 1) := by decide +kernel
theorem dX3_init_5 : decode cX3_init 5 = .ok (.getstatic 9, 3) := by decide +kernel
theorem dX3_init_8 : decode cX3_init 8 = .ok (.invokevirtual 13, 3) := by decide +kernel
theorem dX3_init_11 : decode cX3_init 11 = .ok (.checkcast 14, 3) := by decide +kernel
theorem dX3_init_14 : decode cX3_init 14 = .ok (.putfield 18, 3) := by decide +kernel
theorem dX3_init_17 : decode cX3_init 17 = .ok (.aload_n 0, 1) := by decide +kernel
theorem dX3_init_18 : decode cX3_init 18 = .ok (.bipush 40, 2) := by decide +kernel
theorem dX3_init_20 : decode cX3_init 20 = .ok (.anewarray 23, 3) := by decide +kernel
theorem dX3_init_23 : decode cX3_init 23 = .ok (.putfield 25, 3) := by decide +kernel
theorem dX3_init_26 : decode cX3_init 26 = .ok (.aload_n 0, 1) := by decide +kernel
theorem dX3_init_27 : decode cX3_init 27 = .ok (.bipush 40, 2) := by decide +kernel
theorem dX3_init_29 : decode cX3_init 29 = .ok (.newarray .boolean, 2) := by decide +kernel
theorem dX3_init_31 : decode cX3_init 31 = .ok (.putfield 29, 3) := by decide +kernel
theorem dX3_init_34 : decode cX3_init 34 = .ok (.aload_n 0, 1) := by decide +kernel
theorem dX3_init_35 : decode cX3_init 35 = .ok (.bipush 40, 2) := by decide +kernel
theorem dX3_init_37 : decode cX3_init 37 = .ok (.newarray .int, 2) := by decide +kernel
theorem dX3_init_39 : decode cX3_init 39 = .ok (.putfield 33, 3) := by decide +kernel
theorem dX3_init_42 : decode cX3_init 42 = .ok (.aload_n 0, 1) := by decide +kernel
theorem dX3_init_43 : decode cX3_init 43 = .ok (.sipush 511, 3) := by decide +kernel
theorem dX3_init_46 : decode cX3_init 46 = .ok (.anewarray 36, 3) := by decide +kernel
theorem dX3_init_49 : decode cX3_init 49 = .ok (.putfield 38, 3) := by decide +kernel
theorem dX3_init_52 : decode cX3_init 52 = .ok (.aload_n 0, 1) := by decide +kernel
theorem dX3_init_53 : decode cX3_init 53 = .ok (.aload_n 1, 1) := by decide +kernel
theorem dX3_init_54 : decode cX3_init 54 = .ok (.putfield 42, 3) := by decide +kernel
theorem dX3_init_57 : decode cX3_init 57 = .ok (.return_, 1) := by decide +kernel
set_option maxRecDepth 20000 in
theorem ggX3_become_X3_copyTicket : GoodIn wsX3_become wsX3_copyTicket := goodIn_r _ [17, 12, 18, 19, 20, 21, 22, 23, 24, 25, 26, 27, 28, 29, 30, 31, 32, 33, 34, 35, 36, 37, 38, 39, 40, 41, 42, 43, 44, 45, 46, 47, 48, 49, 50, 51, 52, 53, 54, 55, 56, 57, 58, 59, 60, 61, 62, 63, 64, 65, 66, 67, 68, 69, 70, 71, 72, 73, 74, 75, 76, 77, 78, 79, 80, 81, 82, 83, 84, 85, 86, 87, 88, 89, 90, 91, 92, 93, 94, 95, 96, 97, 98] (by decide +kernel) (by decide +kernel)
set_option maxRecDepth 20000 in
theorem gX3_become_X3_copyTicket : GoodIn wsX3_become (wsV RX3 62 RX3 yX3_copyTicket wsX3_copyTicket) := goodIn_app (goodIn_of _ (by decide +kernel)) ggX3_become_X3_copyTicket
theorem dX3_become_0 : decode cX3_become 0 = .ok (.aload_n 0, 1) := by decide +kernel
theorem dX3_become_1 : decode cX3_become 1 = .ok (.aload_n 1, 1) := by decide +kernel
theorem dX3_become_2 : decode cX3_become 2 = .ok (.getfield 46, 3) := by decide +kernel
theorem dX3_become_5 : decode cX3_become 5 = .ok (.putfield 46, 3) := by decide +kernel
theorem dX3_become_8 : decode cX3_become 8 = .ok (.aload_n 0, 1) := by decide +kernel
theorem dX3_become_9 : decode cX3_become 9 = .ok (.aload_n 1, 1) := by decide +kernel
theorem dX3_become_10 : decode cX3_become 10 = .ok (.getfield 50, 3) := by decide +kernel
theorem dX3_become_13 : decode cX3_become 13 = .ok (.putfield 50, 3) := by decide +kernel
theorem dX3_become_16 : decode cX3_become 16 = .ok (.aload_n 1, 1) := by decide +kernel
theorem dX3_become_17 : decode cX3_become 17 = .ok (.getfield 18, 3) := by decide +kernel
theorem dX3_become_20 : decode cX3_become 20 = .ok (.iconst 0, 1) := by decide +kernel
theorem dX3_become_21 : decode cX3_become 21 = .ok (.aload_n 0, 1) := by decide +kernel
theorem dX3_become_22 : decode cX3_become 22 = .ok (.getfield 18, 3) := by decide +kernel
theorem dX3_become_25 : decode cX3_become 25 = .ok (.iconst 0, 1) := by decide +kernel
theorem dX3_become_26 : decode cX3_become 26 = .ok (.aload_n 0, 1) := by decide +kernel
theorem dX3_become_27 : decode cX3_become 27 = .ok (.getfield 18, 3) := by decide +kernel
theorem dX3_become_30 : decode cX3_become 30 = .ok (.arraylength, 1) := by decide +kernel
theorem dX3_become_31 : decode cX3_become 31 = .ok (.invokestatic 53, 3) := by decide +kernel
theorem dX3_become_34 : decode cX3_become 34 = .ok (.iconst 0, 1) := by decide +kernel
theorem dX3_become_35 : decode cX3_become 35 = .ok (.istore_n 2, 1) := by decide +kernel
theorem dX3_become_36 : decode cX3_become 36 = .ok (.iload_n 2, 1) := by decide +kernel
theorem dX3_become_37 : decode cX3_become 37 = .ok (.bipush 40, 2) := by decide +kernel
theorem dX3_become_39 : decode cX3_become 39 = .ok (.if_icmp .ge 45, 3) := by decide +kernel
theorem dX3_become_42 : decode cX3_become 42 = .ok (.aload_n 0, 1) := by decide +kernel
theorem dX3_become_43 : decode cX3_become 43 = .ok (.getfield 25, 3) := by decide +kernel
theorem dX3_become_46 : decode cX3_become 46 = .ok (.iload_n 2, 1) := by decide +kernel
theorem dX3_become_47 : decode cX3_become 47 = .ok (.aload_n 1, 1) := by decide +kernel
theorem dX3_become_48 : decode cX3_become 48 = .ok (.getfield 25, 3) := by decide +kernel
theorem dX3_become_51 : decode cX3_become 51 = .ok (.iload_n 2, 1) := by decide +kernel
theorem dX3_become_52 : decode cX3_become 52 = .ok (.aaload, 1) := by decide +kernel
theorem dX3_become_53 : decode cX3_become 53 = .ok (.aastore, 1) := by decide +kernel
theorem dX3_become_54 : decode cX3_become 54 = .ok (.aload_n 0, 1) := by decide +kernel
theorem dX3_become_55 : decode cX3_become 55 = .ok (.getfield 29, 3) := by decide +kernel
theorem dX3_become_58 : decode cX3_become 58 = .ok (.iload_n 2, 1) := by decide +kernel
theorem dX3_become_59 : decode cX3_become 59 = .ok (.aload_n 1, 1) := by decide +kernel
theorem dX3_become_60 : decode cX3_become 60 = .ok (.getfield 29, 3) := by decide +kernel
theorem dX3_become_63 : decode cX3_become 63 = .ok (.iload_n 2, 1) := by decide +kernel
theorem dX3_become_64 : decode cX3_become 64 = .ok (.baload, 1) := by decide +kernel
theorem dX3_become_65 : decode cX3_become 65 = .ok (.bastore, 1) := by decide +kernel
theorem dX3_become_66 : decode cX3_become 66 = .ok (.aload_n 0, 1) := by decide +kernel
theorem dX3_become_67 : decode cX3_become 67 = .ok (.getfield 33, 3) := by decide +kernel
theorem dX3_become_70 : decode cX3_become 70 = .ok (.iload_n 2, 1) := by decide +kernel
theorem dX3_become_71 : decode cX3_become 71 = .ok (.aload_n 1, 1) := by decide +kernel
theorem dX3_become_72 : decode cX3_become 72 = .ok (.getfield 33, 3) := by decide +kernel
theorem dX3_become_75 : decode cX3_become 75 = .ok (.iload_n 2, 1) := by decide +kernel
theorem dX3_become_76 : decode cX3_become 76 = .ok (.iaload, 1) := by decide +kernel
theorem dX3_become_77 : decode cX3_become 77 = .ok (.iastore, 1) := by decide +kernel
theorem dX3_become_78 : decode cX3_become 78 = .ok (.iinc 2 1, 3) := by decide +kernel
theorem dX3_become_81 : decode cX3_become 81 = .ok (.goto (-45), 3) := by decide +kernel
theorem dX3_become_84 : decode cX3_become 84 = .ok (.aload_n 0, 1) := by decide +kernel
theorem dX3_become_85 : decode cX3_become 85 = .ok (.aload_n 1, 1) := by decide +kernel
theorem dX3_become_86 : decode cX3_become 86 = .ok (.getfield 59, 3) := by decide +kernel
theorem dX3_become_89 : decode cX3_become 89 = .ok (.putfield 59, 3) := by decide +kernel
theorem dX3_become_92 : decode cX3_become 92 = .ok (.iconst 0, 1) := by decide +kernel
theorem dX3_become_93 : decode cX3_become 93 = .ok (.istore_n 2, 1) := by decide +kernel
theorem dX3_become_94 : decode cX3_become 94 = .ok (.iload_n 2, 1) := by decide +kernel
theorem dX3_become_95 : decode cX3_become 95 = .ok (.aload_n 0, 1) := by decide +kernel
theorem dX3_become_96 : decode cX3_become 96 = .ok (.getfield 59, 3) := by decide +kernel
theorem dX3_become_99 : decode cX3_become 99 = .ok (.if_icmp .ge 20, 3) := by decide +kernel
theorem dX3_become_102 : decode cX3_become 102 = .ok (.aload_n 0, 1) := by decide +kernel
theorem dX3_become_103 : decode cX3_become 103 = .ok (.iload_n 2, 1) := by decide +kernel
theorem dX3_become_104 : decode cX3_become 104 = .ok (.aload_n 1, 1) := by decide +kernel
theorem dX3_become_105 : decode cX3_become 105 = .ok (.getfield 38, 3) := by decide +kernel
theorem dX3_become_108 : decode cX3_become 108 = .ok (.iload_n 2, 1) := by decide +kernel
theorem dX3_become_109 : decode cX3_become 109 = .ok (.aaload, 1) := by decide +kernel
theorem dX3_become_110 : decode cX3_become 110 = .ok (.invokevirtual 62, 3) := by decide +kernel
theorem dX3_become_113 : decode cX3_become 113 = .ok (.iinc 2 1, 3) := by decide +kernel
theorem dX3_become_116 : decode cX3_become 116 = .ok (.goto (-22), 3) := by decide +kernel
theorem dX3_become_119 : decode cX3_become 119 = .ok (.return_, 1) := by decide +kernel
set_option maxRecDepth 20000 in
theorem ggX3_copyTicket_X9_init : GoodIn wsX3_copyTicket wsX9_init := goodIn_r _ [6, 7, 8, 9, 10, 11, 12, 13, 14, 15, 16, 17, 18, 19, 20, 21, 22, 77, 78, 79, 80, 81, 82, 58, 59, 60, 61, 62, 63, 64, 65, 66, 67, 68, 69, 70, 71, 72, 73, 74, 75, 76] (by decide +kernel) (by decide +kernel)
set_option maxRecDepth 20000 in
theorem gX3_copyTicket_X9_init_n66 : GoodIn wsX3_copyTicket (wsX9_init) := ggX3_copyTicket_X9_init
set_option maxRecDepth 20000 in
theorem ggX3_copyTicket_X9_become : GoodIn wsX3_copyTicket wsX9_become := goodIn_r _ [26, 27, 28, 29, 30, 31, 32, 13, 14, 15, 33, 34, 16, 17, 35, 36, 37, 18, 38, 19, 39, 40, 41, 12, 42, 43, 44, 45, 46, 47, 48, 58, 59, 60, 61, 62, 63, 64, 65, 66, 67, 68, 69, 70, 71, 72, 73, 74, 75, 76, 77, 78, 79, 80, 81, 82] (by decide +kernel) (by decide +kernel)
set_option maxRecDepth 20000 in
theorem gX3_copyTicket_X9_become : GoodIn wsX3_copyTicket (wsV RX3 67 RX9 yX9_become wsX9_become) := goodIn_app (goodIn_of _ (by decide +kernel)) ggX3_copyTicket_X9_become
theorem dX3_copyTicket_0 : decode cX3_copyTicket 0 = .ok (.aload_n 0, 1) := by decide +kernel
theorem dX3_copyTicket_1 : decode cX3_copyTicket 1 = .ok (.getfield 38, 3) := by decide +kernel
theorem dX3_copyTicket_4 : decode cX3_copyTicket 4 = .ok (.iload_n 1, 1) := by decide +kernel
theorem dX3_copyTicket_5 : decode cX3_copyTicket 5 = .ok (.aaload, 1) := by decide +kernel
theorem dX3_copyTicket_6 : decode cX3_copyTicket 6 = .ok (.ifnonnull 16, 3) := by decide +kernel
theorem dX3_copyTicket_9 : decode cX3_copyTicket 9 = .ok (.aload_n 0, 1) := by decide +kernel
theorem dX3_copyTicket_10 : decode cX3_copyTicket 10 = .ok (.getfield 38, 3) := by decide +kernel
theorem dX3_copyTicket_13 : decode cX3_copyTicket 13 = .ok (.iload_n 1, 1) := by decide +kernel
theorem dX3_copyTicket_14 : decode cX3_copyTicket 14 = .ok (.new 36, 3) := by decide +kernel
theorem dX3_copyTicket_17 : decode cX3_copyTicket 17 = .ok (.dup, 1) := by decide +kernel
theorem dX3_copyTicket_18 : decode cX3_copyTicket 18 = .ok (.invokespecial 66, 3) := by decide +kernel
theorem dX3_copyTicket_21 : decode cX3_copyTicket 21 = .ok (.aastore, 1) := by decide +kernel
theorem dX3_copyTicket_22 : decode cX3_copyTicket 22 = .ok (.aload_n 2, 1) := by decide +kernel
theorem dX3_copyTicket_23 : decode cX3_copyTicket 23 = .ok (.ifnull 13, 3) := by decide +kernel
theorem dX3_copyTicket_26 : decode cX3_copyTicket 26 = .ok (.aload_n 0, 1) := by decide +kernel
theorem dX3_copyTicket_27 : decode cX3_copyTicket 27 = .ok (.getfield 38, 3) := by decide +kernel
theorem dX3_copyTicket_30 : decode cX3_copyTicket 30 = .ok (.iload_n 1, 1) := by decide +kernel
theorem dX3_copyTicket_31 : decode cX3_copyTicket 31 = .ok (.aaload, 1) := by decide +kernel
theorem dX3_copyTicket_32 : decode cX3_copyTicket 32 = .ok (.aload_n 2, 1) := by decide +kernel
theorem dX3_copyTicket_33 : decode cX3_copyTicket 33 = .ok (.invokevirtual 67, 3) := by decide +kernel
theorem dX3_copyTicket_36 : decode cX3_copyTicket 36 = .ok (.return_, 1) := by decide +kernel
set_option maxRecDepth 20000 in
theorem ggX3_passDays_X3_findOpen : GoodIn wsX3_passDays wsX3_findOpen := goodIn_r _ [10, 11, 12, 13, 9, 14, 3, 15, 16, 17, 18, 19, 20, 21, 44, 45, 46, 47, 48, 49, 50, 51, 52, 53, 54, 55, 56, 57, 58, 59, 60, 61, 62, 63, 64, 65, 66, 67, 68, 69, 70, 71] (by decide +kernel) (by decide +kernel)
set_option maxRecDepth 20000 in
theorem gX3_passDays_X3_findOpen : GoodIn wsX3_passDays (wsV RX3 73 RX3 yX3_findOpen wsX3_findOpen) := goodIn_app (goodIn_of _ (by decide +kernel)) ggX3_passDays_X3_findOpen
set_option maxRecDepth 20000 in
theorem ggX3_passDays_X7_reachDay : GoodIn wsX3_passDays wsX7_reachDay := goodIn_r _ [26, 27, 28, 29, 30, 31, 25, 32, 33, 34, 35, 36, 37, 38, 39, 40, 41, 42, 43, 72, 73, 74, 75, 76, 77] (by decide +kernel) (by decide +kernel)
set_option maxRecDepth 20000 in
theorem gX3_passDays_X7_reachDay : GoodIn wsX3_passDays (wsV RX3 84 RX7 yX7_reachDay wsX7_reachDay) := goodIn_app (goodIn_of _ (by decide +kernel)) ggX3_passDays_X7_reachDay
theorem dX3_passDays_0 : decode cX3_passDays 0 = .ok (.aload_n 0, 1) := by decide +kernel
theorem dX3_passDays_1 : decode cX3_passDays 1 = .ok (.getfield 50, 3) := by decide +kernel
theorem dX3_passDays_4 : decode cX3_passDays 4 = .ok (.i2l, 1) := by decide +kernel
theorem dX3_passDays_5 : decode cX3_passDays 5 = .ok (.iload_n 1, 1) := by decide +kernel
theorem dX3_passDays_6 : decode cX3_passDays 6 = .ok (.i2l, 1) := by decide +kernel
theorem dX3_passDays_7 : decode cX3_passDays 7 = .ok (.ladd, 1) := by decide +kernel
theorem dX3_passDays_8 : decode cX3_passDays 8 = .ok (.ldc2_w 71, 3) := by decide +kernel
theorem dX3_passDays_11 : decode cX3_passDays 11 = .ok (.lcmp, 1) := by decide +kernel
theorem dX3_passDays_12 : decode cX3_passDays 12 = .ok (.ifCond .le 6, 3) := by decide +kernel
theorem dX3_passDays_15 : decode cX3_passDays 15 = .ok (.bipush (-5), 2) := by decide +kernel
theorem dX3_passDays_17 : decode cX3_passDays 17 = .ok (.ireturn, 1) := by decide +kernel
theorem dX3_passDays_18 : decode cX3_passDays 18 = .ok (.iload_n 1, 1) := by decide +kernel
theorem dX3_passDays_19 : decode cX3_passDays 19 = .ok (.iconst 1, 1) := by decide +kernel
theorem dX3_passDays_20 : decode cX3_passDays 20 = .ok (.if_icmp .lt 10, 3) := by decide +kernel
theorem dX3_passDays_23 : decode cX3_passDays 23 = .ok (.iload_n 1, 1) := by decide +kernel
theorem dX3_passDays_24 : decode cX3_passDays 24 = .ok (.sipush 400, 3) := by decide +kernel
theorem dX3_passDays_27 : decode cX3_passDays 27 = .ok (.if_icmp .le 6, 3) := by decide +kernel
theorem dX3_passDays_30 : decode cX3_passDays 30 = .ok (.bipush (-6), 2) := by decide +kernel
theorem dX3_passDays_32 : decode cX3_passDays 32 = .ok (.ireturn, 1) := by decide +kernel
theorem dX3_passDays_33 : decode cX3_passDays 33 = .ok (.aload_n 0, 1) := by decide +kernel
theorem dX3_passDays_34 : decode cX3_passDays 34 = .ok (.dup, 1) := by decide +kernel
theorem dX3_passDays_35 : decode cX3_passDays 35 = .ok (.getfield 50, 3) := by decide +kernel
theorem dX3_passDays_38 : decode cX3_passDays 38 = .ok (.iload_n 1, 1) := by decide +kernel
theorem dX3_passDays_39 : decode cX3_passDays 39 = .ok (.iadd, 1) := by decide +kernel
theorem dX3_passDays_40 : decode cX3_passDays 40 = .ok (.putfield 50, 3) := by decide +kernel
theorem dX3_passDays_43 : decode cX3_passDays 43 = .ok (.iconst 1, 1) := by decide +kernel
theorem dX3_passDays_44 : decode cX3_passDays 44 = .ok (.istore_n 2, 1) := by decide +kernel
theorem dX3_passDays_45 : decode cX3_passDays 45 = .ok (.iload_n 2, 1) := by decide +kernel
theorem dX3_passDays_46 : decode cX3_passDays 46 = .ok (.aload_n 0, 1) := by decide +kernel
theorem dX3_passDays_47 : decode cX3_passDays 47 = .ok (.getfield 59, 3) := by decide +kernel
theorem dX3_passDays_50 : decode cX3_passDays 50 = .ok (.if_icmp .gt 34, 3) := by decide +kernel
theorem dX3_passDays_53 : decode cX3_passDays 53 = .ok (.aload_n 0, 1) := by decide +kernel
theorem dX3_passDays_54 : decode cX3_passDays 54 = .ok (.iload_n 2, 1) := by decide +kernel
theorem dX3_passDays_55 : decode cX3_passDays 55 = .ok (.invokevirtual 73, 3) := by decide +kernel
theorem dX3_passDays_58 : decode cX3_passDays 58 = .ok (.astore_n 3, 1) := by decide +kernel
theorem dX3_passDays_59 : decode cX3_passDays 59 = .ok (.aload_n 3, 1) := by decide +kernel
theorem dX3_passDays_60 : decode cX3_passDays 60 = .ok (.ifnull 18, 3) := by decide +kernel
theorem dX3_passDays_63 : decode cX3_passDays 63 = .ok (.aload_n 3, 1) := by decide +kernel
theorem dX3_passDays_64 : decode cX3_passDays 64 = .ok (.getfield 77, 3) := by decide +kernel
theorem dX3_passDays_67 : decode cX3_passDays 67 = .ok (.aload_n 0, 1) := by decide +kernel
theorem dX3_passDays_68 : decode cX3_passDays 68 = .ok (.getfield 50, 3) := by decide +kernel
theorem dX3_passDays_71 : decode cX3_passDays 71 = .ok (.aload_n 3, 1) := by decide +kernel
theorem dX3_passDays_72 : decode cX3_passDays 72 = .ok (.getfield 81, 3) := by decide +kernel
theorem dX3_passDays_75 : decode cX3_passDays 75 = .ok (.invokevirtual 84, 3) := by decide +kernel
theorem dX3_passDays_78 : decode cX3_passDays 78 = .ok (.iinc 2 1, 3) := by decide +kernel
theorem dX3_passDays_81 : decode cX3_passDays 81 = .ok (.goto (-36), 3) := by decide +kernel
theorem dX3_passDays_84 : decode cX3_passDays 84 = .ok (.aload_n 0, 1) := by decide +kernel
theorem dX3_passDays_85 : decode cX3_passDays 85 = .ok (.getfield 50, 3) := by decide +kernel
theorem dX3_passDays_88 : decode cX3_passDays 88 = .ok (.ireturn, 1) := by decide +kernel
theorem dX3_setRule_0 : decode cX3_setRule 0 = .ok (.iload_n 1, 1) := by decide +kernel
theorem dX3_setRule_1 : decode cX3_setRule 1 = .ok (.ifCond .lt 12, 3) := by decide +kernel
theorem dX3_setRule_4 : decode cX3_setRule 4 = .ok (.iload_n 1, 1) := by decide +kernel
theorem dX3_setRule_5 : decode cX3_setRule 5 = .ok (.aload_n 0, 1) := by decide +kernel
theorem dX3_setRule_6 : decode cX3_setRule 6 = .ok (.getfield 18, 3) := by decide +kernel
theorem dX3_setRule_9 : decode cX3_setRule 9 = .ok (.arraylength, 1) := by decide +kernel
theorem dX3_setRule_10 : decode cX3_setRule 10 = .ok (.if_icmp .lt 5, 3) := by decide +kernel
theorem dX3_setRule_13 : decode cX3_setRule 13 = .ok (.iconst (-1), 1) := by decide +kernel
theorem dX3_setRule_14 : decode cX3_setRule 14 = .ok (.ireturn, 1) := by decide +kernel
theorem dX3_setRule_15 : decode cX3_setRule 15 = .ok (.iload_n 2, 1) := by decide +kernel
theorem dX3_setRule_16 : decode cX3_setRule 16 = .ok (.getstatic 90, 3) := by decide +kernel
theorem dX3_setRule_19 : decode cX3_setRule 19 = .ok (.iload_n 1, 1) := by decide +kernel
theorem dX3_setRule_20 : decode cX3_setRule 20 = .ok (.iaload, 1) := by decide +kernel
theorem dX3_setRule_21 : decode cX3_setRule 21 = .ok (.if_icmp .lt 12, 3) := by decide +kernel
theorem dX3_setRule_24 : decode cX3_setRule 24 = .ok (.iload_n 2, 1) := by decide +kernel
theorem dX3_setRule_25 : decode cX3_setRule 25 = .ok (.getstatic 93, 3) := by decide +kernel
theorem dX3_setRule_28 : decode cX3_setRule 28 = .ok (.iload_n 1, 1) := by decide +kernel
theorem dX3_setRule_29 : decode cX3_setRule 29 = .ok (.iaload, 1) := by decide +kernel
theorem dX3_setRule_30 : decode cX3_setRule 30 = .ok (.if_icmp .le 6, 3) := by decide +kernel
theorem dX3_setRule_33 : decode cX3_setRule 33 = .ok (.bipush (-6), 2) := by decide +kernel
theorem dX3_setRule_35 : decode cX3_setRule 35 = .ok (.ireturn, 1) := by decide +kernel
theorem dX3_setRule_36 : decode cX3_setRule 36 = .ok (.aload_n 0, 1) := by decide +kernel
theorem dX3_setRule_37 : decode cX3_setRule 37 = .ok (.getfield 18, 3) := by decide +kernel
theorem dX3_setRule_40 : decode cX3_setRule 40 = .ok (.iload_n 1, 1) := by decide +kernel
theorem dX3_setRule_41 : decode cX3_setRule 41 = .ok (.iload_n 2, 1) := by decide +kernel
theorem dX3_setRule_42 : decode cX3_setRule 42 = .ok (.iastore, 1) := by decide +kernel
theorem dX3_setRule_43 : decode cX3_setRule 43 = .ok (.iconst 0, 1) := by decide +kernel
theorem dX3_setRule_44 : decode cX3_setRule 44 = .ok (.ireturn, 1) := by decide +kernel
theorem dX3_isPlace_0 : decode cX3_isPlace 0 = .ok (.iload_n 0, 1) := by decide +kernel
theorem dX3_isPlace_1 : decode cX3_isPlace 1 = .ok (.ifCond .lt 13, 3) := by decide +kernel
theorem dX3_isPlace_4 : decode cX3_isPlace 4 = .ok (.iload_n 0, 1) := by decide +kernel
theorem dX3_isPlace_5 : decode cX3_isPlace 5 = .ok (.bipush 40, 2) := by decide +kernel
theorem dX3_isPlace_7 : decode cX3_isPlace 7 = .ok (.if_icmp .ge 7, 3) := by decide +kernel
theorem dX3_isPlace_10 : decode cX3_isPlace 10 = .ok (.iconst 1, 1) := by decide +kernel
theorem dX3_isPlace_11 : decode cX3_isPlace 11 = .ok (.goto 4, 3) := by decide +kernel
theorem dX3_isPlace_14 : decode cX3_isPlace 14 = .ok (.iconst 0, 1) := by decide +kernel
theorem dX3_isPlace_15 : decode cX3_isPlace 15 = .ok (.ireturn, 1) := by decide +kernel
theorem dX3_isFree_0 : decode cX3_isFree 0 = .ok (.aload_n 0, 1) := by decide +kernel
theorem dX3_isFree_1 : decode cX3_isFree 1 = .ok (.getfield 25, 3) := by decide +kernel
theorem dX3_isFree_4 : decode cX3_isFree 4 = .ok (.iload_n 1, 1) := by decide +kernel
theorem dX3_isFree_5 : decode cX3_isFree 5 = .ok (.aaload, 1) := by decide +kernel
theorem dX3_isFree_6 : decode cX3_isFree 6 = .ok (.ifnonnull 16, 3) := by decide +kernel
theorem dX3_isFree_9 : decode cX3_isFree 9 = .ok (.aload_n 0, 1) := by decide +kernel
theorem dX3_isFree_10 : decode cX3_isFree 10 = .ok (.getfield 29, 3) := by decide +kernel
theorem dX3_isFree_13 : decode cX3_isFree 13 = .ok (.iload_n 1, 1) := by decide +kernel
theorem dX3_isFree_14 : decode cX3_isFree 14 = .ok (.baload, 1) := by decide +kernel
theorem dX3_isFree_15 : decode cX3_isFree 15 = .ok (.ifCond .ne 7, 3) := by decide +kernel
theorem dX3_isFree_18 : decode cX3_isFree 18 = .ok (.iconst 1, 1) := by decide +kernel
theorem dX3_isFree_19 : decode cX3_isFree 19 = .ok (.goto 4, 3) := by decide +kernel
theorem dX3_isFree_22 : decode cX3_isFree 22 = .ok (.iconst 0, 1) := by decide +kernel
theorem dX3_isFree_23 : decode cX3_isFree 23 = .ok (.ireturn, 1) := by decide +kernel
theorem dX3_isValue_0 : decode cX3_isValue 0 = .ok (.iload_n 0, 1) := by decide +kernel
theorem dX3_isValue_1 : decode cX3_isValue 1 = .ok (.iconst 1, 1) := by decide +kernel
theorem dX3_isValue_2 : decode cX3_isValue 2 = .ok (.if_icmp .lt 13, 3) := by decide +kernel
theorem dX3_isValue_5 : decode cX3_isValue 5 = .ok (.iload_n 0, 1) := by decide +kernel
theorem dX3_isValue_6 : decode cX3_isValue 6 = .ok (.ldc 96, 2) := by decide +kernel
theorem dX3_isValue_8 : decode cX3_isValue 8 = .ok (.if_icmp .gt 7, 3) := by decide +kernel
theorem dX3_isValue_11 : decode cX3_isValue 11 = .ok (.iconst 1, 1) := by decide +kernel
theorem dX3_isValue_12 : decode cX3_isValue 12 = .ok (.goto 4, 3) := by decide +kernel
theorem dX3_isValue_15 : decode cX3_isValue 15 = .ok (.iconst 0, 1) := by decide +kernel
theorem dX3_isValue_16 : decode cX3_isValue 16 = .ok (.ireturn, 1) := by decide +kernel
set_option maxRecDepth 20000 in
theorem ggX3_whyNotTo_X3_isPlace : GoodIn wsX3_whyNotTo wsX3_isPlace := goodIn_r _ [4] (by decide +kernel) (by decide +kernel)
set_option maxRecDepth 20000 in
theorem gX3_whyNotTo_X3_isPlace : GoodIn wsX3_whyNotTo (va_wsS RX3 97 yX3_isPlace wsX3_isPlace) := goodIn_app (goodIn_of _ (by decide +kernel)) ggX3_whyNotTo_X3_isPlace
set_option maxRecDepth 20000 in
theorem ggX3_whyNotTo_X3_isFree : GoodIn wsX3_whyNotTo wsX3_isFree := goodIn_r _ [8, 9, 10, 11, 12, 13, 14, 15, 16, 17, 18, 19] (by decide +kernel) (by decide +kernel)
set_option maxRecDepth 20000 in
theorem gX3_whyNotTo_X3_isFree : GoodIn wsX3_whyNotTo (wsV RX3 101 RX3 yX3_isFree wsX3_isFree) := goodIn_app (goodIn_of _ (by decide +kernel)) ggX3_whyNotTo_X3_isFree
theorem dX3_whyNotTo_0 : decode cX3_whyNotTo 0 = .ok (.iload_n 1, 1) := by decide +kernel
theorem dX3_whyNotTo_1 : decode cX3_whyNotTo 1 = .ok (.invokestatic 97, 3) := by decide +kernel
theorem dX3_whyNotTo_4 : decode cX3_whyNotTo 4 = .ok (.ifCond .ne 5, 3) := by decide +kernel
theorem dX3_whyNotTo_7 : decode cX3_whyNotTo 7 = .ok (.iconst (-1), 1) := by decide +kernel
theorem dX3_whyNotTo_8 : decode cX3_whyNotTo 8 = .ok (.ireturn, 1) := by decide +kernel
theorem dX3_whyNotTo_9 : decode cX3_whyNotTo 9 = .ok (.aload_n 0, 1) := by decide +kernel
theorem dX3_whyNotTo_10 : decode cX3_whyNotTo 10 = .ok (.iload_n 1, 1) := by decide +kernel
theorem dX3_whyNotTo_11 : decode cX3_whyNotTo 11 = .ok (.invokevirtual 101, 3) := by decide +kernel
theorem dX3_whyNotTo_14 : decode cX3_whyNotTo 14 = .ok (.ifCond .eq 7, 3) := by decide +kernel
theorem dX3_whyNotTo_17 : decode cX3_whyNotTo 17 = .ok (.iconst 0, 1) := by decide +kernel
theorem dX3_whyNotTo_18 : decode cX3_whyNotTo 18 = .ok (.goto 5, 3) := by decide +kernel
theorem dX3_whyNotTo_21 : decode cX3_whyNotTo 21 = .ok (.bipush (-2), 2) := by decide +kernel
theorem dX3_whyNotTo_23 : decode cX3_whyNotTo 23 = .ok (.ireturn, 1) := by decide +kernel
set_option maxRecDepth 20000 in
theorem ggX3_putDown_X3_addRow : GoodIn wsX3_putDown wsX3_addRow := goodIn_r _ [6, 7, 8, 9, 10, 11, 12, 13, 14, 15, 16, 17, 18, 19, 20, 21, 22, 23, 24, 25, 26, 27, 28, 29, 30, 31, 32, 33, 34, 35, 36] (by decide +kernel) (by decide +kernel)
set_option maxRecDepth 20000 in
theorem gX3_putDown_X3_addRow : GoodIn wsX3_putDown (wsV RX3 104 RX3 yX3_addRow wsX3_addRow) := goodIn_app (goodIn_of _ (by decide +kernel)) ggX3_putDown_X3_addRow
theorem dX3_putDown_0 : decode cX3_putDown 0 = .ok (.aload_n 0, 1) := by decide +kernel
theorem dX3_putDown_1 : decode cX3_putDown 1 = .ok (.getfield 25, 3) := by decide +kernel
theorem dX3_putDown_4 : decode cX3_putDown 4 = .ok (.iload_n 1, 1) := by decide +kernel
theorem dX3_putDown_5 : decode cX3_putDown 5 = .ok (.aload_n 2, 1) := by decide +kernel
theorem dX3_putDown_6 : decode cX3_putDown 6 = .ok (.aastore, 1) := by decide +kernel
theorem dX3_putDown_7 : decode cX3_putDown 7 = .ok (.aload_n 0, 1) := by decide +kernel
theorem dX3_putDown_8 : decode cX3_putDown 8 = .ok (.invokevirtual 104, 3) := by decide +kernel
theorem dX3_putDown_11 : decode cX3_putDown 11 = .ok (.bipush 11, 2) := by decide +kernel
theorem dX3_putDown_13 : decode cX3_putDown 13 = .ok (.dup2, 1) := by decide +kernel
theorem dX3_putDown_14 : decode cX3_putDown 14 = .ok (.laload, 1) := by decide +kernel
theorem dX3_putDown_15 : decode cX3_putDown 15 = .ok (.lconst 1, 1) := by decide +kernel
theorem dX3_putDown_16 : decode cX3_putDown 16 = .ok (.ladd, 1) := by decide +kernel
theorem dX3_putDown_17 : decode cX3_putDown 17 = .ok (.lastore, 1) := by decide +kernel
theorem dX3_putDown_18 : decode cX3_putDown 18 = .ok (.return_, 1) := by decide +kernel
set_option maxRecDepth 20000 in
theorem ggX3_addRow_X0_rowBehind : GoodIn wsX3_addRow wsX0_rowBehind := goodIn_r _ [8, 9, 10, 11, 12, 13, 14, 15, 16, 30] (by decide +kernel) (by decide +kernel)
set_option maxRecDepth 20000 in
theorem gX3_addRow_X0_rowBehind : GoodIn wsX3_addRow (wsV RX3 110 RX0 yX0_rowBehind wsX0_rowBehind) := goodIn_app (goodIn_of _ (by decide +kernel)) ggX3_addRow_X0_rowBehind
set_option maxRecDepth 20000 in
theorem ggX3_addRow_X0_countBehind : GoodIn wsX3_addRow wsX0_countBehind := goodIn_r _ [20, 9, 10, 11, 12] (by decide +kernel) (by decide +kernel)
set_option maxRecDepth 20000 in
theorem gX3_addRow_X0_countBehind : GoodIn wsX3_addRow (wsV RX3 114 RX0 yX0_countBehind wsX0_countBehind) := goodIn_app (goodIn_of _ (by decide +kernel)) ggX3_addRow_X0_countBehind
theorem dX3_addRow_0 : decode cX3_addRow 0 = .ok (.aload_n 0, 1) := by decide +kernel
theorem dX3_addRow_1 : decode cX3_addRow 1 = .ok (.getfield 42, 3) := by decide +kernel
theorem dX3_addRow_4 : decode cX3_addRow 4 = .ok (.aload_n 0, 1) := by decide +kernel
theorem dX3_addRow_5 : decode cX3_addRow 5 = .ok (.getfield 46, 3) := by decide +kernel
theorem dX3_addRow_8 : decode cX3_addRow 8 = .ok (.aload_n 0, 1) := by decide +kernel
theorem dX3_addRow_9 : decode cX3_addRow 9 = .ok (.getfield 50, 3) := by decide +kernel
theorem dX3_addRow_12 : decode cX3_addRow 12 = .ok (.invokevirtual 110, 3) := by decide +kernel
theorem dX3_addRow_15 : decode cX3_addRow 15 = .ok (.astore_n 1, 1) := by decide +kernel
theorem dX3_addRow_16 : decode cX3_addRow 16 = .ok (.aload_n 0, 1) := by decide +kernel
theorem dX3_addRow_17 : decode cX3_addRow 17 = .ok (.aload_n 0, 1) := by decide +kernel
theorem dX3_addRow_18 : decode cX3_addRow 18 = .ok (.getfield 42, 3) := by decide +kernel
theorem dX3_addRow_21 : decode cX3_addRow 21 = .ok (.aload_n 0, 1) := by decide +kernel
theorem dX3_addRow_22 : decode cX3_addRow 22 = .ok (.getfield 46, 3) := by decide +kernel
theorem dX3_addRow_25 : decode cX3_addRow 25 = .ok (.invokevirtual 114, 3) := by decide +kernel
theorem dX3_addRow_28 : decode cX3_addRow 28 = .ok (.putfield 46, 3) := by decide +kernel
theorem dX3_addRow_31 : decode cX3_addRow 31 = .ok (.aload_n 1, 1) := by decide +kernel
theorem dX3_addRow_32 : decode cX3_addRow 32 = .ok (.areturn, 1) := by decide +kernel
set_option maxRecDepth 20000 in
theorem ggX3_bringThing_X3_whyNotTo : GoodIn wsX3_bringThing wsX3_whyNotTo := goodIn_r _ [8, 9, 10, 7, 11, 12, 13, 14, 15, 16, 17, 61, 62, 63, 64, 65, 66, 67, 68, 69] (by decide +kernel) (by decide +kernel)
set_option maxRecDepth 20000 in
theorem gX3_bringThing_X3_whyNotTo : GoodIn wsX3_bringThing (wsV RX3 118 RX3 yX3_whyNotTo wsX3_whyNotTo) := goodIn_app (goodIn_of _ (by decide +kernel)) ggX3_bringThing_X3_whyNotTo
set_option maxRecDepth 20000 in
theorem ggX3_bringThing_X3_isValue : GoodIn wsX3_bringThing wsX3_isValue := goodIn_r _ [20, 21] (by decide +kernel) (by decide +kernel)
set_option maxRecDepth 20000 in
theorem gX3_bringThing_X3_isValue : GoodIn wsX3_bringThing (va_wsS RX3 121 yX3_isValue wsX3_isValue) := goodIn_app (goodIn_of _ (by decide +kernel)) ggX3_bringThing_X3_isValue
set_option maxRecDepth 20000 in
theorem ggX3_bringThing_X8_init : GoodIn wsX3_bringThing wsX8_init := goodIn_r _ [24, 25, 26, 27, 28, 29, 30, 31, 60] (by decide +kernel) (by decide +kernel)
set_option maxRecDepth 20000 in
theorem gX3_bringThing_X8_init : GoodIn wsX3_bringThing (wsX8_init) := ggX3_bringThing_X8_init
set_option maxRecDepth 20000 in
theorem ggX3_bringThing_X3_putDown : GoodIn wsX3_bringThing wsX3_putDown := goodIn_r _ [35, 16, 36, 37, 38, 7, 39, 40, 41, 42, 43, 44, 45, 46, 47, 48, 49, 50, 51, 52, 53, 54, 55, 56, 57, 58, 59, 61, 62, 63, 64, 65, 66, 67, 68, 69, 70] (by decide +kernel) (by decide +kernel)
set_option maxRecDepth 20000 in
theorem gX3_bringThing_X3_putDown : GoodIn wsX3_bringThing (wsV RX3 129 RX3 yX3_putDown wsX3_putDown) := goodIn_app (goodIn_of _ (by decide +kernel)) ggX3_bringThing_X3_putDown
theorem dX3_bringThing_0 : decode cX3_bringThing 0 = .ok (.aload_n 0, 1) := by decide +kernel
theorem dX3_bringThing_1 : decode cX3_bringThing 1 = .ok (.iload_n 1, 1) := by decide +kernel
theorem dX3_bringThing_2 : decode cX3_bringThing 2 = .ok (.invokevirtual 118, 3) := by decide +kernel
theorem dX3_bringThing_5 : decode cX3_bringThing 5 = .ok (.istore_n 3, 1) := by decide +kernel
theorem dX3_bringThing_6 : decode cX3_bringThing 6 = .ok (.iload_n 3, 1) := by decide +kernel
theorem dX3_bringThing_7 : decode cX3_bringThing 7 = .ok (.ifCond .eq 5, 3) := by decide +kernel
theorem dX3_bringThing_10 : decode cX3_bringThing 10 = .ok (.iload_n 3, 1) := by decide +kernel
theorem dX3_bringThing_11 : decode cX3_bringThing 11 = .ok (.ireturn, 1) := by decide +kernel
theorem dX3_bringThing_12 : decode cX3_bringThing 12 = .ok (.iload_n 2, 1) := by decide +kernel
theorem dX3_bringThing_13 : decode cX3_bringThing 13 = .ok (.invokestatic 121, 3) := by decide +kernel
theorem dX3_bringThing_16 : decode cX3_bringThing 16 = .ok (.ifCond .ne 6, 3) := by decide +kernel
theorem dX3_bringThing_19 : decode cX3_bringThing 19 = .ok (.bipush (-6), 2) := by decide +kernel
theorem dX3_bringThing_21 : decode cX3_bringThing 21 = .ok (.ireturn, 1) := by decide +kernel
theorem dX3_bringThing_22 : decode cX3_bringThing 22 = .ok (.aload_n 0, 1) := by decide +kernel
theorem dX3_bringThing_23 : decode cX3_bringThing 23 = .ok (.iload_n 1, 1) := by decide +kernel
theorem dX3_bringThing_24 : decode cX3_bringThing 24 = .ok (.new 124, 3) := by decide +kernel
theorem dX3_bringThing_27 : decode cX3_bringThing 27 = .ok (.dup, 1) := by decide +kernel
theorem dX3_bringThing_28 : decode cX3_bringThing 28 = .ok (.iload_n 2, 1) := by decide +kernel
theorem dX3_bringThing_29 : decode cX3_bringThing 29 = .ok (.invokespecial 126, 3) := by decide +kernel
theorem dX3_bringThing_32 : decode cX3_bringThing 32 = .ok (.invokevirtual 129, 3) := by decide +kernel
theorem dX3_bringThing_35 : decode cX3_bringThing 35 = .ok (.iconst 0, 1) := by decide +kernel
theorem dX3_bringThing_36 : decode cX3_bringThing 36 = .ok (.ireturn, 1) := by decide +kernel
set_option maxRecDepth 20000 in
theorem ggX3_bringGold_X3_whyNotTo : GoodIn wsX3_bringGold wsX3_whyNotTo := goodIn_r _ [8, 9, 10, 7, 11, 12, 13, 14, 15, 16, 17, 76, 77, 78, 79, 80, 81, 82, 83, 84] (by decide +kernel) (by decide +kernel)
set_option maxRecDepth 20000 in
theorem gX3_bringGold_X3_whyNotTo : GoodIn wsX3_bringGold (wsV RX3 118 RX3 yX3_whyNotTo wsX3_whyNotTo) := goodIn_app (goodIn_of _ (by decide +kernel)) ggX3_bringGold_X3_whyNotTo
set_option maxRecDepth 20000 in
theorem ggX3_bringGold_X10_isWeight : GoodIn wsX3_bringGold wsX10_isWeight := goodIn_r _ [21, 22] (by decide +kernel) (by decide +kernel)
set_option maxRecDepth 20000 in
theorem gX3_bringGold_X10_isWeight : GoodIn wsX3_bringGold (va_wsS RX3 133 yX10_isWeight wsX10_isWeight) := goodIn_app (goodIn_of _ (by decide +kernel)) ggX3_bringGold_X10_isWeight
set_option maxRecDepth 20000 in
theorem ggX3_bringGold_X2_init : GoodIn wsX3_bringGold wsX2_init := goodIn_r _ [25, 26, 27, 28, 20, 29, 30, 31, 32, 33, 34, 35, 36, 37, 38, 39, 73, 74, 75, 85, 86, 87, 88, 89, 90] (by decide +kernel) (by decide +kernel)
set_option maxRecDepth 20000 in
theorem gX3_bringGold_X2_init : GoodIn wsX3_bringGold (wsX2_init) := ggX3_bringGold_X2_init
set_option maxRecDepth 20000 in
theorem ggX3_bringGold_X3_putDown : GoodIn wsX3_bringGold wsX3_putDown := goodIn_r _ [43, 16, 44, 45, 46, 7, 47, 48, 49, 50, 51, 52, 53, 54, 55, 56, 57, 58, 59, 60, 61, 62, 63, 64, 65, 66, 67, 76, 77, 78, 79, 80, 81, 82, 83, 84, 91] (by decide +kernel) (by decide +kernel)
set_option maxRecDepth 20000 in
theorem gX3_bringGold_X3_putDown : GoodIn wsX3_bringGold (wsV RX3 129 RX3 yX3_putDown wsX3_putDown) := goodIn_app (goodIn_of _ (by decide +kernel)) ggX3_bringGold_X3_putDown
set_option maxRecDepth 20000 in
theorem ggX3_bringGold_X10_hundredths : GoodIn wsX3_bringGold wsX10_hundredths := goodIn_r _ [72, 31, 73, 74, 75, 85, 86, 87, 88, 89, 90] (by decide +kernel) (by decide +kernel)
set_option maxRecDepth 20000 in
theorem gX3_bringGold_X10_hundredths_u144X2 : GoodIn wsX3_bringGold (va_wsU RX3 144 RX2 "PledgeHouse$Weighed" ⟨"PledgeHouse$Gold", "hundredths", "()I"⟩ yX10_hundredths wsX10_hundredths) := goodIn_app (goodIn_of _ (by decide +kernel)) ggX3_bringGold_X10_hundredths
theorem dX3_bringGold_0 : decode cX3_bringGold 0 = .ok (.aload_n 0, 1) := by decide +kernel
theorem dX3_bringGold_1 : decode cX3_bringGold 1 = .ok (.iload_n 1, 1) := by decide +kernel
theorem dX3_bringGold_2 : decode cX3_bringGold 2 = .ok (.invokevirtual 118, 3) := by decide +kernel
theorem dX3_bringGold_5 : decode cX3_bringGold 5 = .ok (.istore 4, 2) := by decide +kernel
theorem dX3_bringGold_7 : decode cX3_bringGold 7 = .ok (.iload 4, 2) := by decide +kernel
theorem dX3_bringGold_9 : decode cX3_bringGold 9 = .ok (.ifCond .eq 6, 3) := by decide +kernel
theorem dX3_bringGold_12 : decode cX3_bringGold 12 = .ok (.iload 4, 2) := by decide +kernel
theorem dX3_bringGold_14 : decode cX3_bringGold 14 = .ok (.ireturn, 1) := by decide +kernel
theorem dX3_bringGold_15 : decode cX3_bringGold 15 = .ok (.fload_n 2, 1) := by decide +kernel
theorem dX3_bringGold_16 : decode cX3_bringGold 16 = .ok (.invokestatic 133, 3) := by decide +kernel
theorem dX3_bringGold_19 : decode cX3_bringGold 19 = .ok (.ifCond .eq 15, 3) := by decide +kernel
theorem dX3_bringGold_22 : decode cX3_bringGold 22 = .ok (.iload_n 3, 1) := by decide +kernel
theorem dX3_bringGold_23 : decode cX3_bringGold 23 = .ok (.iconst 1, 1) := by decide +kernel
theorem dX3_bringGold_24 : decode cX3_bringGold 24 = .ok (.if_icmp .lt 10, 3) := by decide +kernel
theorem dX3_bringGold_27 : decode cX3_bringGold 27 = .ok (.iload_n 3, 1) := by decide +kernel
theorem dX3_bringGold_28 : decode cX3_bringGold 28 = .ok (.sipush 1000, 3) := by decide +kernel
theorem dX3_bringGold_31 : decode cX3_bringGold 31 = .ok (.if_icmp .le 6, 3) := by decide +kernel
theorem dX3_bringGold_34 : decode cX3_bringGold 34 = .ok (.bipush (-6), 2) := by decide +kernel
theorem dX3_bringGold_36 : decode cX3_bringGold 36 = .ok (.ireturn, 1) := by decide +kernel
theorem dX3_bringGold_37 : decode cX3_bringGold 37 = .ok (.new 139, 3) := by decide +kernel
theorem dX3_bringGold_40 : decode cX3_bringGold 40 = .ok (.dup, 1) := by decide +kernel
theorem dX3_bringGold_41 : decode cX3_bringGold 41 = .ok (.fload_n 2, 1) := by decide +kernel
theorem dX3_bringGold_42 : decode cX3_bringGold 42 = .ok (.iload_n 3, 1) := by decide +kernel
theorem dX3_bringGold_43 : decode cX3_bringGold 43 = .ok (.invokespecial 141, 3) := by decide +kernel
theorem dX3_bringGold_46 : decode cX3_bringGold 46 = .ok (.astore 5, 2) := by decide +kernel
theorem dX3_bringGold_48 : decode cX3_bringGold 48 = .ok (.aload_n 0, 1) := by decide +kernel
theorem dX3_bringGold_49 : decode cX3_bringGold 49 = .ok (.iload_n 1, 1) := by decide +kernel
theorem dX3_bringGold_50 : decode cX3_bringGold 50 = .ok (.aload 5, 2) := by decide +kernel
theorem dX3_bringGold_52 : decode cX3_bringGold 52 = .ok (.invokevirtual 129, 3) := by decide +kernel
theorem dX3_bringGold_55 : decode cX3_bringGold 55 = .ok (.aload 5, 2) := by decide +kernel
theorem dX3_bringGold_57 : decode cX3_bringGold 57 = .ok (.invokevirtual 144, 3) := by decide +kernel
theorem dX3_bringGold_60 : decode cX3_bringGold 60 = .ok (.ireturn, 1) := by decide +kernel
set_option maxRecDepth 20000 in
theorem ggX3_bringCoat_X3_whyNotTo : GoodIn wsX3_bringCoat wsX3_whyNotTo := goodIn_r _ [9, 10, 11, 8, 12, 13, 14, 15, 16, 17, 18, 65, 66, 67, 68, 69, 70, 71, 72, 73] (by decide +kernel) (by decide +kernel)
set_option maxRecDepth 20000 in
theorem gX3_bringCoat_X3_whyNotTo : GoodIn wsX3_bringCoat (wsV RX3 118 RX3 yX3_whyNotTo wsX3_whyNotTo) := goodIn_app (goodIn_of _ (by decide +kernel)) ggX3_bringCoat_X3_whyNotTo
set_option maxRecDepth 20000 in
theorem ggX3_bringCoat_X3_isValue : GoodIn wsX3_bringCoat wsX3_isValue := goodIn_r _ [21, 22] (by decide +kernel) (by decide +kernel)
set_option maxRecDepth 20000 in
theorem gX3_bringCoat_X3_isValue : GoodIn wsX3_bringCoat (va_wsS RX3 121 yX3_isValue wsX3_isValue) := goodIn_app (goodIn_of _ (by decide +kernel)) ggX3_bringCoat_X3_isValue
set_option maxRecDepth 20000 in
theorem ggX3_bringCoat_X1_init : GoodIn wsX3_bringCoat wsX1_init := goodIn_r _ [25, 26, 27, 28, 29, 30, 31, 32, 33, 34, 62, 63, 64] (by decide +kernel) (by decide +kernel)
set_option maxRecDepth 20000 in
theorem gX3_bringCoat_X1_init : GoodIn wsX3_bringCoat (wsX1_init) := ggX3_bringCoat_X1_init
set_option maxRecDepth 20000 in
theorem ggX3_bringCoat_X3_putDown : GoodIn wsX3_bringCoat wsX3_putDown := goodIn_r _ [38, 17, 39, 40, 41, 8, 42, 43, 44, 4, 45, 46, 47, 48, 49, 50, 51, 52, 53, 54, 55, 56, 57, 58, 59, 60, 61, 65, 66, 67, 68, 69, 70, 71, 72, 73, 74] (by decide +kernel) (by decide +kernel)
set_option maxRecDepth 20000 in
theorem gX3_bringCoat_X3_putDown : GoodIn wsX3_bringCoat (wsV RX3 129 RX3 yX3_putDown wsX3_putDown) := goodIn_app (goodIn_of _ (by decide +kernel)) ggX3_bringCoat_X3_putDown
theorem dX3_bringCoat_0 : decode cX3_bringCoat 0 = .ok (.aload_n 0, 1) := by decide +kernel
theorem dX3_bringCoat_1 : decode cX3_bringCoat 1 = .ok (.iload_n 1, 1) := by decide +kernel
theorem dX3_bringCoat_2 : decode cX3_bringCoat 2 = .ok (.invokevirtual 118, 3) := by decide +kernel
theorem dX3_bringCoat_5 : decode cX3_bringCoat 5 = .ok (.istore 4, 2) := by decide +kernel
theorem dX3_bringCoat_7 : decode cX3_bringCoat 7 = .ok (.iload 4, 2) := by decide +kernel
theorem dX3_bringCoat_9 : decode cX3_bringCoat 9 = .ok (.ifCond .eq 6, 3) := by decide +kernel
theorem dX3_bringCoat_12 : decode cX3_bringCoat 12 = .ok (.iload 4, 2) := by decide +kernel
theorem dX3_bringCoat_14 : decode cX3_bringCoat 14 = .ok (.ireturn, 1) := by decide +kernel
theorem dX3_bringCoat_15 : decode cX3_bringCoat 15 = .ok (.iload_n 2, 1) := by decide +kernel
theorem dX3_bringCoat_16 : decode cX3_bringCoat 16 = .ok (.invokestatic 121, 3) := by decide +kernel
theorem dX3_bringCoat_19 : decode cX3_bringCoat 19 = .ok (.ifCond .eq 14, 3) := by decide +kernel
theorem dX3_bringCoat_22 : decode cX3_bringCoat 22 = .ok (.iload_n 3, 1) := by decide +kernel
theorem dX3_bringCoat_23 : decode cX3_bringCoat 23 = .ok (.ifCond .lt 10, 3) := by decide +kernel
theorem dX3_bringCoat_26 : decode cX3_bringCoat 26 = .ok (.iload_n 3, 1) := by decide +kernel
theorem dX3_bringCoat_27 : decode cX3_bringCoat 27 = .ok (.sipush 500, 3) := by decide +kernel
theorem dX3_bringCoat_30 : decode cX3_bringCoat 30 = .ok (.if_icmp .le 6, 3) := by decide +kernel
theorem dX3_bringCoat_33 : decode cX3_bringCoat 33 = .ok (.bipush (-6), 2) := by decide +kernel
theorem dX3_bringCoat_35 : decode cX3_bringCoat 35 = .ok (.ireturn, 1) := by decide +kernel
theorem dX3_bringCoat_36 : decode cX3_bringCoat 36 = .ok (.aload_n 0, 1) := by decide +kernel
theorem dX3_bringCoat_37 : decode cX3_bringCoat 37 = .ok (.iload_n 1, 1) := by decide +kernel
theorem dX3_bringCoat_38 : decode cX3_bringCoat 38 = .ok (.new 148, 3) := by decide +kernel
theorem dX3_bringCoat_41 : decode cX3_bringCoat 41 = .ok (.dup, 1) := by decide +kernel
theorem dX3_bringCoat_42 : decode cX3_bringCoat 42 = .ok (.iload_n 2, 1) := by decide +kernel
theorem dX3_bringCoat_43 : decode cX3_bringCoat 43 = .ok (.iload_n 3, 1) := by decide +kernel
theorem dX3_bringCoat_44 : decode cX3_bringCoat 44 = .ok (.aload_n 0, 1) := by decide +kernel
theorem dX3_bringCoat_45 : decode cX3_bringCoat 45 = .ok (.getfield 50, 3) := by decide +kernel
theorem dX3_bringCoat_48 : decode cX3_bringCoat 48 = .ok (.invokespecial 150, 3) := by decide +kernel
theorem dX3_bringCoat_51 : decode cX3_bringCoat 51 = .ok (.invokevirtual 129, 3) := by decide +kernel
theorem dX3_bringCoat_54 : decode cX3_bringCoat 54 = .ok (.iconst 0, 1) := by decide +kernel
theorem dX3_bringCoat_55 : decode cX3_bringCoat 55 = .ok (.ireturn, 1) := by decide +kernel
set_option maxRecDepth 20000 in
theorem ggX3_bringRare_X3_whyNotTo : GoodIn wsX3_bringRare wsX3_whyNotTo := goodIn_r _ [8, 9, 10, 7, 11, 12, 13, 14, 15, 16, 17, 82, 83, 84, 85, 86, 87, 88, 89, 90] (by decide +kernel) (by decide +kernel)
set_option maxRecDepth 20000 in
theorem gX3_bringRare_X3_whyNotTo : GoodIn wsX3_bringRare (wsV RX3 118 RX3 yX3_whyNotTo wsX3_whyNotTo) := goodIn_app (goodIn_of _ (by decide +kernel)) ggX3_bringRare_X3_whyNotTo
set_option maxRecDepth 20000 in
theorem ggX3_bringRare_X10_isWeight : GoodIn wsX3_bringRare wsX10_isWeight := goodIn_r _ [21, 22] (by decide +kernel) (by decide +kernel)
set_option maxRecDepth 20000 in
theorem gX3_bringRare_X10_isWeight : GoodIn wsX3_bringRare (va_wsS RX3 133 yX10_isWeight wsX10_isWeight) := goodIn_app (goodIn_of _ (by decide +kernel)) ggX3_bringRare_X10_isWeight
set_option maxRecDepth 20000 in
theorem ggX3_bringRare_X6_init : GoodIn wsX3_bringRare wsX6_init := goodIn_r _ [25, 26, 27, 28, 29, 30, 31, 20, 32, 33, 34, 35, 36, 37, 38, 39, 40, 41, 42, 76, 77, 78, 79, 80, 81, 91, 92, 93] (by decide +kernel) (by decide +kernel)
set_option maxRecDepth 20000 in
theorem gX3_bringRare_X6_init : GoodIn wsX3_bringRare (wsX6_init) := ggX3_bringRare_X6_init
set_option maxRecDepth 20000 in
theorem ggX3_bringRare_X3_putDown : GoodIn wsX3_bringRare wsX3_putDown := goodIn_r _ [46, 16, 47, 48, 49, 7, 50, 51, 52, 53, 54, 55, 56, 57, 58, 59, 60, 61, 62, 63, 64, 65, 66, 67, 68, 69, 70, 82, 83, 84, 85, 86, 87, 88, 89, 90, 94] (by decide +kernel) (by decide +kernel)
set_option maxRecDepth 20000 in
theorem gX3_bringRare_X3_putDown : GoodIn wsX3_bringRare (wsV RX3 129 RX3 yX3_putDown wsX3_putDown) := goodIn_app (goodIn_of _ (by decide +kernel)) ggX3_bringRare_X3_putDown
set_option maxRecDepth 20000 in
theorem ggX3_bringRare_X10_hundredths : GoodIn wsX3_bringRare wsX10_hundredths := goodIn_r _ [75, 34, 91, 92, 93, 76, 77, 78, 79, 80, 81] (by decide +kernel) (by decide +kernel)
set_option maxRecDepth 20000 in
theorem gX3_bringRare_X10_hundredths_u158X6 : GoodIn wsX3_bringRare (va_wsU RX3 158 RX6 "PledgeHouse$Weighed" ⟨"PledgeHouse$Rare", "hundredths", "()I"⟩ yX10_hundredths wsX10_hundredths) := goodIn_app (goodIn_of _ (by decide +kernel)) ggX3_bringRare_X10_hundredths
theorem dX3_bringRare_0 : decode cX3_bringRare 0 = .ok (.aload_n 0, 1) := by decide +kernel
theorem dX3_bringRare_1 : decode cX3_bringRare 1 = .ok (.iload_n 1, 1) := by decide +kernel
theorem dX3_bringRare_2 : decode cX3_bringRare 2 = .ok (.invokevirtual 118, 3) := by decide +kernel
theorem dX3_bringRare_5 : decode cX3_bringRare 5 = .ok (.istore_n 3, 1) := by decide +kernel
theorem dX3_bringRare_6 : decode cX3_bringRare 6 = .ok (.iload_n 3, 1) := by decide +kernel
theorem dX3_bringRare_7 : decode cX3_bringRare 7 = .ok (.ifCond .eq 5, 3) := by decide +kernel
theorem dX3_bringRare_10 : decode cX3_bringRare 10 = .ok (.iload_n 3, 1) := by decide +kernel
theorem dX3_bringRare_11 : decode cX3_bringRare 11 = .ok (.ireturn, 1) := by decide +kernel
theorem dX3_bringRare_12 : decode cX3_bringRare 12 = .ok (.fload_n 2, 1) := by decide +kernel
theorem dX3_bringRare_13 : decode cX3_bringRare 13 = .ok (.invokestatic 133, 3) := by decide +kernel
theorem dX3_bringRare_16 : decode cX3_bringRare 16 = .ok (.ifCond .ne 6, 3) := by decide +kernel
theorem dX3_bringRare_19 : decode cX3_bringRare 19 = .ok (.bipush (-6), 2) := by decide +kernel
theorem dX3_bringRare_21 : decode cX3_bringRare 21 = .ok (.ireturn, 1) := by decide +kernel
theorem dX3_bringRare_22 : decode cX3_bringRare 22 = .ok (.new 153, 3) := by decide +kernel
theorem dX3_bringRare_25 : decode cX3_bringRare 25 = .ok (.dup, 1) := by decide +kernel
theorem dX3_bringRare_26 : decode cX3_bringRare 26 = .ok (.fload_n 2, 1) := by decide +kernel
theorem dX3_bringRare_27 : decode cX3_bringRare 27 = .ok (.iconst 0, 1) := by decide +kernel
theorem dX3_bringRare_28 : decode cX3_bringRare 28 = .ok (.iconst 0, 1) := by decide +kernel
theorem dX3_bringRare_29 : decode cX3_bringRare 29 = .ok (.iconst 0, 1) := by decide +kernel
theorem dX3_bringRare_30 : decode cX3_bringRare 30 = .ok (.invokespecial 155, 3) := by decide +kernel
theorem dX3_bringRare_33 : decode cX3_bringRare 33 = .ok (.astore 4, 2) := by decide +kernel
theorem dX3_bringRare_35 : decode cX3_bringRare 35 = .ok (.aload_n 0, 1) := by decide +kernel
theorem dX3_bringRare_36 : decode cX3_bringRare 36 = .ok (.iload_n 1, 1) := by decide +kernel
theorem dX3_bringRare_37 : decode cX3_bringRare 37 = .ok (.aload 4, 2) := by decide +kernel
theorem dX3_bringRare_39 : decode cX3_bringRare 39 = .ok (.invokevirtual 129, 3) := by decide +kernel
theorem dX3_bringRare_42 : decode cX3_bringRare 42 = .ok (.aload 4, 2) := by decide +kernel
theorem dX3_bringRare_44 : decode cX3_bringRare 44 = .ok (.invokevirtual 158, 3) := by decide +kernel
theorem dX3_bringRare_47 : decode cX3_bringRare 47 = .ok (.ireturn, 1) := by decide +kernel
set_option maxRecDepth 20000 in
theorem ggX3_tellValue_X3_isPlace : GoodIn wsX3_tellValue wsX3_isPlace := goodIn_r _ [7] (by decide +kernel) (by decide +kernel)
set_option maxRecDepth 20000 in
theorem gX3_tellValue_X3_isPlace : GoodIn wsX3_tellValue (va_wsS RX3 97 yX3_isPlace wsX3_isPlace) := goodIn_app (goodIn_of _ (by decide +kernel)) ggX3_tellValue_X3_isPlace
set_option maxRecDepth 20000 in
theorem ggX3_tellValue_X3_isValue : GoodIn wsX3_tellValue wsX3_isValue := goodIn_r _ [10, 11] (by decide +kernel) (by decide +kernel)
set_option maxRecDepth 20000 in
theorem gX3_tellValue_X3_isValue : GoodIn wsX3_tellValue (va_wsS RX3 121 yX3_isValue wsX3_isValue) := goodIn_app (goodIn_of _ (by decide +kernel)) ggX3_tellValue_X3_isValue
set_option maxRecDepth 20000 in
theorem ggX3_tellValue_X6_withValue : GoodIn wsX3_tellValue wsX6_withValue := goodIn_r _ [16, 17, 18, 15, 19, 20, 21, 22, 23, 24, 25, 26, 27, 28, 29, 30, 31, 32, 33, 34, 35, 36, 37, 38, 39, 53, 54, 55, 56, 57, 58, 59, 60, 61] (by decide +kernel) (by decide +kernel)
set_option maxRecDepth 20000 in
theorem gX3_tellValue_X6_withValue : GoodIn wsX3_tellValue (wsV RX3 159 RX6 yX6_withValue wsX6_withValue) := goodIn_app (goodIn_of _ (by decide +kernel)) ggX3_tellValue_X6_withValue
set_option maxRecDepth 20000 in
theorem ggX3_tellValue_X6_tellers : GoodIn wsX3_tellValue wsX6_tellers := goodIn_r _ [43, 20, 53, 54, 55, 56, 57, 58] (by decide +kernel) (by decide +kernel)
set_option maxRecDepth 20000 in
theorem gX3_tellValue_X6_tellers : GoodIn wsX3_tellValue (wsV RX3 163 RX6 yX6_tellers wsX6_tellers) := goodIn_app (goodIn_of _ (by decide +kernel)) ggX3_tellValue_X6_tellers
theorem dX3_tellValue_0 : decode cX3_tellValue 0 = .ok (.iload_n 1, 1) := by decide +kernel
theorem dX3_tellValue_1 : decode cX3_tellValue 1 = .ok (.invokestatic 97, 3) := by decide +kernel
theorem dX3_tellValue_4 : decode cX3_tellValue 4 = .ok (.ifCond .ne 5, 3) := by decide +kernel
theorem dX3_tellValue_7 : decode cX3_tellValue 7 = .ok (.iconst (-1), 1) := by decide +kernel
theorem dX3_tellValue_8 : decode cX3_tellValue 8 = .ok (.ireturn, 1) := by decide +kernel
theorem dX3_tellValue_9 : decode cX3_tellValue 9 = .ok (.aload_n 0, 1) := by decide +kernel
theorem dX3_tellValue_10 : decode cX3_tellValue 10 = .ok (.getfield 33, 3) := by decide +kernel
theorem dX3_tellValue_13 : decode cX3_tellValue 13 = .ok (.iload_n 1, 1) := by decide +kernel
theorem dX3_tellValue_14 : decode cX3_tellValue 14 = .ok (.iaload, 1) := by decide +kernel
theorem dX3_tellValue_15 : decode cX3_tellValue 15 = .ok (.ifCond .eq 6, 3) := by decide +kernel
theorem dX3_tellValue_18 : decode cX3_tellValue 18 = .ok (.bipush (-2), 2) := by decide +kernel
theorem dX3_tellValue_20 : decode cX3_tellValue 20 = .ok (.ireturn, 1) := by decide +kernel
theorem dX3_tellValue_21 : decode cX3_tellValue 21 = .ok (.aload_n 0, 1) := by decide +kernel
theorem dX3_tellValue_22 : decode cX3_tellValue 22 = .ok (.getfield 25, 3) := by decide +kernel
theorem dX3_tellValue_25 : decode cX3_tellValue 25 = .ok (.iload_n 1, 1) := by decide +kernel
theorem dX3_tellValue_26 : decode cX3_tellValue 26 = .ok (.aaload, 1) := by decide +kernel
theorem dX3_tellValue_27 : decode cX3_tellValue 27 = .ok (.astore 4, 2) := by decide +kernel
theorem dX3_tellValue_29 : decode cX3_tellValue 29 = .ok (.aload 4, 2) := by decide +kernel
theorem dX3_tellValue_31 : decode cX3_tellValue 31 = .ok (.instanceof 153, 3) := by decide +kernel
theorem dX3_tellValue_34 : decode cX3_tellValue 34 = .ok (.ifCond .eq 40, 3) := by decide +kernel
theorem dX3_tellValue_37 : decode cX3_tellValue 37 = .ok (.aload 4, 2) := by decide +kernel
theorem dX3_tellValue_39 : decode cX3_tellValue 39 = .ok (.checkcast 153, 3) := by decide +kernel
theorem dX3_tellValue_42 : decode cX3_tellValue 42 = .ok (.astore_n 3, 1) := by decide +kernel
theorem dX3_tellValue_43 : decode cX3_tellValue 43 = .ok (.iload_n 2, 1) := by decide +kernel
theorem dX3_tellValue_44 : decode cX3_tellValue 44 = .ok (.invokestatic 121, 3) := by decide +kernel
theorem dX3_tellValue_47 : decode cX3_tellValue 47 = .ok (.ifCond .ne 6, 3) := by decide +kernel
theorem dX3_tellValue_50 : decode cX3_tellValue 50 = .ok (.bipush (-6), 2) := by decide +kernel
theorem dX3_tellValue_52 : decode cX3_tellValue 52 = .ok (.ireturn, 1) := by decide +kernel
theorem dX3_tellValue_53 : decode cX3_tellValue 53 = .ok (.aload_n 3, 1) := by decide +kernel
theorem dX3_tellValue_54 : decode cX3_tellValue 54 = .ok (.iload_n 2, 1) := by decide +kernel
theorem dX3_tellValue_55 : decode cX3_tellValue 55 = .ok (.invokevirtual 159, 3) := by decide +kernel
theorem dX3_tellValue_58 : decode cX3_tellValue 58 = .ok (.astore 4, 2) := by decide +kernel
theorem dX3_tellValue_60 : decode cX3_tellValue 60 = .ok (.aload_n 0, 1) := by decide +kernel
theorem dX3_tellValue_61 : decode cX3_tellValue 61 = .ok (.getfield 25, 3) := by decide +kernel
theorem dX3_tellValue_64 : decode cX3_tellValue 64 = .ok (.iload_n 1, 1) := by decide +kernel
theorem dX3_tellValue_65 : decode cX3_tellValue 65 = .ok (.aload 4, 2) := by decide +kernel
theorem dX3_tellValue_67 : decode cX3_tellValue 67 = .ok (.aastore, 1) := by decide +kernel
theorem dX3_tellValue_68 : decode cX3_tellValue 68 = .ok (.aload 4, 2) := by decide +kernel
theorem dX3_tellValue_70 : decode cX3_tellValue 70 = .ok (.invokevirtual 163, 3) := by decide +kernel
theorem dX3_tellValue_73 : decode cX3_tellValue 73 = .ok (.ireturn, 1) := by decide +kernel
theorem dX3_tellValue_74 : decode cX3_tellValue 74 = .ok (.bipush (-2), 2) := by decide +kernel
theorem dX3_tellValue_76 : decode cX3_tellValue 76 = .ok (.ireturn, 1) := by decide +kernel
set_option maxRecDepth 20000 in
theorem ggX3_bringItem_X3_isPlace : GoodIn wsX3_bringItem wsX3_isPlace := goodIn_r _ [7] (by decide +kernel) (by decide +kernel)
set_option maxRecDepth 20000 in
theorem gX3_bringItem_X3_isPlace : GoodIn wsX3_bringItem (va_wsS RX3 97 yX3_isPlace wsX3_isPlace) := goodIn_app (goodIn_of _ (by decide +kernel)) ggX3_bringItem_X3_isPlace
set_option maxRecDepth 20000 in
theorem ggX3_bringItem_X3_isFree : GoodIn wsX3_bringItem wsX3_isFree := goodIn_r _ [11, 2, 12, 85, 86, 87, 88, 89, 90, 91, 92, 93] (by decide +kernel) (by decide +kernel)
set_option maxRecDepth 20000 in
theorem gX3_bringItem_X3_isFree : GoodIn wsX3_bringItem (wsV RX3 101 RX3 yX3_isFree wsX3_isFree) := goodIn_app (goodIn_of _ (by decide +kernel)) ggX3_bringItem_X3_isFree
set_option maxRecDepth 20000 in
theorem ggX3_bringItem_X3_beginLot : GoodIn wsX3_bringItem wsX3_beginLot := goodIn_r _ [16, 17, 18, 6, 19, 20, 21, 22, 23, 24, 25, 26, 27, 28, 29, 30, 31, 32, 33, 34, 35, 36, 37, 38, 39, 40, 41, 42, 43, 44, 45, 46, 47, 48, 49, 50, 51, 52, 2, 53, 54, 55, 56, 57, 58, 59, 60, 61, 62, 63, 64, 65, 66, 67, 68, 69, 70, 71, 72, 73, 74, 75, 76, 77, 78, 79, 80, 94, 95, 85, 86, 87, 88, 89, 90, 91, 92, 93, 96] (by decide +kernel) (by decide +kernel)
set_option maxRecDepth 20000 in
theorem gX3_bringItem_X3_beginLot : GoodIn wsX3_bringItem (wsV RX3 166 RX3 yX3_beginLot wsX3_beginLot) := goodIn_app (goodIn_of _ (by decide +kernel)) ggX3_bringItem_X3_beginLot
set_option maxRecDepth 20000 in
theorem ggX3_bringItem_X3_isValue : GoodIn wsX3_bringItem wsX3_isValue := goodIn_r _ [19, 20] (by decide +kernel) (by decide +kernel)
set_option maxRecDepth 20000 in
theorem gX3_bringItem_X3_isValue : GoodIn wsX3_bringItem (va_wsS RX3 121 yX3_isValue wsX3_isValue) := goodIn_app (goodIn_of _ (by decide +kernel)) ggX3_bringItem_X3_isValue
set_option maxRecDepth 20000 in
theorem ggX3_bringItem_X4_isFull : GoodIn wsX3_bringItem wsX4_isFull := goodIn_r _ [84, 32, 94, 95] (by decide +kernel) (by decide +kernel)
set_option maxRecDepth 20000 in
theorem gX3_bringItem_X4_isFull : GoodIn wsX3_bringItem (wsV RX3 172 RX4 yX4_isFull wsX4_isFull) := goodIn_app (goodIn_of _ (by decide +kernel)) ggX3_bringItem_X4_isFull
set_option maxRecDepth 20000 in
theorem ggX3_bringItem_X4_withItem : GoodIn wsX3_bringItem wsX4_withItem := goodIn_r _ [42, 31, 43, 44, 45, 46, 47, 48, 32, 25, 26, 23, 28, 29, 30, 33, 34, 35, 36, 37, 38, 94, 95] (by decide +kernel) (by decide +kernel)
set_option maxRecDepth 20000 in
theorem gX3_bringItem_X4_withItem : GoodIn wsX3_bringItem (wsV RX3 176 RX4 yX4_withItem wsX4_withItem) := goodIn_app (goodIn_of _ (by decide +kernel)) ggX3_bringItem_X4_withItem
set_option maxRecDepth 20000 in
theorem ggX3_bringItem_X4_numberOfLatest : GoodIn wsX3_bringItem wsX4_numberOfLatest := goodIn_r _ [80, 32, 94, 95] (by decide +kernel) (by decide +kernel)
set_option maxRecDepth 20000 in
theorem gX3_bringItem_X4_numberOfLatest : GoodIn wsX3_bringItem (wsV RX3 180 RX4 yX4_numberOfLatest wsX4_numberOfLatest) := goodIn_app (goodIn_of _ (by decide +kernel)) ggX3_bringItem_X4_numberOfLatest
theorem dX3_bringItem_0 : decode cX3_bringItem 0 = .ok (.iload_n 1, 1) := by decide +kernel
theorem dX3_bringItem_1 : decode cX3_bringItem 1 = .ok (.invokestatic 97, 3) := by decide +kernel
theorem dX3_bringItem_4 : decode cX3_bringItem 4 = .ok (.ifCond .ne 5, 3) := by decide +kernel
theorem dX3_bringItem_7 : decode cX3_bringItem 7 = .ok (.iconst (-1), 1) := by decide +kernel
theorem dX3_bringItem_8 : decode cX3_bringItem 8 = .ok (.ireturn, 1) := by decide +kernel
theorem dX3_bringItem_9 : decode cX3_bringItem 9 = .ok (.aload_n 0, 1) := by decide +kernel
theorem dX3_bringItem_10 : decode cX3_bringItem 10 = .ok (.iload_n 1, 1) := by decide +kernel
theorem dX3_bringItem_11 : decode cX3_bringItem 11 = .ok (.invokevirtual 101, 3) := by decide +kernel
theorem dX3_bringItem_14 : decode cX3_bringItem 14 = .ok (.ifCond .eq 10, 3) := by decide +kernel
theorem dX3_bringItem_17 : decode cX3_bringItem 17 = .ok (.aload_n 0, 1) := by decide +kernel
theorem dX3_bringItem_18 : decode cX3_bringItem 18 = .ok (.iload_n 1, 1) := by decide +kernel
theorem dX3_bringItem_19 : decode cX3_bringItem 19 = .ok (.iload_n 2, 1) := by decide +kernel
theorem dX3_bringItem_20 : decode cX3_bringItem 20 = .ok (.invokevirtual 166, 3) := by decide +kernel
theorem dX3_bringItem_23 : decode cX3_bringItem 23 = .ok (.ireturn, 1) := by decide +kernel
theorem dX3_bringItem_24 : decode cX3_bringItem 24 = .ok (.aload_n 0, 1) := by decide +kernel
theorem dX3_bringItem_25 : decode cX3_bringItem 25 = .ok (.getfield 33, 3) := by decide +kernel
theorem dX3_bringItem_28 : decode cX3_bringItem 28 = .ok (.iload_n 1, 1) := by decide +kernel
theorem dX3_bringItem_29 : decode cX3_bringItem 29 = .ok (.iaload, 1) := by decide +kernel
theorem dX3_bringItem_30 : decode cX3_bringItem 30 = .ok (.ifCond .eq 6, 3) := by decide +kernel
theorem dX3_bringItem_33 : decode cX3_bringItem 33 = .ok (.bipush (-2), 2) := by decide +kernel
theorem dX3_bringItem_35 : decode cX3_bringItem 35 = .ok (.ireturn, 1) := by decide +kernel
theorem dX3_bringItem_36 : decode cX3_bringItem 36 = .ok (.aload_n 0, 1) := by decide +kernel
theorem dX3_bringItem_37 : decode cX3_bringItem 37 = .ok (.getfield 25, 3) := by decide +kernel
theorem dX3_bringItem_40 : decode cX3_bringItem 40 = .ok (.iload_n 1, 1) := by decide +kernel
theorem dX3_bringItem_41 : decode cX3_bringItem 41 = .ok (.aaload, 1) := by decide +kernel
theorem dX3_bringItem_42 : decode cX3_bringItem 42 = .ok (.astore 4, 2) := by decide +kernel
theorem dX3_bringItem_44 : decode cX3_bringItem 44 = .ok (.aload 4, 2) := by decide +kernel
theorem dX3_bringItem_46 : decode cX3_bringItem 46 = .ok (.instanceof 170, 3) := by decide +kernel
theorem dX3_bringItem_49 : decode cX3_bringItem 49 = .ok (.ifCond .eq 47, 3) := by decide +kernel
theorem dX3_bringItem_52 : decode cX3_bringItem 52 = .ok (.aload 4, 2) := by decide +kernel
theorem dX3_bringItem_54 : decode cX3_bringItem 54 = .ok (.checkcast 170, 3) := by decide +kernel
theorem dX3_bringItem_57 : decode cX3_bringItem 57 = .ok (.astore_n 3, 1) := by decide +kernel
theorem dX3_bringItem_58 : decode cX3_bringItem 58 = .ok (.iload_n 2, 1) := by decide +kernel
theorem dX3_bringItem_59 : decode cX3_bringItem 59 = .ok (.invokestatic 121, 3) := by decide +kernel
theorem dX3_bringItem_62 : decode cX3_bringItem 62 = .ok (.ifCond .eq 10, 3) := by decide +kernel
theorem dX3_bringItem_65 : decode cX3_bringItem 65 = .ok (.aload_n 3, 1) := by decide +kernel
theorem dX3_bringItem_66 : decode cX3_bringItem 66 = .ok (.invokevirtual 172, 3) := by decide +kernel
theorem dX3_bringItem_69 : decode cX3_bringItem 69 = .ok (.ifCond .eq 6, 3) := by decide +kernel
theorem dX3_bringItem_72 : decode cX3_bringItem 72 = .ok (.bipush (-6), 2) := by decide +kernel
theorem dX3_bringItem_74 : decode cX3_bringItem 74 = .ok (.ireturn, 1) := by decide +kernel
theorem dX3_bringItem_75 : decode cX3_bringItem 75 = .ok (.aload_n 3, 1) := by decide +kernel
theorem dX3_bringItem_76 : decode cX3_bringItem 76 = .ok (.iload_n 2, 1) := by decide +kernel
theorem dX3_bringItem_77 : decode cX3_bringItem 77 = .ok (.invokevirtual 176, 3) := by decide +kernel
theorem dX3_bringItem_80 : decode cX3_bringItem 80 = .ok (.astore 4, 2) := by decide +kernel
theorem dX3_bringItem_82 : decode cX3_bringItem 82 = .ok (.aload_n 0, 1) := by decide +kernel
theorem dX3_bringItem_83 : decode cX3_bringItem 83 = .ok (.getfield 25, 3) := by decide +kernel
theorem dX3_bringItem_86 : decode cX3_bringItem 86 = .ok (.iload_n 1, 1) := by decide +kernel
theorem dX3_bringItem_87 : decode cX3_bringItem 87 = .ok (.aload 4, 2) := by decide +kernel
theorem dX3_bringItem_89 : decode cX3_bringItem 89 = .ok (.aastore, 1) := by decide +kernel
theorem dX3_bringItem_90 : decode cX3_bringItem 90 = .ok (.aload 4, 2) := by decide +kernel
theorem dX3_bringItem_92 : decode cX3_bringItem 92 = .ok (.invokevirtual 180, 3) := by decide +kernel
theorem dX3_bringItem_95 : decode cX3_bringItem 95 = .ok (.ireturn, 1) := by decide +kernel
theorem dX3_bringItem_96 : decode cX3_bringItem 96 = .ok (.bipush (-2), 2) := by decide +kernel
theorem dX3_bringItem_98 : decode cX3_bringItem 98 = .ok (.ireturn, 1) := by decide +kernel
set_option maxRecDepth 20000 in
theorem ggX3_beginLot_X3_isValue : GoodIn wsX3_beginLot wsX3_isValue := goodIn_r _ [4, 5] (by decide +kernel) (by decide +kernel)
set_option maxRecDepth 20000 in
theorem gX3_beginLot_X3_isValue : GoodIn wsX3_beginLot (va_wsS RX3 121 yX3_isValue wsX3_isValue) := goodIn_app (goodIn_of _ (by decide +kernel)) ggX3_beginLot_X3_isValue
set_option maxRecDepth 20000 in
theorem ggX3_beginLot_X4_empty : GoodIn wsX3_beginLot wsX4_empty := goodIn_r _ [9, 10, 11, 8, 12, 13, 14, 15, 16, 17, 18, 19, 20, 21, 22, 23, 67, 68] (by decide +kernel) (by decide +kernel)
set_option maxRecDepth 20000 in
theorem gX3_beginLot_X4_empty : GoodIn wsX3_beginLot (va_wsS RX3 183 yX4_empty wsX4_empty) := goodIn_app (goodIn_of _ (by decide +kernel)) ggX3_beginLot_X4_empty
set_option maxRecDepth 20000 in
theorem ggX3_beginLot_X4_withItem : GoodIn wsX3_beginLot wsX4_withItem := goodIn_r _ [27, 16, 28, 29, 30, 31, 32, 33, 17, 10, 11, 8, 13, 14, 15, 18, 19, 20, 21, 22, 23, 67, 68] (by decide +kernel) (by decide +kernel)
set_option maxRecDepth 20000 in
theorem gX3_beginLot_X4_withItem : GoodIn wsX3_beginLot (wsV RX3 176 RX4 yX4_withItem wsX4_withItem) := goodIn_app (goodIn_of _ (by decide +kernel)) ggX3_beginLot_X4_withItem
set_option maxRecDepth 20000 in
theorem ggX3_beginLot_X3_putDown : GoodIn wsX3_beginLot wsX3_putDown := goodIn_r _ [37, 38, 39, 40, 41, 3, 42, 43, 44, 45, 46, 47, 48, 49, 50, 51, 52, 53, 54, 55, 56, 57, 58, 59, 60, 61, 62, 69, 70, 71, 72, 73, 74, 75, 76, 77, 78] (by decide +kernel) (by decide +kernel)
set_option maxRecDepth 20000 in
theorem gX3_beginLot_X3_putDown : GoodIn wsX3_beginLot (wsV RX3 129 RX3 yX3_putDown wsX3_putDown) := goodIn_app (goodIn_of _ (by decide +kernel)) ggX3_beginLot_X3_putDown
set_option maxRecDepth 20000 in
theorem ggX3_beginLot_X4_numberOfLatest : GoodIn wsX3_beginLot wsX4_numberOfLatest := goodIn_r _ [66, 17, 67, 68] (by decide +kernel) (by decide +kernel)
set_option maxRecDepth 20000 in
theorem gX3_beginLot_X4_numberOfLatest : GoodIn wsX3_beginLot (wsV RX3 180 RX4 yX4_numberOfLatest wsX4_numberOfLatest) := goodIn_app (goodIn_of _ (by decide +kernel)) ggX3_beginLot_X4_numberOfLatest
theorem dX3_beginLot_0 : decode cX3_beginLot 0 = .ok (.iload_n 2, 1) := by decide +kernel
theorem dX3_beginLot_1 : decode cX3_beginLot 1 = .ok (.invokestatic 121, 3) := by decide +kernel
theorem dX3_beginLot_4 : decode cX3_beginLot 4 = .ok (.ifCond .ne 6, 3) := by decide +kernel
theorem dX3_beginLot_7 : decode cX3_beginLot 7 = .ok (.bipush (-6), 2) := by decide +kernel
theorem dX3_beginLot_9 : decode cX3_beginLot 9 = .ok (.ireturn, 1) := by decide +kernel
theorem dX3_beginLot_10 : decode cX3_beginLot 10 = .ok (.invokestatic 183, 3) := by decide +kernel
theorem dX3_beginLot_13 : decode cX3_beginLot 13 = .ok (.iload_n 2, 1) := by decide +kernel
theorem dX3_beginLot_14 : decode cX3_beginLot 14 = .ok (.invokevirtual 176, 3) := by decide +kernel
theorem dX3_beginLot_17 : decode cX3_beginLot 17 = .ok (.astore_n 3, 1) := by decide +kernel
theorem dX3_beginLot_18 : decode cX3_beginLot 18 = .ok (.aload_n 0, 1) := by decide +kernel
theorem dX3_beginLot_19 : decode cX3_beginLot 19 = .ok (.iload_n 1, 1) := by decide +kernel
theorem dX3_beginLot_20 : decode cX3_beginLot 20 = .ok (.aload_n 3, 1) := by decide +kernel
theorem dX3_beginLot_21 : decode cX3_beginLot 21 = .ok (.invokevirtual 129, 3) := by decide +kernel
theorem dX3_beginLot_24 : decode cX3_beginLot 24 = .ok (.aload_n 3, 1) := by decide +kernel
theorem dX3_beginLot_25 : decode cX3_beginLot 25 = .ok (.invokevirtual 180, 3) := by decide +kernel
theorem dX3_beginLot_28 : decode cX3_beginLot 28 = .ok (.ireturn, 1) := by decide +kernel
set_option maxRecDepth 20000 in
theorem ggX3_moveBox_X3_isPlace : GoodIn wsX3_moveBox wsX3_isPlace := goodIn_r _ [6] (by decide +kernel) (by decide +kernel)
set_option maxRecDepth 20000 in
theorem gX3_moveBox_X3_isPlace : GoodIn wsX3_moveBox (va_wsS RX3 97 yX3_isPlace wsX3_isPlace) := goodIn_app (goodIn_of _ (by decide +kernel)) ggX3_moveBox_X3_isPlace
theorem dX3_moveBox_0 : decode cX3_moveBox 0 = .ok (.iload_n 1, 1) := by decide +kernel
theorem dX3_moveBox_1 : decode cX3_moveBox 1 = .ok (.invokestatic 97, 3) := by decide +kernel
theorem dX3_moveBox_4 : decode cX3_moveBox 4 = .ok (.ifCond .ne 5, 3) := by decide +kernel
theorem dX3_moveBox_7 : decode cX3_moveBox 7 = .ok (.iconst (-1), 1) := by decide +kernel
theorem dX3_moveBox_8 : decode cX3_moveBox 8 = .ok (.ireturn, 1) := by decide +kernel
theorem dX3_moveBox_9 : decode cX3_moveBox 9 = .ok (.aload_n 0, 1) := by decide +kernel
theorem dX3_moveBox_10 : decode cX3_moveBox 10 = .ok (.getfield 25, 3) := by decide +kernel
theorem dX3_moveBox_13 : decode cX3_moveBox 13 = .ok (.iload_n 1, 1) := by decide +kernel
theorem dX3_moveBox_14 : decode cX3_moveBox 14 = .ok (.aaload, 1) := by decide +kernel
theorem dX3_moveBox_15 : decode cX3_moveBox 15 = .ok (.ifnull 6, 3) := by decide +kernel
theorem dX3_moveBox_18 : decode cX3_moveBox 18 = .ok (.bipush (-2), 2) := by decide +kernel
theorem dX3_moveBox_20 : decode cX3_moveBox 20 = .ok (.ireturn, 1) := by decide +kernel
theorem dX3_moveBox_21 : decode cX3_moveBox 21 = .ok (.aload_n 0, 1) := by decide +kernel
theorem dX3_moveBox_22 : decode cX3_moveBox 22 = .ok (.getfield 29, 3) := by decide +kernel
theorem dX3_moveBox_25 : decode cX3_moveBox 25 = .ok (.iload_n 1, 1) := by decide +kernel
theorem dX3_moveBox_26 : decode cX3_moveBox 26 = .ok (.aload_n 0, 1) := by decide +kernel
theorem dX3_moveBox_27 : decode cX3_moveBox 27 = .ok (.getfield 29, 3) := by decide +kernel
theorem dX3_moveBox_30 : decode cX3_moveBox 30 = .ok (.iload_n 1, 1) := by decide +kernel
theorem dX3_moveBox_31 : decode cX3_moveBox 31 = .ok (.baload, 1) := by decide +kernel
theorem dX3_moveBox_32 : decode cX3_moveBox 32 = .ok (.ifCond .ne 7, 3) := by decide +kernel
theorem dX3_moveBox_35 : decode cX3_moveBox 35 = .ok (.iconst 1, 1) := by decide +kernel
theorem dX3_moveBox_36 : decode cX3_moveBox 36 = .ok (.goto 4, 3) := by decide +kernel
theorem dX3_moveBox_39 : decode cX3_moveBox 39 = .ok (.iconst 0, 1) := by decide +kernel
theorem dX3_moveBox_40 : decode cX3_moveBox 40 = .ok (.bastore, 1) := by decide +kernel
theorem dX3_moveBox_41 : decode cX3_moveBox 41 = .ok (.aload_n 0, 1) := by decide +kernel
theorem dX3_moveBox_42 : decode cX3_moveBox 42 = .ok (.getfield 29, 3) := by decide +kernel
theorem dX3_moveBox_45 : decode cX3_moveBox 45 = .ok (.iload_n 1, 1) := by decide +kernel
theorem dX3_moveBox_46 : decode cX3_moveBox 46 = .ok (.baload, 1) := by decide +kernel
theorem dX3_moveBox_47 : decode cX3_moveBox 47 = .ok (.ifCond .eq 7, 3) := by decide +kernel
theorem dX3_moveBox_50 : decode cX3_moveBox 50 = .ok (.iconst 1, 1) := by decide +kernel
theorem dX3_moveBox_51 : decode cX3_moveBox 51 = .ok (.goto 4, 3) := by decide +kernel
theorem dX3_moveBox_54 : decode cX3_moveBox 54 = .ok (.iconst 0, 1) := by decide +kernel
theorem dX3_moveBox_55 : decode cX3_moveBox 55 = .ok (.ireturn, 1) := by decide +kernel
set_option maxRecDepth 20000 in
theorem ggX3_whyNotFreeOn_X3_isPlace : GoodIn wsX3_whyNotFreeOn wsX3_isPlace := goodIn_r _ [6] (by decide +kernel) (by decide +kernel)
set_option maxRecDepth 20000 in
theorem gX3_whyNotFreeOn_X3_isPlace : GoodIn wsX3_whyNotFreeOn (va_wsS RX3 97 yX3_isPlace wsX3_isPlace) := goodIn_app (goodIn_of _ (by decide +kernel)) ggX3_whyNotFreeOn_X3_isPlace
theorem dX3_whyNotFreeOn_0 : decode cX3_whyNotFreeOn 0 = .ok (.iload_n 1, 1) := by decide +kernel
theorem dX3_whyNotFreeOn_1 : decode cX3_whyNotFreeOn 1 = .ok (.invokestatic 97, 3) := by decide +kernel
theorem dX3_whyNotFreeOn_4 : decode cX3_whyNotFreeOn 4 = .ok (.ifCond .ne 5, 3) := by decide +kernel
theorem dX3_whyNotFreeOn_7 : decode cX3_whyNotFreeOn 7 = .ok (.iconst (-1), 1) := by decide +kernel
theorem dX3_whyNotFreeOn_8 : decode cX3_whyNotFreeOn 8 = .ok (.ireturn, 1) := by decide +kernel
theorem dX3_whyNotFreeOn_9 : decode cX3_whyNotFreeOn 9 = .ok (.aload_n 0, 1) := by decide +kernel
theorem dX3_whyNotFreeOn_10 : decode cX3_whyNotFreeOn 10 = .ok (.getfield 25, 3) := by decide +kernel
theorem dX3_whyNotFreeOn_13 : decode cX3_whyNotFreeOn 13 = .ok (.iload_n 1, 1) := by decide +kernel
theorem dX3_whyNotFreeOn_14 : decode cX3_whyNotFreeOn 14 = .ok (.aaload, 1) := by decide +kernel
theorem dX3_whyNotFreeOn_15 : decode cX3_whyNotFreeOn 15 = .ok (.ifnull 12, 3) := by decide +kernel
theorem dX3_whyNotFreeOn_18 : decode cX3_whyNotFreeOn 18 = .ok (.aload_n 0, 1) := by decide +kernel
theorem dX3_whyNotFreeOn_19 : decode cX3_whyNotFreeOn 19 = .ok (.getfield 33, 3) := by decide +kernel
theorem dX3_whyNotFreeOn_22 : decode cX3_whyNotFreeOn 22 = .ok (.iload_n 1, 1) := by decide +kernel
theorem dX3_whyNotFreeOn_23 : decode cX3_whyNotFreeOn 23 = .ok (.iaload, 1) := by decide +kernel
theorem dX3_whyNotFreeOn_24 : decode cX3_whyNotFreeOn 24 = .ok (.ifCond .eq 8, 3) := by decide +kernel
theorem dX3_whyNotFreeOn_27 : decode cX3_whyNotFreeOn 27 = .ok (.bipush (-2), 2) := by decide +kernel
theorem dX3_whyNotFreeOn_29 : decode cX3_whyNotFreeOn 29 = .ok (.goto 4, 3) := by decide +kernel
theorem dX3_whyNotFreeOn_32 : decode cX3_whyNotFreeOn 32 = .ok (.iconst 0, 1) := by decide +kernel
theorem dX3_whyNotFreeOn_33 : decode cX3_whyNotFreeOn 33 = .ok (.ireturn, 1) := by decide +kernel
set_option maxRecDepth 20000 in
theorem ggX3_takeAway_X3_whyNotFreeOn : GoodIn wsX3_takeAway wsX3_whyNotFreeOn := goodIn_r _ [6, 1, 7, 8, 9, 5, 10, 35, 36, 37, 38, 39, 40, 41, 42, 43] (by decide +kernel) (by decide +kernel)
set_option maxRecDepth 20000 in
theorem gX3_takeAway_X3_whyNotFreeOn : GoodIn wsX3_takeAway (wsV RX3 187 RX3 yX3_whyNotFreeOn wsX3_whyNotFreeOn) := goodIn_app (goodIn_of _ (by decide +kernel)) ggX3_takeAway_X3_whyNotFreeOn
set_option maxRecDepth 20000 in
theorem ggX3_takeAway_X3_addRow : GoodIn wsX3_takeAway wsX3_addRow := goodIn_r _ [14, 15, 16, 17, 18, 19, 20, 21, 22, 23, 24, 25, 26, 27, 28, 29, 30, 31, 32, 33, 34, 35, 36, 37, 38, 39, 40, 41, 42, 43, 44] (by decide +kernel) (by decide +kernel)
set_option maxRecDepth 20000 in
theorem gX3_takeAway_X3_addRow : GoodIn wsX3_takeAway (wsV RX3 104 RX3 yX3_addRow wsX3_addRow) := goodIn_app (goodIn_of _ (by decide +kernel)) ggX3_takeAway_X3_addRow
theorem dX3_takeAway_0 : decode cX3_takeAway 0 = .ok (.aload_n 0, 1) := by decide +kernel
theorem dX3_takeAway_1 : decode cX3_takeAway 1 = .ok (.iload_n 1, 1) := by decide +kernel
theorem dX3_takeAway_2 : decode cX3_takeAway 2 = .ok (.invokevirtual 187, 3) := by decide +kernel
theorem dX3_takeAway_5 : decode cX3_takeAway 5 = .ok (.istore_n 2, 1) := by decide +kernel
theorem dX3_takeAway_6 : decode cX3_takeAway 6 = .ok (.iload_n 2, 1) := by decide +kernel
theorem dX3_takeAway_7 : decode cX3_takeAway 7 = .ok (.ifCond .eq 5, 3) := by decide +kernel
theorem dX3_takeAway_10 : decode cX3_takeAway 10 = .ok (.iload_n 2, 1) := by decide +kernel
theorem dX3_takeAway_11 : decode cX3_takeAway 11 = .ok (.ireturn, 1) := by decide +kernel
theorem dX3_takeAway_12 : decode cX3_takeAway 12 = .ok (.aload_n 0, 1) := by decide +kernel
theorem dX3_takeAway_13 : decode cX3_takeAway 13 = .ok (.getfield 25, 3) := by decide +kernel
theorem dX3_takeAway_16 : decode cX3_takeAway 16 = .ok (.iload_n 1, 1) := by decide +kernel
theorem dX3_takeAway_17 : decode cX3_takeAway 17 = .ok (.aconst_null, 1) := by decide +kernel
theorem dX3_takeAway_18 : decode cX3_takeAway 18 = .ok (.aastore, 1) := by decide +kernel
theorem dX3_takeAway_19 : decode cX3_takeAway 19 = .ok (.aload_n 0, 1) := by decide +kernel
theorem dX3_takeAway_20 : decode cX3_takeAway 20 = .ok (.invokevirtual 104, 3) := by decide +kernel
theorem dX3_takeAway_23 : decode cX3_takeAway 23 = .ok (.bipush 11, 2) := by decide +kernel
theorem dX3_takeAway_25 : decode cX3_takeAway 25 = .ok (.dup2, 1) := by decide +kernel
theorem dX3_takeAway_26 : decode cX3_takeAway 26 = .ok (.laload, 1) := by decide +kernel
theorem dX3_takeAway_27 : decode cX3_takeAway 27 = .ok (.lconst 1, 1) := by decide +kernel
theorem dX3_takeAway_28 : decode cX3_takeAway 28 = .ok (.lsub, 1) := by decide +kernel
theorem dX3_takeAway_29 : decode cX3_takeAway 29 = .ok (.lastore, 1) := by decide +kernel
theorem dX3_takeAway_30 : decode cX3_takeAway 30 = .ok (.iconst 0, 1) := by decide +kernel
theorem dX3_takeAway_31 : decode cX3_takeAway 31 = .ok (.ireturn, 1) := by decide +kernel
theorem dX3_isTerm_0 : decode cX3_isTerm 0 = .ok (.iload_n 0, 1) := by decide +kernel
theorem dX3_isTerm_1 : decode cX3_isTerm 1 = .ok (.iconst 1, 1) := by decide +kernel
theorem dX3_isTerm_2 : decode cX3_isTerm 2 = .ok (.if_icmp .lt 13, 3) := by decide +kernel
theorem dX3_isTerm_5 : decode cX3_isTerm 5 = .ok (.iload_n 0, 1) := by decide +kernel
theorem dX3_isTerm_6 : decode cX3_isTerm 6 = .ok (.bipush 12, 2) := by decide +kernel
theorem dX3_isTerm_8 : decode cX3_isTerm 8 = .ok (.if_icmp .gt 7, 3) := by decide +kernel
theorem dX3_isTerm_11 : decode cX3_isTerm 11 = .ok (.iconst 1, 1) := by decide +kernel
theorem dX3_isTerm_12 : decode cX3_isTerm 12 = .ok (.goto 4, 3) := by decide +kernel
theorem dX3_isTerm_15 : decode cX3_isTerm 15 = .ok (.iconst 0, 1) := by decide +kernel
theorem dX3_isTerm_16 : decode cX3_isTerm 16 = .ok (.ireturn, 1) := by decide +kernel
theorem dX3_rateOf_0 : decode cX3_rateOf 0 = .ok (.iconst 4, 1) := by decide +kernel
theorem dX3_rateOf_1 : decode cX3_rateOf 1 = .ok (.iload_n 1, 1) := by decide +kernel
theorem dX3_rateOf_2 : decode cX3_rateOf 2 = .ok (.iadd, 1) := by decide +kernel
theorem dX3_rateOf_3 : decode cX3_rateOf 3 = .ok (.istore_n 2, 1) := by decide +kernel
theorem dX3_rateOf_4 : decode cX3_rateOf 4 = .ok (.iload_n 2, 1) := by decide +kernel
theorem dX3_rateOf_5 : decode cX3_rateOf 5 = .ok (.iconst 4, 1) := by decide +kernel
theorem dX3_rateOf_6 : decode cX3_rateOf 6 = .ok (.if_icmp .lt 18, 3) := by decide +kernel
theorem dX3_rateOf_9 : decode cX3_rateOf 9 = .ok (.iload_n 2, 1) := by decide +kernel
theorem dX3_rateOf_10 : decode cX3_rateOf 10 = .ok (.bipush 9, 2) := by decide +kernel
theorem dX3_rateOf_12 : decode cX3_rateOf 12 = .ok (.if_icmp .ge 12, 3) := by decide +kernel
theorem dX3_rateOf_15 : decode cX3_rateOf 15 = .ok (.aload_n 0, 1) := by decide +kernel
theorem dX3_rateOf_16 : decode cX3_rateOf 16 = .ok (.getfield 18, 3) := by decide +kernel
theorem dX3_rateOf_19 : decode cX3_rateOf 19 = .ok (.iload_n 2, 1) := by decide +kernel
theorem dX3_rateOf_20 : decode cX3_rateOf 20 = .ok (.iaload, 1) := by decide +kernel
theorem dX3_rateOf_21 : decode cX3_rateOf 21 = .ok (.goto 4, 3) := by decide +kernel
theorem dX3_rateOf_24 : decode cX3_rateOf 24 = .ok (.iconst 0, 1) := by decide +kernel
theorem dX3_rateOf_25 : decode cX3_rateOf 25 = .ok (.ireturn, 1) := by decide +kernel
theorem dX3_partOf_0 : decode cX3_partOf 0 = .ok (.bipush 9, 2) := by decide +kernel
theorem dX3_partOf_2 : decode cX3_partOf 2 = .ok (.iload_n 1, 1) := by decide +kernel
theorem dX3_partOf_3 : decode cX3_partOf 3 = .ok (.iadd, 1) := by decide +kernel
theorem dX3_partOf_4 : decode cX3_partOf 4 = .ok (.istore_n 3, 1) := by decide +kernel
theorem dX3_partOf_5 : decode cX3_partOf 5 = .ok (.iload_n 3, 1) := by decide +kernel
theorem dX3_partOf_6 : decode cX3_partOf 6 = .ok (.bipush 9, 2) := by decide +kernel
theorem dX3_partOf_8 : decode cX3_partOf 8 = .ok (.if_icmp .lt 30, 3) := by decide +kernel
theorem dX3_partOf_11 : decode cX3_partOf 11 = .ok (.iload_n 3, 1) := by decide +kernel
theorem dX3_partOf_12 : decode cX3_partOf 12 = .ok (.aload_n 0, 1) := by decide +kernel
theorem dX3_partOf_13 : decode cX3_partOf 13 = .ok (.getfield 18, 3) := by decide +kernel
theorem dX3_partOf_16 : decode cX3_partOf 16 = .ok (.arraylength, 1) := by decide +kernel
theorem dX3_partOf_17 : decode cX3_partOf 17 = .ok (.if_icmp .ge 21, 3) := by decide +kernel
theorem dX3_partOf_20 : decode cX3_partOf 20 = .ok (.iload_n 2, 1) := by decide +kernel
theorem dX3_partOf_21 : decode cX3_partOf 21 = .ok (.i2l, 1) := by decide +kernel
theorem dX3_partOf_22 : decode cX3_partOf 22 = .ok (.aload_n 0, 1) := by decide +kernel
theorem dX3_partOf_23 : decode cX3_partOf 23 = .ok (.getfield 18, 3) := by decide +kernel
theorem dX3_partOf_26 : decode cX3_partOf 26 = .ok (.iload_n 3, 1) := by decide +kernel
theorem dX3_partOf_27 : decode cX3_partOf 27 = .ok (.iaload, 1) := by decide +kernel
theorem dX3_partOf_28 : decode cX3_partOf 28 = .ok (.i2l, 1) := by decide +kernel
theorem dX3_partOf_29 : decode cX3_partOf 29 = .ok (.lmul, 1) := by decide +kernel
theorem dX3_partOf_30 : decode cX3_partOf 30 = .ok (.ldc2_w 190, 3) := by decide +kernel
theorem dX3_partOf_33 : decode cX3_partOf 33 = .ok (.ldiv, 1) := by decide +kernel
theorem dX3_partOf_34 : decode cX3_partOf 34 = .ok (.l2i, 1) := by decide +kernel
theorem dX3_partOf_35 : decode cX3_partOf 35 = .ok (.goto 4, 3) := by decide +kernel
theorem dX3_partOf_38 : decode cX3_partOf 38 = .ok (.iconst 0, 1) := by decide +kernel
theorem dX3_partOf_39 : decode cX3_partOf 39 = .ok (.ireturn, 1) := by decide +kernel
set_option maxRecDepth 20000 in
theorem ggX3_worthOf_X1_worth : GoodIn wsX3_worthOf wsX1_worth := goodIn_r _ [8, 9, 10, 11, 12, 56, 57, 58] (by decide +kernel) (by decide +kernel)
set_option maxRecDepth 20000 in
theorem gX3_worthOf_X1_worth_u192X1 : GoodIn wsX3_worthOf (va_wsU RX3 192 RX1 "PledgeHouse$Pledge" ⟨"PledgeHouse$Pledge", "worth", "(II)I"⟩ yX1_worth wsX1_worth) := goodIn_app (goodIn_of _ (by decide +kernel)) ggX3_worthOf_X1_worth
set_option maxRecDepth 20000 in
theorem ggX3_worthOf_X2_worth : GoodIn wsX3_worthOf wsX2_worth := goodIn_r _ [16, 17, 18, 19, 20, 21, 22, 23, 24, 25, 59, 60, 61, 62, 63, 64, 65, 66, 67] (by decide +kernel) (by decide +kernel)
set_option maxRecDepth 20000 in
theorem gX3_worthOf_X2_worth_u192X2 : GoodIn wsX3_worthOf (va_wsU RX3 192 RX2 "PledgeHouse$Pledge" ⟨"PledgeHouse$Pledge", "worth", "(II)I"⟩ yX2_worth wsX2_worth) := goodIn_app (goodIn_of _ (by decide +kernel)) ggX3_worthOf_X2_worth
set_option maxRecDepth 20000 in
theorem ggX3_worthOf_X4_worth : GoodIn wsX3_worthOf wsX4_worth := goodIn_r _ [29, 30, 68, 69] (by decide +kernel) (by decide +kernel)
set_option maxRecDepth 20000 in
theorem gX3_worthOf_X4_worth_u192X4 : GoodIn wsX3_worthOf (va_wsU RX3 192 RX4 "PledgeHouse$Pledge" ⟨"PledgeHouse$Pledge", "worth", "(II)I"⟩ yX4_worth wsX4_worth) := goodIn_app (goodIn_of _ (by decide +kernel)) ggX3_worthOf_X4_worth
set_option maxRecDepth 20000 in
theorem ggX3_worthOf_X6_worth : GoodIn wsX3_worthOf wsX6_worth := goodIn_r _ [34, 35, 36, 37, 38, 39, 40, 41, 62, 63, 64, 65, 66, 67] (by decide +kernel) (by decide +kernel)
set_option maxRecDepth 20000 in
theorem gX3_worthOf_X6_worth_u192X6 : GoodIn wsX3_worthOf (va_wsU RX3 192 RX6 "PledgeHouse$Pledge" ⟨"PledgeHouse$Pledge", "worth", "(II)I"⟩ yX6_worth wsX6_worth) := goodIn_app (goodIn_of _ (by decide +kernel)) ggX3_worthOf_X6_worth
set_option maxRecDepth 20000 in
theorem ggX3_worthOf_X8_worth : GoodIn wsX3_worthOf wsX8_worth := goodIn_r _ [45, 46, 70] (by decide +kernel) (by decide +kernel)
set_option maxRecDepth 20000 in
theorem gX3_worthOf_X8_worth_u192X8 : GoodIn wsX3_worthOf (va_wsU RX3 192 RX8 "PledgeHouse$Pledge" ⟨"PledgeHouse$Pledge", "worth", "(II)I"⟩ yX8_worth wsX8_worth) := goodIn_app (goodIn_of _ (by decide +kernel)) ggX3_worthOf_X8_worth
theorem dX3_worthOf_0 : decode cX3_worthOf 0 = .ok (.aload_n 1, 1) := by decide +kernel
theorem dX3_worthOf_1 : decode cX3_worthOf 1 = .ok (.aload_n 0, 1) := by decide +kernel
theorem dX3_worthOf_2 : decode cX3_worthOf 2 = .ok (.getfield 50, 3) := by decide +kernel
theorem dX3_worthOf_5 : decode cX3_worthOf 5 = .ok (.aload_n 0, 1) := by decide +kernel
theorem dX3_worthOf_6 : decode cX3_worthOf 6 = .ok (.getfield 18, 3) := by decide +kernel
theorem dX3_worthOf_9 : decode cX3_worthOf 9 = .ok (.iconst 3, 1) := by decide +kernel
theorem dX3_worthOf_10 : decode cX3_worthOf 10 = .ok (.iaload, 1) := by decide +kernel
theorem dX3_worthOf_11 : decode cX3_worthOf 11 = .ok (.invokevirtual 192, 3) := by decide +kernel
theorem dX3_worthOf_14 : decode cX3_worthOf 14 = .ok (.ireturn, 1) := by decide +kernel
set_option maxRecDepth 20000 in
theorem ggX3_lendOn_X3_whyNotFreeOn : GoodIn wsX3_lendOn wsX3_whyNotFreeOn := goodIn_r _ [10, 1, 4, 11, 12, 9, 13, 179, 180, 181, 182, 183, 184, 185, 186, 187] (by decide +kernel) (by decide +kernel)
set_option maxRecDepth 20000 in
theorem gX3_lendOn_X3_whyNotFreeOn : GoodIn wsX3_lendOn (wsV RX3 187 RX3 yX3_whyNotFreeOn wsX3_whyNotFreeOn) := goodIn_app (goodIn_of _ (by decide +kernel)) ggX3_lendOn_X3_whyNotFreeOn
set_option maxRecDepth 20000 in
theorem ggX3_lendOn_X3_isTerm : GoodIn wsX3_lendOn wsX3_isTerm := goodIn_r _ [16] (by decide +kernel) (by decide +kernel)
set_option maxRecDepth 20000 in
theorem gX3_lendOn_X3_isTerm : GoodIn wsX3_lendOn (va_wsS RX3 195 yX3_isTerm wsX3_isTerm) := goodIn_app (goodIn_of _ (by decide +kernel)) ggX3_lendOn_X3_isTerm
set_option maxRecDepth 20000 in
theorem ggX3_lendOn_X1_kind : GoodIn wsX3_lendOn wsX1_kind := goodIn_r _ [22] (by decide +kernel) (by decide +kernel)
set_option maxRecDepth 20000 in
theorem gX3_lendOn_X1_kind_u198X1 : GoodIn wsX3_lendOn (va_wsU RX3 198 RX1 "PledgeHouse$Pledge" ⟨"PledgeHouse$Pledge", "kind", "()I"⟩ yX1_kind wsX1_kind) := goodIn_app (goodIn_of _ (by decide +kernel)) ggX3_lendOn_X1_kind
set_option maxRecDepth 20000 in
theorem ggX3_lendOn_X2_kind : GoodIn wsX3_lendOn wsX2_kind := goodIn_r _ [26] (by decide +kernel) (by decide +kernel)
set_option maxRecDepth 20000 in
theorem gX3_lendOn_X2_kind_u198X2 : GoodIn wsX3_lendOn (va_wsU RX3 198 RX2 "PledgeHouse$Pledge" ⟨"PledgeHouse$Pledge", "kind", "()I"⟩ yX2_kind wsX2_kind) := goodIn_app (goodIn_of _ (by decide +kernel)) ggX3_lendOn_X2_kind
set_option maxRecDepth 20000 in
theorem ggX3_lendOn_X4_kind : GoodIn wsX3_lendOn wsX4_kind := goodIn_r _ [30] (by decide +kernel) (by decide +kernel)
set_option maxRecDepth 20000 in
theorem gX3_lendOn_X4_kind_u198X4 : GoodIn wsX3_lendOn (va_wsU RX3 198 RX4 "PledgeHouse$Pledge" ⟨"PledgeHouse$Pledge", "kind", "()I"⟩ yX4_kind wsX4_kind) := goodIn_app (goodIn_of _ (by decide +kernel)) ggX3_lendOn_X4_kind
set_option maxRecDepth 20000 in
theorem ggX3_lendOn_X6_kind : GoodIn wsX3_lendOn wsX6_kind := goodIn_r _ [34] (by decide +kernel) (by decide +kernel)
set_option maxRecDepth 20000 in
theorem gX3_lendOn_X6_kind_u198X6 : GoodIn wsX3_lendOn (va_wsU RX3 198 RX6 "PledgeHouse$Pledge" ⟨"PledgeHouse$Pledge", "kind", "()I"⟩ yX6_kind wsX6_kind) := goodIn_app (goodIn_of _ (by decide +kernel)) ggX3_lendOn_X6_kind
set_option maxRecDepth 20000 in
theorem ggX3_lendOn_X8_kind : GoodIn wsX3_lendOn wsX8_kind := goodIn_r _ [38] (by decide +kernel) (by decide +kernel)
set_option maxRecDepth 20000 in
theorem gX3_lendOn_X8_kind_u198X8 : GoodIn wsX3_lendOn (va_wsU RX3 198 RX8 "PledgeHouse$Pledge" ⟨"PledgeHouse$Pledge", "kind", "()I"⟩ yX8_kind wsX8_kind) := goodIn_app (goodIn_of _ (by decide +kernel)) ggX3_lendOn_X8_kind
set_option maxRecDepth 20000 in
theorem ggX3_lendOn_X3_worthOf : GoodIn wsX3_lendOn wsX3_worthOf := goodIn_r _ [42, 43, 44, 45, 46, 47, 48, 21, 49, 50, 51, 52, 53, 54, 55, 25, 56, 57, 58, 59, 60, 61, 62, 63, 64, 65, 66, 67, 29, 68, 69, 70, 71, 33, 72, 73, 74, 75, 76, 77, 78, 79, 80, 81, 37, 82, 83, 179, 180, 181, 182, 183, 184, 185, 186, 187, 207, 208, 209, 210, 211, 212, 213, 214, 215, 216, 217, 218, 219, 220, 221] (by decide +kernel) (by decide +kernel)
set_option maxRecDepth 20000 in
theorem gX3_lendOn_X3_worthOf : GoodIn wsX3_lendOn (wsV RX3 201 RX3 yX3_worthOf wsX3_worthOf) := goodIn_app (goodIn_of _ (by decide +kernel)) ggX3_lendOn_X3_worthOf
set_option maxRecDepth 20000 in
theorem ggX3_lendOn_X3_partOf : GoodIn wsX3_lendOn wsX3_partOf := goodIn_r _ [87, 44, 88, 179, 180, 181, 182, 183, 184, 185, 186, 187] (by decide +kernel) (by decide +kernel)
set_option maxRecDepth 20000 in
theorem gX3_lendOn_X3_partOf : GoodIn wsX3_lendOn (wsV RX3 205 RX3 yX3_partOf wsX3_partOf) := goodIn_app (goodIn_of _ (by decide +kernel)) ggX3_lendOn_X3_partOf
set_option maxRecDepth 20000 in
theorem ggX3_lendOn_X3_writeTicket : GoodIn wsX3_lendOn wsX3_writeTicket := goodIn_r _ [92, 93, 94, 95, 96, 2, 5, 97, 98, 43, 99, 100, 101, 102, 103, 104, 105, 106, 107, 108, 109, 110, 111, 112, 113, 114, 115, 116, 117, 118, 119, 120, 121, 9, 122, 44, 123, 124, 125, 126, 127, 128, 129, 130, 131, 132, 133, 134, 135, 136, 137, 138, 139, 140, 141, 142, 143, 144, 145, 146, 147, 148, 149, 188, 189, 190, 191, 192, 193, 194, 195, 196, 197, 198, 199, 200, 201, 202, 203, 204, 205, 206, 179, 180, 181, 182, 183, 184, 185, 186, 187, 222, 223, 224, 225, 226, 227] (by decide +kernel) (by decide +kernel)
set_option maxRecDepth 20000 in
theorem gX3_lendOn_X3_writeTicket : GoodIn wsX3_lendOn (wsV RX3 208 RX3 yX3_writeTicket wsX3_writeTicket) := goodIn_app (goodIn_of _ (by decide +kernel)) ggX3_lendOn_X3_writeTicket
set_option maxRecDepth 20000 in
theorem ggX3_lendOn_X3_addRow : GoodIn wsX3_lendOn wsX3_addRow := goodIn_r _ [153, 154, 155, 43, 156, 157, 158, 159, 160, 161, 77, 78, 79, 162, 163, 164, 165, 166, 167, 168, 169, 179, 180, 181, 182, 183, 184, 185, 186, 187, 228] (by decide +kernel) (by decide +kernel)
set_option maxRecDepth 20000 in
theorem gX3_lendOn_X3_addRow : GoodIn wsX3_lendOn (wsV RX3 104 RX3 yX3_addRow wsX3_addRow) := goodIn_app (goodIn_of _ (by decide +kernel)) ggX3_lendOn_X3_addRow
set_option maxRecDepth 20000 in
theorem ggX3_lendOn_X0_writeGrowing : GoodIn wsX3_lendOn wsX0_writeGrowing := goodIn_r _ [172, 173, 174, 175, 176, 177, 178, 142, 143, 108, 144, 129, 145, 146, 147, 148, 149, 188, 189, 190, 191, 192, 193, 194, 195, 196, 197, 198, 199, 200, 201, 202, 203, 204, 205, 206, 222, 223, 224, 225, 226, 227] (by decide +kernel) (by decide +kernel)
set_option maxRecDepth 20000 in
theorem gX3_lendOn_X0_writeGrowing : GoodIn wsX3_lendOn (va_wsS RX3 218 yX0_writeGrowing wsX0_writeGrowing) := goodIn_app (goodIn_of _ (by decide +kernel)) ggX3_lendOn_X0_writeGrowing
theorem dX3_lendOn_0 : decode cX3_lendOn 0 = .ok (.aload_n 0, 1) := by decide +kernel
theorem dX3_lendOn_1 : decode cX3_lendOn 1 = .ok (.iload_n 1, 1) := by decide +kernel
theorem dX3_lendOn_2 : decode cX3_lendOn 2 = .ok (.invokevirtual 187, 3) := by decide +kernel
theorem dX3_lendOn_5 : decode cX3_lendOn 5 = .ok (.istore 4, 2) := by decide +kernel
theorem dX3_lendOn_7 : decode cX3_lendOn 7 = .ok (.iload 4, 2) := by decide +kernel
theorem dX3_lendOn_9 : decode cX3_lendOn 9 = .ok (.ifCond .eq 6, 3) := by decide +kernel
theorem dX3_lendOn_12 : decode cX3_lendOn 12 = .ok (.iload 4, 2) := by decide +kernel
theorem dX3_lendOn_14 : decode cX3_lendOn 14 = .ok (.ireturn, 1) := by decide +kernel
theorem dX3_lendOn_15 : decode cX3_lendOn 15 = .ok (.aload_n 0, 1) := by decide +kernel
theorem dX3_lendOn_16 : decode cX3_lendOn 16 = .ok (.getfield 25, 3) := by decide +kernel
theorem dX3_lendOn_19 : decode cX3_lendOn 19 = .ok (.iload_n 1, 1) := by decide +kernel
theorem dX3_lendOn_20 : decode cX3_lendOn 20 = .ok (.aaload, 1) := by decide +kernel
theorem dX3_lendOn_21 : decode cX3_lendOn 21 = .ok (.astore 5, 2) := by decide +kernel
theorem dX3_lendOn_23 : decode cX3_lendOn 23 = .ok (.iload_n 3, 1) := by decide +kernel
theorem dX3_lendOn_24 : decode cX3_lendOn 24 = .ok (.invokestatic 195, 3) := by decide +kernel
theorem dX3_lendOn_27 : decode cX3_lendOn 27 = .ok (.ifCond .eq 27, 3) := by decide +kernel
theorem dX3_lendOn_30 : decode cX3_lendOn 30 = .ok (.iload_n 2, 1) := by decide +kernel
theorem dX3_lendOn_31 : decode cX3_lendOn 31 = .ok (.iconst 1, 1) := by decide +kernel
theorem dX3_lendOn_32 : decode cX3_lendOn 32 = .ok (.if_icmp .lt 22, 3) := by decide +kernel
theorem dX3_lendOn_35 : decode cX3_lendOn 35 = .ok (.iload_n 2, 1) := by decide +kernel
theorem dX3_lendOn_36 : decode cX3_lendOn 36 = .ok (.aload_n 0, 1) := by decide +kernel
theorem dX3_lendOn_37 : decode cX3_lendOn 37 = .ok (.aload 5, 2) := by decide +kernel
theorem dX3_lendOn_39 : decode cX3_lendOn 39 = .ok (.invokevirtual 198, 3) := by decide +kernel
theorem dX3_lendOn_42 : decode cX3_lendOn 42 = .ok (.aload_n 0, 1) := by decide +kernel
theorem dX3_lendOn_43 : decode cX3_lendOn 43 = .ok (.aload 5, 2) := by decide +kernel
theorem dX3_lendOn_45 : decode cX3_lendOn 45 = .ok (.invokevirtual 201, 3) := by decide +kernel
theorem dX3_lendOn_48 : decode cX3_lendOn 48 = .ok (.invokevirtual 205, 3) := by decide +kernel
theorem dX3_lendOn_51 : decode cX3_lendOn 51 = .ok (.if_icmp .le 6, 3) := by decide +kernel
theorem dX3_lendOn_54 : decode cX3_lendOn 54 = .ok (.bipush (-6), 2) := by decide +kernel
theorem dX3_lendOn_56 : decode cX3_lendOn 56 = .ok (.ireturn, 1) := by decide +kernel
theorem dX3_lendOn_57 : decode cX3_lendOn 57 = .ok (.aload_n 0, 1) := by decide +kernel
theorem dX3_lendOn_58 : decode cX3_lendOn 58 = .ok (.getfield 59, 3) := by decide +kernel
theorem dX3_lendOn_61 : decode cX3_lendOn 61 = .ok (.sipush 511, 3) := by decide +kernel
theorem dX3_lendOn_64 : decode cX3_lendOn 64 = .ok (.if_icmp .lt 6, 3) := by decide +kernel
theorem dX3_lendOn_67 : decode cX3_lendOn 67 = .ok (.bipush (-7), 2) := by decide +kernel
theorem dX3_lendOn_69 : decode cX3_lendOn 69 = .ok (.ireturn, 1) := by decide +kernel
theorem dX3_lendOn_70 : decode cX3_lendOn 70 = .ok (.aload_n 0, 1) := by decide +kernel
theorem dX3_lendOn_71 : decode cX3_lendOn 71 = .ok (.aload 5, 2) := by decide +kernel
theorem dX3_lendOn_73 : decode cX3_lendOn 73 = .ok (.invokevirtual 198, 3) := by decide +kernel
theorem dX3_lendOn_76 : decode cX3_lendOn 76 = .ok (.iload_n 2, 1) := by decide +kernel
theorem dX3_lendOn_77 : decode cX3_lendOn 77 = .ok (.iload_n 3, 1) := by decide +kernel
theorem dX3_lendOn_78 : decode cX3_lendOn 78 = .ok (.invokevirtual 208, 3) := by decide +kernel
theorem dX3_lendOn_81 : decode cX3_lendOn 81 = .ok (.astore 6, 2) := by decide +kernel
theorem dX3_lendOn_83 : decode cX3_lendOn 83 = .ok (.aload 6, 2) := by decide +kernel
theorem dX3_lendOn_85 : decode cX3_lendOn 85 = .ok (.iload_n 1, 1) := by decide +kernel
theorem dX3_lendOn_86 : decode cX3_lendOn 86 = .ok (.putfield 212, 3) := by decide +kernel
theorem dX3_lendOn_89 : decode cX3_lendOn 89 = .ok (.aload_n 0, 1) := by decide +kernel
theorem dX3_lendOn_90 : decode cX3_lendOn 90 = .ok (.getfield 33, 3) := by decide +kernel
theorem dX3_lendOn_93 : decode cX3_lendOn 93 = .ok (.iload_n 1, 1) := by decide +kernel
theorem dX3_lendOn_94 : decode cX3_lendOn 94 = .ok (.aload 6, 2) := by decide +kernel
theorem dX3_lendOn_96 : decode cX3_lendOn 96 = .ok (.getfield 215, 3) := by decide +kernel
theorem dX3_lendOn_99 : decode cX3_lendOn 99 = .ok (.iastore, 1) := by decide +kernel
theorem dX3_lendOn_100 : decode cX3_lendOn 100 = .ok (.aload_n 0, 1) := by decide +kernel
theorem dX3_lendOn_101 : decode cX3_lendOn 101 = .ok (.invokevirtual 104, 3) := by decide +kernel
theorem dX3_lendOn_104 : decode cX3_lendOn 104 = .ok (.astore 7, 2) := by decide +kernel
theorem dX3_lendOn_106 : decode cX3_lendOn 106 = .ok (.aload 7, 2) := by decide +kernel
theorem dX3_lendOn_108 : decode cX3_lendOn 108 = .ok (.iconst 0, 1) := by decide +kernel
theorem dX3_lendOn_109 : decode cX3_lendOn 109 = .ok (.dup2, 1) := by decide +kernel
theorem dX3_lendOn_110 : decode cX3_lendOn 110 = .ok (.laload, 1) := by decide +kernel
theorem dX3_lendOn_111 : decode cX3_lendOn 111 = .ok (.iload_n 2, 1) := by decide +kernel
theorem dX3_lendOn_112 : decode cX3_lendOn 112 = .ok (.i2l, 1) := by decide +kernel
theorem dX3_lendOn_113 : decode cX3_lendOn 113 = .ok (.ladd, 1) := by decide +kernel
theorem dX3_lendOn_114 : decode cX3_lendOn 114 = .ok (.lastore, 1) := by decide +kernel
theorem dX3_lendOn_115 : decode cX3_lendOn 115 = .ok (.aload 7, 2) := by decide +kernel
theorem dX3_lendOn_117 : decode cX3_lendOn 117 = .ok (.bipush 8, 2) := by decide +kernel
theorem dX3_lendOn_119 : decode cX3_lendOn 119 = .ok (.dup2, 1) := by decide +kernel
theorem dX3_lendOn_120 : decode cX3_lendOn 120 = .ok (.laload, 1) := by decide +kernel
theorem dX3_lendOn_121 : decode cX3_lendOn 121 = .ok (.iload_n 2, 1) := by decide +kernel
theorem dX3_lendOn_122 : decode cX3_lendOn 122 = .ok (.i2l, 1) := by decide +kernel
theorem dX3_lendOn_123 : decode cX3_lendOn 123 = .ok (.ladd, 1) := by decide +kernel
theorem dX3_lendOn_124 : decode cX3_lendOn 124 = .ok (.lastore, 1) := by decide +kernel
theorem dX3_lendOn_125 : decode cX3_lendOn 125 = .ok (.aload 7, 2) := by decide +kernel
theorem dX3_lendOn_127 : decode cX3_lendOn 127 = .ok (.bipush 10, 2) := by decide +kernel
theorem dX3_lendOn_129 : decode cX3_lendOn 129 = .ok (.dup2, 1) := by decide +kernel
theorem dX3_lendOn_130 : decode cX3_lendOn 130 = .ok (.laload, 1) := by decide +kernel
theorem dX3_lendOn_131 : decode cX3_lendOn 131 = .ok (.lconst 1, 1) := by decide +kernel
theorem dX3_lendOn_132 : decode cX3_lendOn 132 = .ok (.ladd, 1) := by decide +kernel
theorem dX3_lendOn_133 : decode cX3_lendOn 133 = .ok (.lastore, 1) := by decide +kernel
theorem dX3_lendOn_134 : decode cX3_lendOn 134 = .ok (.aload 7, 2) := by decide +kernel
theorem dX3_lendOn_136 : decode cX3_lendOn 136 = .ok (.bipush 12, 2) := by decide +kernel
theorem dX3_lendOn_138 : decode cX3_lendOn 138 = .ok (.dup2, 1) := by decide +kernel
theorem dX3_lendOn_139 : decode cX3_lendOn 139 = .ok (.laload, 1) := by decide +kernel
theorem dX3_lendOn_140 : decode cX3_lendOn 140 = .ok (.lconst 1, 1) := by decide +kernel
theorem dX3_lendOn_141 : decode cX3_lendOn 141 = .ok (.ladd, 1) := by decide +kernel
theorem dX3_lendOn_142 : decode cX3_lendOn 142 = .ok (.lastore, 1) := by decide +kernel
theorem dX3_lendOn_143 : decode cX3_lendOn 143 = .ok (.aload 7, 2) := by decide +kernel
theorem dX3_lendOn_145 : decode cX3_lendOn 145 = .ok (.bipush 17, 2) := by decide +kernel
theorem dX3_lendOn_147 : decode cX3_lendOn 147 = .ok (.aload 6, 2) := by decide +kernel
theorem dX3_lendOn_149 : decode cX3_lendOn 149 = .ok (.invokestatic 218, 3) := by decide +kernel
theorem dX3_lendOn_152 : decode cX3_lendOn 152 = .ok (.aload 6, 2) := by decide +kernel
theorem dX3_lendOn_154 : decode cX3_lendOn 154 = .ok (.getfield 215, 3) := by decide +kernel
theorem dX3_lendOn_157 : decode cX3_lendOn 157 = .ok (.ireturn, 1) := by decide +kernel
set_option maxRecDepth 20000 in
theorem ggX3_writeTicket_X9_init : GoodIn wsX3_writeTicket wsX9_init := goodIn_r _ [13, 14, 15, 16, 17, 18, 19, 20, 21, 22, 23, 24, 25, 26, 27, 28, 29, 91, 92, 93, 94, 95, 96, 63, 64, 65, 66, 67, 68, 69, 70, 71, 72, 73, 74, 75, 76, 77, 78, 79, 80, 81] (by decide +kernel) (by decide +kernel)
set_option maxRecDepth 20000 in
theorem gX3_writeTicket_X9_init_n66 : GoodIn wsX3_writeTicket (wsX9_init) := ggX3_writeTicket_X9_init
set_option maxRecDepth 20000 in
theorem ggX3_writeTicket_X3_rateOf : GoodIn wsX3_writeTicket wsX3_rateOf := goodIn_r _ [34, 35, 82, 83, 84, 85, 86, 87, 88, 89, 90] (by decide +kernel) (by decide +kernel)
set_option maxRecDepth 20000 in
theorem gX3_writeTicket_X3_rateOf : GoodIn wsX3_writeTicket (wsV RX3 227 RX3 yX3_rateOf wsX3_rateOf) := goodIn_app (goodIn_of _ (by decide +kernel)) ggX3_writeTicket_X3_rateOf
set_option maxRecDepth 20000 in
theorem ggX3_writeTicket_X7_beginAnew : GoodIn wsX3_writeTicket wsX7_beginAnew := goodIn_r _ [39, 40, 41, 42, 43, 44, 45, 91, 92, 93, 94, 95, 96] (by decide +kernel) (by decide +kernel)
set_option maxRecDepth 20000 in
theorem gX3_writeTicket_X7_beginAnew : GoodIn wsX3_writeTicket (wsV RX3 230 RX7 yX7_beginAnew wsX7_beginAnew) := goodIn_app (goodIn_of _ (by decide +kernel)) ggX3_writeTicket_X7_beginAnew
set_option maxRecDepth 20000 in
theorem ggX3_writeTicket_X7_reachDay : GoodIn wsX3_writeTicket wsX7_reachDay := goodIn_r _ [49, 40, 44, 43, 50, 51, 19, 52, 53, 54, 55, 56, 57, 42, 58, 59, 60, 61, 62, 91, 92, 93, 94, 95, 96] (by decide +kernel) (by decide +kernel)
set_option maxRecDepth 20000 in
theorem gX3_writeTicket_X7_reachDay : GoodIn wsX3_writeTicket (wsV RX3 84 RX7 yX7_reachDay wsX7_reachDay) := goodIn_app (goodIn_of _ (by decide +kernel)) ggX3_writeTicket_X7_reachDay
theorem dX3_writeTicket_0 : decode cX3_writeTicket 0 = .ok (.new 36, 3) := by decide +kernel
theorem dX3_writeTicket_3 : decode cX3_writeTicket 3 = .ok (.dup, 1) := by decide +kernel
theorem dX3_writeTicket_4 : decode cX3_writeTicket 4 = .ok (.invokespecial 66, 3) := by decide +kernel
theorem dX3_writeTicket_7 : decode cX3_writeTicket 7 = .ok (.astore 4, 2) := by decide +kernel
theorem dX3_writeTicket_9 : decode cX3_writeTicket 9 = .ok (.aload_n 0, 1) := by decide +kernel
theorem dX3_writeTicket_10 : decode cX3_writeTicket 10 = .ok (.getfield 38, 3) := by decide +kernel
theorem dX3_writeTicket_13 : decode cX3_writeTicket 13 = .ok (.aload_n 0, 1) := by decide +kernel
theorem dX3_writeTicket_14 : decode cX3_writeTicket 14 = .ok (.getfield 59, 3) := by decide +kernel
theorem dX3_writeTicket_17 : decode cX3_writeTicket 17 = .ok (.aload 4, 2) := by decide +kernel
theorem dX3_writeTicket_19 : decode cX3_writeTicket 19 = .ok (.aastore, 1) := by decide +kernel
theorem dX3_writeTicket_20 : decode cX3_writeTicket 20 = .ok (.aload_n 0, 1) := by decide +kernel
theorem dX3_writeTicket_21 : decode cX3_writeTicket 21 = .ok (.dup, 1) := by decide +kernel
theorem dX3_writeTicket_22 : decode cX3_writeTicket 22 = .ok (.getfield 59, 3) := by decide +kernel
theorem dX3_writeTicket_25 : decode cX3_writeTicket 25 = .ok (.iconst 1, 1) := by decide +kernel
theorem dX3_writeTicket_26 : decode cX3_writeTicket 26 = .ok (.iadd, 1) := by decide +kernel
theorem dX3_writeTicket_27 : decode cX3_writeTicket 27 = .ok (.putfield 59, 3) := by decide +kernel
theorem dX3_writeTicket_30 : decode cX3_writeTicket 30 = .ok (.aload 4, 2) := by decide +kernel
theorem dX3_writeTicket_32 : decode cX3_writeTicket 32 = .ok (.aload_n 0, 1) := by decide +kernel
theorem dX3_writeTicket_33 : decode cX3_writeTicket 33 = .ok (.getfield 59, 3) := by decide +kernel
theorem dX3_writeTicket_36 : decode cX3_writeTicket 36 = .ok (.putfield 215, 3) := by decide +kernel
theorem dX3_writeTicket_39 : decode cX3_writeTicket 39 = .ok (.aload 4, 2) := by decide +kernel
theorem dX3_writeTicket_41 : decode cX3_writeTicket 41 = .ok (.iload_n 1, 1) := by decide +kernel
theorem dX3_writeTicket_42 : decode cX3_writeTicket 42 = .ok (.putfield 222, 3) := by decide +kernel
theorem dX3_writeTicket_45 : decode cX3_writeTicket 45 = .ok (.aload 4, 2) := by decide +kernel
theorem dX3_writeTicket_47 : decode cX3_writeTicket 47 = .ok (.iload_n 2, 1) := by decide +kernel
theorem dX3_writeTicket_48 : decode cX3_writeTicket 48 = .ok (.putfield 81, 3) := by decide +kernel
theorem dX3_writeTicket_51 : decode cX3_writeTicket 51 = .ok (.aload 4, 2) := by decide +kernel
theorem dX3_writeTicket_53 : decode cX3_writeTicket 53 = .ok (.sipush 1000, 3) := by decide +kernel
theorem dX3_writeTicket_56 : decode cX3_writeTicket 56 = .ok (.aload_n 0, 1) := by decide +kernel
theorem dX3_writeTicket_57 : decode cX3_writeTicket 57 = .ok (.getfield 59, 3) := by decide +kernel
theorem dX3_writeTicket_60 : decode cX3_writeTicket 60 = .ok (.imul, 1) := by decide +kernel
theorem dX3_writeTicket_61 : decode cX3_writeTicket 61 = .ok (.bipush 7, 2) := by decide +kernel
theorem dX3_writeTicket_63 : decode cX3_writeTicket 63 = .ok (.iload_n 2, 1) := by decide +kernel
theorem dX3_writeTicket_64 : decode cX3_writeTicket 64 = .ok (.imul, 1) := by decide +kernel
theorem dX3_writeTicket_65 : decode cX3_writeTicket 65 = .ok (.bipush 13, 2) := by decide +kernel
theorem dX3_writeTicket_67 : decode cX3_writeTicket 67 = .ok (.aload_n 0, 1) := by decide +kernel
theorem dX3_writeTicket_68 : decode cX3_writeTicket 68 = .ok (.getfield 50, 3) := by decide +kernel
theorem dX3_writeTicket_71 : decode cX3_writeTicket 71 = .ok (.imul, 1) := by decide +kernel
theorem dX3_writeTicket_72 : decode cX3_writeTicket 72 = .ok (.iadd, 1) := by decide +kernel
theorem dX3_writeTicket_73 : decode cX3_writeTicket 73 = .ok (.sipush 1000, 3) := by decide +kernel
theorem dX3_writeTicket_76 : decode cX3_writeTicket 76 = .ok (.irem, 1) := by decide +kernel
theorem dX3_writeTicket_77 : decode cX3_writeTicket 77 = .ok (.iadd, 1) := by decide +kernel
theorem dX3_writeTicket_78 : decode cX3_writeTicket 78 = .ok (.putfield 224, 3) := by decide +kernel
theorem dX3_writeTicket_81 : decode cX3_writeTicket 81 = .ok (.aload 4, 2) := by decide +kernel
theorem dX3_writeTicket_83 : decode cX3_writeTicket 83 = .ok (.getfield 77, 3) := by decide +kernel
theorem dX3_writeTicket_86 : decode cX3_writeTicket 86 = .ok (.aload_n 0, 1) := by decide +kernel
theorem dX3_writeTicket_87 : decode cX3_writeTicket 87 = .ok (.getfield 50, 3) := by decide +kernel
theorem dX3_writeTicket_90 : decode cX3_writeTicket 90 = .ok (.iload_n 3, 1) := by decide +kernel
theorem dX3_writeTicket_91 : decode cX3_writeTicket 91 = .ok (.aload_n 0, 1) := by decide +kernel
theorem dX3_writeTicket_92 : decode cX3_writeTicket 92 = .ok (.iload_n 1, 1) := by decide +kernel
theorem dX3_writeTicket_93 : decode cX3_writeTicket 93 = .ok (.invokevirtual 227, 3) := by decide +kernel
theorem dX3_writeTicket_96 : decode cX3_writeTicket 96 = .ok (.invokevirtual 230, 3) := by decide +kernel
theorem dX3_writeTicket_99 : decode cX3_writeTicket 99 = .ok (.aload 4, 2) := by decide +kernel
theorem dX3_writeTicket_101 : decode cX3_writeTicket 101 = .ok (.getfield 77, 3) := by decide +kernel
theorem dX3_writeTicket_104 : decode cX3_writeTicket 104 = .ok (.aload_n 0, 1) := by decide +kernel
theorem dX3_writeTicket_105 : decode cX3_writeTicket 105 = .ok (.getfield 50, 3) := by decide +kernel
theorem dX3_writeTicket_108 : decode cX3_writeTicket 108 = .ok (.iload_n 2, 1) := by decide +kernel
theorem dX3_writeTicket_109 : decode cX3_writeTicket 109 = .ok (.invokevirtual 84, 3) := by decide +kernel
theorem dX3_writeTicket_112 : decode cX3_writeTicket 112 = .ok (.aload 4, 2) := by decide +kernel
theorem dX3_writeTicket_114 : decode cX3_writeTicket 114 = .ok (.areturn, 1) := by decide +kernel
theorem dX3_findTicket_0 : decode cX3_findTicket 0 = .ok (.iload_n 1, 1) := by decide +kernel
theorem dX3_findTicket_1 : decode cX3_findTicket 1 = .ok (.iconst 1, 1) := by decide +kernel
theorem dX3_findTicket_2 : decode cX3_findTicket 2 = .ok (.if_icmp .lt 22, 3) := by decide +kernel
theorem dX3_findTicket_5 : decode cX3_findTicket 5 = .ok (.iload_n 1, 1) := by decide +kernel
theorem dX3_findTicket_6 : decode cX3_findTicket 6 = .ok (.aload_n 0, 1) := by decide +kernel
theorem dX3_findTicket_7 : decode cX3_findTicket 7 = .ok (.getfield 59, 3) := by decide +kernel
