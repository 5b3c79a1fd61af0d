theorem dX12_init_0 : decode cX12_init 0 = .ok (.aload_n 0, 1) := by decide +kernel
theorem dX12_init_1 : decode cX12_init 1 = .ok (.invokespecial 3, 3) := by decide +kernel
theorem dX12_init_4 : decode cX12_init 4 = .ok (.aload_n 0, 1) := by decide +kernel
theorem dX12_init_5 : decode cX12_init 5 = .ok (.bipush 17, 2) := by decide +kernel
theorem dX12_init_7 : decode cX12_init 7 = .ok (.newarray .int, 2) := by decide +kernel
theorem dX12_init_9 : decode cX12_init 9 = .ok (.putfield 9, 3) := by decide +kernel
theorem dX12_init_12 : decode cX12_init 12 = .ok (.aload_n 0, 1) := by decide +kernel
theorem dX12_init_13 : decode cX12_init 13 = .ok (.sipush 640, 3) := by decide +kernel
theorem dX12_init_16 : decode cX12_init 16 = .ok (.newarray .int, 2) := by decide +kernel
theorem dX12_init_18 : decode cX12_init 18 = .ok (.putfield 15, 3) := by decide +kernel
theorem dX12_init_21 : decode cX12_init 21 = .ok (.aload_n 0, 1) := by decide +kernel
theorem dX12_init_22 : decode cX12_init 22 = .ok (.sipush 16384, 3) := by decide +kernel
theorem dX12_init_25 : decode cX12_init 25 = .ok (.newarray .int, 2) := by decide +kernel
theorem dX12_init_27 : decode cX12_init 27 = .ok (.putfield 18, 3) := by decide +kernel
theorem dX12_init_30 : decode cX12_init 30 = .ok (.aload_n 0, 1) := by decide +kernel
theorem dX12_init_31 : decode cX12_init 31 = .ok (.bipush 7, 2) := by decide +kernel
theorem dX12_init_33 : decode cX12_init 33 = .ok (.newarray .long, 2) := by decide +kernel
theorem dX12_init_35 : decode cX12_init 35 = .ok (.putfield 21, 3) := by decide +kernel
theorem dX12_init_38 : decode cX12_init 38 = .ok (.return_, 1) := by decide +kernel
theorem dX12_copy_0 : decode cX12_copy 0 = .ok (.iconst 0, 1) := by decide +kernel
theorem dX12_copy_1 : decode cX12_copy 1 = .ok (.istore_n 2, 1) := by decide +kernel
theorem dX12_copy_2 : decode cX12_copy 2 = .ok (.iload_n 2, 1) := by decide +kernel
theorem dX12_copy_3 : decode cX12_copy 3 = .ok (.aload_n 0, 1) := by decide +kernel
theorem dX12_copy_4 : decode cX12_copy 4 = .ok (.getfield 9, 3) := by decide +kernel
theorem dX12_copy_7 : decode cX12_copy 7 = .ok (.arraylength, 1) := by decide +kernel
theorem dX12_copy_8 : decode cX12_copy 8 = .ok (.if_icmp .ge 21, 3) := by decide +kernel
theorem dX12_copy_11 : decode cX12_copy 11 = .ok (.aload_n 0, 1) := by decide +kernel
theorem dX12_copy_12 : decode cX12_copy 12 = .ok (.getfield 9, 3) := by decide +kernel
theorem dX12_copy_15 : decode cX12_copy 15 = .ok (.iload_n 2, 1) := by decide +kernel
theorem dX12_copy_16 : decode cX12_copy 16 = .ok (.aload_n 1, 1) := by decide +kernel
theorem dX12_copy_17 : decode cX12_copy 17 = .ok (.getfield 9, 3) := by decide +kernel
theorem dX12_copy_20 : decode cX12_copy 20 = .ok (.iload_n 2, 1) := by decide +kernel
theorem dX12_copy_21 : decode cX12_copy 21 = .ok (.iaload, 1) := by decide +kernel
theorem dX12_copy_22 : decode cX12_copy 22 = .ok (.iastore, 1) := by decide +kernel
theorem dX12_copy_23 : decode cX12_copy 23 = .ok (.iinc 2 1, 3) := by decide +kernel
theorem dX12_copy_26 : decode cX12_copy 26 = .ok (.goto (-24), 3) := by decide +kernel
theorem dX12_copy_29 : decode cX12_copy 29 = .ok (.iconst 0, 1) := by decide +kernel
theorem dX12_copy_30 : decode cX12_copy 30 = .ok (.istore_n 2, 1) := by decide +kernel
theorem dX12_copy_31 : decode cX12_copy 31 = .ok (.iload_n 2, 1) := by decide +kernel
theorem dX12_copy_32 : decode cX12_copy 32 = .ok (.aload_n 0, 1) := by decide +kernel
theorem dX12_copy_33 : decode cX12_copy 33 = .ok (.getfield 15, 3) := by decide +kernel
theorem dX12_copy_36 : decode cX12_copy 36 = .ok (.arraylength, 1) := by decide +kernel
theorem dX12_copy_37 : decode cX12_copy 37 = .ok (.if_icmp .ge 21, 3) := by decide +kernel
theorem dX12_copy_40 : decode cX12_copy 40 = .ok (.aload_n 0, 1) := by decide +kernel
theorem dX12_copy_41 : decode cX12_copy 41 = .ok (.getfield 15, 3) := by decide +kernel
theorem dX12_copy_44 : decode cX12_copy 44 = .ok (.iload_n 2, 1) := by decide +kernel
theorem dX12_copy_45 : decode cX12_copy 45 = .ok (.aload_n 1, 1) := by decide +kernel
theorem dX12_copy_46 : decode cX12_copy 46 = .ok (.getfield 15, 3) := by decide +kernel
theorem dX12_copy_49 : decode cX12_copy 49 = .ok (.iload_n 2, 1) := by decide +kernel
theorem dX12_copy_50 : decode cX12_copy 50 = .ok (.iaload, 1) := by decide +kernel
theorem dX12_copy_51 : decode cX12_copy 51 = .ok (.iastore, 1) := by decide +kernel
theorem dX12_copy_52 : decode cX12_copy 52 = .ok (.iinc 2 1, 3) := by decide +kernel
theorem dX12_copy_55 : decode cX12_copy 55 = .ok (.goto (-24), 3) := by decide +kernel
theorem dX12_copy_58 : decode cX12_copy 58 = .ok (.iconst 0, 1) := by decide +kernel
theorem dX12_copy_59 : decode cX12_copy 59 = .ok (.istore_n 2, 1) := by decide +kernel
theorem dX12_copy_60 : decode cX12_copy 60 = .ok (.iload_n 2, 1) := by decide +kernel
theorem dX12_copy_61 : decode cX12_copy 61 = .ok (.aload_n 0, 1) := by decide +kernel
theorem dX12_copy_62 : decode cX12_copy 62 = .ok (.getfield 18, 3) := by decide +kernel
theorem dX12_copy_65 : decode cX12_copy 65 = .ok (.arraylength, 1) := by decide +kernel
theorem dX12_copy_66 : decode cX12_copy 66 = .ok (.if_icmp .ge 21, 3) := by decide +kernel
theorem dX12_copy_69 : decode cX12_copy 69 = .ok (.aload_n 0, 1) := by decide +kernel
theorem dX12_copy_70 : decode cX12_copy 70 = .ok (.getfield 18, 3) := by decide +kernel
theorem dX12_copy_73 : decode cX12_copy 73 = .ok (.iload_n 2, 1) := by decide +kernel
theorem dX12_copy_74 : decode cX12_copy 74 = .ok (.aload_n 1, 1) := by decide +kernel
theorem dX12_copy_75 : decode cX12_copy 75 = .ok (.getfield 18, 3) := by decide +kernel
theorem dX12_copy_78 : decode cX12_copy 78 = .ok (.iload_n 2, 1) := by decide +kernel
theorem dX12_copy_79 : decode cX12_copy 79 = .ok (.iaload, 1) := by decide +kernel
theorem dX12_copy_80 : decode cX12_copy 80 = .ok (.iastore, 1) := by decide +kernel
theorem dX12_copy_81 : decode cX12_copy 81 = .ok (.iinc 2 1, 3) := by decide +kernel
theorem dX12_copy_84 : decode cX12_copy 84 = .ok (.goto (-24), 3) := by decide +kernel
theorem dX12_copy_87 : decode cX12_copy 87 = .ok (.iconst 0, 1) := by decide +kernel
theorem dX12_copy_88 : decode cX12_copy 88 = .ok (.istore_n 2, 1) := by decide +kernel
theorem dX12_copy_89 : decode cX12_copy 89 = .ok (.iload_n 2, 1) := by decide +kernel
theorem dX12_copy_90 : decode cX12_copy 90 = .ok (.aload_n 0, 1) := by decide +kernel
theorem dX12_copy_91 : decode cX12_copy 91 = .ok (.getfield 21, 3) := by decide +kernel
theorem dX12_copy_94 : decode cX12_copy 94 = .ok (.arraylength, 1) := by decide +kernel
theorem dX12_copy_95 : decode cX12_copy 95 = .ok (.if_icmp .ge 21, 3) := by decide +kernel
theorem dX12_copy_98 : decode cX12_copy 98 = .ok (.aload_n 0, 1) := by decide +kernel
theorem dX12_copy_99 : decode cX12_copy 99 = .ok (.getfield 21, 3) := by decide +kernel
theorem dX12_copy_102 : decode cX12_copy 102 = .ok (.iload_n 2, 1) := by decide +kernel
theorem dX12_copy_103 : decode cX12_copy 103 = .ok (.aload_n 1, 1) := by decide +kernel
theorem dX12_copy_104 : decode cX12_copy 104 = .ok (.getfield 21, 3) := by decide +kernel
theorem dX12_copy_107 : decode cX12_copy 107 = .ok (.iload_n 2, 1) := by decide +kernel
theorem dX12_copy_108 : decode cX12_copy 108 = .ok (.laload, 1) := by decide +kernel
theorem dX12_copy_109 : decode cX12_copy 109 = .ok (.lastore, 1) := by decide +kernel
theorem dX12_copy_110 : decode cX12_copy 110 = .ok (.iinc 2 1, 3) := by decide +kernel
theorem dX12_copy_113 : decode cX12_copy 113 = .ok (.goto (-24), 3) := by decide +kernel
theorem dX12_copy_116 : decode cX12_copy 116 = .ok (.return_, 1) := by decide +kernel
set_option maxRecDepth 20000 in
theorem ggX13_init_X12_init : GoodIn wsX13_init wsX12_init := goodIn_r _ [14, 15, 2, 3, 16, 17, 18, 19, 10, 20, 21, 22, 23, 24] (by decide +kernel) (by decide +kernel)
set_option maxRecDepth 20000 in
theorem gX13_init_X12_init_n9 : GoodIn wsX13_init (wsX12_init) := ggX13_init_X12_init
theorem dX13_init_0 : decode cX13_init 0 = .ok (.aload_n 0, 1) := by decide +kernel
theorem dX13_init_1 : decode cX13_init 1 = .ok (.invokespecial 1, 3) := by decide +kernel
theorem dX13_init_4 : decode cX13_init 4 = .ok (.aload_n 0, 1) := by decide +kernel
theorem dX13_init_5 : decode cX13_init 5 = .ok (.new 7, 3) := by decide +kernel
theorem dX13_init_8 : decode cX13_init 8 = .ok (.dup, 1) := by decide +kernel
theorem dX13_init_9 : decode cX13_init 9 = .ok (.invokespecial 9, 3) := by decide +kernel
theorem dX13_init_12 : decode cX13_init 12 = .ok (.putfield 10, 3) := by decide +kernel
theorem dX13_init_15 : decode cX13_init 15 = .ok (.aload_n 0, 1) := by decide +kernel
theorem dX13_init_16 : decode cX13_init 16 = .ok (.new 7, 3) := by decide +kernel
theorem dX13_init_19 : decode cX13_init 19 = .ok (.dup, 1) := by decide +kernel
theorem dX13_init_20 : decode cX13_init 20 = .ok (.invokespecial 9, 3) := by decide +kernel
theorem dX13_init_23 : decode cX13_init 23 = .ok (.putfield 16, 3) := by decide +kernel
theorem dX13_init_26 : decode cX13_init 26 = .ok (.aload_n 0, 1) := by decide +kernel
theorem dX13_init_27 : decode cX13_init 27 = .ok (.ldc 19, 2) := by decide +kernel
theorem dX13_init_29 : decode cX13_init 29 = .ok (.newarray .long, 2) := by decide +kernel
theorem dX13_init_31 : decode cX13_init 31 = .ok (.putfield 20, 3) := by decide +kernel
theorem dX13_init_34 : decode cX13_init 34 = .ok (.iconst 0, 1) := by decide +kernel
theorem dX13_init_35 : decode cX13_init 35 = .ok (.istore_n 1, 1) := by decide +kernel
theorem dX13_init_36 : decode cX13_init 36 = .ok (.iload_n 1, 1) := by decide +kernel
theorem dX13_init_37 : decode cX13_init 37 = .ok (.bipush 14, 2) := by decide +kernel
theorem dX13_init_39 : decode cX13_init 39 = .ok (.if_icmp .ge 25, 3) := by decide +kernel
theorem dX13_init_42 : decode cX13_init 42 = .ok (.aload_n 0, 1) := by decide +kernel
theorem dX13_init_43 : decode cX13_init 43 = .ok (.getfield 10, 3) := by decide +kernel
theorem dX13_init_46 : decode cX13_init 46 = .ok (.getfield 24, 3) := by decide +kernel
theorem dX13_init_49 : decode cX13_init 49 = .ok (.iconst 3, 1) := by decide +kernel
theorem dX13_init_50 : decode cX13_init 50 = .ok (.iload_n 1, 1) := by decide +kernel
theorem dX13_init_51 : decode cX13_init 51 = .ok (.iadd, 1) := by decide +kernel
theorem dX13_init_52 : decode cX13_init 52 = .ok (.getstatic 28, 3) := by decide +kernel
theorem dX13_init_55 : decode cX13_init 55 = .ok (.iload_n 1, 1) := by decide +kernel
theorem dX13_init_56 : decode cX13_init 56 = .ok (.iaload, 1) := by decide +kernel
theorem dX13_init_57 : decode cX13_init 57 = .ok (.iastore, 1) := by decide +kernel
theorem dX13_init_58 : decode cX13_init 58 = .ok (.iinc 1 1, 3) := by decide +kernel
theorem dX13_init_61 : decode cX13_init 61 = .ok (.goto (-25), 3) := by decide +kernel
theorem dX13_init_64 : decode cX13_init 64 = .ok (.iconst 0, 1) := by decide +kernel
theorem dX13_init_65 : decode cX13_init 65 = .ok (.istore_n 1, 1) := by decide +kernel
theorem dX13_init_66 : decode cX13_init 66 = .ok (.iload_n 1, 1) := by decide +kernel
theorem dX13_init_67 : decode cX13_init 67 = .ok (.bipush 40, 2) := by decide +kernel
theorem dX13_init_69 : decode cX13_init 69 = .ok (.if_icmp .ge 22, 3) := by decide +kernel
theorem dX13_init_72 : decode cX13_init 72 = .ok (.aload_n 0, 1) := by decide +kernel
theorem dX13_init_73 : decode cX13_init 73 = .ok (.getfield 10, 3) := by decide +kernel
theorem dX13_init_76 : decode cX13_init 76 = .ok (.getfield 31, 3) := by decide +kernel
theorem dX13_init_79 : decode cX13_init 79 = .ok (.bipush 16, 2) := by decide +kernel
theorem dX13_init_81 : decode cX13_init 81 = .ok (.iload_n 1, 1) := by decide +kernel
theorem dX13_init_82 : decode cX13_init 82 = .ok (.imul, 1) := by decide +kernel
theorem dX13_init_83 : decode cX13_init 83 = .ok (.iconst (-1), 1) := by decide +kernel
theorem dX13_init_84 : decode cX13_init 84 = .ok (.iastore, 1) := by decide +kernel
theorem dX13_init_85 : decode cX13_init 85 = .ok (.iinc 1 1, 3) := by decide +kernel
theorem dX13_init_88 : decode cX13_init 88 = .ok (.goto (-22), 3) := by decide +kernel
theorem dX13_init_91 : decode cX13_init 91 = .ok (.return_, 1) := by decide +kernel
set_option maxRecDepth 20000 in
theorem ggX13_begins_X13_of : GoodIn wsX13_begins wsX13_of := goodIn_r _ [6, 7, 19, 20, 21, 22, 23, 24, 25, 26, 27, 28] (by decide +kernel) (by decide +kernel)
set_option maxRecDepth 20000 in
theorem gX13_begins_X13_of : GoodIn wsX13_begins (wsV RX13 44 RX13 yX13_of wsX13_of) := goodIn_app (goodIn_of _ (by decide +kernel)) ggX13_begins_X13_of
set_option maxRecDepth 20000 in
theorem ggX13_begins_X13_today : GoodIn wsX13_begins wsX13_today := goodIn_r _ [11, 7, 19, 20, 21, 22, 23, 24, 25, 26, 27, 28] (by decide +kernel) (by decide +kernel)
set_option maxRecDepth 20000 in
theorem gX13_begins_X13_today : GoodIn wsX13_begins (wsV RX13 53 RX13 yX13_today wsX13_today) := goodIn_app (goodIn_of _ (by decide +kernel)) ggX13_begins_X13_today
set_option maxRecDepth 20000 in
theorem ggX13_begins_X13_put : GoodIn wsX13_begins wsX13_put := goodIn_r _ [15, 7, 19, 20, 21, 22, 23, 24, 25, 26, 27, 28] (by decide +kernel) (by decide +kernel)
set_option maxRecDepth 20000 in
theorem gX13_begins_X13_put : GoodIn wsX13_begins (wsV RX13 57 RX13 yX13_put wsX13_put) := goodIn_app (goodIn_of _ (by decide +kernel)) ggX13_begins_X13_put
set_option maxRecDepth 20000 in
theorem ggX13_begins_X13_cutUp : GoodIn wsX13_begins wsX13_cutUp := goodIn_r _ [18] (by decide +kernel) (by decide +kernel)
set_option maxRecDepth 20000 in
theorem gX13_begins_X13_cutUp : GoodIn wsX13_begins (va_wsS RX13 63 yX13_cutUp wsX13_cutUp) := goodIn_app (goodIn_of _ (by decide +kernel)) ggX13_begins_X13_cutUp
theorem dX13_begins_0 : decode cX13_begins 0 = .ok (.aload_n 0, 1) := by decide +kernel
theorem dX13_begins_1 : decode cX13_begins 1 = .ok (.iload_n 1, 1) := by decide +kernel
theorem dX13_begins_2 : decode cX13_begins 2 = .ok (.iconst 4, 1) := by decide +kernel
theorem dX13_begins_3 : decode cX13_begins 3 = .ok (.invokevirtual 44, 3) := by decide +kernel
theorem dX13_begins_6 : decode cX13_begins 6 = .ok (.bipush 30, 2) := by decide +kernel
theorem dX13_begins_8 : decode cX13_begins 8 = .ok (.aload_n 0, 1) := by decide +kernel
theorem dX13_begins_9 : decode cX13_begins 9 = .ok (.iload_n 1, 1) := by decide +kernel
theorem dX13_begins_10 : decode cX13_begins 10 = .ok (.iconst 3, 1) := by decide +kernel
theorem dX13_begins_11 : decode cX13_begins 11 = .ok (.invokevirtual 44, 3) := by decide +kernel
theorem dX13_begins_14 : decode cX13_begins 14 = .ok (.imul, 1) := by decide +kernel
theorem dX13_begins_15 : decode cX13_begins 15 = .ok (.iadd, 1) := by decide +kernel
theorem dX13_begins_16 : decode cX13_begins 16 = .ok (.aload_n 0, 1) := by decide +kernel
theorem dX13_begins_17 : decode cX13_begins 17 = .ok (.invokevirtual 53, 3) := by decide +kernel
theorem dX13_begins_20 : decode cX13_begins 20 = .ok (.if_icmp .gt 55, 3) := by decide +kernel
theorem dX13_begins_23 : decode cX13_begins 23 = .ok (.aload_n 0, 1) := by decide +kernel
theorem dX13_begins_24 : decode cX13_begins 24 = .ok (.iload_n 1, 1) := by decide +kernel
theorem dX13_begins_25 : decode cX13_begins 25 = .ok (.iconst 3, 1) := by decide +kernel
theorem dX13_begins_26 : decode cX13_begins 26 = .ok (.aload_n 0, 1) := by decide +kernel
theorem dX13_begins_27 : decode cX13_begins 27 = .ok (.iload_n 1, 1) := by decide +kernel
theorem dX13_begins_28 : decode cX13_begins 28 = .ok (.iconst 3, 1) := by decide +kernel
theorem dX13_begins_29 : decode cX13_begins 29 = .ok (.invokevirtual 44, 3) := by decide +kernel
theorem dX13_begins_32 : decode cX13_begins 32 = .ok (.iconst 1, 1) := by decide +kernel
theorem dX13_begins_33 : decode cX13_begins 33 = .ok (.iadd, 1) := by decide +kernel
theorem dX13_begins_34 : decode cX13_begins 34 = .ok (.invokevirtual 57, 3) := by decide +kernel
theorem dX13_begins_37 : decode cX13_begins 37 = .ok (.aload_n 0, 1) := by decide +kernel
theorem dX13_begins_38 : decode cX13_begins 38 = .ok (.iload_n 1, 1) := by decide +kernel
theorem dX13_begins_39 : decode cX13_begins 39 = .ok (.iconst 2, 1) := by decide +kernel
theorem dX13_begins_40 : decode cX13_begins 40 = .ok (.aload_n 0, 1) := by decide +kernel
theorem dX13_begins_41 : decode cX13_begins 41 = .ok (.iload_n 1, 1) := by decide +kernel
theorem dX13_begins_42 : decode cX13_begins 42 = .ok (.iconst 2, 1) := by decide +kernel
theorem dX13_begins_43 : decode cX13_begins 43 = .ok (.invokevirtual 44, 3) := by decide +kernel
theorem dX13_begins_46 : decode cX13_begins 46 = .ok (.aload_n 0, 1) := by decide +kernel
theorem dX13_begins_47 : decode cX13_begins 47 = .ok (.iload_n 1, 1) := by decide +kernel
theorem dX13_begins_48 : decode cX13_begins 48 = .ok (.iconst 1, 1) := by decide +kernel
theorem dX13_begins_49 : decode cX13_begins 49 = .ok (.invokevirtual 44, 3) := by decide +kernel
theorem dX13_begins_52 : decode cX13_begins 52 = .ok (.i2l, 1) := by decide +kernel
theorem dX13_begins_53 : decode cX13_begins 53 = .ok (.aload_n 0, 1) := by decide +kernel
theorem dX13_begins_54 : decode cX13_begins 54 = .ok (.iload_n 1, 1) := by decide +kernel
theorem dX13_begins_55 : decode cX13_begins 55 = .ok (.bipush 6, 2) := by decide +kernel
theorem dX13_begins_57 : decode cX13_begins 57 = .ok (.invokevirtual 44, 3) := by decide +kernel
theorem dX13_begins_60 : decode cX13_begins 60 = .ok (.i2l, 1) := by decide +kernel
theorem dX13_begins_61 : decode cX13_begins 61 = .ok (.lmul, 1) := by decide +kernel
theorem dX13_begins_62 : decode cX13_begins 62 = .ok (.ldc2_w 61, 3) := by decide +kernel
theorem dX13_begins_65 : decode cX13_begins 65 = .ok (.invokestatic 63, 3) := by decide +kernel
theorem dX13_begins_68 : decode cX13_begins 68 = .ok (.iadd, 1) := by decide +kernel
theorem dX13_begins_69 : decode cX13_begins 69 = .ok (.invokevirtual 57, 3) := by decide +kernel
theorem dX13_begins_72 : decode cX13_begins 72 = .ok (.goto (-72), 3) := by decide +kernel
theorem dX13_begins_75 : decode cX13_begins 75 = .ok (.return_, 1) := by decide +kernel
set_option maxRecDepth 20000 in
theorem ggX13_day_X13_today : GoodIn wsX13_day wsX13_today := goodIn_r _ [8, 3, 51, 52, 53, 54, 55, 56, 57, 58, 59, 60] (by decide +kernel) (by decide +kernel)
set_option maxRecDepth 20000 in
theorem gX13_day_X13_today : GoodIn wsX13_day (wsV RX13 53 RX13 yX13_today wsX13_today) := goodIn_app (goodIn_of _ (by decide +kernel)) ggX13_day_X13_today
set_option maxRecDepth 20000 in
theorem ggX13_day_X13_says : GoodIn wsX13_day wsX13_says := goodIn_r _ [12, 13, 14, 51, 52, 53, 54, 55, 56] (by decide +kernel) (by decide +kernel)
set_option maxRecDepth 20000 in
theorem gX13_day_X13_says : GoodIn wsX13_day (wsV RX13 69 RX13 yX13_says wsX13_says) := goodIn_app (goodIn_of _ (by decide +kernel)) ggX13_day_X13_says
set_option maxRecDepth 20000 in
theorem ggX13_day_X13_summed : GoodIn wsX13_day wsX13_summed := goodIn_r _ [18, 3, 19, 20, 21, 7, 22, 4, 5, 6, 8, 23, 24, 25, 26, 27, 28, 29, 30, 31, 32, 33, 34, 35, 36, 37, 38, 51, 52, 53, 54, 55, 56, 57, 58, 59, 60] (by decide +kernel) (by decide +kernel)
set_option maxRecDepth 20000 in
theorem gX13_day_X13_summed : GoodIn wsX13_day (wsV RX13 73 RX13 yX13_summed wsX13_summed) := goodIn_app (goodIn_of _ (by decide +kernel)) ggX13_day_X13_summed
set_option maxRecDepth 20000 in
theorem ggX13_day_X13_isOpen : GoodIn wsX13_day wsX13_isOpen := goodIn_r _ [30, 23, 24, 25, 7, 26, 3, 51, 52, 53, 54, 55, 56, 57, 58, 59, 60] (by decide +kernel) (by decide +kernel)
set_option maxRecDepth 20000 in
theorem gX13_day_X13_isOpen : GoodIn wsX13_day (wsV RX13 48 RX13 yX13_isOpen wsX13_isOpen) := goodIn_app (goodIn_of _ (by decide +kernel)) ggX13_day_X13_isOpen
set_option maxRecDepth 20000 in
theorem ggX13_day_X13_begins : GoodIn wsX13_day wsX13_begins := goodIn_r _ [42, 43, 23, 24, 25, 7, 26, 3, 4, 5, 6, 8, 44, 45, 46, 47, 48, 49, 50, 51, 52, 53, 54, 55, 56, 57, 58, 59, 60] (by decide +kernel) (by decide +kernel)
set_option maxRecDepth 20000 in
theorem gX13_day_X13_begins : GoodIn wsX13_day (wsV RX13 77 RX13 yX13_begins wsX13_begins) := goodIn_app (goodIn_of _ (by decide +kernel)) ggX13_day_X13_begins
theorem dX13_day_0 : decode cX13_day 0 = .ok (.aload_n 0, 1) := by decide +kernel
theorem dX13_day_1 : decode cX13_day 1 = .ok (.invokevirtual 53, 3) := by decide +kernel
theorem dX13_day_4 : decode cX13_day 4 = .ok (.i2l, 1) := by decide +kernel
theorem dX13_day_5 : decode cX13_day 5 = .ok (.iload_n 1, 1) := by decide +kernel
theorem dX13_day_6 : decode cX13_day 6 = .ok (.i2l, 1) := by decide +kernel
theorem dX13_day_7 : decode cX13_day 7 = .ok (.ladd, 1) := by decide +kernel
theorem dX13_day_8 : decode cX13_day 8 = .ok (.ldc2_w 67, 3) := by decide +kernel
theorem dX13_day_11 : decode cX13_day 11 = .ok (.lcmp, 1) := by decide +kernel
theorem dX13_day_12 : decode cX13_day 12 = .ok (.ifCond .le 10, 3) := by decide +kernel
theorem dX13_day_15 : decode cX13_day 15 = .ok (.aload_n 0, 1) := by decide +kernel
theorem dX13_day_16 : decode cX13_day 16 = .ok (.bipush (-5), 2) := by decide +kernel
theorem dX13_day_18 : decode cX13_day 18 = .ok (.invokevirtual 69, 3) := by decide +kernel
theorem dX13_day_21 : decode cX13_day 21 = .ok (.ireturn, 1) := by decide +kernel
theorem dX13_day_22 : decode cX13_day 22 = .ok (.iload_n 1, 1) := by decide +kernel
theorem dX13_day_23 : decode cX13_day 23 = .ok (.iconst 1, 1) := by decide +kernel
theorem dX13_day_24 : decode cX13_day 24 = .ok (.if_icmp .lt 10, 3) := by decide +kernel
theorem dX13_day_27 : decode cX13_day 27 = .ok (.iload_n 1, 1) := by decide +kernel
theorem dX13_day_28 : decode cX13_day 28 = .ok (.sipush 400, 3) := by decide +kernel
theorem dX13_day_31 : decode cX13_day 31 = .ok (.if_icmp .le 10, 3) := by decide +kernel
theorem dX13_day_34 : decode cX13_day 34 = .ok (.aload_n 0, 1) := by decide +kernel
theorem dX13_day_35 : decode cX13_day 35 = .ok (.bipush (-6), 2) := by decide +kernel
theorem dX13_day_37 : decode cX13_day 37 = .ok (.invokevirtual 69, 3) := by decide +kernel
theorem dX13_day_40 : decode cX13_day 40 = .ok (.ireturn, 1) := by decide +kernel
theorem dX13_day_41 : decode cX13_day 41 = .ok (.iconst 0, 1) := by decide +kernel
theorem dX13_day_42 : decode cX13_day 42 = .ok (.istore_n 2, 1) := by decide +kernel
theorem dX13_day_43 : decode cX13_day 43 = .ok (.iload_n 2, 1) := by decide +kernel
theorem dX13_day_44 : decode cX13_day 44 = .ok (.iload_n 1, 1) := by decide +kernel
theorem dX13_day_45 : decode cX13_day 45 = .ok (.if_icmp .ge 89, 3) := by decide +kernel
theorem dX13_day_48 : decode cX13_day 48 = .ok (.iconst 0, 1) := by decide +kernel
theorem dX13_day_49 : decode cX13_day 49 = .ok (.istore_n 3, 1) := by decide +kernel
theorem dX13_day_50 : decode cX13_day 50 = .ok (.iload_n 3, 1) := by decide +kernel
theorem dX13_day_51 : decode cX13_day 51 = .ok (.bipush 13, 2) := by decide +kernel
theorem dX13_day_53 : decode cX13_day 53 = .ok (.if_icmp .ge 28, 3) := by decide +kernel
theorem dX13_day_56 : decode cX13_day 56 = .ok (.aload_n 0, 1) := by decide +kernel
theorem dX13_day_57 : decode cX13_day 57 = .ok (.getfield 20, 3) := by decide +kernel
theorem dX13_day_60 : decode cX13_day 60 = .ok (.bipush 13, 2) := by decide +kernel
theorem dX13_day_62 : decode cX13_day 62 = .ok (.aload_n 0, 1) := by decide +kernel
theorem dX13_day_63 : decode cX13_day 63 = .ok (.invokevirtual 53, 3) := by decide +kernel
theorem dX13_day_66 : decode cX13_day 66 = .ok (.imul, 1) := by decide +kernel
theorem dX13_day_67 : decode cX13_day 67 = .ok (.iload_n 3, 1) := by decide +kernel
theorem dX13_day_68 : decode cX13_day 68 = .ok (.iadd, 1) := by decide +kernel
theorem dX13_day_69 : decode cX13_day 69 = .ok (.aload_n 0, 1) := by decide +kernel
theorem dX13_day_70 : decode cX13_day 70 = .ok (.iload_n 3, 1) := by decide +kernel
theorem dX13_day_71 : decode cX13_day 71 = .ok (.invokevirtual 73, 3) := by decide +kernel
theorem dX13_day_74 : decode cX13_day 74 = .ok (.lastore, 1) := by decide +kernel
theorem dX13_day_75 : decode cX13_day 75 = .ok (.iinc 3 1, 3) := by decide +kernel
theorem dX13_day_78 : decode cX13_day 78 = .ok (.goto (-28), 3) := by decide +kernel
theorem dX13_day_81 : decode cX13_day 81 = .ok (.aload_n 0, 1) := by decide +kernel
theorem dX13_day_82 : decode cX13_day 82 = .ok (.getfield 10, 3) := by decide +kernel
theorem dX13_day_85 : decode cX13_day 85 = .ok (.getfield 24, 3) := by decide +kernel
theorem dX13_day_88 : decode cX13_day 88 = .ok (.iconst 0, 1) := by decide +kernel
theorem dX13_day_89 : decode cX13_day 89 = .ok (.dup2, 1) := by decide +kernel
theorem dX13_day_90 : decode cX13_day 90 = .ok (.iaload, 1) := by decide +kernel
theorem dX13_day_91 : decode cX13_day 91 = .ok (.iconst 1, 1) := by decide +kernel
theorem dX13_day_92 : decode cX13_day 92 = .ok (.iadd, 1) := by decide +kernel
theorem dX13_day_93 : decode cX13_day 93 = .ok (.iastore, 1) := by decide +kernel
theorem dX13_day_94 : decode cX13_day 94 = .ok (.iconst 1, 1) := by decide +kernel
theorem dX13_day_95 : decode cX13_day 95 = .ok (.istore_n 3, 1) := by decide +kernel
theorem dX13_day_96 : decode cX13_day 96 = .ok (.iload_n 3, 1) := by decide +kernel
theorem dX13_day_97 : decode cX13_day 97 = .ok (.aload_n 0, 1) := by decide +kernel
theorem dX13_day_98 : decode cX13_day 98 = .ok (.getfield 10, 3) := by decide +kernel
theorem dX13_day_101 : decode cX13_day 101 = .ok (.getfield 24, 3) := by decide +kernel
theorem dX13_day_104 : decode cX13_day 104 = .ok (.iconst 1, 1) := by decide +kernel
theorem dX13_day_105 : decode cX13_day 105 = .ok (.iaload, 1) := by decide +kernel
theorem dX13_day_106 : decode cX13_day 106 = .ok (.if_icmp .gt 22, 3) := by decide +kernel
theorem dX13_day_109 : decode cX13_day 109 = .ok (.aload_n 0, 1) := by decide +kernel
theorem dX13_day_110 : decode cX13_day 110 = .ok (.iload_n 3, 1) := by decide +kernel
theorem dX13_day_111 : decode cX13_day 111 = .ok (.invokevirtual 48, 3) := by decide +kernel
theorem dX13_day_114 : decode cX13_day 114 = .ok (.ifCond .eq 8, 3) := by decide +kernel
theorem dX13_day_117 : decode cX13_day 117 = .ok (.aload_n 0, 1) := by decide +kernel
theorem dX13_day_118 : decode cX13_day 118 = .ok (.iload_n 3, 1) := by decide +kernel
theorem dX13_day_119 : decode cX13_day 119 = .ok (.invokevirtual 77, 3) := by decide +kernel
theorem dX13_day_122 : decode cX13_day 122 = .ok (.iinc 3 1, 3) := by decide +kernel
theorem dX13_day_125 : decode cX13_day 125 = .ok (.goto (-29), 3) := by decide +kernel
theorem dX13_day_128 : decode cX13_day 128 = .ok (.iinc 2 1, 3) := by decide +kernel
theorem dX13_day_131 : decode cX13_day 131 = .ok (.goto (-88), 3) := by decide +kernel
theorem dX13_day_134 : decode cX13_day 134 = .ok (.aload_n 0, 1) := by decide +kernel
theorem dX13_day_135 : decode cX13_day 135 = .ok (.aload_n 0, 1) := by decide +kernel
theorem dX13_day_136 : decode cX13_day 136 = .ok (.invokevirtual 53, 3) := by decide +kernel
theorem dX13_day_139 : decode cX13_day 139 = .ok (.invokevirtual 69, 3) := by decide +kernel
theorem dX13_day_142 : decode cX13_day 142 = .ok (.ireturn, 1) := by decide +kernel
set_option maxRecDepth 20000 in
theorem ggX13_rule_X13_says : GoodIn wsX13_rule wsX13_says := goodIn_r _ [8, 9, 10, 11, 12, 13, 14, 15, 16] (by decide +kernel) (by decide +kernel)
set_option maxRecDepth 20000 in
theorem gX13_rule_X13_says : GoodIn wsX13_rule (wsV RX13 69 RX13 yX13_says wsX13_says) := goodIn_app (goodIn_of _ (by decide +kernel)) ggX13_rule_X13_says
theorem dX13_rule_0 : decode cX13_rule 0 = .ok (.iload_n 1, 1) := by decide +kernel
theorem dX13_rule_1 : decode cX13_rule 1 = .ok (.ifCond .lt 9, 3) := by decide +kernel
theorem dX13_rule_4 : decode cX13_rule 4 = .ok (.iload_n 1, 1) := by decide +kernel
theorem dX13_rule_5 : decode cX13_rule 5 = .ok (.bipush 13, 2) := by decide +kernel
theorem dX13_rule_7 : decode cX13_rule 7 = .ok (.if_icmp .le 9, 3) := by decide +kernel
theorem dX13_rule_10 : decode cX13_rule 10 = .ok (.aload_n 0, 1) := by decide +kernel
theorem dX13_rule_11 : decode cX13_rule 11 = .ok (.iconst (-1), 1) := by decide +kernel
theorem dX13_rule_12 : decode cX13_rule 12 = .ok (.invokevirtual 69, 3) := by decide +kernel
theorem dX13_rule_15 : decode cX13_rule 15 = .ok (.ireturn, 1) := by decide +kernel
theorem dX13_rule_16 : decode cX13_rule 16 = .ok (.iload_n 2, 1) := by decide +kernel
theorem dX13_rule_17 : decode cX13_rule 17 = .ok (.getstatic 81, 3) := by decide +kernel
theorem dX13_rule_20 : decode cX13_rule 20 = .ok (.iload_n 1, 1) := by decide +kernel
theorem dX13_rule_21 : decode cX13_rule 21 = .ok (.iaload, 1) := by decide +kernel
theorem dX13_rule_22 : decode cX13_rule 22 = .ok (.if_icmp .lt 12, 3) := by decide +kernel
theorem dX13_rule_25 : decode cX13_rule 25 = .ok (.iload_n 2, 1) := by decide +kernel
theorem dX13_rule_26 : decode cX13_rule 26 = .ok (.getstatic 84, 3) := by decide +kernel
theorem dX13_rule_29 : decode cX13_rule 29 = .ok (.iload_n 1, 1) := by decide +kernel
theorem dX13_rule_30 : decode cX13_rule 30 = .ok (.iaload, 1) := by decide +kernel
theorem dX13_rule_31 : decode cX13_rule 31 = .ok (.if_icmp .le 10, 3) := by decide +kernel
theorem dX13_rule_34 : decode cX13_rule 34 = .ok (.aload_n 0, 1) := by decide +kernel
theorem dX13_rule_35 : decode cX13_rule 35 = .ok (.bipush (-6), 2) := by decide +kernel
theorem dX13_rule_37 : decode cX13_rule 37 = .ok (.invokevirtual 69, 3) := by decide +kernel
theorem dX13_rule_40 : decode cX13_rule 40 = .ok (.ireturn, 1) := by decide +kernel
theorem dX13_rule_41 : decode cX13_rule 41 = .ok (.aload_n 0, 1) := by decide +kernel
theorem dX13_rule_42 : decode cX13_rule 42 = .ok (.getfield 10, 3) := by decide +kernel
theorem dX13_rule_45 : decode cX13_rule 45 = .ok (.getfield 24, 3) := by decide +kernel
theorem dX13_rule_48 : decode cX13_rule 48 = .ok (.iconst 3, 1) := by decide +kernel
theorem dX13_rule_49 : decode cX13_rule 49 = .ok (.iload_n 1, 1) := by decide +kernel
theorem dX13_rule_50 : decode cX13_rule 50 = .ok (.iadd, 1) := by decide +kernel
theorem dX13_rule_51 : decode cX13_rule 51 = .ok (.iload_n 2, 1) := by decide +kernel
theorem dX13_rule_52 : decode cX13_rule 52 = .ok (.iastore, 1) := by decide +kernel
theorem dX13_rule_53 : decode cX13_rule 53 = .ok (.aload_n 0, 1) := by decide +kernel
theorem dX13_rule_54 : decode cX13_rule 54 = .ok (.iconst 0, 1) := by decide +kernel
theorem dX13_rule_55 : decode cX13_rule 55 = .ok (.invokevirtual 69, 3) := by decide +kernel
theorem dX13_rule_58 : decode cX13_rule 58 = .ok (.ireturn, 1) := by decide +kernel
set_option maxRecDepth 20000 in
theorem ggX13_comes_X13_set : GoodIn wsX13_comes wsX13_set := goodIn_r _ [5, 6, 11, 12, 13, 14, 15, 16, 17, 18, 19, 20] (by decide +kernel) (by decide +kernel)
set_option maxRecDepth 20000 in
theorem gX13_comes_X13_set : GoodIn wsX13_comes (wsV RX13 93 RX13 yX13_set wsX13_set) := goodIn_app (goodIn_of _ (by decide +kernel)) ggX13_comes_X13_set
set_option maxRecDepth 20000 in
theorem ggX13_comes_X13_today : GoodIn wsX13_comes wsX13_today := goodIn_r _ [10, 6, 11, 12, 13, 14, 15, 16, 17, 18, 19, 20] (by decide +kernel) (by decide +kernel)
set_option maxRecDepth 20000 in
theorem gX13_comes_X13_today : GoodIn wsX13_comes (wsV RX13 53 RX13 yX13_today wsX13_today) := goodIn_app (goodIn_of _ (by decide +kernel)) ggX13_comes_X13_today
theorem dX13_comes_0 : decode cX13_comes 0 = .ok (.iconst 0, 1) := by decide +kernel
theorem dX13_comes_1 : decode cX13_comes 1 = .ok (.istore_n 3, 1) := by decide +kernel
theorem dX13_comes_2 : decode cX13_comes 2 = .ok (.iload_n 3, 1) := by decide +kernel
theorem dX13_comes_3 : decode cX13_comes 3 = .ok (.bipush 16, 2) := by decide +kernel
theorem dX13_comes_5 : decode cX13_comes 5 = .ok (.if_icmp .ge 16, 3) := by decide +kernel
theorem dX13_comes_8 : decode cX13_comes 8 = .ok (.aload_n 0, 1) := by decide +kernel
theorem dX13_comes_9 : decode cX13_comes 9 = .ok (.iload_n 1, 1) := by decide +kernel
theorem dX13_comes_10 : decode cX13_comes 10 = .ok (.iload_n 3, 1) := by decide +kernel
theorem dX13_comes_11 : decode cX13_comes 11 = .ok (.iconst 0, 1) := by decide +kernel
theorem dX13_comes_12 : decode cX13_comes 12 = .ok (.invokevirtual 93, 3) := by decide +kernel
theorem dX13_comes_15 : decode cX13_comes 15 = .ok (.iinc 3 1, 3) := by decide +kernel
theorem dX13_comes_18 : decode cX13_comes 18 = .ok (.goto (-16), 3) := by decide +kernel
theorem dX13_comes_21 : decode cX13_comes 21 = .ok (.aload_n 0, 1) := by decide +kernel
theorem dX13_comes_22 : decode cX13_comes 22 = .ok (.iload_n 1, 1) := by decide +kernel
theorem dX13_comes_23 : decode cX13_comes 23 = .ok (.iconst 0, 1) := by decide +kernel
theorem dX13_comes_24 : decode cX13_comes 24 = .ok (.iload_n 2, 1) := by decide +kernel
theorem dX13_comes_25 : decode cX13_comes 25 = .ok (.invokevirtual 93, 3) := by decide +kernel
theorem dX13_comes_28 : decode cX13_comes 28 = .ok (.aload_n 0, 1) := by decide +kernel
theorem dX13_comes_29 : decode cX13_comes 29 = .ok (.iload_n 1, 1) := by decide +kernel
theorem dX13_comes_30 : decode cX13_comes 30 = .ok (.iconst 5, 1) := by decide +kernel
theorem dX13_comes_31 : decode cX13_comes 31 = .ok (.aload_n 0, 1) := by decide +kernel
theorem dX13_comes_32 : decode cX13_comes 32 = .ok (.invokevirtual 53, 3) := by decide +kernel
theorem dX13_comes_35 : decode cX13_comes 35 = .ok (.invokevirtual 93, 3) := by decide +kernel
theorem dX13_comes_38 : decode cX13_comes 38 = .ok (.return_, 1) := by decide +kernel
set_option maxRecDepth 20000 in
theorem ggX13_leaves_X13_comes : GoodIn wsX13_leaves wsX13_comes := goodIn_r _ [5, 6, 7, 8, 4, 9, 10, 11, 12, 13, 14, 15, 16, 17, 18, 19, 20, 21, 22, 23, 24] (by decide +kernel) (by decide +kernel)
set_option maxRecDepth 20000 in
theorem gX13_leaves_X13_comes : GoodIn wsX13_leaves (wsV RX13 96 RX13 yX13_comes wsX13_comes) := goodIn_app (goodIn_of _ (by decide +kernel)) ggX13_leaves_X13_comes
theorem dX13_leaves_0 : decode cX13_leaves 0 = .ok (.aload_n 0, 1) := by decide +kernel
theorem dX13_leaves_1 : decode cX13_leaves 1 = .ok (.iload_n 1, 1) := by decide +kernel
theorem dX13_leaves_2 : decode cX13_leaves 2 = .ok (.iconst (-1), 1) := by decide +kernel
theorem dX13_leaves_3 : decode cX13_leaves 3 = .ok (.invokevirtual 96, 3) := by decide +kernel
theorem dX13_leaves_6 : decode cX13_leaves 6 = .ok (.return_, 1) := by decide +kernel
set_option maxRecDepth 20000 in
theorem ggX13_thing_X13_bare : GoodIn wsX13_thing wsX13_bare := goodIn_r _ [5, 6, 7, 4, 8, 9, 10, 11, 12, 13, 36, 37, 38, 39, 40, 41, 42, 43, 44, 45] (by decide +kernel) (by decide +kernel)
set_option maxRecDepth 20000 in
theorem gX13_thing_X13_bare : GoodIn wsX13_thing (wsV RX13 100 RX13 yX13_bare wsX13_bare) := goodIn_app (goodIn_of _ (by decide +kernel)) ggX13_thing_X13_bare
set_option maxRecDepth 20000 in
theorem ggX13_thing_X13_says : GoodIn wsX13_thing wsX13_says := goodIn_r _ [17, 18, 19, 36, 37, 38, 39, 40, 41] (by decide +kernel) (by decide +kernel)
set_option maxRecDepth 20000 in
theorem gX13_thing_X13_says : GoodIn wsX13_thing (wsV RX13 69 RX13 yX13_says wsX13_says) := goodIn_app (goodIn_of _ (by decide +kernel)) ggX13_thing_X13_says
set_option maxRecDepth 20000 in
theorem ggX13_thing_X13_isValue : GoodIn wsX13_thing wsX13_isValue := goodIn_r _ [22, 23] (by decide +kernel) (by decide +kernel)
set_option maxRecDepth 20000 in
theorem gX13_thing_X13_isValue : GoodIn wsX13_thing (va_wsS RX13 103 yX13_isValue wsX13_isValue) := goodIn_app (goodIn_of _ (by decide +kernel)) ggX13_thing_X13_isValue
set_option maxRecDepth 20000 in
theorem ggX13_thing_X13_comes : GoodIn wsX13_thing wsX13_comes := goodIn_r _ [27, 28, 29, 30, 4, 31, 13, 32, 33, 34, 35, 36, 37, 38, 39, 40, 41, 42, 43, 44, 45] (by decide +kernel) (by decide +kernel)
set_option maxRecDepth 20000 in
theorem gX13_thing_X13_comes : GoodIn wsX13_thing (wsV RX13 96 RX13 yX13_comes wsX13_comes) := goodIn_app (goodIn_of _ (by decide +kernel)) ggX13_thing_X13_comes
set_option maxRecDepth 20000 in
theorem ggX13_thing_X13_set : GoodIn wsX13_thing wsX13_set := goodIn_r _ [31, 13, 36, 37, 38, 39, 40, 41, 42, 43, 44, 45] (by decide +kernel) (by decide +kernel)
set_option maxRecDepth 20000 in
theorem gX13_thing_X13_set : GoodIn wsX13_thing (wsV RX13 93 RX13 yX13_set wsX13_set) := goodIn_app (goodIn_of _ (by decide +kernel)) ggX13_thing_X13_set
theorem dX13_thing_0 : decode cX13_thing 0 = .ok (.aload_n 0, 1) := by decide +kernel
theorem dX13_thing_1 : decode cX13_thing 1 = .ok (.iload_n 1, 1) := by decide +kernel
theorem dX13_thing_2 : decode cX13_thing 2 = .ok (.invokevirtual 100, 3) := by decide +kernel
theorem dX13_thing_5 : decode cX13_thing 5 = .ok (.istore_n 3, 1) := by decide +kernel
theorem dX13_thing_6 : decode cX13_thing 6 = .ok (.iload_n 3, 1) := by decide +kernel
theorem dX13_thing_7 : decode cX13_thing 7 = .ok (.ifCond .ge 9, 3) := by decide +kernel
theorem dX13_thing_10 : decode cX13_thing 10 = .ok (.aload_n 0, 1) := by decide +kernel
theorem dX13_thing_11 : decode cX13_thing 11 = .ok (.iload_n 3, 1) := by decide +kernel
theorem dX13_thing_12 : decode cX13_thing 12 = .ok (.invokevirtual 69, 3) := by decide +kernel
theorem dX13_thing_15 : decode cX13_thing 15 = .ok (.ireturn, 1) := by decide +kernel
theorem dX13_thing_16 : decode cX13_thing 16 = .ok (.iload_n 2, 1) := by decide +kernel
theorem dX13_thing_17 : decode cX13_thing 17 = .ok (.invokestatic 103, 3) := by decide +kernel
theorem dX13_thing_20 : decode cX13_thing 20 = .ok (.ifCond .ne 10, 3) := by decide +kernel
theorem dX13_thing_23 : decode cX13_thing 23 = .ok (.aload_n 0, 1) := by decide +kernel
theorem dX13_thing_24 : decode cX13_thing 24 = .ok (.bipush (-6), 2) := by decide +kernel
theorem dX13_thing_26 : decode cX13_thing 26 = .ok (.invokevirtual 69, 3) := by decide +kernel
theorem dX13_thing_29 : decode cX13_thing 29 = .ok (.ireturn, 1) := by decide +kernel
theorem dX13_thing_30 : decode cX13_thing 30 = .ok (.aload_n 0, 1) := by decide +kernel
theorem dX13_thing_31 : decode cX13_thing 31 = .ok (.iload_n 1, 1) := by decide +kernel
theorem dX13_thing_32 : decode cX13_thing 32 = .ok (.iconst 0, 1) := by decide +kernel
theorem dX13_thing_33 : decode cX13_thing 33 = .ok (.invokevirtual 96, 3) := by decide +kernel
theorem dX13_thing_36 : decode cX13_thing 36 = .ok (.aload_n 0, 1) := by decide +kernel
theorem dX13_thing_37 : decode cX13_thing 37 = .ok (.iload_n 1, 1) := by decide +kernel
theorem dX13_thing_38 : decode cX13_thing 38 = .ok (.iconst 2, 1) := by decide +kernel
theorem dX13_thing_39 : decode cX13_thing 39 = .ok (.iload_n 2, 1) := by decide +kernel
theorem dX13_thing_40 : decode cX13_thing 40 = .ok (.invokevirtual 93, 3) := by decide +kernel
theorem dX13_thing_43 : decode cX13_thing 43 = .ok (.aload_n 0, 1) := by decide +kernel
theorem dX13_thing_44 : decode cX13_thing 44 = .ok (.iconst 0, 1) := by decide +kernel
theorem dX13_thing_45 : decode cX13_thing 45 = .ok (.invokevirtual 69, 3) := by decide +kernel
theorem dX13_thing_48 : decode cX13_thing 48 = .ok (.ireturn, 1) := by decide +kernel
theorem dX13_isWeight_0 : decode cX13_isWeight 0 = .ok (.fload_n 0, 1) := by decide +kernel
theorem dX13_isWeight_1 : decode cX13_isWeight 1 = .ok (.fconst 0, 1) := by decide +kernel
theorem dX13_isWeight_2 : decode cX13_isWeight 2 = .ok (.fcmp .l, 1) := by decide +kernel
theorem dX13_isWeight_3 : decode cX13_isWeight 3 = .ok (.ifCond .lt 14, 3) := by decide +kernel
theorem dX13_isWeight_6 : decode cX13_isWeight 6 = .ok (.fload_n 0, 1) := by decide +kernel
theorem dX13_isWeight_7 : decode cX13_isWeight 7 = .ok (.ldc 106, 2) := by decide +kernel
theorem dX13_isWeight_9 : decode cX13_isWeight 9 = .ok (.fcmp .g, 1) := by decide +kernel
theorem dX13_isWeight_10 : decode cX13_isWeight 10 = .ok (.ifCond .gt 7, 3) := by decide +kernel
theorem dX13_isWeight_13 : decode cX13_isWeight 13 = .ok (.iconst 1, 1) := by decide +kernel
theorem dX13_isWeight_14 : decode cX13_isWeight 14 = .ok (.goto 4, 3) := by decide +kernel
theorem dX13_isWeight_17 : decode cX13_isWeight 17 = .ok (.iconst 0, 1) := by decide +kernel
theorem dX13_isWeight_18 : decode cX13_isWeight 18 = .ok (.ireturn, 1) := by decide +kernel
set_option maxRecDepth 20000 in
theorem ggX13_weighs_X13_set : GoodIn wsX13_weighs wsX13_set := goodIn_r _ [7, 8, 9, 10, 11, 12, 13, 14, 15, 16, 17, 18] (by decide +kernel) (by decide +kernel)
set_option maxRecDepth 20000 in
theorem gX13_weighs_X13_set : GoodIn wsX13_weighs (wsV RX13 93 RX13 yX13_set wsX13_set) := goodIn_app (goodIn_of _ (by decide +kernel)) ggX13_weighs_X13_set
theorem dX13_weighs_0 : decode cX13_weighs 0 = .ok (.fload_n 2, 1) := by decide +kernel
theorem dX13_weighs_1 : decode cX13_weighs 1 = .ok (.ldc 107, 2) := by decide +kernel
theorem dX13_weighs_3 : decode cX13_weighs 3 = .ok (.fmul, 1) := by decide +kernel
theorem dX13_weighs_4 : decode cX13_weighs 4 = .ok (.fstore_n 3, 1) := by decide +kernel
theorem dX13_weighs_5 : decode cX13_weighs 5 = .ok (.fload_n 3, 1) := by decide +kernel
theorem dX13_weighs_6 : decode cX13_weighs 6 = .ok (.f2i, 1) := by decide +kernel
theorem dX13_weighs_7 : decode cX13_weighs 7 = .ok (.istore 4, 2) := by decide +kernel
theorem dX13_weighs_9 : decode cX13_weighs 9 = .ok (.aload_n 0, 1) := by decide +kernel
theorem dX13_weighs_10 : decode cX13_weighs 10 = .ok (.iload_n 1, 1) := by decide +kernel
theorem dX13_weighs_11 : decode cX13_weighs 11 = .ok (.bipush 6, 2) := by decide +kernel
theorem dX13_weighs_13 : decode cX13_weighs 13 = .ok (.iload 4, 2) := by decide +kernel
theorem dX13_weighs_15 : decode cX13_weighs 15 = .ok (.invokevirtual 93, 3) := by decide +kernel
theorem dX13_weighs_18 : decode cX13_weighs 18 = .ok (.aload_n 0, 1) := by decide +kernel
theorem dX13_weighs_19 : decode cX13_weighs 19 = .ok (.iload_n 1, 1) := by decide +kernel
theorem dX13_weighs_20 : decode cX13_weighs 20 = .ok (.bipush 7, 2) := by decide +kernel
theorem dX13_weighs_22 : decode cX13_weighs 22 = .ok (.fload_n 3, 1) := by decide +kernel
theorem dX13_weighs_23 : decode cX13_weighs 23 = .ok (.iload 4, 2) := by decide +kernel
theorem dX13_weighs_25 : decode cX13_weighs 25 = .ok (.i2f, 1) := by decide +kernel
theorem dX13_weighs_26 : decode cX13_weighs 26 = .ok (.fsub, 1) := by decide +kernel
theorem dX13_weighs_27 : decode cX13_weighs 27 = .ok (.ldc 108, 2) := by decide +kernel
theorem dX13_weighs_29 : decode cX13_weighs 29 = .ok (.fmul, 1) := by decide +kernel
theorem dX13_weighs_30 : decode cX13_weighs 30 = .ok (.f2i, 1) := by decide +kernel
theorem dX13_weighs_31 : decode cX13_weighs 31 = .ok (.invokevirtual 93, 3) := by decide +kernel
theorem dX13_weighs_34 : decode cX13_weighs 34 = .ok (.return_, 1) := by decide +kernel
set_option maxRecDepth 20000 in
theorem ggX13_gold_X13_bare : GoodIn wsX13_gold wsX13_bare := goodIn_r _ [5, 6, 7, 4, 8, 9, 10, 11, 12, 13, 42, 43, 44, 45, 46, 47, 48, 49, 50, 51] (by decide +kernel) (by decide +kernel)
set_option maxRecDepth 20000 in
theorem gX13_gold_X13_bare : GoodIn wsX13_gold (wsV RX13 100 RX13 yX13_bare wsX13_bare) := goodIn_app (goodIn_of _ (by decide +kernel)) ggX13_gold_X13_bare
set_option maxRecDepth 20000 in
theorem ggX13_gold_X13_says : GoodIn wsX13_gold wsX13_says := goodIn_r _ [17, 18, 19, 42, 43, 44, 45, 46, 47] (by decide +kernel) (by decide +kernel)
set_option maxRecDepth 20000 in
theorem gX13_gold_X13_says : GoodIn wsX13_gold (wsV RX13 69 RX13 yX13_says wsX13_says) := goodIn_app (goodIn_of _ (by decide +kernel)) ggX13_gold_X13_says
set_option maxRecDepth 20000 in
theorem ggX13_gold_X13_isWeight : GoodIn wsX13_gold wsX13_isWeight := goodIn_r _ [22, 23] (by decide +kernel) (by decide +kernel)
set_option maxRecDepth 20000 in
theorem gX13_gold_X13_isWeight : GoodIn wsX13_gold (va_wsS RX13 109 yX13_isWeight wsX13_isWeight) := goodIn_app (goodIn_of _ (by decide +kernel)) ggX13_gold_X13_isWeight
set_option maxRecDepth 20000 in
theorem ggX13_gold_X13_comes : GoodIn wsX13_gold wsX13_comes := goodIn_r _ [27, 28, 29, 30, 4, 31, 13, 32, 33, 34, 35, 42, 43, 44, 45, 46, 47, 48, 49, 50, 51] (by decide +kernel) (by decide +kernel)
set_option maxRecDepth 20000 in
theorem gX13_gold_X13_comes : GoodIn wsX13_gold (wsV RX13 96 RX13 yX13_comes wsX13_comes) := goodIn_app (goodIn_of _ (by decide +kernel)) ggX13_gold_X13_comes
set_option maxRecDepth 20000 in
theorem ggX13_gold_X13_weighs : GoodIn wsX13_gold wsX13_weighs := goodIn_r _ [39, 40, 41, 28, 29, 30, 4, 31, 13, 42, 43, 44, 45, 46, 47, 48, 49, 50, 51] (by decide +kernel) (by decide +kernel)
set_option maxRecDepth 20000 in
theorem gX13_gold_X13_weighs : GoodIn wsX13_gold (wsV RX13 113 RX13 yX13_weighs wsX13_weighs) := goodIn_app (goodIn_of _ (by decide +kernel)) ggX13_gold_X13_weighs
set_option maxRecDepth 20000 in
theorem ggX13_gold_X13_set : GoodIn wsX13_gold wsX13_set := goodIn_r _ [31, 13, 42, 43, 44, 45, 46, 47, 48, 49, 50, 51] (by decide +kernel) (by decide +kernel)
set_option maxRecDepth 20000 in
theorem gX13_gold_X13_set : GoodIn wsX13_gold (wsV RX13 93 RX13 yX13_set wsX13_set) := goodIn_app (goodIn_of _ (by decide +kernel)) ggX13_gold_X13_set
set_option maxRecDepth 20000 in
theorem ggX13_gold_X13_at : GoodIn wsX13_gold wsX13_at := goodIn_r _ [12, 13, 42, 43, 44, 45, 46, 47, 48, 49, 50, 51] (by decide +kernel) (by decide +kernel)
set_option maxRecDepth 20000 in
theorem gX13_gold_X13_at : GoodIn wsX13_gold (wsV RX13 90 RX13 yX13_at wsX13_at) := goodIn_app (goodIn_of _ (by decide +kernel)) ggX13_gold_X13_at
theorem dX13_gold_0 : decode cX13_gold 0 = .ok (.aload_n 0, 1) := by decide +kernel
theorem dX13_gold_1 : decode cX13_gold 1 = .ok (.iload_n 1, 1) := by decide +kernel
theorem dX13_gold_2 : decode cX13_gold 2 = .ok (.invokevirtual 100, 3) := by decide +kernel
theorem dX13_gold_5 : decode cX13_gold 5 = .ok (.istore 4, 2) := by decide +kernel
theorem dX13_gold_7 : decode cX13_gold 7 = .ok (.iload 4, 2) := by decide +kernel
theorem dX13_gold_9 : decode cX13_gold 9 = .ok (.ifCond .ge 10, 3) := by decide +kernel
theorem dX13_gold_12 : decode cX13_gold 12 = .ok (.aload_n 0, 1) := by decide +kernel
theorem dX13_gold_13 : decode cX13_gold 13 = .ok (.iload 4, 2) := by decide +kernel
theorem dX13_gold_15 : decode cX13_gold 15 = .ok (.invokevirtual 69, 3) := by decide +kernel
theorem dX13_gold_18 : decode cX13_gold 18 = .ok (.ireturn, 1) := by decide +kernel
theorem dX13_gold_19 : decode cX13_gold 19 = .ok (.fload_n 2, 1) := by decide +kernel
theorem dX13_gold_20 : decode cX13_gold 20 = .ok (.invokestatic 109, 3) := by decide +kernel
theorem dX13_gold_23 : decode cX13_gold 23 = .ok (.ifCond .eq 15, 3) := by decide +kernel
theorem dX13_gold_26 : decode cX13_gold 26 = .ok (.iload_n 3, 1) := by decide +kernel
theorem dX13_gold_27 : decode cX13_gold 27 = .ok (.iconst 1, 1) := by decide +kernel
theorem dX13_gold_28 : decode cX13_gold 28 = .ok (.if_icmp .lt 10, 3) := by decide +kernel
theorem dX13_gold_31 : decode cX13_gold 31 = .ok (.iload_n 3, 1) := by decide +kernel
theorem dX13_gold_32 : decode cX13_gold 32 = .ok (.sipush 1000, 3) := by decide +kernel
theorem dX13_gold_35 : decode cX13_gold 35 = .ok (.if_icmp .le 10, 3) := by decide +kernel
theorem dX13_gold_38 : decode cX13_gold 38 = .ok (.aload_n 0, 1) := by decide +kernel
theorem dX13_gold_39 : decode cX13_gold 39 = .ok (.bipush (-6), 2) := by decide +kernel
theorem dX13_gold_41 : decode cX13_gold 41 = .ok (.invokevirtual 69, 3) := by decide +kernel
theorem dX13_gold_44 : decode cX13_gold 44 = .ok (.ireturn, 1) := by decide +kernel
theorem dX13_gold_45 : decode cX13_gold 45 = .ok (.aload_n 0, 1) := by decide +kernel
theorem dX13_gold_46 : decode cX13_gold 46 = .ok (.iload_n 1, 1) := by decide +kernel
theorem dX13_gold_47 : decode cX13_gold 47 = .ok (.iconst 1, 1) := by decide +kernel
theorem dX13_gold_48 : decode cX13_gold 48 = .ok (.invokevirtual 96, 3) := by decide +kernel
theorem dX13_gold_51 : decode cX13_gold 51 = .ok (.aload_n 0, 1) := by decide +kernel
theorem dX13_gold_52 : decode cX13_gold 52 = .ok (.iload_n 1, 1) := by decide +kernel
theorem dX13_gold_53 : decode cX13_gold 53 = .ok (.fload_n 2, 1) := by decide +kernel
theorem dX13_gold_54 : decode cX13_gold 54 = .ok (.invokevirtual 113, 3) := by decide +kernel
theorem dX13_gold_57 : decode cX13_gold 57 = .ok (.aload_n 0, 1) := by decide +kernel
theorem dX13_gold_58 : decode cX13_gold 58 = .ok (.iload_n 1, 1) := by decide +kernel
theorem dX13_gold_59 : decode cX13_gold 59 = .ok (.iconst 4, 1) := by decide +kernel
theorem dX13_gold_60 : decode cX13_gold 60 = .ok (.iload_n 3, 1) := by decide +kernel
theorem dX13_gold_61 : decode cX13_gold 61 = .ok (.invokevirtual 93, 3) := by decide +kernel
theorem dX13_gold_64 : decode cX13_gold 64 = .ok (.aload_n 0, 1) := by decide +kernel
theorem dX13_gold_65 : decode cX13_gold 65 = .ok (.aload_n 0, 1) := by decide +kernel
theorem dX13_gold_66 : decode cX13_gold 66 = .ok (.iload_n 1, 1) := by decide +kernel
theorem dX13_gold_67 : decode cX13_gold 67 = .ok (.bipush 6, 2) := by decide +kernel
theorem dX13_gold_69 : decode cX13_gold 69 = .ok (.invokevirtual 90, 3) := by decide +kernel
theorem dX13_gold_72 : decode cX13_gold 72 = .ok (.invokevirtual 69, 3) := by decide +kernel
theorem dX13_gold_75 : decode cX13_gold 75 = .ok (.ireturn, 1) := by decide +kernel
set_option maxRecDepth 20000 in
theorem ggX13_coat_X13_bare : GoodIn wsX13_coat wsX13_bare := goodIn_r _ [5, 6, 7, 4, 8, 9, 10, 11, 12, 13, 36, 37, 38, 39, 40, 41, 42, 43, 44, 45] (by decide +kernel) (by decide +kernel)
set_option maxRecDepth 20000 in
theorem gX13_coat_X13_bare : GoodIn wsX13_coat (wsV RX13 100 RX13 yX13_bare wsX13_bare) := goodIn_app (goodIn_of _ (by decide +kernel)) ggX13_coat_X13_bare
set_option maxRecDepth 20000 in
theorem ggX13_coat_X13_says : GoodIn wsX13_coat wsX13_says := goodIn_r _ [17, 18, 19, 36, 37, 38, 39, 40, 41] (by decide +kernel) (by decide +kernel)
set_option maxRecDepth 20000 in
theorem gX13_coat_X13_says : GoodIn wsX13_coat (wsV RX13 69 RX13 yX13_says wsX13_says) := goodIn_app (goodIn_of _ (by decide +kernel)) ggX13_coat_X13_says
set_option maxRecDepth 20000 in
theorem ggX13_coat_X13_isValue : GoodIn wsX13_coat wsX13_isValue := goodIn_r _ [22, 23] (by decide +kernel) (by decide +kernel)
set_option maxRecDepth 20000 in
theorem gX13_coat_X13_isValue : GoodIn wsX13_coat (va_wsS RX13 103 yX13_isValue wsX13_isValue) := goodIn_app (goodIn_of _ (by decide +kernel)) ggX13_coat_X13_isValue
set_option maxRecDepth 20000 in
theorem ggX13_coat_X13_comes : GoodIn wsX13_coat wsX13_comes := goodIn_r _ [27, 28, 29, 30, 4, 31, 13, 32, 33, 34, 35, 36, 37, 38, 39, 40, 41, 42, 43, 44, 45] (by decide +kernel) (by decide +kernel)
set_option maxRecDepth 20000 in
theorem gX13_coat_X13_comes : GoodIn wsX13_coat (wsV RX13 96 RX13 yX13_comes wsX13_comes) := goodIn_app (goodIn_of _ (by decide +kernel)) ggX13_coat_X13_comes
set_option maxRecDepth 20000 in
theorem ggX13_coat_X13_set : GoodIn wsX13_coat wsX13_set := goodIn_r _ [31, 13, 36, 37, 38, 39, 40, 41, 42, 43, 44, 45] (by decide +kernel) (by decide +kernel)
set_option maxRecDepth 20000 in
theorem gX13_coat_X13_set : GoodIn wsX13_coat (wsV RX13 93 RX13 yX13_set wsX13_set) := goodIn_app (goodIn_of _ (by decide +kernel)) ggX13_coat_X13_set
theorem dX13_coat_0 : decode cX13_coat 0 = .ok (.aload_n 0, 1) := by decide +kernel
theorem dX13_coat_1 : decode cX13_coat 1 = .ok (.iload_n 1, 1) := by decide +kernel
theorem dX13_coat_2 : decode cX13_coat 2 = .ok (.invokevirtual 100, 3) := by decide +kernel
theorem dX13_coat_5 : decode cX13_coat 5 = .ok (.istore 4, 2) := by decide +kernel
theorem dX13_coat_7 : decode cX13_coat 7 = .ok (.iload 4, 2) := by decide +kernel
theorem dX13_coat_9 : decode cX13_coat 9 = .ok (.ifCond .ge 10, 3) := by decide +kernel
theorem dX13_coat_12 : decode cX13_coat 12 = .ok (.aload_n 0, 1) := by decide +kernel
theorem dX13_coat_13 : decode cX13_coat 13 = .ok (.iload 4, 2) := by decide +kernel
theorem dX13_coat_15 : decode cX13_coat 15 = .ok (.invokevirtual 69, 3) := by decide +kernel
theorem dX13_coat_18 : decode cX13_coat 18 = .ok (.ireturn, 1) := by decide +kernel
theorem dX13_coat_19 : decode cX13_coat 19 = .ok (.iload_n 2, 1) := by decide +kernel
theorem dX13_coat_20 : decode cX13_coat 20 = .ok (.invokestatic 103, 3) := by decide +kernel
theorem dX13_coat_23 : decode cX13_coat 23 = .ok (.ifCond .eq 14, 3) := by decide +kernel
theorem dX13_coat_26 : decode cX13_coat 26 = .ok (.iload_n 3, 1) := by decide +kernel
theorem dX13_coat_27 : decode cX13_coat 27 = .ok (.ifCond .lt 10, 3) := by decide +kernel
theorem dX13_coat_30 : decode cX13_coat 30 = .ok (.iload_n 3, 1) := by decide +kernel
theorem dX13_coat_31 : decode cX13_coat 31 = .ok (.sipush 500, 3) := by decide +kernel
theorem dX13_coat_34 : decode cX13_coat 34 = .ok (.if_icmp .le 10, 3) := by decide +kernel
theorem dX13_coat_37 : decode cX13_coat 37 = .ok (.aload_n 0, 1) := by decide +kernel
theorem dX13_coat_38 : decode cX13_coat 38 = .ok (.bipush (-6), 2) := by decide +kernel
theorem dX13_coat_40 : decode cX13_coat 40 = .ok (.invokevirtual 69, 3) := by decide +kernel
theorem dX13_coat_43 : decode cX13_coat 43 = .ok (.ireturn, 1) := by decide +kernel
theorem dX13_coat_44 : decode cX13_coat 44 = .ok (.aload_n 0, 1) := by decide +kernel
theorem dX13_coat_45 : decode cX13_coat 45 = .ok (.iload_n 1, 1) := by decide +kernel
theorem dX13_coat_46 : decode cX13_coat 46 = .ok (.iconst 3, 1) := by decide +kernel
theorem dX13_coat_47 : decode cX13_coat 47 = .ok (.invokevirtual 96, 3) := by decide +kernel
theorem dX13_coat_50 : decode cX13_coat 50 = .ok (.aload_n 0, 1) := by decide +kernel
theorem dX13_coat_51 : decode cX13_coat 51 = .ok (.iload_n 1, 1) := by decide +kernel
theorem dX13_coat_52 : decode cX13_coat 52 = .ok (.iconst 2, 1) := by decide +kernel
theorem dX13_coat_53 : decode cX13_coat 53 = .ok (.iload_n 2, 1) := by decide +kernel
theorem dX13_coat_54 : decode cX13_coat 54 = .ok (.invokevirtual 93, 3) := by decide +kernel
theorem dX13_coat_57 : decode cX13_coat 57 = .ok (.aload_n 0, 1) := by decide +kernel
theorem dX13_coat_58 : decode cX13_coat 58 = .ok (.iload_n 1, 1) := by decide +kernel
theorem dX13_coat_59 : decode cX13_coat 59 = .ok (.iconst 4, 1) := by decide +kernel
theorem dX13_coat_60 : decode cX13_coat 60 = .ok (.iload_n 3, 1) := by decide +kernel
theorem dX13_coat_61 : decode cX13_coat 61 = .ok (.invokevirtual 93, 3) := by decide +kernel
theorem dX13_coat_64 : decode cX13_coat 64 = .ok (.aload_n 0, 1) := by decide +kernel
theorem dX13_coat_65 : decode cX13_coat 65 = .ok (.iconst 0, 1) := by decide +kernel
theorem dX13_coat_66 : decode cX13_coat 66 = .ok (.invokevirtual 69, 3) := by decide +kernel
theorem dX13_coat_69 : decode cX13_coat 69 = .ok (.ireturn, 1) := by decide +kernel
set_option maxRecDepth 20000 in
theorem ggX13_rare_X13_bare : GoodIn wsX13_rare wsX13_bare := goodIn_r _ [5, 6, 7, 4, 8, 9, 10, 11, 12, 13, 42, 43, 44, 45, 46, 47, 48, 49, 50, 51] (by decide +kernel) (by decide +kernel)
set_option maxRecDepth 20000 in
theorem gX13_rare_X13_bare : GoodIn wsX13_rare (wsV RX13 100 RX13 yX13_bare wsX13_bare) := goodIn_app (goodIn_of _ (by decide +kernel)) ggX13_rare_X13_bare
set_option maxRecDepth 20000 in
theorem ggX13_rare_X13_says : GoodIn wsX13_rare wsX13_says := goodIn_r _ [17, 18, 19, 42, 43, 44, 45, 46, 47] (by decide +kernel) (by decide +kernel)
set_option maxRecDepth 20000 in
theorem gX13_rare_X13_says : GoodIn wsX13_rare (wsV RX13 69 RX13 yX13_says wsX13_says) := goodIn_app (goodIn_of _ (by decide +kernel)) ggX13_rare_X13_says
set_option maxRecDepth 20000 in
theorem ggX13_rare_X13_isWeight : GoodIn wsX13_rare wsX13_isWeight := goodIn_r _ [22, 23] (by decide +kernel) (by decide +kernel)
set_option maxRecDepth 20000 in
theorem gX13_rare_X13_isWeight : GoodIn wsX13_rare (va_wsS RX13 109 yX13_isWeight wsX13_isWeight) := goodIn_app (goodIn_of _ (by decide +kernel)) ggX13_rare_X13_isWeight
set_option maxRecDepth 20000 in
theorem ggX13_rare_X13_comes : GoodIn wsX13_rare wsX13_comes := goodIn_r _ [27, 28, 29, 30, 4, 31, 13, 32, 33, 34, 35, 42, 43, 44, 45, 46, 47, 48, 49, 50, 51] (by decide +kernel) (by decide +kernel)
set_option maxRecDepth 20000 in
theorem gX13_rare_X13_comes : GoodIn wsX13_rare (wsV RX13 96 RX13 yX13_comes wsX13_comes) := goodIn_app (goodIn_of _ (by decide +kernel)) ggX13_rare_X13_comes
set_option maxRecDepth 20000 in
theorem ggX13_rare_X13_weighs : GoodIn wsX13_rare wsX13_weighs := goodIn_r _ [39, 40, 41, 28, 29, 30, 4, 31, 13, 42, 43, 44, 45, 46, 47, 48, 49, 50, 51] (by decide +kernel) (by decide +kernel)
set_option maxRecDepth 20000 in
theorem gX13_rare_X13_weighs : GoodIn wsX13_rare (wsV RX13 113 RX13 yX13_weighs wsX13_weighs) := goodIn_app (goodIn_of _ (by decide +kernel)) ggX13_rare_X13_weighs
set_option maxRecDepth 20000 in
theorem ggX13_rare_X13_at : GoodIn wsX13_rare wsX13_at := goodIn_r _ [12, 13, 42, 43, 44, 45, 46, 47, 48, 49, 50, 51] (by decide +kernel) (by decide +kernel)
set_option maxRecDepth 20000 in
theorem gX13_rare_X13_at : GoodIn wsX13_rare (wsV RX13 90 RX13 yX13_at wsX13_at) := goodIn_app (goodIn_of _ (by decide +kernel)) ggX13_rare_X13_at
theorem dX13_rare_0 : decode cX13_rare 0 = .ok (.aload_n 0, 1) := by decide +kernel
theorem dX13_rare_1 : decode cX13_rare 1 = .ok (.iload_n 1, 1) := by decide +kernel
theorem dX13_rare_2 : decode cX13_rare 2 = .ok (.invokevirtual 100, 3) := by decide +kernel
theorem dX13_rare_5 : decode cX13_rare 5 = .ok (.istore_n 3, 1) := by decide +kernel
theorem dX13_rare_6 : decode cX13_rare 6 = .ok (.iload_n 3, 1) := by decide +kernel
theorem dX13_rare_7 : decode cX13_rare 7 = .ok (.ifCond .ge 9, 3) := by decide +kernel
theorem dX13_rare_10 : decode cX13_rare 10 = .ok (.aload_n 0, 1) := by decide +kernel
theorem dX13_rare_11 : decode cX13_rare 11 = .ok (.iload_n 3, 1) := by decide +kernel
theorem dX13_rare_12 : decode cX13_rare 12 = .ok (.invokevirtual 69, 3) := by decide +kernel
theorem dX13_rare_15 : decode cX13_rare 15 = .ok (.ireturn, 1) := by decide +kernel
theorem dX13_rare_16 : decode cX13_rare 16 = .ok (.fload_n 2, 1) := by decide +kernel
theorem dX13_rare_17 : decode cX13_rare 17 = .ok (.invokestatic 109, 3) := by decide +kernel
theorem dX13_rare_20 : decode cX13_rare 20 = .ok (.ifCond .ne 10, 3) := by decide +kernel
theorem dX13_rare_23 : decode cX13_rare 23 = .ok (.aload_n 0, 1) := by decide +kernel
theorem dX13_rare_24 : decode cX13_rare 24 = .ok (.bipush (-6), 2) := by decide +kernel
theorem dX13_rare_26 : decode cX13_rare 26 = .ok (.invokevirtual 69, 3) := by decide +kernel
theorem dX13_rare_29 : decode cX13_rare 29 = .ok (.ireturn, 1) := by decide +kernel
theorem dX13_rare_30 : decode cX13_rare 30 = .ok (.aload_n 0, 1) := by decide +kernel
theorem dX13_rare_31 : decode cX13_rare 31 = .ok (.iload_n 1, 1) := by decide +kernel
theorem dX13_rare_32 : decode cX13_rare 32 = .ok (.iconst 4, 1) := by decide +kernel
theorem dX13_rare_33 : decode cX13_rare 33 = .ok (.invokevirtual 96, 3) := by decide +kernel
theorem dX13_rare_36 : decode cX13_rare 36 = .ok (.aload_n 0, 1) := by decide +kernel
theorem dX13_rare_37 : decode cX13_rare 37 = .ok (.iload_n 1, 1) := by decide +kernel
theorem dX13_rare_38 : decode cX13_rare 38 = .ok (.fload_n 2, 1) := by decide +kernel
theorem dX13_rare_39 : decode cX13_rare 39 = .ok (.invokevirtual 113, 3) := by decide +kernel
theorem dX13_rare_42 : decode cX13_rare 42 = .ok (.aload_n 0, 1) := by decide +kernel
theorem dX13_rare_43 : decode cX13_rare 43 = .ok (.aload_n 0, 1) := by decide +kernel
theorem dX13_rare_44 : decode cX13_rare 44 = .ok (.iload_n 1, 1) := by decide +kernel
theorem dX13_rare_45 : decode cX13_rare 45 = .ok (.bipush 6, 2) := by decide +kernel
theorem dX13_rare_47 : decode cX13_rare 47 = .ok (.invokevirtual 90, 3) := by decide +kernel
theorem dX13_rare_50 : decode cX13_rare 50 = .ok (.invokevirtual 69, 3) := by decide +kernel
theorem dX13_rare_53 : decode cX13_rare 53 = .ok (.ireturn, 1) := by decide +kernel
set_option maxRecDepth 20000 in
theorem ggX13_second_X13_isPlace : GoodIn wsX13_second wsX13_isPlace := goodIn_r _ [4] (by decide +kernel) (by decide +kernel)
set_option maxRecDepth 20000 in
theorem gX13_second_X13_isPlace : GoodIn wsX13_second (va_wsS RX13 87 yX13_isPlace wsX13_isPlace) := goodIn_app (goodIn_of _ (by decide +kernel)) ggX13_second_X13_isPlace
set_option maxRecDepth 20000 in
theorem ggX13_second_X13_says : GoodIn wsX13_second wsX13_says := goodIn_r _ [8, 9, 10, 24, 25, 26, 27, 28, 29] (by decide +kernel) (by decide +kernel)
set_option maxRecDepth 20000 in
theorem gX13_second_X13_says : GoodIn wsX13_second (wsV RX13 69 RX13 yX13_says wsX13_says) := goodIn_app (goodIn_of _ (by decide +kernel)) ggX13_second_X13_says
set_option maxRecDepth 20000 in
theorem ggX13_second_X13_at : GoodIn wsX13_second wsX13_at := goodIn_r _ [14, 15, 24, 25, 26, 27, 28, 29, 30, 31, 32, 33] (by decide +kernel) (by decide +kernel)
set_option maxRecDepth 20000 in
theorem gX13_second_X13_at : GoodIn wsX13_second (wsV RX13 90 RX13 yX13_at wsX13_at) := goodIn_app (goodIn_of _ (by decide +kernel)) ggX13_second_X13_at
set_option maxRecDepth 20000 in
theorem ggX13_second_X13_isValue : GoodIn wsX13_second wsX13_isValue := goodIn_r _ [18, 19] (by decide +kernel) (by decide +kernel)
set_option maxRecDepth 20000 in
theorem gX13_second_X13_isValue : GoodIn wsX13_second (va_wsS RX13 103 yX13_isValue wsX13_isValue) := goodIn_app (goodIn_of _ (by decide +kernel)) ggX13_second_X13_isValue
set_option maxRecDepth 20000 in
theorem ggX13_second_X13_set : GoodIn wsX13_second wsX13_set := goodIn_r _ [23, 15, 24, 25, 26, 27, 28, 29, 30, 31, 32, 33] (by decide +kernel) (by decide +kernel)
set_option maxRecDepth 20000 in
theorem gX13_second_X13_set : GoodIn wsX13_second (wsV RX13 93 RX13 yX13_set wsX13_set) := goodIn_app (goodIn_of _ (by decide +kernel)) ggX13_second_X13_set
theorem dX13_second_0 : decode cX13_second 0 = .ok (.iload_n 1, 1) := by decide +kernel
theorem dX13_second_1 : decode cX13_second 1 = .ok (.invokestatic 87, 3) := by decide +kernel
theorem dX13_second_4 : decode cX13_second 4 = .ok (.ifCond .ne 9, 3) := by decide +kernel
theorem dX13_second_7 : decode cX13_second 7 = .ok (.aload_n 0, 1) := by decide +kernel
theorem dX13_second_8 : decode cX13_second 8 = .ok (.iconst (-1), 1) := by decide +kernel
theorem dX13_second_9 : decode cX13_second 9 = .ok (.invokevirtual 69, 3) := by decide +kernel
theorem dX13_second_12 : decode cX13_second 12 = .ok (.ireturn, 1) := by decide +kernel
theorem dX13_second_13 : decode cX13_second 13 = .ok (.aload_n 0, 1) := by decide +kernel
theorem dX13_second_14 : decode cX13_second 14 = .ok (.iload_n 1, 1) := by decide +kernel
theorem dX13_second_15 : decode cX13_second 15 = .ok (.iconst 0, 1) := by decide +kernel
theorem dX13_second_16 : decode cX13_second 16 = .ok (.invokevirtual 90, 3) := by decide +kernel
theorem dX13_second_19 : decode cX13_second 19 = .ok (.iconst 4, 1) := by decide +kernel
theorem dX13_second_20 : decode cX13_second 20 = .ok (.if_icmp .ne 12, 3) := by decide +kernel
theorem dX13_second_23 : decode cX13_second 23 = .ok (.aload_n 0, 1) := by decide +kernel
theorem dX13_second_24 : decode cX13_second 24 = .ok (.iload_n 1, 1) := by decide +kernel
theorem dX13_second_25 : decode cX13_second 25 = .ok (.iconst 1, 1) := by decide +kernel
theorem dX13_second_26 : decode cX13_second 26 = .ok (.invokevirtual 90, 3) := by decide +kernel
theorem dX13_second_29 : decode cX13_second 29 = .ok (.ifCond .le 10, 3) := by decide +kernel
theorem dX13_second_32 : decode cX13_second 32 = .ok (.aload_n 0, 1) := by decide +kernel
theorem dX13_second_33 : decode cX13_second 33 = .ok (.bipush (-2), 2) := by decide +kernel
theorem dX13_second_35 : decode cX13_second 35 = .ok (.invokevirtual 69, 3) := by decide +kernel
theorem dX13_second_38 : decode cX13_second 38 = .ok (.ireturn, 1) := by decide +kernel
theorem dX13_second_39 : decode cX13_second 39 = .ok (.iload_n 2, 1) := by decide +kernel
theorem dX13_second_40 : decode cX13_second 40 = .ok (.invokestatic 103, 3) := by decide +kernel
theorem dX13_second_43 : decode cX13_second 43 = .ok (.ifCond .ne 10, 3) := by decide +kernel
theorem dX13_second_46 : decode cX13_second 46 = .ok (.aload_n 0, 1) := by decide +kernel
theorem dX13_second_47 : decode cX13_second 47 = .ok (.bipush (-6), 2) := by decide +kernel
theorem dX13_second_49 : decode cX13_second 49 = .ok (.invokevirtual 69, 3) := by decide +kernel
theorem dX13_second_52 : decode cX13_second 52 = .ok (.ireturn, 1) := by decide +kernel
theorem dX13_second_53 : decode cX13_second 53 = .ok (.aload_n 0, 1) := by decide +kernel
theorem dX13_second_54 : decode cX13_second 54 = .ok (.iload_n 1, 1) := by decide +kernel
theorem dX13_second_55 : decode cX13_second 55 = .ok (.iconst 3, 1) := by decide +kernel
theorem dX13_second_56 : decode cX13_second 56 = .ok (.aload_n 0, 1) := by decide +kernel
theorem dX13_second_57 : decode cX13_second 57 = .ok (.iload_n 1, 1) := by decide +kernel
theorem dX13_second_58 : decode cX13_second 58 = .ok (.iconst 2, 1) := by decide +kernel
theorem dX13_second_59 : decode cX13_second 59 = .ok (.invokevirtual 90, 3) := by decide +kernel
theorem dX13_second_62 : decode cX13_second 62 = .ok (.invokevirtual 93, 3) := by decide +kernel
theorem dX13_second_65 : decode cX13_second 65 = .ok (.aload_n 0, 1) := by decide +kernel
theorem dX13_second_66 : decode cX13_second 66 = .ok (.iload_n 1, 1) := by decide +kernel
theorem dX13_second_67 : decode cX13_second 67 = .ok (.iconst 2, 1) := by decide +kernel
theorem dX13_second_68 : decode cX13_second 68 = .ok (.iload_n 2, 1) := by decide +kernel
theorem dX13_second_69 : decode cX13_second 69 = .ok (.invokevirtual 93, 3) := by decide +kernel
theorem dX13_second_72 : decode cX13_second 72 = .ok (.aload_n 0, 1) := by decide +kernel
theorem dX13_second_73 : decode cX13_second 73 = .ok (.iload_n 1, 1) := by decide +kernel
theorem dX13_second_74 : decode cX13_second 74 = .ok (.bipush 8, 2) := by decide +kernel
theorem dX13_second_76 : decode cX13_second 76 = .ok (.aload_n 0, 1) := by decide +kernel
theorem dX13_second_77 : decode cX13_second 77 = .ok (.iload_n 1, 1) := by decide +kernel
theorem dX13_second_78 : decode cX13_second 78 = .ok (.bipush 8, 2) := by decide +kernel
theorem dX13_second_80 : decode cX13_second 80 = .ok (.invokevirtual 90, 3) := by decide +kernel
theorem dX13_second_83 : decode cX13_second 83 = .ok (.iconst 1, 1) := by decide +kernel
theorem dX13_second_84 : decode cX13_second 84 = .ok (.iadd, 1) := by decide +kernel
theorem dX13_second_85 : decode cX13_second 85 = .ok (.invokevirtual 93, 3) := by decide +kernel
theorem dX13_second_88 : decode cX13_second 88 = .ok (.aload_n 0, 1) := by decide +kernel
theorem dX13_second_89 : decode cX13_second 89 = .ok (.aload_n 0, 1) := by decide +kernel
theorem dX13_second_90 : decode cX13_second 90 = .ok (.iload_n 1, 1) := by decide +kernel
theorem dX13_second_91 : decode cX13_second 91 = .ok (.bipush 8, 2) := by decide +kernel
theorem dX13_second_93 : decode cX13_second 93 = .ok (.invokevirtual 90, 3) := by decide +kernel
theorem dX13_second_96 : decode cX13_second 96 = .ok (.invokevirtual 69, 3) := by decide +kernel
theorem dX13_second_99 : decode cX13_second 99 = .ok (.ireturn, 1) := by decide +kernel
set_option maxRecDepth 20000 in
theorem ggX13_item_X13_isPlace : GoodIn wsX13_item wsX13_isPlace := goodIn_r _ [4] (by decide +kernel) (by decide +kernel)
set_option maxRecDepth 20000 in
theorem gX13_item_X13_isPlace : GoodIn wsX13_item (va_wsS RX13 87 yX13_isPlace wsX13_isPlace) := goodIn_app (goodIn_of _ (by decide +kernel)) ggX13_item_X13_isPlace
set_option maxRecDepth 20000 in
theorem ggX13_item_X13_says : GoodIn wsX13_item wsX13_says := goodIn_r _ [8, 9, 10, 32, 33, 34, 35, 36, 37] (by decide +kernel) (by decide +kernel)
set_option maxRecDepth 20000 in
theorem gX13_item_X13_says : GoodIn wsX13_item (wsV RX13 69 RX13 yX13_says wsX13_says) := goodIn_app (goodIn_of _ (by decide +kernel)) ggX13_item_X13_says
set_option maxRecDepth 20000 in
theorem ggX13_item_X13_at : GoodIn wsX13_item wsX13_at := goodIn_r _ [14, 15, 32, 33, 34, 35, 36, 37, 38, 39, 40, 41] (by decide +kernel) (by decide +kernel)
set_option maxRecDepth 20000 in
theorem gX13_item_X13_at : GoodIn wsX13_item (wsV RX13 90 RX13 yX13_at wsX13_at) := goodIn_app (goodIn_of _ (by decide +kernel)) ggX13_item_X13_at
set_option maxRecDepth 20000 in
theorem ggX13_item_X13_isValue : GoodIn wsX13_item wsX13_isValue := goodIn_r _ [18, 19] (by decide +kernel) (by decide +kernel)
set_option maxRecDepth 20000 in
theorem gX13_item_X13_isValue : GoodIn wsX13_item (va_wsS RX13 103 yX13_isValue wsX13_isValue) := goodIn_app (goodIn_of _ (by decide +kernel)) ggX13_item_X13_isValue
set_option maxRecDepth 20000 in
theorem ggX13_item_X13_comes : GoodIn wsX13_item wsX13_comes := goodIn_r _ [23, 24, 25, 26, 3, 27, 15, 28, 29, 30, 31, 32, 33, 34, 35, 36, 37, 38, 39, 40, 41] (by decide +kernel) (by decide +kernel)
set_option maxRecDepth 20000 in
theorem gX13_item_X13_comes : GoodIn wsX13_item (wsV RX13 96 RX13 yX13_comes wsX13_comes) := goodIn_app (goodIn_of _ (by decide +kernel)) ggX13_item_X13_comes
set_option maxRecDepth 20000 in
theorem ggX13_item_X13_set : GoodIn wsX13_item wsX13_set := goodIn_r _ [27, 15, 32, 33, 34, 35, 36, 37, 38, 39, 40, 41] (by decide +kernel) (by decide +kernel)
set_option maxRecDepth 20000 in
theorem gX13_item_X13_set : GoodIn wsX13_item (wsV RX13 93 RX13 yX13_set wsX13_set) := goodIn_app (goodIn_of _ (by decide +kernel)) ggX13_item_X13_set
theorem dX13_item_0 : decode cX13_item 0 = .ok (.iload_n 1, 1) := by decide +kernel
theorem dX13_item_1 : decode cX13_item 1 = .ok (.invokestatic 87, 3) := by decide +kernel
theorem dX13_item_4 : decode cX13_item 4 = .ok (.ifCond .ne 9, 3) := by decide +kernel
theorem dX13_item_7 : decode cX13_item 7 = .ok (.aload_n 0, 1) := by decide +kernel
theorem dX13_item_8 : decode cX13_item 8 = .ok (.iconst (-1), 1) := by decide +kernel
theorem dX13_item_9 : decode cX13_item 9 = .ok (.invokevirtual 69, 3) := by decide +kernel
theorem dX13_item_12 : decode cX13_item 12 = .ok (.ireturn, 1) := by decide +kernel
theorem dX13_item_13 : decode cX13_item 13 = .ok (.aload_n 0, 1) := by decide +kernel
theorem dX13_item_14 : decode cX13_item 14 = .ok (.iload_n 1, 1) := by decide +kernel
theorem dX13_item_15 : decode cX13_item 15 = .ok (.iconst 0, 1) := by decide +kernel
theorem dX13_item_16 : decode cX13_item 16 = .ok (.invokevirtual 90, 3) := by decide +kernel
theorem dX13_item_19 : decode cX13_item 19 = .ok (.iconst (-1), 1) := by decide +kernel
theorem dX13_item_20 : decode cX13_item 20 = .ok (.if_icmp .ne 7, 3) := by decide +kernel
theorem dX13_item_23 : decode cX13_item 23 = .ok (.iconst 1, 1) := by decide +kernel
theorem dX13_item_24 : decode cX13_item 24 = .ok (.goto 4, 3) := by decide +kernel
theorem dX13_item_27 : decode cX13_item 27 = .ok (.iconst 0, 1) := by decide +kernel
theorem dX13_item_28 : decode cX13_item 28 = .ok (.istore_n 3, 1) := by decide +kernel
theorem dX13_item_29 : decode cX13_item 29 = .ok (.iload_n 3, 1) := by decide +kernel
theorem dX13_item_30 : decode cX13_item 30 = .ok (.ifCond .ne 29, 3) := by decide +kernel
theorem dX13_item_33 : decode cX13_item 33 = .ok (.aload_n 0, 1) := by decide +kernel
theorem dX13_item_34 : decode cX13_item 34 = .ok (.iload_n 1, 1) := by decide +kernel
theorem dX13_item_35 : decode cX13_item 35 = .ok (.iconst 0, 1) := by decide +kernel
theorem dX13_item_36 : decode cX13_item 36 = .ok (.invokevirtual 90, 3) := by decide +kernel
theorem dX13_item_39 : decode cX13_item 39 = .ok (.iconst 2, 1) := by decide +kernel
theorem dX13_item_40 : decode cX13_item 40 = .ok (.if_icmp .ne 12, 3) := by decide +kernel
theorem dX13_item_43 : decode cX13_item 43 = .ok (.aload_n 0, 1) := by decide +kernel
theorem dX13_item_44 : decode cX13_item 44 = .ok (.iload_n 1, 1) := by decide +kernel
theorem dX13_item_45 : decode cX13_item 45 = .ok (.iconst 1, 1) := by decide +kernel
theorem dX13_item_46 : decode cX13_item 46 = .ok (.invokevirtual 90, 3) := by decide +kernel
theorem dX13_item_49 : decode cX13_item 49 = .ok (.ifCond .le 10, 3) := by decide +kernel
theorem dX13_item_52 : decode cX13_item 52 = .ok (.aload_n 0, 1) := by decide +kernel
theorem dX13_item_53 : decode cX13_item 53 = .ok (.bipush (-2), 2) := by decide +kernel
theorem dX13_item_55 : decode cX13_item 55 = .ok (.invokevirtual 69, 3) := by decide +kernel
theorem dX13_item_58 : decode cX13_item 58 = .ok (.ireturn, 1) := by decide +kernel
theorem dX13_item_59 : decode cX13_item 59 = .ok (.iload_n 2, 1) := by decide +kernel
theorem dX13_item_60 : decode cX13_item 60 = .ok (.invokestatic 103, 3) := by decide +kernel
theorem dX13_item_63 : decode cX13_item 63 = .ok (.ifCond .eq 19, 3) := by decide +kernel
theorem dX13_item_66 : decode cX13_item 66 = .ok (.iload_n 3, 1) := by decide +kernel
theorem dX13_item_67 : decode cX13_item 67 = .ok (.ifCond .ne 22, 3) := by decide +kernel
theorem dX13_item_70 : decode cX13_item 70 = .ok (.aload_n 0, 1) := by decide +kernel
theorem dX13_item_71 : decode cX13_item 71 = .ok (.iload_n 1, 1) := by decide +kernel
theorem dX13_item_72 : decode cX13_item 72 = .ok (.bipush 8, 2) := by decide +kernel
theorem dX13_item_74 : decode cX13_item 74 = .ok (.invokevirtual 90, 3) := by decide +kernel
theorem dX13_item_77 : decode cX13_item 77 = .ok (.bipush 6, 2) := by decide +kernel
theorem dX13_item_79 : decode cX13_item 79 = .ok (.if_icmp .ne 10, 3) := by decide +kernel
theorem dX13_item_82 : decode cX13_item 82 = .ok (.aload_n 0, 1) := by decide +kernel
theorem dX13_item_83 : decode cX13_item 83 = .ok (.bipush (-6), 2) := by decide +kernel
theorem dX13_item_85 : decode cX13_item 85 = .ok (.invokevirtual 69, 3) := by decide +kernel
theorem dX13_item_88 : decode cX13_item 88 = .ok (.ireturn, 1) := by decide +kernel
theorem dX13_item_89 : decode cX13_item 89 = .ok (.iload_n 3, 1) := by decide +kernel
theorem dX13_item_90 : decode cX13_item 90 = .ok (.ifCond .eq 9, 3) := by decide +kernel
theorem dX13_item_93 : decode cX13_item 93 = .ok (.aload_n 0, 1) := by decide +kernel
theorem dX13_item_94 : decode cX13_item 94 = .ok (.iload_n 1, 1) := by decide +kernel
theorem dX13_item_95 : decode cX13_item 95 = .ok (.iconst 2, 1) := by decide +kernel
theorem dX13_item_96 : decode cX13_item 96 = .ok (.invokevirtual 96, 3) := by decide +kernel
theorem dX13_item_99 : decode cX13_item 99 = .ok (.aload_n 0, 1) := by decide +kernel
theorem dX13_item_100 : decode cX13_item 100 = .ok (.iload_n 1, 1) := by decide +kernel
theorem dX13_item_101 : decode cX13_item 101 = .ok (.bipush 8, 2) := by decide +kernel
theorem dX13_item_103 : decode cX13_item 103 = .ok (.invokevirtual 90, 3) := by decide +kernel
theorem dX13_item_106 : decode cX13_item 106 = .ok (.istore 4, 2) := by decide +kernel
theorem dX13_item_108 : decode cX13_item 108 = .ok (.aload_n 0, 1) := by decide +kernel
theorem dX13_item_109 : decode cX13_item 109 = .ok (.iload_n 1, 1) := by decide +kernel
theorem dX13_item_110 : decode cX13_item 110 = .ok (.bipush 9, 2) := by decide +kernel
theorem dX13_item_112 : decode cX13_item 112 = .ok (.iload 4, 2) := by decide +kernel
theorem dX13_item_114 : decode cX13_item 114 = .ok (.iadd, 1) := by decide +kernel
theorem dX13_item_115 : decode cX13_item 115 = .ok (.iload_n 2, 1) := by decide +kernel
theorem dX13_item_116 : decode cX13_item 116 = .ok (.invokevirtual 93, 3) := by decide +kernel
theorem dX13_item_119 : decode cX13_item 119 = .ok (.aload_n 0, 1) := by decide +kernel
theorem dX13_item_120 : decode cX13_item 120 = .ok (.iload_n 1, 1) := by decide +kernel
theorem dX13_item_121 : decode cX13_item 121 = .ok (.bipush 8, 2) := by decide +kernel
theorem dX13_item_123 : decode cX13_item 123 = .ok (.iload 4, 2) := by decide +kernel
theorem dX13_item_125 : decode cX13_item 125 = .ok (.iconst 1, 1) := by decide +kernel
theorem dX13_item_126 : decode cX13_item 126 = .ok (.iadd, 1) := by decide +kernel
theorem dX13_item_127 : decode cX13_item 127 = .ok (.invokevirtual 93, 3) := by decide +kernel
theorem dX13_item_130 : decode cX13_item 130 = .ok (.aload_n 0, 1) := by decide +kernel
theorem dX13_item_131 : decode cX13_item 131 = .ok (.iload 4, 2) := by decide +kernel
theorem dX13_item_133 : decode cX13_item 133 = .ok (.invokevirtual 69, 3) := by decide +kernel
theorem dX13_item_136 : decode cX13_item 136 = .ok (.ireturn, 1) := by decide +kernel
set_option maxRecDepth 20000 in
theorem ggX13_box_X13_isPlace : GoodIn wsX13_box wsX13_isPlace := goodIn_r _ [4] (by decide +kernel) (by decide +kernel)
set_option maxRecDepth 20000 in
theorem gX13_box_X13_isPlace : GoodIn wsX13_box (va_wsS RX13 87 yX13_isPlace wsX13_isPlace) := goodIn_app (goodIn_of _ (by decide +kernel)) ggX13_box_X13_isPlace
set_option maxRecDepth 20000 in
theorem ggX13_box_X13_says : GoodIn wsX13_box wsX13_says := goodIn_r _ [8, 9, 10, 32, 33, 34, 35, 36, 37] (by decide +kernel) (by decide +kernel)
set_option maxRecDepth 20000 in
theorem gX13_box_X13_says : GoodIn wsX13_box (wsV RX13 69 RX13 yX13_says wsX13_says) := goodIn_app (goodIn_of _ (by decide +kernel)) ggX13_box_X13_says
set_option maxRecDepth 20000 in
theorem ggX13_box_X13_at : GoodIn wsX13_box wsX13_at := goodIn_r _ [14, 15, 32, 33, 34, 35, 36, 37, 38, 39, 40, 41] (by decide +kernel) (by decide +kernel)
set_option maxRecDepth 20000 in
theorem gX13_box_X13_at : GoodIn wsX13_box (wsV RX13 90 RX13 yX13_at wsX13_at) := goodIn_app (goodIn_of _ (by decide +kernel)) ggX13_box_X13_at
set_option maxRecDepth 20000 in
theorem ggX13_box_X13_comes : GoodIn wsX13_box wsX13_comes := goodIn_r _ [19, 20, 21, 22, 3, 23, 15, 24, 25, 26, 27, 32, 33, 34, 35, 36, 37, 38, 39, 40, 41] (by decide +kernel) (by decide +kernel)
set_option maxRecDepth 20000 in
theorem gX13_box_X13_comes : GoodIn wsX13_box (wsV RX13 96 RX13 yX13_comes wsX13_comes) := goodIn_app (goodIn_of _ (by decide +kernel)) ggX13_box_X13_comes
set_option maxRecDepth 20000 in
theorem ggX13_box_X13_leaves : GoodIn wsX13_box wsX13_leaves := goodIn_r _ [31, 16, 17, 18, 3, 19, 20, 21, 22, 23, 15, 24, 25, 26, 27, 32, 33, 34, 35, 36, 37, 38, 39, 40, 41] (by decide +kernel) (by decide +kernel)
set_option maxRecDepth 20000 in
theorem gX13_box_X13_leaves : GoodIn wsX13_box (wsV RX13 117 RX13 yX13_leaves wsX13_leaves) := goodIn_app (goodIn_of _ (by decide +kernel)) ggX13_box_X13_leaves
theorem dX13_box_0 : decode cX13_box 0 = .ok (.iload_n 1, 1) := by decide +kernel
theorem dX13_box_1 : decode cX13_box 1 = .ok (.invokestatic 87, 3) := by decide +kernel
theorem dX13_box_4 : decode cX13_box 4 = .ok (.ifCond .ne 9, 3) := by decide +kernel
theorem dX13_box_7 : decode cX13_box 7 = .ok (.aload_n 0, 1) := by decide +kernel
theorem dX13_box_8 : decode cX13_box 8 = .ok (.iconst (-1), 1) := by decide +kernel
theorem dX13_box_9 : decode cX13_box 9 = .ok (.invokevirtual 69, 3) := by decide +kernel
theorem dX13_box_12 : decode cX13_box 12 = .ok (.ireturn, 1) := by decide +kernel
theorem dX13_box_13 : decode cX13_box 13 = .ok (.aload_n 0, 1) := by decide +kernel
theorem dX13_box_14 : decode cX13_box 14 = .ok (.iload_n 1, 1) := by decide +kernel
theorem dX13_box_15 : decode cX13_box 15 = .ok (.iconst 0, 1) := by decide +kernel
theorem dX13_box_16 : decode cX13_box 16 = .ok (.invokevirtual 90, 3) := by decide +kernel
theorem dX13_box_19 : decode cX13_box 19 = .ok (.istore_n 2, 1) := by decide +kernel
theorem dX13_box_20 : decode cX13_box 20 = .ok (.iload_n 2, 1) := by decide +kernel
theorem dX13_box_21 : decode cX13_box 21 = .ok (.iconst (-1), 1) := by decide +kernel
theorem dX13_box_22 : decode cX13_box 22 = .ok (.if_icmp .eq 15, 3) := by decide +kernel
theorem dX13_box_25 : decode cX13_box 25 = .ok (.iload_n 2, 1) := by decide +kernel
theorem dX13_box_26 : decode cX13_box 26 = .ok (.iconst 5, 1) := by decide +kernel
theorem dX13_box_27 : decode cX13_box 27 = .ok (.if_icmp .eq 10, 3) := by decide +kernel
theorem dX13_box_30 : decode cX13_box 30 = .ok (.aload_n 0, 1) := by decide +kernel
theorem dX13_box_31 : decode cX13_box 31 = .ok (.bipush (-2), 2) := by decide +kernel
theorem dX13_box_33 : decode cX13_box 33 = .ok (.invokevirtual 69, 3) := by decide +kernel
theorem dX13_box_36 : decode cX13_box 36 = .ok (.ireturn, 1) := by decide +kernel
theorem dX13_box_37 : decode cX13_box 37 = .ok (.iload_n 2, 1) := by decide +kernel
theorem dX13_box_38 : decode cX13_box 38 = .ok (.iconst (-1), 1) := by decide +kernel
theorem dX13_box_39 : decode cX13_box 39 = .ok (.if_icmp .ne 12, 3) := by decide +kernel
theorem dX13_box_42 : decode cX13_box 42 = .ok (.aload_n 0, 1) := by decide +kernel
theorem dX13_box_43 : decode cX13_box 43 = .ok (.iload_n 1, 1) := by decide +kernel
theorem dX13_box_44 : decode cX13_box 44 = .ok (.iconst 5, 1) := by decide +kernel
theorem dX13_box_45 : decode cX13_box 45 = .ok (.invokevirtual 96, 3) := by decide +kernel
theorem dX13_box_48 : decode cX13_box 48 = .ok (.goto 8, 3) := by decide +kernel
theorem dX13_box_51 : decode cX13_box 51 = .ok (.aload_n 0, 1) := by decide +kernel
theorem dX13_box_52 : decode cX13_box 52 = .ok (.iload_n 1, 1) := by decide +kernel
theorem dX13_box_53 : decode cX13_box 53 = .ok (.invokevirtual 117, 3) := by decide +kernel
theorem dX13_box_56 : decode cX13_box 56 = .ok (.aload_n 0, 1) := by decide +kernel
theorem dX13_box_57 : decode cX13_box 57 = .ok (.iload_n 2, 1) := by decide +kernel
theorem dX13_box_58 : decode cX13_box 58 = .ok (.iconst (-1), 1) := by decide +kernel
theorem dX13_box_59 : decode cX13_box 59 = .ok (.if_icmp .ne 7, 3) := by decide +kernel
theorem dX13_box_62 : decode cX13_box 62 = .ok (.iconst 1, 1) := by decide +kernel
theorem dX13_box_63 : decode cX13_box 63 = .ok (.goto 4, 3) := by decide +kernel
theorem dX13_box_66 : decode cX13_box 66 = .ok (.iconst 0, 1) := by decide +kernel
theorem dX13_box_67 : decode cX13_box 67 = .ok (.invokevirtual 69, 3) := by decide +kernel
theorem dX13_box_70 : decode cX13_box 70 = .ok (.ireturn, 1) := by decide +kernel
set_option maxRecDepth 20000 in
theorem ggX13_away_X13_isPlace : GoodIn wsX13_away wsX13_isPlace := goodIn_r _ [4] (by decide +kernel) (by decide +kernel)
set_option maxRecDepth 20000 in
theorem gX13_away_X13_isPlace : GoodIn wsX13_away (va_wsS RX13 87 yX13_isPlace wsX13_isPlace) := goodIn_app (goodIn_of _ (by decide +kernel)) ggX13_away_X13_isPlace
set_option maxRecDepth 20000 in
theorem ggX13_away_X13_says : GoodIn wsX13_away wsX13_says := goodIn_r _ [8, 9, 10, 36, 37, 38, 39, 40, 41] (by decide +kernel) (by decide +kernel)
set_option maxRecDepth 20000 in
theorem gX13_away_X13_says : GoodIn wsX13_away (wsV RX13 69 RX13 yX13_says wsX13_says) := goodIn_app (goodIn_of _ (by decide +kernel)) ggX13_away_X13_says
set_option maxRecDepth 20000 in
theorem ggX13_away_X13_isPledge : GoodIn wsX13_away wsX13_isPledge := goodIn_r _ [14, 15, 16, 17, 3, 18, 19, 36, 37, 38, 39, 40, 41, 42, 43, 44, 45] (by decide +kernel) (by decide +kernel)
set_option maxRecDepth 20000 in
theorem gX13_away_X13_isPledge : GoodIn wsX13_away (wsV RX13 120 RX13 yX13_isPledge wsX13_isPledge) := goodIn_app (goodIn_of _ (by decide +kernel)) ggX13_away_X13_isPledge
set_option maxRecDepth 20000 in
theorem ggX13_away_X13_at : GoodIn wsX13_away wsX13_at := goodIn_r _ [18, 19, 36, 37, 38, 39, 40, 41, 42, 43, 44, 45] (by decide +kernel) (by decide +kernel)
set_option maxRecDepth 20000 in
theorem gX13_away_X13_at : GoodIn wsX13_away (wsV RX13 90 RX13 yX13_at wsX13_at) := goodIn_app (goodIn_of _ (by decide +kernel)) ggX13_away_X13_at
set_option maxRecDepth 20000 in
theorem ggX13_away_X13_leaves : GoodIn wsX13_away wsX13_leaves := goodIn_r _ [23, 24, 25, 26, 3, 27, 28, 29, 30, 31, 19, 32, 33, 34, 35, 36, 37, 38, 39, 40, 41, 42, 43, 44, 45] (by decide +kernel) (by decide +kernel)
set_option maxRecDepth 20000 in
theorem gX13_away_X13_leaves : GoodIn wsX13_away (wsV RX13 117 RX13 yX13_leaves wsX13_leaves) := goodIn_app (goodIn_of _ (by decide +kernel)) ggX13_away_X13_leaves
theorem dX13_away_0 : decode cX13_away 0 = .ok (.iload_n 1, 1) := by decide +kernel
theorem dX13_away_1 : decode cX13_away 1 = .ok (.invokestatic 87, 3) := by decide +kernel
theorem dX13_away_4 : decode cX13_away 4 = .ok (.ifCond .ne 9, 3) := by decide +kernel
theorem dX13_away_7 : decode cX13_away 7 = .ok (.aload_n 0, 1) := by decide +kernel
theorem dX13_away_8 : decode cX13_away 8 = .ok (.iconst (-1), 1) := by decide +kernel
theorem dX13_away_9 : decode cX13_away 9 = .ok (.invokevirtual 69, 3) := by decide +kernel
theorem dX13_away_12 : decode cX13_away 12 = .ok (.ireturn, 1) := by decide +kernel
theorem dX13_away_13 : decode cX13_away 13 = .ok (.aload_n 0, 1) := by decide +kernel
theorem dX13_away_14 : decode cX13_away 14 = .ok (.iload_n 1, 1) := by decide +kernel
theorem dX13_away_15 : decode cX13_away 15 = .ok (.invokevirtual 120, 3) := by decide +kernel
theorem dX13_away_18 : decode cX13_away 18 = .ok (.ifCond .eq 12, 3) := by decide +kernel
theorem dX13_away_21 : decode cX13_away 21 = .ok (.aload_n 0, 1) := by decide +kernel
theorem dX13_away_22 : decode cX13_away 22 = .ok (.iload_n 1, 1) := by decide +kernel
theorem dX13_away_23 : decode cX13_away 23 = .ok (.iconst 1, 1) := by decide +kernel
theorem dX13_away_24 : decode cX13_away 24 = .ok (.invokevirtual 90, 3) := by decide +kernel
theorem dX13_away_27 : decode cX13_away 27 = .ok (.ifCond .le 10, 3) := by decide +kernel
theorem dX13_away_30 : decode cX13_away 30 = .ok (.aload_n 0, 1) := by decide +kernel
theorem dX13_away_31 : decode cX13_away 31 = .ok (.bipush (-2), 2) := by decide +kernel
theorem dX13_away_33 : decode cX13_away 33 = .ok (.invokevirtual 69, 3) := by decide +kernel
theorem dX13_away_36 : decode cX13_away 36 = .ok (.ireturn, 1) := by decide +kernel
theorem dX13_away_37 : decode cX13_away 37 = .ok (.aload_n 0, 1) := by decide +kernel
theorem dX13_away_38 : decode cX13_away 38 = .ok (.iload_n 1, 1) := by decide +kernel
theorem dX13_away_39 : decode cX13_away 39 = .ok (.invokevirtual 117, 3) := by decide +kernel
theorem dX13_away_42 : decode cX13_away 42 = .ok (.aload_n 0, 1) := by decide +kernel
theorem dX13_away_43 : decode cX13_away 43 = .ok (.iconst 0, 1) := by decide +kernel
theorem dX13_away_44 : decode cX13_away 44 = .ok (.invokevirtual 69, 3) := by decide +kernel
theorem dX13_away_47 : decode cX13_away 47 = .ok (.ireturn, 1) := by decide +kernel
set_option maxRecDepth 20000 in
theorem ggX13_worth_X13_at : GoodIn wsX13_worth wsX13_at := goodIn_r _ [11, 12, 21, 22, 23, 24, 25, 26, 27, 28, 29, 30] (by decide +kernel) (by decide +kernel)
set_option maxRecDepth 20000 in
theorem gX13_worth_X13_at : GoodIn wsX13_worth (wsV RX13 90 RX13 yX13_at wsX13_at) := goodIn_app (goodIn_of _ (by decide +kernel)) ggX13_worth_X13_at
set_option maxRecDepth 20000 in
theorem ggX13_worth_X13_ruleOf : GoodIn wsX13_worth wsX13_ruleOf := goodIn_r _ [16, 12, 21, 22, 23, 24, 25, 26, 27, 28, 29, 30] (by decide +kernel) (by decide +kernel)
set_option maxRecDepth 20000 in
theorem gX13_worth_X13_ruleOf : GoodIn wsX13_worth (wsV RX13 123 RX13 yX13_ruleOf wsX13_ruleOf) := goodIn_app (goodIn_of _ (by decide +kernel)) ggX13_worth_X13_ruleOf
set_option maxRecDepth 20000 in
theorem ggX13_worth_X13_today : GoodIn wsX13_worth wsX13_today := goodIn_r _ [20, 12, 21, 22, 23, 24, 25, 26, 27, 28, 29, 30] (by decide +kernel) (by decide +kernel)
set_option maxRecDepth 20000 in
theorem gX13_worth_X13_today : GoodIn wsX13_worth (wsV RX13 53 RX13 yX13_today wsX13_today) := goodIn_app (goodIn_of _ (by decide +kernel)) ggX13_worth_X13_today
theorem dX13_worth_0 : decode cX13_worth 0 = .ok (.aload_n 0, 1) := by decide +kernel
theorem dX13_worth_1 : decode cX13_worth 1 = .ok (.iload_n 1, 1) := by decide +kernel
theorem dX13_worth_2 : decode cX13_worth 2 = .ok (.iconst 0, 1) := by decide +kernel
theorem dX13_worth_3 : decode cX13_worth 3 = .ok (.invokevirtual 90, 3) := by decide +kernel
theorem dX13_worth_6 : decode cX13_worth 6 = .ok (.tableswitch 189 0 4 #[34, 42, 70, 104, 157], 34) := by decide +kernel
theorem dX13_worth_40 : decode cX13_worth 40 = .ok (.aload_n 0, 1) := by decide +kernel
theorem dX13_worth_41 : decode cX13_worth 41 = .ok (.iload_n 1, 1) := by decide +kernel
theorem dX13_worth_42 : decode cX13_worth 42 = .ok (.iconst 2, 1) := by decide +kernel
theorem dX13_worth_43 : decode cX13_worth 43 = .ok (.invokevirtual 90, 3) := by decide +kernel
theorem dX13_worth_46 : decode cX13_worth 46 = .ok (.i2l, 1) := by decide +kernel
theorem dX13_worth_47 : decode cX13_worth 47 = .ok (.lreturn, 1) := by decide +kernel
theorem dX13_worth_48 : decode cX13_worth 48 = .ok (.aload_n 0, 1) := by decide +kernel
theorem dX13_worth_49 : decode cX13_worth 49 = .ok (.iload_n 1, 1) := by decide +kernel
theorem dX13_worth_50 : decode cX13_worth 50 = .ok (.bipush 6, 2) := by decide +kernel
theorem dX13_worth_52 : decode cX13_worth 52 = .ok (.invokevirtual 90, 3) := by decide +kernel
theorem dX13_worth_55 : decode cX13_worth 55 = .ok (.i2l, 1) := by decide +kernel
theorem dX13_worth_56 : decode cX13_worth 56 = .ok (.aload_n 0, 1) := by decide +kernel
theorem dX13_worth_57 : decode cX13_worth 57 = .ok (.iload_n 1, 1) := by decide +kernel
theorem dX13_worth_58 : decode cX13_worth 58 = .ok (.iconst 4, 1) := by decide +kernel
theorem dX13_worth_59 : decode cX13_worth 59 = .ok (.invokevirtual 90, 3) := by decide +kernel
theorem dX13_worth_62 : decode cX13_worth 62 = .ok (.i2l, 1) := by decide +kernel
theorem dX13_worth_63 : decode cX13_worth 63 = .ok (.lmul, 1) := by decide +kernel
theorem dX13_worth_64 : decode cX13_worth 64 = .ok (.aload_n 0, 1) := by decide +kernel
theorem dX13_worth_65 : decode cX13_worth 65 = .ok (.iconst 3, 1) := by decide +kernel
theorem dX13_worth_66 : decode cX13_worth 66 = .ok (.invokevirtual 123, 3) := by decide +kernel
theorem dX13_worth_69 : decode cX13_worth 69 = .ok (.i2l, 1) := by decide +kernel
theorem dX13_worth_70 : decode cX13_worth 70 = .ok (.lmul, 1) := by decide +kernel
theorem dX13_worth_71 : decode cX13_worth 71 = .ok (.ldc2_w 126, 3) := by decide +kernel
theorem dX13_worth_74 : decode cX13_worth 74 = .ok (.ldiv, 1) := by decide +kernel
theorem dX13_worth_75 : decode cX13_worth 75 = .ok (.lreturn, 1) := by decide +kernel
theorem dX13_worth_76 : decode cX13_worth 76 = .ok (.lconst 0, 1) := by decide +kernel
theorem dX13_worth_77 : decode cX13_worth 77 = .ok (.lstore_n 2, 1) := by decide +kernel
theorem dX13_worth_78 : decode cX13_worth 78 = .ok (.iconst 0, 1) := by decide +kernel
theorem dX13_worth_79 : decode cX13_worth 79 = .ok (.istore 4, 2) := by decide +kernel
theorem dX13_worth_81 : decode cX13_worth 81 = .ok (.iload 4, 2) := by decide +kernel
theorem dX13_worth_83 : decode cX13_worth 83 = .ok (.bipush 6, 2) := by decide +kernel
theorem dX13_worth_85 : decode cX13_worth 85 = .ok (.if_icmp .ge 23, 3) := by decide +kernel
theorem dX13_worth_88 : decode cX13_worth 88 = .ok (.lload_n 2, 1) := by decide +kernel
theorem dX13_worth_89 : decode cX13_worth 89 = .ok (.aload_n 0, 1) := by decide +kernel
theorem dX13_worth_90 : decode cX13_worth 90 = .ok (.iload_n 1, 1) := by decide +kernel
theorem dX13_worth_91 : decode cX13_worth 91 = .ok (.bipush 9, 2) := by decide +kernel
theorem dX13_worth_93 : decode cX13_worth 93 = .ok (.iload 4, 2) := by decide +kernel
theorem dX13_worth_95 : decode cX13_worth 95 = .ok (.iadd, 1) := by decide +kernel
theorem dX13_worth_96 : decode cX13_worth 96 = .ok (.invokevirtual 90, 3) := by decide +kernel
theorem dX13_worth_99 : decode cX13_worth 99 = .ok (.i2l, 1) := by decide +kernel
theorem dX13_worth_100 : decode cX13_worth 100 = .ok (.ladd, 1) := by decide +kernel
theorem dX13_worth_101 : decode cX13_worth 101 = .ok (.lstore_n 2, 1) := by decide +kernel
theorem dX13_worth_102 : decode cX13_worth 102 = .ok (.iinc 4 1, 3) := by decide +kernel
theorem dX13_worth_105 : decode cX13_worth 105 = .ok (.goto (-24), 3) := by decide +kernel
theorem dX13_worth_108 : decode cX13_worth 108 = .ok (.lload_n 2, 1) := by decide +kernel
theorem dX13_worth_109 : decode cX13_worth 109 = .ok (.lreturn, 1) := by decide +kernel
theorem dX13_worth_110 : decode cX13_worth 110 = .ok (.ldc2_w 61, 3) := by decide +kernel
theorem dX13_worth_113 : decode cX13_worth 113 = .ok (.aload_n 0, 1) := by decide +kernel
theorem dX13_worth_114 : decode cX13_worth 114 = .ok (.iload_n 1, 1) := by decide +kernel
theorem dX13_worth_115 : decode cX13_worth 115 = .ok (.iconst 4, 1) := by decide +kernel
theorem dX13_worth_116 : decode cX13_worth 116 = .ok (.invokevirtual 90, 3) := by decide +kernel
theorem dX13_worth_119 : decode cX13_worth 119 = .ok (.i2l, 1) := by decide +kernel
theorem dX13_worth_120 : decode cX13_worth 120 = .ok (.aload_n 0, 1) := by decide +kernel
theorem dX13_worth_121 : decode cX13_worth 121 = .ok (.invokevirtual 53, 3) := by decide +kernel
theorem dX13_worth_124 : decode cX13_worth 124 = .ok (.aload_n 0, 1) := by decide +kernel
theorem dX13_worth_125 : decode cX13_worth 125 = .ok (.iload_n 1, 1) := by decide +kernel
theorem dX13_worth_126 : decode cX13_worth 126 = .ok (.iconst 5, 1) := by decide +kernel
theorem dX13_worth_127 : decode cX13_worth 127 = .ok (.invokevirtual 90, 3) := by decide +kernel
theorem dX13_worth_130 : decode cX13_worth 130 = .ok (.isub, 1) := by decide +kernel
theorem dX13_worth_131 : decode cX13_worth 131 = .ok (.sipush 360, 3) := by decide +kernel
theorem dX13_worth_134 : decode cX13_worth 134 = .ok (.idiv, 1) := by decide +kernel
theorem dX13_worth_135 : decode cX13_worth 135 = .ok (.i2l, 1) := by decide +kernel
theorem dX13_worth_136 : decode cX13_worth 136 = .ok (.lmul, 1) := by decide +kernel
theorem dX13_worth_137 : decode cX13_worth 137 = .ok (.lsub, 1) := by decide +kernel
theorem dX13_worth_138 : decode cX13_worth 138 = .ok (.lstore_n 2, 1) := by decide +kernel
theorem dX13_worth_139 : decode cX13_worth 139 = .ok (.lload_n 2, 1) := by decide +kernel
theorem dX13_worth_140 : decode cX13_worth 140 = .ok (.lconst 0, 1) := by decide +kernel
theorem dX13_worth_141 : decode cX13_worth 141 = .ok (.lcmp, 1) := by decide +kernel
theorem dX13_worth_142 : decode cX13_worth 142 = .ok (.ifCond .gt 7, 3) := by decide +kernel
theorem dX13_worth_145 : decode cX13_worth 145 = .ok (.lconst 0, 1) := by decide +kernel
theorem dX13_worth_146 : decode cX13_worth 146 = .ok (.goto 16, 3) := by decide +kernel
theorem dX13_worth_149 : decode cX13_worth 149 = .ok (.aload_n 0, 1) := by decide +kernel
theorem dX13_worth_150 : decode cX13_worth 150 = .ok (.iload_n 1, 1) := by decide +kernel
theorem dX13_worth_151 : decode cX13_worth 151 = .ok (.iconst 2, 1) := by decide +kernel
theorem dX13_worth_152 : decode cX13_worth 152 = .ok (.invokevirtual 90, 3) := by decide +kernel
theorem dX13_worth_155 : decode cX13_worth 155 = .ok (.i2l, 1) := by decide +kernel
theorem dX13_worth_156 : decode cX13_worth 156 = .ok (.lload_n 2, 1) := by decide +kernel
theorem dX13_worth_157 : decode cX13_worth 157 = .ok (.lmul, 1) := by decide +kernel
theorem dX13_worth_158 : decode cX13_worth 158 = .ok (.ldc2_w 61, 3) := by decide +kernel
theorem dX13_worth_161 : decode cX13_worth 161 = .ok (.ldiv, 1) := by decide +kernel
theorem dX13_worth_162 : decode cX13_worth 162 = .ok (.lreturn, 1) := by decide +kernel
theorem dX13_worth_163 : decode cX13_worth 163 = .ok (.aload_n 0, 1) := by decide +kernel
theorem dX13_worth_164 : decode cX13_worth 164 = .ok (.iload_n 1, 1) := by decide +kernel
theorem dX13_worth_165 : decode cX13_worth 165 = .ok (.bipush 8, 2) := by decide +kernel
theorem dX13_worth_167 : decode cX13_worth 167 = .ok (.invokevirtual 90, 3) := by decide +kernel
theorem dX13_worth_170 : decode cX13_worth 170 = .ok (.iconst 2, 1) := by decide +kernel
theorem dX13_worth_171 : decode cX13_worth 171 = .ok (.if_icmp .ge 7, 3) := by decide +kernel
theorem dX13_worth_174 : decode cX13_worth 174 = .ok (.lconst 0, 1) := by decide +kernel
theorem dX13_worth_175 : decode cX13_worth 175 = .ok (.goto 19, 3) := by decide +kernel
theorem dX13_worth_178 : decode cX13_worth 178 = .ok (.aload_n 0, 1) := by decide +kernel
theorem dX13_worth_179 : decode cX13_worth 179 = .ok (.iload_n 1, 1) := by decide +kernel
theorem dX13_worth_180 : decode cX13_worth 180 = .ok (.iconst 2, 1) := by decide +kernel
theorem dX13_worth_181 : decode cX13_worth 181 = .ok (.invokevirtual 90, 3) := by decide +kernel
theorem dX13_worth_184 : decode cX13_worth 184 = .ok (.aload_n 0, 1) := by decide +kernel
theorem dX13_worth_185 : decode cX13_worth 185 = .ok (.iload_n 1, 1) := by decide +kernel
theorem dX13_worth_186 : decode cX13_worth 186 = .ok (.iconst 3, 1) := by decide +kernel
theorem dX13_worth_187 : decode cX13_worth 187 = .ok (.invokevirtual 90, 3) := by decide +kernel
theorem dX13_worth_190 : decode cX13_worth 190 = .ok (.invokestatic 128, 3) := by decide +kernel
theorem dX13_worth_193 : decode cX13_worth 193 = .ok (.i2l, 1) := by decide +kernel
theorem dX13_worth_194 : decode cX13_worth 194 = .ok (.lreturn, 1) := by decide +kernel
theorem dX13_worth_195 : decode cX13_worth 195 = .ok (.lconst 0, 1) := by decide +kernel
theorem dX13_worth_196 : decode cX13_worth 196 = .ok (.lreturn, 1) := by decide +kernel
set_option maxRecDepth 20000 in
theorem ggX13_items_X13_at : GoodIn wsX13_items wsX13_at := goodIn_r _ [5, 6, 7, 8, 9, 10, 11, 12, 13, 14, 15, 16] (by decide +kernel) (by decide +kernel)
set_option maxRecDepth 20000 in
theorem gX13_items_X13_at : GoodIn wsX13_items (wsV RX13 90 RX13 yX13_at wsX13_at) := goodIn_app (goodIn_of _ (by decide +kernel)) ggX13_items_X13_at
theorem dX13_items_0 : decode cX13_items 0 = .ok (.iconst 0, 1) := by decide +kernel
theorem dX13_items_1 : decode cX13_items 1 = .ok (.istore_n 2, 1) := by decide +kernel
theorem dX13_items_2 : decode cX13_items 2 = .ok (.iconst 0, 1) := by decide +kernel
theorem dX13_items_3 : decode cX13_items 3 = .ok (.istore_n 3, 1) := by decide +kernel
theorem dX13_items_4 : decode cX13_items 4 = .ok (.iload_n 3, 1) := by decide +kernel
theorem dX13_items_5 : decode cX13_items 5 = .ok (.bipush 6, 2) := by decide +kernel
theorem dX13_items_7 : decode cX13_items 7 = .ok (.if_icmp .ge 29, 3) := by decide +kernel
theorem dX13_items_10 : decode cX13_items 10 = .ok (.iload_n 2, 1) := by decide +kernel
theorem dX13_items_11 : decode cX13_items 11 = .ok (.aload_n 0, 1) := by decide +kernel
theorem dX13_items_12 : decode cX13_items 12 = .ok (.iload_n 1, 1) := by decide +kernel
theorem dX13_items_13 : decode cX13_items 13 = .ok (.bipush 9, 2) := by decide +kernel
theorem dX13_items_15 : decode cX13_items 15 = .ok (.iload_n 3, 1) := by decide +kernel
theorem dX13_items_16 : decode cX13_items 16 = .ok (.iadd, 1) := by decide +kernel
theorem dX13_items_17 : decode cX13_items 17 = .ok (.invokevirtual 90, 3) := by decide +kernel
theorem dX13_items_20 : decode cX13_items 20 = .ok (.ifCond .le 7, 3) := by decide +kernel
theorem dX13_items_23 : decode cX13_items 23 = .ok (.iconst 1, 1) := by decide +kernel
theorem dX13_items_24 : decode cX13_items 24 = .ok (.goto 4, 3) := by decide +kernel
theorem dX13_items_27 : decode cX13_items 27 = .ok (.iconst 0, 1) := by decide +kernel
theorem dX13_items_28 : decode cX13_items 28 = .ok (.iadd, 1) := by decide +kernel
theorem dX13_items_29 : decode cX13_items 29 = .ok (.istore_n 2, 1) := by decide +kernel
theorem dX13_items_30 : decode cX13_items 30 = .ok (.iinc 3 1, 3) := by decide +kernel
theorem dX13_items_33 : decode cX13_items 33 = .ok (.goto (-29), 3) := by decide +kernel
theorem dX13_items_36 : decode cX13_items 36 = .ok (.iload_n 2, 1) := by decide +kernel
theorem dX13_items_37 : decode cX13_items 37 = .ok (.ireturn, 1) := by decide +kernel
set_option maxRecDepth 20000 in
theorem ggX13_lend_X13_isPlace : GoodIn wsX13_lend wsX13_isPlace := goodIn_r _ [8] (by decide +kernel) (by decide +kernel)
set_option maxRecDepth 20000 in
theorem gX13_lend_X13_isPlace : GoodIn wsX13_lend (va_wsS RX13 87 yX13_isPlace wsX13_isPlace) := goodIn_app (goodIn_of _ (by decide +kernel)) ggX13_lend_X13_isPlace
set_option maxRecDepth 20000 in
theorem ggX13_lend_X13_says : GoodIn wsX13_lend wsX13_says := goodIn_r _ [12, 13, 14, 59, 60, 61, 62, 63, 64] (by decide +kernel) (by decide +kernel)
set_option maxRecDepth 20000 in
theorem gX13_lend_X13_says : GoodIn wsX13_lend (wsV RX13 69 RX13 yX13_says wsX13_says) := goodIn_app (goodIn_of _ (by decide +kernel)) ggX13_lend_X13_says
set_option maxRecDepth 20000 in
theorem ggX13_lend_X13_isPledge : GoodIn wsX13_lend wsX13_isPledge := goodIn_r _ [18, 19, 20, 21, 7, 22, 2, 59, 60, 61, 62, 63, 64, 65, 66, 67, 68] (by decide +kernel) (by decide +kernel)
set_option maxRecDepth 20000 in
theorem gX13_lend_X13_isPledge : GoodIn wsX13_lend (wsV RX13 120 RX13 yX13_isPledge wsX13_isPledge) := goodIn_app (goodIn_of _ (by decide +kernel)) ggX13_lend_X13_isPledge
set_option maxRecDepth 20000 in
theorem ggX13_lend_X13_at : GoodIn wsX13_lend wsX13_at := goodIn_r _ [22, 2, 59, 60, 61, 62, 63, 64, 65, 66, 67, 68] (by decide +kernel) (by decide +kernel)
set_option maxRecDepth 20000 in
theorem gX13_lend_X13_at : GoodIn wsX13_lend (wsV RX13 90 RX13 yX13_at wsX13_at) := goodIn_app (goodIn_of _ (by decide +kernel)) ggX13_lend_X13_at
set_option maxRecDepth 20000 in
theorem ggX13_lend_X13_worth : GoodIn wsX13_lend wsX13_worth := goodIn_r _ [26, 27, 1, 28, 29, 30, 31, 19, 20, 21, 7, 22, 2, 32, 33, 34, 35, 36, 37, 38, 39, 59, 60, 61, 62, 63, 64, 65, 66, 67, 68] (by decide +kernel) (by decide +kernel)
set_option maxRecDepth 20000 in
theorem gX13_lend_X13_worth : GoodIn wsX13_lend (wsV RX13 133 RX13 yX13_worth wsX13_worth) := goodIn_app (goodIn_of _ (by decide +kernel)) ggX13_lend_X13_worth
set_option maxRecDepth 20000 in
theorem ggX13_lend_X13_ruleOf : GoodIn wsX13_lend wsX13_ruleOf := goodIn_r _ [35, 2, 59, 60, 61, 62, 63, 64, 65, 66, 67, 68] (by decide +kernel) (by decide +kernel)
set_option maxRecDepth 20000 in
theorem gX13_lend_X13_ruleOf : GoodIn wsX13_lend (wsV RX13 123 RX13 yX13_ruleOf wsX13_ruleOf) := goodIn_app (goodIn_of _ (by decide +kernel)) ggX13_lend_X13_ruleOf
set_option maxRecDepth 20000 in
theorem ggX13_lend_X13_put : GoodIn wsX13_lend wsX13_put := goodIn_r _ [43, 2, 59, 60, 61, 62, 63, 64, 65, 66, 67, 68] (by decide +kernel) (by decide +kernel)
set_option maxRecDepth 20000 in
theorem gX13_lend_X13_put : GoodIn wsX13_lend (wsV RX13 57 RX13 yX13_put wsX13_put) := goodIn_app (goodIn_of _ (by decide +kernel)) ggX13_lend_X13_put
set_option maxRecDepth 20000 in
theorem ggX13_lend_X13_today : GoodIn wsX13_lend wsX13_today := goodIn_r _ [39, 2, 59, 60, 61, 62, 63, 64, 65, 66, 67, 68] (by decide +kernel) (by decide +kernel)
set_option maxRecDepth 20000 in
theorem gX13_lend_X13_today : GoodIn wsX13_lend (wsV RX13 53 RX13 yX13_today wsX13_today) := goodIn_app (goodIn_of _ (by decide +kernel)) ggX13_lend_X13_today
set_option maxRecDepth 20000 in
theorem ggX13_lend_X13_set : GoodIn wsX13_lend wsX13_set := goodIn_r _ [47, 2, 59, 60, 61, 62, 63, 64, 65, 66, 67, 68] (by decide +kernel) (by decide +kernel)
set_option maxRecDepth 20000 in
theorem gX13_lend_X13_set : GoodIn wsX13_lend (wsV RX13 93 RX13 yX13_set wsX13_set) := goodIn_app (goodIn_of _ (by decide +kernel)) ggX13_lend_X13_set
set_option maxRecDepth 20000 in
theorem ggX13_lend_X13_of : GoodIn wsX13_lend wsX13_of := goodIn_r _ [51, 2, 59, 60, 61, 62, 63, 64, 65, 66, 67, 68] (by decide +kernel) (by decide +kernel)
set_option maxRecDepth 20000 in
theorem gX13_lend_X13_of : GoodIn wsX13_lend (wsV RX13 44 RX13 yX13_of wsX13_of) := goodIn_app (goodIn_of _ (by decide +kernel)) ggX13_lend_X13_of
set_option maxRecDepth 20000 in
theorem ggX13_lend_X13_begins : GoodIn wsX13_lend wsX13_begins := goodIn_r _ [55, 1, 48, 49, 50, 7, 51, 2, 36, 37, 38, 39, 40, 41, 42, 43, 56, 57, 58, 59, 60, 61, 62, 63, 64, 65, 66, 67, 68] (by decide +kernel) (by decide +kernel)
set_option maxRecDepth 20000 in
theorem gX13_lend_X13_begins : GoodIn wsX13_lend (wsV RX13 77 RX13 yX13_begins wsX13_begins) := goodIn_app (goodIn_of _ (by decide +kernel)) ggX13_lend_X13_begins
theorem dX13_lend_0 : decode cX13_lend 0 = .ok (.iload_n 1, 1) := by decide +kernel
theorem dX13_lend_1 : decode cX13_lend 1 = .ok (.invokestatic 87, 3) := by decide +kernel
theorem dX13_lend_4 : decode cX13_lend 4 = .ok (.ifCond .ne 9, 3) := by decide +kernel
theorem dX13_lend_7 : decode cX13_lend 7 = .ok (.aload_n 0, 1) := by decide +kernel
