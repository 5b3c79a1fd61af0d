set_option maxRecDepth 20000 in
theorem gX13_bid_X13_says : GoodIn wsX13_bid (wsV RX13 69 RX13 yX13_says wsX13_says) := goodIn_app (goodIn_of _ (by decide +kernel)) ggX13_bid_X13_says
set_option maxRecDepth 20000 in
theorem ggX13_bid_X13_isForfeit : GoodIn wsX13_bid wsX13_isForfeit := goodIn_r _ [21, 22, 23, 24, 9, 25, 26, 27, 28, 29, 11, 34, 35, 36, 37, 38, 39, 40, 41, 42, 43] (by decide +kernel) (by decide +kernel)
set_option maxRecDepth 20000 in
theorem gX13_bid_X13_isForfeit : GoodIn wsX13_bid (wsV RX13 180 RX13 yX13_isForfeit wsX13_isForfeit) := goodIn_app (goodIn_of _ (by decide +kernel)) ggX13_bid_X13_isForfeit
set_option maxRecDepth 20000 in
theorem ggX13_bid_X13_of : GoodIn wsX13_bid wsX13_of := goodIn_r _ [29, 11, 34, 35, 36, 37, 38, 39, 40, 41, 42, 43] (by decide +kernel) (by decide +kernel)
set_option maxRecDepth 20000 in
theorem gX13_bid_X13_of : GoodIn wsX13_bid (wsV RX13 44 RX13 yX13_of wsX13_of) := goodIn_app (goodIn_of _ (by decide +kernel)) ggX13_bid_X13_of
set_option maxRecDepth 20000 in
theorem ggX13_bid_X13_put : GoodIn wsX13_bid wsX13_put := goodIn_r _ [33, 11, 34, 35, 36, 37, 38, 39, 40, 41, 42, 43] (by decide +kernel) (by decide +kernel)
set_option maxRecDepth 20000 in
theorem gX13_bid_X13_put : GoodIn wsX13_bid (wsV RX13 57 RX13 yX13_put wsX13_put) := goodIn_app (goodIn_of _ (by decide +kernel)) ggX13_bid_X13_put
theorem dX13_bid_0 : decode cX13_bid 0 = .ok (.aload_n 0, 1) := by decide +kernel
theorem dX13_bid_1 : decode cX13_bid 1 = .ok (.iload_n 1, 1) := by decide +kernel
theorem dX13_bid_2 : decode cX13_bid 2 = .ok (.invokevirtual 143, 3) := by decide +kernel
theorem dX13_bid_5 : decode cX13_bid 5 = .ok (.ifCond .ne 9, 3) := by decide +kernel
theorem dX13_bid_8 : decode cX13_bid 8 = .ok (.aload_n 0, 1) := by decide +kernel
theorem dX13_bid_9 : decode cX13_bid 9 = .ok (.iconst (-1), 1) := by decide +kernel
theorem dX13_bid_10 : decode cX13_bid 10 = .ok (.invokevirtual 69, 3) := by decide +kernel
theorem dX13_bid_13 : decode cX13_bid 13 = .ok (.ireturn, 1) := by decide +kernel
theorem dX13_bid_14 : decode cX13_bid 14 = .ok (.aload_n 0, 1) := by decide +kernel
theorem dX13_bid_15 : decode cX13_bid 15 = .ok (.iload_n 1, 1) := by decide +kernel
theorem dX13_bid_16 : decode cX13_bid 16 = .ok (.invokevirtual 180, 3) := by decide +kernel
theorem dX13_bid_19 : decode cX13_bid 19 = .ok (.ifCond .ne 10, 3) := by decide +kernel
theorem dX13_bid_22 : decode cX13_bid 22 = .ok (.aload_n 0, 1) := by decide +kernel
theorem dX13_bid_23 : decode cX13_bid 23 = .ok (.bipush (-2), 2) := by decide +kernel
theorem dX13_bid_25 : decode cX13_bid 25 = .ok (.invokevirtual 69, 3) := by decide +kernel
theorem dX13_bid_28 : decode cX13_bid 28 = .ok (.ireturn, 1) := by decide +kernel
theorem dX13_bid_29 : decode cX13_bid 29 = .ok (.iload_n 2, 1) := by decide +kernel
theorem dX13_bid_30 : decode cX13_bid 30 = .ok (.iconst 1, 1) := by decide +kernel
theorem dX13_bid_31 : decode cX13_bid 31 = .ok (.if_icmp .lt 9, 3) := by decide +kernel
theorem dX13_bid_34 : decode cX13_bid 34 = .ok (.iload_n 2, 1) := by decide +kernel
theorem dX13_bid_35 : decode cX13_bid 35 = .ok (.ldc 183, 2) := by decide +kernel
theorem dX13_bid_37 : decode cX13_bid 37 = .ok (.if_icmp .le 10, 3) := by decide +kernel
theorem dX13_bid_40 : decode cX13_bid 40 = .ok (.aload_n 0, 1) := by decide +kernel
theorem dX13_bid_41 : decode cX13_bid 41 = .ok (.bipush (-6), 2) := by decide +kernel
theorem dX13_bid_43 : decode cX13_bid 43 = .ok (.invokevirtual 69, 3) := by decide +kernel
theorem dX13_bid_46 : decode cX13_bid 46 = .ok (.ireturn, 1) := by decide +kernel
theorem dX13_bid_47 : decode cX13_bid 47 = .ok (.aload_n 0, 1) := by decide +kernel
theorem dX13_bid_48 : decode cX13_bid 48 = .ok (.iload_n 1, 1) := by decide +kernel
theorem dX13_bid_49 : decode cX13_bid 49 = .ok (.bipush 11, 2) := by decide +kernel
theorem dX13_bid_51 : decode cX13_bid 51 = .ok (.aload_n 0, 1) := by decide +kernel
theorem dX13_bid_52 : decode cX13_bid 52 = .ok (.iload_n 1, 1) := by decide +kernel
theorem dX13_bid_53 : decode cX13_bid 53 = .ok (.bipush 11, 2) := by decide +kernel
theorem dX13_bid_55 : decode cX13_bid 55 = .ok (.invokevirtual 44, 3) := by decide +kernel
theorem dX13_bid_58 : decode cX13_bid 58 = .ok (.iconst 1, 1) := by decide +kernel
theorem dX13_bid_59 : decode cX13_bid 59 = .ok (.iadd, 1) := by decide +kernel
theorem dX13_bid_60 : decode cX13_bid 60 = .ok (.invokevirtual 57, 3) := by decide +kernel
theorem dX13_bid_63 : decode cX13_bid 63 = .ok (.aload_n 0, 1) := by decide +kernel
theorem dX13_bid_64 : decode cX13_bid 64 = .ok (.iload_n 1, 1) := by decide +kernel
theorem dX13_bid_65 : decode cX13_bid 65 = .ok (.bipush 10, 2) := by decide +kernel
theorem dX13_bid_67 : decode cX13_bid 67 = .ok (.aload_n 0, 1) := by decide +kernel
theorem dX13_bid_68 : decode cX13_bid 68 = .ok (.iload_n 1, 1) := by decide +kernel
theorem dX13_bid_69 : decode cX13_bid 69 = .ok (.bipush 10, 2) := by decide +kernel
theorem dX13_bid_71 : decode cX13_bid 71 = .ok (.invokevirtual 44, 3) := by decide +kernel
theorem dX13_bid_74 : decode cX13_bid 74 = .ok (.iload_n 2, 1) := by decide +kernel
theorem dX13_bid_75 : decode cX13_bid 75 = .ok (.invokestatic 171, 3) := by decide +kernel
theorem dX13_bid_78 : decode cX13_bid 78 = .ok (.invokevirtual 57, 3) := by decide +kernel
theorem dX13_bid_81 : decode cX13_bid 81 = .ok (.aload_n 0, 1) := by decide +kernel
theorem dX13_bid_82 : decode cX13_bid 82 = .ok (.aload_n 0, 1) := by decide +kernel
theorem dX13_bid_83 : decode cX13_bid 83 = .ok (.iload_n 1, 1) := by decide +kernel
theorem dX13_bid_84 : decode cX13_bid 84 = .ok (.bipush 11, 2) := by decide +kernel
theorem dX13_bid_86 : decode cX13_bid 86 = .ok (.invokevirtual 44, 3) := by decide +kernel
theorem dX13_bid_89 : decode cX13_bid 89 = .ok (.invokevirtual 69, 3) := by decide +kernel
theorem dX13_bid_92 : decode cX13_bid 92 = .ok (.ireturn, 1) := by decide +kernel
set_option maxRecDepth 20000 in
theorem ggX13_sale_X13_isTicket : GoodIn wsX13_sale wsX13_isTicket := goodIn_r _ [11, 6, 69, 70, 71, 72, 73, 74, 75, 76, 77, 78] (by decide +kernel) (by decide +kernel)
set_option maxRecDepth 20000 in
theorem gX13_sale_X13_isTicket : GoodIn wsX13_sale (wsV RX13 143 RX13 yX13_isTicket wsX13_isTicket) := goodIn_app (goodIn_of _ (by decide +kernel)) ggX13_sale_X13_isTicket
set_option maxRecDepth 20000 in
theorem ggX13_sale_X13_says : GoodIn wsX13_sale wsX13_says := goodIn_r _ [15, 16, 17, 69, 70, 71, 72, 73, 74] (by decide +kernel) (by decide +kernel)
set_option maxRecDepth 20000 in
theorem gX13_sale_X13_says : GoodIn wsX13_sale (wsV RX13 69 RX13 yX13_says wsX13_says) := goodIn_app (goodIn_of _ (by decide +kernel)) ggX13_sale_X13_says
set_option maxRecDepth 20000 in
theorem ggX13_sale_X13_isForfeit : GoodIn wsX13_sale wsX13_isForfeit := goodIn_r _ [21, 22, 23, 24, 10, 25, 26, 27, 28, 29, 6, 69, 70, 71, 72, 73, 74, 75, 76, 77, 78] (by decide +kernel) (by decide +kernel)
set_option maxRecDepth 20000 in
theorem gX13_sale_X13_isForfeit : GoodIn wsX13_sale (wsV RX13 180 RX13 yX13_isForfeit wsX13_isForfeit) := goodIn_app (goodIn_of _ (by decide +kernel)) ggX13_sale_X13_isForfeit
set_option maxRecDepth 20000 in
theorem ggX13_sale_X13_of : GoodIn wsX13_sale wsX13_of := goodIn_r _ [29, 6, 69, 70, 71, 72, 73, 74, 75, 76, 77, 78] (by decide +kernel) (by decide +kernel)
set_option maxRecDepth 20000 in
theorem gX13_sale_X13_of : GoodIn wsX13_sale (wsV RX13 44 RX13 yX13_of wsX13_of) := goodIn_app (goodIn_of _ (by decide +kernel)) ggX13_sale_X13_of
set_option maxRecDepth 20000 in
theorem ggX13_sale_X13_isClaimed : GoodIn wsX13_sale wsX13_isClaimed := goodIn_r _ [33, 26, 27, 28, 10, 29, 6, 69, 70, 71, 72, 73, 74, 75, 76, 77, 78] (by decide +kernel) (by decide +kernel)
set_option maxRecDepth 20000 in
theorem gX13_sale_X13_isClaimed : GoodIn wsX13_sale (wsV RX13 159 RX13 yX13_isClaimed wsX13_isClaimed) := goodIn_app (goodIn_of _ (by decide +kernel)) ggX13_sale_X13_isClaimed
set_option maxRecDepth 20000 in
theorem ggX13_sale_X13_ruleOf : GoodIn wsX13_sale wsX13_ruleOf := goodIn_r _ [37, 6, 69, 70, 71, 72, 73, 74, 75, 76, 77, 78] (by decide +kernel) (by decide +kernel)
set_option maxRecDepth 20000 in
theorem gX13_sale_X13_ruleOf : GoodIn wsX13_sale (wsV RX13 123 RX13 yX13_ruleOf wsX13_ruleOf) := goodIn_app (goodIn_of _ (by decide +kernel)) ggX13_sale_X13_ruleOf
set_option maxRecDepth 20000 in
theorem ggX13_sale_X13_cutUp : GoodIn wsX13_sale wsX13_cutUp := goodIn_r _ [40] (by decide +kernel) (by decide +kernel)
set_option maxRecDepth 20000 in
theorem gX13_sale_X13_cutUp : GoodIn wsX13_sale (va_wsS RX13 63 yX13_cutUp wsX13_cutUp) := goodIn_app (goodIn_of _ (by decide +kernel)) ggX13_sale_X13_cutUp
set_option maxRecDepth 20000 in
theorem ggX13_sale_X13_owed : GoodIn wsX13_sale wsX13_owed := goodIn_r _ [44, 26, 27, 28, 10, 29, 6, 69, 70, 71, 72, 73, 74, 75, 76, 77, 78] (by decide +kernel) (by decide +kernel)
set_option maxRecDepth 20000 in
theorem gX13_sale_X13_owed : GoodIn wsX13_sale (wsV RX13 153 RX13 yX13_owed wsX13_owed) := goodIn_app (goodIn_of _ (by decide +kernel)) ggX13_sale_X13_owed
set_option maxRecDepth 20000 in
theorem ggX13_sale_X13_put : GoodIn wsX13_sale wsX13_put := goodIn_r _ [48, 6, 69, 70, 71, 72, 73, 74, 75, 76, 77, 78] (by decide +kernel) (by decide +kernel)
set_option maxRecDepth 20000 in
theorem gX13_sale_X13_put : GoodIn wsX13_sale (wsV RX13 57 RX13 yX13_put wsX13_put) := goodIn_app (goodIn_of _ (by decide +kernel)) ggX13_sale_X13_put
set_option maxRecDepth 20000 in
theorem ggX13_sale_X13_today : GoodIn wsX13_sale wsX13_today := goodIn_r _ [52, 6, 69, 70, 71, 72, 73, 74, 75, 76, 77, 78] (by decide +kernel) (by decide +kernel)
set_option maxRecDepth 20000 in
theorem gX13_sale_X13_today : GoodIn wsX13_sale (wsV RX13 53 RX13 yX13_today wsX13_today) := goodIn_app (goodIn_of _ (by decide +kernel)) ggX13_sale_X13_today
set_option maxRecDepth 20000 in
theorem ggX13_sale_X13_closes : GoodIn wsX13_sale wsX13_closes := goodIn_r _ [56, 45, 46, 47, 10, 48, 6, 26, 27, 28, 29, 57, 58, 59, 60, 61, 62, 63, 64, 65, 66, 67, 68, 49, 50, 51, 52, 69, 70, 71, 72, 73, 74, 75, 76, 77, 78] (by decide +kernel) (by decide +kernel)
set_option maxRecDepth 20000 in
theorem gX13_sale_X13_closes : GoodIn wsX13_sale (wsV RX13 162 RX13 yX13_closes wsX13_closes) := goodIn_app (goodIn_of _ (by decide +kernel)) ggX13_sale_X13_closes
theorem dX13_sale_0 : decode cX13_sale 0 = .ok (.aload_n 0, 1) := by decide +kernel
theorem dX13_sale_1 : decode cX13_sale 1 = .ok (.iload_n 1, 1) := by decide +kernel
theorem dX13_sale_2 : decode cX13_sale 2 = .ok (.invokevirtual 143, 3) := by decide +kernel
theorem dX13_sale_5 : decode cX13_sale 5 = .ok (.ifCond .ne 9, 3) := by decide +kernel
theorem dX13_sale_8 : decode cX13_sale 8 = .ok (.aload_n 0, 1) := by decide +kernel
theorem dX13_sale_9 : decode cX13_sale 9 = .ok (.iconst (-1), 1) := by decide +kernel
theorem dX13_sale_10 : decode cX13_sale 10 = .ok (.invokevirtual 69, 3) := by decide +kernel
theorem dX13_sale_13 : decode cX13_sale 13 = .ok (.ireturn, 1) := by decide +kernel
theorem dX13_sale_14 : decode cX13_sale 14 = .ok (.aload_n 0, 1) := by decide +kernel
theorem dX13_sale_15 : decode cX13_sale 15 = .ok (.iload_n 1, 1) := by decide +kernel
theorem dX13_sale_16 : decode cX13_sale 16 = .ok (.invokevirtual 180, 3) := by decide +kernel
theorem dX13_sale_19 : decode cX13_sale 19 = .ok (.ifCond .eq 13, 3) := by decide +kernel
theorem dX13_sale_22 : decode cX13_sale 22 = .ok (.aload_n 0, 1) := by decide +kernel
theorem dX13_sale_23 : decode cX13_sale 23 = .ok (.iload_n 1, 1) := by decide +kernel
theorem dX13_sale_24 : decode cX13_sale 24 = .ok (.bipush 11, 2) := by decide +kernel
theorem dX13_sale_26 : decode cX13_sale 26 = .ok (.invokevirtual 44, 3) := by decide +kernel
theorem dX13_sale_29 : decode cX13_sale 29 = .ok (.ifCond .ne 10, 3) := by decide +kernel
theorem dX13_sale_32 : decode cX13_sale 32 = .ok (.aload_n 0, 1) := by decide +kernel
theorem dX13_sale_33 : decode cX13_sale 33 = .ok (.bipush (-2), 2) := by decide +kernel
theorem dX13_sale_35 : decode cX13_sale 35 = .ok (.invokevirtual 69, 3) := by decide +kernel
theorem dX13_sale_38 : decode cX13_sale 38 = .ok (.ireturn, 1) := by decide +kernel
theorem dX13_sale_39 : decode cX13_sale 39 = .ok (.aload_n 0, 1) := by decide +kernel
theorem dX13_sale_40 : decode cX13_sale 40 = .ok (.iload_n 1, 1) := by decide +kernel
theorem dX13_sale_41 : decode cX13_sale 41 = .ok (.invokevirtual 159, 3) := by decide +kernel
theorem dX13_sale_44 : decode cX13_sale 44 = .ok (.ifCond .eq 10, 3) := by decide +kernel
theorem dX13_sale_47 : decode cX13_sale 47 = .ok (.aload_n 0, 1) := by decide +kernel
theorem dX13_sale_48 : decode cX13_sale 48 = .ok (.bipush (-3), 2) := by decide +kernel
theorem dX13_sale_50 : decode cX13_sale 50 = .ok (.invokevirtual 69, 3) := by decide +kernel
theorem dX13_sale_53 : decode cX13_sale 53 = .ok (.ireturn, 1) := by decide +kernel
theorem dX13_sale_54 : decode cX13_sale 54 = .ok (.aload_n 0, 1) := by decide +kernel
theorem dX13_sale_55 : decode cX13_sale 55 = .ok (.iload_n 1, 1) := by decide +kernel
theorem dX13_sale_56 : decode cX13_sale 56 = .ok (.bipush 10, 2) := by decide +kernel
theorem dX13_sale_58 : decode cX13_sale 58 = .ok (.invokevirtual 44, 3) := by decide +kernel
theorem dX13_sale_61 : decode cX13_sale 61 = .ok (.istore_n 2, 1) := by decide +kernel
theorem dX13_sale_62 : decode cX13_sale 62 = .ok (.iload_n 2, 1) := by decide +kernel
theorem dX13_sale_63 : decode cX13_sale 63 = .ok (.i2l, 1) := by decide +kernel
theorem dX13_sale_64 : decode cX13_sale 64 = .ok (.aload_n 0, 1) := by decide +kernel
theorem dX13_sale_65 : decode cX13_sale 65 = .ok (.iconst 1, 1) := by decide +kernel
theorem dX13_sale_66 : decode cX13_sale 66 = .ok (.invokevirtual 123, 3) := by decide +kernel
theorem dX13_sale_69 : decode cX13_sale 69 = .ok (.i2l, 1) := by decide +kernel
theorem dX13_sale_70 : decode cX13_sale 70 = .ok (.lmul, 1) := by decide +kernel
theorem dX13_sale_71 : decode cX13_sale 71 = .ok (.ldc2_w 61, 3) := by decide +kernel
theorem dX13_sale_74 : decode cX13_sale 74 = .ok (.invokestatic 63, 3) := by decide +kernel
theorem dX13_sale_77 : decode cX13_sale 77 = .ok (.istore_n 3, 1) := by decide +kernel
theorem dX13_sale_78 : decode cX13_sale 78 = .ok (.iload_n 2, 1) := by decide +kernel
theorem dX13_sale_79 : decode cX13_sale 79 = .ok (.iload_n 3, 1) := by decide +kernel
theorem dX13_sale_80 : decode cX13_sale 80 = .ok (.isub, 1) := by decide +kernel
theorem dX13_sale_81 : decode cX13_sale 81 = .ok (.istore 4, 2) := by decide +kernel
theorem dX13_sale_83 : decode cX13_sale 83 = .ok (.iload 4, 2) := by decide +kernel
theorem dX13_sale_85 : decode cX13_sale 85 = .ok (.aload_n 0, 1) := by decide +kernel
theorem dX13_sale_86 : decode cX13_sale 86 = .ok (.iload_n 1, 1) := by decide +kernel
theorem dX13_sale_87 : decode cX13_sale 87 = .ok (.iconst 2, 1) := by decide +kernel
theorem dX13_sale_88 : decode cX13_sale 88 = .ok (.invokevirtual 44, 3) := by decide +kernel
theorem dX13_sale_91 : decode cX13_sale 91 = .ok (.invokestatic 128, 3) := by decide +kernel
theorem dX13_sale_94 : decode cX13_sale 94 = .ok (.istore 5, 2) := by decide +kernel
theorem dX13_sale_96 : decode cX13_sale 96 = .ok (.iload 4, 2) := by decide +kernel
theorem dX13_sale_98 : decode cX13_sale 98 = .ok (.iload 5, 2) := by decide +kernel
theorem dX13_sale_100 : decode cX13_sale 100 = .ok (.isub, 1) := by decide +kernel
theorem dX13_sale_101 : decode cX13_sale 101 = .ok (.aload_n 0, 1) := by decide +kernel
theorem dX13_sale_102 : decode cX13_sale 102 = .ok (.iload_n 1, 1) := by decide +kernel
theorem dX13_sale_103 : decode cX13_sale 103 = .ok (.iconst 1, 1) := by decide +kernel
theorem dX13_sale_104 : decode cX13_sale 104 = .ok (.invokevirtual 44, 3) := by decide +kernel
theorem dX13_sale_107 : decode cX13_sale 107 = .ok (.invokestatic 128, 3) := by decide +kernel
theorem dX13_sale_110 : decode cX13_sale 110 = .ok (.istore 6, 2) := by decide +kernel
theorem dX13_sale_112 : decode cX13_sale 112 = .ok (.aload_n 0, 1) := by decide +kernel
theorem dX13_sale_113 : decode cX13_sale 113 = .ok (.getfield 10, 3) := by decide +kernel
theorem dX13_sale_116 : decode cX13_sale 116 = .ok (.getfield 140, 3) := by decide +kernel
theorem dX13_sale_119 : decode cX13_sale 119 = .ok (.iconst 3, 1) := by decide +kernel
theorem dX13_sale_120 : decode cX13_sale 120 = .ok (.dup2, 1) := by decide +kernel
theorem dX13_sale_121 : decode cX13_sale 121 = .ok (.laload, 1) := by decide +kernel
theorem dX13_sale_122 : decode cX13_sale 122 = .ok (.iload_n 3, 1) := by decide +kernel
theorem dX13_sale_123 : decode cX13_sale 123 = .ok (.i2l, 1) := by decide +kernel
theorem dX13_sale_124 : decode cX13_sale 124 = .ok (.ladd, 1) := by decide +kernel
theorem dX13_sale_125 : decode cX13_sale 125 = .ok (.lastore, 1) := by decide +kernel
theorem dX13_sale_126 : decode cX13_sale 126 = .ok (.aload_n 0, 1) := by decide +kernel
theorem dX13_sale_127 : decode cX13_sale 127 = .ok (.getfield 10, 3) := by decide +kernel
theorem dX13_sale_130 : decode cX13_sale 130 = .ok (.getfield 140, 3) := by decide +kernel
theorem dX13_sale_133 : decode cX13_sale 133 = .ok (.iconst 1, 1) := by decide +kernel
theorem dX13_sale_134 : decode cX13_sale 134 = .ok (.dup2, 1) := by decide +kernel
theorem dX13_sale_135 : decode cX13_sale 135 = .ok (.laload, 1) := by decide +kernel
theorem dX13_sale_136 : decode cX13_sale 136 = .ok (.iload 5, 2) := by decide +kernel
theorem dX13_sale_138 : decode cX13_sale 138 = .ok (.i2l, 1) := by decide +kernel
theorem dX13_sale_139 : decode cX13_sale 139 = .ok (.ladd, 1) := by decide +kernel
theorem dX13_sale_140 : decode cX13_sale 140 = .ok (.lastore, 1) := by decide +kernel
theorem dX13_sale_141 : decode cX13_sale 141 = .ok (.aload_n 0, 1) := by decide +kernel
theorem dX13_sale_142 : decode cX13_sale 142 = .ok (.getfield 10, 3) := by decide +kernel
theorem dX13_sale_145 : decode cX13_sale 145 = .ok (.getfield 140, 3) := by decide +kernel
theorem dX13_sale_148 : decode cX13_sale 148 = .ok (.iconst 2, 1) := by decide +kernel
theorem dX13_sale_149 : decode cX13_sale 149 = .ok (.dup2, 1) := by decide +kernel
theorem dX13_sale_150 : decode cX13_sale 150 = .ok (.laload, 1) := by decide +kernel
theorem dX13_sale_151 : decode cX13_sale 151 = .ok (.iload 6, 2) := by decide +kernel
theorem dX13_sale_153 : decode cX13_sale 153 = .ok (.i2l, 1) := by decide +kernel
theorem dX13_sale_154 : decode cX13_sale 154 = .ok (.ladd, 1) := by decide +kernel
theorem dX13_sale_155 : decode cX13_sale 155 = .ok (.lastore, 1) := by decide +kernel
theorem dX13_sale_156 : decode cX13_sale 156 = .ok (.aload_n 0, 1) := by decide +kernel
theorem dX13_sale_157 : decode cX13_sale 157 = .ok (.getfield 10, 3) := by decide +kernel
theorem dX13_sale_160 : decode cX13_sale 160 = .ok (.getfield 140, 3) := by decide +kernel
theorem dX13_sale_163 : decode cX13_sale 163 = .ok (.iconst 5, 1) := by decide +kernel
theorem dX13_sale_164 : decode cX13_sale 164 = .ok (.dup2, 1) := by decide +kernel
theorem dX13_sale_165 : decode cX13_sale 165 = .ok (.laload, 1) := by decide +kernel
theorem dX13_sale_166 : decode cX13_sale 166 = .ok (.aload_n 0, 1) := by decide +kernel
theorem dX13_sale_167 : decode cX13_sale 167 = .ok (.iload_n 1, 1) := by decide +kernel
theorem dX13_sale_168 : decode cX13_sale 168 = .ok (.invokevirtual 153, 3) := by decide +kernel
theorem dX13_sale_171 : decode cX13_sale 171 = .ok (.iload 5, 2) := by decide +kernel
theorem dX13_sale_173 : decode cX13_sale 173 = .ok (.isub, 1) := by decide +kernel
theorem dX13_sale_174 : decode cX13_sale 174 = .ok (.iload 6, 2) := by decide +kernel
theorem dX13_sale_176 : decode cX13_sale 176 = .ok (.isub, 1) := by decide +kernel
theorem dX13_sale_177 : decode cX13_sale 177 = .ok (.i2l, 1) := by decide +kernel
theorem dX13_sale_178 : decode cX13_sale 178 = .ok (.ladd, 1) := by decide +kernel
theorem dX13_sale_179 : decode cX13_sale 179 = .ok (.lastore, 1) := by decide +kernel
theorem dX13_sale_180 : decode cX13_sale 180 = .ok (.aload_n 0, 1) := by decide +kernel
theorem dX13_sale_181 : decode cX13_sale 181 = .ok (.getfield 10, 3) := by decide +kernel
theorem dX13_sale_184 : decode cX13_sale 184 = .ok (.getfield 140, 3) := by decide +kernel
theorem dX13_sale_187 : decode cX13_sale 187 = .ok (.bipush 6, 2) := by decide +kernel
theorem dX13_sale_189 : decode cX13_sale 189 = .ok (.dup2, 1) := by decide +kernel
theorem dX13_sale_190 : decode cX13_sale 190 = .ok (.laload, 1) := by decide +kernel
theorem dX13_sale_191 : decode cX13_sale 191 = .ok (.aload_n 0, 1) := by decide +kernel
theorem dX13_sale_192 : decode cX13_sale 192 = .ok (.iload_n 1, 1) := by decide +kernel
theorem dX13_sale_193 : decode cX13_sale 193 = .ok (.iconst 1, 1) := by decide +kernel
theorem dX13_sale_194 : decode cX13_sale 194 = .ok (.invokevirtual 44, 3) := by decide +kernel
theorem dX13_sale_197 : decode cX13_sale 197 = .ok (.iload 6, 2) := by decide +kernel
theorem dX13_sale_199 : decode cX13_sale 199 = .ok (.isub, 1) := by decide +kernel
theorem dX13_sale_200 : decode cX13_sale 200 = .ok (.i2l, 1) := by decide +kernel
theorem dX13_sale_201 : decode cX13_sale 201 = .ok (.ladd, 1) := by decide +kernel
theorem dX13_sale_202 : decode cX13_sale 202 = .ok (.lastore, 1) := by decide +kernel
theorem dX13_sale_203 : decode cX13_sale 203 = .ok (.aload_n 0, 1) := by decide +kernel
theorem dX13_sale_204 : decode cX13_sale 204 = .ok (.iload_n 1, 1) := by decide +kernel
theorem dX13_sale_205 : decode cX13_sale 205 = .ok (.bipush 12, 2) := by decide +kernel
theorem dX13_sale_207 : decode cX13_sale 207 = .ok (.iload 4, 2) := by decide +kernel
theorem dX13_sale_209 : decode cX13_sale 209 = .ok (.iload 5, 2) := by decide +kernel
theorem dX13_sale_211 : decode cX13_sale 211 = .ok (.isub, 1) := by decide +kernel
theorem dX13_sale_212 : decode cX13_sale 212 = .ok (.iload 6, 2) := by decide +kernel
theorem dX13_sale_214 : decode cX13_sale 214 = .ok (.isub, 1) := by decide +kernel
theorem dX13_sale_215 : decode cX13_sale 215 = .ok (.invokevirtual 57, 3) := by decide +kernel
theorem dX13_sale_218 : decode cX13_sale 218 = .ok (.aload_n 0, 1) := by decide +kernel
theorem dX13_sale_219 : decode cX13_sale 219 = .ok (.iload_n 1, 1) := by decide +kernel
theorem dX13_sale_220 : decode cX13_sale 220 = .ok (.bipush 14, 2) := by decide +kernel
theorem dX13_sale_222 : decode cX13_sale 222 = .ok (.aload_n 0, 1) := by decide +kernel
theorem dX13_sale_223 : decode cX13_sale 223 = .ok (.invokevirtual 53, 3) := by decide +kernel
theorem dX13_sale_226 : decode cX13_sale 226 = .ok (.aload_n 0, 1) := by decide +kernel
theorem dX13_sale_227 : decode cX13_sale 227 = .ok (.iconst 2, 1) := by decide +kernel
theorem dX13_sale_228 : decode cX13_sale 228 = .ok (.invokevirtual 123, 3) := by decide +kernel
theorem dX13_sale_231 : decode cX13_sale 231 = .ok (.iadd, 1) := by decide +kernel
theorem dX13_sale_232 : decode cX13_sale 232 = .ok (.invokevirtual 57, 3) := by decide +kernel
theorem dX13_sale_235 : decode cX13_sale 235 = .ok (.aload_n 0, 1) := by decide +kernel
theorem dX13_sale_236 : decode cX13_sale 236 = .ok (.iload_n 1, 1) := by decide +kernel
theorem dX13_sale_237 : decode cX13_sale 237 = .ok (.iconst 2, 1) := by decide +kernel
theorem dX13_sale_238 : decode cX13_sale 238 = .ok (.invokevirtual 162, 3) := by decide +kernel
theorem dX13_sale_241 : decode cX13_sale 241 = .ok (.aload_n 0, 1) := by decide +kernel
theorem dX13_sale_242 : decode cX13_sale 242 = .ok (.iload_n 2, 1) := by decide +kernel
theorem dX13_sale_243 : decode cX13_sale 243 = .ok (.invokevirtual 69, 3) := by decide +kernel
theorem dX13_sale_246 : decode cX13_sale 246 = .ok (.ireturn, 1) := by decide +kernel
set_option maxRecDepth 20000 in
theorem ggX13_fetch_X13_isTicket : GoodIn wsX13_fetch wsX13_isTicket := goodIn_r _ [6, 1, 33, 34, 35, 36, 37, 38, 39, 40, 41, 42] (by decide +kernel) (by decide +kernel)
set_option maxRecDepth 20000 in
theorem gX13_fetch_X13_isTicket : GoodIn wsX13_fetch (wsV RX13 143 RX13 yX13_isTicket wsX13_isTicket) := goodIn_app (goodIn_of _ (by decide +kernel)) ggX13_fetch_X13_isTicket
set_option maxRecDepth 20000 in
theorem ggX13_fetch_X13_says : GoodIn wsX13_fetch wsX13_says := goodIn_r _ [10, 11, 12, 33, 34, 35, 36, 37, 38] (by decide +kernel) (by decide +kernel)
set_option maxRecDepth 20000 in
theorem gX13_fetch_X13_says : GoodIn wsX13_fetch (wsV RX13 69 RX13 yX13_says wsX13_says) := goodIn_app (goodIn_of _ (by decide +kernel)) ggX13_fetch_X13_says
set_option maxRecDepth 20000 in
theorem ggX13_fetch_X13_of : GoodIn wsX13_fetch wsX13_of := goodIn_r _ [16, 1, 33, 34, 35, 36, 37, 38, 39, 40, 41, 42] (by decide +kernel) (by decide +kernel)
set_option maxRecDepth 20000 in
theorem gX13_fetch_X13_of : GoodIn wsX13_fetch (wsV RX13 44 RX13 yX13_of wsX13_of) := goodIn_app (goodIn_of _ (by decide +kernel)) ggX13_fetch_X13_of
set_option maxRecDepth 20000 in
theorem ggX13_fetch_X13_isRight : GoodIn wsX13_fetch wsX13_isRight := goodIn_r _ [20, 13, 14, 15, 5, 16, 1, 21, 22, 23, 24, 33, 34, 35, 36, 37, 38, 39, 40, 41, 42] (by decide +kernel) (by decide +kernel)
set_option maxRecDepth 20000 in
theorem gX13_fetch_X13_isRight : GoodIn wsX13_fetch (wsV RX13 149 RX13 yX13_isRight wsX13_isRight) := goodIn_app (goodIn_of _ (by decide +kernel)) ggX13_fetch_X13_isRight
set_option maxRecDepth 20000 in
theorem ggX13_fetch_X13_today : GoodIn wsX13_fetch wsX13_today := goodIn_r _ [24, 1, 33, 34, 35, 36, 37, 38, 39, 40, 41, 42] (by decide +kernel) (by decide +kernel)
set_option maxRecDepth 20000 in
theorem gX13_fetch_X13_today : GoodIn wsX13_fetch (wsV RX13 53 RX13 yX13_today wsX13_today) := goodIn_app (goodIn_of _ (by decide +kernel)) ggX13_fetch_X13_today
set_option maxRecDepth 20000 in
theorem ggX13_fetch_X13_put : GoodIn wsX13_fetch wsX13_put := goodIn_r _ [28, 1, 33, 34, 35, 36, 37, 38, 39, 40, 41, 42] (by decide +kernel) (by decide +kernel)
set_option maxRecDepth 20000 in
theorem gX13_fetch_X13_put : GoodIn wsX13_fetch (wsV RX13 57 RX13 yX13_put wsX13_put) := goodIn_app (goodIn_of _ (by decide +kernel)) ggX13_fetch_X13_put
set_option maxRecDepth 20000 in
theorem ggX13_fetch_X13_shown : GoodIn wsX13_fetch wsX13_shown := goodIn_r _ [32, 25, 26, 27, 5, 28, 1, 33, 34, 35, 36, 37, 38, 39, 40, 41, 42] (by decide +kernel) (by decide +kernel)
set_option maxRecDepth 20000 in
theorem gX13_fetch_X13_shown : GoodIn wsX13_fetch (wsV RX13 156 RX13 yX13_shown wsX13_shown) := goodIn_app (goodIn_of _ (by decide +kernel)) ggX13_fetch_X13_shown
theorem dX13_fetch_0 : decode cX13_fetch 0 = .ok (.aload_n 0, 1) := by decide +kernel
theorem dX13_fetch_1 : decode cX13_fetch 1 = .ok (.iload_n 1, 1) := by decide +kernel
theorem dX13_fetch_2 : decode cX13_fetch 2 = .ok (.invokevirtual 143, 3) := by decide +kernel
theorem dX13_fetch_5 : decode cX13_fetch 5 = .ok (.ifCond .ne 9, 3) := by decide +kernel
theorem dX13_fetch_8 : decode cX13_fetch 8 = .ok (.aload_n 0, 1) := by decide +kernel
theorem dX13_fetch_9 : decode cX13_fetch 9 = .ok (.iconst (-1), 1) := by decide +kernel
theorem dX13_fetch_10 : decode cX13_fetch 10 = .ok (.invokevirtual 69, 3) := by decide +kernel
theorem dX13_fetch_13 : decode cX13_fetch 13 = .ok (.ireturn, 1) := by decide +kernel
theorem dX13_fetch_14 : decode cX13_fetch 14 = .ok (.aload_n 0, 1) := by decide +kernel
theorem dX13_fetch_15 : decode cX13_fetch 15 = .ok (.iload_n 1, 1) := by decide +kernel
theorem dX13_fetch_16 : decode cX13_fetch 16 = .ok (.bipush 12, 2) := by decide +kernel
theorem dX13_fetch_18 : decode cX13_fetch 18 = .ok (.invokevirtual 44, 3) := by decide +kernel
theorem dX13_fetch_21 : decode cX13_fetch 21 = .ok (.ifCond .eq 14, 3) := by decide +kernel
theorem dX13_fetch_24 : decode cX13_fetch 24 = .ok (.aload_n 0, 1) := by decide +kernel
theorem dX13_fetch_25 : decode cX13_fetch 25 = .ok (.iload_n 1, 1) := by decide +kernel
theorem dX13_fetch_26 : decode cX13_fetch 26 = .ok (.bipush 13, 2) := by decide +kernel
theorem dX13_fetch_28 : decode cX13_fetch 28 = .ok (.invokevirtual 44, 3) := by decide +kernel
theorem dX13_fetch_31 : decode cX13_fetch 31 = .ok (.iconst 1, 1) := by decide +kernel
theorem dX13_fetch_32 : decode cX13_fetch 32 = .ok (.if_icmp .ne 10, 3) := by decide +kernel
theorem dX13_fetch_35 : decode cX13_fetch 35 = .ok (.aload_n 0, 1) := by decide +kernel
theorem dX13_fetch_36 : decode cX13_fetch 36 = .ok (.bipush (-2), 2) := by decide +kernel
theorem dX13_fetch_38 : decode cX13_fetch 38 = .ok (.invokevirtual 69, 3) := by decide +kernel
theorem dX13_fetch_41 : decode cX13_fetch 41 = .ok (.ireturn, 1) := by decide +kernel
theorem dX13_fetch_42 : decode cX13_fetch 42 = .ok (.aload_n 0, 1) := by decide +kernel
theorem dX13_fetch_43 : decode cX13_fetch 43 = .ok (.iload_n 1, 1) := by decide +kernel
theorem dX13_fetch_44 : decode cX13_fetch 44 = .ok (.iload_n 2, 1) := by decide +kernel
theorem dX13_fetch_45 : decode cX13_fetch 45 = .ok (.invokevirtual 149, 3) := by decide +kernel
theorem dX13_fetch_48 : decode cX13_fetch 48 = .ok (.ifCond .ne 10, 3) := by decide +kernel
theorem dX13_fetch_51 : decode cX13_fetch 51 = .ok (.aload_n 0, 1) := by decide +kernel
theorem dX13_fetch_52 : decode cX13_fetch 52 = .ok (.bipush (-4), 2) := by decide +kernel
theorem dX13_fetch_54 : decode cX13_fetch 54 = .ok (.invokevirtual 69, 3) := by decide +kernel
theorem dX13_fetch_57 : decode cX13_fetch 57 = .ok (.ireturn, 1) := by decide +kernel
theorem dX13_fetch_58 : decode cX13_fetch 58 = .ok (.aload_n 0, 1) := by decide +kernel
theorem dX13_fetch_59 : decode cX13_fetch 59 = .ok (.invokevirtual 53, 3) := by decide +kernel
theorem dX13_fetch_62 : decode cX13_fetch 62 = .ok (.aload_n 0, 1) := by decide +kernel
theorem dX13_fetch_63 : decode cX13_fetch 63 = .ok (.iload_n 1, 1) := by decide +kernel
theorem dX13_fetch_64 : decode cX13_fetch 64 = .ok (.bipush 14, 2) := by decide +kernel
theorem dX13_fetch_66 : decode cX13_fetch 66 = .ok (.invokevirtual 44, 3) := by decide +kernel
theorem dX13_fetch_69 : decode cX13_fetch 69 = .ok (.if_icmp .le 10, 3) := by decide +kernel
theorem dX13_fetch_72 : decode cX13_fetch 72 = .ok (.aload_n 0, 1) := by decide +kernel
theorem dX13_fetch_73 : decode cX13_fetch 73 = .ok (.bipush (-5), 2) := by decide +kernel
theorem dX13_fetch_75 : decode cX13_fetch 75 = .ok (.invokevirtual 69, 3) := by decide +kernel
theorem dX13_fetch_78 : decode cX13_fetch 78 = .ok (.ireturn, 1) := by decide +kernel
theorem dX13_fetch_79 : decode cX13_fetch 79 = .ok (.aload_n 0, 1) := by decide +kernel
theorem dX13_fetch_80 : decode cX13_fetch 80 = .ok (.iload_n 1, 1) := by decide +kernel
theorem dX13_fetch_81 : decode cX13_fetch 81 = .ok (.bipush 13, 2) := by decide +kernel
theorem dX13_fetch_83 : decode cX13_fetch 83 = .ok (.iconst 1, 1) := by decide +kernel
theorem dX13_fetch_84 : decode cX13_fetch 84 = .ok (.invokevirtual 57, 3) := by decide +kernel
theorem dX13_fetch_87 : decode cX13_fetch 87 = .ok (.aload_n 0, 1) := by decide +kernel
theorem dX13_fetch_88 : decode cX13_fetch 88 = .ok (.getfield 10, 3) := by decide +kernel
theorem dX13_fetch_91 : decode cX13_fetch 91 = .ok (.getfield 140, 3) := by decide +kernel
theorem dX13_fetch_94 : decode cX13_fetch 94 = .ok (.iconst 4, 1) := by decide +kernel
theorem dX13_fetch_95 : decode cX13_fetch 95 = .ok (.dup2, 1) := by decide +kernel
theorem dX13_fetch_96 : decode cX13_fetch 96 = .ok (.laload, 1) := by decide +kernel
theorem dX13_fetch_97 : decode cX13_fetch 97 = .ok (.aload_n 0, 1) := by decide +kernel
theorem dX13_fetch_98 : decode cX13_fetch 98 = .ok (.iload_n 1, 1) := by decide +kernel
theorem dX13_fetch_99 : decode cX13_fetch 99 = .ok (.bipush 12, 2) := by decide +kernel
theorem dX13_fetch_101 : decode cX13_fetch 101 = .ok (.invokevirtual 44, 3) := by decide +kernel
theorem dX13_fetch_104 : decode cX13_fetch 104 = .ok (.i2l, 1) := by decide +kernel
theorem dX13_fetch_105 : decode cX13_fetch 105 = .ok (.ladd, 1) := by decide +kernel
theorem dX13_fetch_106 : decode cX13_fetch 106 = .ok (.lastore, 1) := by decide +kernel
theorem dX13_fetch_107 : decode cX13_fetch 107 = .ok (.aload_n 0, 1) := by decide +kernel
theorem dX13_fetch_108 : decode cX13_fetch 108 = .ok (.iload_n 1, 1) := by decide +kernel
theorem dX13_fetch_109 : decode cX13_fetch 109 = .ok (.iload_n 2, 1) := by decide +kernel
theorem dX13_fetch_110 : decode cX13_fetch 110 = .ok (.invokevirtual 156, 3) := by decide +kernel
theorem dX13_fetch_113 : decode cX13_fetch 113 = .ok (.aload_n 0, 1) := by decide +kernel
theorem dX13_fetch_114 : decode cX13_fetch 114 = .ok (.aload_n 0, 1) := by decide +kernel
theorem dX13_fetch_115 : decode cX13_fetch 115 = .ok (.iload_n 1, 1) := by decide +kernel
theorem dX13_fetch_116 : decode cX13_fetch 116 = .ok (.bipush 12, 2) := by decide +kernel
theorem dX13_fetch_118 : decode cX13_fetch 118 = .ok (.invokevirtual 44, 3) := by decide +kernel
theorem dX13_fetch_121 : decode cX13_fetch 121 = .ok (.invokevirtual 69, 3) := by decide +kernel
theorem dX13_fetch_124 : decode cX13_fetch 124 = .ok (.ireturn, 1) := by decide +kernel
set_option maxRecDepth 20000 in
theorem ggX13_claim_X13_isTicket : GoodIn wsX13_claim wsX13_isTicket := goodIn_r _ [5, 6, 33, 34, 35, 36, 37, 38, 39, 40, 41, 42] (by decide +kernel) (by decide +kernel)
set_option maxRecDepth 20000 in
theorem gX13_claim_X13_isTicket : GoodIn wsX13_claim (wsV RX13 143 RX13 yX13_isTicket wsX13_isTicket) := goodIn_app (goodIn_of _ (by decide +kernel)) ggX13_claim_X13_isTicket
set_option maxRecDepth 20000 in
theorem ggX13_claim_X13_says : GoodIn wsX13_claim wsX13_says := goodIn_r _ [10, 11, 12, 33, 34, 35, 36, 37, 38] (by decide +kernel) (by decide +kernel)
set_option maxRecDepth 20000 in
theorem gX13_claim_X13_says : GoodIn wsX13_claim (wsV RX13 69 RX13 yX13_says wsX13_says) := goodIn_app (goodIn_of _ (by decide +kernel)) ggX13_claim_X13_says
set_option maxRecDepth 20000 in
theorem ggX13_claim_X13_isOpen : GoodIn wsX13_claim wsX13_isOpen := goodIn_r _ [16, 17, 18, 19, 4, 20, 6, 33, 34, 35, 36, 37, 38, 39, 40, 41, 42] (by decide +kernel) (by decide +kernel)
set_option maxRecDepth 20000 in
theorem gX13_claim_X13_isOpen : GoodIn wsX13_claim (wsV RX13 48 RX13 yX13_isOpen wsX13_isOpen) := goodIn_app (goodIn_of _ (by decide +kernel)) ggX13_claim_X13_isOpen
set_option maxRecDepth 20000 in
theorem ggX13_claim_X13_isClaimed : GoodIn wsX13_claim wsX13_isClaimed := goodIn_r _ [24, 17, 18, 19, 4, 20, 6, 33, 34, 35, 36, 37, 38, 39, 40, 41, 42] (by decide +kernel) (by decide +kernel)
set_option maxRecDepth 20000 in
theorem gX13_claim_X13_isClaimed : GoodIn wsX13_claim (wsV RX13 159 RX13 yX13_isClaimed wsX13_isClaimed) := goodIn_app (goodIn_of _ (by decide +kernel)) ggX13_claim_X13_isClaimed
set_option maxRecDepth 20000 in
theorem ggX13_claim_X13_today : GoodIn wsX13_claim wsX13_today := goodIn_r _ [28, 6, 33, 34, 35, 36, 37, 38, 39, 40, 41, 42] (by decide +kernel) (by decide +kernel)
set_option maxRecDepth 20000 in
theorem gX13_claim_X13_today : GoodIn wsX13_claim (wsV RX13 53 RX13 yX13_today wsX13_today) := goodIn_app (goodIn_of _ (by decide +kernel)) ggX13_claim_X13_today
set_option maxRecDepth 20000 in
theorem ggX13_claim_X13_put : GoodIn wsX13_claim wsX13_put := goodIn_r _ [32, 6, 33, 34, 35, 36, 37, 38, 39, 40, 41, 42] (by decide +kernel) (by decide +kernel)
set_option maxRecDepth 20000 in
theorem gX13_claim_X13_put : GoodIn wsX13_claim (wsV RX13 57 RX13 yX13_put wsX13_put) := goodIn_app (goodIn_of _ (by decide +kernel)) ggX13_claim_X13_put
theorem dX13_claim_0 : decode cX13_claim 0 = .ok (.aload_n 0, 1) := by decide +kernel
theorem dX13_claim_1 : decode cX13_claim 1 = .ok (.iload_n 1, 1) := by decide +kernel
theorem dX13_claim_2 : decode cX13_claim 2 = .ok (.invokevirtual 143, 3) := by decide +kernel
theorem dX13_claim_5 : decode cX13_claim 5 = .ok (.ifCond .ne 9, 3) := by decide +kernel
theorem dX13_claim_8 : decode cX13_claim 8 = .ok (.aload_n 0, 1) := by decide +kernel
theorem dX13_claim_9 : decode cX13_claim 9 = .ok (.iconst (-1), 1) := by decide +kernel
theorem dX13_claim_10 : decode cX13_claim 10 = .ok (.invokevirtual 69, 3) := by decide +kernel
theorem dX13_claim_13 : decode cX13_claim 13 = .ok (.ireturn, 1) := by decide +kernel
theorem dX13_claim_14 : decode cX13_claim 14 = .ok (.aload_n 0, 1) := by decide +kernel
theorem dX13_claim_15 : decode cX13_claim 15 = .ok (.iload_n 1, 1) := by decide +kernel
theorem dX13_claim_16 : decode cX13_claim 16 = .ok (.invokevirtual 48, 3) := by decide +kernel
theorem dX13_claim_19 : decode cX13_claim 19 = .ok (.ifCond .ne 10, 3) := by decide +kernel
theorem dX13_claim_22 : decode cX13_claim 22 = .ok (.aload_n 0, 1) := by decide +kernel
theorem dX13_claim_23 : decode cX13_claim 23 = .ok (.bipush (-2), 2) := by decide +kernel
theorem dX13_claim_25 : decode cX13_claim 25 = .ok (.invokevirtual 69, 3) := by decide +kernel
theorem dX13_claim_28 : decode cX13_claim 28 = .ok (.ireturn, 1) := by decide +kernel
theorem dX13_claim_29 : decode cX13_claim 29 = .ok (.aload_n 0, 1) := by decide +kernel
theorem dX13_claim_30 : decode cX13_claim 30 = .ok (.iload_n 1, 1) := by decide +kernel
theorem dX13_claim_31 : decode cX13_claim 31 = .ok (.invokevirtual 159, 3) := by decide +kernel
theorem dX13_claim_34 : decode cX13_claim 34 = .ok (.ifCond .eq 10, 3) := by decide +kernel
theorem dX13_claim_37 : decode cX13_claim 37 = .ok (.aload_n 0, 1) := by decide +kernel
theorem dX13_claim_38 : decode cX13_claim 38 = .ok (.bipush (-3), 2) := by decide +kernel
theorem dX13_claim_40 : decode cX13_claim 40 = .ok (.invokevirtual 69, 3) := by decide +kernel
theorem dX13_claim_43 : decode cX13_claim 43 = .ok (.ireturn, 1) := by decide +kernel
theorem dX13_claim_44 : decode cX13_claim 44 = .ok (.aload_n 0, 1) := by decide +kernel
theorem dX13_claim_45 : decode cX13_claim 45 = .ok (.iload_n 1, 1) := by decide +kernel
theorem dX13_claim_46 : decode cX13_claim 46 = .ok (.bipush 8, 2) := by decide +kernel
theorem dX13_claim_48 : decode cX13_claim 48 = .ok (.aload_n 0, 1) := by decide +kernel
theorem dX13_claim_49 : decode cX13_claim 49 = .ok (.invokevirtual 53, 3) := by decide +kernel
theorem dX13_claim_52 : decode cX13_claim 52 = .ok (.invokevirtual 57, 3) := by decide +kernel
theorem dX13_claim_55 : decode cX13_claim 55 = .ok (.aload_n 0, 1) := by decide +kernel
theorem dX13_claim_56 : decode cX13_claim 56 = .ok (.iload_n 1, 1) := by decide +kernel
theorem dX13_claim_57 : decode cX13_claim 57 = .ok (.bipush 20, 2) := by decide +kernel
theorem dX13_claim_59 : decode cX13_claim 59 = .ok (.iconst (-1), 1) := by decide +kernel
theorem dX13_claim_60 : decode cX13_claim 60 = .ok (.invokevirtual 57, 3) := by decide +kernel
theorem dX13_claim_63 : decode cX13_claim 63 = .ok (.aload_n 0, 1) := by decide +kernel
theorem dX13_claim_64 : decode cX13_claim 64 = .ok (.iconst 0, 1) := by decide +kernel
theorem dX13_claim_65 : decode cX13_claim 65 = .ok (.invokevirtual 69, 3) := by decide +kernel
theorem dX13_claim_68 : decode cX13_claim 68 = .ok (.ireturn, 1) := by decide +kernel
set_option maxRecDepth 20000 in
theorem ggX13_drop_X13_isTicket : GoodIn wsX13_drop wsX13_isTicket := goodIn_r _ [5, 6, 49, 50, 51, 52, 53, 54, 55, 56, 57, 58] (by decide +kernel) (by decide +kernel)
set_option maxRecDepth 20000 in
theorem gX13_drop_X13_isTicket : GoodIn wsX13_drop (wsV RX13 143 RX13 yX13_isTicket wsX13_isTicket) := goodIn_app (goodIn_of _ (by decide +kernel)) ggX13_drop_X13_isTicket
set_option maxRecDepth 20000 in
theorem ggX13_drop_X13_says : GoodIn wsX13_drop wsX13_says := goodIn_r _ [10, 11, 12, 49, 50, 51, 52, 53, 54] (by decide +kernel) (by decide +kernel)
set_option maxRecDepth 20000 in
theorem gX13_drop_X13_says : GoodIn wsX13_drop (wsV RX13 69 RX13 yX13_says wsX13_says) := goodIn_app (goodIn_of _ (by decide +kernel)) ggX13_drop_X13_says
set_option maxRecDepth 20000 in
theorem ggX13_drop_X13_isOpen : GoodIn wsX13_drop wsX13_isOpen := goodIn_r _ [16, 17, 18, 19, 4, 20, 6, 49, 50, 51, 52, 53, 54, 55, 56, 57, 58] (by decide +kernel) (by decide +kernel)
set_option maxRecDepth 20000 in
theorem gX13_drop_X13_isOpen : GoodIn wsX13_drop (wsV RX13 48 RX13 yX13_isOpen wsX13_isOpen) := goodIn_app (goodIn_of _ (by decide +kernel)) ggX13_drop_X13_isOpen
set_option maxRecDepth 20000 in
theorem ggX13_drop_X13_isClaimed : GoodIn wsX13_drop wsX13_isClaimed := goodIn_r _ [24, 17, 18, 19, 4, 20, 6, 49, 50, 51, 52, 53, 54, 55, 56, 57, 58] (by decide +kernel) (by decide +kernel)
set_option maxRecDepth 20000 in
theorem gX13_drop_X13_isClaimed : GoodIn wsX13_drop (wsV RX13 159 RX13 yX13_isClaimed wsX13_isClaimed) := goodIn_app (goodIn_of _ (by decide +kernel)) ggX13_drop_X13_isClaimed
set_option maxRecDepth 20000 in
theorem ggX13_drop_X13_dropped : GoodIn wsX13_drop wsX13_dropped := goodIn_r _ [28, 17, 18, 19, 4, 20, 6, 29, 30, 31, 32, 33, 34, 35, 36, 21, 22, 23, 24, 37, 38, 39, 40, 41, 42, 43, 44, 45, 46, 47, 48, 49, 50, 51, 52, 53, 54, 55, 56, 57, 58] (by decide +kernel) (by decide +kernel)
set_option maxRecDepth 20000 in
theorem gX13_drop_X13_dropped : GoodIn wsX13_drop (wsV RX13 184 RX13 yX13_dropped wsX13_dropped) := goodIn_app (goodIn_of _ (by decide +kernel)) ggX13_drop_X13_dropped
set_option maxRecDepth 20000 in
theorem ggX13_drop_X13_of : GoodIn wsX13_drop wsX13_of := goodIn_r _ [20, 6, 49, 50, 51, 52, 53, 54, 55, 56, 57, 58] (by decide +kernel) (by decide +kernel)
set_option maxRecDepth 20000 in
theorem gX13_drop_X13_of : GoodIn wsX13_drop (wsV RX13 44 RX13 yX13_of wsX13_of) := goodIn_app (goodIn_of _ (by decide +kernel)) ggX13_drop_X13_of
theorem dX13_drop_0 : decode cX13_drop 0 = .ok (.aload_n 0, 1) := by decide +kernel
theorem dX13_drop_1 : decode cX13_drop 1 = .ok (.iload_n 1, 1) := by decide +kernel
theorem dX13_drop_2 : decode cX13_drop 2 = .ok (.invokevirtual 143, 3) := by decide +kernel
theorem dX13_drop_5 : decode cX13_drop 5 = .ok (.ifCond .ne 9, 3) := by decide +kernel
theorem dX13_drop_8 : decode cX13_drop 8 = .ok (.aload_n 0, 1) := by decide +kernel
theorem dX13_drop_9 : decode cX13_drop 9 = .ok (.iconst (-1), 1) := by decide +kernel
theorem dX13_drop_10 : decode cX13_drop 10 = .ok (.invokevirtual 69, 3) := by decide +kernel
theorem dX13_drop_13 : decode cX13_drop 13 = .ok (.ireturn, 1) := by decide +kernel
theorem dX13_drop_14 : decode cX13_drop 14 = .ok (.aload_n 0, 1) := by decide +kernel
theorem dX13_drop_15 : decode cX13_drop 15 = .ok (.iload_n 1, 1) := by decide +kernel
theorem dX13_drop_16 : decode cX13_drop 16 = .ok (.invokevirtual 48, 3) := by decide +kernel
theorem dX13_drop_19 : decode cX13_drop 19 = .ok (.ifCond .ne 10, 3) := by decide +kernel
theorem dX13_drop_22 : decode cX13_drop 22 = .ok (.aload_n 0, 1) := by decide +kernel
theorem dX13_drop_23 : decode cX13_drop 23 = .ok (.bipush (-2), 2) := by decide +kernel
theorem dX13_drop_25 : decode cX13_drop 25 = .ok (.invokevirtual 69, 3) := by decide +kernel
theorem dX13_drop_28 : decode cX13_drop 28 = .ok (.ireturn, 1) := by decide +kernel
theorem dX13_drop_29 : decode cX13_drop 29 = .ok (.aload_n 0, 1) := by decide +kernel
theorem dX13_drop_30 : decode cX13_drop 30 = .ok (.iload_n 1, 1) := by decide +kernel
theorem dX13_drop_31 : decode cX13_drop 31 = .ok (.invokevirtual 159, 3) := by decide +kernel
theorem dX13_drop_34 : decode cX13_drop 34 = .ok (.ifCond .ne 10, 3) := by decide +kernel
theorem dX13_drop_37 : decode cX13_drop 37 = .ok (.aload_n 0, 1) := by decide +kernel
theorem dX13_drop_38 : decode cX13_drop 38 = .ok (.bipush (-3), 2) := by decide +kernel
theorem dX13_drop_40 : decode cX13_drop 40 = .ok (.invokevirtual 69, 3) := by decide +kernel
theorem dX13_drop_43 : decode cX13_drop 43 = .ok (.ireturn, 1) := by decide +kernel
theorem dX13_drop_44 : decode cX13_drop 44 = .ok (.aload_n 0, 1) := by decide +kernel
theorem dX13_drop_45 : decode cX13_drop 45 = .ok (.iload_n 1, 1) := by decide +kernel
theorem dX13_drop_46 : decode cX13_drop 46 = .ok (.invokevirtual 184, 3) := by decide +kernel
theorem dX13_drop_49 : decode cX13_drop 49 = .ok (.aload_n 0, 1) := by decide +kernel
theorem dX13_drop_50 : decode cX13_drop 50 = .ok (.aload_n 0, 1) := by decide +kernel
theorem dX13_drop_51 : decode cX13_drop 51 = .ok (.iload_n 1, 1) := by decide +kernel
theorem dX13_drop_52 : decode cX13_drop 52 = .ok (.bipush 9, 2) := by decide +kernel
theorem dX13_drop_54 : decode cX13_drop 54 = .ok (.invokevirtual 44, 3) := by decide +kernel
theorem dX13_drop_57 : decode cX13_drop 57 = .ok (.invokevirtual 69, 3) := by decide +kernel
theorem dX13_drop_60 : decode cX13_drop 60 = .ok (.ireturn, 1) := by decide +kernel
set_option maxRecDepth 20000 in
theorem ggX13_prove_X13_isTicket : GoodIn wsX13_prove wsX13_isTicket := goodIn_r _ [6, 1, 69, 70, 71, 72, 73, 74, 75, 76, 77, 78] (by decide +kernel) (by decide +kernel)
set_option maxRecDepth 20000 in
theorem gX13_prove_X13_isTicket : GoodIn wsX13_prove (wsV RX13 143 RX13 yX13_isTicket wsX13_isTicket) := goodIn_app (goodIn_of _ (by decide +kernel)) ggX13_prove_X13_isTicket
set_option maxRecDepth 20000 in
theorem ggX13_prove_X13_says : GoodIn wsX13_prove wsX13_says := goodIn_r _ [10, 11, 12, 69, 70, 71, 72, 73, 74] (by decide +kernel) (by decide +kernel)
set_option maxRecDepth 20000 in
theorem gX13_prove_X13_says : GoodIn wsX13_prove (wsV RX13 69 RX13 yX13_says wsX13_says) := goodIn_app (goodIn_of _ (by decide +kernel)) ggX13_prove_X13_says
set_option maxRecDepth 20000 in
theorem ggX13_prove_X13_isOpen : GoodIn wsX13_prove wsX13_isOpen := goodIn_r _ [16, 17, 18, 19, 5, 20, 1, 69, 70, 71, 72, 73, 74, 75, 76, 77, 78] (by decide +kernel) (by decide +kernel)
set_option maxRecDepth 20000 in
theorem gX13_prove_X13_isOpen : GoodIn wsX13_prove (wsV RX13 48 RX13 yX13_isOpen wsX13_isOpen) := goodIn_app (goodIn_of _ (by decide +kernel)) ggX13_prove_X13_isOpen
set_option maxRecDepth 20000 in
theorem ggX13_prove_X13_isClaimed : GoodIn wsX13_prove wsX13_isClaimed := goodIn_r _ [24, 17, 18, 19, 5, 20, 1, 69, 70, 71, 72, 73, 74, 75, 76, 77, 78] (by decide +kernel) (by decide +kernel)
set_option maxRecDepth 20000 in
theorem gX13_prove_X13_isClaimed : GoodIn wsX13_prove (wsV RX13 159 RX13 yX13_isClaimed wsX13_isClaimed) := goodIn_app (goodIn_of _ (by decide +kernel)) ggX13_prove_X13_isClaimed
set_option maxRecDepth 20000 in
theorem ggX13_prove_X13_dropped : GoodIn wsX13_prove wsX13_dropped := goodIn_r _ [28, 17, 18, 19, 5, 20, 1, 29, 30, 31, 32, 33, 34, 35, 36, 21, 22, 23, 24, 37, 38, 39, 40, 41, 42, 43, 44, 45, 46, 47, 48, 69, 70, 71, 72, 73, 74, 75, 76, 77, 78] (by decide +kernel) (by decide +kernel)
set_option maxRecDepth 20000 in
theorem gX13_prove_X13_dropped : GoodIn wsX13_prove (wsV RX13 184 RX13 yX13_dropped wsX13_dropped) := goodIn_app (goodIn_of _ (by decide +kernel)) ggX13_prove_X13_dropped
set_option maxRecDepth 20000 in
theorem ggX13_prove_X13_owed : GoodIn wsX13_prove wsX13_owed := goodIn_r _ [52, 17, 18, 19, 5, 20, 1, 69, 70, 71, 72, 73, 74, 75, 76, 77, 78] (by decide +kernel) (by decide +kernel)
set_option maxRecDepth 20000 in
theorem gX13_prove_X13_owed : GoodIn wsX13_prove (wsV RX13 153 RX13 yX13_owed wsX13_owed) := goodIn_app (goodIn_of _ (by decide +kernel)) ggX13_prove_X13_owed
set_option maxRecDepth 20000 in
theorem ggX13_prove_X13_of : GoodIn wsX13_prove wsX13_of := goodIn_r _ [20, 1, 69, 70, 71, 72, 73, 74, 75, 76, 77, 78] (by decide +kernel) (by decide +kernel)
set_option maxRecDepth 20000 in
theorem gX13_prove_X13_of : GoodIn wsX13_prove (wsV RX13 44 RX13 yX13_of wsX13_of) := goodIn_app (goodIn_of _ (by decide +kernel)) ggX13_prove_X13_of
set_option maxRecDepth 20000 in
theorem ggX13_prove_X13_closes : GoodIn wsX13_prove wsX13_closes := goodIn_r _ [56, 45, 46, 47, 5, 48, 1, 17, 18, 19, 20, 57, 58, 59, 60, 61, 62, 63, 64, 65, 66, 67, 68, 37, 38, 39, 40, 69, 70, 71, 72, 73, 74, 75, 76, 77, 78] (by decide +kernel) (by decide +kernel)
set_option maxRecDepth 20000 in
theorem gX13_prove_X13_closes : GoodIn wsX13_prove (wsV RX13 162 RX13 yX13_closes wsX13_closes) := goodIn_app (goodIn_of _ (by decide +kernel)) ggX13_prove_X13_closes
theorem dX13_prove_0 : decode cX13_prove 0 = .ok (.aload_n 0, 1) := by decide +kernel
theorem dX13_prove_1 : decode cX13_prove 1 = .ok (.iload_n 1, 1) := by decide +kernel
theorem dX13_prove_2 : decode cX13_prove 2 = .ok (.invokevirtual 143, 3) := by decide +kernel
theorem dX13_prove_5 : decode cX13_prove 5 = .ok (.ifCond .ne 9, 3) := by decide +kernel
theorem dX13_prove_8 : decode cX13_prove 8 = .ok (.aload_n 0, 1) := by decide +kernel
theorem dX13_prove_9 : decode cX13_prove 9 = .ok (.iconst (-1), 1) := by decide +kernel
theorem dX13_prove_10 : decode cX13_prove 10 = .ok (.invokevirtual 69, 3) := by decide +kernel
theorem dX13_prove_13 : decode cX13_prove 13 = .ok (.ireturn, 1) := by decide +kernel
theorem dX13_prove_14 : decode cX13_prove 14 = .ok (.aload_n 0, 1) := by decide +kernel
theorem dX13_prove_15 : decode cX13_prove 15 = .ok (.iload_n 1, 1) := by decide +kernel
theorem dX13_prove_16 : decode cX13_prove 16 = .ok (.invokevirtual 48, 3) := by decide +kernel
theorem dX13_prove_19 : decode cX13_prove 19 = .ok (.ifCond .ne 10, 3) := by decide +kernel
theorem dX13_prove_22 : decode cX13_prove 22 = .ok (.aload_n 0, 1) := by decide +kernel
theorem dX13_prove_23 : decode cX13_prove 23 = .ok (.bipush (-2), 2) := by decide +kernel
theorem dX13_prove_25 : decode cX13_prove 25 = .ok (.invokevirtual 69, 3) := by decide +kernel
theorem dX13_prove_28 : decode cX13_prove 28 = .ok (.ireturn, 1) := by decide +kernel
theorem dX13_prove_29 : decode cX13_prove 29 = .ok (.aload_n 0, 1) := by decide +kernel
theorem dX13_prove_30 : decode cX13_prove 30 = .ok (.iload_n 1, 1) := by decide +kernel
theorem dX13_prove_31 : decode cX13_prove 31 = .ok (.invokevirtual 159, 3) := by decide +kernel
theorem dX13_prove_34 : decode cX13_prove 34 = .ok (.ifCond .ne 10, 3) := by decide +kernel
theorem dX13_prove_37 : decode cX13_prove 37 = .ok (.aload_n 0, 1) := by decide +kernel
theorem dX13_prove_38 : decode cX13_prove 38 = .ok (.bipush (-3), 2) := by decide +kernel
theorem dX13_prove_40 : decode cX13_prove 40 = .ok (.invokevirtual 69, 3) := by decide +kernel
theorem dX13_prove_43 : decode cX13_prove 43 = .ok (.ireturn, 1) := by decide +kernel
theorem dX13_prove_44 : decode cX13_prove 44 = .ok (.aload_n 0, 1) := by decide +kernel
theorem dX13_prove_45 : decode cX13_prove 45 = .ok (.iload_n 1, 1) := by decide +kernel
theorem dX13_prove_46 : decode cX13_prove 46 = .ok (.invokevirtual 184, 3) := by decide +kernel
theorem dX13_prove_49 : decode cX13_prove 49 = .ok (.aload_n 0, 1) := by decide +kernel
theorem dX13_prove_50 : decode cX13_prove 50 = .ok (.getfield 10, 3) := by decide +kernel
theorem dX13_prove_53 : decode cX13_prove 53 = .ok (.getfield 140, 3) := by decide +kernel
theorem dX13_prove_56 : decode cX13_prove 56 = .ok (.iconst 5, 1) := by decide +kernel
theorem dX13_prove_57 : decode cX13_prove 57 = .ok (.dup2, 1) := by decide +kernel
theorem dX13_prove_58 : decode cX13_prove 58 = .ok (.laload, 1) := by decide +kernel
theorem dX13_prove_59 : decode cX13_prove 59 = .ok (.aload_n 0, 1) := by decide +kernel
theorem dX13_prove_60 : decode cX13_prove 60 = .ok (.iload_n 1, 1) := by decide +kernel
theorem dX13_prove_61 : decode cX13_prove 61 = .ok (.invokevirtual 153, 3) := by decide +kernel
theorem dX13_prove_64 : decode cX13_prove 64 = .ok (.i2l, 1) := by decide +kernel
theorem dX13_prove_65 : decode cX13_prove 65 = .ok (.ladd, 1) := by decide +kernel
theorem dX13_prove_66 : decode cX13_prove 66 = .ok (.lastore, 1) := by decide +kernel
theorem dX13_prove_67 : decode cX13_prove 67 = .ok (.aload_n 0, 1) := by decide +kernel
theorem dX13_prove_68 : decode cX13_prove 68 = .ok (.getfield 10, 3) := by decide +kernel
theorem dX13_prove_71 : decode cX13_prove 71 = .ok (.getfield 140, 3) := by decide +kernel
theorem dX13_prove_74 : decode cX13_prove 74 = .ok (.bipush 6, 2) := by decide +kernel
theorem dX13_prove_76 : decode cX13_prove 76 = .ok (.dup2, 1) := by decide +kernel
theorem dX13_prove_77 : decode cX13_prove 77 = .ok (.laload, 1) := by decide +kernel
theorem dX13_prove_78 : decode cX13_prove 78 = .ok (.aload_n 0, 1) := by decide +kernel
theorem dX13_prove_79 : decode cX13_prove 79 = .ok (.iload_n 1, 1) := by decide +kernel
theorem dX13_prove_80 : decode cX13_prove 80 = .ok (.iconst 1, 1) := by decide +kernel
theorem dX13_prove_81 : decode cX13_prove 81 = .ok (.invokevirtual 44, 3) := by decide +kernel
theorem dX13_prove_84 : decode cX13_prove 84 = .ok (.i2l, 1) := by decide +kernel
theorem dX13_prove_85 : decode cX13_prove 85 = .ok (.ladd, 1) := by decide +kernel
theorem dX13_prove_86 : decode cX13_prove 86 = .ok (.lastore, 1) := by decide +kernel
theorem dX13_prove_87 : decode cX13_prove 87 = .ok (.aload_n 0, 1) := by decide +kernel
theorem dX13_prove_88 : decode cX13_prove 88 = .ok (.iload_n 1, 1) := by decide +kernel
theorem dX13_prove_89 : decode cX13_prove 89 = .ok (.iconst 3, 1) := by decide +kernel
theorem dX13_prove_90 : decode cX13_prove 90 = .ok (.invokevirtual 162, 3) := by decide +kernel
theorem dX13_prove_93 : decode cX13_prove 93 = .ok (.aload_n 0, 1) := by decide +kernel
theorem dX13_prove_94 : decode cX13_prove 94 = .ok (.aload_n 0, 1) := by decide +kernel
theorem dX13_prove_95 : decode cX13_prove 95 = .ok (.iload_n 1, 1) := by decide +kernel
theorem dX13_prove_96 : decode cX13_prove 96 = .ok (.invokevirtual 153, 3) := by decide +kernel
theorem dX13_prove_99 : decode cX13_prove 99 = .ok (.invokevirtual 69, 3) := by decide +kernel
theorem dX13_prove_102 : decode cX13_prove 102 = .ok (.ireturn, 1) := by decide +kernel
set_option maxRecDepth 20000 in
theorem ggX13_image_X12_copy : GoodIn wsX13_image wsX12_copy := goodIn_r _ [7, 8, 9, 10, 11, 25, 26, 27, 28] (by decide +kernel) (by decide +kernel)
set_option maxRecDepth 20000 in
theorem gX13_image_X12_copy_n187 : GoodIn wsX13_image (wsX12_copy) := ggX13_image_X12_copy
set_option maxRecDepth 20000 in
theorem ggX13_image_X13_says : GoodIn wsX13_image wsX13_says := goodIn_r _ [16, 17, 18, 19, 20, 21, 22, 23, 24] (by decide +kernel) (by decide +kernel)
set_option maxRecDepth 20000 in
theorem gX13_image_X13_says : GoodIn wsX13_image (wsV RX13 69 RX13 yX13_says wsX13_says) := goodIn_app (goodIn_of _ (by decide +kernel)) ggX13_image_X13_says
theorem dX13_image_0 : decode cX13_image 0 = .ok (.aload_n 0, 1) := by decide +kernel
theorem dX13_image_1 : decode cX13_image 1 = .ok (.getfield 16, 3) := by decide +kernel
theorem dX13_image_4 : decode cX13_image 4 = .ok (.aload_n 0, 1) := by decide +kernel
theorem dX13_image_5 : decode cX13_image 5 = .ok (.getfield 10, 3) := by decide +kernel
theorem dX13_image_8 : decode cX13_image 8 = .ok (.invokevirtual 187, 3) := by decide +kernel
theorem dX13_image_11 : decode cX13_image 11 = .ok (.aload_n 0, 1) := by decide +kernel
theorem dX13_image_12 : decode cX13_image 12 = .ok (.iconst 1, 1) := by decide +kernel
theorem dX13_image_13 : decode cX13_image 13 = .ok (.putfield 191, 3) := by decide +kernel
theorem dX13_image_16 : decode cX13_image 16 = .ok (.aload_n 0, 1) := by decide +kernel
theorem dX13_image_17 : decode cX13_image 17 = .ok (.iconst 0, 1) := by decide +kernel
theorem dX13_image_18 : decode cX13_image 18 = .ok (.invokevirtual 69, 3) := by decide +kernel
theorem dX13_image_21 : decode cX13_image 21 = .ok (.ireturn, 1) := by decide +kernel
set_option maxRecDepth 20000 in
theorem ggX13_back_X13_says : GoodIn wsX13_back wsX13_says := goodIn_r _ [8, 9, 10, 19, 20, 21, 22, 23, 24] (by decide +kernel) (by decide +kernel)
set_option maxRecDepth 20000 in
theorem gX13_back_X13_says : GoodIn wsX13_back (wsV RX13 69 RX13 yX13_says wsX13_says) := goodIn_app (goodIn_of _ (by decide +kernel)) ggX13_back_X13_says
set_option maxRecDepth 20000 in
theorem ggX13_back_X12_copy : GoodIn wsX13_back wsX12_copy := goodIn_r _ [14, 15, 16, 17, 18, 25, 26, 27, 28] (by decide +kernel) (by decide +kernel)
set_option maxRecDepth 20000 in
theorem gX13_back_X12_copy_n187 : GoodIn wsX13_back (wsX12_copy) := ggX13_back_X12_copy
theorem dX13_back_0 : decode cX13_back 0 = .ok (.aload_n 0, 1) := by decide +kernel
theorem dX13_back_1 : decode cX13_back 1 = .ok (.getfield 191, 3) := by decide +kernel
theorem dX13_back_4 : decode cX13_back 4 = .ok (.ifCond .ne 10, 3) := by decide +kernel
theorem dX13_back_7 : decode cX13_back 7 = .ok (.aload_n 0, 1) := by decide +kernel
theorem dX13_back_8 : decode cX13_back 8 = .ok (.bipush (-2), 2) := by decide +kernel
theorem dX13_back_10 : decode cX13_back 10 = .ok (.invokevirtual 69, 3) := by decide +kernel
theorem dX13_back_13 : decode cX13_back 13 = .ok (.ireturn, 1) := by decide +kernel
theorem dX13_back_14 : decode cX13_back 14 = .ok (.aload_n 0, 1) := by decide +kernel
theorem dX13_back_15 : decode cX13_back 15 = .ok (.getfield 10, 3) := by decide +kernel
theorem dX13_back_18 : decode cX13_back 18 = .ok (.aload_n 0, 1) := by decide +kernel
theorem dX13_back_19 : decode cX13_back 19 = .ok (.getfield 16, 3) := by decide +kernel
theorem dX13_back_22 : decode cX13_back 22 = .ok (.invokevirtual 187, 3) := by decide +kernel
theorem dX13_back_25 : decode cX13_back 25 = .ok (.aload_n 0, 1) := by decide +kernel
theorem dX13_back_26 : decode cX13_back 26 = .ok (.iconst 0, 1) := by decide +kernel
theorem dX13_back_27 : decode cX13_back 27 = .ok (.invokevirtual 69, 3) := by decide +kernel
theorem dX13_back_30 : decode cX13_back 30 = .ok (.ireturn, 1) := by decide +kernel
set_option maxRecDepth 20000 in
theorem ggX13_place_X13_isPlace : GoodIn wsX13_place wsX13_isPlace := goodIn_r _ [6] (by decide +kernel) (by decide +kernel)
set_option maxRecDepth 20000 in
theorem gX13_place_X13_isPlace : GoodIn wsX13_place (va_wsS RX13 87 yX13_isPlace wsX13_isPlace) := goodIn_app (goodIn_of _ (by decide +kernel)) ggX13_place_X13_isPlace
set_option maxRecDepth 20000 in
theorem ggX13_place_X13_at : GoodIn wsX13_place wsX13_at := goodIn_r _ [10, 11, 34, 35, 36, 37, 38, 39, 40, 41, 42, 43] (by decide +kernel) (by decide +kernel)
set_option maxRecDepth 20000 in
theorem gX13_place_X13_at : GoodIn wsX13_place (wsV RX13 90 RX13 yX13_at wsX13_at) := goodIn_app (goodIn_of _ (by decide +kernel)) ggX13_place_X13_at
set_option maxRecDepth 20000 in
theorem ggX13_place_X13_worth : GoodIn wsX13_place wsX13_worth := goodIn_r _ [15, 16, 17, 18, 19, 20, 21, 7, 8, 9, 5, 10, 11, 22, 23, 24, 25, 26, 27, 28, 29, 34, 35, 36, 37, 38, 39, 40, 41, 42, 43] (by decide +kernel) (by decide +kernel)
set_option maxRecDepth 20000 in
theorem gX13_place_X13_worth : GoodIn wsX13_place (wsV RX13 133 RX13 yX13_worth wsX13_worth) := goodIn_app (goodIn_of _ (by decide +kernel)) ggX13_place_X13_worth
set_option maxRecDepth 20000 in
theorem ggX13_place_X13_items : GoodIn wsX13_place wsX13_items := goodIn_r _ [33, 7, 8, 9, 5, 10, 11, 34, 35, 36, 37, 38, 39, 40, 41, 42, 43] (by decide +kernel) (by decide +kernel)
set_option maxRecDepth 20000 in
theorem gX13_place_X13_items : GoodIn wsX13_place (wsV RX13 165 RX13 yX13_items wsX13_items) := goodIn_app (goodIn_of _ (by decide +kernel)) ggX13_place_X13_items
theorem dX13_place_0 : decode cX13_place 0 = .ok (.aload_n 0, 1) := by decide +kernel
theorem dX13_place_1 : decode cX13_place 1 = .ok (.iconst 0, 1) := by decide +kernel
theorem dX13_place_2 : decode cX13_place 2 = .ok (.putfield 34, 3) := by decide +kernel
theorem dX13_place_5 : decode cX13_place 5 = .ok (.iload_n 1, 1) := by decide +kernel
theorem dX13_place_6 : decode cX13_place 6 = .ok (.invokestatic 87, 3) := by decide +kernel
theorem dX13_place_9 : decode cX13_place 9 = .ok (.ifCond .eq 13, 3) := by decide +kernel
theorem dX13_place_12 : decode cX13_place 12 = .ok (.iload_n 2, 1) := by decide +kernel
theorem dX13_place_13 : decode cX13_place 13 = .ok (.ifCond .lt 9, 3) := by decide +kernel
theorem dX13_place_16 : decode cX13_place 16 = .ok (.iload_n 2, 1) := by decide +kernel
theorem dX13_place_17 : decode cX13_place 17 = .ok (.bipush 6, 2) := by decide +kernel
theorem dX13_place_19 : decode cX13_place 19 = .ok (.if_icmp .le 7, 3) := by decide +kernel
theorem dX13_place_22 : decode cX13_place 22 = .ok (.ldc2_w 195, 3) := by decide +kernel
theorem dX13_place_25 : decode cX13_place 25 = .ok (.lreturn, 1) := by decide +kernel
theorem dX13_place_26 : decode cX13_place 26 = .ok (.aload_n 0, 1) := by decide +kernel
theorem dX13_place_27 : decode cX13_place 27 = .ok (.iload_n 1, 1) := by decide +kernel
theorem dX13_place_28 : decode cX13_place 28 = .ok (.iconst 0, 1) := by decide +kernel
theorem dX13_place_29 : decode cX13_place 29 = .ok (.invokevirtual 90, 3) := by decide +kernel
theorem dX13_place_32 : decode cX13_place 32 = .ok (.istore_n 3, 1) := by decide +kernel
theorem dX13_place_33 : decode cX13_place 33 = .ok (.iload_n 2, 1) := by decide +kernel
theorem dX13_place_34 : decode cX13_place 34 = .ok (.tableswitch 89 0 5 #[38, 41, 47, 55, 64, 73], 38) := by decide +kernel
theorem dX13_place_72 : decode cX13_place 72 = .ok (.iload_n 3, 1) := by decide +kernel
theorem dX13_place_73 : decode cX13_place 73 = .ok (.i2l, 1) := by decide +kernel
theorem dX13_place_74 : decode cX13_place 74 = .ok (.lreturn, 1) := by decide +kernel
theorem dX13_place_75 : decode cX13_place 75 = .ok (.aload_n 0, 1) := by decide +kernel
theorem dX13_place_76 : decode cX13_place 76 = .ok (.iload_n 1, 1) := by decide +kernel
theorem dX13_place_77 : decode cX13_place 77 = .ok (.invokevirtual 133, 3) := by decide +kernel
theorem dX13_place_80 : decode cX13_place 80 = .ok (.lreturn, 1) := by decide +kernel
theorem dX13_place_81 : decode cX13_place 81 = .ok (.aload_n 0, 1) := by decide +kernel
theorem dX13_place_82 : decode cX13_place 82 = .ok (.iload_n 1, 1) := by decide +kernel
theorem dX13_place_83 : decode cX13_place 83 = .ok (.iconst 1, 1) := by decide +kernel
theorem dX13_place_84 : decode cX13_place 84 = .ok (.invokevirtual 90, 3) := by decide +kernel
theorem dX13_place_87 : decode cX13_place 87 = .ok (.i2l, 1) := by decide +kernel
theorem dX13_place_88 : decode cX13_place 88 = .ok (.lreturn, 1) := by decide +kernel
theorem dX13_place_89 : decode cX13_place 89 = .ok (.aload_n 0, 1) := by decide +kernel
theorem dX13_place_90 : decode cX13_place 90 = .ok (.iload_n 1, 1) := by decide +kernel
theorem dX13_place_91 : decode cX13_place 91 = .ok (.bipush 6, 2) := by decide +kernel
theorem dX13_place_93 : decode cX13_place 93 = .ok (.invokevirtual 90, 3) := by decide +kernel
theorem dX13_place_96 : decode cX13_place 96 = .ok (.i2l, 1) := by decide +kernel
theorem dX13_place_97 : decode cX13_place 97 = .ok (.lreturn, 1) := by decide +kernel
theorem dX13_place_98 : decode cX13_place 98 = .ok (.aload_n 0, 1) := by decide +kernel
theorem dX13_place_99 : decode cX13_place 99 = .ok (.iload_n 1, 1) := by decide +kernel
theorem dX13_place_100 : decode cX13_place 100 = .ok (.bipush 7, 2) := by decide +kernel
theorem dX13_place_102 : decode cX13_place 102 = .ok (.invokevirtual 90, 3) := by decide +kernel
theorem dX13_place_105 : decode cX13_place 105 = .ok (.i2l, 1) := by decide +kernel
theorem dX13_place_106 : decode cX13_place 106 = .ok (.lreturn, 1) := by decide +kernel
theorem dX13_place_107 : decode cX13_place 107 = .ok (.iload_n 3, 1) := by decide +kernel
theorem dX13_place_108 : decode cX13_place 108 = .ok (.iconst 2, 1) := by decide +kernel
theorem dX13_place_109 : decode cX13_place 109 = .ok (.if_icmp .ne 12, 3) := by decide +kernel
theorem dX13_place_112 : decode cX13_place 112 = .ok (.aload_n 0, 1) := by decide +kernel
theorem dX13_place_113 : decode cX13_place 113 = .ok (.iload_n 1, 1) := by decide +kernel
theorem dX13_place_114 : decode cX13_place 114 = .ok (.invokevirtual 165, 3) := by decide +kernel
theorem dX13_place_117 : decode cX13_place 117 = .ok (.i2l, 1) := by decide +kernel
theorem dX13_place_118 : decode cX13_place 118 = .ok (.goto 4, 3) := by decide +kernel
theorem dX13_place_121 : decode cX13_place 121 = .ok (.lconst 0, 1) := by decide +kernel
theorem dX13_place_122 : decode cX13_place 122 = .ok (.lreturn, 1) := by decide +kernel
theorem dX13_place_123 : decode cX13_place 123 = .ok (.iload_n 3, 1) := by decide +kernel
theorem dX13_place_124 : decode cX13_place 124 = .ok (.iconst 4, 1) := by decide +kernel
theorem dX13_place_125 : decode cX13_place 125 = .ok (.if_icmp .ne 14, 3) := by decide +kernel
theorem dX13_place_128 : decode cX13_place 128 = .ok (.aload_n 0, 1) := by decide +kernel
theorem dX13_place_129 : decode cX13_place 129 = .ok (.iload_n 1, 1) := by decide +kernel
theorem dX13_place_130 : decode cX13_place 130 = .ok (.bipush 8, 2) := by decide +kernel
theorem dX13_place_132 : decode cX13_place 132 = .ok (.invokevirtual 90, 3) := by decide +kernel
theorem dX13_place_135 : decode cX13_place 135 = .ok (.i2l, 1) := by decide +kernel
theorem dX13_place_136 : decode cX13_place 136 = .ok (.goto 4, 3) := by decide +kernel
theorem dX13_place_139 : decode cX13_place 139 = .ok (.lconst 0, 1) := by decide +kernel
theorem dX13_place_140 : decode cX13_place 140 = .ok (.lreturn, 1) := by decide +kernel
set_option maxRecDepth 20000 in
theorem ggX13_told_X13_isTicket : GoodIn wsX13_told wsX13_isTicket := goodIn_r _ [6, 7, 40, 41, 42, 43, 44, 45, 46, 47, 48, 49] (by decide +kernel) (by decide +kernel)
set_option maxRecDepth 20000 in
theorem gX13_told_X13_isTicket : GoodIn wsX13_told (wsV RX13 143 RX13 yX13_isTicket wsX13_isTicket) := goodIn_app (goodIn_of _ (by decide +kernel)) ggX13_told_X13_isTicket
set_option maxRecDepth 20000 in
theorem ggX13_told_X13_of : GoodIn wsX13_told wsX13_of := goodIn_r _ [11, 7, 40, 41, 42, 43, 44, 45, 46, 47, 48, 49] (by decide +kernel) (by decide +kernel)
set_option maxRecDepth 20000 in
theorem gX13_told_X13_of : GoodIn wsX13_told (wsV RX13 44 RX13 yX13_of wsX13_of) := goodIn_app (goodIn_of _ (by decide +kernel)) ggX13_told_X13_of
set_option maxRecDepth 20000 in
theorem ggX13_told_X13_firstDay : GoodIn wsX13_told wsX13_firstDay := goodIn_r _ [15, 16, 17, 18, 5, 19, 8, 9, 10, 11, 7, 20, 21, 22, 23, 24, 25, 26, 27, 28, 29, 30, 31, 32, 33, 34, 35, 36, 37, 38, 39, 40, 41, 42, 43, 44, 45, 46, 47, 48, 49] (by decide +kernel) (by decide +kernel)
set_option maxRecDepth 20000 in
theorem gX13_told_X13_firstDay : GoodIn wsX13_told (wsV RX13 177 RX13 yX13_firstDay wsX13_firstDay) := goodIn_app (goodIn_of _ (by decide +kernel)) ggX13_told_X13_firstDay
set_option maxRecDepth 20000 in
theorem ggX13_told_X13_isClaimed : GoodIn wsX13_told wsX13_isClaimed := goodIn_r _ [35, 8, 9, 10, 5, 11, 7, 40, 41, 42, 43, 44, 45, 46, 47, 48, 49] (by decide +kernel) (by decide +kernel)
set_option maxRecDepth 20000 in
theorem gX13_told_X13_isClaimed : GoodIn wsX13_told (wsV RX13 159 RX13 yX13_isClaimed wsX13_isClaimed) := goodIn_app (goodIn_of _ (by decide +kernel)) ggX13_told_X13_isClaimed
set_option maxRecDepth 20000 in
theorem ggX13_told_X13_today : GoodIn wsX13_told wsX13_today := goodIn_r _ [39, 7, 40, 41, 42, 43, 44, 45, 46, 47, 48, 49] (by decide +kernel) (by decide +kernel)
set_option maxRecDepth 20000 in
theorem gX13_told_X13_today : GoodIn wsX13_told (wsV RX13 53 RX13 yX13_today wsX13_today) := goodIn_app (goodIn_of _ (by decide +kernel)) ggX13_told_X13_today
theorem dX13_told_0 : decode cX13_told 0 = .ok (.aload_n 0, 1) := by decide +kernel
theorem dX13_told_1 : decode cX13_told 1 = .ok (.iconst 0, 1) := by decide +kernel
theorem dX13_told_2 : decode cX13_told 2 = .ok (.putfield 34, 3) := by decide +kernel
theorem dX13_told_5 : decode cX13_told 5 = .ok (.aload_n 0, 1) := by decide +kernel
theorem dX13_told_6 : decode cX13_told 6 = .ok (.iload_n 1, 1) := by decide +kernel
theorem dX13_told_7 : decode cX13_told 7 = .ok (.invokevirtual 143, 3) := by decide +kernel
theorem dX13_told_10 : decode cX13_told 10 = .ok (.ifCond .ne 5, 3) := by decide +kernel
theorem dX13_told_13 : decode cX13_told 13 = .ok (.iconst (-1), 1) := by decide +kernel
theorem dX13_told_14 : decode cX13_told 14 = .ok (.ireturn, 1) := by decide +kernel
theorem dX13_told_15 : decode cX13_told 15 = .ok (.iload_n 2, 1) := by decide +kernel
theorem dX13_told_16 : decode cX13_told 16 = .ok (.tableswitch 239 0 17 #[88, 88, 88, 88, 88, 88, 88, 88, 95, 101, 115, 123, 131, 139, 184, 192, 208, 231], 88) := by decide +kernel
theorem dX13_told_104 : decode cX13_told 104 = .ok (.aload_n 0, 1) := by decide +kernel
theorem dX13_told_105 : decode cX13_told 105 = .ok (.iload_n 1, 1) := by decide +kernel
theorem dX13_told_106 : decode cX13_told 106 = .ok (.iload_n 2, 1) := by decide +kernel
theorem dX13_told_107 : decode cX13_told 107 = .ok (.invokevirtual 44, 3) := by decide +kernel
theorem dX13_told_110 : decode cX13_told 110 = .ok (.ireturn, 1) := by decide +kernel
theorem dX13_told_111 : decode cX13_told 111 = .ok (.aload_n 0, 1) := by decide +kernel
theorem dX13_told_112 : decode cX13_told 112 = .ok (.iload_n 1, 1) := by decide +kernel
theorem dX13_told_113 : decode cX13_told 113 = .ok (.invokevirtual 177, 3) := by decide +kernel
theorem dX13_told_116 : decode cX13_told 116 = .ok (.ireturn, 1) := by decide +kernel
theorem dX13_told_117 : decode cX13_told 117 = .ok (.aload_n 0, 1) := by decide +kernel
theorem dX13_told_118 : decode cX13_told 118 = .ok (.iload_n 1, 1) := by decide +kernel
theorem dX13_told_119 : decode cX13_told 119 = .ok (.invokevirtual 159, 3) := by decide +kernel
theorem dX13_told_122 : decode cX13_told 122 = .ok (.ifCond .eq 7, 3) := by decide +kernel
theorem dX13_told_125 : decode cX13_told 125 = .ok (.iconst 1, 1) := by decide +kernel
theorem dX13_told_126 : decode cX13_told 126 = .ok (.goto 4, 3) := by decide +kernel
theorem dX13_told_129 : decode cX13_told 129 = .ok (.iconst 0, 1) := by decide +kernel
theorem dX13_told_130 : decode cX13_told 130 = .ok (.ireturn, 1) := by decide +kernel
theorem dX13_told_131 : decode cX13_told 131 = .ok (.aload_n 0, 1) := by decide +kernel
theorem dX13_told_132 : decode cX13_told 132 = .ok (.iload_n 1, 1) := by decide +kernel
theorem dX13_told_133 : decode cX13_told 133 = .ok (.bipush 9, 2) := by decide +kernel
theorem dX13_told_135 : decode cX13_told 135 = .ok (.invokevirtual 44, 3) := by decide +kernel
theorem dX13_told_138 : decode cX13_told 138 = .ok (.ireturn, 1) := by decide +kernel
theorem dX13_told_139 : decode cX13_told 139 = .ok (.aload_n 0, 1) := by decide +kernel
theorem dX13_told_140 : decode cX13_told 140 = .ok (.iload_n 1, 1) := by decide +kernel
theorem dX13_told_141 : decode cX13_told 141 = .ok (.bipush 10, 2) := by decide +kernel
theorem dX13_told_143 : decode cX13_told 143 = .ok (.invokevirtual 44, 3) := by decide +kernel
theorem dX13_told_146 : decode cX13_told 146 = .ok (.ireturn, 1) := by decide +kernel
theorem dX13_told_147 : decode cX13_told 147 = .ok (.aload_n 0, 1) := by decide +kernel
theorem dX13_told_148 : decode cX13_told 148 = .ok (.iload_n 1, 1) := by decide +kernel
theorem dX13_told_149 : decode cX13_told 149 = .ok (.bipush 12, 2) := by decide +kernel
theorem dX13_told_151 : decode cX13_told 151 = .ok (.invokevirtual 44, 3) := by decide +kernel
theorem dX13_told_154 : decode cX13_told 154 = .ok (.ireturn, 1) := by decide +kernel
theorem dX13_told_155 : decode cX13_told 155 = .ok (.aload_n 0, 1) := by decide +kernel
theorem dX13_told_156 : decode cX13_told 156 = .ok (.iload_n 1, 1) := by decide +kernel
theorem dX13_told_157 : decode cX13_told 157 = .ok (.bipush 13, 2) := by decide +kernel
theorem dX13_told_159 : decode cX13_told 159 = .ok (.invokevirtual 44, 3) := by decide +kernel
theorem dX13_told_162 : decode cX13_told 162 = .ok (.iconst 1, 1) := by decide +kernel
theorem dX13_told_163 : decode cX13_told 163 = .ok (.if_icmp .ne 7, 3) := by decide +kernel
theorem dX13_told_166 : decode cX13_told 166 = .ok (.iconst 1, 1) := by decide +kernel
theorem dX13_told_167 : decode cX13_told 167 = .ok (.goto 32, 3) := by decide +kernel
theorem dX13_told_170 : decode cX13_told 170 = .ok (.aload_n 0, 1) := by decide +kernel
theorem dX13_told_171 : decode cX13_told 171 = .ok (.iload_n 1, 1) := by decide +kernel
theorem dX13_told_172 : decode cX13_told 172 = .ok (.bipush 12, 2) := by decide +kernel
theorem dX13_told_174 : decode cX13_told 174 = .ok (.invokevirtual 44, 3) := by decide +kernel
theorem dX13_told_177 : decode cX13_told 177 = .ok (.ifCond .le 21, 3) := by decide +kernel
theorem dX13_told_180 : decode cX13_told 180 = .ok (.aload_n 0, 1) := by decide +kernel
theorem dX13_told_181 : decode cX13_told 181 = .ok (.invokevirtual 53, 3) := by decide +kernel
theorem dX13_told_184 : decode cX13_told 184 = .ok (.aload_n 0, 1) := by decide +kernel
theorem dX13_told_185 : decode cX13_told 185 = .ok (.iload_n 1, 1) := by decide +kernel
theorem dX13_told_186 : decode cX13_told 186 = .ok (.bipush 14, 2) := by decide +kernel
theorem dX13_told_188 : decode cX13_told 188 = .ok (.invokevirtual 44, 3) := by decide +kernel
theorem dX13_told_191 : decode cX13_told 191 = .ok (.if_icmp .le 7, 3) := by decide +kernel
theorem dX13_told_194 : decode cX13_told 194 = .ok (.iconst 2, 1) := by decide +kernel
theorem dX13_told_195 : decode cX13_told 195 = .ok (.goto 4, 3) := by decide +kernel
theorem dX13_told_198 : decode cX13_told 198 = .ok (.iconst 0, 1) := by decide +kernel
theorem dX13_told_199 : decode cX13_told 199 = .ok (.ireturn, 1) := by decide +kernel
theorem dX13_told_200 : decode cX13_told 200 = .ok (.aload_n 0, 1) := by decide +kernel
theorem dX13_told_201 : decode cX13_told 201 = .ok (.iload_n 1, 1) := by decide +kernel
theorem dX13_told_202 : decode cX13_told 202 = .ok (.bipush 15, 2) := by decide +kernel
theorem dX13_told_204 : decode cX13_told 204 = .ok (.invokevirtual 44, 3) := by decide +kernel
theorem dX13_told_207 : decode cX13_told 207 = .ok (.ireturn, 1) := by decide +kernel
theorem dX13_told_208 : decode cX13_told 208 = .ok (.aload_n 0, 1) := by decide +kernel
theorem dX13_told_209 : decode cX13_told 209 = .ok (.iload_n 1, 1) := by decide +kernel
theorem dX13_told_210 : decode cX13_told 210 = .ok (.bipush 16, 2) := by decide +kernel
theorem dX13_told_212 : decode cX13_told 212 = .ok (.invokevirtual 44, 3) := by decide +kernel
theorem dX13_told_215 : decode cX13_told 215 = .ok (.ifCond .ne 7, 3) := by decide +kernel
theorem dX13_told_218 : decode cX13_told 218 = .ok (.iconst (-1), 1) := by decide +kernel
theorem dX13_told_219 : decode cX13_told 219 = .ok (.goto 4, 3) := by decide +kernel
theorem dX13_told_222 : decode cX13_told 222 = .ok (.iload_n 1, 1) := by decide +kernel
theorem dX13_told_223 : decode cX13_told 223 = .ok (.ireturn, 1) := by decide +kernel
theorem dX13_told_224 : decode cX13_told 224 = .ok (.aload_n 0, 1) := by decide +kernel
theorem dX13_told_225 : decode cX13_told 225 = .ok (.iload_n 1, 1) := by decide +kernel
theorem dX13_told_226 : decode cX13_told 226 = .ok (.bipush 16, 2) := by decide +kernel
theorem dX13_told_228 : decode cX13_told 228 = .ok (.invokevirtual 44, 3) := by decide +kernel
theorem dX13_told_231 : decode cX13_told 231 = .ok (.iconst (-1), 1) := by decide +kernel
theorem dX13_told_232 : decode cX13_told 232 = .ok (.if_icmp .ne 13, 3) := by decide +kernel
theorem dX13_told_235 : decode cX13_told 235 = .ok (.aload_n 0, 1) := by decide +kernel
theorem dX13_told_236 : decode cX13_told 236 = .ok (.iload_n 1, 1) := by decide +kernel
theorem dX13_told_237 : decode cX13_told 237 = .ok (.bipush 17, 2) := by decide +kernel
theorem dX13_told_239 : decode cX13_told 239 = .ok (.invokevirtual 44, 3) := by decide +kernel
theorem dX13_told_242 : decode cX13_told 242 = .ok (.goto 4, 3) := by decide +kernel
theorem dX13_told_245 : decode cX13_told 245 = .ok (.iconst (-1), 1) := by decide +kernel
theorem dX13_told_246 : decode cX13_told 246 = .ok (.ireturn, 1) := by decide +kernel
theorem dX13_told_247 : decode cX13_told 247 = .ok (.aload_n 0, 1) := by decide +kernel
theorem dX13_told_248 : decode cX13_told 248 = .ok (.iload_n 1, 1) := by decide +kernel
theorem dX13_told_249 : decode cX13_told 249 = .ok (.bipush 18, 2) := by decide +kernel
theorem dX13_told_251 : decode cX13_told 251 = .ok (.invokevirtual 44, 3) := by decide +kernel
theorem dX13_told_254 : decode cX13_told 254 = .ok (.ireturn, 1) := by decide +kernel
theorem dX13_told_255 : decode cX13_told 255 = .ok (.iconst (-1), 1) := by decide +kernel
theorem dX13_told_256 : decode cX13_told 256 = .ok (.ireturn, 1) := by decide +kernel
theorem dX13_half_0 : decode cX13_half 0 = .ok (.aload_n 0, 1) := by decide +kernel
theorem dX13_half_1 : decode cX13_half 1 = .ok (.iconst 0, 1) := by decide +kernel
theorem dX13_half_2 : decode cX13_half 2 = .ok (.putfield 34, 3) := by decide +kernel
theorem dX13_half_5 : decode cX13_half 5 = .ok (.aload_n 0, 1) := by decide +kernel
theorem dX13_half_6 : decode cX13_half 6 = .ok (.getfield 10, 3) := by decide +kernel
theorem dX13_half_9 : decode cX13_half 9 = .ok (.getfield 24, 3) := by decide +kernel
theorem dX13_half_12 : decode cX13_half 12 = .ok (.iconst 2, 1) := by decide +kernel
theorem dX13_half_13 : decode cX13_half 13 = .ok (.iaload, 1) := by decide +kernel
theorem dX13_half_14 : decode cX13_half 14 = .ok (.ireturn, 1) := by decide +kernel
set_option maxRecDepth 20000 in
theorem ggX13_overs_X13_today : GoodIn wsX13_overs wsX13_today := goodIn_r _ [6, 1, 11, 12, 13, 14, 15, 16, 17, 18, 19, 20] (by decide +kernel) (by decide +kernel)
set_option maxRecDepth 20000 in
theorem gX13_overs_X13_today : GoodIn wsX13_overs (wsV RX13 53 RX13 yX13_today wsX13_today) := goodIn_app (goodIn_of _ (by decide +kernel)) ggX13_overs_X13_today
set_option maxRecDepth 20000 in
theorem ggX13_overs_X13_of : GoodIn wsX13_overs wsX13_of := goodIn_r _ [10, 1, 11, 12, 13, 14, 15, 16, 17, 18, 19, 20] (by decide +kernel) (by decide +kernel)
set_option maxRecDepth 20000 in
theorem gX13_overs_X13_of : GoodIn wsX13_overs (wsV RX13 44 RX13 yX13_of wsX13_of) := goodIn_app (goodIn_of _ (by decide +kernel)) ggX13_overs_X13_of
theorem dX13_overs_0 : decode cX13_overs 0 = .ok (.lconst 0, 1) := by decide +kernel
theorem dX13_overs_1 : decode cX13_overs 1 = .ok (.lstore_n 2, 1) := by decide +kernel
theorem dX13_overs_2 : decode cX13_overs 2 = .ok (.iconst 1, 1) := by decide +kernel
theorem dX13_overs_3 : decode cX13_overs 3 = .ok (.istore 4, 2) := by decide +kernel
theorem dX13_overs_5 : decode cX13_overs 5 = .ok (.iload 4, 2) := by decide +kernel
theorem dX13_overs_7 : decode cX13_overs 7 = .ok (.aload_n 0, 1) := by decide +kernel
theorem dX13_overs_8 : decode cX13_overs 8 = .ok (.getfield 10, 3) := by decide +kernel
theorem dX13_overs_11 : decode cX13_overs 11 = .ok (.getfield 24, 3) := by decide +kernel
theorem dX13_overs_14 : decode cX13_overs 14 = .ok (.iconst 1, 1) := by decide +kernel
theorem dX13_overs_15 : decode cX13_overs 15 = .ok (.iaload, 1) := by decide +kernel
theorem dX13_overs_16 : decode cX13_overs 16 = .ok (.if_icmp .gt 60, 3) := by decide +kernel
theorem dX13_overs_19 : decode cX13_overs 19 = .ok (.aload_n 0, 1) := by decide +kernel
theorem dX13_overs_20 : decode cX13_overs 20 = .ok (.invokevirtual 53, 3) := by decide +kernel
theorem dX13_overs_23 : decode cX13_overs 23 = .ok (.aload_n 0, 1) := by decide +kernel
theorem dX13_overs_24 : decode cX13_overs 24 = .ok (.iload 4, 2) := by decide +kernel
theorem dX13_overs_26 : decode cX13_overs 26 = .ok (.bipush 14, 2) := by decide +kernel
theorem dX13_overs_28 : decode cX13_overs 28 = .ok (.invokevirtual 44, 3) := by decide +kernel
theorem dX13_overs_31 : decode cX13_overs 31 = .ok (.if_icmp .le 7, 3) := by decide +kernel
theorem dX13_overs_34 : decode cX13_overs 34 = .ok (.iconst 1, 1) := by decide +kernel
theorem dX13_overs_35 : decode cX13_overs 35 = .ok (.goto 4, 3) := by decide +kernel
theorem dX13_overs_38 : decode cX13_overs 38 = .ok (.iconst 0, 1) := by decide +kernel
theorem dX13_overs_39 : decode cX13_overs 39 = .ok (.istore 5, 2) := by decide +kernel
theorem dX13_overs_41 : decode cX13_overs 41 = .ok (.aload_n 0, 1) := by decide +kernel
theorem dX13_overs_42 : decode cX13_overs 42 = .ok (.iload 4, 2) := by decide +kernel
theorem dX13_overs_44 : decode cX13_overs 44 = .ok (.bipush 13, 2) := by decide +kernel
theorem dX13_overs_46 : decode cX13_overs 46 = .ok (.invokevirtual 44, 3) := by decide +kernel
theorem dX13_overs_49 : decode cX13_overs 49 = .ok (.ifCond .ne 21, 3) := by decide +kernel
theorem dX13_overs_52 : decode cX13_overs 52 = .ok (.iload 5, 2) := by decide +kernel
theorem dX13_overs_54 : decode cX13_overs 54 = .ok (.iload_n 1, 1) := by decide +kernel
theorem dX13_overs_55 : decode cX13_overs 55 = .ok (.if_icmp .ne 15, 3) := by decide +kernel
theorem dX13_overs_58 : decode cX13_overs 58 = .ok (.lload_n 2, 1) := by decide +kernel
theorem dX13_overs_59 : decode cX13_overs 59 = .ok (.aload_n 0, 1) := by decide +kernel
theorem dX13_overs_60 : decode cX13_overs 60 = .ok (.iload 4, 2) := by decide +kernel
theorem dX13_overs_62 : decode cX13_overs 62 = .ok (.bipush 12, 2) := by decide +kernel
theorem dX13_overs_64 : decode cX13_overs 64 = .ok (.invokevirtual 44, 3) := by decide +kernel
theorem dX13_overs_67 : decode cX13_overs 67 = .ok (.i2l, 1) := by decide +kernel
theorem dX13_overs_68 : decode cX13_overs 68 = .ok (.ladd, 1) := by decide +kernel
theorem dX13_overs_69 : decode cX13_overs 69 = .ok (.lstore_n 2, 1) := by decide +kernel
theorem dX13_overs_70 : decode cX13_overs 70 = .ok (.iinc 4 1, 3) := by decide +kernel
theorem dX13_overs_73 : decode cX13_overs 73 = .ok (.goto (-68), 3) := by decide +kernel
theorem dX13_overs_76 : decode cX13_overs 76 = .ok (.lload_n 2, 1) := by decide +kernel
theorem dX13_overs_77 : decode cX13_overs 77 = .ok (.lreturn, 1) := by decide +kernel
set_option maxRecDepth 20000 in
theorem ggX13_summed_X13_overs : GoodIn wsX13_summed wsX13_overs := goodIn_r _ [6, 1, 7, 8, 9, 5, 10, 11, 12, 13, 14, 27, 28, 29, 30, 31, 32, 33, 34, 35, 36] (by decide +kernel) (by decide +kernel)
set_option maxRecDepth 20000 in
theorem gX13_summed_X13_overs : GoodIn wsX13_summed (wsV RX13 197 RX13 yX13_overs wsX13_overs) := goodIn_app (goodIn_of _ (by decide +kernel)) ggX13_summed_X13_overs
set_option maxRecDepth 20000 in
theorem ggX13_summed_X13_isOpen : GoodIn wsX13_summed wsX13_isOpen := goodIn_r _ [18, 11, 12, 13, 5, 14, 1, 27, 28, 29, 30, 31, 32, 33, 34, 35, 36] (by decide +kernel) (by decide +kernel)
set_option maxRecDepth 20000 in
theorem gX13_summed_X13_isOpen : GoodIn wsX13_summed (wsV RX13 48 RX13 yX13_isOpen wsX13_isOpen) := goodIn_app (goodIn_of _ (by decide +kernel)) ggX13_summed_X13_isOpen
set_option maxRecDepth 20000 in
theorem ggX13_summed_X13_of : GoodIn wsX13_summed wsX13_of := goodIn_r _ [14, 1, 27, 28, 29, 30, 31, 32, 33, 34, 35, 36] (by decide +kernel) (by decide +kernel)
set_option maxRecDepth 20000 in
theorem gX13_summed_X13_of : GoodIn wsX13_summed (wsV RX13 44 RX13 yX13_of wsX13_of) := goodIn_app (goodIn_of _ (by decide +kernel)) ggX13_summed_X13_of
set_option maxRecDepth 20000 in
theorem ggX13_summed_X13_isPledge : GoodIn wsX13_summed wsX13_isPledge := goodIn_r _ [22, 23, 24, 25, 5, 26, 1, 27, 28, 29, 30, 31, 32, 33, 34, 35, 36] (by decide +kernel) (by decide +kernel)
set_option maxRecDepth 20000 in
theorem gX13_summed_X13_isPledge : GoodIn wsX13_summed (wsV RX13 120 RX13 yX13_isPledge wsX13_isPledge) := goodIn_app (goodIn_of _ (by decide +kernel)) ggX13_summed_X13_isPledge
theorem dX13_summed_0 : decode cX13_summed 0 = .ok (.lconst 0, 1) := by decide +kernel
theorem dX13_summed_1 : decode cX13_summed 1 = .ok (.lstore_n 2, 1) := by decide +kernel
theorem dX13_summed_2 : decode cX13_summed 2 = .ok (.iload_n 1, 1) := by decide +kernel
theorem dX13_summed_3 : decode cX13_summed 3 = .ok (.tableswitch 240 0 11 #[61, 71, 81, 91, 101, 107, 117, 123, 133, 133, 133, 205], 61) := by decide +kernel
theorem dX13_summed_64 : decode cX13_summed 64 = .ok (.aload_n 0, 1) := by decide +kernel
theorem dX13_summed_65 : decode cX13_summed 65 = .ok (.getfield 10, 3) := by decide +kernel
theorem dX13_summed_68 : decode cX13_summed 68 = .ok (.getfield 140, 3) := by decide +kernel
theorem dX13_summed_71 : decode cX13_summed 71 = .ok (.iconst 0, 1) := by decide +kernel
theorem dX13_summed_72 : decode cX13_summed 72 = .ok (.laload, 1) := by decide +kernel
theorem dX13_summed_73 : decode cX13_summed 73 = .ok (.lreturn, 1) := by decide +kernel
theorem dX13_summed_74 : decode cX13_summed 74 = .ok (.aload_n 0, 1) := by decide +kernel
theorem dX13_summed_75 : decode cX13_summed 75 = .ok (.getfield 10, 3) := by decide +kernel
theorem dX13_summed_78 : decode cX13_summed 78 = .ok (.getfield 140, 3) := by decide +kernel
theorem dX13_summed_81 : decode cX13_summed 81 = .ok (.iconst 1, 1) := by decide +kernel
theorem dX13_summed_82 : decode cX13_summed 82 = .ok (.laload, 1) := by decide +kernel
theorem dX13_summed_83 : decode cX13_summed 83 = .ok (.lreturn, 1) := by decide +kernel
theorem dX13_summed_84 : decode cX13_summed 84 = .ok (.aload_n 0, 1) := by decide +kernel
theorem dX13_summed_85 : decode cX13_summed 85 = .ok (.getfield 10, 3) := by decide +kernel
theorem dX13_summed_88 : decode cX13_summed 88 = .ok (.getfield 140, 3) := by decide +kernel
theorem dX13_summed_91 : decode cX13_summed 91 = .ok (.iconst 2, 1) := by decide +kernel
theorem dX13_summed_92 : decode cX13_summed 92 = .ok (.laload, 1) := by decide +kernel
theorem dX13_summed_93 : decode cX13_summed 93 = .ok (.lreturn, 1) := by decide +kernel
theorem dX13_summed_94 : decode cX13_summed 94 = .ok (.aload_n 0, 1) := by decide +kernel
theorem dX13_summed_95 : decode cX13_summed 95 = .ok (.getfield 10, 3) := by decide +kernel
theorem dX13_summed_98 : decode cX13_summed 98 = .ok (.getfield 140, 3) := by decide +kernel
theorem dX13_summed_101 : decode cX13_summed 101 = .ok (.iconst 3, 1) := by decide +kernel
theorem dX13_summed_102 : decode cX13_summed 102 = .ok (.laload, 1) := by decide +kernel
theorem dX13_summed_103 : decode cX13_summed 103 = .ok (.lreturn, 1) := by decide +kernel
theorem dX13_summed_104 : decode cX13_summed 104 = .ok (.aload_n 0, 1) := by decide +kernel
theorem dX13_summed_105 : decode cX13_summed 105 = .ok (.iconst 0, 1) := by decide +kernel
theorem dX13_summed_106 : decode cX13_summed 106 = .ok (.invokevirtual 197, 3) := by decide +kernel
theorem dX13_summed_109 : decode cX13_summed 109 = .ok (.lreturn, 1) := by decide +kernel
theorem dX13_summed_110 : decode cX13_summed 110 = .ok (.aload_n 0, 1) := by decide +kernel
theorem dX13_summed_111 : decode cX13_summed 111 = .ok (.getfield 10, 3) := by decide +kernel
theorem dX13_summed_114 : decode cX13_summed 114 = .ok (.getfield 140, 3) := by decide +kernel
theorem dX13_summed_117 : decode cX13_summed 117 = .ok (.iconst 4, 1) := by decide +kernel
theorem dX13_summed_118 : decode cX13_summed 118 = .ok (.laload, 1) := by decide +kernel
theorem dX13_summed_119 : decode cX13_summed 119 = .ok (.lreturn, 1) := by decide +kernel
theorem dX13_summed_120 : decode cX13_summed 120 = .ok (.aload_n 0, 1) := by decide +kernel
theorem dX13_summed_121 : decode cX13_summed 121 = .ok (.iconst 1, 1) := by decide +kernel
theorem dX13_summed_122 : decode cX13_summed 122 = .ok (.invokevirtual 197, 3) := by decide +kernel
theorem dX13_summed_125 : decode cX13_summed 125 = .ok (.lreturn, 1) := by decide +kernel
theorem dX13_summed_126 : decode cX13_summed 126 = .ok (.aload_n 0, 1) := by decide +kernel
theorem dX13_summed_127 : decode cX13_summed 127 = .ok (.getfield 10, 3) := by decide +kernel
theorem dX13_summed_130 : decode cX13_summed 130 = .ok (.getfield 140, 3) := by decide +kernel
theorem dX13_summed_133 : decode cX13_summed 133 = .ok (.iconst 5, 1) := by decide +kernel
theorem dX13_summed_134 : decode cX13_summed 134 = .ok (.laload, 1) := by decide +kernel
theorem dX13_summed_135 : decode cX13_summed 135 = .ok (.lreturn, 1) := by decide +kernel
theorem dX13_summed_136 : decode cX13_summed 136 = .ok (.iconst 1, 1) := by decide +kernel
theorem dX13_summed_137 : decode cX13_summed 137 = .ok (.istore 4, 2) := by decide +kernel
theorem dX13_summed_139 : decode cX13_summed 139 = .ok (.iload 4, 2) := by decide +kernel
theorem dX13_summed_141 : decode cX13_summed 141 = .ok (.aload_n 0, 1) := by decide +kernel
theorem dX13_summed_142 : decode cX13_summed 142 = .ok (.getfield 10, 3) := by decide +kernel
theorem dX13_summed_145 : decode cX13_summed 145 = .ok (.getfield 24, 3) := by decide +kernel
theorem dX13_summed_148 : decode cX13_summed 148 = .ok (.iconst 1, 1) := by decide +kernel
theorem dX13_summed_149 : decode cX13_summed 149 = .ok (.iaload, 1) := by decide +kernel
theorem dX13_summed_150 : decode cX13_summed 150 = .ok (.if_icmp .gt 56, 3) := by decide +kernel
theorem dX13_summed_153 : decode cX13_summed 153 = .ok (.aload_n 0, 1) := by decide +kernel
theorem dX13_summed_154 : decode cX13_summed 154 = .ok (.iload 4, 2) := by decide +kernel
theorem dX13_summed_156 : decode cX13_summed 156 = .ok (.invokevirtual 48, 3) := by decide +kernel
theorem dX13_summed_159 : decode cX13_summed 159 = .ok (.ifCond .eq 41, 3) := by decide +kernel
theorem dX13_summed_162 : decode cX13_summed 162 = .ok (.lload_n 2, 1) := by decide +kernel
theorem dX13_summed_163 : decode cX13_summed 163 = .ok (.iload_n 1, 1) := by decide +kernel
theorem dX13_summed_164 : decode cX13_summed 164 = .ok (.bipush 8, 2) := by decide +kernel
theorem dX13_summed_166 : decode cX13_summed 166 = .ok (.if_icmp .ne 14, 3) := by decide +kernel
theorem dX13_summed_169 : decode cX13_summed 169 = .ok (.aload_n 0, 1) := by decide +kernel
theorem dX13_summed_170 : decode cX13_summed 170 = .ok (.iload 4, 2) := by decide +kernel
theorem dX13_summed_172 : decode cX13_summed 172 = .ok (.iconst 1, 1) := by decide +kernel
theorem dX13_summed_173 : decode cX13_summed 173 = .ok (.invokevirtual 44, 3) := by decide +kernel
theorem dX13_summed_176 : decode cX13_summed 176 = .ok (.i2l, 1) := by decide +kernel
theorem dX13_summed_177 : decode cX13_summed 177 = .ok (.goto 21, 3) := by decide +kernel
theorem dX13_summed_180 : decode cX13_summed 180 = .ok (.iload_n 1, 1) := by decide +kernel
theorem dX13_summed_181 : decode cX13_summed 181 = .ok (.bipush 9, 2) := by decide +kernel
theorem dX13_summed_183 : decode cX13_summed 183 = .ok (.if_icmp .ne 14, 3) := by decide +kernel
theorem dX13_summed_186 : decode cX13_summed 186 = .ok (.aload_n 0, 1) := by decide +kernel
theorem dX13_summed_187 : decode cX13_summed 187 = .ok (.iload 4, 2) := by decide +kernel
theorem dX13_summed_189 : decode cX13_summed 189 = .ok (.iconst 2, 1) := by decide +kernel
theorem dX13_summed_190 : decode cX13_summed 190 = .ok (.invokevirtual 44, 3) := by decide +kernel
theorem dX13_summed_193 : decode cX13_summed 193 = .ok (.i2l, 1) := by decide +kernel
theorem dX13_summed_194 : decode cX13_summed 194 = .ok (.goto 4, 3) := by decide +kernel
theorem dX13_summed_197 : decode cX13_summed 197 = .ok (.lconst 1, 1) := by decide +kernel
theorem dX13_summed_198 : decode cX13_summed 198 = .ok (.ladd, 1) := by decide +kernel
theorem dX13_summed_199 : decode cX13_summed 199 = .ok (.lstore_n 2, 1) := by decide +kernel
theorem dX13_summed_200 : decode cX13_summed 200 = .ok (.iinc 4 1, 3) := by decide +kernel
theorem dX13_summed_203 : decode cX13_summed 203 = .ok (.goto (-64), 3) := by decide +kernel
theorem dX13_summed_206 : decode cX13_summed 206 = .ok (.lload_n 2, 1) := by decide +kernel
theorem dX13_summed_207 : decode cX13_summed 207 = .ok (.lreturn, 1) := by decide +kernel
theorem dX13_summed_208 : decode cX13_summed 208 = .ok (.iconst 0, 1) := by decide +kernel
theorem dX13_summed_209 : decode cX13_summed 209 = .ok (.istore 4, 2) := by decide +kernel
theorem dX13_summed_211 : decode cX13_summed 211 = .ok (.iload 4, 2) := by decide +kernel
theorem dX13_summed_213 : decode cX13_summed 213 = .ok (.bipush 40, 2) := by decide +kernel
theorem dX13_summed_215 : decode cX13_summed 215 = .ok (.if_icmp .ge 26, 3) := by decide +kernel
theorem dX13_summed_218 : decode cX13_summed 218 = .ok (.lload_n 2, 1) := by decide +kernel
theorem dX13_summed_219 : decode cX13_summed 219 = .ok (.aload_n 0, 1) := by decide +kernel
theorem dX13_summed_220 : decode cX13_summed 220 = .ok (.iload 4, 2) := by decide +kernel
theorem dX13_summed_222 : decode cX13_summed 222 = .ok (.invokevirtual 120, 3) := by decide +kernel
theorem dX13_summed_225 : decode cX13_summed 225 = .ok (.ifCond .eq 7, 3) := by decide +kernel
theorem dX13_summed_228 : decode cX13_summed 228 = .ok (.lconst 1, 1) := by decide +kernel
theorem dX13_summed_229 : decode cX13_summed 229 = .ok (.goto 4, 3) := by decide +kernel
theorem dX13_summed_232 : decode cX13_summed 232 = .ok (.lconst 0, 1) := by decide +kernel
theorem dX13_summed_233 : decode cX13_summed 233 = .ok (.ladd, 1) := by decide +kernel
theorem dX13_summed_234 : decode cX13_summed 234 = .ok (.lstore_n 2, 1) := by decide +kernel
theorem dX13_summed_235 : decode cX13_summed 235 = .ok (.iinc 4 1, 3) := by decide +kernel
theorem dX13_summed_238 : decode cX13_summed 238 = .ok (.goto (-27), 3) := by decide +kernel
theorem dX13_summed_241 : decode cX13_summed 241 = .ok (.lload_n 2, 1) := by decide +kernel
theorem dX13_summed_242 : decode cX13_summed 242 = .ok (.lreturn, 1) := by decide +kernel
theorem dX13_summed_243 : decode cX13_summed 243 = .ok (.aload_n 0, 1) := by decide +kernel
theorem dX13_summed_244 : decode cX13_summed 244 = .ok (.getfield 10, 3) := by decide +kernel
theorem dX13_summed_247 : decode cX13_summed 247 = .ok (.getfield 24, 3) := by decide +kernel
theorem dX13_summed_250 : decode cX13_summed 250 = .ok (.iconst 1, 1) := by decide +kernel
theorem dX13_summed_251 : decode cX13_summed 251 = .ok (.iaload, 1) := by decide +kernel
theorem dX13_summed_252 : decode cX13_summed 252 = .ok (.i2l, 1) := by decide +kernel
theorem dX13_summed_253 : decode cX13_summed 253 = .ok (.lreturn, 1) := by decide +kernel
set_option maxRecDepth 20000 in
theorem ggX13_sum_X13_summed : GoodIn wsX13_sum wsX13_summed := goodIn_r _ [7, 8, 9, 10, 11, 6, 12, 13, 14, 15, 16, 17, 18, 19, 20, 21, 22, 23, 24, 25, 26, 27, 28, 29, 30, 31, 32, 33, 34, 35, 36, 37, 38, 39, 40, 41, 42] (by decide +kernel) (by decide +kernel)
set_option maxRecDepth 20000 in
theorem gX13_sum_X13_summed : GoodIn wsX13_sum (wsV RX13 73 RX13 yX13_summed wsX13_summed) := goodIn_app (goodIn_of _ (by decide +kernel)) ggX13_sum_X13_summed
theorem dX13_sum_0 : decode cX13_sum 0 = .ok (.aload_n 0, 1) := by decide +kernel
theorem dX13_sum_1 : decode cX13_sum 1 = .ok (.iconst 0, 1) := by decide +kernel
theorem dX13_sum_2 : decode cX13_sum 2 = .ok (.putfield 34, 3) := by decide +kernel
theorem dX13_sum_5 : decode cX13_sum 5 = .ok (.iload_n 1, 1) := by decide +kernel
theorem dX13_sum_6 : decode cX13_sum 6 = .ok (.ifCond .lt 9, 3) := by decide +kernel
theorem dX13_sum_9 : decode cX13_sum 9 = .ok (.iload_n 1, 1) := by decide +kernel
theorem dX13_sum_10 : decode cX13_sum 10 = .ok (.bipush 13, 2) := by decide +kernel
theorem dX13_sum_12 : decode cX13_sum 12 = .ok (.if_icmp .lt 9, 3) := by decide +kernel
theorem dX13_sum_15 : decode cX13_sum 15 = .ok (.ldc2_w 195, 3) := by decide +kernel
theorem dX13_sum_18 : decode cX13_sum 18 = .ok (.goto 8, 3) := by decide +kernel
theorem dX13_sum_21 : decode cX13_sum 21 = .ok (.aload_n 0, 1) := by decide +kernel
theorem dX13_sum_22 : decode cX13_sum 22 = .ok (.iload_n 1, 1) := by decide +kernel
theorem dX13_sum_23 : decode cX13_sum 23 = .ok (.invokevirtual 73, 3) := by decide +kernel
theorem dX13_sum_26 : decode cX13_sum 26 = .ok (.lreturn, 1) := by decide +kernel
set_option maxRecDepth 20000 in
theorem ggX13_as_X13_today : GoodIn wsX13_as wsX13_today := goodIn_r _ [8, 9, 34, 35, 36, 37, 38, 39, 40, 41, 42, 43] (by decide +kernel) (by decide +kernel)
set_option maxRecDepth 20000 in
theorem gX13_as_X13_today : GoodIn wsX13_as (wsV RX13 53 RX13 yX13_today wsX13_today) := goodIn_app (goodIn_of _ (by decide +kernel)) ggX13_as_X13_today
set_option maxRecDepth 20000 in
theorem ggX13_as_X13_summed : GoodIn wsX13_as wsX13_summed := goodIn_r _ [13, 9, 14, 15, 16, 7, 17, 4, 5, 6, 8, 18, 19, 20, 21, 22, 23, 24, 25, 26, 27, 28, 29, 30, 31, 32, 33, 34, 35, 36, 37, 38, 39, 40, 41, 42, 43] (by decide +kernel) (by decide +kernel)
set_option maxRecDepth 20000 in
theorem gX13_as_X13_summed : GoodIn wsX13_as (wsV RX13 73 RX13 yX13_summed wsX13_summed) := goodIn_app (goodIn_of _ (by decide +kernel)) ggX13_as_X13_summed
theorem dX13_as_0 : decode cX13_as 0 = .ok (.aload_n 0, 1) := by decide +kernel
theorem dX13_as_1 : decode cX13_as 1 = .ok (.iconst 0, 1) := by decide +kernel
theorem dX13_as_2 : decode cX13_as 2 = .ok (.putfield 34, 3) := by decide +kernel
theorem dX13_as_5 : decode cX13_as 5 = .ok (.iload_n 2, 1) := by decide +kernel
theorem dX13_as_6 : decode cX13_as 6 = .ok (.ifCond .lt 21, 3) := by decide +kernel
theorem dX13_as_9 : decode cX13_as 9 = .ok (.iload_n 2, 1) := by decide +kernel
theorem dX13_as_10 : decode cX13_as 10 = .ok (.bipush 13, 2) := by decide +kernel
theorem dX13_as_12 : decode cX13_as 12 = .ok (.if_icmp .ge 15, 3) := by decide +kernel
theorem dX13_as_15 : decode cX13_as 15 = .ok (.iload_n 1, 1) := by decide +kernel
theorem dX13_as_16 : decode cX13_as 16 = .ok (.ifCond .lt 11, 3) := by decide +kernel
theorem dX13_as_19 : decode cX13_as 19 = .ok (.iload_n 1, 1) := by decide +kernel
theorem dX13_as_20 : decode cX13_as 20 = .ok (.aload_n 0, 1) := by decide +kernel
theorem dX13_as_21 : decode cX13_as 21 = .ok (.invokevirtual 53, 3) := by decide +kernel
theorem dX13_as_24 : decode cX13_as 24 = .ok (.if_icmp .le 7, 3) := by decide +kernel
theorem dX13_as_27 : decode cX13_as 27 = .ok (.ldc2_w 195, 3) := by decide +kernel
theorem dX13_as_30 : decode cX13_as 30 = .ok (.lreturn, 1) := by decide +kernel
theorem dX13_as_31 : decode cX13_as 31 = .ok (.iload_n 1, 1) := by decide +kernel
theorem dX13_as_32 : decode cX13_as 32 = .ok (.aload_n 0, 1) := by decide +kernel
theorem dX13_as_33 : decode cX13_as 33 = .ok (.invokevirtual 53, 3) := by decide +kernel
theorem dX13_as_36 : decode cX13_as 36 = .ok (.if_icmp .ne 11, 3) := by decide +kernel
theorem dX13_as_39 : decode cX13_as 39 = .ok (.aload_n 0, 1) := by decide +kernel
theorem dX13_as_40 : decode cX13_as 40 = .ok (.iload_n 2, 1) := by decide +kernel
theorem dX13_as_41 : decode cX13_as 41 = .ok (.invokevirtual 73, 3) := by decide +kernel
theorem dX13_as_44 : decode cX13_as 44 = .ok (.goto 14, 3) := by decide +kernel
theorem dX13_as_47 : decode cX13_as 47 = .ok (.aload_n 0, 1) := by decide +kernel
theorem dX13_as_48 : decode cX13_as 48 = .ok (.getfield 20, 3) := by decide +kernel
theorem dX13_as_51 : decode cX13_as 51 = .ok (.bipush 13, 2) := by decide +kernel
theorem dX13_as_53 : decode cX13_as 53 = .ok (.iload_n 1, 1) := by decide +kernel
theorem dX13_as_54 : decode cX13_as 54 = .ok (.imul, 1) := by decide +kernel
theorem dX13_as_55 : decode cX13_as 55 = .ok (.iload_n 2, 1) := by decide +kernel
theorem dX13_as_56 : decode cX13_as 56 = .ok (.iadd, 1) := by decide +kernel
theorem dX13_as_57 : decode cX13_as 57 = .ok (.laload, 1) := by decide +kernel
theorem dX13_as_58 : decode cX13_as 58 = .ok (.lreturn, 1) := by decide +kernel
theorem dX13_check_0 : decode cX13_check 0 = .ok (.aload_n 0, 1) := by decide +kernel
theorem dX13_check_1 : decode cX13_check 1 = .ok (.iconst 0, 1) := by decide +kernel
theorem dX13_check_2 : decode cX13_check 2 = .ok (.putfield 34, 3) := by decide +kernel
theorem dX13_check_5 : decode cX13_check 5 = .ok (.iconst 0, 1) := by decide +kernel
theorem dX13_check_6 : decode cX13_check 6 = .ok (.ireturn, 1) := by decide +kernel
theorem dX13_status_0 : decode cX13_status 0 = .ok (.aload_n 0, 1) := by decide +kernel
theorem dX13_status_1 : decode cX13_status 1 = .ok (.iconst 0, 1) := by decide +kernel
theorem dX13_status_2 : decode cX13_status 2 = .ok (.putfield 34, 3) := by decide +kernel
theorem dX13_status_5 : decode cX13_status 5 = .ok (.aload_n 0, 1) := by decide +kernel
theorem dX13_status_6 : decode cX13_status 6 = .ok (.getfield 38, 3) := by decide +kernel
theorem dX13_status_9 : decode cX13_status 9 = .ok (.ireturn, 1) := by decide +kernel
