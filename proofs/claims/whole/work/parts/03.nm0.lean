theorem dX13_says_0 : decode cX13_says 0 = .ok (.aload_n 0, 1) := by decide +kernel
theorem dX13_says_1 : decode cX13_says 1 = .ok (.iconst 0, 1) := by decide +kernel
theorem dX13_says_2 : decode cX13_says 2 = .ok (.putfield 34, 3) := by decide +kernel
theorem dX13_says_5 : decode cX13_says 5 = .ok (.aload_n 0, 1) := by decide +kernel
theorem dX13_says_6 : decode cX13_says 6 = .ok (.iload_n 1, 1) := by decide +kernel
theorem dX13_says_7 : decode cX13_says 7 = .ok (.putfield 38, 3) := by decide +kernel
theorem dX13_says_10 : decode cX13_says 10 = .ok (.iload_n 1, 1) := by decide +kernel
theorem dX13_says_11 : decode cX13_says 11 = .ok (.ireturn, 1) := by decide +kernel
theorem dX13_today_0 : decode cX13_today 0 = .ok (.aload_n 0, 1) := by decide +kernel
theorem dX13_today_1 : decode cX13_today 1 = .ok (.getfield 10, 3) := by decide +kernel
theorem dX13_today_4 : decode cX13_today 4 = .ok (.getfield 24, 3) := by decide +kernel
theorem dX13_today_7 : decode cX13_today 7 = .ok (.iconst 0, 1) := by decide +kernel
theorem dX13_today_8 : decode cX13_today 8 = .ok (.iaload, 1) := by decide +kernel
theorem dX13_today_9 : decode cX13_today 9 = .ok (.ireturn, 1) := by decide +kernel
theorem dX13_ruleOf_0 : decode cX13_ruleOf 0 = .ok (.aload_n 0, 1) := by decide +kernel
theorem dX13_ruleOf_1 : decode cX13_ruleOf 1 = .ok (.getfield 10, 3) := by decide +kernel
theorem dX13_ruleOf_4 : decode cX13_ruleOf 4 = .ok (.getfield 24, 3) := by decide +kernel
theorem dX13_ruleOf_7 : decode cX13_ruleOf 7 = .ok (.iconst 3, 1) := by decide +kernel
theorem dX13_ruleOf_8 : decode cX13_ruleOf 8 = .ok (.iload_n 1, 1) := by decide +kernel
theorem dX13_ruleOf_9 : decode cX13_ruleOf 9 = .ok (.iadd, 1) := by decide +kernel
theorem dX13_ruleOf_10 : decode cX13_ruleOf 10 = .ok (.iaload, 1) := by decide +kernel
theorem dX13_ruleOf_11 : decode cX13_ruleOf 11 = .ok (.ireturn, 1) := by decide +kernel
theorem dX13_at_0 : decode cX13_at 0 = .ok (.aload_n 0, 1) := by decide +kernel
theorem dX13_at_1 : decode cX13_at 1 = .ok (.getfield 10, 3) := by decide +kernel
theorem dX13_at_4 : decode cX13_at 4 = .ok (.getfield 31, 3) := by decide +kernel
theorem dX13_at_7 : decode cX13_at 7 = .ok (.bipush 16, 2) := by decide +kernel
theorem dX13_at_9 : decode cX13_at 9 = .ok (.iload_n 1, 1) := by decide +kernel
theorem dX13_at_10 : decode cX13_at 10 = .ok (.imul, 1) := by decide +kernel
theorem dX13_at_11 : decode cX13_at 11 = .ok (.iload_n 2, 1) := by decide +kernel
theorem dX13_at_12 : decode cX13_at 12 = .ok (.iadd, 1) := by decide +kernel
theorem dX13_at_13 : decode cX13_at 13 = .ok (.iaload, 1) := by decide +kernel
theorem dX13_at_14 : decode cX13_at 14 = .ok (.ireturn, 1) := by decide +kernel
theorem dX13_set_0 : decode cX13_set 0 = .ok (.aload_n 0, 1) := by decide +kernel
theorem dX13_set_1 : decode cX13_set 1 = .ok (.getfield 10, 3) := by decide +kernel
theorem dX13_set_4 : decode cX13_set 4 = .ok (.getfield 31, 3) := by decide +kernel
theorem dX13_set_7 : decode cX13_set 7 = .ok (.bipush 16, 2) := by decide +kernel
theorem dX13_set_9 : decode cX13_set 9 = .ok (.iload_n 1, 1) := by decide +kernel
theorem dX13_set_10 : decode cX13_set 10 = .ok (.imul, 1) := by decide +kernel
theorem dX13_set_11 : decode cX13_set 11 = .ok (.iload_n 2, 1) := by decide +kernel
theorem dX13_set_12 : decode cX13_set 12 = .ok (.iadd, 1) := by decide +kernel
theorem dX13_set_13 : decode cX13_set 13 = .ok (.iload_n 3, 1) := by decide +kernel
theorem dX13_set_14 : decode cX13_set 14 = .ok (.iastore, 1) := by decide +kernel
theorem dX13_set_15 : decode cX13_set 15 = .ok (.return_, 1) := by decide +kernel
theorem dX13_of_0 : decode cX13_of 0 = .ok (.aload_n 0, 1) := by decide +kernel
theorem dX13_of_1 : decode cX13_of 1 = .ok (.getfield 10, 3) := by decide +kernel
theorem dX13_of_4 : decode cX13_of 4 = .ok (.getfield 41, 3) := by decide +kernel
theorem dX13_of_7 : decode cX13_of 7 = .ok (.bipush 32, 2) := by decide +kernel
theorem dX13_of_9 : decode cX13_of 9 = .ok (.iload_n 1, 1) := by decide +kernel
theorem dX13_of_10 : decode cX13_of 10 = .ok (.imul, 1) := by decide +kernel
theorem dX13_of_11 : decode cX13_of 11 = .ok (.iload_n 2, 1) := by decide +kernel
theorem dX13_of_12 : decode cX13_of 12 = .ok (.iadd, 1) := by decide +kernel
theorem dX13_of_13 : decode cX13_of 13 = .ok (.iaload, 1) := by decide +kernel
theorem dX13_of_14 : decode cX13_of 14 = .ok (.ireturn, 1) := by decide +kernel
theorem dX13_put_0 : decode cX13_put 0 = .ok (.aload_n 0, 1) := by decide +kernel
theorem dX13_put_1 : decode cX13_put 1 = .ok (.getfield 10, 3) := by decide +kernel
theorem dX13_put_4 : decode cX13_put 4 = .ok (.getfield 41, 3) := by decide +kernel
theorem dX13_put_7 : decode cX13_put 7 = .ok (.bipush 32, 2) := by decide +kernel
theorem dX13_put_9 : decode cX13_put 9 = .ok (.iload_n 1, 1) := by decide +kernel
theorem dX13_put_10 : decode cX13_put 10 = .ok (.imul, 1) := by decide +kernel
theorem dX13_put_11 : decode cX13_put 11 = .ok (.iload_n 2, 1) := by decide +kernel
theorem dX13_put_12 : decode cX13_put 12 = .ok (.iadd, 1) := by decide +kernel
theorem dX13_put_13 : decode cX13_put 13 = .ok (.iload_n 3, 1) := by decide +kernel
theorem dX13_put_14 : decode cX13_put 14 = .ok (.iastore, 1) := by decide +kernel
theorem dX13_put_15 : decode cX13_put 15 = .ok (.return_, 1) := by decide +kernel
theorem dX13_isPlace_0 : decode cX13_isPlace 0 = .ok (.iload_n 0, 1) := by decide +kernel
theorem dX13_isPlace_1 : decode cX13_isPlace 1 = .ok (.ifCond .lt 13, 3) := by decide +kernel
theorem dX13_isPlace_4 : decode cX13_isPlace 4 = .ok (.iload_n 0, 1) := by decide +kernel
theorem dX13_isPlace_5 : decode cX13_isPlace 5 = .ok (.bipush 40, 2) := by decide +kernel
theorem dX13_isPlace_7 : decode cX13_isPlace 7 = .ok (.if_icmp .ge 7, 3) := by decide +kernel
theorem dX13_isPlace_10 : decode cX13_isPlace 10 = .ok (.iconst 1, 1) := by decide +kernel
theorem dX13_isPlace_11 : decode cX13_isPlace 11 = .ok (.goto 4, 3) := by decide +kernel
theorem dX13_isPlace_14 : decode cX13_isPlace 14 = .ok (.iconst 0, 1) := by decide +kernel
theorem dX13_isPlace_15 : decode cX13_isPlace 15 = .ok (.ireturn, 1) := by decide +kernel
theorem dX13_isTicket_0 : decode cX13_isTicket 0 = .ok (.iload_n 1, 1) := by decide +kernel
theorem dX13_isTicket_1 : decode cX13_isTicket 1 = .ok (.iconst 1, 1) := by decide +kernel
theorem dX13_isTicket_2 : decode cX13_isTicket 2 = .ok (.if_icmp .lt 20, 3) := by decide +kernel
theorem dX13_isTicket_5 : decode cX13_isTicket 5 = .ok (.iload_n 1, 1) := by decide +kernel
theorem dX13_isTicket_6 : decode cX13_isTicket 6 = .ok (.aload_n 0, 1) := by decide +kernel
theorem dX13_isTicket_7 : decode cX13_isTicket 7 = .ok (.getfield 10, 3) := by decide +kernel
theorem dX13_isTicket_10 : decode cX13_isTicket 10 = .ok (.getfield 24, 3) := by decide +kernel
theorem dX13_isTicket_13 : decode cX13_isTicket 13 = .ok (.iconst 1, 1) := by decide +kernel
theorem dX13_isTicket_14 : decode cX13_isTicket 14 = .ok (.iaload, 1) := by decide +kernel
theorem dX13_isTicket_15 : decode cX13_isTicket 15 = .ok (.if_icmp .gt 7, 3) := by decide +kernel
theorem dX13_isTicket_18 : decode cX13_isTicket 18 = .ok (.iconst 1, 1) := by decide +kernel
theorem dX13_isTicket_19 : decode cX13_isTicket 19 = .ok (.goto 4, 3) := by decide +kernel
theorem dX13_isTicket_22 : decode cX13_isTicket 22 = .ok (.iconst 0, 1) := by decide +kernel
theorem dX13_isTicket_23 : decode cX13_isTicket 23 = .ok (.ireturn, 1) := by decide +kernel
set_option maxRecDepth 20000 in
theorem ggX13_isOpen_X13_of : GoodIn wsX13_isOpen wsX13_of := goodIn_r _ [5, 6, 7, 8, 9, 10, 11, 12, 13, 14, 15, 16] (by decide +kernel) (by decide +kernel)
set_option maxRecDepth 20000 in
theorem gX13_isOpen_X13_of : GoodIn wsX13_isOpen (wsV RX13 44 RX13 yX13_of wsX13_of) := goodIn_app (goodIn_of _ (by decide +kernel)) ggX13_isOpen_X13_of
theorem dX13_isOpen_0 : decode cX13_isOpen 0 = .ok (.aload_n 0, 1) := by decide +kernel
theorem dX13_isOpen_1 : decode cX13_isOpen 1 = .ok (.iload_n 1, 1) := by decide +kernel
theorem dX13_isOpen_2 : decode cX13_isOpen 2 = .ok (.iconst 0, 1) := by decide +kernel
theorem dX13_isOpen_3 : decode cX13_isOpen 3 = .ok (.invokevirtual 44, 3) := by decide +kernel
theorem dX13_isOpen_6 : decode cX13_isOpen 6 = .ok (.ifCond .ne 7, 3) := by decide +kernel
theorem dX13_isOpen_9 : decode cX13_isOpen 9 = .ok (.iconst 1, 1) := by decide +kernel
theorem dX13_isOpen_10 : decode cX13_isOpen 10 = .ok (.goto 4, 3) := by decide +kernel
theorem dX13_isOpen_13 : decode cX13_isOpen 13 = .ok (.iconst 0, 1) := by decide +kernel
theorem dX13_isOpen_14 : decode cX13_isOpen 14 = .ok (.ireturn, 1) := by decide +kernel
set_option maxRecDepth 20000 in
theorem ggX13_isFree_X13_isOpen : GoodIn wsX13_isFree wsX13_isOpen := goodIn_r _ [5, 6, 7, 8, 4, 9, 10, 11, 12, 13, 14, 15, 16, 17, 18, 19, 20] (by decide +kernel) (by decide +kernel)
set_option maxRecDepth 20000 in
theorem gX13_isFree_X13_isOpen : GoodIn wsX13_isFree (wsV RX13 48 RX13 yX13_isOpen wsX13_isOpen) := goodIn_app (goodIn_of _ (by decide +kernel)) ggX13_isFree_X13_isOpen
set_option maxRecDepth 20000 in
theorem ggX13_isFree_X13_of : GoodIn wsX13_isFree wsX13_of := goodIn_r _ [9, 10, 11, 12, 13, 14, 15, 16, 17, 18, 19, 20] (by decide +kernel) (by decide +kernel)
set_option maxRecDepth 20000 in
theorem gX13_isFree_X13_of : GoodIn wsX13_isFree (wsV RX13 44 RX13 yX13_of wsX13_of) := goodIn_app (goodIn_of _ (by decide +kernel)) ggX13_isFree_X13_of
theorem dX13_isFree_0 : decode cX13_isFree 0 = .ok (.aload_n 0, 1) := by decide +kernel
theorem dX13_isFree_1 : decode cX13_isFree 1 = .ok (.iload_n 1, 1) := by decide +kernel
theorem dX13_isFree_2 : decode cX13_isFree 2 = .ok (.invokevirtual 48, 3) := by decide +kernel
theorem dX13_isFree_5 : decode cX13_isFree 5 = .ok (.ifCond .eq 17, 3) := by decide +kernel
theorem dX13_isFree_8 : decode cX13_isFree 8 = .ok (.aload_n 0, 1) := by decide +kernel
theorem dX13_isFree_9 : decode cX13_isFree 9 = .ok (.iload_n 1, 1) := by decide +kernel
theorem dX13_isFree_10 : decode cX13_isFree 10 = .ok (.bipush 7, 2) := by decide +kernel
theorem dX13_isFree_12 : decode cX13_isFree 12 = .ok (.invokevirtual 44, 3) := by decide +kernel
theorem dX13_isFree_15 : decode cX13_isFree 15 = .ok (.ifCond .ne 7, 3) := by decide +kernel
theorem dX13_isFree_18 : decode cX13_isFree 18 = .ok (.iconst 1, 1) := by decide +kernel
theorem dX13_isFree_19 : decode cX13_isFree 19 = .ok (.goto 4, 3) := by decide +kernel
theorem dX13_isFree_22 : decode cX13_isFree 22 = .ok (.iconst 0, 1) := by decide +kernel
theorem dX13_isFree_23 : decode cX13_isFree 23 = .ok (.ireturn, 1) := by decide +kernel
theorem dX13_isValue_0 : decode cX13_isValue 0 = .ok (.iload_n 0, 1) := by decide +kernel
theorem dX13_isValue_1 : decode cX13_isValue 1 = .ok (.iconst 1, 1) := by decide +kernel
theorem dX13_isValue_2 : decode cX13_isValue 2 = .ok (.if_icmp .lt 13, 3) := by decide +kernel
theorem dX13_isValue_5 : decode cX13_isValue 5 = .ok (.iload_n 0, 1) := by decide +kernel
theorem dX13_isValue_6 : decode cX13_isValue 6 = .ok (.ldc 52, 2) := by decide +kernel
theorem dX13_isValue_8 : decode cX13_isValue 8 = .ok (.if_icmp .gt 7, 3) := by decide +kernel
theorem dX13_isValue_11 : decode cX13_isValue 11 = .ok (.iconst 1, 1) := by decide +kernel
theorem dX13_isValue_12 : decode cX13_isValue 12 = .ok (.goto 4, 3) := by decide +kernel
theorem dX13_isValue_15 : decode cX13_isValue 15 = .ok (.iconst 0, 1) := by decide +kernel
theorem dX13_isValue_16 : decode cX13_isValue 16 = .ok (.ireturn, 1) := by decide +kernel
theorem dX13_cutUp_0 : decode cX13_cutUp 0 = .ok (.lload_n 0, 1) := by decide +kernel
theorem dX13_cutUp_1 : decode cX13_cutUp 1 = .ok (.lload_n 2, 1) := by decide +kernel
theorem dX13_cutUp_2 : decode cX13_cutUp 2 = .ok (.ladd, 1) := by decide +kernel
theorem dX13_cutUp_3 : decode cX13_cutUp 3 = .ok (.lconst 1, 1) := by decide +kernel
theorem dX13_cutUp_4 : decode cX13_cutUp 4 = .ok (.lsub, 1) := by decide +kernel
theorem dX13_cutUp_5 : decode cX13_cutUp 5 = .ok (.lload_n 2, 1) := by decide +kernel
theorem dX13_cutUp_6 : decode cX13_cutUp 6 = .ok (.ldiv, 1) := by decide +kernel
theorem dX13_cutUp_7 : decode cX13_cutUp 7 = .ok (.l2i, 1) := by decide +kernel
theorem dX13_cutUp_8 : decode cX13_cutUp 8 = .ok (.ireturn, 1) := by decide +kernel
set_option maxRecDepth 20000 in
theorem ggX13_bare_X13_isPlace : GoodIn wsX13_bare wsX13_isPlace := goodIn_r _ [4] (by decide +kernel) (by decide +kernel)
set_option maxRecDepth 20000 in
theorem gX13_bare_X13_isPlace : GoodIn wsX13_bare (va_wsS RX13 87 yX13_isPlace wsX13_isPlace) := goodIn_app (goodIn_of _ (by decide +kernel)) ggX13_bare_X13_isPlace
set_option maxRecDepth 20000 in
theorem ggX13_bare_X13_at : GoodIn wsX13_bare wsX13_at := goodIn_r _ [8, 9, 10, 11, 12, 13, 14, 15, 16, 17, 18, 19] (by decide +kernel) (by decide +kernel)
set_option maxRecDepth 20000 in
theorem gX13_bare_X13_at : GoodIn wsX13_bare (wsV RX13 90 RX13 yX13_at wsX13_at) := goodIn_app (goodIn_of _ (by decide +kernel)) ggX13_bare_X13_at
theorem dX13_bare_0 : decode cX13_bare 0 = .ok (.iload_n 1, 1) := by decide +kernel
theorem dX13_bare_1 : decode cX13_bare 1 = .ok (.invokestatic 87, 3) := by decide +kernel
theorem dX13_bare_4 : decode cX13_bare 4 = .ok (.ifCond .ne 7, 3) := by decide +kernel
theorem dX13_bare_7 : decode cX13_bare 7 = .ok (.iconst (-1), 1) := by decide +kernel
theorem dX13_bare_8 : decode cX13_bare 8 = .ok (.goto 19, 3) := by decide +kernel
theorem dX13_bare_11 : decode cX13_bare 11 = .ok (.aload_n 0, 1) := by decide +kernel
theorem dX13_bare_12 : decode cX13_bare 12 = .ok (.iload_n 1, 1) := by decide +kernel
theorem dX13_bare_13 : decode cX13_bare 13 = .ok (.iconst 0, 1) := by decide +kernel
theorem dX13_bare_14 : decode cX13_bare 14 = .ok (.invokevirtual 90, 3) := by decide +kernel
theorem dX13_bare_17 : decode cX13_bare 17 = .ok (.iconst (-1), 1) := by decide +kernel
theorem dX13_bare_18 : decode cX13_bare 18 = .ok (.if_icmp .eq 8, 3) := by decide +kernel
theorem dX13_bare_21 : decode cX13_bare 21 = .ok (.bipush (-2), 2) := by decide +kernel
theorem dX13_bare_23 : decode cX13_bare 23 = .ok (.goto 4, 3) := by decide +kernel
theorem dX13_bare_26 : decode cX13_bare 26 = .ok (.iconst 0, 1) := by decide +kernel
theorem dX13_bare_27 : decode cX13_bare 27 = .ok (.ireturn, 1) := by decide +kernel
set_option maxRecDepth 20000 in
theorem ggX13_isPledge_X13_at : GoodIn wsX13_isPledge wsX13_at := goodIn_r _ [5, 6, 7, 8, 9, 10, 11, 12, 13, 14, 15, 16] (by decide +kernel) (by decide +kernel)
set_option maxRecDepth 20000 in
theorem gX13_isPledge_X13_at : GoodIn wsX13_isPledge (wsV RX13 90 RX13 yX13_at wsX13_at) := goodIn_app (goodIn_of _ (by decide +kernel)) ggX13_isPledge_X13_at
theorem dX13_isPledge_0 : decode cX13_isPledge 0 = .ok (.aload_n 0, 1) := by decide +kernel
theorem dX13_isPledge_1 : decode cX13_isPledge 1 = .ok (.iload_n 1, 1) := by decide +kernel
theorem dX13_isPledge_2 : decode cX13_isPledge 2 = .ok (.iconst 0, 1) := by decide +kernel
theorem dX13_isPledge_3 : decode cX13_isPledge 3 = .ok (.invokevirtual 90, 3) := by decide +kernel
theorem dX13_isPledge_6 : decode cX13_isPledge 6 = .ok (.ifCond .lt 17, 3) := by decide +kernel
theorem dX13_isPledge_9 : decode cX13_isPledge 9 = .ok (.aload_n 0, 1) := by decide +kernel
theorem dX13_isPledge_10 : decode cX13_isPledge 10 = .ok (.iload_n 1, 1) := by decide +kernel
theorem dX13_isPledge_11 : decode cX13_isPledge 11 = .ok (.iconst 0, 1) := by decide +kernel
theorem dX13_isPledge_12 : decode cX13_isPledge 12 = .ok (.invokevirtual 90, 3) := by decide +kernel
theorem dX13_isPledge_15 : decode cX13_isPledge 15 = .ok (.iconst 4, 1) := by decide +kernel
theorem dX13_isPledge_16 : decode cX13_isPledge 16 = .ok (.if_icmp .gt 7, 3) := by decide +kernel
theorem dX13_isPledge_19 : decode cX13_isPledge 19 = .ok (.iconst 1, 1) := by decide +kernel
theorem dX13_isPledge_20 : decode cX13_isPledge 20 = .ok (.goto 4, 3) := by decide +kernel
theorem dX13_isPledge_23 : decode cX13_isPledge 23 = .ok (.iconst 0, 1) := by decide +kernel
theorem dX13_isPledge_24 : decode cX13_isPledge 24 = .ok (.ireturn, 1) := by decide +kernel
set_option maxRecDepth 20000 in
theorem ggX13_owed_X13_of : GoodIn wsX13_owed wsX13_of := goodIn_r _ [5, 6, 7, 8, 9, 10, 11, 12, 13, 14, 15, 16] (by decide +kernel) (by decide +kernel)
set_option maxRecDepth 20000 in
theorem gX13_owed_X13_of : GoodIn wsX13_owed (wsV RX13 44 RX13 yX13_of wsX13_of) := goodIn_app (goodIn_of _ (by decide +kernel)) ggX13_owed_X13_of
theorem dX13_owed_0 : decode cX13_owed 0 = .ok (.aload_n 0, 1) := by decide +kernel
theorem dX13_owed_1 : decode cX13_owed 1 = .ok (.iload_n 1, 1) := by decide +kernel
theorem dX13_owed_2 : decode cX13_owed 2 = .ok (.iconst 1, 1) := by decide +kernel
theorem dX13_owed_3 : decode cX13_owed 3 = .ok (.invokevirtual 44, 3) := by decide +kernel
theorem dX13_owed_6 : decode cX13_owed 6 = .ok (.aload_n 0, 1) := by decide +kernel
theorem dX13_owed_7 : decode cX13_owed 7 = .ok (.iload_n 1, 1) := by decide +kernel
theorem dX13_owed_8 : decode cX13_owed 8 = .ok (.iconst 2, 1) := by decide +kernel
theorem dX13_owed_9 : decode cX13_owed 9 = .ok (.invokevirtual 44, 3) := by decide +kernel
theorem dX13_owed_12 : decode cX13_owed 12 = .ok (.iadd, 1) := by decide +kernel
theorem dX13_owed_13 : decode cX13_owed 13 = .ok (.ireturn, 1) := by decide +kernel
set_option maxRecDepth 20000 in
theorem ggX13_isRight_X13_of : GoodIn wsX13_isRight wsX13_of := goodIn_r _ [5, 6, 11, 12, 13, 14, 15, 16, 17, 18, 19, 20] (by decide +kernel) (by decide +kernel)
set_option maxRecDepth 20000 in
theorem gX13_isRight_X13_of : GoodIn wsX13_isRight (wsV RX13 44 RX13 yX13_of wsX13_of) := goodIn_app (goodIn_of _ (by decide +kernel)) ggX13_isRight_X13_of
set_option maxRecDepth 20000 in
theorem ggX13_isRight_X13_today : GoodIn wsX13_isRight wsX13_today := goodIn_r _ [10, 6, 11, 12, 13, 14, 15, 16, 17, 18, 19, 20] (by decide +kernel) (by decide +kernel)
set_option maxRecDepth 20000 in
theorem gX13_isRight_X13_today : GoodIn wsX13_isRight (wsV RX13 53 RX13 yX13_today wsX13_today) := goodIn_app (goodIn_of _ (by decide +kernel)) ggX13_isRight_X13_today
theorem dX13_isRight_0 : decode cX13_isRight 0 = .ok (.iload_n 2, 1) := by decide +kernel
theorem dX13_isRight_1 : decode cX13_isRight 1 = .ok (.ifCond .ne 37, 3) := by decide +kernel
theorem dX13_isRight_4 : decode cX13_isRight 4 = .ok (.aload_n 0, 1) := by decide +kernel
theorem dX13_isRight_5 : decode cX13_isRight 5 = .ok (.iload_n 1, 1) := by decide +kernel
theorem dX13_isRight_6 : decode cX13_isRight 6 = .ok (.bipush 18, 2) := by decide +kernel
theorem dX13_isRight_8 : decode cX13_isRight 8 = .ok (.invokevirtual 44, 3) := by decide +kernel
theorem dX13_isRight_11 : decode cX13_isRight 11 = .ok (.iconst (-1), 1) := by decide +kernel
theorem dX13_isRight_12 : decode cX13_isRight 12 = .ok (.if_icmp .eq 24, 3) := by decide +kernel
theorem dX13_isRight_15 : decode cX13_isRight 15 = .ok (.aload_n 0, 1) := by decide +kernel
theorem dX13_isRight_16 : decode cX13_isRight 16 = .ok (.invokevirtual 53, 3) := by decide +kernel
theorem dX13_isRight_19 : decode cX13_isRight 19 = .ok (.aload_n 0, 1) := by decide +kernel
theorem dX13_isRight_20 : decode cX13_isRight 20 = .ok (.iload_n 1, 1) := by decide +kernel
theorem dX13_isRight_21 : decode cX13_isRight 21 = .ok (.bipush 18, 2) := by decide +kernel
theorem dX13_isRight_23 : decode cX13_isRight 23 = .ok (.invokevirtual 44, 3) := by decide +kernel
theorem dX13_isRight_26 : decode cX13_isRight 26 = .ok (.isub, 1) := by decide +kernel
theorem dX13_isRight_27 : decode cX13_isRight 27 = .ok (.bipush 14, 2) := by decide +kernel
theorem dX13_isRight_29 : decode cX13_isRight 29 = .ok (.if_icmp .lt 7, 3) := by decide +kernel
theorem dX13_isRight_32 : decode cX13_isRight 32 = .ok (.iconst 1, 1) := by decide +kernel
theorem dX13_isRight_33 : decode cX13_isRight 33 = .ok (.goto 4, 3) := by decide +kernel
theorem dX13_isRight_36 : decode cX13_isRight 36 = .ok (.iconst 0, 1) := by decide +kernel
theorem dX13_isRight_37 : decode cX13_isRight 37 = .ok (.ireturn, 1) := by decide +kernel
theorem dX13_isRight_38 : decode cX13_isRight 38 = .ok (.aload_n 0, 1) := by decide +kernel
theorem dX13_isRight_39 : decode cX13_isRight 39 = .ok (.iload_n 1, 1) := by decide +kernel
theorem dX13_isRight_40 : decode cX13_isRight 40 = .ok (.bipush 16, 2) := by decide +kernel
theorem dX13_isRight_42 : decode cX13_isRight 42 = .ok (.invokevirtual 44, 3) := by decide +kernel
theorem dX13_isRight_45 : decode cX13_isRight 45 = .ok (.iconst (-1), 1) := by decide +kernel
theorem dX13_isRight_46 : decode cX13_isRight 46 = .ok (.if_icmp .ne 22, 3) := by decide +kernel
theorem dX13_isRight_49 : decode cX13_isRight 49 = .ok (.iload_n 2, 1) := by decide +kernel
theorem dX13_isRight_50 : decode cX13_isRight 50 = .ok (.aload_n 0, 1) := by decide +kernel
theorem dX13_isRight_51 : decode cX13_isRight 51 = .ok (.iload_n 1, 1) := by decide +kernel
theorem dX13_isRight_52 : decode cX13_isRight 52 = .ok (.bipush 17, 2) := by decide +kernel
theorem dX13_isRight_54 : decode cX13_isRight 54 = .ok (.invokevirtual 44, 3) := by decide +kernel
theorem dX13_isRight_57 : decode cX13_isRight 57 = .ok (.if_icmp .ne 7, 3) := by decide +kernel
theorem dX13_isRight_60 : decode cX13_isRight 60 = .ok (.iconst 1, 1) := by decide +kernel
theorem dX13_isRight_61 : decode cX13_isRight 61 = .ok (.goto 25, 3) := by decide +kernel
theorem dX13_isRight_64 : decode cX13_isRight 64 = .ok (.iconst 0, 1) := by decide +kernel
theorem dX13_isRight_65 : decode cX13_isRight 65 = .ok (.goto 21, 3) := by decide +kernel
theorem dX13_isRight_68 : decode cX13_isRight 68 = .ok (.iload_n 2, 1) := by decide +kernel
theorem dX13_isRight_69 : decode cX13_isRight 69 = .ok (.ifCond .le 16, 3) := by decide +kernel
theorem dX13_isRight_72 : decode cX13_isRight 72 = .ok (.iload_n 2, 1) := by decide +kernel
theorem dX13_isRight_73 : decode cX13_isRight 73 = .ok (.sipush 1000, 3) := by decide +kernel
theorem dX13_isRight_76 : decode cX13_isRight 76 = .ok (.idiv, 1) := by decide +kernel
theorem dX13_isRight_77 : decode cX13_isRight 77 = .ok (.iload_n 1, 1) := by decide +kernel
theorem dX13_isRight_78 : decode cX13_isRight 78 = .ok (.if_icmp .ne 7, 3) := by decide +kernel
theorem dX13_isRight_81 : decode cX13_isRight 81 = .ok (.iconst 1, 1) := by decide +kernel
theorem dX13_isRight_82 : decode cX13_isRight 82 = .ok (.goto 4, 3) := by decide +kernel
theorem dX13_isRight_85 : decode cX13_isRight 85 = .ok (.iconst 0, 1) := by decide +kernel
theorem dX13_isRight_86 : decode cX13_isRight 86 = .ok (.ireturn, 1) := by decide +kernel
set_option maxRecDepth 20000 in
theorem ggX13_shown_X13_put : GoodIn wsX13_shown wsX13_put := goodIn_r _ [5, 6, 7, 8, 9, 10, 11, 12, 13, 14, 15, 16] (by decide +kernel) (by decide +kernel)
set_option maxRecDepth 20000 in
theorem gX13_shown_X13_put : GoodIn wsX13_shown (wsV RX13 57 RX13 yX13_put wsX13_put) := goodIn_app (goodIn_of _ (by decide +kernel)) ggX13_shown_X13_put
theorem dX13_shown_0 : decode cX13_shown 0 = .ok (.iload_n 2, 1) := by decide +kernel
theorem dX13_shown_1 : decode cX13_shown 1 = .ok (.ifCond .eq 11, 3) := by decide +kernel
theorem dX13_shown_4 : decode cX13_shown 4 = .ok (.aload_n 0, 1) := by decide +kernel
theorem dX13_shown_5 : decode cX13_shown 5 = .ok (.iload_n 1, 1) := by decide +kernel
theorem dX13_shown_6 : decode cX13_shown 6 = .ok (.bipush 18, 2) := by decide +kernel
theorem dX13_shown_8 : decode cX13_shown 8 = .ok (.iconst (-1), 1) := by decide +kernel
theorem dX13_shown_9 : decode cX13_shown 9 = .ok (.invokevirtual 57, 3) := by decide +kernel
theorem dX13_shown_12 : decode cX13_shown 12 = .ok (.return_, 1) := by decide +kernel
set_option maxRecDepth 20000 in
theorem ggX13_isClaimed_X13_of : GoodIn wsX13_isClaimed wsX13_of := goodIn_r _ [5, 6, 7, 8, 9, 10, 11, 12, 13, 14, 15, 16] (by decide +kernel) (by decide +kernel)
set_option maxRecDepth 20000 in
theorem gX13_isClaimed_X13_of : GoodIn wsX13_isClaimed (wsV RX13 44 RX13 yX13_of wsX13_of) := goodIn_app (goodIn_of _ (by decide +kernel)) ggX13_isClaimed_X13_of
theorem dX13_isClaimed_0 : decode cX13_isClaimed 0 = .ok (.aload_n 0, 1) := by decide +kernel
theorem dX13_isClaimed_1 : decode cX13_isClaimed 1 = .ok (.iload_n 1, 1) := by decide +kernel
theorem dX13_isClaimed_2 : decode cX13_isClaimed 2 = .ok (.bipush 8, 2) := by decide +kernel
theorem dX13_isClaimed_4 : decode cX13_isClaimed 4 = .ok (.invokevirtual 44, 3) := by decide +kernel
theorem dX13_isClaimed_7 : decode cX13_isClaimed 7 = .ok (.iconst (-1), 1) := by decide +kernel
theorem dX13_isClaimed_8 : decode cX13_isClaimed 8 = .ok (.if_icmp .eq 7, 3) := by decide +kernel
theorem dX13_isClaimed_11 : decode cX13_isClaimed 11 = .ok (.iconst 1, 1) := by decide +kernel
theorem dX13_isClaimed_12 : decode cX13_isClaimed 12 = .ok (.goto 4, 3) := by decide +kernel
theorem dX13_isClaimed_15 : decode cX13_isClaimed 15 = .ok (.iconst 0, 1) := by decide +kernel
theorem dX13_isClaimed_16 : decode cX13_isClaimed 16 = .ok (.ireturn, 1) := by decide +kernel
set_option maxRecDepth 20000 in
theorem ggX13_termEnds_X13_of : GoodIn wsX13_termEnds wsX13_of := goodIn_r _ [5, 6, 7, 8, 9, 10, 11, 12, 13, 14, 15, 16] (by decide +kernel) (by decide +kernel)
set_option maxRecDepth 20000 in
theorem gX13_termEnds_X13_of : GoodIn wsX13_termEnds (wsV RX13 44 RX13 yX13_of wsX13_of) := goodIn_app (goodIn_of _ (by decide +kernel)) ggX13_termEnds_X13_of
theorem dX13_termEnds_0 : decode cX13_termEnds 0 = .ok (.aload_n 0, 1) := by decide +kernel
theorem dX13_termEnds_1 : decode cX13_termEnds 1 = .ok (.iload_n 1, 1) := by decide +kernel
theorem dX13_termEnds_2 : decode cX13_termEnds 2 = .ok (.iconst 4, 1) := by decide +kernel
theorem dX13_termEnds_3 : decode cX13_termEnds 3 = .ok (.invokevirtual 44, 3) := by decide +kernel
theorem dX13_termEnds_6 : decode cX13_termEnds 6 = .ok (.bipush 30, 2) := by decide +kernel
theorem dX13_termEnds_8 : decode cX13_termEnds 8 = .ok (.aload_n 0, 1) := by decide +kernel
theorem dX13_termEnds_9 : decode cX13_termEnds 9 = .ok (.iload_n 1, 1) := by decide +kernel
theorem dX13_termEnds_10 : decode cX13_termEnds 10 = .ok (.iconst 5, 1) := by decide +kernel
theorem dX13_termEnds_11 : decode cX13_termEnds 11 = .ok (.invokevirtual 44, 3) := by decide +kernel
theorem dX13_termEnds_14 : decode cX13_termEnds 14 = .ok (.imul, 1) := by decide +kernel
theorem dX13_termEnds_15 : decode cX13_termEnds 15 = .ok (.iadd, 1) := by decide +kernel
theorem dX13_termEnds_16 : decode cX13_termEnds 16 = .ok (.ireturn, 1) := by decide +kernel
set_option maxRecDepth 20000 in
theorem ggX13_claiming_X13_isClaimed : GoodIn wsX13_claiming wsX13_isClaimed := goodIn_r _ [9, 10, 11, 12, 8, 13, 14, 23, 24, 25, 26, 27, 28, 29, 30, 31, 32] (by decide +kernel) (by decide +kernel)
set_option maxRecDepth 20000 in
theorem gX13_claiming_X13_isClaimed : GoodIn wsX13_claiming (wsV RX13 159 RX13 yX13_isClaimed wsX13_isClaimed) := goodIn_app (goodIn_of _ (by decide +kernel)) ggX13_claiming_X13_isClaimed
set_option maxRecDepth 20000 in
theorem ggX13_claiming_X13_today : GoodIn wsX13_claiming wsX13_today := goodIn_r _ [18, 14, 23, 24, 25, 26, 27, 28, 29, 30, 31, 32] (by decide +kernel) (by decide +kernel)
set_option maxRecDepth 20000 in
theorem gX13_claiming_X13_today : GoodIn wsX13_claiming (wsV RX13 53 RX13 yX13_today wsX13_today) := goodIn_app (goodIn_of _ (by decide +kernel)) ggX13_claiming_X13_today
set_option maxRecDepth 20000 in
theorem ggX13_claiming_X13_of : GoodIn wsX13_claiming wsX13_of := goodIn_r _ [13, 14, 23, 24, 25, 26, 27, 28, 29, 30, 31, 32] (by decide +kernel) (by decide +kernel)
set_option maxRecDepth 20000 in
theorem gX13_claiming_X13_of : GoodIn wsX13_claiming (wsV RX13 44 RX13 yX13_of wsX13_of) := goodIn_app (goodIn_of _ (by decide +kernel)) ggX13_claiming_X13_of
set_option maxRecDepth 20000 in
theorem ggX13_claiming_X13_termEnds : GoodIn wsX13_claiming wsX13_termEnds := goodIn_r _ [22, 10, 11, 12, 8, 13, 14, 23, 24, 25, 26, 27, 28, 29, 30, 31, 32] (by decide +kernel) (by decide +kernel)
set_option maxRecDepth 20000 in
theorem gX13_claiming_X13_termEnds : GoodIn wsX13_claiming (wsV RX13 168 RX13 yX13_termEnds wsX13_termEnds) := goodIn_app (goodIn_of _ (by decide +kernel)) ggX13_claiming_X13_termEnds
theorem dX13_claiming_0 : decode cX13_claiming 0 = .ok (.aload_n 0, 1) := by decide +kernel
theorem dX13_claiming_1 : decode cX13_claiming 1 = .ok (.iload_n 1, 1) := by decide +kernel
theorem dX13_claiming_2 : decode cX13_claiming 2 = .ok (.invokevirtual 159, 3) := by decide +kernel
theorem dX13_claiming_5 : decode cX13_claiming 5 = .ok (.ifCond .ne 5, 3) := by decide +kernel
theorem dX13_claiming_8 : decode cX13_claiming 8 = .ok (.iconst 0, 1) := by decide +kernel
theorem dX13_claiming_9 : decode cX13_claiming 9 = .ok (.ireturn, 1) := by decide +kernel
theorem dX13_claiming_10 : decode cX13_claiming 10 = .ok (.iconst 0, 1) := by decide +kernel
theorem dX13_claiming_11 : decode cX13_claiming 11 = .ok (.aload_n 0, 1) := by decide +kernel
theorem dX13_claiming_12 : decode cX13_claiming 12 = .ok (.invokevirtual 53, 3) := by decide +kernel
theorem dX13_claiming_15 : decode cX13_claiming 15 = .ok (.aload_n 0, 1) := by decide +kernel
theorem dX13_claiming_16 : decode cX13_claiming 16 = .ok (.iload_n 1, 1) := by decide +kernel
theorem dX13_claiming_17 : decode cX13_claiming 17 = .ok (.bipush 8, 2) := by decide +kernel
theorem dX13_claiming_19 : decode cX13_claiming 19 = .ok (.invokevirtual 44, 3) := by decide +kernel
theorem dX13_claiming_22 : decode cX13_claiming 22 = .ok (.aload_n 0, 1) := by decide +kernel
theorem dX13_claiming_23 : decode cX13_claiming 23 = .ok (.iload_n 1, 1) := by decide +kernel
theorem dX13_claiming_24 : decode cX13_claiming 24 = .ok (.invokevirtual 168, 3) := by decide +kernel
theorem dX13_claiming_27 : decode cX13_claiming 27 = .ok (.invokestatic 171, 3) := by decide +kernel
theorem dX13_claiming_30 : decode cX13_claiming 30 = .ok (.isub, 1) := by decide +kernel
theorem dX13_claiming_31 : decode cX13_claiming 31 = .ok (.invokestatic 171, 3) := by decide +kernel
theorem dX13_claiming_34 : decode cX13_claiming 34 = .ok (.ireturn, 1) := by decide +kernel
set_option maxRecDepth 20000 in
theorem ggX13_firstDay_X13_termEnds : GoodIn wsX13_firstDay wsX13_termEnds := goodIn_r _ [5, 6, 7, 8, 4, 9, 10, 31, 32, 33, 34, 35, 36, 37, 38, 39, 40] (by decide +kernel) (by decide +kernel)
set_option maxRecDepth 20000 in
theorem gX13_firstDay_X13_termEnds : GoodIn wsX13_firstDay (wsV RX13 168 RX13 yX13_termEnds wsX13_termEnds) := goodIn_app (goodIn_of _ (by decide +kernel)) ggX13_firstDay_X13_termEnds
set_option maxRecDepth 20000 in
theorem ggX13_firstDay_X13_ruleOf : GoodIn wsX13_firstDay wsX13_ruleOf := goodIn_r _ [14, 10, 31, 32, 33, 34, 35, 36, 37, 38, 39, 40] (by decide +kernel) (by decide +kernel)
set_option maxRecDepth 20000 in
theorem gX13_firstDay_X13_ruleOf : GoodIn wsX13_firstDay (wsV RX13 123 RX13 yX13_ruleOf wsX13_ruleOf) := goodIn_app (goodIn_of _ (by decide +kernel)) ggX13_firstDay_X13_ruleOf
set_option maxRecDepth 20000 in
theorem ggX13_firstDay_X13_of : GoodIn wsX13_firstDay wsX13_of := goodIn_r _ [9, 10, 31, 32, 33, 34, 35, 36, 37, 38, 39, 40] (by decide +kernel) (by decide +kernel)
set_option maxRecDepth 20000 in
theorem gX13_firstDay_X13_of : GoodIn wsX13_firstDay (wsV RX13 44 RX13 yX13_of wsX13_of) := goodIn_app (goodIn_of _ (by decide +kernel)) ggX13_firstDay_X13_of
set_option maxRecDepth 20000 in
theorem ggX13_firstDay_X13_claiming : GoodIn wsX13_firstDay wsX13_claiming := goodIn_r _ [18, 19, 20, 21, 22, 23, 24, 25, 4, 26, 6, 7, 8, 9, 10, 27, 28, 29, 30, 1, 2, 3, 5, 31, 32, 33, 34, 35, 36, 37, 38, 39, 40] (by decide +kernel) (by decide +kernel)
set_option maxRecDepth 20000 in
theorem gX13_firstDay_X13_claiming : GoodIn wsX13_firstDay (wsV RX13 174 RX13 yX13_claiming wsX13_claiming) := goodIn_app (goodIn_of _ (by decide +kernel)) ggX13_firstDay_X13_claiming
theorem dX13_firstDay_0 : decode cX13_firstDay 0 = .ok (.aload_n 0, 1) := by decide +kernel
theorem dX13_firstDay_1 : decode cX13_firstDay 1 = .ok (.iload_n 1, 1) := by decide +kernel
theorem dX13_firstDay_2 : decode cX13_firstDay 2 = .ok (.invokevirtual 168, 3) := by decide +kernel
theorem dX13_firstDay_5 : decode cX13_firstDay 5 = .ok (.aload_n 0, 1) := by decide +kernel
theorem dX13_firstDay_6 : decode cX13_firstDay 6 = .ok (.iconst 0, 1) := by decide +kernel
theorem dX13_firstDay_7 : decode cX13_firstDay 7 = .ok (.invokevirtual 123, 3) := by decide +kernel
theorem dX13_firstDay_10 : decode cX13_firstDay 10 = .ok (.iadd, 1) := by decide +kernel
theorem dX13_firstDay_11 : decode cX13_firstDay 11 = .ok (.aload_n 0, 1) := by decide +kernel
theorem dX13_firstDay_12 : decode cX13_firstDay 12 = .ok (.iload_n 1, 1) := by decide +kernel
theorem dX13_firstDay_13 : decode cX13_firstDay 13 = .ok (.bipush 9, 2) := by decide +kernel
theorem dX13_firstDay_15 : decode cX13_firstDay 15 = .ok (.invokevirtual 44, 3) := by decide +kernel
theorem dX13_firstDay_18 : decode cX13_firstDay 18 = .ok (.iadd, 1) := by decide +kernel
theorem dX13_firstDay_19 : decode cX13_firstDay 19 = .ok (.aload_n 0, 1) := by decide +kernel
theorem dX13_firstDay_20 : decode cX13_firstDay 20 = .ok (.iload_n 1, 1) := by decide +kernel
theorem dX13_firstDay_21 : decode cX13_firstDay 21 = .ok (.invokevirtual 174, 3) := by decide +kernel
theorem dX13_firstDay_24 : decode cX13_firstDay 24 = .ok (.iadd, 1) := by decide +kernel
theorem dX13_firstDay_25 : decode cX13_firstDay 25 = .ok (.ireturn, 1) := by decide +kernel
set_option maxRecDepth 20000 in
theorem ggX13_isForfeit_X13_isOpen : GoodIn wsX13_isForfeit wsX13_isOpen := goodIn_r _ [5, 6, 7, 8, 4, 9, 10, 11, 12, 13, 14, 15, 16, 17, 18, 19, 20] (by decide +kernel) (by decide +kernel)
set_option maxRecDepth 20000 in
theorem gX13_isForfeit_X13_isOpen : GoodIn wsX13_isForfeit (wsV RX13 48 RX13 yX13_isOpen wsX13_isOpen) := goodIn_app (goodIn_of _ (by decide +kernel)) ggX13_isForfeit_X13_isOpen
set_option maxRecDepth 20000 in
theorem ggX13_isForfeit_X13_of : GoodIn wsX13_isForfeit wsX13_of := goodIn_r _ [9, 10, 11, 12, 13, 14, 15, 16, 17, 18, 19, 20] (by decide +kernel) (by decide +kernel)
set_option maxRecDepth 20000 in
theorem gX13_isForfeit_X13_of : GoodIn wsX13_isForfeit (wsV RX13 44 RX13 yX13_of wsX13_of) := goodIn_app (goodIn_of _ (by decide +kernel)) ggX13_isForfeit_X13_of
theorem dX13_isForfeit_0 : decode cX13_isForfeit 0 = .ok (.aload_n 0, 1) := by decide +kernel
theorem dX13_isForfeit_1 : decode cX13_isForfeit 1 = .ok (.iload_n 1, 1) := by decide +kernel
theorem dX13_isForfeit_2 : decode cX13_isForfeit 2 = .ok (.invokevirtual 48, 3) := by decide +kernel
theorem dX13_isForfeit_5 : decode cX13_isForfeit 5 = .ok (.ifCond .eq 18, 3) := by decide +kernel
theorem dX13_isForfeit_8 : decode cX13_isForfeit 8 = .ok (.aload_n 0, 1) := by decide +kernel
theorem dX13_isForfeit_9 : decode cX13_isForfeit 9 = .ok (.iload_n 1, 1) := by decide +kernel
theorem dX13_isForfeit_10 : decode cX13_isForfeit 10 = .ok (.bipush 7, 2) := by decide +kernel
theorem dX13_isForfeit_12 : decode cX13_isForfeit 12 = .ok (.invokevirtual 44, 3) := by decide +kernel
theorem dX13_isForfeit_15 : decode cX13_isForfeit 15 = .ok (.iconst 1, 1) := by decide +kernel
theorem dX13_isForfeit_16 : decode cX13_isForfeit 16 = .ok (.if_icmp .ne 7, 3) := by decide +kernel
theorem dX13_isForfeit_19 : decode cX13_isForfeit 19 = .ok (.iconst 1, 1) := by decide +kernel
theorem dX13_isForfeit_20 : decode cX13_isForfeit 20 = .ok (.goto 4, 3) := by decide +kernel
theorem dX13_isForfeit_23 : decode cX13_isForfeit 23 = .ok (.iconst 0, 1) := by decide +kernel
theorem dX13_isForfeit_24 : decode cX13_isForfeit 24 = .ok (.ireturn, 1) := by decide +kernel
set_option maxRecDepth 20000 in
theorem ggX13_dropped_X13_of : GoodIn wsX13_dropped wsX13_of := goodIn_r _ [5, 6, 31, 32, 33, 34, 35, 36, 37, 38, 39, 40] (by decide +kernel) (by decide +kernel)
set_option maxRecDepth 20000 in
theorem gX13_dropped_X13_of : GoodIn wsX13_dropped (wsV RX13 44 RX13 yX13_of wsX13_of) := goodIn_app (goodIn_of _ (by decide +kernel)) ggX13_dropped_X13_of
set_option maxRecDepth 20000 in
theorem ggX13_dropped_X13_claiming : GoodIn wsX13_dropped wsX13_claiming := goodIn_r _ [10, 11, 12, 13, 14, 15, 16, 17, 4, 18, 1, 2, 3, 5, 6, 19, 20, 21, 22, 23, 24, 25, 26, 31, 32, 33, 34, 35, 36, 37, 38, 39, 40] (by decide +kernel) (by decide +kernel)
set_option maxRecDepth 20000 in
theorem gX13_dropped_X13_claiming : GoodIn wsX13_dropped (wsV RX13 174 RX13 yX13_claiming wsX13_claiming) := goodIn_app (goodIn_of _ (by decide +kernel)) ggX13_dropped_X13_claiming
set_option maxRecDepth 20000 in
theorem ggX13_dropped_X13_put : GoodIn wsX13_dropped wsX13_put := goodIn_r _ [30, 6, 31, 32, 33, 34, 35, 36, 37, 38, 39, 40] (by decide +kernel) (by decide +kernel)
set_option maxRecDepth 20000 in
theorem gX13_dropped_X13_put : GoodIn wsX13_dropped (wsV RX13 57 RX13 yX13_put wsX13_put) := goodIn_app (goodIn_of _ (by decide +kernel)) ggX13_dropped_X13_put
theorem dX13_dropped_0 : decode cX13_dropped 0 = .ok (.aload_n 0, 1) := by decide +kernel
theorem dX13_dropped_1 : decode cX13_dropped 1 = .ok (.iload_n 1, 1) := by decide +kernel
theorem dX13_dropped_2 : decode cX13_dropped 2 = .ok (.bipush 9, 2) := by decide +kernel
theorem dX13_dropped_4 : decode cX13_dropped 4 = .ok (.aload_n 0, 1) := by decide +kernel
theorem dX13_dropped_5 : decode cX13_dropped 5 = .ok (.iload_n 1, 1) := by decide +kernel
theorem dX13_dropped_6 : decode cX13_dropped 6 = .ok (.bipush 9, 2) := by decide +kernel
theorem dX13_dropped_8 : decode cX13_dropped 8 = .ok (.invokevirtual 44, 3) := by decide +kernel
theorem dX13_dropped_11 : decode cX13_dropped 11 = .ok (.aload_n 0, 1) := by decide +kernel
theorem dX13_dropped_12 : decode cX13_dropped 12 = .ok (.iload_n 1, 1) := by decide +kernel
theorem dX13_dropped_13 : decode cX13_dropped 13 = .ok (.invokevirtual 174, 3) := by decide +kernel
theorem dX13_dropped_16 : decode cX13_dropped 16 = .ok (.iadd, 1) := by decide +kernel
theorem dX13_dropped_17 : decode cX13_dropped 17 = .ok (.invokevirtual 57, 3) := by decide +kernel
theorem dX13_dropped_20 : decode cX13_dropped 20 = .ok (.aload_n 0, 1) := by decide +kernel
theorem dX13_dropped_21 : decode cX13_dropped 21 = .ok (.iload_n 1, 1) := by decide +kernel
theorem dX13_dropped_22 : decode cX13_dropped 22 = .ok (.bipush 8, 2) := by decide +kernel
theorem dX13_dropped_24 : decode cX13_dropped 24 = .ok (.iconst (-1), 1) := by decide +kernel
theorem dX13_dropped_25 : decode cX13_dropped 25 = .ok (.invokevirtual 57, 3) := by decide +kernel
theorem dX13_dropped_28 : decode cX13_dropped 28 = .ok (.return_, 1) := by decide +kernel
