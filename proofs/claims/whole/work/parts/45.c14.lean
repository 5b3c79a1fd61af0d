/-! a ticket copied into a slot (by cwalk.py) -/
set_option maxHeartbeats 4000000 in
set_option maxRecDepth 100000 in
theorem cC_X3_copyTicket_r (l : Launch) (D : va_G) (cs : Nat → ClassId) (b b2 k a : Nat → Nat) (nm nm2 : Int32) (v v2 : Nat → Int32) (Z : hZ) (sz j : Nat) (ib : iT b) (ia : iH a) (d : dTH b a) (d12 : ∀ x, pT b2 x → ¬ pT b x) (d2H : ∀ x, pT b2 x → ¬ pH a x) (hz7 : v2 7 = 0 ∨ v2 7 = 1) (hj : j < 511) (hg : gt Z j = some (b 0)) : Met l yX3_copyTicket wsX3_copyTicket ({ frames := 2, cells := 0, slots := 0, locals := 42 }) (cPcX [.ref (a 0), .int (nI j), .ref (b2 0)] D cs ((wT b nm v ++ wH a (k 0) cs Z) ++ []) (wT b2 nm2 v2) sz) (cQ D none (((wT b nm2 v2 ++ wH a (k 0) cs Z)) ++ []) (adA (pOr (pT b) (pH a)) sz)) 0 0 (adA (pOr (pT b) (pH a)) sz) := by
  refine c_inX (P := pOr (pT b) (pH a)) (cc := cX3_copyTicket) (maxL := 3) (ret := none) (lv := [(0, .ref (a 0)), (1, .int (nI j)), (2, .ref (b2 0))]) (by decide) rfl (Nat.le_of_ble_eq_true rfl) rfl ?_
  intro p e s m below meth c ls S hr hlocks hin hsz hP hK hX0 hl hS
  subst hsz
  obtain ⟨hx, hb, hml, hown, hts⟩ := id S
  have d2TH : ∀ x, pT b2 x → ¬ pOr (pT b) (pH a) x := fun x h1 h2 => h2.elim (d12 x h1) (d2H x h1)
  have hX3 : ∀ w ∈ wsX30, w ∈ wsX3_copyTicket := by decide +kernel
  refine lv_aload_n hx hb dX3_copyTicket_0 rfl (lv_at hl 0 rfl) ?_
  refine hx_get hx hb hts hX3 hown hK.1 hP 7 (by decide) (hts (.fieldLink RX3 38 "PledgeHouse$House" "tickets" "[LPledgeHouse$Ticket;") (by decide +kernel)) rfl (v := .ref (a 5)) rfl dX3_copyTicket_1 ?_
  refine lv_iload_n hx hb dX3_copyTicket_4 rfl (lv_at hl 1 rfl) ?_
  refine hx_tld hx hb hK.1 hP j rfl hj (v := .ref (b 0)) ((congrArg va_rf hg)) dX3_copyTicket_5 ?_
  refine lv_ifnonnull (tgt := 22) hx hb dX3_copyTicket_6 (by decide) ?_
  refine lv_aload_n hx hb dX3_copyTicket_22 rfl (lv_at hl 2 rfl) ?_
  refine lv_ifnull hx hb dX3_copyTicket_23 ?_
  refine lv_aload_n hx hb dX3_copyTicket_26 rfl (lv_at hl 0 rfl) ?_
  refine hx_get hx hb hts hX3 hown hK.1 hP 7 (by decide) (hts (.fieldLink RX3 38 "PledgeHouse$House" "tickets" "[LPledgeHouse$Ticket;") (by decide +kernel)) rfl (v := .ref (a 5)) rfl dX3_copyTicket_27 ?_
  refine lv_iload_n hx hb dX3_copyTicket_30 rfl (lv_at hl 1 rfl) ?_
  refine hx_tld hx hb hK.1 hP j rfl hj (v := .ref (b 0)) ((congrArg va_rf hg)) dX3_copyTicket_31 ?_
  refine lv_aload_n hx hb dX3_copyTicket_32 rfl (lv_at hl 2 rfl) ?_
  refine c_w1 (WS' := (wT b nm2 v2 ++ wH a (k 0) cs Z) ++ []) (rest := []) (va_runV S (As := [.ref (b2 0)]) (cC_X9_become l D cs b b2 nm nm2 v v2 _ ib d12 hz7) (cwV 1 hts gX3_copyTicket_X9_become rfl rfl rfl (by decide +kernel) ⟨Nat.le_of_ble_eq_true rfl, Nat.le_of_ble_eq_true rfl⟩) (preV_x hK (vaL (vaL hP)) (keepA hX0 wT_p d2TH hS) (va_recv hK.1 (vaL (vaL hP)) (ci := 8) (q0 := 0) rfl rfl)) rfl rfl hl.1 rfl (lv_room (Nat.le_of_ble_eq_true rfl)) dX3_copyTicket_33 ⟨Nat.le_of_ble_eq_true rfl, Nat.le_of_ble_eq_true rfl⟩) hS (fun q h => h.elim (fun t => Or.inl (Or.inl t)) (fun z => Or.inr (Nat.le_trans hS.1 z))) (fun H1 _ hk h => va_P.app (va_P.app h (keepP (vaR (vaL hP)) wH_p (fun q h1 h2 => d q h2 h1) hk)) nilP) (fun H locs hP hS => ?_)
  exact W.vret hx hb hr (fun t2 ht2 hW => ⟨rfl, by rw [ht2]; exact hP, hS.F ht2⟩) hS.2.2 dX3_copyTicket_36 hlocks
set_option maxHeartbeats 4000000 in
set_option maxRecDepth 100000 in
theorem cC_X3_copyTicket_n (l : Launch) (D : va_G) (cs : Nat → ClassId) (b2 k a : Nat → Nat) (nm2 : Int32) (v2 : Nat → Int32) (Z : hZ) (sz j : Nat) (ia : iH a) (d2H : ∀ x, pT b2 x → ¬ pH a x) (hz7 : v2 7 = 0 ∨ v2 7 = 1) (hj : j < 511) (hg : gt Z j = none) : Met l yX3_copyTicket wsX3_copyTicket ({ frames := 3, cells := 3, slots := 31, locals := 60 }) (cPcX [.ref (a 0), .int (nI j), .ref (b2 0)] D cs (([] ++ wH a (k 0) cs Z) ++ []) (wT b2 nm2 v2) sz) (cQN D 3 (fun _ => none) (fun b => (wT b nm2 v2 ++ wH a (k 0) cs (gtp Z j (some (b 0)))) ++ []) (adA (pH a) sz)) 3 31 (adA (pH a) sz) := by
  refine c_inX (P := pH a) (cc := cX3_copyTicket) (maxL := 3) (ret := none) (lv := [(0, .ref (a 0)), (1, .int (nI j)), (2, .ref (b2 0))]) (by decide) rfl (Nat.le_of_ble_eq_true rfl) rfl ?_
  intro p e s m below meth c ls S hr hlocks hin hsz hP hK hX0 hl hS
  subst hsz
  obtain ⟨hx, hb, hml, hown, hts⟩ := id S
  have hltH := wH_lt (vaR (vaL hP))
  have hlt2 := wT_lt hX0
  have hX3 : ∀ w ∈ wsX30, w ∈ wsX3_copyTicket := by decide +kernel
  have hX9 : ∀ w ∈ wsX90, w ∈ wsX3_copyTicket := by decide +kernel
  refine lv_aload_n hx hb dX3_copyTicket_0 rfl (lv_at hl 0 rfl) ?_
  refine hx_get hx hb hts hX3 hown hK.1 hP 7 (by decide) (hts (.fieldLink RX3 38 "PledgeHouse$House" "tickets" "[LPledgeHouse$Ticket;") (by decide +kernel)) rfl (v := .ref (a 5)) rfl dX3_copyTicket_1 ?_
  refine lv_iload_n hx hb dX3_copyTicket_4 rfl (lv_at hl 1 rfl) ?_
  refine hx_tld hx hb hK.1 hP j rfl hj (v := .null) ((congrArg va_rf hg)) dX3_copyTicket_5 ?_
  refine lv_ifnonnullN hx hb dX3_copyTicket_6 ?_
  refine lv_aload_n hx hb dX3_copyTicket_9 rfl (lv_at hl 0 rfl) ?_
  refine hx_get hx hb hts hX3 hown hK.1 hP 7 (by decide) (hts (.fieldLink RX3 38 "PledgeHouse$House" "tickets" "[LPledgeHouse$Ticket;") (by decide +kernel)) rfl (v := .ref (a 5)) rfl dX3_copyTicket_10 ?_
  refine lv_iload_n hx hb dX3_copyTicket_13 rfl (lv_at hl 1 rfl) ?_
  refine x_new hx hb hts hX9 tyX9 tyX9_ok hown (hts (.classLink RX3 36 RX9) (by decide +kernel)) (hts (.instantiable RX9 19) (by decide +kernel)) (hts (.initialized RX9) (by decide +kernel)) hK.1 hP hS (ci := 8) rfl (fs := [.int 0, .int 0, .int 0, .int 0, .int 0, .int 0, .null, .null, .int 0, .int 0, .int 0, .int 0, .int 0, .int 0, .int 0, .int 0, .int 0, .int 0, .int 0]) dfX9 (Nat.le_of_ble_eq_true rfl) (Nat.le_of_ble_eq_true rfl) dX3_copyTicket_14 (fun n1 H hn1 ln1 hP hS => ?_)
  have hP : va_P D vwCl (([(n1, .inr (8, [.int 0, .int 0, .int 0, .int 0, .int 0, .int 0, .null, .null, .int 0, .int 0, .int 0, .int 0, .int 0, .int 0, .int 0, .int 0, .int 0, .int 0, .int 0]))] ++ wH a (k 0) cs Z) ++ []) H := hP
  refine lv_dup hx hb dX3_copyTicket_17 rfl ?_
  refine c_wN2 (wf' := fun q9 => (wT (tri n1 (q9 0) (q9 1)) 0 tk0 ++ wH a (k 0) cs Z) ++ []) (rest := [.ref n1, .int (nI j), .ref (a 5)]) (lt_of hP (i := 0) rfl) (va_runIN S (As := []) (b := n1) (cC_X9_init l D cs n1 _) ⟨va_cnB (host := "PledgeHouse") 0 hts gX3_copyTicket_X9_init_n66 rfl rfl rfl (hK.2.2.1 _ (by decide +kernel)) (hts (.initialized RX9) (by decide +kernel)) (by decide +kernel) ⟨Nat.le_of_ble_eq_true rfl, Nat.le_of_ble_eq_true rfl⟩, rfl, hts (.instanceMethod yX9_init) (by decide +kernel)⟩ (preS_c hK (vaL (vaL hP))) rfl rfl hl.1 rfl (lv_room (Nat.le_of_ble_eq_true rfl)) dX3_copyTicket_18 ⟨Nat.le_of_ble_eq_true rfl, Nat.le_of_ble_eq_true rfl⟩) hS (fun q h => h.elim (fun z => Or.inr (by rw [show q = n1 from z]; exact hn1)) (fun z => Or.inr (Nat.le_trans hS.1 z))) (fun q9 H1 _ hk h => va_P.app (va_P.app h (keepP (vaR (vaL hP)) wH_p (fr1 hltH hn1) hk)) nilP) (fun q9 H locs hq9 lq9 iq9 hP hS => ?_)
  obtain ⟨b, hb0, hbn, ib, hPb⟩ : ∃ b : Nat → Nat, n1 = b 0 ∧ (∀ i, i < 3 → s.heap.size ≤ b i) ∧ iT b ∧ va_P D vwCl ((wT b 0 tk0 ++ wH a (k 0) cs Z) ++ []) H := ⟨tri n1 (q9 0) (q9 1), rfl, tri_ge hn1 (hq9 0 (by decide)) (hq9 1 (by decide)), tri_inj (Nat.ne_of_lt (lq9 0 (by decide))) (Nat.ne_of_lt (lq9 1 (by decide))) (fun z => absurd (iq9 0 1 (by decide) (by decide) z) (by decide)), hP⟩
  subst hb0
  have hP := hPb
  have hbg := pT_ge hbn
  have d : dTH b a := fr_dis hltH hbg
  refine hx_tst hx hb hK.1 hP (wTnH_D ib ia hbg hltH) hS (any_T hK (vaL (vaL hP))) j rfl hj dX3_copyTicket_21 (fun H locs hP hS => ?_)
  refine lv_aload_n hx hb dX3_copyTicket_22 rfl (lv_at hl 2 rfl) ?_
  refine lv_ifnull hx hb dX3_copyTicket_23 ?_
  refine lv_aload_n hx hb dX3_copyTicket_26 rfl (lv_at hl 0 rfl) ?_
  refine hx_get hx hb hts hX3 hown hK.1 hP 7 (by decide) (hts (.fieldLink RX3 38 "PledgeHouse$House" "tickets" "[LPledgeHouse$Ticket;") (by decide +kernel)) rfl (v := .ref (a 5)) rfl dX3_copyTicket_27 ?_
  refine lv_iload_n hx hb dX3_copyTicket_30 rfl (lv_at hl 1 rfl) ?_
  refine hx_tld hx hb hK.1 hP j rfl hj (v := .ref (b 0)) ((congrArg va_rf (show gt (gtp Z j (some (b 0))) j = some (b 0) from gt_gtp_eq)).trans rfl) dX3_copyTicket_31 ?_
  refine lv_aload_n hx hb dX3_copyTicket_32 rfl (lv_at hl 2 rfl) ?_
  refine c_w1 (WS' := (wT b nm2 v2 ++ wH a (k 0) cs (gtp Z j (some (b 0)))) ++ []) (rest := []) (va_runV S (As := [.ref (b2 0)]) (cC_X9_become l D cs b b2 0 nm2 tk0 v2 _ ib (fun x h1 h2 => absurd (hlt2 x h1) (Nat.not_lt.mpr (hbg x h2))) hz7) (cwV 1 hts gX3_copyTicket_X9_become rfl rfl rfl (by decide +kernel) ⟨Nat.le_of_ble_eq_true rfl, Nat.le_of_ble_eq_true rfl⟩) (preV_x hK (vaL (vaL hP)) (keepA hX0 wT_p d2H hS) (va_recv hK.1 (vaL (vaL hP)) (ci := 8) (q0 := 0) rfl rfl)) rfl rfl hl.1 rfl (lv_room (Nat.le_of_ble_eq_true rfl)) dX3_copyTicket_33 ⟨Nat.le_of_ble_eq_true rfl, Nat.le_of_ble_eq_true rfl⟩) hS (fun q h => h.elim (fun t => Or.inr (hbg q t)) (fun z => Or.inr (Nat.le_trans hS.1 z))) (fun H1 _ hk h => va_P.app (va_P.app h (keepP (vaR (vaL hP)) wH_p (fun q h1 h2 => d q h2 h1) hk)) nilP) (fun H locs hP hS => ?_)
  refine W.widen (k := 3) (n := 31) (Nat.le_of_ble_eq_true rfl) (Nat.le_of_ble_eq_true rfl) ?_
  exact W.vret hx hb hr (fun t2 ht2 hW => ⟨b, hbn, ib, rfl, by rw [ht2]; exact hP, hS.F ht2⟩) hS.2.2 dX3_copyTicket_36 hlocks
