/-! the house: what goes over all tickets (by cwalk.py) -/
set_option maxHeartbeats 4000000 in
set_option maxRecDepth 100000 in
theorem cC_X3_findOpen_o (l : Launch) (D : va_G) (cs : Nat → ClassId) (b : Nat → Nat) (nm : Int32) (v : Nat → Int32) (k : Nat → Nat) (a : Nat → Nat) (Z : hZ) (sz : Nat) (n : Int32) (hc : gh Z 1 ≤ 511) (hf : sc_X3_findTicket Z n = some (b 0)) (ho : ¬ sc_X9_isOpen nm v = 0) : Met l yX3_findOpen wsX3_findOpen ({ frames := 1, cells := 0, slots := 0, locals := 21 }) (cPc [.ref (a 0), .int n] D cs ((wT b nm v ++ wH a (k 0) cs Z) ++ []) sz) (k2_QcV (.ref (b 0))) 0 0 (fun _ => False) := by
  refine c_in (P := pOr (pT b) (pH a)) (cc := cX3_findOpen) (maxL := 3) (ret := (some (.object "PledgeHouse$Ticket"))) (lv := [(0, .ref (a 0)), (1, .int n)]) (by decide) rfl (Nat.le_of_ble_eq_true rfl) rfl ?_
  intro p e s m below meth c ls S hr hlocks hin hsz hP hK hl hS
  subst hsz
  obtain ⟨hx, hb, hml, hown, hts⟩ := id S
  refine lv_aload_n hx hb dX3_findOpen_0 rfl (lv_at hl 0 rfl) ?_
  refine lv_iload_n hx hb dX3_findOpen_1 rfl (lv_at hl 1 rfl) ?_
  refine c_rd S hK (show va_P D vwCl (([] ++ wH a (k 0) cs Z) ++ []) _ from vaR (vaL hP)) (va_recv hK.1 hP (ci := 3) (q0 := _ + 0) rfl (get3 rfl)) (As := [.int n]) (rest := []) (cC_X3_findTicket l D cs k a Z _  n hc) (cwV 1 hts gX3_findOpen_X3_findTicket rfl rfl rfl (by decide +kernel) ⟨Nat.le_of_ble_eq_true rfl, Nat.le_of_ble_eq_true rfl⟩) rfl hl.1 rfl (Nat.le_of_ble_eq_true rfl) dX3_findOpen_2 ⟨Nat.zero_le _, Nat.zero_le _⟩ ?_
  refine wtop ((congrArg va_rf (hf)).trans (show va_rf (some (b 0)) = .ref (b 0) from rfl)) ?_
  refine lv_astore_n (lv' := [(2, .ref (b 0)), (0, .ref (a 0)), (1, .int n)]) hx hb dX3_findOpen_5 rfl hl (by decide) rfl (fun ls hl => ?_)
  refine lv_aload_n hx hb dX3_findOpen_6 rfl (lv_at hl 0 rfl) ?_
  refine lv_ifnull hx hb dX3_findOpen_7 ?_
  refine lv_aload_n hx hb dX3_findOpen_10 rfl (lv_at hl 0 rfl) ?_
  refine c_rd S hK (show va_P D vwCl (wT b nm v) _ from vaL (vaL hP)) (va_recv hK.1 hP (ci := 8) (q0 := 0) rfl rfl) (As := []) (rest := []) (cC_X9_isOpen l D cs b nm v _   ) (cwV 0 hts gX3_findOpen_X9_isOpen rfl rfl rfl (by decide +kernel) ⟨Nat.le_of_ble_eq_true rfl, Nat.le_of_ble_eq_true rfl⟩) rfl hl.1 rfl (Nat.le_of_ble_eq_true rfl) dX3_findOpen_11 ⟨Nat.zero_le _, Nat.zero_le _⟩ ?_
  refine lv_if_eq (tgt := 21) hx hb dX3_findOpen_14 (by decide) (fun c_1 => ?_) (fun c_1 => ?_)
  · exact absurd c_1 ho
  · refine lv_aload_n hx hb dX3_findOpen_17 rfl (lv_at hl 0 rfl) ?_
    refine lv_goto (tgt := 22) hx hb dX3_findOpen_18 (by decide) ?_
    exact W.aret hx hb hr (Or.inl ⟨_, rfl⟩) (Or.inr ⟨_, rfl⟩) (fun t2 ht2 hW => ⟨rfl, ht2⟩) (fun q hq => by cases hq) dX3_findOpen_22 hlocks
set_option maxHeartbeats 4000000 in
set_option maxRecDepth 100000 in
theorem cC_X3_findOpen_c (l : Launch) (D : va_G) (cs : Nat → ClassId) (b : Nat → Nat) (nm : Int32) (v : Nat → Int32) (k : Nat → Nat) (a : Nat → Nat) (Z : hZ) (sz : Nat) (n : Int32) (hc : gh Z 1 ≤ 511) (hf : sc_X3_findTicket Z n = some (b 0)) (ho : sc_X9_isOpen nm v = 0) : Met l yX3_findOpen wsX3_findOpen ({ frames := 1, cells := 0, slots := 0, locals := 21 }) (cPc [.ref (a 0), .int n] D cs ((wT b nm v ++ wH a (k 0) cs Z) ++ []) sz) (k2_QcV (.null)) 0 0 (fun _ => False) := by
  refine c_in (P := pOr (pT b) (pH a)) (cc := cX3_findOpen) (maxL := 3) (ret := (some (.object "PledgeHouse$Ticket"))) (lv := [(0, .ref (a 0)), (1, .int n)]) (by decide) rfl (Nat.le_of_ble_eq_true rfl) rfl ?_
  intro p e s m below meth c ls S hr hlocks hin hsz hP hK hl hS
  subst hsz
  obtain ⟨hx, hb, hml, hown, hts⟩ := id S
  refine lv_aload_n hx hb dX3_findOpen_0 rfl (lv_at hl 0 rfl) ?_
  refine lv_iload_n hx hb dX3_findOpen_1 rfl (lv_at hl 1 rfl) ?_
  refine c_rd S hK (show va_P D vwCl (([] ++ wH a (k 0) cs Z) ++ []) _ from vaR (vaL hP)) (va_recv hK.1 hP (ci := 3) (q0 := _ + 0) rfl (get3 rfl)) (As := [.int n]) (rest := []) (cC_X3_findTicket l D cs k a Z _  n hc) (cwV 1 hts gX3_findOpen_X3_findTicket rfl rfl rfl (by decide +kernel) ⟨Nat.le_of_ble_eq_true rfl, Nat.le_of_ble_eq_true rfl⟩) rfl hl.1 rfl (Nat.le_of_ble_eq_true rfl) dX3_findOpen_2 ⟨Nat.zero_le _, Nat.zero_le _⟩ ?_
  refine wtop ((congrArg va_rf (hf)).trans (show va_rf (some (b 0)) = .ref (b 0) from rfl)) ?_
  refine lv_astore_n (lv' := [(2, .ref (b 0)), (0, .ref (a 0)), (1, .int n)]) hx hb dX3_findOpen_5 rfl hl (by decide) rfl (fun ls hl => ?_)
  refine lv_aload_n hx hb dX3_findOpen_6 rfl (lv_at hl 0 rfl) ?_
  refine lv_ifnull hx hb dX3_findOpen_7 ?_
  refine lv_aload_n hx hb dX3_findOpen_10 rfl (lv_at hl 0 rfl) ?_
  refine c_rd S hK (show va_P D vwCl (wT b nm v) _ from vaL (vaL hP)) (va_recv hK.1 hP (ci := 8) (q0 := 0) rfl rfl) (As := []) (rest := []) (cC_X9_isOpen l D cs b nm v _   ) (cwV 0 hts gX3_findOpen_X9_isOpen rfl rfl rfl (by decide +kernel) ⟨Nat.le_of_ble_eq_true rfl, Nat.le_of_ble_eq_true rfl⟩) rfl hl.1 rfl (Nat.le_of_ble_eq_true rfl) dX3_findOpen_11 ⟨Nat.zero_le _, Nat.zero_le _⟩ ?_
  refine lv_if_eq (tgt := 21) hx hb dX3_findOpen_14 (by decide) (fun c_1 => ?_) (fun c_1 => ?_)
  · refine lv_null hx hb dX3_findOpen_21 ?_
    exact W.aret hx hb hr (Or.inl ⟨_, rfl⟩) (Or.inl rfl) (fun t2 ht2 hW => ⟨rfl, ht2⟩) (fun q hq => by cases hq) dX3_findOpen_22 hlocks
  · exact absurd ho c_1
def sc_X3_isOnItsPlace (nm : Int32) (v : Nat → Int32) (Z : hZ) : Int32 :=
  if (sc_X3_isPlace (v 15)) = 0 then
    0
  else
    if (gp Z (tN (v 15))) = none then
      0
    else
      if (go Z (tN (v 15))) = nm then
        1
      else
        0
set_option maxHeartbeats 4000000 in
set_option maxRecDepth 100000 in
theorem cC_X3_isOnItsPlace (l : Launch) (D : va_G) (cs : Nat → ClassId) (b : Nat → Nat) (nm : Int32) (v : Nat → Int32) (k : Nat → Nat) (a : Nat → Nat) (Z : hZ) (sz : Nat) : Met l yX3_isOnItsPlace wsX3_isOnItsPlace ({ frames := 1, cells := 0, slots := 0, locals := 20 }) (cPc [.ref (a 0), .ref (b 0)] D cs ((wT b nm v ++ wH a (k 0) cs Z) ++ []) sz) (k2_QcV (.int (sc_X3_isOnItsPlace nm v Z))) 0 0 (fun _ => False) := by
  refine c_in (P := pOr (pT b) (pH a)) (cc := cX3_isOnItsPlace) (maxL := 2) (ret := (some .boolean)) (lv := [(0, .ref (a 0)), (1, .ref (b 0))]) (by decide) rfl (Nat.le_of_ble_eq_true rfl) rfl ?_
  intro p e s m below meth c ls S hr hlocks hin hsz hP hK hl hS
  subst hsz
  obtain ⟨hx, hb, hml, hown, hts⟩ := id S
  have hX3 : ∀ w ∈ wsX30, w ∈ wsX3_isOnItsPlace := by decide +kernel
  have hX9 : ∀ w ∈ wsX90, w ∈ wsX3_isOnItsPlace := by decide +kernel
  refine lv_aload_n hx hb dX3_isOnItsPlace_0 rfl (lv_at hl 1 rfl) ?_
  refine va_get (D := D) (ci := 8) (v := .int (v 15)) (C := RX9) (T := TX9) (N := 19) hx hb hts hX9 hown hK.1 hP 0 rfl rfl 1 (by decide) (hts (.fieldLink RX3 212 "PledgeHouse$Ticket" "place" "I") (by decide +kernel)) (fun _ h9 => h9) rfl dX3_isOnItsPlace_1 ?_
  refine m_st S (As := [.int (v 15)]) (rest := []) (cC_X3_isPlace l (v 15)) (cwS 1 hts gX3_isOnItsPlace_X3_isPlace rfl rfl rfl (by decide +kernel) ⟨Nat.le_of_ble_eq_true rfl, Nat.le_of_ble_eq_true rfl⟩) rfl hl.1 rfl (Nat.le_of_ble_eq_true rfl) dX3_isOnItsPlace_4 ⟨Nat.zero_le _, Nat.zero_le _⟩ ?_
  refine lv_if_eq (tgt := 42) hx hb dX3_isOnItsPlace_7 (by decide) (fun c_1 => ?_) (fun c_1 => ?_)
  · refine lv_iconst (v := 0) hx hb dX3_isOnItsPlace_42 (by decide) ?_
    have hsp : sc_X3_isOnItsPlace nm v Z = 0 := by unfold sc_X3_isOnItsPlace; rw [if_pos c_1]
    exact W.zret hx hb hr (by decide) (fun t2 ht2 hW => ⟨by rw [hsp], ht2⟩) (fun q hq => by cases hq) dX3_isOnItsPlace_43 hlocks
  · refine lv_aload_n hx hb dX3_isOnItsPlace_10 rfl (lv_at hl 0 rfl) ?_
    refine hx_get hx hb hts hX3 hown hK.1 hP 4 (by decide) (hts (.fieldLink RX3 25 "PledgeHouse$House" "pledges" "[LPledgeHouse$Pledge;") (by decide +kernel)) rfl (v := .ref (a 2)) rfl dX3_isOnItsPlace_11 ?_
    refine lv_aload_n hx hb dX3_isOnItsPlace_14 rfl (lv_at hl 1 rfl) ?_
    refine va_get (D := D) (ci := 8) (v := .int (v 15)) (C := RX9) (T := TX9) (N := 19) hx hb hts hX9 hown hK.1 hP 0 rfl rfl 1 (by decide) (hts (.fieldLink RX3 212 "PledgeHouse$Ticket" "place" "I") (by decide +kernel)) (fun _ h9 => h9) rfl dX3_isOnItsPlace_15 ?_
    refine hx_pld hx hb hK.1 hP (tN (v 15)) (pl_of c_1).1 (pl_of c_1).2 (v := va_rf (gp Z (tN (v 15)))) (rfl) dX3_isOnItsPlace_18 ?_
    refine lv_ifnullO (tgt := 42) hx hb dX3_isOnItsPlace_19 (by decide) (fun c_2 => ?_) (fun c_2 => ?_)
    · refine lv_iconst (v := 0) hx hb dX3_isOnItsPlace_42 (by decide) ?_
      have hsp : sc_X3_isOnItsPlace nm v Z = 0 := by unfold sc_X3_isOnItsPlace; rw [if_neg c_1, if_pos c_2]
      exact W.zret hx hb hr (by decide) (fun t2 ht2 hW => ⟨by rw [hsp], ht2⟩) (fun q hq => by cases hq) dX3_isOnItsPlace_43 hlocks
    · refine lv_aload_n hx hb dX3_isOnItsPlace_22 rfl (lv_at hl 0 rfl) ?_
      refine hx_get hx hb hts hX3 hown hK.1 hP 6 (by decide) (hts (.fieldLink RX3 33 "PledgeHouse$House" "ticketOn" "[I") (by decide +kernel)) rfl (v := .ref (a 4)) rfl dX3_isOnItsPlace_23 ?_
      refine lv_aload_n hx hb dX3_isOnItsPlace_26 rfl (lv_at hl 1 rfl) ?_
      refine va_get (D := D) (ci := 8) (v := .int (v 15)) (C := RX9) (T := TX9) (N := 19) hx hb hts hX9 hown hK.1 hP 0 rfl rfl 1 (by decide) (hts (.fieldLink RX3 212 "PledgeHouse$Ticket" "place" "I") (by decide +kernel)) (fun _ h9 => h9) rfl dX3_isOnItsPlace_27 ?_
      refine hx_old hx hb hK.1 hP (tN (v 15)) (pl_of c_1).1 (pl_of c_1).2 (v := go Z (tN (v 15))) rfl dX3_isOnItsPlace_30 ?_
      refine lv_aload_n hx hb dX3_isOnItsPlace_31 rfl (lv_at hl 1 rfl) ?_
      refine va_get (D := D) (ci := 8) (v := .int nm) (C := RX9) (T := TX9) (N := 19) hx hb hts hX9 hown hK.1 hP 0 rfl rfl 0 (by decide) (hts (.fieldLink RX3 215 "PledgeHouse$Ticket" "number" "I") (by decide +kernel)) (fun _ h9 => h9) rfl dX3_isOnItsPlace_32 ?_
      refine lv_icmp_ne (tgt := 42) hx hb dX3_isOnItsPlace_35 (by decide) (fun c_3 => ?_) (fun c_3 => ?_)
      · refine lv_iconst (v := 0) hx hb dX3_isOnItsPlace_42 (by decide) ?_
        have hsp : sc_X3_isOnItsPlace nm v Z = 0 := by unfold sc_X3_isOnItsPlace; rw [if_neg c_1, if_neg c_2, if_neg c_3]
        exact W.zret hx hb hr (by decide) (fun t2 ht2 hW => ⟨by rw [hsp], ht2⟩) (fun q hq => by cases hq) dX3_isOnItsPlace_43 hlocks
      · refine lv_iconst (v := 1) hx hb dX3_isOnItsPlace_38 (by decide) ?_
        refine lv_goto (tgt := 43) hx hb dX3_isOnItsPlace_39 (by decide) ?_
        have hsp : sc_X3_isOnItsPlace nm v Z = 1 := by unfold sc_X3_isOnItsPlace; rw [if_neg c_1, if_neg c_2, if_pos c_3]
        exact W.zret hx hb hr (by decide) (fun t2 ht2 hW => ⟨by rw [hsp], ht2⟩) (fun q hq => by cases hq) dX3_isOnItsPlace_43 hlocks
def sc_X3_latestHalf (nm : Int32) (v : Nat → Int32) (Z : hZ) : Int32 :=
  v 17
set_option maxHeartbeats 4000000 in
set_option maxRecDepth 100000 in
theorem cC_X3_latestHalf (l : Launch) (D : va_G) (cs : Nat → ClassId) (b : Nat → Nat) (nm : Int32) (v : Nat → Int32) (k : Nat → Nat) (a : Nat → Nat) (Z : hZ) (sz : Nat) (hc : gh Z 1 ≤ 511) (hf : sc_X3_findTicket Z (gh Z 1) = some (b 0)) : Met l yX3_latestHalf wsX3_latestHalf ({ frames := 1, cells := 0, slots := 0, locals := 21 }) (cPc [.ref (a 0)] D cs ((wT b nm v ++ wH a (k 0) cs Z) ++ []) sz) (k2_QcV (.int (sc_X3_latestHalf nm v Z))) 0 0 (fun _ => False) := by
  refine c_in (P := pOr (pT b) (pH a)) (cc := cX3_latestHalf) (maxL := 2) (ret := (some .int)) (lv := [(0, .ref (a 0))]) (by decide) rfl (Nat.le_of_ble_eq_true rfl) rfl ?_
  intro p e s m below meth c ls S hr hlocks hin hsz hP hK hl hS
  subst hsz
  obtain ⟨hx, hb, hml, hown, hts⟩ := id S
  have hX3 : ∀ w ∈ wsX30, w ∈ wsX3_latestHalf := by decide +kernel
  have hX9 : ∀ w ∈ wsX90, w ∈ wsX3_latestHalf := by decide +kernel
  refine lv_aload_n hx hb dX3_latestHalf_0 rfl (lv_at hl 0 rfl) ?_
  refine lv_aload_n hx hb dX3_latestHalf_1 rfl (lv_at hl 0 rfl) ?_
  refine hx_get hx hb hts hX3 hown hK.1 hP 8 (by decide) (hts (.fieldLink RX3 59 "PledgeHouse$House" "ticketCount" "I") (by decide +kernel)) rfl (v := .int (gh Z 1)) rfl dX3_latestHalf_2 ?_
  refine c_rd S hK (show va_P D vwCl (([] ++ wH a (k 0) cs Z) ++ []) _ from vaR (vaL hP)) (va_recv hK.1 hP (ci := 3) (q0 := _ + 0) rfl (get3 rfl)) (As := [.int (gh Z 1)]) (rest := []) (cC_X3_findTicket l D cs k a Z _  (gh Z 1) hc) (cwV 1 hts gX3_latestHalf_X3_findTicket rfl rfl rfl (by decide +kernel) ⟨Nat.le_of_ble_eq_true rfl, Nat.le_of_ble_eq_true rfl⟩) rfl hl.1 rfl (Nat.le_of_ble_eq_true rfl) dX3_latestHalf_5 ⟨Nat.zero_le _, Nat.zero_le _⟩ ?_
  refine wtop ((congrArg va_rf (hf)).trans (show va_rf (some (b 0)) = .ref (b 0) from rfl)) ?_
  refine lv_astore_n (lv' := [(1, .ref (b 0)), (0, .ref (a 0))]) hx hb dX3_latestHalf_8 rfl hl (by decide) rfl (fun ls hl => ?_)
  refine lv_aload_n hx hb dX3_latestHalf_9 rfl (lv_at hl 0 rfl) ?_
  refine lv_ifnonnull (tgt := 17) hx hb dX3_latestHalf_10 (by decide) ?_
  refine lv_aload_n hx hb dX3_latestHalf_17 rfl (lv_at hl 0 rfl) ?_
  refine va_get (D := D) (ci := 8) (v := .int (v 17)) (C := RX9) (T := TX9) (N := 19) hx hb hts hX9 hown hK.1 hP 0 rfl rfl 9 (by decide) (hts (.fieldLink RX3 224 "PledgeHouse$Ticket" "holderHalf" "I") (by decide +kernel)) (fun _ h9 => h9) rfl dX3_latestHalf_18 ?_
  have hsp : sc_X3_latestHalf nm v Z = v 17 := rfl
  exact W.iret hx hb hr (fun t2 ht2 hW => ⟨by rw [hsp], ht2⟩) (fun q hq => by cases hq) dX3_latestHalf_21 hlocks
def sc_X3_latestHalf_n (Z : hZ) : Int32 :=
  0
set_option maxHeartbeats 4000000 in
set_option maxRecDepth 100000 in
theorem cC_X3_latestHalf_n (l : Launch) (D : va_G) (cs : Nat → ClassId) (k : Nat → Nat) (a : Nat → Nat) (Z : hZ) (sz : Nat) (hc : gh Z 1 ≤ 511) (hf : sc_X3_findTicket Z (gh Z 1) = none) : Met l yX3_latestHalf wsX3_latestHalf ({ frames := 1, cells := 0, slots := 0, locals := 21 }) (cPc [.ref (a 0)] D cs (([] ++ wH a (k 0) cs Z) ++ []) sz) (k2_QcV (.int (sc_X3_latestHalf_n Z))) 0 0 (fun _ => False) := by
  refine c_in (P := pH a) (cc := cX3_latestHalf) (maxL := 2) (ret := (some .int)) (lv := [(0, .ref (a 0))]) (by decide) rfl (Nat.le_of_ble_eq_true rfl) rfl ?_
  intro p e s m below meth c ls S hr hlocks hin hsz hP hK hl hS
  subst hsz
  obtain ⟨hx, hb, hml, hown, hts⟩ := id S
  have hX3 : ∀ w ∈ wsX30, w ∈ wsX3_latestHalf := by decide +kernel
  refine lv_aload_n hx hb dX3_latestHalf_0 rfl (lv_at hl 0 rfl) ?_
  refine lv_aload_n hx hb dX3_latestHalf_1 rfl (lv_at hl 0 rfl) ?_
  refine hx_get hx hb hts hX3 hown hK.1 hP 8 (by decide) (hts (.fieldLink RX3 59 "PledgeHouse$House" "ticketCount" "I") (by decide +kernel)) rfl (v := .int (gh Z 1)) rfl dX3_latestHalf_2 ?_
  refine c_rd S hK (hP) (va_recv hK.1 hP (ci := 3) (q0 := _ + 0) rfl (get3 rfl)) (As := [.int (gh Z 1)]) (rest := []) (cC_X3_findTicket l D cs k a Z _  (gh Z 1) hc) (cwV 1 hts gX3_latestHalf_X3_findTicket rfl rfl rfl (by decide +kernel) ⟨Nat.le_of_ble_eq_true rfl, Nat.le_of_ble_eq_true rfl⟩) rfl hl.1 rfl (Nat.le_of_ble_eq_true rfl) dX3_latestHalf_5 ⟨Nat.zero_le _, Nat.zero_le _⟩ ?_
  refine wtop ((congrArg va_rf (hf)).trans (show va_rf (none) = .null from rfl)) ?_
  refine lv_astore_nN (lv' := [(1, .null), (0, .ref (a 0))]) hx hb dX3_latestHalf_8 rfl hl (by decide) rfl (fun ls hl => ?_)
  refine lv_aload_nN hx hb dX3_latestHalf_9 rfl (lv_at hl 0 rfl) ?_
  refine lv_ifnonnullN hx hb dX3_latestHalf_10 ?_
  refine lv_iconst (v := 0) hx hb dX3_latestHalf_13 (by decide) ?_
  refine lv_goto (tgt := 21) hx hb dX3_latestHalf_14 (by decide) ?_
  have hsp : sc_X3_latestHalf_n Z = 0 := rfl
  exact W.iret hx hb hr (fun t2 ht2 hW => ⟨by rw [hsp], ht2⟩) (fun q hq => by cases hq) dX3_latestHalf_21 hlocks
/-- the overs of the first tickets -/
def ovN (vs : Nat → Nat → Int32) (day kept : Int32) : Nat → Int64
  | 0 => 0
  | i + 1 => if kept = 0 then (if sc_X9_isHousesOver (nI (i + 1)) (vs i) day = 0 then ovN vs day kept i else ovN vs day kept i + (vs i 12).toInt64) else (if sc_X9_isKeptOver (nI (i + 1)) (vs i) day = 0 then ovN vs day kept i else ovN vs day kept i + (vs i 12).toInt64)
/-- the principals of the first open tickets, from a start on -/
def prN (vs : Nat → Nat → Int32) (x : Int64) : Nat → Int64
  | 0 => x
  | i + 1 => if sc_X9_isOpen (nI (i + 1)) (vs i) = 0 then prN vs x i else prN vs x i + (vs i 1).toInt64
/-- how many of the first open tickets are on a place -/
def opN (vs : Nat → Nat → Int32) (place : Int32) : Nat → Int32
  | 0 => 0
  | i + 1 => if sc_X9_isOpen (nI (i + 1)) (vs i) = 0 then opN vs place i else if vs i 15 = place then opN vs place i + 1 else opN vs place i
def sc_X3_oversOn (Z : hZ) (vs : Nat → Nat → Int32) (cn : Nat) (day kept : Int32) : Int64 := ovN vs day kept cn
def sc_X3_countOpenOn (Z : hZ) (vs : Nat → Nat → Int32) (cn : Nat) (place : Int32) : Int32 := opN vs place cn
-- above
set_option maxHeartbeats 4000000 in
set_option maxRecDepth 100000 in
theorem cC_X3_oversOn (l : Launch) (D : va_G) (cs : Nat → ClassId) (k : Nat → Nat) (a : Nat → Nat) (Z : hZ) (bs : Nat → Nat → Nat) (vs : Nat → Nat → Int32) (sz : Nat) (cn : Nat) (day : Int32) (kept : Int32) (hcn : gh Z 1 = nI cn) (hc : cn ≤ 511) (hgt : ∀ i, i < cn → gt Z i = some (bs i 0)) : Met l yX3_oversOn wsX3_oversOn ({ frames := 2, cells := 0, slots := 0, locals := 42 }) (cPcF [.ref (a 0), .int day, .int kept] D cs (([] ++ wH a (k 0) cs Z) ++ []) (tks D bs vs cn) sz) (k2_QcV (.long (sc_X3_oversOn Z vs cn day kept))) 0 0 (fun _ => False) := by
  refine c_inF (P := pH a) (cc := cX3_oversOn) (maxL := 7) (ret := (some .long)) (lv := [(0, .ref (a 0)), (1, .int day), (2, .int kept)]) (by decide) rfl (Nat.le_of_ble_eq_true rfl) rfl ?_
  intro p e s m below meth c ls S hr hlocks hin hsz hP hK hF hl hS
  subst hsz
  obtain ⟨hx, hb, hml, hown, hts⟩ := id S
  have hX3 : ∀ w ∈ wsX30, w ∈ wsX3_oversOn := by decide +kernel
  have hX9 : ∀ w ∈ wsX90, w ∈ wsX3_oversOn := by decide +kernel
  have loop : ∀ (n i : Nat) (ls : Array Slot), i + n = cn → lv_has ls 7 [(0, .ref (a 0)), (1, .int day), (2, .int kept), (3, .long (ovN vs day kept i)), (5, .int (nI (i + 1)))] → W p l e ({ frames := 2, cells := 0, slots := 0, locals := 42 }) s m [.ref (a 0), .int day, .int kept].toArray below meth c s.heap [] 0 0 (MQ below (k2_QcV (.long (sc_X3_oversOn Z vs cn day kept))) [.ref (a 0), .int day, .int kept].toArray s 0 0 (fun _ => False)) (F0 m 5 ls []) := by
    intro n
    induction n with
    | zero =>
      intro i ls hn hl
      obtain rfl : cn = i := by omega
      refine lv_iload hx hb dX3_oversOn_5 (lv_at hl 4 rfl) ?_
      refine lv_aload_n hx hb dX3_oversOn_7 rfl (lv_at hl 0 rfl) ?_
      refine hx_get hx hb hts hX3 hown hK.1 hP 8 (by decide) (hts (.fieldLink RX3 59 "PledgeHouse$House" "ticketCount" "I") (by decide +kernel)) rfl (v := .int (gh Z 1)) rfl dX3_oversOn_8 ?_
      refine lv_icmp_gt (tgt := 67) hx hb dX3_oversOn_11 (by decide) (fun c_1 => ?_) (fun c_1 => ?_)
      · refine lv_lload_n hx hb dX3_oversOn_67 rfl (lv_at hl 3 rfl) ?_
        have hsp : sc_X3_oversOn Z vs cn day kept = ovN vs day kept cn := rfl
        exact W.lret hx hb hr (fun t2 ht2 hW => ⟨by rw [hsp], ht2⟩) (fun q hq => by cases hq) dX3_oversOn_68 hlocks
      · exact absurd (by rw [hcn]; exact (nI_ltI (a := cn) (b := cn + 1) (by omega) (by omega)).mpr (Nat.lt_succ_self _)) c_1
    | succ n ih =>
      intro i ls hn hl
      refine lv_iload hx hb dX3_oversOn_5 (lv_at hl 4 rfl) ?_
      refine lv_aload_n hx hb dX3_oversOn_7 rfl (lv_at hl 0 rfl) ?_
      refine hx_get hx hb hts hX3 hown hK.1 hP 8 (by decide) (hts (.fieldLink RX3 59 "PledgeHouse$House" "ticketCount" "I") (by decide +kernel)) rfl (v := .int (gh Z 1)) rfl dX3_oversOn_8 ?_
      refine lv_icmp_gt (tgt := 67) hx hb dX3_oversOn_11 (by decide) (fun c_2 => ?_) (fun c_2 => ?_)
      · exact absurd ((nI_ltI (a := cn) (b := i + 1) (by omega) (by omega)).mp (hcn ▸ c_2)) (by omega)
      · refine lv_aload_n hx hb dX3_oversOn_14 rfl (lv_at hl 0 rfl) ?_
        refine lv_iload hx hb dX3_oversOn_15 (lv_at hl 4 rfl) ?_
        refine c_rd S hK (hP) (va_recv hK.1 hP (ci := 3) (q0 := _ + 0) rfl (get3 rfl)) (As := [.int (nI (i + 1))]) (rest := []) (cC_X3_findTicket l D cs k a Z _  (nI (i + 1)) (cn_le hcn hc)) (cwV 1 hts gX3_oversOn_X3_findTicket rfl rfl rfl (by decide +kernel) ⟨Nat.le_of_ble_eq_true rfl, Nat.le_of_ble_eq_true rfl⟩) rfl hl.1 rfl (Nat.le_of_ble_eq_true rfl) dX3_oversOn_17 ⟨Nat.zero_le _, Nat.zero_le _⟩ ?_
        refine wtop ((congrArg va_rf (ft_some hcn hc hgt (by omega))).trans (show va_rf (some (bs i 0)) = .ref (bs i 0) from rfl)) ?_
        refine lv_astore (lv' := [(6, .ref (bs i 0)), (0, .ref (a 0)), (1, .int day), (2, .int kept), (3, .long (ovN vs day kept i)), (5, .int (nI (i + 1)))]) hx hb dX3_oversOn_20 hl (by decide) rfl (fun ls hl => ?_)
        refine lv_aload hx hb dX3_oversOn_22 (lv_at hl 0 rfl) ?_
        refine lv_ifnull hx hb dX3_oversOn_24 ?_
        refine lv_iload_n hx hb dX3_oversOn_27 rfl (lv_at hl 3 rfl) ?_
        refine lv_if_eq (tgt := 43) hx hb dX3_oversOn_28 (by decide) (fun c_3 => ?_) (fun c_3 => ?_)
        · refine lv_aload hx hb dX3_oversOn_43 (lv_at hl 0 rfl) ?_
          refine lv_iload_n hx hb dX3_oversOn_45 rfl (lv_at hl 2 rfl) ?_
          refine c_rd S hK (hF i (by omega)) (va_recv hK.1 (hF i (by omega)) (ci := 8) (q0 := 0) rfl rfl) (As := [.int day]) (rest := []) (cC_X9_isHousesOver l D cs (bs i) (nI (i + 1)) (vs i) _ day) (cwV 1 hts gX3_oversOn_X9_isHousesOver rfl rfl rfl (by decide +kernel) ⟨Nat.le_of_ble_eq_true rfl, Nat.le_of_ble_eq_true rfl⟩) rfl hl.1 rfl (Nat.le_of_ble_eq_true rfl) dX3_oversOn_46 ⟨Nat.zero_le _, Nat.zero_le _⟩ ?_
          refine lv_if_eq (tgt := 61) hx hb dX3_oversOn_49 (by decide) (fun c_4 => ?_) (fun c_4 => ?_)
          · refine lv_iinc (v := (nI (i + 1)) + 1) (lv' := [(5, .int ((nI (i + 1)) + 1)), (6, .ref (bs i 0)), (0, .ref (a 0)), (1, .int day), (2, .int kept), (3, .long (ovN vs day kept i))]) hx hb dX3_oversOn_61 hl (k := 5) rfl rfl (by decide) rfl (fun ls hl => ?_)
            refine lv_goto (tgt := 5) hx hb dX3_oversOn_64 (by decide) ?_
            rw [show nI (i + 1) + 1 = nI (i + 1 + 1) from nI_1 _] at hl
            have e2 : ovN vs day kept (i + 1) = ovN vs day kept i := by rw [ovN, if_pos c_3, if_pos c_4]
            exact ih (i + 1) ls (by omega) (by rw [e2]; exact lv_sub hl [2, 3, 4, 5, 0] rfl)
          · refine lv_lload_n hx hb dX3_oversOn_52 rfl (lv_at hl 4 rfl) ?_
            refine lv_aload hx hb dX3_oversOn_53 (lv_at hl 0 rfl) ?_
            refine va_get (D := D) (ci := 8) (v := .int (vs i 12)) (C := RX9) (T := TX9) (N := 19) hx hb hts hX9 hown hK.1 (hF i (by omega)) 0 rfl rfl 15 (by decide) (hts (.fieldLink RX3 334 "PledgeHouse$Ticket" "over" "I") (by decide +kernel)) (fun _ h9 => h9) rfl dX3_oversOn_55 ?_
            refine lv_i2l (v := (vs i 12).toInt64) hx hb dX3_oversOn_58 rfl ?_
            refine lv_ladd hx hb dX3_oversOn_59 ?_
            refine lv_lstore_n (lv' := [(3, .long ((ovN vs day kept i) + ((vs i 12).toInt64))), (6, .ref (bs i 0)), (0, .ref (a 0)), (1, .int day), (2, .int kept), (5, .int (nI (i + 1)))]) hx hb dX3_oversOn_60 rfl hl (by decide) rfl (fun ls hl => ?_)
            refine lv_iinc (v := (nI (i + 1)) + 1) (lv' := [(5, .int ((nI (i + 1)) + 1)), (3, .long ((ovN vs day kept i) + ((vs i 12).toInt64))), (6, .ref (bs i 0)), (0, .ref (a 0)), (1, .int day), (2, .int kept)]) hx hb dX3_oversOn_61 hl (k := 5) rfl rfl (by decide) rfl (fun ls hl => ?_)
            refine lv_goto (tgt := 5) hx hb dX3_oversOn_64 (by decide) ?_
            rw [show nI (i + 1) + 1 = nI (i + 1 + 1) from nI_1 _] at hl
            have e2 : ovN vs day kept (i + 1) = (ovN vs day kept i) + ((vs i 12).toInt64) := by rw [ovN, if_pos c_3, if_neg c_4]
            exact ih (i + 1) ls (by omega) (by rw [e2]; exact lv_sub hl [3, 4, 5, 1, 0] rfl)
        · refine lv_aload hx hb dX3_oversOn_31 (lv_at hl 0 rfl) ?_
          refine lv_iload_n hx hb dX3_oversOn_33 rfl (lv_at hl 2 rfl) ?_
          refine c_rd S hK (hF i (by omega)) (va_recv hK.1 (hF i (by omega)) (ci := 8) (q0 := 0) rfl rfl) (As := [.int day]) (rest := []) (cC_X9_isKeptOver l D cs (bs i) (nI (i + 1)) (vs i) _ day) (cwV 1 hts gX3_oversOn_X9_isKeptOver rfl rfl rfl (by decide +kernel) ⟨Nat.le_of_ble_eq_true rfl, Nat.le_of_ble_eq_true rfl⟩) rfl hl.1 rfl (Nat.le_of_ble_eq_true rfl) dX3_oversOn_34 ⟨Nat.zero_le _, Nat.zero_le _⟩ ?_
          refine lv_if_eq (tgt := 61) hx hb dX3_oversOn_37 (by decide) (fun c_5 => ?_) (fun c_5 => ?_)
          · refine lv_iinc (v := (nI (i + 1)) + 1) (lv' := [(5, .int ((nI (i + 1)) + 1)), (6, .ref (bs i 0)), (0, .ref (a 0)), (1, .int day), (2, .int kept), (3, .long (ovN vs day kept i))]) hx hb dX3_oversOn_61 hl (k := 5) rfl rfl (by decide) rfl (fun ls hl => ?_)
            refine lv_goto (tgt := 5) hx hb dX3_oversOn_64 (by decide) ?_
            rw [show nI (i + 1) + 1 = nI (i + 1 + 1) from nI_1 _] at hl
            have e2 : ovN vs day kept (i + 1) = ovN vs day kept i := by rw [ovN, if_neg c_3, if_pos c_5]
            exact ih (i + 1) ls (by omega) (by rw [e2]; exact lv_sub hl [2, 3, 4, 5, 0] rfl)
          · refine lv_goto (tgt := 52) hx hb dX3_oversOn_40 (by decide) ?_
            refine lv_lload_n hx hb dX3_oversOn_52 rfl (lv_at hl 4 rfl) ?_
            refine lv_aload hx hb dX3_oversOn_53 (lv_at hl 0 rfl) ?_
            refine va_get (D := D) (ci := 8) (v := .int (vs i 12)) (C := RX9) (T := TX9) (N := 19) hx hb hts hX9 hown hK.1 (hF i (by omega)) 0 rfl rfl 15 (by decide) (hts (.fieldLink RX3 334 "PledgeHouse$Ticket" "over" "I") (by decide +kernel)) (fun _ h9 => h9) rfl dX3_oversOn_55 ?_
            refine lv_i2l (v := (vs i 12).toInt64) hx hb dX3_oversOn_58 rfl ?_
            refine lv_ladd hx hb dX3_oversOn_59 ?_
            refine lv_lstore_n (lv' := [(3, .long ((ovN vs day kept i) + ((vs i 12).toInt64))), (6, .ref (bs i 0)), (0, .ref (a 0)), (1, .int day), (2, .int kept), (5, .int (nI (i + 1)))]) hx hb dX3_oversOn_60 rfl hl (by decide) rfl (fun ls hl => ?_)
            refine lv_iinc (v := (nI (i + 1)) + 1) (lv' := [(5, .int ((nI (i + 1)) + 1)), (3, .long ((ovN vs day kept i) + ((vs i 12).toInt64))), (6, .ref (bs i 0)), (0, .ref (a 0)), (1, .int day), (2, .int kept)]) hx hb dX3_oversOn_61 hl (k := 5) rfl rfl (by decide) rfl (fun ls hl => ?_)
            refine lv_goto (tgt := 5) hx hb dX3_oversOn_64 (by decide) ?_
            rw [show nI (i + 1) + 1 = nI (i + 1 + 1) from nI_1 _] at hl
            have e2 : ovN vs day kept (i + 1) = (ovN vs day kept i) + ((vs i 12).toInt64) := by rw [ovN, if_neg c_3, if_neg c_5]
            exact ih (i + 1) ls (by omega) (by rw [e2]; exact lv_sub hl [3, 4, 5, 1, 0] rfl)
  refine lv_lconst (v := 0) hx hb dX3_oversOn_0 (by decide) ?_
  refine lv_lstore_n (lv' := [(3, .long 0), (0, .ref (a 0)), (1, .int day), (2, .int kept)]) hx hb dX3_oversOn_1 rfl hl (by decide) rfl (fun ls hl => ?_)
  refine lv_iconst (v := 1) hx hb dX3_oversOn_2 (by decide) ?_
  refine lv_istore (lv' := [(5, .int 1), (3, .long 0), (0, .ref (a 0)), (1, .int day), (2, .int kept)]) hx hb dX3_oversOn_3 hl (by decide) rfl (fun ls hl => ?_)
  exact loop cn 0 ls (by omega) (lv_sub hl [2, 3, 4, 1, 0] rfl)
-- above
set_option maxHeartbeats 4000000 in
set_option maxRecDepth 100000 in
theorem cC_X3_countOpenOn (l : Launch) (D : va_G) (cs : Nat → ClassId) (k : Nat → Nat) (a : Nat → Nat) (Z : hZ) (bs : Nat → Nat → Nat) (vs : Nat → Nat → Int32) (sz : Nat) (cn : Nat) (place : Int32) (hcn : gh Z 1 = nI cn) (hc : cn ≤ 511) (hgt : ∀ i, i < cn → gt Z i = some (bs i 0)) : Met l yX3_countOpenOn wsX3_countOpenOn ({ frames := 2, cells := 0, slots := 0, locals := 43 }) (cPcF [.ref (a 0), .int place] D cs (([] ++ wH a (k 0) cs Z) ++ []) (tks D bs vs cn) sz) (k2_QcV (.int (sc_X3_countOpenOn Z vs cn place))) 0 0 (fun _ => False) := by
  refine c_inF (P := pH a) (cc := cX3_countOpenOn) (maxL := 5) (ret := (some .int)) (lv := [(0, .ref (a 0)), (1, .int place)]) (by decide) rfl (Nat.le_of_ble_eq_true rfl) rfl ?_
  intro p e s m below meth c ls S hr hlocks hin hsz hP hK hF hl hS
  subst hsz
  obtain ⟨hx, hb, hml, hown, hts⟩ := id S
  have hX3 : ∀ w ∈ wsX30, w ∈ wsX3_countOpenOn := by decide +kernel
  have hX9 : ∀ w ∈ wsX90, w ∈ wsX3_countOpenOn := by decide +kernel
  have loop : ∀ (n i : Nat) (ls : Array Slot), i + n = cn → lv_has ls 5 [(0, .ref (a 0)), (1, .int place), (2, .int (opN vs place i)), (3, .int (nI (i + 1)))] → W p l e ({ frames := 2, cells := 0, slots := 0, locals := 43 }) s m [.ref (a 0), .int place].toArray below meth c s.heap [] 0 0 (MQ below (k2_QcV (.int (sc_X3_countOpenOn Z vs cn place))) [.ref (a 0), .int place].toArray s 0 0 (fun _ => False)) (F0 m 4 ls []) := by
    intro n
    induction n with
    | zero =>
      intro i ls hn hl
      obtain rfl : cn = i := by omega
      refine lv_iload_n hx hb dX3_countOpenOn_4 rfl (lv_at hl 3 rfl) ?_
      refine lv_aload_n hx hb dX3_countOpenOn_5 rfl (lv_at hl 0 rfl) ?_
      refine hx_get hx hb hts hX3 hown hK.1 hP 8 (by decide) (hts (.fieldLink RX3 59 "PledgeHouse$House" "ticketCount" "I") (by decide +kernel)) rfl (v := .int (gh Z 1)) rfl dX3_countOpenOn_6 ?_
      refine lv_icmp_gt (tgt := 42) hx hb dX3_countOpenOn_9 (by decide) (fun c_1 => ?_) (fun c_1 => ?_)
      · refine lv_iload_n hx hb dX3_countOpenOn_42 rfl (lv_at hl 2 rfl) ?_
        have hsp : sc_X3_countOpenOn Z vs cn place = opN vs place cn := rfl
        exact W.iret hx hb hr (fun t2 ht2 hW => ⟨by rw [hsp], ht2⟩) (fun q hq => by cases hq) dX3_countOpenOn_43 hlocks
      · exact absurd (by rw [hcn]; exact (nI_ltI (a := cn) (b := cn + 1) (by omega) (by omega)).mpr (Nat.lt_succ_self _)) c_1
    | succ n ih =>
      intro i ls hn hl
      refine lv_iload_n hx hb dX3_countOpenOn_4 rfl (lv_at hl 3 rfl) ?_
      refine lv_aload_n hx hb dX3_countOpenOn_5 rfl (lv_at hl 0 rfl) ?_
      refine hx_get hx hb hts hX3 hown hK.1 hP 8 (by decide) (hts (.fieldLink RX3 59 "PledgeHouse$House" "ticketCount" "I") (by decide +kernel)) rfl (v := .int (gh Z 1)) rfl dX3_countOpenOn_6 ?_
      refine lv_icmp_gt (tgt := 42) hx hb dX3_countOpenOn_9 (by decide) (fun c_2 => ?_) (fun c_2 => ?_)
      · exact absurd ((nI_ltI (a := cn) (b := i + 1) (by omega) (by omega)).mp (hcn ▸ c_2)) (by omega)
      · refine lv_aload_n hx hb dX3_countOpenOn_12 rfl (lv_at hl 0 rfl) ?_
        refine lv_iload_n hx hb dX3_countOpenOn_13 rfl (lv_at hl 3 rfl) ?_
        by_cases c_3 : sc_X9_isOpen (nI (i + 1)) (vs i) = 0
        · refine c_rd S hK (va_P.app (va_P.app (hF i (by omega)) (vaR (vaL hP))) nilP) (va_recv hK.1 hP (ci := 3) (q0 := _ + 0) rfl (get3 rfl)) (As := [.int (nI (i + 1))]) (rest := []) (cC_X3_findOpen_c l D cs (bs i) (nI (i + 1)) (vs i) k a Z _ (nI (i + 1)) (cn_le hcn hc) (ft_some hcn hc hgt (by omega)) c_3) (cwV 1 hts gX3_countOpenOn_X3_findOpen rfl rfl rfl (by decide +kernel) ⟨Nat.le_of_ble_eq_true rfl, Nat.le_of_ble_eq_true rfl⟩) rfl hl.1 rfl (Nat.le_of_ble_eq_true rfl) dX3_countOpenOn_14 ⟨Nat.zero_le _, Nat.zero_le _⟩ ?_
          refine lv_astoreN (lv' := [(4, .null), (0, .ref (a 0)), (1, .int place), (2, .int (opN vs place i)), (3, .int (nI (i + 1)))]) hx hb dX3_countOpenOn_17 hl (by decide) rfl (fun ls hl => ?_)
          refine lv_aloadN hx hb dX3_countOpenOn_19 (lv_at hl 0 rfl) ?_
          refine lv_ifnullN (tgt := 36) hx hb dX3_countOpenOn_21 (by decide) ?_
          refine lv_iinc (v := (nI (i + 1)) + 1) (lv' := [(3, .int ((nI (i + 1)) + 1)), (4, .null), (0, .ref (a 0)), (1, .int place), (2, .int (opN vs place i))]) hx hb dX3_countOpenOn_36 hl (k := 4) rfl rfl (by decide) rfl (fun ls hl => ?_)
          refine lv_goto (tgt := 4) hx hb dX3_countOpenOn_39 (by decide) ?_
          rw [show nI (i + 1) + 1 = nI (i + 1 + 1) from nI_1 _] at hl
          have e2 : opN vs place (i + 1) = opN vs place i := by rw [opN, if_pos c_3]
          exact ih (i + 1) ls (by omega) (by rw [e2]; exact lv_sub hl [2, 3, 4, 0] rfl)
        · refine c_rd S hK (va_P.app (va_P.app (hF i (by omega)) (vaR (vaL hP))) nilP) (va_recv hK.1 hP (ci := 3) (q0 := _ + 0) rfl (get3 rfl)) (As := [.int (nI (i + 1))]) (rest := []) (cC_X3_findOpen_o l D cs (bs i) (nI (i + 1)) (vs i) k a Z _ (nI (i + 1)) (cn_le hcn hc) (ft_some hcn hc hgt (by omega)) c_3) (cwV 1 hts gX3_countOpenOn_X3_findOpen rfl rfl rfl (by decide +kernel) ⟨Nat.le_of_ble_eq_true rfl, Nat.le_of_ble_eq_true rfl⟩) rfl hl.1 rfl (Nat.le_of_ble_eq_true rfl) dX3_countOpenOn_14 ⟨Nat.zero_le _, Nat.zero_le _⟩ ?_
          refine lv_astore (lv' := [(4, .ref (bs i 0)), (0, .ref (a 0)), (1, .int place), (2, .int (opN vs place i)), (3, .int (nI (i + 1)))]) hx hb dX3_countOpenOn_17 hl (by decide) rfl (fun ls hl => ?_)
          refine lv_aload hx hb dX3_countOpenOn_19 (lv_at hl 0 rfl) ?_
          refine lv_ifnull hx hb dX3_countOpenOn_21 ?_
          refine lv_aload hx hb dX3_countOpenOn_24 (lv_at hl 0 rfl) ?_
          refine va_get (D := D) (ci := 8) (v := .int (vs i 15)) (C := RX9) (T := TX9) (N := 19) hx hb hts hX9 hown hK.1 (hF i (by omega)) 0 rfl rfl 1 (by decide) (hts (.fieldLink RX3 212 "PledgeHouse$Ticket" "place" "I") (by decide +kernel)) (fun _ h9 => h9) rfl dX3_countOpenOn_26 ?_
          refine lv_iload_n hx hb dX3_countOpenOn_29 rfl (lv_at hl 2 rfl) ?_
          refine lv_icmp_ne (tgt := 36) hx hb dX3_countOpenOn_30 (by decide) (fun c_4 => ?_) (fun c_4 => ?_)
          · refine lv_iinc (v := (nI (i + 1)) + 1) (lv' := [(3, .int ((nI (i + 1)) + 1)), (4, .ref (bs i 0)), (0, .ref (a 0)), (1, .int place), (2, .int (opN vs place i))]) hx hb dX3_countOpenOn_36 hl (k := 4) rfl rfl (by decide) rfl (fun ls hl => ?_)
            refine lv_goto (tgt := 4) hx hb dX3_countOpenOn_39 (by decide) ?_
            rw [show nI (i + 1) + 1 = nI (i + 1 + 1) from nI_1 _] at hl
            have e2 : opN vs place (i + 1) = opN vs place i := by rw [opN, if_neg c_3, if_neg c_4]
            exact ih (i + 1) ls (by omega) (by rw [e2]; exact lv_sub hl [2, 3, 4, 0] rfl)
          · refine lv_iinc (v := (opN vs place i) + 1) (lv' := [(2, .int ((opN vs place i) + 1)), (4, .ref (bs i 0)), (0, .ref (a 0)), (1, .int place), (3, .int (nI (i + 1)))]) hx hb dX3_countOpenOn_33 hl (k := 3) rfl rfl (by decide) rfl (fun ls hl => ?_)
            refine lv_iinc (v := (nI (i + 1)) + 1) (lv' := [(3, .int ((nI (i + 1)) + 1)), (2, .int ((opN vs place i) + 1)), (4, .ref (bs i 0)), (0, .ref (a 0)), (1, .int place)]) hx hb dX3_countOpenOn_36 hl (k := 4) rfl rfl (by decide) rfl (fun ls hl => ?_)
            refine lv_goto (tgt := 4) hx hb dX3_countOpenOn_39 (by decide) ?_
            rw [show nI (i + 1) + 1 = nI (i + 1 + 1) from nI_1 _] at hl
            have e2 : opN vs place (i + 1) = (opN vs place i) + 1 := by rw [opN, if_neg c_3, if_pos c_4]
            exact ih (i + 1) ls (by omega) (by rw [e2]; exact lv_sub hl [3, 4, 1, 0] rfl)
  refine lv_iconst (v := 0) hx hb dX3_countOpenOn_0 (by decide) ?_
  refine lv_istore_n (lv' := [(2, .int 0), (0, .ref (a 0)), (1, .int place)]) hx hb dX3_countOpenOn_1 rfl hl (by decide) rfl (fun ls hl => ?_)
  refine lv_iconst (v := 1) hx hb dX3_countOpenOn_2 (by decide) ?_
  refine lv_istore_n (lv' := [(3, .int 1), (2, .int 0), (0, .ref (a 0)), (1, .int place)]) hx hb dX3_countOpenOn_3 rfl hl (by decide) rfl (fun ls hl => ?_)
  exact loop cn 0 ls (by omega) (lv_sub hl [2, 3, 1, 0] rfl)
def sc_X3_areCoinsThere (Z : hZ) (RW : Nat → Nat → Int64) (vs : Nat → Nat → Int32) (cn : Nat) : Int32 := if prN vs ((sc_X0_total RW 2 (gh Z 2)) + (sc_X0_total RW 13 (gh Z 2))) cn = sc_X0_total RW 0 (gh Z 2) then 1 else 0
/-- each open one of the first tickets is on its place -/
def oiN (Z : hZ) (vs : Nat → Nat → Int32) : Nat → Int32
  | 0 => 1
  | i + 1 => if oiN Z vs i = 0 then 0 else if sc_X9_isOpen (nI (i + 1)) (vs i) = 0 then 1 else if sc_X3_isOnItsPlace (nI (i + 1)) (vs i) Z = 0 then 0 else 1
theorem oiN_0 {Z : hZ} {vs : Nat → Nat → Int32} {j : Nat} (h : oiN Z vs j = 0) : ∀ n, j ≤ n → oiN Z vs n = 0 := by
  intro n
  induction n with
  | zero => intro hj; obtain rfl : j = 0 := (by omega); exact h
  | succ n ih =>
    intro hj
    by_cases e : j = n + 1
    · rw [← e]; exact h
    · rw [oiN, if_pos (ih (by omega))]
def sc_X3_isEachOpenOnItsPlace (Z : hZ) (vs : Nat → Nat → Int32) (cn : Nat) : Int32 := oiN Z vs cn
/-- at most one open ticket on each of the first places -/
def euN (Z : hZ) (vs : Nat → Nat → Int32) (cn : Nat) : Nat → Int32
  | 0 => 1
  | i + 1 => if euN Z vs cn i = 0 then 0 else if sc_X3_countOpenOn Z vs cn (nI i) ≤ 1 then 1 else 0
theorem euN_0 {Z : hZ} {vs : Nat → Nat → Int32} {cn j : Nat} (h : euN Z vs cn j = 0) : ∀ n, j ≤ n → euN Z vs cn n = 0 := by
  intro n
  induction n with
  | zero => intro hj; obtain rfl : j = 0 := (by omega); exact h
  | succ n ih =>
    intro hj
    by_cases e : j = n + 1
    · rw [← e]; exact h
    · rw [euN, if_pos (ih (by omega))]
def sc_X3_isEachUnderOneAtMost (Z : hZ) (vs : Nat → Nat → Int32) (cn : Nat) : Int32 := euN Z vs cn 40
-- above
set_option maxHeartbeats 4000000 in
set_option maxRecDepth 100000 in
theorem cC_X3_areCoinsThere (l : Launch) (D : va_G) (cs : Nat → ClassId) (k : Nat → Nat) (a : Nat → Nat) (Z : hZ) (r : Nat → Nat) (RW : Nat → Nat → Int64) (bs : Nat → Nat → Nat) (vs : Nat → Nat → Int32) (sz : Nat) (cn : Nat) (hcn : gh Z 1 = nI cn) (hc : cn ≤ 511) (hgt : ∀ i, i < cn → gt Z i = some (bs i 0)) : Met l yX3_areCoinsThere wsX3_areCoinsThere ({ frames := 2, cells := 0, slots := 0, locals := 43 }) (cPcF [.ref (a 0)] D cs (([] ++ wH a (k 0) cs Z) ++ wB k r cs RW) (tks D bs vs cn) sz) (k2_QcV (.int (sc_X3_areCoinsThere Z RW vs cn))) 0 0 (fun _ => False) := by
  refine c_inF (P := pOr (pH a) (pB k r)) (cc := cX3_areCoinsThere) (maxL := 5) (ret := (some .boolean)) (lv := [(0, .ref (a 0))]) (by decide) rfl (Nat.le_of_ble_eq_true rfl) rfl ?_
  intro p e s m below meth c ls S hr hlocks hin hsz hP hK hF hl hS
  subst hsz
  obtain ⟨hx, hb, hml, hown, hts⟩ := id S
  have hX3 : ∀ w ∈ wsX30, w ∈ wsX3_areCoinsThere := by decide +kernel
  have hX9 : ∀ w ∈ wsX90, w ∈ wsX3_areCoinsThere := by decide +kernel
  have loop : ∀ (n i : Nat) (ls : Array Slot), i + n = cn → lv_has ls 5 [(0, .ref (a 0)), (1, .long (prN vs ((sc_X0_total RW 2 (gh Z 2)) + (sc_X0_total RW 13 (gh Z 2))) i)), (3, .int (nI (i + 1)))] → W p l e ({ frames := 2, cells := 0, slots := 0, locals := 43 }) s m [.ref (a 0)].toArray below meth c s.heap [] 0 0 (MQ below (k2_QcV (.int (sc_X3_areCoinsThere Z RW vs cn))) [.ref (a 0)].toArray s 0 0 (fun _ => False)) (F0 m 29 ls []) := by
    intro n
    induction n with
    | zero =>
      intro i ls hn hl
      obtain rfl : cn = i := by omega
      refine lv_iload_n hx hb dX3_areCoinsThere_29 rfl (lv_at hl 2 rfl) ?_
      refine lv_aload_n hx hb dX3_areCoinsThere_30 rfl (lv_at hl 0 rfl) ?_
      refine hx_get hx hb hts hX3 hown hK.1 hP 8 (by decide) (hts (.fieldLink RX3 59 "PledgeHouse$House" "ticketCount" "I") (by decide +kernel)) rfl (v := .int (gh Z 1)) rfl dX3_areCoinsThere_31 ?_
      refine lv_icmp_gt (tgt := 64) hx hb dX3_areCoinsThere_34 (by decide) (fun c_1 => ?_) (fun c_1 => ?_)
      · refine lv_lload_n hx hb dX3_areCoinsThere_64 rfl (lv_at hl 1 rfl) ?_
        refine lv_aload_n hx hb dX3_areCoinsThere_65 rfl (lv_at hl 0 rfl) ?_
        refine hx_get hx hb hts hX3 hown hK.1 hP 0 (by decide) (hts (.fieldLink RX3 42 "PledgeHouse$House" "books" "LPledgeHouse$Books;") (by decide +kernel)) rfl (v := .ref (k 0)) rfl dX3_areCoinsThere_66 ?_
        refine lv_iconst (v := 0) hx hb dX3_areCoinsThere_69 (by decide) ?_
        refine lv_aload_n hx hb dX3_areCoinsThere_70 rfl (lv_at hl 0 rfl) ?_
        refine hx_get hx hb hts hX3 hown hK.1 hP 1 (by decide) (hts (.fieldLink RX3 46 "PledgeHouse$House" "rowCount" "I") (by decide +kernel)) rfl (v := .int (gh Z 2)) rfl dX3_areCoinsThere_71 ?_
        refine c_rd S hK (show va_P D vwCl ([] ++ wB k r cs RW) _ from vaR hP) (va_recv hK.1 (vaR hP) (ci := 0) (q0 := 0) rfl rfl) (As := [.int 0, .int (gh Z 2)]) (rest := [.long (prN vs ((sc_X0_total RW 2 (gh Z 2)) + (sc_X0_total RW 13 (gh Z 2))) cn)]) (cC_X0_total l D cs k r RW _  0 (gh Z 2) ) (cwV 2 hts gX3_areCoinsThere_X0_total rfl rfl rfl (by decide +kernel) ⟨Nat.le_of_ble_eq_true rfl, Nat.le_of_ble_eq_true rfl⟩) rfl hl.1 rfl (Nat.le_of_ble_eq_true rfl) dX3_areCoinsThere_74 ⟨Nat.zero_le _, Nat.zero_le _⟩ ?_
        refine W.lcmp hx hb dX3_areCoinsThere_77 ?_
        refine lv_if_ne (tgt := 85) hx hb dX3_areCoinsThere_78 (by decide) (fun c_2 => ?_) (fun c_2 => ?_)
        · have c_2 : ¬ (prN vs ((sc_X0_total RW 2 (gh Z 2)) + (sc_X0_total RW 13 (gh Z 2))) cn) = (sc_X0_total RW 0 (gh Z 2)) := fun h => c_2 ((lg_cmp_eq _ _).mpr h)
          refine lv_iconst (v := 0) hx hb dX3_areCoinsThere_85 (by decide) ?_
          have hsp : sc_X3_areCoinsThere Z RW vs cn = 0 := by unfold sc_X3_areCoinsThere; rw [if_neg c_2]
          exact W.zret hx hb hr (by decide) (fun t2 ht2 hW => ⟨by rw [hsp], ht2⟩) (fun q hq => by cases hq) dX3_areCoinsThere_86 hlocks
        · have c_2 := (lg_cmp_eq _ _).mp c_2
          refine lv_iconst (v := 1) hx hb dX3_areCoinsThere_81 (by decide) ?_
          refine lv_goto (tgt := 86) hx hb dX3_areCoinsThere_82 (by decide) ?_
          have hsp : sc_X3_areCoinsThere Z RW vs cn = 1 := by unfold sc_X3_areCoinsThere; rw [if_pos c_2]
          exact W.zret hx hb hr (by decide) (fun t2 ht2 hW => ⟨by rw [hsp], ht2⟩) (fun q hq => by cases hq) dX3_areCoinsThere_86 hlocks
      · exact absurd (by rw [hcn]; exact (nI_ltI (a := cn) (b := cn + 1) (by omega) (by omega)).mpr (Nat.lt_succ_self _)) c_1
    | succ n ih =>
      intro i ls hn hl
      refine lv_iload_n hx hb dX3_areCoinsThere_29 rfl (lv_at hl 2 rfl) ?_
      refine lv_aload_n hx hb dX3_areCoinsThere_30 rfl (lv_at hl 0 rfl) ?_
      refine hx_get hx hb hts hX3 hown hK.1 hP 8 (by decide) (hts (.fieldLink RX3 59 "PledgeHouse$House" "ticketCount" "I") (by decide +kernel)) rfl (v := .int (gh Z 1)) rfl dX3_areCoinsThere_31 ?_
      refine lv_icmp_gt (tgt := 64) hx hb dX3_areCoinsThere_34 (by decide) (fun c_3 => ?_) (fun c_3 => ?_)
      · exact absurd ((nI_ltI (a := cn) (b := i + 1) (by omega) (by omega)).mp (hcn ▸ c_3)) (by omega)
      · refine lv_aload_n hx hb dX3_areCoinsThere_37 rfl (lv_at hl 0 rfl) ?_
        refine lv_iload_n hx hb dX3_areCoinsThere_38 rfl (lv_at hl 2 rfl) ?_
        by_cases c_4 : sc_X9_isOpen (nI (i + 1)) (vs i) = 0
        · refine c_rd S hK (va_P.app (va_P.app (hF i (by omega)) (vaL hP)) nilP) (va_recv hK.1 hP (ci := 3) (q0 := _ + 0) rfl (get3 rfl)) (As := [.int (nI (i + 1))]) (rest := []) (cC_X3_findOpen_c l D cs (bs i) (nI (i + 1)) (vs i) k a Z _ (nI (i + 1)) (cn_le hcn hc) (ft_some hcn hc hgt (by omega)) c_4) (cwV 1 hts gX3_areCoinsThere_X3_findOpen rfl rfl rfl (by decide +kernel) ⟨Nat.le_of_ble_eq_true rfl, Nat.le_of_ble_eq_true rfl⟩) rfl hl.1 rfl (Nat.le_of_ble_eq_true rfl) dX3_areCoinsThere_39 ⟨Nat.zero_le _, Nat.zero_le _⟩ ?_
          refine lv_astoreN (lv' := [(4, .null), (0, .ref (a 0)), (1, .long (prN vs ((sc_X0_total RW 2 (gh Z 2)) + (sc_X0_total RW 13 (gh Z 2))) i)), (3, .int (nI (i + 1)))]) hx hb dX3_areCoinsThere_42 hl (by decide) rfl (fun ls hl => ?_)
          refine lv_aloadN hx hb dX3_areCoinsThere_44 (lv_at hl 0 rfl) ?_
          refine lv_ifnullN (tgt := 58) hx hb dX3_areCoinsThere_46 (by decide) ?_
          refine lv_iinc (v := (nI (i + 1)) + 1) (lv' := [(3, .int ((nI (i + 1)) + 1)), (4, .null), (0, .ref (a 0)), (1, .long (prN vs ((sc_X0_total RW 2 (gh Z 2)) + (sc_X0_total RW 13 (gh Z 2))) i))]) hx hb dX3_areCoinsThere_58 hl (k := 3) rfl rfl (by decide) rfl (fun ls hl => ?_)
          refine lv_goto (tgt := 29) hx hb dX3_areCoinsThere_61 (by decide) ?_
          rw [show nI (i + 1) + 1 = nI (i + 1 + 1) from nI_1 _] at hl
          have e2 : prN vs ((sc_X0_total RW 2 (gh Z 2)) + (sc_X0_total RW 13 (gh Z 2))) (i + 1) = prN vs ((sc_X0_total RW 2 (gh Z 2)) + (sc_X0_total RW 13 (gh Z 2))) i := by rw [prN, if_pos c_4]
          exact ih (i + 1) ls (by omega) (by rw [e2]; exact lv_sub hl [2, 3, 0] rfl)
        · refine c_rd S hK (va_P.app (va_P.app (hF i (by omega)) (vaL hP)) nilP) (va_recv hK.1 hP (ci := 3) (q0 := _ + 0) rfl (get3 rfl)) (As := [.int (nI (i + 1))]) (rest := []) (cC_X3_findOpen_o l D cs (bs i) (nI (i + 1)) (vs i) k a Z _ (nI (i + 1)) (cn_le hcn hc) (ft_some hcn hc hgt (by omega)) c_4) (cwV 1 hts gX3_areCoinsThere_X3_findOpen rfl rfl rfl (by decide +kernel) ⟨Nat.le_of_ble_eq_true rfl, Nat.le_of_ble_eq_true rfl⟩) rfl hl.1 rfl (Nat.le_of_ble_eq_true rfl) dX3_areCoinsThere_39 ⟨Nat.zero_le _, Nat.zero_le _⟩ ?_
          refine lv_astore (lv' := [(4, .ref (bs i 0)), (0, .ref (a 0)), (1, .long (prN vs ((sc_X0_total RW 2 (gh Z 2)) + (sc_X0_total RW 13 (gh Z 2))) i)), (3, .int (nI (i + 1)))]) hx hb dX3_areCoinsThere_42 hl (by decide) rfl (fun ls hl => ?_)
          refine lv_aload hx hb dX3_areCoinsThere_44 (lv_at hl 0 rfl) ?_
          refine lv_ifnull hx hb dX3_areCoinsThere_46 ?_
          refine lv_lload_n hx hb dX3_areCoinsThere_49 rfl (lv_at hl 2 rfl) ?_
          refine lv_aload hx hb dX3_areCoinsThere_50 (lv_at hl 0 rfl) ?_
          refine va_get (D := D) (ci := 8) (v := .int (vs i 1)) (C := RX9) (T := TX9) (N := 19) hx hb hts hX9 hown hK.1 (hF i (by omega)) 0 rfl rfl 4 (by decide) (hts (.fieldLink RX3 81 "PledgeHouse$Ticket" "principal" "I") (by decide +kernel)) (fun _ h9 => h9) rfl dX3_areCoinsThere_52 ?_
          refine lv_i2l (v := (vs i 1).toInt64) hx hb dX3_areCoinsThere_55 rfl ?_
          refine lv_ladd hx hb dX3_areCoinsThere_56 ?_
          refine lv_lstore_n (lv' := [(1, .long ((prN vs ((sc_X0_total RW 2 (gh Z 2)) + (sc_X0_total RW 13 (gh Z 2))) i) + ((vs i 1).toInt64))), (4, .ref (bs i 0)), (0, .ref (a 0)), (3, .int (nI (i + 1)))]) hx hb dX3_areCoinsThere_57 rfl hl (by decide) rfl (fun ls hl => ?_)
          refine lv_iinc (v := (nI (i + 1)) + 1) (lv' := [(3, .int ((nI (i + 1)) + 1)), (1, .long ((prN vs ((sc_X0_total RW 2 (gh Z 2)) + (sc_X0_total RW 13 (gh Z 2))) i) + ((vs i 1).toInt64))), (4, .ref (bs i 0)), (0, .ref (a 0))]) hx hb dX3_areCoinsThere_58 hl (k := 3) rfl rfl (by decide) rfl (fun ls hl => ?_)
          refine lv_goto (tgt := 29) hx hb dX3_areCoinsThere_61 (by decide) ?_
          rw [show nI (i + 1) + 1 = nI (i + 1 + 1) from nI_1 _] at hl
          have e2 : prN vs ((sc_X0_total RW 2 (gh Z 2)) + (sc_X0_total RW 13 (gh Z 2))) (i + 1) = (prN vs ((sc_X0_total RW 2 (gh Z 2)) + (sc_X0_total RW 13 (gh Z 2))) i) + ((vs i 1).toInt64) := by rw [prN, if_neg c_4]
          exact ih (i + 1) ls (by omega) (by rw [e2]; exact lv_sub hl [3, 1, 0] rfl)
  refine lv_aload_n hx hb dX3_areCoinsThere_0 rfl (lv_at hl 0 rfl) ?_
  refine hx_get hx hb hts hX3 hown hK.1 hP 0 (by decide) (hts (.fieldLink RX3 42 "PledgeHouse$House" "books" "LPledgeHouse$Books;") (by decide +kernel)) rfl (v := .ref (k 0)) rfl dX3_areCoinsThere_1 ?_
  refine lv_iconst (v := 2) hx hb dX3_areCoinsThere_4 (by decide) ?_
  refine lv_aload_n hx hb dX3_areCoinsThere_5 rfl (lv_at hl 0 rfl) ?_
  refine hx_get hx hb hts hX3 hown hK.1 hP 1 (by decide) (hts (.fieldLink RX3 46 "PledgeHouse$House" "rowCount" "I") (by decide +kernel)) rfl (v := .int (gh Z 2)) rfl dX3_areCoinsThere_6 ?_
  refine c_rd S hK (show va_P D vwCl ([] ++ wB k r cs RW) _ from vaR hP) (va_recv hK.1 (vaR hP) (ci := 0) (q0 := 0) rfl rfl) (As := [.int 2, .int (gh Z 2)]) (rest := []) (cC_X0_total l D cs k r RW _  2 (gh Z 2) ) (cwV 2 hts gX3_areCoinsThere_X0_total rfl rfl rfl (by decide +kernel) ⟨Nat.le_of_ble_eq_true rfl, Nat.le_of_ble_eq_true rfl⟩) rfl hl.1 rfl (Nat.le_of_ble_eq_true rfl) dX3_areCoinsThere_9 ⟨Nat.zero_le _, Nat.zero_le _⟩ ?_
  refine lv_aload_n hx hb dX3_areCoinsThere_12 rfl (lv_at hl 0 rfl) ?_
  refine hx_get hx hb hts hX3 hown hK.1 hP 0 (by decide) (hts (.fieldLink RX3 42 "PledgeHouse$House" "books" "LPledgeHouse$Books;") (by decide +kernel)) rfl (v := .ref (k 0)) rfl dX3_areCoinsThere_13 ?_
  refine lv_bipush (v := 13) hx hb dX3_areCoinsThere_16 (by decide) ?_
  refine lv_aload_n hx hb dX3_areCoinsThere_18 rfl (lv_at hl 0 rfl) ?_
  refine hx_get hx hb hts hX3 hown hK.1 hP 1 (by decide) (hts (.fieldLink RX3 46 "PledgeHouse$House" "rowCount" "I") (by decide +kernel)) rfl (v := .int (gh Z 2)) rfl dX3_areCoinsThere_19 ?_
  refine c_rd S hK (show va_P D vwCl ([] ++ wB k r cs RW) _ from vaR hP) (va_recv hK.1 (vaR hP) (ci := 0) (q0 := 0) rfl rfl) (As := [.int 13, .int (gh Z 2)]) (rest := [.long (sc_X0_total RW 2 (gh Z 2))]) (cC_X0_total l D cs k r RW _  13 (gh Z 2) ) (cwV 2 hts gX3_areCoinsThere_X0_total rfl rfl rfl (by decide +kernel) ⟨Nat.le_of_ble_eq_true rfl, Nat.le_of_ble_eq_true rfl⟩) rfl hl.1 rfl (Nat.le_of_ble_eq_true rfl) dX3_areCoinsThere_22 ⟨Nat.zero_le _, Nat.zero_le _⟩ ?_
  refine lv_ladd hx hb dX3_areCoinsThere_25 ?_
  refine lv_lstore_n (lv' := [(1, .long ((sc_X0_total RW 2 (gh Z 2)) + (sc_X0_total RW 13 (gh Z 2)))), (0, .ref (a 0))]) hx hb dX3_areCoinsThere_26 rfl hl (by decide) rfl (fun ls hl => ?_)
  refine lv_iconst (v := 1) hx hb dX3_areCoinsThere_27 (by decide) ?_
  refine lv_istore_n (lv' := [(3, .int 1), (1, .long ((sc_X0_total RW 2 (gh Z 2)) + (sc_X0_total RW 13 (gh Z 2)))), (0, .ref (a 0))]) hx hb dX3_areCoinsThere_28 rfl hl (by decide) rfl (fun ls hl => ?_)
  exact loop cn 0 ls (by omega) (lv_sub hl [2, 1, 0] rfl)
-- above
set_option maxHeartbeats 4000000 in
set_option maxRecDepth 100000 in
theorem cC_X3_isEachOpenOnItsPlace (l : Launch) (D : va_G) (cs : Nat → ClassId) (k : Nat → Nat) (a : Nat → Nat) (Z : hZ) (bs : Nat → Nat → Nat) (vs : Nat → Nat → Int32) (sz : Nat) (cn : Nat) (hcn : gh Z 1 = nI cn) (hc : cn ≤ 511) (hgt : ∀ i, i < cn → gt Z i = some (bs i 0)) : Met l yX3_isEachOpenOnItsPlace wsX3_isEachOpenOnItsPlace ({ frames := 2, cells := 0, slots := 0, locals := 43 }) (cPcF [.ref (a 0)] D cs (([] ++ wH a (k 0) cs Z) ++ []) (tks D bs vs cn) sz) (k2_QcV (.int (sc_X3_isEachOpenOnItsPlace Z vs cn))) 0 0 (fun _ => False) := by
  refine c_inF (P := pH a) (cc := cX3_isEachOpenOnItsPlace) (maxL := 3) (ret := (some .boolean)) (lv := [(0, .ref (a 0))]) (by decide) rfl (Nat.le_of_ble_eq_true rfl) rfl ?_
  intro p e s m below meth c ls S hr hlocks hin hsz hP hK hF hl hS
  subst hsz
  obtain ⟨hx, hb, hml, hown, hts⟩ := id S
  have hX3 : ∀ w ∈ wsX30, w ∈ wsX3_isEachOpenOnItsPlace := by decide +kernel
  have loop : ∀ (n i : Nat) (ls : Array Slot), i + n = cn → oiN Z vs i = 1 → lv_has ls 3 [(0, .ref (a 0)), (1, .int (nI (i + 1)))] → W p l e ({ frames := 2, cells := 0, slots := 0, locals := 43 }) s m [.ref (a 0)].toArray below meth c s.heap [] 0 0 (MQ below (k2_QcV (.int (sc_X3_isEachOpenOnItsPlace Z vs cn))) [.ref (a 0)].toArray s 0 0 (fun _ => False)) (F0 m 2 ls []) := by
    intro n
    induction n with
    | zero =>
      intro i ls hn he hl
      obtain rfl : cn = i := by omega
      refine lv_iload_n hx hb dX3_isEachOpenOnItsPlace_2 rfl (lv_at hl 1 rfl) ?_
      refine lv_aload_n hx hb dX3_isEachOpenOnItsPlace_3 rfl (lv_at hl 0 rfl) ?_
      refine hx_get hx hb hts hX3 hown hK.1 hP 8 (by decide) (hts (.fieldLink RX3 59 "PledgeHouse$House" "ticketCount" "I") (by decide +kernel)) rfl (v := .int (gh Z 1)) rfl dX3_isEachOpenOnItsPlace_4 ?_
      refine lv_icmp_gt (tgt := 36) hx hb dX3_isEachOpenOnItsPlace_7 (by decide) (fun c_1 => ?_) (fun c_1 => ?_)
      · refine lv_iconst (v := 1) hx hb dX3_isEachOpenOnItsPlace_36 (by decide) ?_
        have hsp : sc_X3_isEachOpenOnItsPlace Z vs cn = 1 := he
        exact W.zret hx hb hr (by decide) (fun t2 ht2 hW => ⟨by rw [hsp], ht2⟩) (fun q hq => by cases hq) dX3_isEachOpenOnItsPlace_37 hlocks
      · exact absurd (by rw [hcn]; exact (nI_ltI (a := cn) (b := cn + 1) (by omega) (by omega)).mpr (Nat.lt_succ_self _)) c_1
    | succ n ih =>
      intro i ls hn he hl
      refine lv_iload_n hx hb dX3_isEachOpenOnItsPlace_2 rfl (lv_at hl 1 rfl) ?_
      refine lv_aload_n hx hb dX3_isEachOpenOnItsPlace_3 rfl (lv_at hl 0 rfl) ?_
      refine hx_get hx hb hts hX3 hown hK.1 hP 8 (by decide) (hts (.fieldLink RX3 59 "PledgeHouse$House" "ticketCount" "I") (by decide +kernel)) rfl (v := .int (gh Z 1)) rfl dX3_isEachOpenOnItsPlace_4 ?_
      refine lv_icmp_gt (tgt := 36) hx hb dX3_isEachOpenOnItsPlace_7 (by decide) (fun c_2 => ?_) (fun c_2 => ?_)
      · exact absurd ((nI_ltI (a := cn) (b := i + 1) (by omega) (by omega)).mp (hcn ▸ c_2)) (by omega)
      · refine lv_aload_n hx hb dX3_isEachOpenOnItsPlace_10 rfl (lv_at hl 0 rfl) ?_
        refine lv_iload_n hx hb dX3_isEachOpenOnItsPlace_11 rfl (lv_at hl 1 rfl) ?_
        by_cases c_3 : sc_X9_isOpen (nI (i + 1)) (vs i) = 0
        · refine c_rd S hK (va_P.app (va_P.app (hF i (by omega)) (vaR (vaL hP))) nilP) (va_recv hK.1 hP (ci := 3) (q0 := _ + 0) rfl (get3 rfl)) (As := [.int (nI (i + 1))]) (rest := []) (cC_X3_findOpen_c l D cs (bs i) (nI (i + 1)) (vs i) k a Z _ (nI (i + 1)) (cn_le hcn hc) (ft_some hcn hc hgt (by omega)) c_3) (cwV 1 hts gX3_isEachOpenOnItsPlace_X3_findOpen rfl rfl rfl (by decide +kernel) ⟨Nat.le_of_ble_eq_true rfl, Nat.le_of_ble_eq_true rfl⟩) rfl hl.1 rfl (Nat.le_of_ble_eq_true rfl) dX3_isEachOpenOnItsPlace_12 ⟨Nat.zero_le _, Nat.zero_le _⟩ ?_
          refine lv_astore_nN (lv' := [(2, .null), (0, .ref (a 0)), (1, .int (nI (i + 1)))]) hx hb dX3_isEachOpenOnItsPlace_15 rfl hl (by decide) rfl (fun ls hl => ?_)
          refine lv_aload_nN hx hb dX3_isEachOpenOnItsPlace_16 rfl (lv_at hl 0 rfl) ?_
          refine lv_ifnullN (tgt := 30) hx hb dX3_isEachOpenOnItsPlace_17 (by decide) ?_
          refine lv_iinc (v := (nI (i + 1)) + 1) (lv' := [(1, .int ((nI (i + 1)) + 1)), (2, .null), (0, .ref (a 0))]) hx hb dX3_isEachOpenOnItsPlace_30 hl (k := 2) rfl rfl (by decide) rfl (fun ls hl => ?_)
          refine lv_goto (tgt := 2) hx hb dX3_isEachOpenOnItsPlace_33 (by decide) ?_
          rw [show nI (i + 1) + 1 = nI (i + 1 + 1) from nI_1 _] at hl
          exact ih (i + 1) ls (by omega) (by rw [oiN, if_neg (by rw [he]; decide), if_pos c_3]) (lv_sub hl [2, 0] rfl)
        · refine c_rd S hK (va_P.app (va_P.app (hF i (by omega)) (vaR (vaL hP))) nilP) (va_recv hK.1 hP (ci := 3) (q0 := _ + 0) rfl (get3 rfl)) (As := [.int (nI (i + 1))]) (rest := []) (cC_X3_findOpen_o l D cs (bs i) (nI (i + 1)) (vs i) k a Z _ (nI (i + 1)) (cn_le hcn hc) (ft_some hcn hc hgt (by omega)) c_3) (cwV 1 hts gX3_isEachOpenOnItsPlace_X3_findOpen rfl rfl rfl (by decide +kernel) ⟨Nat.le_of_ble_eq_true rfl, Nat.le_of_ble_eq_true rfl⟩) rfl hl.1 rfl (Nat.le_of_ble_eq_true rfl) dX3_isEachOpenOnItsPlace_12 ⟨Nat.zero_le _, Nat.zero_le _⟩ ?_
          refine lv_astore_n (lv' := [(2, .ref (bs i 0)), (0, .ref (a 0)), (1, .int (nI (i + 1)))]) hx hb dX3_isEachOpenOnItsPlace_15 rfl hl (by decide) rfl (fun ls hl => ?_)
          refine lv_aload_n hx hb dX3_isEachOpenOnItsPlace_16 rfl (lv_at hl 0 rfl) ?_
          refine lv_ifnull hx hb dX3_isEachOpenOnItsPlace_17 ?_
          refine lv_aload_n hx hb dX3_isEachOpenOnItsPlace_20 rfl (lv_at hl 1 rfl) ?_
          refine lv_aload_n hx hb dX3_isEachOpenOnItsPlace_21 rfl (lv_at hl 0 rfl) ?_
          refine c_rd S hK (va_P.app (va_P.app (hF i (by omega)) (vaR (vaL hP))) nilP) (va_recv hK.1 hP (ci := 3) (q0 := _ + 0) rfl (get3 rfl)) (As := [.ref (bs i 0)]) (rest := []) (cC_X3_isOnItsPlace l D cs (bs i) (nI (i + 1)) (vs i) k a Z _) (cwV 1 hts gX3_isEachOpenOnItsPlace_X3_isOnItsPlace rfl rfl rfl (by decide +kernel) ⟨Nat.le_of_ble_eq_true rfl, Nat.le_of_ble_eq_true rfl⟩) rfl hl.1 rfl (Nat.le_of_ble_eq_true rfl) dX3_isEachOpenOnItsPlace_22 ⟨Nat.zero_le _, Nat.zero_le _⟩ ?_
          refine lv_if_ne (tgt := 30) hx hb dX3_isEachOpenOnItsPlace_25 (by decide) (fun c_4 => ?_) (fun c_4 => ?_)
          · refine lv_iinc (v := (nI (i + 1)) + 1) (lv' := [(1, .int ((nI (i + 1)) + 1)), (2, .ref (bs i 0)), (0, .ref (a 0))]) hx hb dX3_isEachOpenOnItsPlace_30 hl (k := 2) rfl rfl (by decide) rfl (fun ls hl => ?_)
            refine lv_goto (tgt := 2) hx hb dX3_isEachOpenOnItsPlace_33 (by decide) ?_
            rw [show nI (i + 1) + 1 = nI (i + 1 + 1) from nI_1 _] at hl
            exact ih (i + 1) ls (by omega) (by rw [oiN, if_neg (by rw [he]; decide), if_neg c_3, if_neg c_4]) (lv_sub hl [2, 0] rfl)
          · refine lv_iconst (v := 0) hx hb dX3_isEachOpenOnItsPlace_28 (by decide) ?_
            have hsp : sc_X3_isEachOpenOnItsPlace Z vs cn = 0 := (by unfold sc_X3_isEachOpenOnItsPlace; exact oiN_0 (j := i + 1) (by rw [oiN, if_neg (by rw [he]; decide), if_neg c_3, if_pos c_4]) cn (by omega))
            exact W.zret hx hb hr (by decide) (fun t2 ht2 hW => ⟨by rw [hsp], ht2⟩) (fun q hq => by cases hq) dX3_isEachOpenOnItsPlace_29 hlocks
  refine lv_iconst (v := 1) hx hb dX3_isEachOpenOnItsPlace_0 (by decide) ?_
  refine lv_istore_n (lv' := [(1, .int 1), (0, .ref (a 0))]) hx hb dX3_isEachOpenOnItsPlace_1 rfl hl (by decide) rfl (fun ls hl => ?_)
  exact loop cn 0 ls (by omega) rfl (lv_sub hl [1, 0] rfl)
-- above
set_option maxHeartbeats 4000000 in
set_option maxRecDepth 100000 in
theorem cC_X3_isEachUnderOneAtMost (l : Launch) (D : va_G) (cs : Nat → ClassId) (k : Nat → Nat) (a : Nat → Nat) (Z : hZ) (bs : Nat → Nat → Nat) (vs : Nat → Nat → Int32) (sz : Nat) (cn : Nat) (hcn : gh Z 1 = nI cn) (hc : cn ≤ 511) (hgt : ∀ i, i < cn → gt Z i = some (bs i 0)) : Met l yX3_isEachUnderOneAtMost wsX3_isEachUnderOneAtMost ({ frames := 3, cells := 0, slots := 0, locals := 67 }) (cPcF [.ref (a 0)] D cs (([] ++ wH a (k 0) cs Z) ++ []) (tks D bs vs cn) sz) (k2_QcV (.int (sc_X3_isEachUnderOneAtMost Z vs cn))) 0 0 (fun _ => False) := by
  refine c_inF (P := pH a) (cc := cX3_isEachUnderOneAtMost) (maxL := 2) (ret := (some .boolean)) (lv := [(0, .ref (a 0))]) (by decide) rfl (Nat.le_of_ble_eq_true rfl) rfl ?_
  intro p e s m below meth c ls S hr hlocks hin hsz hP hK hF hl hS
  subst hsz
  obtain ⟨hx, hb, hml, hown, hts⟩ := id S
  have loop : ∀ (n i : Nat) (ls : Array Slot), i + n = 40 → euN Z vs cn i = 1 → lv_has ls 2 [(0, .ref (a 0)), (1, .int (nI i))] → W p l e ({ frames := 3, cells := 0, slots := 0, locals := 67 }) s m [.ref (a 0)].toArray below meth c s.heap [] 0 0 (MQ below (k2_QcV (.int (sc_X3_isEachUnderOneAtMost Z vs cn))) [.ref (a 0)].toArray s 0 0 (fun _ => False)) (F0 m 2 ls []) := by
    intro n
    induction n with
    | zero =>
      intro i ls hn he hl
      obtain rfl : 40 = i := by omega
      refine lv_iload_n hx hb dX3_isEachUnderOneAtMost_2 rfl (lv_at hl 1 rfl) ?_
      refine lv_bipush (v := 40) hx hb dX3_isEachUnderOneAtMost_3 (by decide) ?_
      refine lv_icmp_ge (tgt := 25) hx hb dX3_isEachUnderOneAtMost_5 (by decide) (fun c_1 => ?_) (fun c_1 => ?_)
      · refine lv_iconst (v := 1) hx hb dX3_isEachUnderOneAtMost_25 (by decide) ?_
        have hsp : sc_X3_isEachUnderOneAtMost Z vs cn = 1 := he
        exact W.zret hx hb hr (by decide) (fun t2 ht2 hW => ⟨by rw [hsp], ht2⟩) (fun q hq => by cases hq) dX3_isEachUnderOneAtMost_26 hlocks
      · exact absurd (by decide) c_1
    | succ n ih =>
      intro i ls hn he hl
      refine lv_iload_n hx hb dX3_isEachUnderOneAtMost_2 rfl (lv_at hl 1 rfl) ?_
      refine lv_bipush (v := 40) hx hb dX3_isEachUnderOneAtMost_3 (by decide) ?_
      refine lv_icmp_ge (tgt := 25) hx hb dX3_isEachUnderOneAtMost_5 (by decide) (fun c_2 => ?_) (fun c_2 => ?_)
      · exact absurd ((nI_leI (a := 40) (b := i) (by omega) (by omega)).mp c_2) (by omega)
      · refine lv_aload_n hx hb dX3_isEachUnderOneAtMost_8 rfl (lv_at hl 0 rfl) ?_
        refine lv_iload_n hx hb dX3_isEachUnderOneAtMost_9 rfl (lv_at hl 1 rfl) ?_
        refine c_r1 (rest := []) (va_runV S (As := [.int (nI i)]) (cC_X3_countOpenOn l D cs k a Z bs vs _  cn (nI i) hcn hc hgt) (cwV 1 hts gX3_isEachUnderOneAtMost_X3_countOpenOn rfl rfl rfl (by decide +kernel) ⟨Nat.le_of_ble_eq_true rfl, Nat.le_of_ble_eq_true rfl⟩) (preV_f hK (hP) hF (va_recv hK.1 hP (ci := 3) (q0 := _ + 0) rfl (get3 rfl))) rfl rfl hl.1 rfl (lv_room (Nat.le_of_ble_eq_true rfl)) dX3_isEachUnderOneAtMost_10 ⟨Nat.zero_le _, Nat.zero_le _⟩) (fun _ h => h) ?_
        refine lv_iconst (v := 1) hx hb dX3_isEachUnderOneAtMost_13 (by decide) ?_
        refine lv_icmp_le (tgt := 19) hx hb dX3_isEachUnderOneAtMost_14 (by decide) (fun c_3 => ?_) (fun c_3 => ?_)
        · refine lv_iinc (v := (nI i) + 1) (lv' := [(1, .int ((nI i) + 1)), (0, .ref (a 0))]) hx hb dX3_isEachUnderOneAtMost_19 hl (k := 1) rfl rfl (by decide) rfl (fun ls hl => ?_)
          refine lv_goto (tgt := 2) hx hb dX3_isEachUnderOneAtMost_22 (by decide) ?_
          rw [nI_1] at hl
          exact ih (i + 1) ls (by omega) (by rw [euN, if_neg (by rw [he]; decide), if_pos c_3]) (lv_sub hl [1, 0] rfl)
        · refine lv_iconst (v := 0) hx hb dX3_isEachUnderOneAtMost_17 (by decide) ?_
          have hsp : sc_X3_isEachUnderOneAtMost Z vs cn = 0 := (by unfold sc_X3_isEachUnderOneAtMost; exact euN_0 (j := i + 1) (by rw [euN, if_neg (by rw [he]; decide), if_neg c_3]) 40 (by omega))
          exact W.zret hx hb hr (by decide) (fun t2 ht2 hW => ⟨by rw [hsp], ht2⟩) (fun q hq => by cases hq) dX3_isEachUnderOneAtMost_18 hlocks
  refine lv_iconst (v := 0) hx hb dX3_isEachUnderOneAtMost_0 (by decide) ?_
  refine lv_istore_n (lv' := [(1, .int 0), (0, .ref (a 0))]) hx hb dX3_isEachUnderOneAtMost_1 rfl hl (by decide) rfl (fun ls hl => ?_)
  exact loop 40 0 ls (by omega) rfl (lv_sub hl [1, 0] rfl)
def sc_X3_countFaults (Z : hZ) (RW : Nat → Nat → Int64) (vs : Nat → Nat → Int32) (cn : Nat) : Int32 :=
  if (sc_X3_areCoinsThere Z RW vs cn) = 0 then
    if (sc_X3_isEachUnderOneAtMost Z vs cn) = 0 then
      if (sc_X3_isEachOpenOnItsPlace Z vs cn) = 0 then
        ((0 + 1) + 1) + 1
      else
        (0 + 1) + 1
    else
      if (sc_X3_isEachOpenOnItsPlace Z vs cn) = 0 then
        (0 + 1) + 1
      else
        0 + 1
  else
    if (sc_X3_isEachUnderOneAtMost Z vs cn) = 0 then
      if (sc_X3_isEachOpenOnItsPlace Z vs cn) = 0 then
        (0 + 1) + 1
      else
        0 + 1
    else
      if (sc_X3_isEachOpenOnItsPlace Z vs cn) = 0 then
        0 + 1
      else
        0
set_option maxHeartbeats 4000000 in
set_option maxRecDepth 100000 in
theorem cC_X3_countFaults (l : Launch) (D : va_G) (cs : Nat → ClassId) (k : Nat → Nat) (a : Nat → Nat) (Z : hZ) (r : Nat → Nat) (RW : Nat → Nat → Int64) (bs : Nat → Nat → Nat) (vs : Nat → Nat → Int32) (sz : Nat) (cn : Nat) (hcn : gh Z 1 = nI cn) (hc : cn ≤ 511) (hgt : ∀ i, i < cn → gt Z i = some (bs i 0)) : Met l yX3_countFaults wsX3_countFaults ({ frames := 4, cells := 0, slots := 0, locals := 88 }) (cPcF [.ref (a 0)] D cs (([] ++ wH a (k 0) cs Z) ++ wB k r cs RW) (tks D bs vs cn) sz) (k2_QcV (.int (sc_X3_countFaults Z RW vs cn))) 0 0 (fun _ => False) := by
  refine c_inF (P := pOr (pH a) (pB k r)) (cc := cX3_countFaults) (maxL := 2) (ret := (some .int)) (lv := [(0, .ref (a 0))]) (by decide) rfl (Nat.le_of_ble_eq_true rfl) rfl ?_
  intro p e s m below meth c ls S hr hlocks hin hsz hP hK hF hl hS
  subst hsz
  obtain ⟨hx, hb, hml, hown, hts⟩ := id S
  refine lv_iconst (v := 0) hx hb dX3_countFaults_0 (by decide) ?_
  refine lv_istore_n (lv' := [(1, .int 0), (0, .ref (a 0))]) hx hb dX3_countFaults_1 rfl hl (by decide) rfl (fun ls hl => ?_)
  refine lv_aload_n hx hb dX3_countFaults_2 rfl (lv_at hl 1 rfl) ?_
  refine c_r1 (rest := []) (va_runV S (As := []) (cC_X3_areCoinsThere l D cs k a Z r RW bs vs _  cn hcn hc hgt) (cwV 0 hts gX3_countFaults_X3_areCoinsThere rfl rfl rfl (by decide +kernel) ⟨Nat.le_of_ble_eq_true rfl, Nat.le_of_ble_eq_true rfl⟩) (preV_f hK (hP) hF (va_recv hK.1 hP (ci := 3) (q0 := _ + 0) rfl (get3 rfl))) rfl rfl hl.1 rfl (lv_room (Nat.le_of_ble_eq_true rfl)) dX3_countFaults_3 ⟨Nat.zero_le _, Nat.zero_le _⟩) (fun _ h => h) ?_
  refine lv_if_ne (tgt := 12) hx hb dX3_countFaults_6 (by decide) (fun c_1 => ?_) (fun c_1 => ?_)
  · refine lv_aload_n hx hb dX3_countFaults_12 rfl (lv_at hl 1 rfl) ?_
    refine c_r1 (rest := []) (va_runV S (As := []) (cC_X3_isEachUnderOneAtMost l D cs k a Z bs vs _  cn hcn hc hgt) (cwV 0 hts gX3_countFaults_X3_isEachUnderOneAtMost rfl rfl rfl (by decide +kernel) ⟨Nat.le_of_ble_eq_true rfl, Nat.le_of_ble_eq_true rfl⟩) (preV_f hK (show va_P D vwCl (([] ++ wH a (k 0) cs Z) ++ []) _ from vaL hP) hF (va_recv hK.1 hP (ci := 3) (q0 := _ + 0) rfl (get3 rfl))) rfl rfl hl.1 rfl (lv_room (Nat.le_of_ble_eq_true rfl)) dX3_countFaults_13 ⟨Nat.zero_le _, Nat.zero_le _⟩) (fun _ h => h) ?_
    refine lv_if_ne (tgt := 22) hx hb dX3_countFaults_16 (by decide) (fun c_2 => ?_) (fun c_2 => ?_)
    · refine lv_aload_n hx hb dX3_countFaults_22 rfl (lv_at hl 1 rfl) ?_
      refine c_r1 (rest := []) (va_runV S (As := []) (cC_X3_isEachOpenOnItsPlace l D cs k a Z bs vs _  cn hcn hc hgt) (cwV 0 hts gX3_countFaults_X3_isEachOpenOnItsPlace rfl rfl rfl (by decide +kernel) ⟨Nat.le_of_ble_eq_true rfl, Nat.le_of_ble_eq_true rfl⟩) (preV_f hK (show va_P D vwCl (([] ++ wH a (k 0) cs Z) ++ []) _ from vaL hP) hF (va_recv hK.1 hP (ci := 3) (q0 := _ + 0) rfl (get3 rfl))) rfl rfl hl.1 rfl (lv_room (Nat.le_of_ble_eq_true rfl)) dX3_countFaults_23 ⟨Nat.zero_le _, Nat.zero_le _⟩) (fun _ h => h) ?_
      refine lv_if_ne (tgt := 32) hx hb dX3_countFaults_26 (by decide) (fun c_3 => ?_) (fun c_3 => ?_)
      · refine lv_iload_n hx hb dX3_countFaults_32 rfl (lv_at hl 0 rfl) ?_
        have hsp : sc_X3_countFaults Z RW vs cn = 0 := by unfold sc_X3_countFaults; rw [if_neg c_1, if_neg c_2, if_neg c_3]
        exact W.iret hx hb hr (fun t2 ht2 hW => ⟨by rw [hsp], ht2⟩) (fun q hq => by cases hq) dX3_countFaults_33 hlocks
      · refine lv_iinc (v := 0 + 1) (lv' := [(1, .int (0 + 1)), (0, .ref (a 0))]) hx hb dX3_countFaults_29 hl (k := 0) rfl rfl (by decide) rfl (fun ls hl => ?_)
        refine lv_iload_n hx hb dX3_countFaults_32 rfl (lv_at hl 0 rfl) ?_
        have hsp : sc_X3_countFaults Z RW vs cn = 0 + 1 := by unfold sc_X3_countFaults; rw [if_neg c_1, if_neg c_2, if_pos c_3]
        exact W.iret hx hb hr (fun t2 ht2 hW => ⟨by rw [hsp], ht2⟩) (fun q hq => by cases hq) dX3_countFaults_33 hlocks
    · refine lv_iinc (v := 0 + 1) (lv' := [(1, .int (0 + 1)), (0, .ref (a 0))]) hx hb dX3_countFaults_19 hl (k := 0) rfl rfl (by decide) rfl (fun ls hl => ?_)
      refine lv_aload_n hx hb dX3_countFaults_22 rfl (lv_at hl 1 rfl) ?_
      refine c_r1 (rest := []) (va_runV S (As := []) (cC_X3_isEachOpenOnItsPlace l D cs k a Z bs vs _  cn hcn hc hgt) (cwV 0 hts gX3_countFaults_X3_isEachOpenOnItsPlace rfl rfl rfl (by decide +kernel) ⟨Nat.le_of_ble_eq_true rfl, Nat.le_of_ble_eq_true rfl⟩) (preV_f hK (show va_P D vwCl (([] ++ wH a (k 0) cs Z) ++ []) _ from vaL hP) hF (va_recv hK.1 hP (ci := 3) (q0 := _ + 0) rfl (get3 rfl))) rfl rfl hl.1 rfl (lv_room (Nat.le_of_ble_eq_true rfl)) dX3_countFaults_23 ⟨Nat.zero_le _, Nat.zero_le _⟩) (fun _ h => h) ?_
      refine lv_if_ne (tgt := 32) hx hb dX3_countFaults_26 (by decide) (fun c_4 => ?_) (fun c_4 => ?_)
      · refine lv_iload_n hx hb dX3_countFaults_32 rfl (lv_at hl 0 rfl) ?_
        have hsp : sc_X3_countFaults Z RW vs cn = 0 + 1 := by unfold sc_X3_countFaults; rw [if_neg c_1, if_pos c_2, if_neg c_4]
        exact W.iret hx hb hr (fun t2 ht2 hW => ⟨by rw [hsp], ht2⟩) (fun q hq => by cases hq) dX3_countFaults_33 hlocks
      · refine lv_iinc (v := (0 + 1) + 1) (lv' := [(1, .int ((0 + 1) + 1)), (0, .ref (a 0))]) hx hb dX3_countFaults_29 hl (k := 0) rfl rfl (by decide) rfl (fun ls hl => ?_)
        refine lv_iload_n hx hb dX3_countFaults_32 rfl (lv_at hl 0 rfl) ?_
        have hsp : sc_X3_countFaults Z RW vs cn = (0 + 1) + 1 := by unfold sc_X3_countFaults; rw [if_neg c_1, if_pos c_2, if_pos c_4]
        exact W.iret hx hb hr (fun t2 ht2 hW => ⟨by rw [hsp], ht2⟩) (fun q hq => by cases hq) dX3_countFaults_33 hlocks
  · refine lv_iinc (v := 0 + 1) (lv' := [(1, .int (0 + 1)), (0, .ref (a 0))]) hx hb dX3_countFaults_9 hl (k := 0) rfl rfl (by decide) rfl (fun ls hl => ?_)
    refine lv_aload_n hx hb dX3_countFaults_12 rfl (lv_at hl 1 rfl) ?_
    refine c_r1 (rest := []) (va_runV S (As := []) (cC_X3_isEachUnderOneAtMost l D cs k a Z bs vs _  cn hcn hc hgt) (cwV 0 hts gX3_countFaults_X3_isEachUnderOneAtMost rfl rfl rfl (by decide +kernel) ⟨Nat.le_of_ble_eq_true rfl, Nat.le_of_ble_eq_true rfl⟩) (preV_f hK (show va_P D vwCl (([] ++ wH a (k 0) cs Z) ++ []) _ from vaL hP) hF (va_recv hK.1 hP (ci := 3) (q0 := _ + 0) rfl (get3 rfl))) rfl rfl hl.1 rfl (lv_room (Nat.le_of_ble_eq_true rfl)) dX3_countFaults_13 ⟨Nat.zero_le _, Nat.zero_le _⟩) (fun _ h => h) ?_
    refine lv_if_ne (tgt := 22) hx hb dX3_countFaults_16 (by decide) (fun c_5 => ?_) (fun c_5 => ?_)
    · refine lv_aload_n hx hb dX3_countFaults_22 rfl (lv_at hl 1 rfl) ?_
      refine c_r1 (rest := []) (va_runV S (As := []) (cC_X3_isEachOpenOnItsPlace l D cs k a Z bs vs _  cn hcn hc hgt) (cwV 0 hts gX3_countFaults_X3_isEachOpenOnItsPlace rfl rfl rfl (by decide +kernel) ⟨Nat.le_of_ble_eq_true rfl, Nat.le_of_ble_eq_true rfl⟩) (preV_f hK (show va_P D vwCl (([] ++ wH a (k 0) cs Z) ++ []) _ from vaL hP) hF (va_recv hK.1 hP (ci := 3) (q0 := _ + 0) rfl (get3 rfl))) rfl rfl hl.1 rfl (lv_room (Nat.le_of_ble_eq_true rfl)) dX3_countFaults_23 ⟨Nat.zero_le _, Nat.zero_le _⟩) (fun _ h => h) ?_
      refine lv_if_ne (tgt := 32) hx hb dX3_countFaults_26 (by decide) (fun c_6 => ?_) (fun c_6 => ?_)
      · refine lv_iload_n hx hb dX3_countFaults_32 rfl (lv_at hl 0 rfl) ?_
        have hsp : sc_X3_countFaults Z RW vs cn = 0 + 1 := by unfold sc_X3_countFaults; rw [if_pos c_1, if_neg c_5, if_neg c_6]
        exact W.iret hx hb hr (fun t2 ht2 hW => ⟨by rw [hsp], ht2⟩) (fun q hq => by cases hq) dX3_countFaults_33 hlocks
      · refine lv_iinc (v := (0 + 1) + 1) (lv' := [(1, .int ((0 + 1) + 1)), (0, .ref (a 0))]) hx hb dX3_countFaults_29 hl (k := 0) rfl rfl (by decide) rfl (fun ls hl => ?_)
        refine lv_iload_n hx hb dX3_countFaults_32 rfl (lv_at hl 0 rfl) ?_
        have hsp : sc_X3_countFaults Z RW vs cn = (0 + 1) + 1 := by unfold sc_X3_countFaults; rw [if_pos c_1, if_neg c_5, if_pos c_6]
        exact W.iret hx hb hr (fun t2 ht2 hW => ⟨by rw [hsp], ht2⟩) (fun q hq => by cases hq) dX3_countFaults_33 hlocks
    · refine lv_iinc (v := (0 + 1) + 1) (lv' := [(1, .int ((0 + 1) + 1)), (0, .ref (a 0))]) hx hb dX3_countFaults_19 hl (k := 0) rfl rfl (by decide) rfl (fun ls hl => ?_)
      refine lv_aload_n hx hb dX3_countFaults_22 rfl (lv_at hl 1 rfl) ?_
      refine c_r1 (rest := []) (va_runV S (As := []) (cC_X3_isEachOpenOnItsPlace l D cs k a Z bs vs _  cn hcn hc hgt) (cwV 0 hts gX3_countFaults_X3_isEachOpenOnItsPlace rfl rfl rfl (by decide +kernel) ⟨Nat.le_of_ble_eq_true rfl, Nat.le_of_ble_eq_true rfl⟩) (preV_f hK (show va_P D vwCl (([] ++ wH a (k 0) cs Z) ++ []) _ from vaL hP) hF (va_recv hK.1 hP (ci := 3) (q0 := _ + 0) rfl (get3 rfl))) rfl rfl hl.1 rfl (lv_room (Nat.le_of_ble_eq_true rfl)) dX3_countFaults_23 ⟨Nat.zero_le _, Nat.zero_le _⟩) (fun _ h => h) ?_
      refine lv_if_ne (tgt := 32) hx hb dX3_countFaults_26 (by decide) (fun c_7 => ?_) (fun c_7 => ?_)
      · refine lv_iload_n hx hb dX3_countFaults_32 rfl (lv_at hl 0 rfl) ?_
        have hsp : sc_X3_countFaults Z RW vs cn = (0 + 1) + 1 := by unfold sc_X3_countFaults; rw [if_pos c_1, if_pos c_5, if_neg c_7]
        exact W.iret hx hb hr (fun t2 ht2 hW => ⟨by rw [hsp], ht2⟩) (fun q hq => by cases hq) dX3_countFaults_33 hlocks
      · refine lv_iinc (v := ((0 + 1) + 1) + 1) (lv' := [(1, .int (((0 + 1) + 1) + 1)), (0, .ref (a 0))]) hx hb dX3_countFaults_29 hl (k := 0) rfl rfl (by decide) rfl (fun ls hl => ?_)
        refine lv_iload_n hx hb dX3_countFaults_32 rfl (lv_at hl 0 rfl) ?_
        have hsp : sc_X3_countFaults Z RW vs cn = ((0 + 1) + 1) + 1 := by unfold sc_X3_countFaults; rw [if_pos c_1, if_pos c_5, if_pos c_7]
        exact W.iret hx hb hr (fun t2 ht2 hW => ⟨by rw [hsp], ht2⟩) (fun q hq => by cases hq) dX3_countFaults_33 hlocks
def sc_X3_sumOn (Z : hZ) (RW : Nat → Nat → Int64) (vs : Nat → Nat → Int32) (cn : Nat) (rc : Nat) (day : Int32) (what : Int32) : Int64 :=
  if day < 0 then
    (-1)
  else
    if (gh Z 0) < day then
      (-1)
    else
      if what < 0 then
        (-1)
      else
        if what < 13 then
          if what = 4 then
            if what = 4 then
              sc_X3_oversOn Z vs cn day 1
            else
              sc_X3_oversOn Z vs cn day 0
          else
            if what = 6 then
              if what = 4 then
                sc_X3_oversOn Z vs cn day 1
              else
                sc_X3_oversOn Z vs cn day 0
            else
              if what = 9 then
                sc_X0_interestOn RW day (upN RW day rc)
              else
                sc_X0_total RW what (sc_X0_rowsUpTo RW day rc)
        else
          (-1)
set_option maxHeartbeats 4000000 in
set_option maxRecDepth 100000 in
theorem cC_X3_sumOn (l : Launch) (D : va_G) (cs : Nat → ClassId) (k : Nat → Nat) (a : Nat → Nat) (Z : hZ) (r : Nat → Nat) (RW : Nat → Nat → Int64) (bs : Nat → Nat → Nat) (vs : Nat → Nat → Int32) (sz : Nat) (cn : Nat) (rc : Nat) (day : Int32) (what : Int32) (hcn : gh Z 1 = nI cn) (hc : cn ≤ 511) (hgt : ∀ i, i < cn → gt Z i = some (bs i 0)) (hrc : gh Z 2 = nI rc) (hrl : rc ≤ 512) : Met l yX3_sumOn wsX3_sumOn ({ frames := 3, cells := 0, slots := 0, locals := 70 }) (cPcF [.ref (a 0), .int day, .int what] D cs (([] ++ wH a (k 0) cs Z) ++ wB k r cs RW) (tks D bs vs cn) sz) (k2_QcV (.long (sc_X3_sumOn Z RW vs cn rc day what))) 0 0 (fun _ => False) := by
  refine c_inF (P := pOr (pH a) (pB k r)) (cc := cX3_sumOn) (maxL := 4) (ret := (some .long)) (lv := [(0, .ref (a 0)), (1, .int day), (2, .int what)]) (by decide) rfl (Nat.le_of_ble_eq_true rfl) rfl ?_
  intro p e s m below meth c ls S hr hlocks hin hsz hP hK hF hl hS
  subst hsz
  obtain ⟨hx, hb, hml, hown, hts⟩ := id S
  have hX3 : ∀ w ∈ wsX30, w ∈ wsX3_sumOn := by decide +kernel
  refine lv_iload_n hx hb dX3_sumOn_0 rfl (lv_at hl 1 rfl) ?_
  refine lv_if_lt (tgt := 22) hx hb dX3_sumOn_1 (by decide) (fun c_1 => ?_) (fun c_1 => ?_)
  · refine lv_ldc2 (v := (-1)) hx hb hown (hts (.constantLong RX3 362 (-1)) (by decide +kernel)) dX3_sumOn_22 ?_
    have hsp : sc_X3_sumOn Z RW vs cn rc day what = (-1) := by unfold sc_X3_sumOn; rw [if_pos c_1]
    exact W.lret hx hb hr (fun t2 ht2 hW => ⟨by rw [hsp], ht2⟩) (fun q hq => by cases hq) dX3_sumOn_25 hlocks
  · refine lv_iload_n hx hb dX3_sumOn_4 rfl (lv_at hl 1 rfl) ?_
    refine lv_aload_n hx hb dX3_sumOn_5 rfl (lv_at hl 0 rfl) ?_
    refine hx_get hx hb hts hX3 hown hK.1 hP 2 (by decide) (hts (.fieldLink RX3 50 "PledgeHouse$House" "today" "I") (by decide +kernel)) rfl (v := .int (gh Z 0)) rfl dX3_sumOn_6 ?_
    refine lv_icmp_gt (tgt := 22) hx hb dX3_sumOn_9 (by decide) (fun c_2 => ?_) (fun c_2 => ?_)
    · refine lv_ldc2 (v := (-1)) hx hb hown (hts (.constantLong RX3 362 (-1)) (by decide +kernel)) dX3_sumOn_22 ?_
      have hsp : sc_X3_sumOn Z RW vs cn rc day what = (-1) := by unfold sc_X3_sumOn; rw [if_neg c_1, if_pos c_2]
      exact W.lret hx hb hr (fun t2 ht2 hW => ⟨by rw [hsp], ht2⟩) (fun q hq => by cases hq) dX3_sumOn_25 hlocks
    · refine lv_iload_n hx hb dX3_sumOn_12 rfl (lv_at hl 2 rfl) ?_
      refine lv_if_lt (tgt := 22) hx hb dX3_sumOn_13 (by decide) (fun c_3 => ?_) (fun c_3 => ?_)
      · refine lv_ldc2 (v := (-1)) hx hb hown (hts (.constantLong RX3 362 (-1)) (by decide +kernel)) dX3_sumOn_22 ?_
        have hsp : sc_X3_sumOn Z RW vs cn rc day what = (-1) := by unfold sc_X3_sumOn; rw [if_neg c_1, if_neg c_2, if_pos c_3]
        exact W.lret hx hb hr (fun t2 ht2 hW => ⟨by rw [hsp], ht2⟩) (fun q hq => by cases hq) dX3_sumOn_25 hlocks
      · refine lv_iload_n hx hb dX3_sumOn_16 rfl (lv_at hl 2 rfl) ?_
        refine lv_bipush (v := 13) hx hb dX3_sumOn_17 (by decide) ?_
        refine lv_icmp_lt (tgt := 26) hx hb dX3_sumOn_19 (by decide) (fun c_4 => ?_) (fun c_4 => ?_)
        · refine lv_iload_n hx hb dX3_sumOn_26 rfl (lv_at hl 2 rfl) ?_
          refine lv_iconst (v := 4) hx hb dX3_sumOn_27 (by decide) ?_
          refine lv_icmp_eq (tgt := 37) hx hb dX3_sumOn_28 (by decide) (fun c_5 => ?_) (fun c_5 => ?_)
          · refine lv_aload_n hx hb dX3_sumOn_37 rfl (lv_at hl 0 rfl) ?_
            refine lv_iload_n hx hb dX3_sumOn_38 rfl (lv_at hl 1 rfl) ?_
            refine lv_iload_n hx hb dX3_sumOn_39 rfl (lv_at hl 2 rfl) ?_
            refine lv_iconst (v := 4) hx hb dX3_sumOn_40 (by decide) ?_
            refine lv_icmp_ne (tgt := 48) hx hb dX3_sumOn_41 (by decide) (fun c_6 => ?_) (fun c_6 => ?_)
            · refine lv_iconst (v := 0) hx hb dX3_sumOn_48 (by decide) ?_
              refine c_r1 (rest := []) (va_runV S (As := [.int day, .int 0]) (cC_X3_oversOn l D cs k a Z bs vs _  cn day 0 hcn hc hgt) (cwV 2 hts gX3_sumOn_X3_oversOn rfl rfl rfl (by decide +kernel) ⟨Nat.le_of_ble_eq_true rfl, Nat.le_of_ble_eq_true rfl⟩) (preV_f hK (show va_P D vwCl (([] ++ wH a (k 0) cs Z) ++ []) _ from vaL hP) hF (va_recv hK.1 hP (ci := 3) (q0 := _ + 0) rfl (get3 rfl))) rfl rfl hl.1 rfl (lv_room (Nat.le_of_ble_eq_true rfl)) dX3_sumOn_49 ⟨Nat.zero_le _, Nat.zero_le _⟩) (fun _ h => h) ?_
              have hsp : sc_X3_sumOn Z RW vs cn rc day what = sc_X3_oversOn Z vs cn day 0 := by unfold sc_X3_sumOn; rw [if_neg c_1, if_neg c_2, if_neg c_3, if_pos c_4, if_pos c_5, if_neg c_6]
              exact W.lret hx hb hr (fun t2 ht2 hW => ⟨by rw [hsp], ht2⟩) (fun q hq => by cases hq) dX3_sumOn_52 hlocks
            · refine lv_iconst (v := 1) hx hb dX3_sumOn_44 (by decide) ?_
              refine lv_goto (tgt := 49) hx hb dX3_sumOn_45 (by decide) ?_
              refine c_r1 (rest := []) (va_runV S (As := [.int day, .int 1]) (cC_X3_oversOn l D cs k a Z bs vs _  cn day 1 hcn hc hgt) (cwV 2 hts gX3_sumOn_X3_oversOn rfl rfl rfl (by decide +kernel) ⟨Nat.le_of_ble_eq_true rfl, Nat.le_of_ble_eq_true rfl⟩) (preV_f hK (show va_P D vwCl (([] ++ wH a (k 0) cs Z) ++ []) _ from vaL hP) hF (va_recv hK.1 hP (ci := 3) (q0 := _ + 0) rfl (get3 rfl))) rfl rfl hl.1 rfl (lv_room (Nat.le_of_ble_eq_true rfl)) dX3_sumOn_49 ⟨Nat.zero_le _, Nat.zero_le _⟩) (fun _ h => h) ?_
              have hsp : sc_X3_sumOn Z RW vs cn rc day what = sc_X3_oversOn Z vs cn day 1 := by unfold sc_X3_sumOn; rw [if_neg c_1, if_neg c_2, if_neg c_3, if_pos c_4, if_pos c_5, if_pos c_6]
              exact W.lret hx hb hr (fun t2 ht2 hW => ⟨by rw [hsp], ht2⟩) (fun q hq => by cases hq) dX3_sumOn_52 hlocks
          · refine lv_iload_n hx hb dX3_sumOn_31 rfl (lv_at hl 2 rfl) ?_
            refine lv_bipush (v := 6) hx hb dX3_sumOn_32 (by decide) ?_
            refine lv_icmp_ne (tgt := 53) hx hb dX3_sumOn_34 (by decide) (fun c_7 => ?_) (fun c_7 => ?_)
            · refine lv_aload_n hx hb dX3_sumOn_53 rfl (lv_at hl 0 rfl) ?_
              refine hx_get hx hb hts hX3 hown hK.1 hP 0 (by decide) (hts (.fieldLink RX3 42 "PledgeHouse$House" "books" "LPledgeHouse$Books;") (by decide +kernel)) rfl (v := .ref (k 0)) rfl dX3_sumOn_54 ?_
              refine lv_iload_n hx hb dX3_sumOn_57 rfl (lv_at hl 1 rfl) ?_
              refine lv_aload_n hx hb dX3_sumOn_58 rfl (lv_at hl 0 rfl) ?_
              refine hx_get hx hb hts hX3 hown hK.1 hP 1 (by decide) (hts (.fieldLink RX3 46 "PledgeHouse$House" "rowCount" "I") (by decide +kernel)) rfl (v := .int (gh Z 2)) rfl dX3_sumOn_59 ?_
              refine wtop (congrArg Value.int (show (gh Z 2 : Int32) = nI rc from hrc)) ?_
              refine c_rd S hK (show va_P D vwCl ([] ++ wB k r cs RW) _ from vaR hP) (va_recv hK.1 (vaR hP) (ci := 0) (q0 := 0) rfl rfl) (As := [.int day, .int (nI rc)]) (rest := []) (cC_X0_rowsUpTo l D cs k r RW _  day rc (Nat.le_trans hrl (by decide))) (cwV 2 hts gX3_sumOn_X0_rowsUpTo rfl rfl rfl (by decide +kernel) ⟨Nat.le_of_ble_eq_true rfl, Nat.le_of_ble_eq_true rfl⟩) rfl hl.1 rfl (Nat.le_of_ble_eq_true rfl) dX3_sumOn_62 ⟨Nat.zero_le _, Nat.zero_le _⟩ ?_
              refine lv_istore_n (lv' := [(3, .int (sc_X0_rowsUpTo RW day rc)), (0, .ref (a 0)), (1, .int day), (2, .int what)]) hx hb dX3_sumOn_65 rfl hl (by decide) rfl (fun ls hl => ?_)
              refine lv_iload_n hx hb dX3_sumOn_66 rfl (lv_at hl 3 rfl) ?_
              refine lv_bipush (v := 9) hx hb dX3_sumOn_67 (by decide) ?_
              refine lv_icmp_ne (tgt := 84) hx hb dX3_sumOn_69 (by decide) (fun c_8 => ?_) (fun c_8 => ?_)
              · refine lv_aload_n hx hb dX3_sumOn_84 rfl (lv_at hl 1 rfl) ?_
                refine hx_get hx hb hts hX3 hown hK.1 hP 0 (by decide) (hts (.fieldLink RX3 42 "PledgeHouse$House" "books" "LPledgeHouse$Books;") (by decide +kernel)) rfl (v := .ref (k 0)) rfl dX3_sumOn_85 ?_
                refine lv_iload_n hx hb dX3_sumOn_88 rfl (lv_at hl 3 rfl) ?_
                refine lv_iload_n hx hb dX3_sumOn_89 rfl (lv_at hl 0 rfl) ?_
                refine c_rd S hK (show va_P D vwCl ([] ++ wB k r cs RW) _ from vaR hP) (va_recv hK.1 (vaR hP) (ci := 0) (q0 := 0) rfl rfl) (As := [.int what, .int (sc_X0_rowsUpTo RW day rc)]) (rest := []) (cC_X0_total l D cs k r RW _  what (sc_X0_rowsUpTo RW day rc) ) (cwV 2 hts gX3_sumOn_X0_total rfl rfl rfl (by decide +kernel) ⟨Nat.le_of_ble_eq_true rfl, Nat.le_of_ble_eq_true rfl⟩) rfl hl.1 rfl (Nat.le_of_ble_eq_true rfl) dX3_sumOn_90 ⟨Nat.zero_le _, Nat.zero_le _⟩ ?_
                have hsp : sc_X3_sumOn Z RW vs cn rc day what = sc_X0_total RW what (sc_X0_rowsUpTo RW day rc) := by unfold sc_X3_sumOn; rw [if_neg c_1, if_neg c_2, if_neg c_3, if_pos c_4, if_neg c_5, if_neg c_7, if_neg c_8]
                exact W.lret hx hb hr (fun t2 ht2 hW => ⟨by rw [hsp], ht2⟩) (fun q hq => by cases hq) dX3_sumOn_93 hlocks
              · refine lv_aload_n hx hb dX3_sumOn_72 rfl (lv_at hl 1 rfl) ?_
                refine hx_get hx hb hts hX3 hown hK.1 hP 0 (by decide) (hts (.fieldLink RX3 42 "PledgeHouse$House" "books" "LPledgeHouse$Books;") (by decide +kernel)) rfl (v := .ref (k 0)) rfl dX3_sumOn_73 ?_
                refine lv_iload_n hx hb dX3_sumOn_76 rfl (lv_at hl 2 rfl) ?_
                refine lv_iload_n hx hb dX3_sumOn_77 rfl (lv_at hl 0 rfl) ?_
                refine wtop (congrArg Value.int (show (sc_X0_rowsUpTo RW day rc : Int32) = nI (upN RW day rc) from rfl)) ?_
                refine c_rd S hK (show va_P D vwCl ([] ++ wB k r cs RW) _ from vaR hP) (va_recv hK.1 (vaR hP) (ci := 0) (q0 := 0) rfl rfl) (As := [.int day, .int (nI (upN RW day rc))]) (rest := []) (cC_X0_interestOn l D cs k r RW _  day (upN RW day rc) (Nat.le_trans (upN_le _ _ _) (Nat.le_trans hrl (by decide)))) (cwV 2 hts gX3_sumOn_X0_interestOn rfl rfl rfl (by decide +kernel) ⟨Nat.le_of_ble_eq_true rfl, Nat.le_of_ble_eq_true rfl⟩) rfl hl.1 rfl (Nat.le_of_ble_eq_true rfl) dX3_sumOn_78 ⟨Nat.zero_le _, Nat.zero_le _⟩ ?_
                refine lv_goto (tgt := 93) hx hb dX3_sumOn_81 (by decide) ?_
                have hsp : sc_X3_sumOn Z RW vs cn rc day what = sc_X0_interestOn RW day (upN RW day rc) := by unfold sc_X3_sumOn; rw [if_neg c_1, if_neg c_2, if_neg c_3, if_pos c_4, if_neg c_5, if_neg c_7, if_pos c_8]
                exact W.lret hx hb hr (fun t2 ht2 hW => ⟨by rw [hsp], ht2⟩) (fun q hq => by cases hq) dX3_sumOn_93 hlocks
            · refine lv_aload_n hx hb dX3_sumOn_37 rfl (lv_at hl 0 rfl) ?_
              refine lv_iload_n hx hb dX3_sumOn_38 rfl (lv_at hl 1 rfl) ?_
              refine lv_iload_n hx hb dX3_sumOn_39 rfl (lv_at hl 2 rfl) ?_
              refine lv_iconst (v := 4) hx hb dX3_sumOn_40 (by decide) ?_
              refine lv_icmp_ne (tgt := 48) hx hb dX3_sumOn_41 (by decide) (fun c_9 => ?_) (fun c_9 => ?_)
              · refine lv_iconst (v := 0) hx hb dX3_sumOn_48 (by decide) ?_
                refine c_r1 (rest := []) (va_runV S (As := [.int day, .int 0]) (cC_X3_oversOn l D cs k a Z bs vs _  cn day 0 hcn hc hgt) (cwV 2 hts gX3_sumOn_X3_oversOn rfl rfl rfl (by decide +kernel) ⟨Nat.le_of_ble_eq_true rfl, Nat.le_of_ble_eq_true rfl⟩) (preV_f hK (show va_P D vwCl (([] ++ wH a (k 0) cs Z) ++ []) _ from vaL hP) hF (va_recv hK.1 hP (ci := 3) (q0 := _ + 0) rfl (get3 rfl))) rfl rfl hl.1 rfl (lv_room (Nat.le_of_ble_eq_true rfl)) dX3_sumOn_49 ⟨Nat.zero_le _, Nat.zero_le _⟩) (fun _ h => h) ?_
                have hsp : sc_X3_sumOn Z RW vs cn rc day what = sc_X3_oversOn Z vs cn day 0 := by unfold sc_X3_sumOn; rw [if_neg c_1, if_neg c_2, if_neg c_3, if_pos c_4, if_neg c_5, if_pos c_7, if_neg c_9]
                exact W.lret hx hb hr (fun t2 ht2 hW => ⟨by rw [hsp], ht2⟩) (fun q hq => by cases hq) dX3_sumOn_52 hlocks
              · refine lv_iconst (v := 1) hx hb dX3_sumOn_44 (by decide) ?_
                refine lv_goto (tgt := 49) hx hb dX3_sumOn_45 (by decide) ?_
                refine c_r1 (rest := []) (va_runV S (As := [.int day, .int 1]) (cC_X3_oversOn l D cs k a Z bs vs _  cn day 1 hcn hc hgt) (cwV 2 hts gX3_sumOn_X3_oversOn rfl rfl rfl (by decide +kernel) ⟨Nat.le_of_ble_eq_true rfl, Nat.le_of_ble_eq_true rfl⟩) (preV_f hK (show va_P D vwCl (([] ++ wH a (k 0) cs Z) ++ []) _ from vaL hP) hF (va_recv hK.1 hP (ci := 3) (q0 := _ + 0) rfl (get3 rfl))) rfl rfl hl.1 rfl (lv_room (Nat.le_of_ble_eq_true rfl)) dX3_sumOn_49 ⟨Nat.zero_le _, Nat.zero_le _⟩) (fun _ h => h) ?_
                have hsp : sc_X3_sumOn Z RW vs cn rc day what = sc_X3_oversOn Z vs cn day 1 := by unfold sc_X3_sumOn; rw [if_neg c_1, if_neg c_2, if_neg c_3, if_pos c_4, if_neg c_5, if_pos c_7, if_pos c_9]
                exact W.lret hx hb hr (fun t2 ht2 hW => ⟨by rw [hsp], ht2⟩) (fun q hq => by cases hq) dX3_sumOn_52 hlocks
        · refine lv_ldc2 (v := (-1)) hx hb hown (hts (.constantLong RX3 362 (-1)) (by decide +kernel)) dX3_sumOn_22 ?_
          have hsp : sc_X3_sumOn Z RW vs cn rc day what = (-1) := by unfold sc_X3_sumOn; rw [if_neg c_1, if_neg c_2, if_neg c_3, if_neg c_4]
          exact W.lret hx hb hr (fun t2 ht2 hW => ⟨by rw [hsp], ht2⟩) (fun q hq => by cases hq) dX3_sumOn_25 hlocks
