/-! rules, with the statics' arrays as the law's start gives them -/
def stCT (A : Nat → Prop) (rL rG : Nat) (U : State) : Prop := va_Z RX11 "RULES_LOWEST" "[I" (.ref rL) A U U.heap ∧ va_Z RX11 "RULES_HIGHEST" "[I" (.ref rG) A U U.heap ∧ va_T .int rL 14 (fun j => .int (tLEAST j)) A U U.heap ∧ va_T .int rG 14 (fun j => .int (tGREAT j)) A U U.heap
def stRT (A : Nat → Prop) (rL rG : Nat) (U : State) : Prop := va_Z RX13 "LEAST" "[I" (.ref rL) A U U.heap ∧ va_Z RX13 "GREATEST" "[I" (.ref rG) A U U.heap ∧ va_T .int rL 14 (fun j => .int (tLEAST j)) A U U.heap ∧ va_T .int rG 14 (fun j => .int (tGREAT j)) A U U.heap
theorem vp_ix {x : Int32} {j n : Nat} (h : x = nI j) (hj : j < n) (hn : n < 2 ^ 31) : vp_in x n := by
  rw [h]
  exact vp_in_nI hj hn
theorem stCT_same {A : Nat → Prop} {rL rG : Nat} (U V : State) (h1 : U.vm = V.vm) (h2 : U.heap = V.heap) (h : stCT A rL rG U) : stCT A rL rG V := by
  have e : U.vm.Alike V.vm := by rw [h1]; exact Vm.Alike.refl _
  exact ⟨by rw [← h2]; exact va_Z.moved e h.1, by rw [← h2]; exact va_Z.moved e h.2.1, by rw [← h2]; exact va_T.moved e h.2.2.1, by rw [← h2]; exact va_T.moved e h.2.2.2⟩
theorem stRT_same {A : Nat → Prop} {rL rG : Nat} (U V : State) (h1 : U.vm = V.vm) (h2 : U.heap = V.heap) (h : stRT A rL rG U) : stRT A rL rG V := by
  have e : U.vm.Alike V.vm := by rw [h1]; exact Vm.Alike.refl _
  exact ⟨by rw [← h2]; exact va_Z.moved e h.1, by rw [← h2]; exact va_Z.moved e h.2.1, by rw [← h2]; exact va_T.moved e h.2.2.1, by rw [← h2]; exact va_T.moved e h.2.2.2⟩
set_option maxHeartbeats 4000000 in
set_option maxRecDepth 100000 in
theorem cM_ruleT (l : Launch) (D : va_G) (cI cJ : ClassId) (ad : Nat → Nat) (Z : mZ) (sz : Nat) (rL rG : Nat) (hi : mI ad) (rule : Int32) (v : Int32) : Met l yX13_rule wsX13_rule ({ frames := 1, cells := 0, slots := 0, locals := 21 }) (mPcX (stRT (mA ad sz) rL rG) [.ref (ad 0), .int rule, .int v] D cI cJ ad Z sz) (mQ D cI cJ ad (some (.int (sp_rule Z rule v).1)) (sp_rule Z rule v).2 sz) 0 0 (mA ad sz) := by
  refine m_inX (cc := cX13_rule) (maxL := 3) (ret := (some .int)) (lv := [(0, .ref (ad 0)), (1, .int rule), (2, .int v)]) (by decide) rfl (Nat.le_of_ble_eq_true rfl) rfl ?_
  intro p e s m below meth c ls S hr hlocks hin hsz hP hK hX hl hS
  subst hsz
  obtain ⟨hx, hb, hml, hown, hts⟩ := id S
  have hX12 : ∀ w ∈ wsX120, w ∈ wsX13_rule := by decide +kernel
  have hX13 : ∀ w ∈ wsX130, w ∈ wsX13_rule := by decide +kernel
  refine lv_iload_n hx hb dX13_rule_0 rfl (lv_at hl 1 rfl) ?_
  refine lv_if_lt (tgt := 10) hx hb dX13_rule_1 (by decide) (fun c_1 => ?_) (fun c_1 => ?_)
  · refine lv_aload_n hx hb dX13_rule_10 rfl (lv_at hl 0 rfl) ?_
    refine lv_iconst (v := (-1)) hx hb dX13_rule_11 (by decide) ?_
    refine m_wr S hK hP hS (As := [.int (-1)]) (rest := []) (cM_says l D cI cJ ad Z _ hi (-1)) (cwV 1 hts gX13_rule_X13_says rfl rfl rfl (by decide +kernel) ⟨Nat.le_of_ble_eq_true rfl, Nat.le_of_ble_eq_true rfl⟩) rfl hl.1 rfl (Nat.le_of_ble_eq_true rfl) dX13_rule_12 ⟨Nat.zero_le _, Nat.zero_le _⟩ (fun H locs hP hS => ?_)
    have hsp : sp_rule Z rule v = ((-1), zR Z (-1)) := by unfold sp_rule; rw [if_pos c_1]
    exact W.iret hx hb hr (fun t2 ht2 hW => by rw [hsp]; exact ⟨rfl, by rw [ht2]; exact hP, hS.F ht2⟩) hS.2.2 dX13_rule_15 hlocks
  · refine lv_iload_n hx hb dX13_rule_4 rfl (lv_at hl 1 rfl) ?_
    refine lv_bipush (v := 13) hx hb dX13_rule_5 (by decide) ?_
    refine lv_icmp_le (tgt := 16) hx hb dX13_rule_7 (by decide) (fun c_2 => ?_) (fun c_2 => ?_)
    · refine lv_iload_n hx hb dX13_rule_16 rfl (lv_at hl 2 rfl) ?_
      refine va_gets hx hb hX.1 hS hown (hts (.fieldLink RX13 81 "PledgeHouseModel" "LEAST" "[I") (by decide +kernel)) (fun _ h9 => h9) dX13_rule_17 ?_
      refine lv_iload_n hx hb dX13_rule_20 rfl (lv_at hl 1 rfl) ?_
      refine va_ti hx hb hX.2.2.1 hS (v := .int (tLEAST (tN rule))) (vp_ix (rl_ix c_1 c_2).1 (rl_ix c_1 c_2).2 (by decide)) rfl dX13_rule_21 ?_
      refine lv_icmp_lt (tgt := 34) hx hb dX13_rule_22 (by decide) (fun c_3 => ?_) (fun c_3 => ?_)
      · refine lv_aload_n hx hb dX13_rule_34 rfl (lv_at hl 0 rfl) ?_
        refine lv_bipush (v := (-6)) hx hb dX13_rule_35 (by decide) ?_
        refine m_wr S hK hP hS (As := [.int (-6)]) (rest := []) (cM_says l D cI cJ ad Z _ hi (-6)) (cwV 1 hts gX13_rule_X13_says rfl rfl rfl (by decide +kernel) ⟨Nat.le_of_ble_eq_true rfl, Nat.le_of_ble_eq_true rfl⟩) rfl hl.1 rfl (Nat.le_of_ble_eq_true rfl) dX13_rule_37 ⟨Nat.zero_le _, Nat.zero_le _⟩ (fun H locs hP hS => ?_)
        have hsp : sp_rule Z rule v = ((-6), zR Z (-6)) := by unfold sp_rule; rw [if_neg c_1, if_pos c_2, if_pos c_3]
        exact W.iret hx hb hr (fun t2 ht2 hW => by rw [hsp]; exact ⟨rfl, by rw [ht2]; exact hP, hS.F ht2⟩) hS.2.2 dX13_rule_40 hlocks
      · refine lv_iload_n hx hb dX13_rule_25 rfl (lv_at hl 2 rfl) ?_
        refine va_gets hx hb hX.2.1 hS hown (hts (.fieldLink RX13 84 "PledgeHouseModel" "GREATEST" "[I") (by decide +kernel)) (fun _ h9 => h9) dX13_rule_26 ?_
        refine lv_iload_n hx hb dX13_rule_29 rfl (lv_at hl 1 rfl) ?_
        refine va_ti hx hb hX.2.2.2 hS (v := .int (tGREAT (tN rule))) (vp_ix (rl_ix c_1 c_2).1 (rl_ix c_1 c_2).2 (by decide)) rfl dX13_rule_30 ?_
        refine lv_icmp_le (tgt := 41) hx hb dX13_rule_31 (by decide) (fun c_4 => ?_) (fun c_4 => ?_)
        · refine lv_aload_n hx hb dX13_rule_41 rfl (lv_at hl 0 rfl) ?_
          refine va_get (D := D) (ci := 11) (v := .ref (ad 1)) (C := RX13) (T := TX13) (N := 6) hx hb hts hX13 hown hK.1 hP 0 rfl rfl 0 (by decide) (hts (.fieldLink RX13 10 "PledgeHouseModel" "now" "LPledgeHouseModel$State;") (by decide +kernel)) (fun _ h9 => h9) rfl dX13_rule_42 ?_
          refine va_getN (D := D) (ci := 10) (v := .ref (ad 3)) (C := RX12) (T := TX12) (N := 4) hx hb hts hX12 hown hK.1 hP 1 rfl rfl 0 (by decide) (va_Nw.use rfl hK.2.1) (fun _ h9 => h9) rfl dX13_rule_45 ?_
          refine lv_iconst (v := 3) hx hb dX13_rule_48 (by decide) ?_
          refine lv_iload_n hx hb dX13_rule_49 rfl (lv_at hl 1 rfl) ?_
          refine lv_iadd hx hb dX13_rule_50 ?_
          refine lv_iload_n hx hb dX13_rule_51 rfl (lv_at hl 2 rfl) ?_
          refine mx_hst hx hb hK.1 hP (wM_D hi s.heap.size _) hS (3 + tN rule) (ix_add rfl (rl_ix c_1 c_2).1) (by have := (rl_ix c_1 c_2).2; omega) dX13_rule_52 (fun H locs hP hS => ?_)
          refine lv_aload_n hx hb dX13_rule_53 rfl (lv_at hl 0 rfl) ?_
          refine lv_iconst (v := 0) hx hb dX13_rule_54 (by decide) ?_
          refine m_wr S hK hP hS (As := [.int 0]) (rest := []) (cM_says l D cI cJ ad (zhp Z (3 + tN rule) v) _ hi 0) (cwV 1 hts gX13_rule_X13_says rfl rfl rfl (by decide +kernel) ⟨Nat.le_of_ble_eq_true rfl, Nat.le_of_ble_eq_true rfl⟩) rfl hl.1 rfl (Nat.le_of_ble_eq_true rfl) dX13_rule_55 ⟨Nat.zero_le _, Nat.zero_le _⟩ (fun H locs hP hS => ?_)
          have hsp : sp_rule Z rule v = (0, zR (zhp Z (3 + tN rule) v) 0) := by unfold sp_rule; rw [if_neg c_1, if_pos c_2, if_neg c_3, if_pos c_4]
          exact W.iret hx hb hr (fun t2 ht2 hW => by rw [hsp]; exact ⟨rfl, by rw [ht2]; exact hP, hS.F ht2⟩) hS.2.2 dX13_rule_58 hlocks
        · refine lv_aload_n hx hb dX13_rule_34 rfl (lv_at hl 0 rfl) ?_
          refine lv_bipush (v := (-6)) hx hb dX13_rule_35 (by decide) ?_
          refine m_wr S hK hP hS (As := [.int (-6)]) (rest := []) (cM_says l D cI cJ ad Z _ hi (-6)) (cwV 1 hts gX13_rule_X13_says rfl rfl rfl (by decide +kernel) ⟨Nat.le_of_ble_eq_true rfl, Nat.le_of_ble_eq_true rfl⟩) rfl hl.1 rfl (Nat.le_of_ble_eq_true rfl) dX13_rule_37 ⟨Nat.zero_le _, Nat.zero_le _⟩ (fun H locs hP hS => ?_)
          have hsp : sp_rule Z rule v = ((-6), zR Z (-6)) := by unfold sp_rule; rw [if_neg c_1, if_pos c_2, if_neg c_3, if_neg c_4]
          exact W.iret hx hb hr (fun t2 ht2 hW => by rw [hsp]; exact ⟨rfl, by rw [ht2]; exact hP, hS.F ht2⟩) hS.2.2 dX13_rule_40 hlocks
    · refine lv_aload_n hx hb dX13_rule_10 rfl (lv_at hl 0 rfl) ?_
      refine lv_iconst (v := (-1)) hx hb dX13_rule_11 (by decide) ?_
      refine m_wr S hK hP hS (As := [.int (-1)]) (rest := []) (cM_says l D cI cJ ad Z _ hi (-1)) (cwV 1 hts gX13_rule_X13_says rfl rfl rfl (by decide +kernel) ⟨Nat.le_of_ble_eq_true rfl, Nat.le_of_ble_eq_true rfl⟩) rfl hl.1 rfl (Nat.le_of_ble_eq_true rfl) dX13_rule_12 ⟨Nat.zero_le _, Nat.zero_le _⟩ (fun H locs hP hS => ?_)
      have hsp : sp_rule Z rule v = ((-1), zR Z (-1)) := by unfold sp_rule; rw [if_neg c_1, if_neg c_2]
      exact W.iret hx hb hr (fun t2 ht2 hW => by rw [hsp]; exact ⟨rfl, by rw [ht2]; exact hP, hS.F ht2⟩) hS.2.2 dX13_rule_15 hlocks
set_option maxHeartbeats 4000000 in
set_option maxRecDepth 100000 in
theorem cC_X3_setRuleT (l : Launch) (D : va_G) (cs : Nat → ClassId) (k : Nat → Nat) (a : Nat → Nat) (Z : hZ) (sz rL rG : Nat) (ia : iH a) (rule : Int32) (value : Int32) : Met l yX3_setRule wsX3_setRule ({ frames := 0, cells := 0, slots := 0, locals := 0 }) (cPcU (stCT (adA (pH a) sz) rL rG) [.ref (a 0), .int rule, .int value] D cs (([] ++ wH a (k 0) cs Z) ++ []) sz) (cQ D (some (.int (sc_X3_setRule Z rule value).1)) (([] ++ wH a (k 0) cs ((sc_X3_setRule Z rule value).2)) ++ []) (adA (pH a) sz)) 0 0 (adA (pH a) sz) := by
  refine c_inU (P := pH a) (cc := cX3_setRule) (maxL := 3) (ret := (some .int)) (lv := [(0, .ref (a 0)), (1, .int rule), (2, .int value)]) (by decide) rfl (Nat.le_of_ble_eq_true rfl) rfl ?_
  intro p e s m below meth c ls S hr hlocks hin hsz hP hK hX hl hS
  subst hsz
  obtain ⟨hx, hb, hml, hown, hts⟩ := id S
  have hX3 : ∀ w ∈ wsX30, w ∈ wsX3_setRule := by decide +kernel
  refine lv_iload_n hx hb dX3_setRule_0 rfl (lv_at hl 1 rfl) ?_
  refine lv_if_lt (tgt := 13) hx hb dX3_setRule_1 (by decide) (fun c_1 => ?_) (fun c_1 => ?_)
  · refine lv_iconst (v := (-1)) hx hb dX3_setRule_13 (by decide) ?_
    have hsp : sc_X3_setRule Z rule value = ((-1), Z) := by unfold sc_X3_setRule; rw [if_pos c_1]
    exact W.iret hx hb hr (fun t2 ht2 hW => by rw [hsp]; exact ⟨rfl, by rw [ht2]; exact hP, hS.F ht2⟩) hS.2.2 dX3_setRule_14 hlocks
  · refine lv_iload_n hx hb dX3_setRule_4 rfl (lv_at hl 1 rfl) ?_
    refine lv_aload_n hx hb dX3_setRule_5 rfl (lv_at hl 0 rfl) ?_
    refine hx_get hx hb hts hX3 hown hK.1 hP 3 (by decide) (hts (.fieldLink RX3 18 "PledgeHouse$House" "rules" "[I") (by decide +kernel)) rfl (v := .ref (a 1)) rfl dX3_setRule_6 ?_
    refine va_alen hx hb hK.1 hP (_ + 1) 0 (get3 rfl) rfl (v := 14) rfl dX3_setRule_9 ?_
    refine lv_icmp_lt (tgt := 15) hx hb dX3_setRule_10 (by decide) (fun c_2 => ?_) (fun c_2 => ?_)
    · refine lv_iload_n hx hb dX3_setRule_15 rfl (lv_at hl 2 rfl) ?_
      refine va_getsN (host := "PledgeHouse") hx hb hX.1 hS hown (va_Nw.use rfl (hK.2.1 _ (by decide +kernel))) (fun _ h9 => h9) dX3_setRule_16 ?_
      refine lv_iload_n hx hb dX3_setRule_19 rfl (lv_at hl 1 rfl) ?_
      refine va_ti hx hb hX.2.2.1 hS (v := .int (tLEAST (tN rule))) (vp_ix (ix_lt (c := 14) (n := 14) rfl (by decide) c_1 (Int32.not_le.mpr c_2)).1 (ix_lt (c := 14) (n := 14) rfl (by decide) c_1 (Int32.not_le.mpr c_2)).2 (by decide)) rfl dX3_setRule_20 ?_
      refine lv_icmp_lt (tgt := 33) hx hb dX3_setRule_21 (by decide) (fun c_3 => ?_) (fun c_3 => ?_)
      · refine lv_bipush (v := (-6)) hx hb dX3_setRule_33 (by decide) ?_
        have hsp : sc_X3_setRule Z rule value = ((-6), Z) := by unfold sc_X3_setRule; rw [if_neg c_1, if_pos c_2, if_pos c_3]
        exact W.iret hx hb hr (fun t2 ht2 hW => by rw [hsp]; exact ⟨rfl, by rw [ht2]; exact hP, hS.F ht2⟩) hS.2.2 dX3_setRule_35 hlocks
      · refine lv_iload_n hx hb dX3_setRule_24 rfl (lv_at hl 2 rfl) ?_
        refine va_getsN (host := "PledgeHouse") hx hb hX.2.1 hS hown (va_Nw.use rfl (hK.2.1 _ (by decide +kernel))) (fun _ h9 => h9) dX3_setRule_25 ?_
        refine lv_iload_n hx hb dX3_setRule_28 rfl (lv_at hl 1 rfl) ?_
        refine va_ti hx hb hX.2.2.2 hS (v := .int (tGREAT (tN rule))) (vp_ix (ix_lt (c := 14) (n := 14) rfl (by decide) c_1 (Int32.not_le.mpr c_2)).1 (ix_lt (c := 14) (n := 14) rfl (by decide) c_1 (Int32.not_le.mpr c_2)).2 (by decide)) rfl dX3_setRule_29 ?_
        refine lv_icmp_le (tgt := 36) hx hb dX3_setRule_30 (by decide) (fun c_4 => ?_) (fun c_4 => ?_)
        · refine lv_aload_n hx hb dX3_setRule_36 rfl (lv_at hl 0 rfl) ?_
          refine hx_get hx hb hts hX3 hown hK.1 hP 3 (by decide) (hts (.fieldLink RX3 18 "PledgeHouse$House" "rules" "[I") (by decide +kernel)) rfl (v := .ref (a 1)) rfl dX3_setRule_37 ?_
          refine lv_iload_n hx hb dX3_setRule_40 rfl (lv_at hl 1 rfl) ?_
          refine lv_iload_n hx hb dX3_setRule_41 rfl (lv_at hl 2 rfl) ?_
          refine hx_rst hx hb hK.1 hP (wH_D ia s.heap.size) hS (tN rule) (ix_lt (c := 14) (n := 14) rfl (by decide) c_1 (Int32.not_le.mpr c_2)).1 (ix_lt (c := 14) (n := 14) rfl (by decide) c_1 (Int32.not_le.mpr c_2)).2 dX3_setRule_42 (fun H locs hP hS => ?_)
          refine lv_iconst (v := 0) hx hb dX3_setRule_43 (by decide) ?_
          have hsp : sc_X3_setRule Z rule value = (0, grp Z (tN rule) value) := by unfold sc_X3_setRule; rw [if_neg c_1, if_pos c_2, if_neg c_3, if_pos c_4]
          exact W.iret hx hb hr (fun t2 ht2 hW => by rw [hsp]; exact ⟨rfl, by rw [ht2]; exact hP, hS.F ht2⟩) hS.2.2 dX3_setRule_44 hlocks
        · refine lv_bipush (v := (-6)) hx hb dX3_setRule_33 (by decide) ?_
          have hsp : sc_X3_setRule Z rule value = ((-6), Z) := by unfold sc_X3_setRule; rw [if_neg c_1, if_pos c_2, if_neg c_3, if_neg c_4]
          exact W.iret hx hb hr (fun t2 ht2 hW => by rw [hsp]; exact ⟨rfl, by rw [ht2]; exact hP, hS.F ht2⟩) hS.2.2 dX3_setRule_35 hlocks
    · refine lv_iconst (v := (-1)) hx hb dX3_setRule_13 (by decide) ?_
      have hsp : sc_X3_setRule Z rule value = ((-1), Z) := by unfold sc_X3_setRule; rw [if_neg c_1, if_neg c_2]
      exact W.iret hx hb hr (fun t2 ht2 hW => by rw [hsp]; exact ⟨rfl, by rw [ht2]; exact hP, hS.F ht2⟩) hS.2.2 dX3_setRule_14 hlocks
set_option maxHeartbeats 4000000 in
set_option maxRecDepth 100000 in
theorem cC_X11_ruleT (l : Launch) (D : va_G) (cs : Nat → ClassId) (o : Nat) (a1 a2 k r : Nat → Nat) (fz : Nat → Prop) (N : Nat) (F : mZ) (sz : Nat) (hN : N ≤ 511) (rule : Int32) (v : Int32) (rL rG : Nat) : Met l yX11_rule wsX11_rule ({ frames := 1, cells := 0, slots := 0, locals := 22 }) (cPcV (stCT (fun x => ¬ fz x) rL rG) [.ref o, .int rule, .int v] D cs (wO o a1 a2 (zik F) (zst F)) (gT D cs o a1 a2 k r fz N F) sz) (cQF D (some (.int (sp_rule F rule v).1)) (wO o a1 a2 (zik (sp_rule F rule v).2) (zst (sp_rule F rule v).2)) (gT D cs o a1 a2 k r fz (N + 1) (sp_rule F rule v).2) (fun x => ¬ fz x)) 0 0 (fun x => ¬ fz x) := by
  refine c_inV (cc := cX11_rule) (maxL := 3) (ret := (some .int)) (lv := [(0, .ref o), (1, .int rule), (2, .int v)]) (by decide) rfl (Nat.le_of_ble_eq_true rfl) rfl ?_ stCT_same
  intro p e s m below meth c ls S hr hlocks hsz hP hK hF hXs hl
  subst hsz
  obtain ⟨hx, hb, hml, hown, hts⟩ := id S
  have hX11 : ∀ w ∈ wsX110, w ∈ wsX11_rule := by decide +kernel
  have hS : va_S (fun x => ¬ fz x) s.heap s.heap [] := va_S.rf
  obtain ⟨h1, h2, RW, cn1, rc1, d1, cn2, rc2, d2, hR, hI, hH, hfz⟩ := id hF
  have hcn := hR.1.1.2.2.2.2.2.1
  have hrN := hR.2.2.2.2.1
  have hZ1 : va_P D vwCl (([] ++ wH a1 (k 0) cs (sZ h1)) ++ []) s.heap := by rw [List.nil_append, List.append_nil]; exact hH.1.1
  have hrv := va_recv hK.1 hH.1.1 (ci := 3) (q0 := 0) rfl rfl
  refine lv_aload_n hx hb dX11_rule_0 rfl (lv_at hl 0 rfl) ?_
  refine lv_aload_n hx hb dX11_rule_1 rfl (lv_at hl 0 rfl) ?_
  refine va_get (D := D) (ci := 9) (v := .ref (a1 0)) (C := RX11) (T := TX11) (N := 4) hx hb hts hX11 hown hK.1 hP 0 rfl rfl 0 (by decide) (hts (.fieldLink RX11 15 "PledgeHouse" "now" "LPledgeHouse$House;") (by decide +kernel)) (fun _ h9 => h9) rfl dX11_rule_2 ?_
  refine lv_iload_n hx hb dX11_rule_5 rfl (lv_at hl 1 rfl) ?_
  refine lv_iload_n hx hb dX11_rule_6 rfl (lv_at hl 2 rfl) ?_
  have hA := r_rule hR.1 rule v
  have hst : ∀ U : State, U.heap = s.heap → s.WarmedH U.vm → stCT (adA (pH a1) s.heap.size) rL rG U := fun U hU hW => by
    have hm : ∀ q, adA (pH a1) s.heap.size q → ¬ fz q := fun q h => h.elim (fun z => nf_H hI z) (fun z y => absurd (hfz q y) (Nat.not_lt.mpr z))
    exact ⟨by rw [hU]; exact va_Z.moved hW.alike (va_Zm hXs.1 hm), by rw [hU]; exact va_Z.moved hW.alike (va_Zm hXs.2.1 hm), by rw [hU]; exact va_T.moved hW.alike (hXs.2.2.1.narrow hm), by rw [hU]; exact va_T.moved hW.alike (hXs.2.2.2.narrow hm)⟩
  refine c_wG (G := fun H1 => va_P D vwCl (wO o a1 a2 (zik F) (zst F)) H1 ∧ gT D cs o a1 a2 k r fz (N + 1) (sp_rule F rule v).2 H1) (va_runV S (cC_X3_setRuleT l D cs k a1 (sZ h1) _ rL rG hI.1.1 rule v) (cwV 2 hts gX11_rule_X3_setRule rfl rfl rfl (by decide +kernel) ⟨Nat.le_of_ble_eq_true rfl, Nat.le_of_ble_eq_true rfl⟩) (preV_u (As := [.int rule, .int v]) stCT_same hK hZ1 hst hrv) rfl rfl hl.1 rfl (lv_room (Nat.le_of_ble_eq_true rfl)) dX11_rule_7 ⟨Nat.zero_le _, Nat.zero_le _⟩) hS (fun x h => ?_) (fun H1 hz hk hP1 => ?_) (fun H1 locs1 hG hS => ?_)
  · rcases h with h | h
    · exact nf_H hI h
    · exact fun z => absurd (hfz x z) (Nat.not_lt.mpr h)
  · have hk2 : ∀ x, x < s.heap.size → ¬ pH a1 x → H1[x]? = s.heap[x]? := fun x hx n1 => hk x hx (fun z => by
        rcases z with z | z
        · exact n1 z
        · exact absurd hx (Nat.not_lt.mpr z))
    exact gT_hb hP hR (by omega) hI hH hfz ⟨Nat.le_refl _, Nat.le_succ _⟩ hA (kp_rule (rc := rc1)) hz (fun x hx n1 _ => hk2 x hx n1) (by have z := vaL hP1; rw [List.nil_append] at z; exact z) (keepW hH.2.2 wB_p (fun x hx b => hk2 x hx (fun z => dj_HB hI x z b)))
  · exact x11_end S hK hr hlocks hG.1 hG.2 hA.1 hA.2.2.2 hA.2.2.1.2.2.2.2.2 hS (cwV 1 hts gX11_rule_X11_answer rfl rfl rfl (by decide +kernel) ⟨Nat.le_of_ble_eq_true rfl, Nat.le_of_ble_eq_true rfl⟩) hl.1 dX11_rule_10 dX11_rule_13 ⟨Nat.zero_le _, Nat.zero_le _⟩
