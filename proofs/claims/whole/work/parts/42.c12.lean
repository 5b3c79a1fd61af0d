/-! the house: rules, days (by cwalk.py) -/
def sc_X3_setRule (Z : hZ) (rule : Int32) (value : Int32) : Int32 × (hZ) :=
  if rule < 0 then
    ((-1), Z)
  else
    if rule < 14 then
      if value < (tLEAST (tN rule)) then
        ((-6), Z)
      else
        if value ≤ (tGREAT (tN rule)) then
          (0, grp Z (tN rule) value)
        else
          ((-6), Z)
    else
      ((-1), Z)
set_option maxHeartbeats 4000000 in
set_option maxRecDepth 100000 in
theorem cC_X3_setRule (l : Launch) (D : va_G) (cs : Nat → ClassId) (k : Nat → Nat) (a : Nat → Nat) (Z : hZ) (sz rL rG : Nat) (ia : iH a) (rule : Int32) (value : Int32) : Met l yX3_setRule wsX3_setRule ({ frames := 0, cells := 0, slots := 0, locals := 0 }) (cPcU (stC D cs (adA (pH a) sz) rL rG) [.ref (a 0), .int rule, .int value] D cs (([] ++ wH a (k 0) cs Z) ++ []) sz) (cQ D (some (.int (sc_X3_setRule Z rule value).1)) (([] ++ wH a (k 0) cs ((sc_X3_setRule Z rule value).2)) ++ []) (adA (pH a) sz)) 0 0 (adA (pH a) sz) := by
  refine c_inU (P := pH a) (cc := cX3_setRule) (maxL := 3) (ret := (some .int)) (lv := [(0, .ref (a 0)), (1, .int rule), (2, .int value)]) (by decide) rfl (Nat.le_of_ble_eq_true rfl) rfl ?_
  intro p e s m below meth c ls S hr hlocks hin hsz hP hK hX hl hS
  subst hsz
  obtain ⟨hx, hb, hml, hown, hts⟩ := id S
  have hX3 : ∀ w ∈ wsX30, w ∈ wsX3_setRule := by decide +kernel
  refine lv_iload_n hx hb dX3_setRule_0 rfl (lv_at hl 1 rfl) ?_
  refine lv_if_lt (tgt := 13) hx hb dX3_setRule_1 (by decide) (fun c_1 => ?_) (fun c_1 => ?_)
  · refine lv_iconst (v := (-1)) hx hb dX3_setRule_13 (by decide) ?_
    have hsp : sc_X3_setRule Z rule value = ((-1), Z) := by unfold sc_X3_setRule; rw [if_pos c_1]
    exact W.iret hx hb hr (fun t2 ht2 hW => by rw [hsp]; exact ⟨rfl, by rw [ht2]; exact hP, hS.F ht2⟩) hS.2.2 dX3_setRule_14 hlocks
  · refine lv_iload_n hx hb dX3_setRule_4 rfl (lv_at hl 1 rfl) ?_
    refine lv_aload_n hx hb dX3_setRule_5 rfl (lv_at hl 0 rfl) ?_
    refine hx_get hx hb hts hX3 hown hK.1 hP 3 (by decide) (hts (.fieldLink RX3 18 "PledgeHouse$House" "rules" "[I") (by decide +kernel)) rfl (v := .ref (a 1)) rfl dX3_setRule_6 ?_
    refine va_alen hx hb hK.1 hP (_ + 1) 0 (get3 rfl) rfl (v := 14) rfl dX3_setRule_9 ?_
    refine lv_icmp_lt (tgt := 15) hx hb dX3_setRule_10 (by decide) (fun c_2 => ?_) (fun c_2 => ?_)
    · refine lv_iload_n hx hb dX3_setRule_15 rfl (lv_at hl 2 rfl) ?_
      refine va_getsN (host := "PledgeHouse") hx hb hX.1 hS hown (va_Nw.use rfl (hK.2.1 _ (by decide +kernel))) (fun _ h9 => h9) dX3_setRule_16 ?_
      refine lv_iload_n hx hb dX3_setRule_19 rfl (lv_at hl 1 rfl) ?_
      refine x_iald hx hb hK.1 hX.2.2 0 0 rfl rfl (tN rule) (ix_lt (c := 14) (n := 14) rfl (by decide) c_1 (Int32.not_le.mpr c_2)).1 (ix_lt (c := 14) (n := 14) rfl (by decide) c_1 (Int32.not_le.mpr c_2)).2 (by decide) dX3_setRule_20 ?_
      refine lv_icmp_lt (tgt := 33) hx hb dX3_setRule_21 (by decide) (fun c_3 => ?_) (fun c_3 => ?_)
      · refine lv_bipush (v := (-6)) hx hb dX3_setRule_33 (by decide) ?_
        have hsp : sc_X3_setRule Z rule value = ((-6), Z) := by unfold sc_X3_setRule; rw [if_neg c_1, if_pos c_2, if_pos c_3]
        exact W.iret hx hb hr (fun t2 ht2 hW => by rw [hsp]; exact ⟨rfl, by rw [ht2]; exact hP, hS.F ht2⟩) hS.2.2 dX3_setRule_35 hlocks
      · refine lv_iload_n hx hb dX3_setRule_24 rfl (lv_at hl 2 rfl) ?_
        refine va_getsN (host := "PledgeHouse") hx hb hX.2.1 hS hown (va_Nw.use rfl (hK.2.1 _ (by decide +kernel))) (fun _ h9 => h9) dX3_setRule_25 ?_
        refine lv_iload_n hx hb dX3_setRule_28 rfl (lv_at hl 1 rfl) ?_
        refine x_iald hx hb hK.1 hX.2.2 1 0 rfl rfl (tN rule) (ix_lt (c := 14) (n := 14) rfl (by decide) c_1 (Int32.not_le.mpr c_2)).1 (ix_lt (c := 14) (n := 14) rfl (by decide) c_1 (Int32.not_le.mpr c_2)).2 (by decide) dX3_setRule_29 ?_
        refine lv_icmp_le (tgt := 36) hx hb dX3_setRule_30 (by decide) (fun c_4 => ?_) (fun c_4 => ?_)
        · refine lv_aload_n hx hb dX3_setRule_36 rfl (lv_at hl 0 rfl) ?_
          refine hx_get hx hb hts hX3 hown hK.1 hP 3 (by decide) (hts (.fieldLink RX3 18 "PledgeHouse$House" "rules" "[I") (by decide +kernel)) rfl (v := .ref (a 1)) rfl dX3_setRule_37 ?_
          refine lv_iload_n hx hb dX3_setRule_40 rfl (lv_at hl 1 rfl) ?_
          refine lv_iload_n hx hb dX3_setRule_41 rfl (lv_at hl 2 rfl) ?_
          refine hx_rst hx hb hK.1 hP (wH_D ia s.heap.size) hS (tN rule) (ix_lt (c := 14) (n := 14) rfl (by decide) c_1 (Int32.not_le.mpr c_2)).1 (ix_lt (c := 14) (n := 14) rfl (by decide) c_1 (Int32.not_le.mpr c_2)).2 dX3_setRule_42 (fun H locs hP hS => ?_)
          refine lv_iconst (v := 0) hx hb dX3_setRule_43 (by decide) ?_
          have hsp : sc_X3_setRule Z rule value = (0, grp Z (tN rule) value) := by unfold sc_X3_setRule; rw [if_neg c_1, if_pos c_2, if_neg c_3, if_pos c_4]
          exact W.iret hx hb hr (fun t2 ht2 hW => by rw [hsp]; exact ⟨rfl, by rw [ht2]; exact hP, hS.F ht2⟩) hS.2.2 dX3_setRule_44 hlocks
        · refine lv_bipush (v := (-6)) hx hb dX3_setRule_33 (by decide) ?_
          have hsp : sc_X3_setRule Z rule value = ((-6), Z) := by unfold sc_X3_setRule; rw [if_neg c_1, if_pos c_2, if_neg c_3, if_neg c_4]
          exact W.iret hx hb hr (fun t2 ht2 hW => by rw [hsp]; exact ⟨rfl, by rw [ht2]; exact hP, hS.F ht2⟩) hS.2.2 dX3_setRule_35 hlocks
    · refine lv_iconst (v := (-1)) hx hb dX3_setRule_13 (by decide) ?_
      have hsp : sc_X3_setRule Z rule value = ((-1), Z) := by unfold sc_X3_setRule; rw [if_neg c_1, if_neg c_2]
      exact W.iret hx hb hr (fun t2 ht2 hW => by rw [hsp]; exact ⟨rfl, by rw [ht2]; exact hP, hS.F ht2⟩) hS.2.2 dX3_setRule_14 hlocks
def sc_X3_passDays (Z : hZ) (vs : Nat → Nat → Int32) (cn : Nat) (n : Int32) : Int32 × hZ × (Nat → Nat → Int32) :=
  if (gh Z 0).toInt64 + n.toInt64 ≤ 7300 then (if n < 1 then (-6, Z, vs) else if n ≤ 400 then (gh Z 0 + n, ghp Z 0 (gh Z 0 + n), vsD (gh Z 0 + n) vs cn) else (-6, Z, vs)) else (-5, Z, vs)
set_option maxHeartbeats 4000000 in
set_option maxRecDepth 100000 in
theorem cC_X3_passDays (l : Launch) (D : va_G) (cs : Nat → ClassId) (k a : Nat → Nat) (Z : hZ) (bs : Nat → Nat → Nat) (vs : Nat → Nat → Int32) (sz : Nat) (ia : iH a) (cn : Nat) (n : Int32) (hcn : gh Z 1 = nI cn) (hc : cn ≤ 511) (hgt : ∀ i, i < cn → gt Z i = some (bs i 0)) (ib : ∀ i, i < cn → iT (bs i)) (dT : ∀ i j, i < cn → j < cn → i ≠ j → ∀ x, pT (bs i) x → ¬ pT (bs j) x) (dH : ∀ i, i < cn → ∀ x, pT (bs i) x → ¬ pH a x) : Met l yX3_passDays wsX3_passDays ({ frames := 3, cells := 0, slots := 0, locals := 65 }) (cPcF [.ref (a 0), .int n] D cs (([] ++ wH a (k 0) cs Z) ++ []) (tks D bs vs cn) sz) (cQF D (some (.int (sc_X3_passDays Z vs cn n).1)) (([] ++ wH a (k 0) cs (sc_X3_passDays Z vs cn n).2.1) ++ []) (tks D bs (sc_X3_passDays Z vs cn n).2.2 cn) (adA (pOr (pH a) (pTs bs cn)) sz)) 0 0 (adA (pOr (pH a) (pTs bs cn)) sz) := by
  refine c_inF (P := pOr (pH a) (pTs bs cn)) (cc := cX3_passDays) (maxL := 4) (ret := (some .int)) (lv := [(0, .ref (a 0)), (1, .int n)]) (by decide) rfl (Nat.le_of_ble_eq_true rfl) rfl ?_
  intro p e s m below meth c ls S hr hlocks hin hsz hP hK hF hl hSo
  subst hsz
  obtain ⟨hx, hb, hml, hown, hts⟩ := id S
  have hcn2 : gh (ghp Z 0 (gh Z 0 + n)) 1 = nI cn := (gh_ghp_ne (by decide)).trans hcn
  have hgt2 : ∀ i, i < cn → gt (ghp Z 0 (gh Z 0 + n)) i = some (bs i 0) := hgt
  have hS : va_S (adA (pH a) s.heap.size) s.heap s.heap [] := va_S.rf
  have hX3 : ∀ w ∈ wsX30, w ∈ wsX3_passDays := by decide +kernel
  have hX9 : ∀ w ∈ wsX90, w ∈ wsX3_passDays := by decide +kernel
  have loop : (gh Z 0).toInt64 + n.toInt64 ≤ 7300 → ¬ n < 1 → n ≤ 400 → ∀ (n9 i : Nat) (H : Heap) (locs : List Loc) (ls : Array Slot), i + n9 = cn → va_P D vwCl (([] ++ wH a (k 0) cs (ghp Z 0 (gh Z 0 + n))) ++ []) H → tks D bs (vsD (gh Z 0 + n) vs i) cn H → va_S (adA (pOr (pH a) (pTs bs cn)) s.heap.size) s.heap H locs → lv_has ls 4 [(0, .ref (a 0)), (1, .int n), (2, .int (nI (i + 1)))] → W p l e ({ frames := 3, cells := 0, slots := 0, locals := 65 }) s m [.ref (a 0), .int n].toArray below meth c H locs 0 0 (MQ below (cQF D (some (.int (sc_X3_passDays Z vs cn n).1)) (([] ++ wH a (k 0) cs (sc_X3_passDays Z vs cn n).2.1) ++ []) (tks D bs (sc_X3_passDays Z vs cn n).2.2 cn) (adA (pOr (pH a) (pTs bs cn)) s.heap.size)) [.ref (a 0), .int n].toArray s 0 0 (adA (pOr (pH a) (pTs bs cn)) s.heap.size)) (F0 m 45 ls []) := by
    intro hc1 hc2 hc3
    intro n9
    induction n9 with
    | zero =>
      intro i H locs ls hn hP hF hS hl
      obtain rfl : i = cn := by omega
      refine lv_iload_n hx hb dX3_passDays_45 rfl (lv_at hl 2 rfl) ?_
      refine lv_aload_n hx hb dX3_passDays_46 rfl (lv_at hl 0 rfl) ?_
      refine hx_get hx hb hts hX3 hown hK.1 hP 8 (by decide) (hts (.fieldLink RX3 59 "PledgeHouse$House" "ticketCount" "I") (by decide +kernel)) rfl (v := .int (gh (ghp Z 0 (gh Z 0 + n)) 1)) rfl dX3_passDays_47 ?_
      refine wtop (congrArg Value.int (show gh (ghp Z 0 (gh Z 0 + n)) 1 = gh Z 1 from (gh_ghp_ne (by decide)))) ?_
      refine lv_icmp_gt (tgt := 84) hx hb dX3_passDays_50 (by decide) (fun c_1 => ?_) (fun c_1 => ?_)
      · refine lv_aload_n hx hb dX3_passDays_84 rfl (lv_at hl 0 rfl) ?_
        refine hx_get hx hb hts hX3 hown hK.1 hP 2 (by decide) (hts (.fieldLink RX3 50 "PledgeHouse$House" "today" "I") (by decide +kernel)) rfl (v := .int (gh (ghp Z 0 (gh Z 0 + n)) 0)) rfl dX3_passDays_85 ?_
        refine wtop (congrArg Value.int (show gh (ghp Z 0 (gh Z 0 + n)) 0 = gh Z 0 + n from gh_ghp_eq)) ?_
        have hsp : sc_X3_passDays Z vs i n = (gh Z 0 + n, ghp Z 0 (gh Z 0 + n), vsD (gh Z 0 + n) vs i) := by unfold sc_X3_passDays; rw [if_pos hc1, if_neg hc2, if_pos hc3]
        exact W.iret hx hb hr (fun t2 ht2 hW => by rw [hsp]; exact ⟨rfl, by rw [ht2]; exact hP, by rw [ht2]; exact hF, hS.F ht2⟩) hS.2.2 dX3_passDays_88 hlocks
      · exact absurd (by rw [hcn]; exact (nI_ltI (a := i) (b := i + 1) (by omega) (by omega)).mpr (Nat.lt_succ_self _)) c_1
    | succ n9 ih =>
      intro i H locs ls hn hP hF hS hl
      have hFi : va_P D vwCl (wT (bs i) (nI (i + 1)) (vs i)) H := by have := hF i (by omega); rw [vsD_at] at this; exact this
      refine lv_iload_n hx hb dX3_passDays_45 rfl (lv_at hl 2 rfl) ?_
      refine lv_aload_n hx hb dX3_passDays_46 rfl (lv_at hl 0 rfl) ?_
      refine hx_get hx hb hts hX3 hown hK.1 hP 8 (by decide) (hts (.fieldLink RX3 59 "PledgeHouse$House" "ticketCount" "I") (by decide +kernel)) rfl (v := .int (gh (ghp Z 0 (gh Z 0 + n)) 1)) rfl dX3_passDays_47 ?_
      refine wtop (congrArg Value.int (show gh (ghp Z 0 (gh Z 0 + n)) 1 = gh Z 1 from (gh_ghp_ne (by decide)))) ?_
      refine lv_icmp_gt (tgt := 84) hx hb dX3_passDays_50 (by decide) (fun c_2 => ?_) (fun c_2 => ?_)
      · exact absurd ((nI_ltI (a := cn) (b := i + 1) (by omega) (by omega)).mp (hcn ▸ c_2)) (by omega)
      · refine lv_aload_n hx hb dX3_passDays_53 rfl (lv_at hl 0 rfl) ?_
        refine lv_iload_n hx hb dX3_passDays_54 rfl (lv_at hl 2 rfl) ?_
        by_cases c_3 : sc_X9_isOpen (nI (i + 1)) (vs i) = 0
        · refine c_rd S hK (va_P.app (va_P.app hFi (vaR (vaL hP))) nilP) (va_recv hK.1 hP (ci := 3) (q0 := _ + 0) rfl (get3 rfl)) (As := [.int (nI (i + 1))]) (rest := []) (cC_X3_findOpen_c l D cs (bs i) (nI (i + 1)) (vs i) k a (ghp Z 0 (gh Z 0 + n)) _ (nI (i + 1)) (cn_le hcn2 hc) (ft_some hcn2 hc hgt2 (by omega)) c_3) (cwV 1 hts gX3_passDays_X3_findOpen rfl rfl rfl (by decide +kernel) ⟨Nat.le_of_ble_eq_true rfl, Nat.le_of_ble_eq_true rfl⟩) rfl hl.1 rfl (Nat.le_of_ble_eq_true rfl) dX3_passDays_55 ⟨Nat.zero_le _, Nat.zero_le _⟩ ?_
          refine lv_astore_nN (lv' := [(3, .null), (0, .ref (a 0)), (1, .int n), (2, .int (nI (i + 1)))]) hx hb dX3_passDays_58 rfl hl (by decide) rfl (fun ls hl => ?_)
          refine lv_aload_nN hx hb dX3_passDays_59 rfl (lv_at hl 0 rfl) ?_
          refine lv_ifnullN (tgt := 78) hx hb dX3_passDays_60 (by decide) ?_
          refine lv_iinc (v := (nI (i + 1)) + 1) (lv' := [(2, .int ((nI (i + 1)) + 1)), (3, .null), (0, .ref (a 0)), (1, .int n)]) hx hb dX3_passDays_78 hl (k := 3) rfl rfl (by decide) rfl (fun ls hl => ?_)
          refine lv_goto (tgt := 45) hx hb dX3_passDays_81 (by decide) ?_
          rw [show nI (i + 1) + 1 = nI (i + 1 + 1) from nI_1 _] at hl
          refine ih (i + 1) H locs ls (by omega) hP (fun j hj => ?_) hS (lv_sub hl [2, 3, 0] rfl)
          by_cases hji : j = i
          · subst hji; rw [vsD_se]; unfold tkD; rw [if_pos c_3]; exact hFi
          · rw [vsD_sn hji]; exact hF j hj
        · refine c_rd S hK (va_P.app (va_P.app hFi (vaR (vaL hP))) nilP) (va_recv hK.1 hP (ci := 3) (q0 := _ + 0) rfl (get3 rfl)) (As := [.int (nI (i + 1))]) (rest := []) (cC_X3_findOpen_o l D cs (bs i) (nI (i + 1)) (vs i) k a (ghp Z 0 (gh Z 0 + n)) _ (nI (i + 1)) (cn_le hcn2 hc) (ft_some hcn2 hc hgt2 (by omega)) c_3) (cwV 1 hts gX3_passDays_X3_findOpen rfl rfl rfl (by decide +kernel) ⟨Nat.le_of_ble_eq_true rfl, Nat.le_of_ble_eq_true rfl⟩) rfl hl.1 rfl (Nat.le_of_ble_eq_true rfl) dX3_passDays_55 ⟨Nat.zero_le _, Nat.zero_le _⟩ ?_
          refine lv_astore_n (lv' := [(3, .ref (bs i 0)), (0, .ref (a 0)), (1, .int n), (2, .int (nI (i + 1)))]) hx hb dX3_passDays_58 rfl hl (by decide) rfl (fun ls hl => ?_)
          refine lv_aload_n hx hb dX3_passDays_59 rfl (lv_at hl 0 rfl) ?_
          refine lv_ifnull hx hb dX3_passDays_60 ?_
          refine lv_aload_n hx hb dX3_passDays_63 rfl (lv_at hl 0 rfl) ?_
          refine va_get (D := D) (ci := 8) (v := .ref (bs i 1)) (C := RX9) (T := TX9) (N := 19) hx hb hts hX9 hown hK.1 hFi 0 rfl rfl 6 (by decide) (hts (.fieldLink RX3 77 "PledgeHouse$Ticket" "term" "LPledgeHouse$Term;") (by decide +kernel)) (fun _ h9 => h9) rfl dX3_passDays_64 ?_
          refine lv_aload_n hx hb dX3_passDays_67 rfl (lv_at hl 1 rfl) ?_
          refine hx_get hx hb hts hX3 hown hK.1 hP 2 (by decide) (hts (.fieldLink RX3 50 "PledgeHouse$House" "today" "I") (by decide +kernel)) rfl (v := .int (gh (ghp Z 0 (gh Z 0 + n)) 0)) rfl dX3_passDays_68 ?_
          refine wtop (congrArg Value.int (show gh (ghp Z 0 (gh Z 0 + n)) 0 = gh Z 0 + n from gh_ghp_eq)) ?_
          refine lv_aload_n hx hb dX3_passDays_71 rfl (lv_at hl 0 rfl) ?_
          refine va_get (D := D) (ci := 8) (v := .int (vs i 1)) (C := RX9) (T := TX9) (N := 19) hx hb hts hX9 hown hK.1 hFi 0 rfl rfl 4 (by decide) (hts (.fieldLink RX3 81 "PledgeHouse$Ticket" "principal" "I") (by decide +kernel)) (fun _ h9 => h9) rfl dX3_passDays_72 ?_
          refine c_wG (G := fun H1 => va_P D vwCl (([] ++ wH a (k 0) cs (ghp Z 0 (gh Z 0 + n))) ++ []) H1 ∧ tks D bs (vsD (gh Z 0 + n) vs (i + 1)) cn H1) (rest := []) (va_runV S (As := [.int (gh Z 0 + n), .int (vs i 1)]) (cC_X7_reachDay l D cs (bs i) (nI (i + 1)) (vs i) _ (ib i (by omega)) (gh Z 0 + n) (vs i 1)) (cwV 2 hts gX3_passDays_X7_reachDay rfl rfl rfl (by decide +kernel) ⟨Nat.le_of_ble_eq_true rfl, Nat.le_of_ble_eq_true rfl⟩) (preV_c hK hFi (va_recv hK.1 hFi (ci := 6) (q0 := 1) rfl rfl)) rfl rfl hl.1 rfl (lv_room (Nat.le_of_ble_eq_true rfl)) dX3_passDays_75 ⟨Nat.zero_le _, Nat.zero_le _⟩) hS (fun q h => h.elim (fun t => Or.inl (Or.inr ⟨i, by omega, t⟩)) (fun z => Or.inr (Nat.le_trans hS.1 z))) (fun H1 _ hk h => ⟨keepP (vaR (vaL hP)) wH_p (fun q h1 h2 => dH i (by omega) q h2 h1) hk, fun j hj => ?_⟩) (fun H locs hPF hS => ?_)
          · by_cases hji : j = i
            · subst hji; rw [vsD_se]; unfold tkD; rw [if_neg c_3]; exact h
            · rw [vsD_sn hji]; exact keepP (hF j hj) wT_p (dT j i hj (by omega) hji) hk
          refine lv_iinc (v := (nI (i + 1)) + 1) (lv' := [(2, .int ((nI (i + 1)) + 1)), (3, .ref (bs i 0)), (0, .ref (a 0)), (1, .int n)]) hx hb dX3_passDays_78 hl (k := 3) rfl rfl (by decide) rfl (fun ls hl => ?_)
          refine lv_goto (tgt := 45) hx hb dX3_passDays_81 (by decide) ?_
          rw [show nI (i + 1) + 1 = nI (i + 1 + 1) from nI_1 _] at hl
          exact ih (i + 1) H locs ls (by omega) hPF.1 hPF.2 hS (lv_sub hl [2, 3, 0] rfl)
  refine lv_aload_n hx hb dX3_passDays_0 rfl (lv_at hl 0 rfl) ?_
  refine hx_get hx hb hts hX3 hown hK.1 hP 2 (by decide) (hts (.fieldLink RX3 50 "PledgeHouse$House" "today" "I") (by decide +kernel)) rfl (v := .int (gh Z 0)) rfl dX3_passDays_1 ?_
  refine lv_i2l (v := (gh Z 0).toInt64) hx hb dX3_passDays_4 rfl ?_
  refine lv_iload_n hx hb dX3_passDays_5 rfl (lv_at hl 1 rfl) ?_
  refine lv_i2l (v := n.toInt64) hx hb dX3_passDays_6 rfl ?_
  refine lv_ladd hx hb dX3_passDays_7 ?_
  refine lv_ldc2 (v := 7300) hx hb hown (hts (.constantLong RX3 71 (7300)) (by decide +kernel)) dX3_passDays_8 ?_
  refine W.lcmp hx hb dX3_passDays_11 ?_
  refine lv_if_le (tgt := 18) hx hb dX3_passDays_12 (by decide) (fun c_4 => ?_) (fun c_4 => ?_)
  · have c_4 := (lg_cmp_le _ _).mp c_4
    refine lv_iload_n hx hb dX3_passDays_18 rfl (lv_at hl 1 rfl) ?_
    refine lv_iconst (v := 1) hx hb dX3_passDays_19 (by decide) ?_
    refine lv_icmp_lt (tgt := 30) hx hb dX3_passDays_20 (by decide) (fun c_5 => ?_) (fun c_5 => ?_)
    · refine lv_bipush (v := (-6)) hx hb dX3_passDays_30 (by decide) ?_
      have hsp : sc_X3_passDays Z vs cn n = ((-6), Z, vs) := by unfold sc_X3_passDays; rw [if_pos c_4, if_pos c_5]
      exact W.iret hx hb hr (fun t2 ht2 hW => by rw [hsp]; exact ⟨rfl, by rw [ht2]; exact hP, by rw [ht2]; exact hF, hSo.F ht2⟩) hSo.2.2 dX3_passDays_32 hlocks
    · refine lv_iload_n hx hb dX3_passDays_23 rfl (lv_at hl 1 rfl) ?_
      refine lv_sipush (v := 400) hx hb dX3_passDays_24 (by decide) ?_
      refine lv_icmp_le (tgt := 33) hx hb dX3_passDays_27 (by decide) (fun c_6 => ?_) (fun c_6 => ?_)
      · refine lv_aload_n hx hb dX3_passDays_33 rfl (lv_at hl 0 rfl) ?_
        refine lv_dup hx hb dX3_passDays_34 rfl ?_
        refine hx_get hx hb hts hX3 hown hK.1 hP 2 (by decide) (hts (.fieldLink RX3 50 "PledgeHouse$House" "today" "I") (by decide +kernel)) rfl (v := .int (gh Z 0)) rfl dX3_passDays_35 ?_
        refine lv_iload_n hx hb dX3_passDays_38 rfl (lv_at hl 1 rfl) ?_
        refine lv_iadd hx hb dX3_passDays_39 ?_
        refine hx_put hx hb hts hX3 hown hK.1 hP (wH_D ia s.heap.size) hS 2 0 (by decide) (hts (.fieldLink RX3 50 "PledgeHouse$House" "today" "I") (by decide +kernel)) dX3_passDays_40 (fun H locs hP hS => ?_)
        refine lv_iconst (v := 1) hx hb dX3_passDays_43 (by decide) ?_
        refine lv_istore_n (lv' := [(2, .int 1), (0, .ref (a 0)), (1, .int n)]) hx hb dX3_passDays_44 rfl hl (by decide) rfl (fun ls hl => ?_)
        exact loop c_4 c_5 c_6 cn 0 H locs ls (by omega) hP (by rw [vsD_0]; exact fun j hj => keepA (hF j hj) wT_p (dH j hj) hS) (va_Smono (fun q h => adA_l q h) hS) (lv_sub hl [1, 2, 0] rfl)
      · refine lv_bipush (v := (-6)) hx hb dX3_passDays_30 (by decide) ?_
        have hsp : sc_X3_passDays Z vs cn n = ((-6), Z, vs) := by unfold sc_X3_passDays; rw [if_pos c_4, if_neg c_5, if_neg c_6]
        exact W.iret hx hb hr (fun t2 ht2 hW => by rw [hsp]; exact ⟨rfl, by rw [ht2]; exact hP, by rw [ht2]; exact hF, hSo.F ht2⟩) hSo.2.2 dX3_passDays_32 hlocks
  · have c_4 : ¬ (((gh Z 0).toInt64) + n.toInt64) ≤ 7300 := fun h => c_4 ((lg_cmp_le _ _).mpr h)
    refine lv_bipush (v := (-5)) hx hb dX3_passDays_15 (by decide) ?_
    have hsp : sc_X3_passDays Z vs cn n = ((-5), Z, vs) := by unfold sc_X3_passDays; rw [if_neg c_4]
    exact W.iret hx hb hr (fun t2 ht2 hW => by rw [hsp]; exact ⟨rfl, by rw [ht2]; exact hP, by rw [ht2]; exact hF, hSo.F ht2⟩) hSo.2.2 dX3_passDays_17 hlocks
