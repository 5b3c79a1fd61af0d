/-! the house: what comes to places (by cwalk.py) -/
def sc_X3_putDown (Z : hZ) (RW : Nat → Nat → Int64) (q : Nat → Nat) (pl : pZ) (rc : Nat) (place : Int32) : (hZ) × (Nat → Nat → Int64) :=
  ((sc_X3_addRow (gpp Z (tN place) (some (q 0))) RW rc).1, rwp ((sc_X3_addRow (gpp Z (tN place) (some (q 0))) RW rc).2) rc 11 ((((sc_X3_addRow (gpp Z (tN place) (some (q 0))) RW rc).2) rc 11) + 1))
set_option maxHeartbeats 4000000 in
set_option maxRecDepth 100000 in
theorem cC_X3_putDown (l : Launch) (D : va_G) (cs : Nat → ClassId) (q : Nat → Nat) (pl : pZ) (k : Nat → Nat) (a : Nat → Nat) (Z : hZ) (r : Nat → Nat) (RW : Nat → Nat → Int64) (sz : Nat) (ia : iH a) (ik : iB k r) (d : dHB a k r) (rc : Nat) (place : Int32) (hrc : gh Z 2 = nI rc) (hrl : rc ≤ 511) (hpl : place = nI (tN place) ∧ tN place < 40) : Met l yX3_putDown wsX3_putDown ({ frames := 3, cells := 0, slots := 0, locals := 67 }) (cPcX [.ref (a 0), .int place, .ref (q 0)] D cs (([] ++ wH a (k 0) cs Z) ++ wB k r cs RW) (wP q cs pl) sz) (cQ D none (([] ++ wH a (k 0) cs ((sc_X3_putDown Z RW q pl rc place).1)) ++ wB k r cs ((sc_X3_putDown Z RW q pl rc place).2)) (adA (pOr (pH a) (pB k r)) sz)) 0 0 (adA (pOr (pH a) (pB k r)) sz) := by
  refine c_inX (P := pOr (pH a) (pB k r)) (cc := cX3_putDown) (maxL := 3) (ret := none) (lv := [(0, .ref (a 0)), (1, .int place), (2, .ref (q 0))]) (by decide) rfl (Nat.le_of_ble_eq_true rfl) rfl ?_
  intro p e s m below meth c ls S hr hlocks hin hsz hP hK hX0 hl hS
  subst hsz
  obtain ⟨hx, hb, hml, hown, hts⟩ := id S
  have hltH := wH_lt (vaL hP)
  have hltB := wB_lt (vaR hP)
  have hX3 : ∀ w ∈ wsX30, w ∈ wsX3_putDown := by decide +kernel
  refine lv_aload_n hx hb dX3_putDown_0 rfl (lv_at hl 0 rfl) ?_
  refine hx_get hx hb hts hX3 hown hK.1 hP 4 (by decide) (hts (.fieldLink RX3 25 "PledgeHouse$House" "pledges" "[LPledgeHouse$Pledge;") (by decide +kernel)) rfl (v := .ref (a 2)) rfl dX3_putDown_1 ?_
  refine lv_iload_n hx hb dX3_putDown_4 rfl (lv_at hl 1 rfl) ?_
  refine lv_aload_n hx hb dX3_putDown_5 rfl (lv_at hl 2 rfl) ?_
  refine hx_pst hx hb hK.1 hP (wHB_D ia ik d s.heap.size) hS (any_P hK hX0) (tN place) hpl.1 hpl.2 dX3_putDown_6 (fun H locs hP hS => ?_)
  refine lv_aload_n hx hb dX3_putDown_7 rfl (lv_at hl 0 rfl) ?_
  refine c_wr (WS' := ([] ++ wH a (k 0) cs ((sc_X3_addRow (gpp Z (tN place) (some (q 0))) RW rc).1)) ++ wB k r cs ((sc_X3_addRow (gpp Z (tN place) (some (q 0))) RW rc).2)) S hK (hP) (va_recv hK.1 hP (ci := 3) (q0 := _ + 0) rfl (get3 rfl)) hS (As := []) (rest := []) (cC_X3_addRow l D cs k a (gpp Z (tN place) (some (q 0))) r RW _ ia ik d rc ((show gh (gpp Z (tN place) (some (q 0))) 2 = gh Z 2 from gh_gpp).trans hrc) hrl) (cwV 0 hts gX3_putDown_X3_addRow rfl rfl rfl (by decide +kernel) ⟨Nat.le_of_ble_eq_true rfl, Nat.le_of_ble_eq_true rfl⟩) rfl hl.1 rfl (Nat.le_of_ble_eq_true rfl) dX3_putDown_8 ⟨Nat.le_of_ble_eq_true rfl, Nat.le_of_ble_eq_true rfl⟩ (adA_le hS.1) (fun _ _ _ h => h) (fun H locs hP hS => ?_)
  refine lv_bipush (v := 11) hx hb dX3_putDown_11 (by decide) ?_
  refine lv_dup2_11 hx hb dX3_putDown_13 rfl rfl ?_
  refine b_lald hx hb hK.1 hP rc 11 (Nat.lt_of_le_of_lt hrl (by decide)) rfl (by decide) (v := ((sc_X3_addRow (gpp Z (tN place) (some (q 0))) RW rc).2) rc 11) rfl dX3_putDown_14 ?_
  refine lv_lconst (v := 1) hx hb dX3_putDown_15 (by decide) ?_
  refine lv_ladd hx hb dX3_putDown_16 ?_
  refine b_last hx hb hK.1 hP (wHB_D ia ik d s.heap.size) hS rc 11 (Nat.lt_of_le_of_lt hrl (by decide)) rfl (by decide) dX3_putDown_17 (fun H locs hP hS => ?_)
  have hsp : sc_X3_putDown Z RW q pl rc place = ((sc_X3_addRow (gpp Z (tN place) (some (q 0))) RW rc).1, rwp ((sc_X3_addRow (gpp Z (tN place) (some (q 0))) RW rc).2) rc 11 ((((sc_X3_addRow (gpp Z (tN place) (some (q 0))) RW rc).2) rc 11) + 1)) := rfl
  exact W.vret hx hb hr (fun t2 ht2 hW => by rw [hsp]; exact ⟨rfl, by rw [ht2]; exact hP, hS.F ht2⟩) hS.2.2 dX3_putDown_18 hlocks
def sc_X3_bringThing (Z : hZ) (RW : Nat → Nat → Int64) (n : Nat → Nat) (rc : Nat) (place : Int32) (value : Int32) : Int32 × (hZ) × (Nat → Nat → Int64) × Option pZ :=
  if (sc_X3_whyNotTo Z place) = 0 then
    if (sc_X3_isValue value) = 0 then
      ((-6), Z, RW, none)
    else
      (0, (sc_X3_putDown Z RW n (0, fun i => ([value] : List Int32).getD i 0, 0) rc place).1, (sc_X3_putDown Z RW n (0, fun i => ([value] : List Int32).getD i 0, 0) rc place).2, some (0, fun i => ([value] : List Int32).getD i 0, 0))
  else
    (sc_X3_whyNotTo Z place, Z, RW, none)
set_option maxHeartbeats 4000000 in
set_option maxRecDepth 100000 in
theorem cC_X3_bringThing (l : Launch) (D : va_G) (cs : Nat → ClassId) (k : Nat → Nat) (a : Nat → Nat) (Z : hZ) (r : Nat → Nat) (RW : Nat → Nat → Int64) (sz : Nat) (ia : iH a) (ik : iB k r) (d : dHB a k r) (rc : Nat) (place : Int32) (value : Int32) (hrc : gh Z 2 = nI rc) (hrl : rc ≤ 511) : Met l yX3_bringThing wsX3_bringThing ({ frames := 4, cells := 1, slots := 1, locals := 89 }) (cPc [.ref (a 0), .int place, .int value] D cs (([] ++ wH a (k 0) cs Z) ++ wB k r cs RW) sz) (cQN D 2 (fun n => some (.int (sc_X3_bringThing Z RW n rc place value).1)) (fun n => (wPo n cs (sc_X3_bringThing Z RW n rc place value).2.2.2 ++ wH a (k 0) cs ((sc_X3_bringThing Z RW n rc place value).2.1)) ++ wB k r cs ((sc_X3_bringThing Z RW n rc place value).2.2.1)) (adA (pOr (pH a) (pB k r)) sz)) 1 1 (adA (pOr (pH a) (pB k r)) sz) := by
  refine c_in (P := pOr (pH a) (pB k r)) (cc := cX3_bringThing) (maxL := 4) (ret := (some .int)) (lv := [(0, .ref (a 0)), (1, .int place), (2, .int value)]) (by decide) rfl (Nat.le_of_ble_eq_true rfl) rfl ?_
  intro p e s m below meth c ls S hr hlocks hin hsz hP hK hl hS
  subst hsz
  obtain ⟨hx, hb, hml, hown, hts⟩ := id S
  have hltH := wH_lt (vaL hP)
  have hltB := wB_lt (vaR hP)
  have hX8 : ∀ w ∈ wsX80, w ∈ wsX3_bringThing := by decide +kernel
  refine lv_aload_n hx hb dX3_bringThing_0 rfl (lv_at hl 0 rfl) ?_
  refine lv_iload_n hx hb dX3_bringThing_1 rfl (lv_at hl 1 rfl) ?_
  refine c_rd S hK (show va_P D vwCl (([] ++ wH a (k 0) cs Z) ++ []) _ from vaL hP) (va_recv hK.1 hP (ci := 3) (q0 := _ + 0) rfl (get3 rfl)) (As := [.int place]) (rest := []) (cC_X3_whyNotTo l D cs k a Z _  place ) (cwV 1 hts gX3_bringThing_X3_whyNotTo rfl rfl rfl (by decide +kernel) ⟨Nat.le_of_ble_eq_true rfl, Nat.le_of_ble_eq_true rfl⟩) rfl hl.1 rfl (Nat.le_of_ble_eq_true rfl) dX3_bringThing_2 ⟨Nat.le_of_ble_eq_true rfl, Nat.le_of_ble_eq_true rfl⟩ ?_
  refine lv_istore_n (lv' := [(3, .int (sc_X3_whyNotTo Z place)), (0, .ref (a 0)), (1, .int place), (2, .int value)]) hx hb dX3_bringThing_5 rfl hl (by decide) rfl (fun ls hl => ?_)
  refine lv_iload_n hx hb dX3_bringThing_6 rfl (lv_at hl 0 rfl) ?_
  refine lv_if_eq (tgt := 12) hx hb dX3_bringThing_7 (by decide) (fun c_1 => ?_) (fun c_1 => ?_)
  · refine lv_iload_n hx hb dX3_bringThing_12 rfl (lv_at hl 3 rfl) ?_
    refine m_st S (As := [.int value]) (rest := []) (cC_X3_isValue l value) (cwS 1 hts gX3_bringThing_X3_isValue rfl rfl rfl (by decide +kernel) ⟨Nat.le_of_ble_eq_true rfl, Nat.le_of_ble_eq_true rfl⟩) rfl hl.1 rfl (Nat.le_of_ble_eq_true rfl) dX3_bringThing_13 ⟨Nat.le_of_ble_eq_true rfl, Nat.le_of_ble_eq_true rfl⟩ ?_
    refine lv_if_ne (tgt := 22) hx hb dX3_bringThing_16 (by decide) (fun c_2 => ?_) (fun c_2 => ?_)
    · refine lv_aload_n hx hb dX3_bringThing_22 rfl (lv_at hl 1 rfl) ?_
      refine lv_iload_n hx hb dX3_bringThing_23 rfl (lv_at hl 2 rfl) ?_
      refine x_new hx hb hts hX8 tyX8 tyX8_ok hown (hts (.classLink RX3 124 RX8) (by decide +kernel)) (hts (.instantiable RX8 1) (by decide +kernel)) (hts (.initialized RX8) (by decide +kernel)) hK.1 hP hS (ci := 7) rfl (fs := [.int 0]) dfX8 (Nat.le_of_ble_eq_true rfl) (Nat.le_of_ble_eq_true rfl) dX3_bringThing_24 (fun n1 H hn1 ln1 hP hS => ?_)
      have hP : va_P D vwCl (([(n1, .inr (7, [.int 0]))] ++ wH a (k 0) cs Z) ++ wB k r cs RW) H := hP
      refine lv_dup hx hb dX3_bringThing_27 rfl ?_
      refine lv_iload_n hx hb dX3_bringThing_28 rfl (lv_at hl 3 rfl) ?_
      refine c_w1 (WS' := (wP (two n1 (n1 + 1)) cs (0, fun i => ([value] : List Int32).getD i 0, 0) ++ wH a (k 0) cs Z) ++ wB k r cs RW) (rest := [.ref n1, .int place, .ref (a 0)]) (va_runI S (As := [.int value]) (b := n1) (cC_X8_init l D cs n1 _ value ) (cwI 1 hts gX3_bringThing_X8_init rfl rfl rfl (hts (.initialized RX8) (by decide +kernel)) (hts (.methodLink RX3 126 yX8_init) (by decide +kernel)) (hts (.instanceMethod yX8_init) (by decide +kernel)) rfl (by decide +kernel) ⟨Nat.le_of_ble_eq_true rfl, Nat.le_of_ble_eq_true rfl⟩) (preS_c hK (vaL (vaL hP))) rfl rfl hl.1 rfl (lv_room (Nat.le_of_ble_eq_true rfl)) dX3_bringThing_29 ⟨Nat.le_of_ble_eq_true rfl, Nat.le_of_ble_eq_true rfl⟩) hS (fun q h => h.elim (fun z => Or.inr (by rw [show q = n1 from z]; exact hn1)) (fun z => Or.inr (Nat.le_trans hS.1 z))) (fun H1 _ hk h => va_P.app (va_P.app h (keepP (vaR (vaL hP)) wH_p (fr1 hltH hn1) hk)) (keepP (vaR hP) wB_p (fr1 hltB hn1) hk)) (fun H locs hP hS => ?_)
      refine c_w1 (WS' := (wP (two n1 (n1 + 1)) cs (0, fun i => ([value] : List Int32).getD i 0, 0) ++ wH a (k 0) cs ((sc_X3_putDown Z RW (two n1 (n1 + 1)) (0, fun i => ([value] : List Int32).getD i 0, 0) rc place).1)) ++ wB k r cs ((sc_X3_putDown Z RW (two n1 (n1 + 1)) (0, fun i => ([value] : List Int32).getD i 0, 0) rc place).2)) (rest := []) (va_runV S (As := [.int place, .ref n1]) (cC_X3_putDown l D cs (two n1 (n1 + 1)) (0, fun i => ([value] : List Int32).getD i 0, 0) k a Z r RW _ ia ik d rc place hrc hrl ⟨(wt_of c_1).1, (wt_of c_1).2⟩) (cwV 2 hts gX3_bringThing_X3_putDown rfl rfl rfl (by decide +kernel) ⟨Nat.le_of_ble_eq_true rfl, Nat.le_of_ble_eq_true rfl⟩) (preV_x hK (show va_P D vwCl (([] ++ wH a (k 0) cs Z) ++ wB k r cs RW) _ from va_P.app (vaR (vaL hP)) (vaR hP)) (vaL (vaL hP)) (va_recv hK.1 hP (ci := 3) (q0 := _ + 0) rfl (get3 rfl))) rfl rfl hl.1 rfl (lv_room (Nat.le_of_ble_eq_true rfl)) dX3_bringThing_32 ⟨Nat.le_of_ble_eq_true rfl, Nat.le_of_ble_eq_true rfl⟩) hS (adA_le hS.1) (fun H1 _ hk h => (va_P.app (va_P.app (keepP (vaL (vaL hP)) wP_p (fr2 (pOr_lt hltH hltB) (two_ge hn1 (Nat.le_succ_of_le hn1))) hk) (vaL h)) (vaR h))) (fun H locs hP hS => ?_)
      refine lv_iconst (v := 0) hx hb dX3_bringThing_35 (by decide) ?_
      have hsp : sc_X3_bringThing Z RW (two n1 (n1 + 1)) rc place value = (0, (sc_X3_putDown Z RW (two n1 (n1 + 1)) (0, fun i => ([value] : List Int32).getD i 0, 0) rc place).1, (sc_X3_putDown Z RW (two n1 (n1 + 1)) (0, fun i => ([value] : List Int32).getD i 0, 0) rc place).2, some (0, fun i => ([value] : List Int32).getD i 0, 0)) := by unfold sc_X3_bringThing; rw [if_pos c_1, if_neg c_2]
      refine W.widen (k := 1) (n := 1) (Nat.le_of_ble_eq_true rfl) (Nat.le_of_ble_eq_true rfl) ?_
      exact W.iret hx hb hr (fun t2 ht2 hW => ⟨two n1 (n1 + 1), (two_ge hn1 (Nat.le_succ_of_le hn1)), (two_inj (Nat.ne_of_lt (Nat.lt_succ_self _))), by show _ = Outcome.returned (some (Value.int (sc_X3_bringThing Z RW (two n1 (n1 + 1)) rc place value).1)); rw [hsp], by rw [ht2]; show va_P D vwCl ((wPo (two n1 (n1 + 1)) cs (sc_X3_bringThing Z RW (two n1 (n1 + 1)) rc place value).2.2.2 ++ wH a (k 0) cs ((sc_X3_bringThing Z RW (two n1 (n1 + 1)) rc place value).2.1)) ++ wB k r cs ((sc_X3_bringThing Z RW (two n1 (n1 + 1)) rc place value).2.2.1)) _; rw [hsp]; exact hP, hS.F ht2⟩) hS.2.2 dX3_bringThing_36 hlocks
    · refine lv_bipush (v := (-6)) hx hb dX3_bringThing_19 (by decide) ?_
      have hsp : sc_X3_bringThing Z RW (two s.heap.size (s.heap.size + 1)) rc place value = ((-6), Z, RW, none) := by unfold sc_X3_bringThing; rw [if_pos c_1, if_pos c_2]
      refine W.widen (k := 1) (n := 1) (Nat.le_of_ble_eq_true rfl) (Nat.le_of_ble_eq_true rfl) ?_
      exact W.iret hx hb hr (fun t2 ht2 hW => ⟨two s.heap.size (s.heap.size + 1), (two_ge (Nat.le_refl _) (Nat.le_succ _)), (two_inj (Nat.ne_of_lt (Nat.lt_succ_self _))), by show _ = Outcome.returned (some (Value.int (sc_X3_bringThing Z RW (two s.heap.size (s.heap.size + 1)) rc place value).1)); rw [hsp], by rw [ht2]; show va_P D vwCl ((wPo (two s.heap.size (s.heap.size + 1)) cs (sc_X3_bringThing Z RW (two s.heap.size (s.heap.size + 1)) rc place value).2.2.2 ++ wH a (k 0) cs ((sc_X3_bringThing Z RW (two s.heap.size (s.heap.size + 1)) rc place value).2.1)) ++ wB k r cs ((sc_X3_bringThing Z RW (two s.heap.size (s.heap.size + 1)) rc place value).2.2.1)) _; rw [hsp]; exact hP, hS.F ht2⟩) hS.2.2 dX3_bringThing_21 hlocks
  · refine lv_iload_n hx hb dX3_bringThing_10 rfl (lv_at hl 0 rfl) ?_
    have hsp : sc_X3_bringThing Z RW (two s.heap.size (s.heap.size + 1)) rc place value = (sc_X3_whyNotTo Z place, Z, RW, none) := by unfold sc_X3_bringThing; rw [if_neg c_1]
    refine W.widen (k := 1) (n := 1) (Nat.le_of_ble_eq_true rfl) (Nat.le_of_ble_eq_true rfl) ?_
    exact W.iret hx hb hr (fun t2 ht2 hW => ⟨two s.heap.size (s.heap.size + 1), (two_ge (Nat.le_refl _) (Nat.le_succ _)), (two_inj (Nat.ne_of_lt (Nat.lt_succ_self _))), by show _ = Outcome.returned (some (Value.int (sc_X3_bringThing Z RW (two s.heap.size (s.heap.size + 1)) rc place value).1)); rw [hsp], by rw [ht2]; show va_P D vwCl ((wPo (two s.heap.size (s.heap.size + 1)) cs (sc_X3_bringThing Z RW (two s.heap.size (s.heap.size + 1)) rc place value).2.2.2 ++ wH a (k 0) cs ((sc_X3_bringThing Z RW (two s.heap.size (s.heap.size + 1)) rc place value).2.1)) ++ wB k r cs ((sc_X3_bringThing Z RW (two s.heap.size (s.heap.size + 1)) rc place value).2.2.1)) _; rw [hsp]; exact hP, hS.F ht2⟩) hS.2.2 dX3_bringThing_11 hlocks
def sc_X3_bringCoat (Z : hZ) (RW : Nat → Nat → Int64) (n : Nat → Nat) (rc : Nat) (place : Int32) (value : Int32) (wear : Int32) : Int32 × (hZ) × (Nat → Nat → Int64) × Option pZ :=
  if (sc_X3_whyNotTo Z place) = 0 then
    if (sc_X3_isValue value) = 0 then
      ((-6), Z, RW, none)
    else
      if wear < 0 then
        ((-6), Z, RW, none)
      else
        if wear ≤ 500 then
          (0, (sc_X3_putDown Z RW n (3, fun i => ([value, wear, (gh Z 0)] : List Int32).getD i 0, 0) rc place).1, (sc_X3_putDown Z RW n (3, fun i => ([value, wear, (gh Z 0)] : List Int32).getD i 0, 0) rc place).2, some (3, fun i => ([value, wear, (gh Z 0)] : List Int32).getD i 0, 0))
        else
          ((-6), Z, RW, none)
  else
    (sc_X3_whyNotTo Z place, Z, RW, none)
set_option maxHeartbeats 4000000 in
set_option maxRecDepth 100000 in
theorem cC_X3_bringCoat (l : Launch) (D : va_G) (cs : Nat → ClassId) (k : Nat → Nat) (a : Nat → Nat) (Z : hZ) (r : Nat → Nat) (RW : Nat → Nat → Int64) (sz : Nat) (ia : iH a) (ik : iB k r) (d : dHB a k r) (rc : Nat) (place : Int32) (value : Int32) (wear : Int32) (hrc : gh Z 2 = nI rc) (hrl : rc ≤ 511) : Met l yX3_bringCoat wsX3_bringCoat ({ frames := 4, cells := 1, slots := 3, locals := 89 }) (cPc [.ref (a 0), .int place, .int value, .int wear] D cs (([] ++ wH a (k 0) cs Z) ++ wB k r cs RW) sz) (cQN D 2 (fun n => some (.int (sc_X3_bringCoat Z RW n rc place value wear).1)) (fun n => (wPo n cs (sc_X3_bringCoat Z RW n rc place value wear).2.2.2 ++ wH a (k 0) cs ((sc_X3_bringCoat Z RW n rc place value wear).2.1)) ++ wB k r cs ((sc_X3_bringCoat Z RW n rc place value wear).2.2.1)) (adA (pOr (pH a) (pB k r)) sz)) 1 3 (adA (pOr (pH a) (pB k r)) sz) := by
  refine c_in (P := pOr (pH a) (pB k r)) (cc := cX3_bringCoat) (maxL := 5) (ret := (some .int)) (lv := [(0, .ref (a 0)), (1, .int place), (2, .int value), (3, .int wear)]) (by decide) rfl (Nat.le_of_ble_eq_true rfl) rfl ?_
  intro p e s m below meth c ls S hr hlocks hin hsz hP hK hl hS
  subst hsz
  obtain ⟨hx, hb, hml, hown, hts⟩ := id S
  have hltH := wH_lt (vaL hP)
  have hltB := wB_lt (vaR hP)
  have hX1 : ∀ w ∈ wsX10, w ∈ wsX3_bringCoat := by decide +kernel
  have hX3 : ∀ w ∈ wsX30, w ∈ wsX3_bringCoat := by decide +kernel
  refine lv_aload_n hx hb dX3_bringCoat_0 rfl (lv_at hl 0 rfl) ?_
  refine lv_iload_n hx hb dX3_bringCoat_1 rfl (lv_at hl 1 rfl) ?_
  refine c_rd S hK (show va_P D vwCl (([] ++ wH a (k 0) cs Z) ++ []) _ from vaL hP) (va_recv hK.1 hP (ci := 3) (q0 := _ + 0) rfl (get3 rfl)) (As := [.int place]) (rest := []) (cC_X3_whyNotTo l D cs k a Z _  place ) (cwV 1 hts gX3_bringCoat_X3_whyNotTo rfl rfl rfl (by decide +kernel) ⟨Nat.le_of_ble_eq_true rfl, Nat.le_of_ble_eq_true rfl⟩) rfl hl.1 rfl (Nat.le_of_ble_eq_true rfl) dX3_bringCoat_2 ⟨Nat.le_of_ble_eq_true rfl, Nat.le_of_ble_eq_true rfl⟩ ?_
  refine lv_istore (lv' := [(4, .int (sc_X3_whyNotTo Z place)), (0, .ref (a 0)), (1, .int place), (2, .int value), (3, .int wear)]) hx hb dX3_bringCoat_5 hl (by decide) rfl (fun ls hl => ?_)
  refine lv_iload hx hb dX3_bringCoat_7 (lv_at hl 0 rfl) ?_
  refine lv_if_eq (tgt := 15) hx hb dX3_bringCoat_9 (by decide) (fun c_1 => ?_) (fun c_1 => ?_)
  · refine lv_iload_n hx hb dX3_bringCoat_15 rfl (lv_at hl 3 rfl) ?_
    refine m_st S (As := [.int value]) (rest := []) (cC_X3_isValue l value) (cwS 1 hts gX3_bringCoat_X3_isValue rfl rfl rfl (by decide +kernel) ⟨Nat.le_of_ble_eq_true rfl, Nat.le_of_ble_eq_true rfl⟩) rfl hl.1 rfl (Nat.le_of_ble_eq_true rfl) dX3_bringCoat_16 ⟨Nat.le_of_ble_eq_true rfl, Nat.le_of_ble_eq_true rfl⟩ ?_
    refine lv_if_eq (tgt := 33) hx hb dX3_bringCoat_19 (by decide) (fun c_2 => ?_) (fun c_2 => ?_)
    · refine lv_bipush (v := (-6)) hx hb dX3_bringCoat_33 (by decide) ?_
      have hsp : sc_X3_bringCoat Z RW (two s.heap.size (s.heap.size + 1)) rc place value wear = ((-6), Z, RW, none) := by unfold sc_X3_bringCoat; rw [if_pos c_1, if_pos c_2]
      refine W.widen (k := 1) (n := 3) (Nat.le_of_ble_eq_true rfl) (Nat.le_of_ble_eq_true rfl) ?_
      exact W.iret hx hb hr (fun t2 ht2 hW => ⟨two s.heap.size (s.heap.size + 1), (two_ge (Nat.le_refl _) (Nat.le_succ _)), (two_inj (Nat.ne_of_lt (Nat.lt_succ_self _))), by show _ = Outcome.returned (some (Value.int (sc_X3_bringCoat Z RW (two s.heap.size (s.heap.size + 1)) rc place value wear).1)); rw [hsp], by rw [ht2]; show va_P D vwCl ((wPo (two s.heap.size (s.heap.size + 1)) cs (sc_X3_bringCoat Z RW (two s.heap.size (s.heap.size + 1)) rc place value wear).2.2.2 ++ wH a (k 0) cs ((sc_X3_bringCoat Z RW (two s.heap.size (s.heap.size + 1)) rc place value wear).2.1)) ++ wB k r cs ((sc_X3_bringCoat Z RW (two s.heap.size (s.heap.size + 1)) rc place value wear).2.2.1)) _; rw [hsp]; exact hP, hS.F ht2⟩) hS.2.2 dX3_bringCoat_35 hlocks
    · refine lv_iload_n hx hb dX3_bringCoat_22 rfl (lv_at hl 4 rfl) ?_
      refine lv_if_lt (tgt := 33) hx hb dX3_bringCoat_23 (by decide) (fun c_3 => ?_) (fun c_3 => ?_)
      · refine lv_bipush (v := (-6)) hx hb dX3_bringCoat_33 (by decide) ?_
        have hsp : sc_X3_bringCoat Z RW (two s.heap.size (s.heap.size + 1)) rc place value wear = ((-6), Z, RW, none) := by unfold sc_X3_bringCoat; rw [if_pos c_1, if_neg c_2, if_pos c_3]
        refine W.widen (k := 1) (n := 3) (Nat.le_of_ble_eq_true rfl) (Nat.le_of_ble_eq_true rfl) ?_
        exact W.iret hx hb hr (fun t2 ht2 hW => ⟨two s.heap.size (s.heap.size + 1), (two_ge (Nat.le_refl _) (Nat.le_succ _)), (two_inj (Nat.ne_of_lt (Nat.lt_succ_self _))), by show _ = Outcome.returned (some (Value.int (sc_X3_bringCoat Z RW (two s.heap.size (s.heap.size + 1)) rc place value wear).1)); rw [hsp], by rw [ht2]; show va_P D vwCl ((wPo (two s.heap.size (s.heap.size + 1)) cs (sc_X3_bringCoat Z RW (two s.heap.size (s.heap.size + 1)) rc place value wear).2.2.2 ++ wH a (k 0) cs ((sc_X3_bringCoat Z RW (two s.heap.size (s.heap.size + 1)) rc place value wear).2.1)) ++ wB k r cs ((sc_X3_bringCoat Z RW (two s.heap.size (s.heap.size + 1)) rc place value wear).2.2.1)) _; rw [hsp]; exact hP, hS.F ht2⟩) hS.2.2 dX3_bringCoat_35 hlocks
      · refine lv_iload_n hx hb dX3_bringCoat_26 rfl (lv_at hl 4 rfl) ?_
        refine lv_sipush (v := 500) hx hb dX3_bringCoat_27 (by decide) ?_
        refine lv_icmp_le (tgt := 36) hx hb dX3_bringCoat_30 (by decide) (fun c_4 => ?_) (fun c_4 => ?_)
        · refine lv_aload_n hx hb dX3_bringCoat_36 rfl (lv_at hl 1 rfl) ?_
          refine lv_iload_n hx hb dX3_bringCoat_37 rfl (lv_at hl 2 rfl) ?_
          refine x_new hx hb hts hX1 tyX1 tyX1_ok hown (hts (.classLink RX3 148 RX1) (by decide +kernel)) (hts (.instantiable RX1 3) (by decide +kernel)) (hts (.initialized RX1) (by decide +kernel)) hK.1 hP hS (ci := 1) rfl (fs := [.int 0, .int 0, .int 0]) dfX1 (Nat.le_of_ble_eq_true rfl) (Nat.le_of_ble_eq_true rfl) dX3_bringCoat_38 (fun n1 H hn1 ln1 hP hS => ?_)
          have hP : va_P D vwCl (([(n1, .inr (1, [.int 0, .int 0, .int 0]))] ++ wH a (k 0) cs Z) ++ wB k r cs RW) H := hP
          refine lv_dup hx hb dX3_bringCoat_41 rfl ?_
          refine lv_iload_n hx hb dX3_bringCoat_42 rfl (lv_at hl 3 rfl) ?_
          refine lv_iload_n hx hb dX3_bringCoat_43 rfl (lv_at hl 4 rfl) ?_
          refine lv_aload_n hx hb dX3_bringCoat_44 rfl (lv_at hl 1 rfl) ?_
          refine hx_get hx hb hts hX3 hown hK.1 hP 2 (by decide) (hts (.fieldLink RX3 50 "PledgeHouse$House" "today" "I") (by decide +kernel)) rfl (v := .int (gh Z 0)) rfl dX3_bringCoat_45 ?_
          refine c_w1 (WS' := (wP (two n1 (n1 + 1)) cs (3, fun i => ([value, wear, (gh Z 0)] : List Int32).getD i 0, 0) ++ wH a (k 0) cs Z) ++ wB k r cs RW) (rest := [.ref n1, .int place, .ref (a 0)]) (va_runI S (As := [.int value, .int wear, .int (gh Z 0)]) (b := n1) (cC_X1_init l D cs n1 _ value wear (gh Z 0) ) (cwI 3 hts gX3_bringCoat_X1_init rfl rfl rfl (hts (.initialized RX1) (by decide +kernel)) (hts (.methodLink RX3 150 yX1_init) (by decide +kernel)) (hts (.instanceMethod yX1_init) (by decide +kernel)) rfl (by decide +kernel) ⟨Nat.le_of_ble_eq_true rfl, Nat.le_of_ble_eq_true rfl⟩) (preS_c hK (vaL (vaL hP))) rfl rfl hl.1 rfl (lv_room (Nat.le_of_ble_eq_true rfl)) dX3_bringCoat_48 ⟨Nat.le_of_ble_eq_true rfl, Nat.le_of_ble_eq_true rfl⟩) hS (fun q h => h.elim (fun z => Or.inr (by rw [show q = n1 from z]; exact hn1)) (fun z => Or.inr (Nat.le_trans hS.1 z))) (fun H1 _ hk h => va_P.app (va_P.app h (keepP (vaR (vaL hP)) wH_p (fr1 hltH hn1) hk)) (keepP (vaR hP) wB_p (fr1 hltB hn1) hk)) (fun H locs hP hS => ?_)
          refine c_w1 (WS' := (wP (two n1 (n1 + 1)) cs (3, fun i => ([value, wear, (gh Z 0)] : List Int32).getD i 0, 0) ++ wH a (k 0) cs ((sc_X3_putDown Z RW (two n1 (n1 + 1)) (3, fun i => ([value, wear, (gh Z 0)] : List Int32).getD i 0, 0) rc place).1)) ++ wB k r cs ((sc_X3_putDown Z RW (two n1 (n1 + 1)) (3, fun i => ([value, wear, (gh Z 0)] : List Int32).getD i 0, 0) rc place).2)) (rest := []) (va_runV S (As := [.int place, .ref n1]) (cC_X3_putDown l D cs (two n1 (n1 + 1)) (3, fun i => ([value, wear, (gh Z 0)] : List Int32).getD i 0, 0) k a Z r RW _ ia ik d rc place hrc hrl ⟨(wt_of c_1).1, (wt_of c_1).2⟩) (cwV 2 hts gX3_bringCoat_X3_putDown rfl rfl rfl (by decide +kernel) ⟨Nat.le_of_ble_eq_true rfl, Nat.le_of_ble_eq_true rfl⟩) (preV_x hK (show va_P D vwCl (([] ++ wH a (k 0) cs Z) ++ wB k r cs RW) _ from va_P.app (vaR (vaL hP)) (vaR hP)) (vaL (vaL hP)) (va_recv hK.1 hP (ci := 3) (q0 := _ + 0) rfl (get3 rfl))) rfl rfl hl.1 rfl (lv_room (Nat.le_of_ble_eq_true rfl)) dX3_bringCoat_51 ⟨Nat.le_of_ble_eq_true rfl, Nat.le_of_ble_eq_true rfl⟩) hS (adA_le hS.1) (fun H1 _ hk h => (va_P.app (va_P.app (keepP (vaL (vaL hP)) wP_p (fr2 (pOr_lt hltH hltB) (two_ge hn1 (Nat.le_succ_of_le hn1))) hk) (vaL h)) (vaR h))) (fun H locs hP hS => ?_)
          refine lv_iconst (v := 0) hx hb dX3_bringCoat_54 (by decide) ?_
          have hsp : sc_X3_bringCoat Z RW (two n1 (n1 + 1)) rc place value wear = (0, (sc_X3_putDown Z RW (two n1 (n1 + 1)) (3, fun i => ([value, wear, (gh Z 0)] : List Int32).getD i 0, 0) rc place).1, (sc_X3_putDown Z RW (two n1 (n1 + 1)) (3, fun i => ([value, wear, (gh Z 0)] : List Int32).getD i 0, 0) rc place).2, some (3, fun i => ([value, wear, (gh Z 0)] : List Int32).getD i 0, 0)) := by unfold sc_X3_bringCoat; rw [if_pos c_1, if_neg c_2, if_neg c_3, if_pos c_4]
          refine W.widen (k := 1) (n := 3) (Nat.le_of_ble_eq_true rfl) (Nat.le_of_ble_eq_true rfl) ?_
          exact W.iret hx hb hr (fun t2 ht2 hW => ⟨two n1 (n1 + 1), (two_ge hn1 (Nat.le_succ_of_le hn1)), (two_inj (Nat.ne_of_lt (Nat.lt_succ_self _))), by show _ = Outcome.returned (some (Value.int (sc_X3_bringCoat Z RW (two n1 (n1 + 1)) rc place value wear).1)); rw [hsp], by rw [ht2]; show va_P D vwCl ((wPo (two n1 (n1 + 1)) cs (sc_X3_bringCoat Z RW (two n1 (n1 + 1)) rc place value wear).2.2.2 ++ wH a (k 0) cs ((sc_X3_bringCoat Z RW (two n1 (n1 + 1)) rc place value wear).2.1)) ++ wB k r cs ((sc_X3_bringCoat Z RW (two n1 (n1 + 1)) rc place value wear).2.2.1)) _; rw [hsp]; exact hP, hS.F ht2⟩) hS.2.2 dX3_bringCoat_55 hlocks
        · refine lv_bipush (v := (-6)) hx hb dX3_bringCoat_33 (by decide) ?_
          have hsp : sc_X3_bringCoat Z RW (two s.heap.size (s.heap.size + 1)) rc place value wear = ((-6), Z, RW, none) := by unfold sc_X3_bringCoat; rw [if_pos c_1, if_neg c_2, if_neg c_3, if_neg c_4]
          refine W.widen (k := 1) (n := 3) (Nat.le_of_ble_eq_true rfl) (Nat.le_of_ble_eq_true rfl) ?_
          exact W.iret hx hb hr (fun t2 ht2 hW => ⟨two s.heap.size (s.heap.size + 1), (two_ge (Nat.le_refl _) (Nat.le_succ _)), (two_inj (Nat.ne_of_lt (Nat.lt_succ_self _))), by show _ = Outcome.returned (some (Value.int (sc_X3_bringCoat Z RW (two s.heap.size (s.heap.size + 1)) rc place value wear).1)); rw [hsp], by rw [ht2]; show va_P D vwCl ((wPo (two s.heap.size (s.heap.size + 1)) cs (sc_X3_bringCoat Z RW (two s.heap.size (s.heap.size + 1)) rc place value wear).2.2.2 ++ wH a (k 0) cs ((sc_X3_bringCoat Z RW (two s.heap.size (s.heap.size + 1)) rc place value wear).2.1)) ++ wB k r cs ((sc_X3_bringCoat Z RW (two s.heap.size (s.heap.size + 1)) rc place value wear).2.2.1)) _; rw [hsp]; exact hP, hS.F ht2⟩) hS.2.2 dX3_bringCoat_35 hlocks
  · refine lv_iload hx hb dX3_bringCoat_12 (lv_at hl 0 rfl) ?_
    have hsp : sc_X3_bringCoat Z RW (two s.heap.size (s.heap.size + 1)) rc place value wear = (sc_X3_whyNotTo Z place, Z, RW, none) := by unfold sc_X3_bringCoat; rw [if_neg c_1]
    refine W.widen (k := 1) (n := 3) (Nat.le_of_ble_eq_true rfl) (Nat.le_of_ble_eq_true rfl) ?_
    exact W.iret hx hb hr (fun t2 ht2 hW => ⟨two s.heap.size (s.heap.size + 1), (two_ge (Nat.le_refl _) (Nat.le_succ _)), (two_inj (Nat.ne_of_lt (Nat.lt_succ_self _))), by show _ = Outcome.returned (some (Value.int (sc_X3_bringCoat Z RW (two s.heap.size (s.heap.size + 1)) rc place value wear).1)); rw [hsp], by rw [ht2]; show va_P D vwCl ((wPo (two s.heap.size (s.heap.size + 1)) cs (sc_X3_bringCoat Z RW (two s.heap.size (s.heap.size + 1)) rc place value wear).2.2.2 ++ wH a (k 0) cs ((sc_X3_bringCoat Z RW (two s.heap.size (s.heap.size + 1)) rc place value wear).2.1)) ++ wB k r cs ((sc_X3_bringCoat Z RW (two s.heap.size (s.heap.size + 1)) rc place value wear).2.2.1)) _; rw [hsp]; exact hP, hS.F ht2⟩) hS.2.2 dX3_bringCoat_14 hlocks
def sc_X3_bringGold (Z : hZ) (RW : Nat → Nat → Int64) (n : Nat → Nat) (rc : Nat) (place : Int32) (weight : UInt32) (fineness : Int32) : Int32 × (hZ) × (Nat → Nat → Int64) × Option pZ :=
  if (sc_X3_whyNotTo Z place) = 0 then
    if (sc_X10_isWeight weight) = 0 then
      ((-6), Z, RW, none)
    else
      if fineness < 1 then
        ((-6), Z, RW, none)
      else
        if fineness ≤ 1000 then
          (sc_X10_hundredths_2 (fun i => ([FP.f2i (FP.fmul weight 1120403456), FP.f2i (FP.fmul (FP.fsub (FP.fmul weight 1120403456) (FP.i2f (FP.f2i (FP.fmul weight 1120403456)))) 1148846080), fineness] : List Int32).getD i 0), (sc_X3_putDown Z RW n (1, fun i => ([FP.f2i (FP.fmul weight 1120403456), FP.f2i (FP.fmul (FP.fsub (FP.fmul weight 1120403456) (FP.i2f (FP.f2i (FP.fmul weight 1120403456)))) 1148846080), fineness] : List Int32).getD i 0, 0) rc place).1, (sc_X3_putDown Z RW n (1, fun i => ([FP.f2i (FP.fmul weight 1120403456), FP.f2i (FP.fmul (FP.fsub (FP.fmul weight 1120403456) (FP.i2f (FP.f2i (FP.fmul weight 1120403456)))) 1148846080), fineness] : List Int32).getD i 0, 0) rc place).2, some (1, fun i => ([FP.f2i (FP.fmul weight 1120403456), FP.f2i (FP.fmul (FP.fsub (FP.fmul weight 1120403456) (FP.i2f (FP.f2i (FP.fmul weight 1120403456)))) 1148846080), fineness] : List Int32).getD i 0, 0))
        else
          ((-6), Z, RW, none)
  else
    (sc_X3_whyNotTo Z place, Z, RW, none)
set_option maxHeartbeats 4000000 in
set_option maxRecDepth 100000 in
theorem cC_X3_bringGold (l : Launch) (D : va_G) (cs : Nat → ClassId) (k : Nat → Nat) (a : Nat → Nat) (Z : hZ) (r : Nat → Nat) (RW : Nat → Nat → Int64) (sz : Nat) (ia : iH a) (ik : iB k r) (d : dHB a k r) (rc : Nat) (place : Int32) (weight : UInt32) (fineness : Int32) (hrc : gh Z 2 = nI rc) (hrl : rc ≤ 511) (hw : ¬ sc_X10_isWeight weight = 0 → WOK weight) : Met l yX3_bringGold wsX3_bringGold ({ frames := 4, cells := 1, slots := 3, locals := 89 }) (cPc [.ref (a 0), .int place, .float weight, .int fineness] D cs (([] ++ wH a (k 0) cs Z) ++ wB k r cs RW) sz) (cQN D 2 (fun n => some (.int (sc_X3_bringGold Z RW n rc place weight fineness).1)) (fun n => (wPo n cs (sc_X3_bringGold Z RW n rc place weight fineness).2.2.2 ++ wH a (k 0) cs ((sc_X3_bringGold Z RW n rc place weight fineness).2.1)) ++ wB k r cs ((sc_X3_bringGold Z RW n rc place weight fineness).2.2.1)) (adA (pOr (pH a) (pB k r)) sz)) 1 3 (adA (pOr (pH a) (pB k r)) sz) := by
  refine c_in (P := pOr (pH a) (pB k r)) (cc := cX3_bringGold) (maxL := 6) (ret := (some .int)) (lv := [(0, .ref (a 0)), (1, .int place), (2, .float weight), (3, .int fineness)]) (by decide) rfl (Nat.le_of_ble_eq_true rfl) rfl ?_
  intro p e s m below meth c ls S hr hlocks hin hsz hP hK hl hS
  subst hsz
  obtain ⟨hx, hb, hml, hown, hts⟩ := id S
  have hltH := wH_lt (vaL hP)
  have hltB := wB_lt (vaR hP)
  have hX2 : ∀ w ∈ wsX20, w ∈ wsX3_bringGold := by decide +kernel
  refine lv_aload_n hx hb dX3_bringGold_0 rfl (lv_at hl 0 rfl) ?_
  refine lv_iload_n hx hb dX3_bringGold_1 rfl (lv_at hl 1 rfl) ?_
  refine c_rd S hK (show va_P D vwCl (([] ++ wH a (k 0) cs Z) ++ []) _ from vaL hP) (va_recv hK.1 hP (ci := 3) (q0 := _ + 0) rfl (get3 rfl)) (As := [.int place]) (rest := []) (cC_X3_whyNotTo l D cs k a Z _  place ) (cwV 1 hts gX3_bringGold_X3_whyNotTo rfl rfl rfl (by decide +kernel) ⟨Nat.le_of_ble_eq_true rfl, Nat.le_of_ble_eq_true rfl⟩) rfl hl.1 rfl (Nat.le_of_ble_eq_true rfl) dX3_bringGold_2 ⟨Nat.le_of_ble_eq_true rfl, Nat.le_of_ble_eq_true rfl⟩ ?_
  refine lv_istore (lv' := [(4, .int (sc_X3_whyNotTo Z place)), (0, .ref (a 0)), (1, .int place), (2, .float weight), (3, .int fineness)]) hx hb dX3_bringGold_5 hl (by decide) rfl (fun ls hl => ?_)
  refine lv_iload hx hb dX3_bringGold_7 (lv_at hl 0 rfl) ?_
  refine lv_if_eq (tgt := 15) hx hb dX3_bringGold_9 (by decide) (fun c_1 => ?_) (fun c_1 => ?_)
  · refine lv_fload_n hx hb dX3_bringGold_15 rfl (lv_at hl 3 rfl) ?_
    refine m_st S (As := [.float weight]) (rest := []) (cC_X10_isWeight l weight) (va_cwS 1 hts gX3_bringGold_X10_isWeight rfl rfl rfl (by decide +kernel) ⟨Nat.le_of_ble_eq_true rfl, Nat.le_of_ble_eq_true rfl⟩) rfl hl.1 rfl (Nat.le_of_ble_eq_true rfl) dX3_bringGold_16 ⟨Nat.le_of_ble_eq_true rfl, Nat.le_of_ble_eq_true rfl⟩ ?_
    refine lv_if_eq (tgt := 34) hx hb dX3_bringGold_19 (by decide) (fun c_2 => ?_) (fun c_2 => ?_)
    · refine lv_bipush (v := (-6)) hx hb dX3_bringGold_34 (by decide) ?_
      have hsp : sc_X3_bringGold Z RW (two s.heap.size (s.heap.size + 1)) rc place weight fineness = ((-6), Z, RW, none) := by unfold sc_X3_bringGold; rw [if_pos c_1, if_pos c_2]
      refine W.widen (k := 1) (n := 3) (Nat.le_of_ble_eq_true rfl) (Nat.le_of_ble_eq_true rfl) ?_
      exact W.iret hx hb hr (fun t2 ht2 hW => ⟨two s.heap.size (s.heap.size + 1), (two_ge (Nat.le_refl _) (Nat.le_succ _)), (two_inj (Nat.ne_of_lt (Nat.lt_succ_self _))), by show _ = Outcome.returned (some (Value.int (sc_X3_bringGold Z RW (two s.heap.size (s.heap.size + 1)) rc place weight fineness).1)); rw [hsp], by rw [ht2]; show va_P D vwCl ((wPo (two s.heap.size (s.heap.size + 1)) cs (sc_X3_bringGold Z RW (two s.heap.size (s.heap.size + 1)) rc place weight fineness).2.2.2 ++ wH a (k 0) cs ((sc_X3_bringGold Z RW (two s.heap.size (s.heap.size + 1)) rc place weight fineness).2.1)) ++ wB k r cs ((sc_X3_bringGold Z RW (two s.heap.size (s.heap.size + 1)) rc place weight fineness).2.2.1)) _; rw [hsp]; exact hP, hS.F ht2⟩) hS.2.2 dX3_bringGold_36 hlocks
    · refine lv_iload_n hx hb dX3_bringGold_22 rfl (lv_at hl 4 rfl) ?_
      refine lv_iconst (v := 1) hx hb dX3_bringGold_23 (by decide) ?_
      refine lv_icmp_lt (tgt := 34) hx hb dX3_bringGold_24 (by decide) (fun c_3 => ?_) (fun c_3 => ?_)
      · refine lv_bipush (v := (-6)) hx hb dX3_bringGold_34 (by decide) ?_
        have hsp : sc_X3_bringGold Z RW (two s.heap.size (s.heap.size + 1)) rc place weight fineness = ((-6), Z, RW, none) := by unfold sc_X3_bringGold; rw [if_pos c_1, if_neg c_2, if_pos c_3]
        refine W.widen (k := 1) (n := 3) (Nat.le_of_ble_eq_true rfl) (Nat.le_of_ble_eq_true rfl) ?_
        exact W.iret hx hb hr (fun t2 ht2 hW => ⟨two s.heap.size (s.heap.size + 1), (two_ge (Nat.le_refl _) (Nat.le_succ _)), (two_inj (Nat.ne_of_lt (Nat.lt_succ_self _))), by show _ = Outcome.returned (some (Value.int (sc_X3_bringGold Z RW (two s.heap.size (s.heap.size + 1)) rc place weight fineness).1)); rw [hsp], by rw [ht2]; show va_P D vwCl ((wPo (two s.heap.size (s.heap.size + 1)) cs (sc_X3_bringGold Z RW (two s.heap.size (s.heap.size + 1)) rc place weight fineness).2.2.2 ++ wH a (k 0) cs ((sc_X3_bringGold Z RW (two s.heap.size (s.heap.size + 1)) rc place weight fineness).2.1)) ++ wB k r cs ((sc_X3_bringGold Z RW (two s.heap.size (s.heap.size + 1)) rc place weight fineness).2.2.1)) _; rw [hsp]; exact hP, hS.F ht2⟩) hS.2.2 dX3_bringGold_36 hlocks
      · refine lv_iload_n hx hb dX3_bringGold_27 rfl (lv_at hl 4 rfl) ?_
        refine lv_sipush (v := 1000) hx hb dX3_bringGold_28 (by decide) ?_
        refine lv_icmp_le (tgt := 37) hx hb dX3_bringGold_31 (by decide) (fun c_4 => ?_) (fun c_4 => ?_)
        · refine x_new hx hb hts hX2 tyX2 tyX2_ok hown (hts (.classLink RX3 139 RX2) (by decide +kernel)) (hts (.instantiable RX2 3) (by decide +kernel)) (hts (.initialized RX2) (by decide +kernel)) hK.1 hP hS (ci := 2) rfl (fs := [.int 0, .int 0, .int 0]) dfX2 (Nat.le_of_ble_eq_true rfl) (Nat.le_of_ble_eq_true rfl) dX3_bringGold_37 (fun n1 H hn1 ln1 hP hS => ?_)
          have hP : va_P D vwCl (([(n1, .inr (2, [.int 0, .int 0, .int 0]))] ++ wH a (k 0) cs Z) ++ wB k r cs RW) H := hP
          refine lv_dup hx hb dX3_bringGold_40 rfl ?_
          refine lv_fload_n hx hb dX3_bringGold_41 rfl (lv_at hl 3 rfl) ?_
          refine lv_iload_n hx hb dX3_bringGold_42 rfl (lv_at hl 4 rfl) ?_
          refine c_w1 (WS' := (wP (two n1 (n1 + 1)) cs (1, fun i => ([FP.f2i (FP.fmul weight 1120403456), FP.f2i (FP.fmul (FP.fsub (FP.fmul weight 1120403456) (FP.i2f (FP.f2i (FP.fmul weight 1120403456)))) 1148846080), fineness] : List Int32).getD i 0, 0) ++ wH a (k 0) cs Z) ++ wB k r cs RW) (rest := [.ref n1]) (va_runI S (As := [.float weight, .int fineness]) (b := n1) (cC_X2_init l D cs n1 _ weight fineness (hw c_2)) (cwI 2 hts gX3_bringGold_X2_init rfl rfl rfl (hts (.initialized RX2) (by decide +kernel)) (hts (.methodLink RX3 141 yX2_init) (by decide +kernel)) (hts (.instanceMethod yX2_init) (by decide +kernel)) rfl (by decide +kernel) ⟨Nat.le_of_ble_eq_true rfl, Nat.le_of_ble_eq_true rfl⟩) (preS_c hK (vaL (vaL hP))) rfl rfl hl.1 rfl (lv_room (Nat.le_of_ble_eq_true rfl)) dX3_bringGold_43 ⟨Nat.le_of_ble_eq_true rfl, Nat.le_of_ble_eq_true rfl⟩) hS (fun q h => h.elim (fun z => Or.inr (by rw [show q = n1 from z]; exact hn1)) (fun z => Or.inr (Nat.le_trans hS.1 z))) (fun H1 _ hk h => va_P.app (va_P.app h (keepP (vaR (vaL hP)) wH_p (fr1 hltH hn1) hk)) (keepP (vaR hP) wB_p (fr1 hltB hn1) hk)) (fun H locs hP hS => ?_)
          refine lv_astore (lv' := [(5, .ref n1), (4, .int (sc_X3_whyNotTo Z place)), (0, .ref (a 0)), (1, .int place), (2, .float weight), (3, .int fineness)]) hx hb dX3_bringGold_46 hl (by decide) rfl (fun ls hl => ?_)
          refine lv_aload_n hx hb dX3_bringGold_48 rfl (lv_at hl 2 rfl) ?_
          refine lv_iload_n hx hb dX3_bringGold_49 rfl (lv_at hl 3 rfl) ?_
          refine lv_aload hx hb dX3_bringGold_50 (lv_at hl 0 rfl) ?_
          refine c_w1 (WS' := (wP (two n1 (n1 + 1)) cs (1, fun i => ([FP.f2i (FP.fmul weight 1120403456), FP.f2i (FP.fmul (FP.fsub (FP.fmul weight 1120403456) (FP.i2f (FP.f2i (FP.fmul weight 1120403456)))) 1148846080), fineness] : List Int32).getD i 0, 0) ++ wH a (k 0) cs ((sc_X3_putDown Z RW (two n1 (n1 + 1)) (1, fun i => ([FP.f2i (FP.fmul weight 1120403456), FP.f2i (FP.fmul (FP.fsub (FP.fmul weight 1120403456) (FP.i2f (FP.f2i (FP.fmul weight 1120403456)))) 1148846080), fineness] : List Int32).getD i 0, 0) rc place).1)) ++ wB k r cs ((sc_X3_putDown Z RW (two n1 (n1 + 1)) (1, fun i => ([FP.f2i (FP.fmul weight 1120403456), FP.f2i (FP.fmul (FP.fsub (FP.fmul weight 1120403456) (FP.i2f (FP.f2i (FP.fmul weight 1120403456)))) 1148846080), fineness] : List Int32).getD i 0, 0) rc place).2)) (rest := []) (va_runV S (As := [.int place, .ref n1]) (cC_X3_putDown l D cs (two n1 (n1 + 1)) (1, fun i => ([FP.f2i (FP.fmul weight 1120403456), FP.f2i (FP.fmul (FP.fsub (FP.fmul weight 1120403456) (FP.i2f (FP.f2i (FP.fmul weight 1120403456)))) 1148846080), fineness] : List Int32).getD i 0, 0) k a Z r RW _ ia ik d rc place hrc hrl ⟨(wt_of c_1).1, (wt_of c_1).2⟩) (cwV 2 hts gX3_bringGold_X3_putDown rfl rfl rfl (by decide +kernel) ⟨Nat.le_of_ble_eq_true rfl, Nat.le_of_ble_eq_true rfl⟩) (preV_x hK (show va_P D vwCl (([] ++ wH a (k 0) cs Z) ++ wB k r cs RW) _ from va_P.app (vaR (vaL hP)) (vaR hP)) (vaL (vaL hP)) (va_recv hK.1 hP (ci := 3) (q0 := _ + 0) rfl (get3 rfl))) rfl rfl hl.1 rfl (lv_room (Nat.le_of_ble_eq_true rfl)) dX3_bringGold_52 ⟨Nat.le_of_ble_eq_true rfl, Nat.le_of_ble_eq_true rfl⟩) hS (adA_le hS.1) (fun H1 _ hk h => (va_P.app (va_P.app (keepP (vaL (vaL hP)) wP_p (fr2 (pOr_lt hltH hltB) (two_ge hn1 (Nat.le_succ_of_le hn1))) hk) (vaL h)) (vaR h))) (fun H locs hP hS => ?_)
          refine lv_aload hx hb dX3_bringGold_55 (lv_at hl 0 rfl) ?_
          refine c_r1 (rest := []) (va_runU S (As := []) (cC_X10_hundredths_2 l D cs (two n1 (n1 + 1)) (fun i => ([FP.f2i (FP.fmul weight 1120403456), FP.f2i (FP.fmul (FP.fsub (FP.fmul weight 1120403456) (FP.i2f (FP.f2i (FP.fmul weight 1120403456)))) 1148846080), fineness] : List Int32).getD i 0) _) (va_cwU 0 hts gX3_bringGold_X10_hundredths_u144X2 rfl rfl rfl rfl (by decide +kernel) ⟨Nat.le_of_ble_eq_true rfl, Nat.le_of_ble_eq_true rfl⟩) (preV_c hK (vaL (vaL hP)) (va_recv hK.1 (vaL (vaL hP)) (ci := 2) (q0 := 0) rfl rfl)) rfl rfl hl.1 rfl (lv_room (Nat.le_of_ble_eq_true rfl)) dX3_bringGold_57 ⟨Nat.le_of_ble_eq_true rfl, Nat.le_of_ble_eq_true rfl⟩) (fun _ h => h) ?_
          have hsp : sc_X3_bringGold Z RW (two n1 (n1 + 1)) rc place weight fineness = (sc_X10_hundredths_2 (fun i => ([FP.f2i (FP.fmul weight 1120403456), FP.f2i (FP.fmul (FP.fsub (FP.fmul weight 1120403456) (FP.i2f (FP.f2i (FP.fmul weight 1120403456)))) 1148846080), fineness] : List Int32).getD i 0), (sc_X3_putDown Z RW (two n1 (n1 + 1)) (1, fun i => ([FP.f2i (FP.fmul weight 1120403456), FP.f2i (FP.fmul (FP.fsub (FP.fmul weight 1120403456) (FP.i2f (FP.f2i (FP.fmul weight 1120403456)))) 1148846080), fineness] : List Int32).getD i 0, 0) rc place).1, (sc_X3_putDown Z RW (two n1 (n1 + 1)) (1, fun i => ([FP.f2i (FP.fmul weight 1120403456), FP.f2i (FP.fmul (FP.fsub (FP.fmul weight 1120403456) (FP.i2f (FP.f2i (FP.fmul weight 1120403456)))) 1148846080), fineness] : List Int32).getD i 0, 0) rc place).2, some (1, fun i => ([FP.f2i (FP.fmul weight 1120403456), FP.f2i (FP.fmul (FP.fsub (FP.fmul weight 1120403456) (FP.i2f (FP.f2i (FP.fmul weight 1120403456)))) 1148846080), fineness] : List Int32).getD i 0, 0)) := by unfold sc_X3_bringGold; rw [if_pos c_1, if_neg c_2, if_neg c_3, if_pos c_4]
          refine W.widen (k := 1) (n := 3) (Nat.le_of_ble_eq_true rfl) (Nat.le_of_ble_eq_true rfl) ?_
          exact W.iret hx hb hr (fun t2 ht2 hW => ⟨two n1 (n1 + 1), (two_ge hn1 (Nat.le_succ_of_le hn1)), (two_inj (Nat.ne_of_lt (Nat.lt_succ_self _))), by show _ = Outcome.returned (some (Value.int (sc_X3_bringGold Z RW (two n1 (n1 + 1)) rc place weight fineness).1)); rw [hsp], by rw [ht2]; show va_P D vwCl ((wPo (two n1 (n1 + 1)) cs (sc_X3_bringGold Z RW (two n1 (n1 + 1)) rc place weight fineness).2.2.2 ++ wH a (k 0) cs ((sc_X3_bringGold Z RW (two n1 (n1 + 1)) rc place weight fineness).2.1)) ++ wB k r cs ((sc_X3_bringGold Z RW (two n1 (n1 + 1)) rc place weight fineness).2.2.1)) _; rw [hsp]; exact hP, hS.F ht2⟩) hS.2.2 dX3_bringGold_60 hlocks
        · refine lv_bipush (v := (-6)) hx hb dX3_bringGold_34 (by decide) ?_
          have hsp : sc_X3_bringGold Z RW (two s.heap.size (s.heap.size + 1)) rc place weight fineness = ((-6), Z, RW, none) := by unfold sc_X3_bringGold; rw [if_pos c_1, if_neg c_2, if_neg c_3, if_neg c_4]
          refine W.widen (k := 1) (n := 3) (Nat.le_of_ble_eq_true rfl) (Nat.le_of_ble_eq_true rfl) ?_
          exact W.iret hx hb hr (fun t2 ht2 hW => ⟨two s.heap.size (s.heap.size + 1), (two_ge (Nat.le_refl _) (Nat.le_succ _)), (two_inj (Nat.ne_of_lt (Nat.lt_succ_self _))), by show _ = Outcome.returned (some (Value.int (sc_X3_bringGold Z RW (two s.heap.size (s.heap.size + 1)) rc place weight fineness).1)); rw [hsp], by rw [ht2]; show va_P D vwCl ((wPo (two s.heap.size (s.heap.size + 1)) cs (sc_X3_bringGold Z RW (two s.heap.size (s.heap.size + 1)) rc place weight fineness).2.2.2 ++ wH a (k 0) cs ((sc_X3_bringGold Z RW (two s.heap.size (s.heap.size + 1)) rc place weight fineness).2.1)) ++ wB k r cs ((sc_X3_bringGold Z RW (two s.heap.size (s.heap.size + 1)) rc place weight fineness).2.2.1)) _; rw [hsp]; exact hP, hS.F ht2⟩) hS.2.2 dX3_bringGold_36 hlocks
  · refine lv_iload hx hb dX3_bringGold_12 (lv_at hl 0 rfl) ?_
    have hsp : sc_X3_bringGold Z RW (two s.heap.size (s.heap.size + 1)) rc place weight fineness = (sc_X3_whyNotTo Z place, Z, RW, none) := by unfold sc_X3_bringGold; rw [if_neg c_1]
    refine W.widen (k := 1) (n := 3) (Nat.le_of_ble_eq_true rfl) (Nat.le_of_ble_eq_true rfl) ?_
    exact W.iret hx hb hr (fun t2 ht2 hW => ⟨two s.heap.size (s.heap.size + 1), (two_ge (Nat.le_refl _) (Nat.le_succ _)), (two_inj (Nat.ne_of_lt (Nat.lt_succ_self _))), by show _ = Outcome.returned (some (Value.int (sc_X3_bringGold Z RW (two s.heap.size (s.heap.size + 1)) rc place weight fineness).1)); rw [hsp], by rw [ht2]; show va_P D vwCl ((wPo (two s.heap.size (s.heap.size + 1)) cs (sc_X3_bringGold Z RW (two s.heap.size (s.heap.size + 1)) rc place weight fineness).2.2.2 ++ wH a (k 0) cs ((sc_X3_bringGold Z RW (two s.heap.size (s.heap.size + 1)) rc place weight fineness).2.1)) ++ wB k r cs ((sc_X3_bringGold Z RW (two s.heap.size (s.heap.size + 1)) rc place weight fineness).2.2.1)) _; rw [hsp]; exact hP, hS.F ht2⟩) hS.2.2 dX3_bringGold_14 hlocks
def sc_X3_bringRare (Z : hZ) (RW : Nat → Nat → Int64) (n : Nat → Nat) (rc : Nat) (place : Int32) (weight : UInt32) : Int32 × (hZ) × (Nat → Nat → Int64) × Option pZ :=
  if (sc_X3_whyNotTo Z place) = 0 then
    if (sc_X10_isWeight weight) = 0 then
      ((-6), Z, RW, none)
    else
      (sc_X10_hundredths_6 (fun i => ([FP.f2i (FP.fmul weight 1120403456), FP.f2i (FP.fmul (FP.fsub (FP.fmul weight 1120403456) (FP.i2f (FP.f2i (FP.fmul weight 1120403456)))) 1148846080), 0, 0, 0, 0] : List Int32).getD i 0), (sc_X3_putDown Z RW n (4, fun i => ([FP.f2i (FP.fmul weight 1120403456), FP.f2i (FP.fmul (FP.fsub (FP.fmul weight 1120403456) (FP.i2f (FP.f2i (FP.fmul weight 1120403456)))) 1148846080), 0, 0, 0, 0] : List Int32).getD i 0, weight) rc place).1, (sc_X3_putDown Z RW n (4, fun i => ([FP.f2i (FP.fmul weight 1120403456), FP.f2i (FP.fmul (FP.fsub (FP.fmul weight 1120403456) (FP.i2f (FP.f2i (FP.fmul weight 1120403456)))) 1148846080), 0, 0, 0, 0] : List Int32).getD i 0, weight) rc place).2, some (4, fun i => ([FP.f2i (FP.fmul weight 1120403456), FP.f2i (FP.fmul (FP.fsub (FP.fmul weight 1120403456) (FP.i2f (FP.f2i (FP.fmul weight 1120403456)))) 1148846080), 0, 0, 0, 0] : List Int32).getD i 0, weight))
  else
    (sc_X3_whyNotTo Z place, Z, RW, none)
set_option maxHeartbeats 4000000 in
set_option maxRecDepth 100000 in
theorem cC_X3_bringRare (l : Launch) (D : va_G) (cs : Nat → ClassId) (k : Nat → Nat) (a : Nat → Nat) (Z : hZ) (r : Nat → Nat) (RW : Nat → Nat → Int64) (sz : Nat) (ia : iH a) (ik : iB k r) (d : dHB a k r) (rc : Nat) (place : Int32) (weight : UInt32) (hrc : gh Z 2 = nI rc) (hrl : rc ≤ 511) (hw : ¬ sc_X10_isWeight weight = 0 → WOK weight) : Met l yX3_bringRare wsX3_bringRare ({ frames := 4, cells := 1, slots := 6, locals := 89 }) (cPc [.ref (a 0), .int place, .float weight] D cs (([] ++ wH a (k 0) cs Z) ++ wB k r cs RW) sz) (cQN D 2 (fun n => some (.int (sc_X3_bringRare Z RW n rc place weight).1)) (fun n => (wPo n cs (sc_X3_bringRare Z RW n rc place weight).2.2.2 ++ wH a (k 0) cs ((sc_X3_bringRare Z RW n rc place weight).2.1)) ++ wB k r cs ((sc_X3_bringRare Z RW n rc place weight).2.2.1)) (adA (pOr (pH a) (pB k r)) sz)) 1 6 (adA (pOr (pH a) (pB k r)) sz) := by
  refine c_in (P := pOr (pH a) (pB k r)) (cc := cX3_bringRare) (maxL := 5) (ret := (some .int)) (lv := [(0, .ref (a 0)), (1, .int place), (2, .float weight)]) (by decide) rfl (Nat.le_of_ble_eq_true rfl) rfl ?_
  intro p e s m below meth c ls S hr hlocks hin hsz hP hK hl hS
  subst hsz
  obtain ⟨hx, hb, hml, hown, hts⟩ := id S
  have hltH := wH_lt (vaL hP)
  have hltB := wB_lt (vaR hP)
  have hX6 : ∀ w ∈ wsX60, w ∈ wsX3_bringRare := by decide +kernel
  refine lv_aload_n hx hb dX3_bringRare_0 rfl (lv_at hl 0 rfl) ?_
  refine lv_iload_n hx hb dX3_bringRare_1 rfl (lv_at hl 1 rfl) ?_
  refine c_rd S hK (show va_P D vwCl (([] ++ wH a (k 0) cs Z) ++ []) _ from vaL hP) (va_recv hK.1 hP (ci := 3) (q0 := _ + 0) rfl (get3 rfl)) (As := [.int place]) (rest := []) (cC_X3_whyNotTo l D cs k a Z _  place ) (cwV 1 hts gX3_bringRare_X3_whyNotTo rfl rfl rfl (by decide +kernel) ⟨Nat.le_of_ble_eq_true rfl, Nat.le_of_ble_eq_true rfl⟩) rfl hl.1 rfl (Nat.le_of_ble_eq_true rfl) dX3_bringRare_2 ⟨Nat.le_of_ble_eq_true rfl, Nat.le_of_ble_eq_true rfl⟩ ?_
  refine lv_istore_n (lv' := [(3, .int (sc_X3_whyNotTo Z place)), (0, .ref (a 0)), (1, .int place), (2, .float weight)]) hx hb dX3_bringRare_5 rfl hl (by decide) rfl (fun ls hl => ?_)
  refine lv_iload_n hx hb dX3_bringRare_6 rfl (lv_at hl 0 rfl) ?_
  refine lv_if_eq (tgt := 12) hx hb dX3_bringRare_7 (by decide) (fun c_1 => ?_) (fun c_1 => ?_)
  · refine lv_fload_n hx hb dX3_bringRare_12 rfl (lv_at hl 3 rfl) ?_
    refine m_st S (As := [.float weight]) (rest := []) (cC_X10_isWeight l weight) (va_cwS 1 hts gX3_bringRare_X10_isWeight rfl rfl rfl (by decide +kernel) ⟨Nat.le_of_ble_eq_true rfl, Nat.le_of_ble_eq_true rfl⟩) rfl hl.1 rfl (Nat.le_of_ble_eq_true rfl) dX3_bringRare_13 ⟨Nat.le_of_ble_eq_true rfl, Nat.le_of_ble_eq_true rfl⟩ ?_
    refine lv_if_ne (tgt := 22) hx hb dX3_bringRare_16 (by decide) (fun c_2 => ?_) (fun c_2 => ?_)
    · refine x_new hx hb hts hX6 tyX6 tyX6_ok hown (hts (.classLink RX3 153 RX6) (by decide +kernel)) (hts (.instantiable RX6 6) (by decide +kernel)) (hts (.initialized RX6) (by decide +kernel)) hK.1 hP hS (ci := 5) rfl (fs := [.int 0, .int 0, .float 0, .int 0, .int 0, .int 0]) dfX6 (Nat.le_of_ble_eq_true rfl) (Nat.le_of_ble_eq_true rfl) dX3_bringRare_22 (fun n1 H hn1 ln1 hP hS => ?_)
      have hP : va_P D vwCl (([(n1, .inr (5, [.int 0, .int 0, .float 0, .int 0, .int 0, .int 0]))] ++ wH a (k 0) cs Z) ++ wB k r cs RW) H := hP
      refine lv_dup hx hb dX3_bringRare_25 rfl ?_
      refine lv_fload_n hx hb dX3_bringRare_26 rfl (lv_at hl 3 rfl) ?_
      refine lv_iconst (v := 0) hx hb dX3_bringRare_27 (by decide) ?_
      refine lv_iconst (v := 0) hx hb dX3_bringRare_28 (by decide) ?_
      refine lv_iconst (v := 0) hx hb dX3_bringRare_29 (by decide) ?_
      refine c_w1 (WS' := (wP (two n1 (n1 + 1)) cs (4, fun i => ([FP.f2i (FP.fmul weight 1120403456), FP.f2i (FP.fmul (FP.fsub (FP.fmul weight 1120403456) (FP.i2f (FP.f2i (FP.fmul weight 1120403456)))) 1148846080), 0, 0, 0, 0] : List Int32).getD i 0, weight) ++ wH a (k 0) cs Z) ++ wB k r cs RW) (rest := [.ref n1]) (va_runI S (As := [.float weight, .int 0, .int 0, .int 0]) (b := n1) (cC_X6_init l D cs n1 _ weight 0 0 0 (hw c_2)) (cwI 4 hts gX3_bringRare_X6_init rfl rfl rfl (hts (.initialized RX6) (by decide +kernel)) (hts (.methodLink RX3 155 yX6_init) (by decide +kernel)) (hts (.instanceMethod yX6_init) (by decide +kernel)) rfl (by decide +kernel) ⟨Nat.le_of_ble_eq_true rfl, Nat.le_of_ble_eq_true rfl⟩) (preS_c hK (vaL (vaL hP))) rfl rfl hl.1 rfl (lv_room (Nat.le_of_ble_eq_true rfl)) dX3_bringRare_30 ⟨Nat.le_of_ble_eq_true rfl, Nat.le_of_ble_eq_true rfl⟩) hS (fun q h => h.elim (fun z => Or.inr (by rw [show q = n1 from z]; exact hn1)) (fun z => Or.inr (Nat.le_trans hS.1 z))) (fun H1 _ hk h => va_P.app (va_P.app h (keepP (vaR (vaL hP)) wH_p (fr1 hltH hn1) hk)) (keepP (vaR hP) wB_p (fr1 hltB hn1) hk)) (fun H locs hP hS => ?_)
      refine lv_astore (lv' := [(4, .ref n1), (3, .int (sc_X3_whyNotTo Z place)), (0, .ref (a 0)), (1, .int place), (2, .float weight)]) hx hb dX3_bringRare_33 hl (by decide) rfl (fun ls hl => ?_)
      refine lv_aload_n hx hb dX3_bringRare_35 rfl (lv_at hl 2 rfl) ?_
      refine lv_iload_n hx hb dX3_bringRare_36 rfl (lv_at hl 3 rfl) ?_
      refine lv_aload hx hb dX3_bringRare_37 (lv_at hl 0 rfl) ?_
      refine c_w1 (WS' := (wP (two n1 (n1 + 1)) cs (4, fun i => ([FP.f2i (FP.fmul weight 1120403456), FP.f2i (FP.fmul (FP.fsub (FP.fmul weight 1120403456) (FP.i2f (FP.f2i (FP.fmul weight 1120403456)))) 1148846080), 0, 0, 0, 0] : List Int32).getD i 0, weight) ++ wH a (k 0) cs ((sc_X3_putDown Z RW (two n1 (n1 + 1)) (4, fun i => ([FP.f2i (FP.fmul weight 1120403456), FP.f2i (FP.fmul (FP.fsub (FP.fmul weight 1120403456) (FP.i2f (FP.f2i (FP.fmul weight 1120403456)))) 1148846080), 0, 0, 0, 0] : List Int32).getD i 0, weight) rc place).1)) ++ wB k r cs ((sc_X3_putDown Z RW (two n1 (n1 + 1)) (4, fun i => ([FP.f2i (FP.fmul weight 1120403456), FP.f2i (FP.fmul (FP.fsub (FP.fmul weight 1120403456) (FP.i2f (FP.f2i (FP.fmul weight 1120403456)))) 1148846080), 0, 0, 0, 0] : List Int32).getD i 0, weight) rc place).2)) (rest := []) (va_runV S (As := [.int place, .ref n1]) (cC_X3_putDown l D cs (two n1 (n1 + 1)) (4, fun i => ([FP.f2i (FP.fmul weight 1120403456), FP.f2i (FP.fmul (FP.fsub (FP.fmul weight 1120403456) (FP.i2f (FP.f2i (FP.fmul weight 1120403456)))) 1148846080), 0, 0, 0, 0] : List Int32).getD i 0, weight) k a Z r RW _ ia ik d rc place hrc hrl ⟨(wt_of c_1).1, (wt_of c_1).2⟩) (cwV 2 hts gX3_bringRare_X3_putDown rfl rfl rfl (by decide +kernel) ⟨Nat.le_of_ble_eq_true rfl, Nat.le_of_ble_eq_true rfl⟩) (preV_x hK (show va_P D vwCl (([] ++ wH a (k 0) cs Z) ++ wB k r cs RW) _ from va_P.app (vaR (vaL hP)) (vaR hP)) (vaL (vaL hP)) (va_recv hK.1 hP (ci := 3) (q0 := _ + 0) rfl (get3 rfl))) rfl rfl hl.1 rfl (lv_room (Nat.le_of_ble_eq_true rfl)) dX3_bringRare_39 ⟨Nat.le_of_ble_eq_true rfl, Nat.le_of_ble_eq_true rfl⟩) hS (adA_le hS.1) (fun H1 _ hk h => (va_P.app (va_P.app (keepP (vaL (vaL hP)) wP_p (fr2 (pOr_lt hltH hltB) (two_ge hn1 (Nat.le_succ_of_le hn1))) hk) (vaL h)) (vaR h))) (fun H locs hP hS => ?_)
      refine lv_aload hx hb dX3_bringRare_42 (lv_at hl 0 rfl) ?_
      refine c_r1 (rest := []) (va_runU S (As := []) (cC_X10_hundredths_6 l D cs (two n1 (n1 + 1)) (fun i => ([FP.f2i (FP.fmul weight 1120403456), FP.f2i (FP.fmul (FP.fsub (FP.fmul weight 1120403456) (FP.i2f (FP.f2i (FP.fmul weight 1120403456)))) 1148846080), 0, 0, 0, 0] : List Int32).getD i 0) weight _) (va_cwU 0 hts gX3_bringRare_X10_hundredths_u158X6 rfl rfl rfl rfl (by decide +kernel) ⟨Nat.le_of_ble_eq_true rfl, Nat.le_of_ble_eq_true rfl⟩) (preV_c hK (vaL (vaL hP)) (va_recv hK.1 (vaL (vaL hP)) (ci := 5) (q0 := 0) rfl rfl)) rfl rfl hl.1 rfl (lv_room (Nat.le_of_ble_eq_true rfl)) dX3_bringRare_44 ⟨Nat.le_of_ble_eq_true rfl, Nat.le_of_ble_eq_true rfl⟩) (fun _ h => h) ?_
      have hsp : sc_X3_bringRare Z RW (two n1 (n1 + 1)) rc place weight = (sc_X10_hundredths_6 (fun i => ([FP.f2i (FP.fmul weight 1120403456), FP.f2i (FP.fmul (FP.fsub (FP.fmul weight 1120403456) (FP.i2f (FP.f2i (FP.fmul weight 1120403456)))) 1148846080), 0, 0, 0, 0] : List Int32).getD i 0), (sc_X3_putDown Z RW (two n1 (n1 + 1)) (4, fun i => ([FP.f2i (FP.fmul weight 1120403456), FP.f2i (FP.fmul (FP.fsub (FP.fmul weight 1120403456) (FP.i2f (FP.f2i (FP.fmul weight 1120403456)))) 1148846080), 0, 0, 0, 0] : List Int32).getD i 0, weight) rc place).1, (sc_X3_putDown Z RW (two n1 (n1 + 1)) (4, fun i => ([FP.f2i (FP.fmul weight 1120403456), FP.f2i (FP.fmul (FP.fsub (FP.fmul weight 1120403456) (FP.i2f (FP.f2i (FP.fmul weight 1120403456)))) 1148846080), 0, 0, 0, 0] : List Int32).getD i 0, weight) rc place).2, some (4, fun i => ([FP.f2i (FP.fmul weight 1120403456), FP.f2i (FP.fmul (FP.fsub (FP.fmul weight 1120403456) (FP.i2f (FP.f2i (FP.fmul weight 1120403456)))) 1148846080), 0, 0, 0, 0] : List Int32).getD i 0, weight)) := by unfold sc_X3_bringRare; rw [if_pos c_1, if_neg c_2]
      refine W.widen (k := 1) (n := 6) (Nat.le_of_ble_eq_true rfl) (Nat.le_of_ble_eq_true rfl) ?_
      exact W.iret hx hb hr (fun t2 ht2 hW => ⟨two n1 (n1 + 1), (two_ge hn1 (Nat.le_succ_of_le hn1)), (two_inj (Nat.ne_of_lt (Nat.lt_succ_self _))), by show _ = Outcome.returned (some (Value.int (sc_X3_bringRare Z RW (two n1 (n1 + 1)) rc place weight).1)); rw [hsp], by rw [ht2]; show va_P D vwCl ((wPo (two n1 (n1 + 1)) cs (sc_X3_bringRare Z RW (two n1 (n1 + 1)) rc place weight).2.2.2 ++ wH a (k 0) cs ((sc_X3_bringRare Z RW (two n1 (n1 + 1)) rc place weight).2.1)) ++ wB k r cs ((sc_X3_bringRare Z RW (two n1 (n1 + 1)) rc place weight).2.2.1)) _; rw [hsp]; exact hP, hS.F ht2⟩) hS.2.2 dX3_bringRare_47 hlocks
    · refine lv_bipush (v := (-6)) hx hb dX3_bringRare_19 (by decide) ?_
      have hsp : sc_X3_bringRare Z RW (two s.heap.size (s.heap.size + 1)) rc place weight = ((-6), Z, RW, none) := by unfold sc_X3_bringRare; rw [if_pos c_1, if_pos c_2]
      refine W.widen (k := 1) (n := 6) (Nat.le_of_ble_eq_true rfl) (Nat.le_of_ble_eq_true rfl) ?_
      exact W.iret hx hb hr (fun t2 ht2 hW => ⟨two s.heap.size (s.heap.size + 1), (two_ge (Nat.le_refl _) (Nat.le_succ _)), (two_inj (Nat.ne_of_lt (Nat.lt_succ_self _))), by show _ = Outcome.returned (some (Value.int (sc_X3_bringRare Z RW (two s.heap.size (s.heap.size + 1)) rc place weight).1)); rw [hsp], by rw [ht2]; show va_P D vwCl ((wPo (two s.heap.size (s.heap.size + 1)) cs (sc_X3_bringRare Z RW (two s.heap.size (s.heap.size + 1)) rc place weight).2.2.2 ++ wH a (k 0) cs ((sc_X3_bringRare Z RW (two s.heap.size (s.heap.size + 1)) rc place weight).2.1)) ++ wB k r cs ((sc_X3_bringRare Z RW (two s.heap.size (s.heap.size + 1)) rc place weight).2.2.1)) _; rw [hsp]; exact hP, hS.F ht2⟩) hS.2.2 dX3_bringRare_21 hlocks
  · refine lv_iload_n hx hb dX3_bringRare_10 rfl (lv_at hl 0 rfl) ?_
    have hsp : sc_X3_bringRare Z RW (two s.heap.size (s.heap.size + 1)) rc place weight = (sc_X3_whyNotTo Z place, Z, RW, none) := by unfold sc_X3_bringRare; rw [if_neg c_1]
    refine W.widen (k := 1) (n := 6) (Nat.le_of_ble_eq_true rfl) (Nat.le_of_ble_eq_true rfl) ?_
    exact W.iret hx hb hr (fun t2 ht2 hW => ⟨two s.heap.size (s.heap.size + 1), (two_ge (Nat.le_refl _) (Nat.le_succ _)), (two_inj (Nat.ne_of_lt (Nat.lt_succ_self _))), by show _ = Outcome.returned (some (Value.int (sc_X3_bringRare Z RW (two s.heap.size (s.heap.size + 1)) rc place weight).1)); rw [hsp], by rw [ht2]; show va_P D vwCl ((wPo (two s.heap.size (s.heap.size + 1)) cs (sc_X3_bringRare Z RW (two s.heap.size (s.heap.size + 1)) rc place weight).2.2.2 ++ wH a (k 0) cs ((sc_X3_bringRare Z RW (two s.heap.size (s.heap.size + 1)) rc place weight).2.1)) ++ wB k r cs ((sc_X3_bringRare Z RW (two s.heap.size (s.heap.size + 1)) rc place weight).2.2.1)) _; rw [hsp]; exact hP, hS.F ht2⟩) hS.2.2 dX3_bringRare_11 hlocks
def sc_X3_tellValue (Z : hZ) (q : Nat → Nat) (pl : pZ) (n : Nat → Nat) (place : Int32) (value : Int32) : Int32 × (hZ) × Option pZ :=
  if (sc_X3_isPlace place) = 0 then
    ((-1), Z, none)
  else
    if (go Z (tN place)) = 0 then
      if 4 ≤ pl.1 then
        if (sc_X3_isValue value) = 0 then
          ((-6), Z, none)
        else
          (sc_X6_tellers (sc_X6_withValue pl.2.1 pl.2.2 value), gpp Z (tN place) (some (n 0)), some (4, sc_X6_withValue pl.2.1 pl.2.2 value, pl.2.2))
      else
        ((-2), Z, none)
    else
      ((-2), Z, none)
set_option maxHeartbeats 4000000 in
set_option maxRecDepth 100000 in
theorem cC_X3_tellValue (l : Launch) (D : va_G) (cs : Nat → ClassId) (q : Nat → Nat) (pl : pZ) (k : Nat → Nat) (a : Nat → Nat) (Z : hZ) (sz : Nat) (ia : iH a) (place : Int32) (value : Int32) (hpq : gp Z (tN place) = some (q 0)) (hwk : 4 ≤ pl.1 → WOK pl.2.2) : Met l yX3_tellValue wsX3_tellValue ({ frames := 5, cells := 1, slots := 6, locals := 107 }) (cPcX [.ref (a 0), .int place, .int value] D cs (([] ++ wH a (k 0) cs Z) ++ []) (wP q cs pl) sz) (cQN D 2 (fun n => some (.int (sc_X3_tellValue Z q pl n place value).1)) (fun n => (wPo n cs (sc_X3_tellValue Z q pl n place value).2.2 ++ wH a (k 0) cs ((sc_X3_tellValue Z q pl n place value).2.1)) ++ []) (adA (pH a) sz)) 1 6 (adA (pH a) sz) := by
  refine c_inX (P := pH a) (cc := cX3_tellValue) (maxL := 5) (ret := (some .int)) (lv := [(0, .ref (a 0)), (1, .int place), (2, .int value)]) (by decide) rfl (Nat.le_of_ble_eq_true rfl) rfl ?_
  intro p e s m below meth c ls S hr hlocks hin hsz hP hK hX0 hl hS
  subst hsz
  obtain ⟨hx, hb, hml, hown, hts⟩ := id S
  have hltH := wH_lt (vaR (vaL hP))
  have hX3 : ∀ w ∈ wsX30, w ∈ wsX3_tellValue := by decide +kernel
  refine lv_iload_n hx hb dX3_tellValue_0 rfl (lv_at hl 1 rfl) ?_
  refine m_st S (As := [.int place]) (rest := []) (cC_X3_isPlace l place) (cwS 1 hts gX3_tellValue_X3_isPlace rfl rfl rfl (by decide +kernel) ⟨Nat.le_of_ble_eq_true rfl, Nat.le_of_ble_eq_true rfl⟩) rfl hl.1 rfl (Nat.le_of_ble_eq_true rfl) dX3_tellValue_1 ⟨Nat.le_of_ble_eq_true rfl, Nat.le_of_ble_eq_true rfl⟩ ?_
  refine lv_if_ne (tgt := 9) hx hb dX3_tellValue_4 (by decide) (fun c_1 => ?_) (fun c_1 => ?_)
  · refine lv_aload_n hx hb dX3_tellValue_9 rfl (lv_at hl 0 rfl) ?_
    refine hx_get hx hb hts hX3 hown hK.1 hP 6 (by decide) (hts (.fieldLink RX3 33 "PledgeHouse$House" "ticketOn" "[I") (by decide +kernel)) rfl (v := .ref (a 4)) rfl dX3_tellValue_10 ?_
    refine lv_iload_n hx hb dX3_tellValue_13 rfl (lv_at hl 1 rfl) ?_
    refine hx_old hx hb hK.1 hP (tN place) (pl_of c_1).1 (pl_of c_1).2 (v := go Z (tN place)) rfl dX3_tellValue_14 ?_
    refine lv_if_eq (tgt := 21) hx hb dX3_tellValue_15 (by decide) (fun c_2 => ?_) (fun c_2 => ?_)
    · refine lv_aload_n hx hb dX3_tellValue_21 rfl (lv_at hl 0 rfl) ?_
      refine hx_get hx hb hts hX3 hown hK.1 hP 4 (by decide) (hts (.fieldLink RX3 25 "PledgeHouse$House" "pledges" "[LPledgeHouse$Pledge;") (by decide +kernel)) rfl (v := .ref (a 2)) rfl dX3_tellValue_22 ?_
      refine lv_iload_n hx hb dX3_tellValue_25 rfl (lv_at hl 1 rfl) ?_
      refine hx_pld hx hb hK.1 hP (tN place) (pl_of c_1).1 (pl_of c_1).2 (v := .ref (q 0)) ((congrArg va_rf hpq)) dX3_tellValue_26 ?_
      refine lv_astore (lv' := [(4, .ref (q 0)), (0, .ref (a 0)), (1, .int place), (2, .int value)]) hx hb dX3_tellValue_27 hl (by decide) rfl (fun ls hl => ?_)
      refine lv_aload hx hb dX3_tellValue_29 (lv_at hl 0 rfl) ?_
      by_cases c_3 : 4 ≤ pl.1
      · refine ir_yes rfl hx hb hown (hts (.classLink RX3 153 "PledgeHouse$Rare") (by decide +kernel)) hK hX0 c_3 dX3_tellValue_31 ?_
        refine lv_if_eq (tgt := 74) hx hb dX3_tellValue_34 (by decide) (fun c_4 => ?_) (fun c_4 => ?_)
        · exact absurd c_4 (by decide)
        · refine lv_aload hx hb dX3_tellValue_37 (lv_at hl 0 rfl) ?_
          refine irc_yes rfl hx hb hown (hts (.classLink RX3 153 "PledgeHouse$Rare") (by decide +kernel)) hK hX0 c_3 dX3_tellValue_39 ?_
          refine lv_astore_n (lv' := [(3, .ref (q 0)), (4, .ref (q 0)), (0, .ref (a 0)), (1, .int place), (2, .int value)]) hx hb dX3_tellValue_42 rfl hl (by decide) rfl (fun ls hl => ?_)
          refine lv_iload_n hx hb dX3_tellValue_43 rfl (lv_at hl 4 rfl) ?_
          refine m_st S (As := [.int value]) (rest := []) (cC_X3_isValue l value) (cwS 1 hts gX3_tellValue_X3_isValue rfl rfl rfl (by decide +kernel) ⟨Nat.le_of_ble_eq_true rfl, Nat.le_of_ble_eq_true rfl⟩) rfl hl.1 rfl (Nat.le_of_ble_eq_true rfl) dX3_tellValue_44 ⟨Nat.le_of_ble_eq_true rfl, Nat.le_of_ble_eq_true rfl⟩ ?_
          refine lv_if_ne (tgt := 53) hx hb dX3_tellValue_47 (by decide) (fun c_5 => ?_) (fun c_5 => ?_)
          · refine lv_aload_n hx hb dX3_tellValue_53 rfl (lv_at hl 0 rfl) ?_
            refine lv_iload_n hx hb dX3_tellValue_54 rfl (lv_at hl 4 rfl) ?_
            refine c_wN (wf' := fun n1 => (wP n1 cs (4, sc_X6_withValue pl.2.1 pl.2.2 value, pl.2.2) ++ wH a (k 0) cs Z) ++ []) (rest := []) (va_runV S (As := [.int value]) (cC_X6_withValue l D cs q pl.2.1 pl.2.2 _ value (hwk c_3)) (cwV 1 hts gX3_tellValue_X6_withValue rfl rfl rfl (by decide +kernel) ⟨Nat.le_of_ble_eq_true rfl, Nat.le_of_ble_eq_true rfl⟩) (preV_c hK (wP_rare c_3 hX0) (va_recv hK.1 (wP_rare c_3 hX0) (ci := 5) (q0 := 0) rfl rfl)) rfl rfl hl.1 rfl (lv_room (Nat.le_of_ble_eq_true rfl)) dX3_tellValue_55 ⟨Nat.le_of_ble_eq_true rfl, Nat.le_of_ble_eq_true rfl⟩) hS (fun q h => h.elim (fun z => z.elim) (fun z => Or.inr (Nat.le_trans hS.1 z))) (fun n1 H1 _ hk h => va_P.app (va_P.app h (keepP (vaR (vaL hP)) wH_p nF_n hk)) nilP) (fun n1 H locs hn1 in1 hP hS => ?_)
            refine lv_astore (lv' := [(4, .ref (n1 0)), (3, .ref (q 0)), (0, .ref (a 0)), (1, .int place), (2, .int value)]) hx hb dX3_tellValue_58 hl (by decide) rfl (fun ls hl => ?_)
            refine lv_aload_n hx hb dX3_tellValue_60 rfl (lv_at hl 2 rfl) ?_
            refine hx_get hx hb hts hX3 hown hK.1 hP 4 (by decide) (hts (.fieldLink RX3 25 "PledgeHouse$House" "pledges" "[LPledgeHouse$Pledge;") (by decide +kernel)) rfl (v := .ref (a 2)) rfl dX3_tellValue_61 ?_
            refine lv_iload_n hx hb dX3_tellValue_64 rfl (lv_at hl 3 rfl) ?_
            refine lv_aload hx hb dX3_tellValue_65 (lv_at hl 0 rfl) ?_
            refine hx_pst hx hb hK.1 hP (wNH_D ia hn1 in1 hltH) hS (any_P hK (vaL (vaL hP))) (tN place) (pl_of c_1).1 (pl_of c_1).2 dX3_tellValue_67 (fun H locs hP hS => ?_)
            refine lv_aload hx hb dX3_tellValue_68 (lv_at hl 0 rfl) ?_
            refine c_rd S hK (vaL (vaL hP)) (va_recv hK.1 (vaL (vaL hP)) (ci := 5) (q0 := 0) rfl rfl) (As := []) (rest := []) (cC_X6_tellers l D cs n1 (sc_X6_withValue pl.2.1 pl.2.2 value) pl.2.2 _) (cwV 0 hts gX3_tellValue_X6_tellers rfl rfl rfl (by decide +kernel) ⟨Nat.le_of_ble_eq_true rfl, Nat.le_of_ble_eq_true rfl⟩) rfl hl.1 rfl (Nat.le_of_ble_eq_true rfl) dX3_tellValue_70 ⟨Nat.le_of_ble_eq_true rfl, Nat.le_of_ble_eq_true rfl⟩ ?_
            have hsp : sc_X3_tellValue Z q pl n1 place value = (sc_X6_tellers (sc_X6_withValue pl.2.1 pl.2.2 value), gpp Z (tN place) (some (n1 0)), some (4, sc_X6_withValue pl.2.1 pl.2.2 value, pl.2.2)) := by unfold sc_X3_tellValue; rw [if_neg c_1, if_pos c_2, if_pos c_3, if_neg c_5]
            refine W.widen (k := 1) (n := 6) (Nat.le_of_ble_eq_true rfl) (Nat.le_of_ble_eq_true rfl) ?_
            exact W.iret hx hb hr (fun t2 ht2 hW => ⟨n1, hn1, in1, by show _ = Outcome.returned (some (Value.int (sc_X3_tellValue Z q pl n1 place value).1)); rw [hsp], by rw [ht2]; show va_P D vwCl ((wPo n1 cs (sc_X3_tellValue Z q pl n1 place value).2.2 ++ wH a (k 0) cs ((sc_X3_tellValue Z q pl n1 place value).2.1)) ++ []) _; rw [hsp]; exact hP, hS.F ht2⟩) hS.2.2 dX3_tellValue_73 hlocks
          · refine lv_bipush (v := (-6)) hx hb dX3_tellValue_50 (by decide) ?_
            have hsp : sc_X3_tellValue Z q pl (two s.heap.size (s.heap.size + 1)) place value = ((-6), Z, none) := by unfold sc_X3_tellValue; rw [if_neg c_1, if_pos c_2, if_pos c_3, if_pos c_5]
            refine W.widen (k := 1) (n := 6) (Nat.le_of_ble_eq_true rfl) (Nat.le_of_ble_eq_true rfl) ?_
            exact W.iret hx hb hr (fun t2 ht2 hW => ⟨two s.heap.size (s.heap.size + 1), (two_ge (Nat.le_refl _) (Nat.le_succ _)), (two_inj (Nat.ne_of_lt (Nat.lt_succ_self _))), by show _ = Outcome.returned (some (Value.int (sc_X3_tellValue Z q pl (two s.heap.size (s.heap.size + 1)) place value).1)); rw [hsp], by rw [ht2]; show va_P D vwCl ((wPo (two s.heap.size (s.heap.size + 1)) cs (sc_X3_tellValue Z q pl (two s.heap.size (s.heap.size + 1)) place value).2.2 ++ wH a (k 0) cs ((sc_X3_tellValue Z q pl (two s.heap.size (s.heap.size + 1)) place value).2.1)) ++ []) _; rw [hsp]; exact hP, hS.F ht2⟩) hS.2.2 dX3_tellValue_52 hlocks
      · refine ir_no rfl hx hb hown (hts (.classLink RX3 153 "PledgeHouse$Rare") (by decide +kernel)) hK hX0 c_3 dX3_tellValue_31 ?_
        refine lv_if_eq (tgt := 74) hx hb dX3_tellValue_34 (by decide) (fun c_6 => ?_) (fun c_6 => ?_)
        · refine lv_bipush (v := (-2)) hx hb dX3_tellValue_74 (by decide) ?_
          have hsp : sc_X3_tellValue Z q pl (two s.heap.size (s.heap.size + 1)) place value = ((-2), Z, none) := by unfold sc_X3_tellValue; rw [if_neg c_1, if_pos c_2, if_neg c_3]
          refine W.widen (k := 1) (n := 6) (Nat.le_of_ble_eq_true rfl) (Nat.le_of_ble_eq_true rfl) ?_
          exact W.iret hx hb hr (fun t2 ht2 hW => ⟨two s.heap.size (s.heap.size + 1), (two_ge (Nat.le_refl _) (Nat.le_succ _)), (two_inj (Nat.ne_of_lt (Nat.lt_succ_self _))), by show _ = Outcome.returned (some (Value.int (sc_X3_tellValue Z q pl (two s.heap.size (s.heap.size + 1)) place value).1)); rw [hsp], by rw [ht2]; show va_P D vwCl ((wPo (two s.heap.size (s.heap.size + 1)) cs (sc_X3_tellValue Z q pl (two s.heap.size (s.heap.size + 1)) place value).2.2 ++ wH a (k 0) cs ((sc_X3_tellValue Z q pl (two s.heap.size (s.heap.size + 1)) place value).2.1)) ++ []) _; rw [hsp]; exact hP, hS.F ht2⟩) hS.2.2 dX3_tellValue_76 hlocks
        · exact absurd c_6 (by decide)
    · refine lv_bipush (v := (-2)) hx hb dX3_tellValue_18 (by decide) ?_
      have hsp : sc_X3_tellValue Z q pl (two s.heap.size (s.heap.size + 1)) place value = ((-2), Z, none) := by unfold sc_X3_tellValue; rw [if_neg c_1, if_neg c_2]
      refine W.widen (k := 1) (n := 6) (Nat.le_of_ble_eq_true rfl) (Nat.le_of_ble_eq_true rfl) ?_
      exact W.iret hx hb hr (fun t2 ht2 hW => ⟨two s.heap.size (s.heap.size + 1), (two_ge (Nat.le_refl _) (Nat.le_succ _)), (two_inj (Nat.ne_of_lt (Nat.lt_succ_self _))), by show _ = Outcome.returned (some (Value.int (sc_X3_tellValue Z q pl (two s.heap.size (s.heap.size + 1)) place value).1)); rw [hsp], by rw [ht2]; show va_P D vwCl ((wPo (two s.heap.size (s.heap.size + 1)) cs (sc_X3_tellValue Z q pl (two s.heap.size (s.heap.size + 1)) place value).2.2 ++ wH a (k 0) cs ((sc_X3_tellValue Z q pl (two s.heap.size (s.heap.size + 1)) place value).2.1)) ++ []) _; rw [hsp]; exact hP, hS.F ht2⟩) hS.2.2 dX3_tellValue_20 hlocks
  · refine lv_iconst (v := (-1)) hx hb dX3_tellValue_7 (by decide) ?_
    have hsp : sc_X3_tellValue Z q pl (two s.heap.size (s.heap.size + 1)) place value = ((-1), Z, none) := by unfold sc_X3_tellValue; rw [if_pos c_1]
    refine W.widen (k := 1) (n := 6) (Nat.le_of_ble_eq_true rfl) (Nat.le_of_ble_eq_true rfl) ?_
    exact W.iret hx hb hr (fun t2 ht2 hW => ⟨two s.heap.size (s.heap.size + 1), (two_ge (Nat.le_refl _) (Nat.le_succ _)), (two_inj (Nat.ne_of_lt (Nat.lt_succ_self _))), by show _ = Outcome.returned (some (Value.int (sc_X3_tellValue Z q pl (two s.heap.size (s.heap.size + 1)) place value).1)); rw [hsp], by rw [ht2]; show va_P D vwCl ((wPo (two s.heap.size (s.heap.size + 1)) cs (sc_X3_tellValue Z q pl (two s.heap.size (s.heap.size + 1)) place value).2.2 ++ wH a (k 0) cs ((sc_X3_tellValue Z q pl (two s.heap.size (s.heap.size + 1)) place value).2.1)) ++ []) _; rw [hsp]; exact hP, hS.F ht2⟩) hS.2.2 dX3_tellValue_8 hlocks
def sc_X3_tellValue_n (Z : hZ) (place : Int32) (value : Int32) : Int32 :=
  if (sc_X3_isPlace place) = 0 then
    (-1)
  else
    if (go Z (tN place)) = 0 then
      (-2)
    else
      (-2)
set_option maxHeartbeats 4000000 in
set_option maxRecDepth 100000 in
theorem cC_X3_tellValue_n (l : Launch) (D : va_G) (cs : Nat → ClassId) (k : Nat → Nat) (a : Nat → Nat) (Z : hZ) (sz : Nat) (place : Int32) (value : Int32) (hpq : gp Z (tN place) = none) : Met l yX3_tellValue wsX3_tellValue ({ frames := 1, cells := 0, slots := 0, locals := 20 }) (cPc [.ref (a 0), .int place, .int value] D cs (([] ++ wH a (k 0) cs Z) ++ []) sz) (k2_QcV (.int (sc_X3_tellValue_n Z place value))) 0 0 (fun _ => False) := by
  refine c_in (P := pH a) (cc := cX3_tellValue) (maxL := 5) (ret := (some .int)) (lv := [(0, .ref (a 0)), (1, .int place), (2, .int value)]) (by decide) rfl (Nat.le_of_ble_eq_true rfl) rfl ?_
  intro p e s m below meth c ls S hr hlocks hin hsz hP hK hl hS
  subst hsz
  obtain ⟨hx, hb, hml, hown, hts⟩ := id S
  have hX3 : ∀ w ∈ wsX30, w ∈ wsX3_tellValue := by decide +kernel
  refine lv_iload_n hx hb dX3_tellValue_0 rfl (lv_at hl 1 rfl) ?_
  refine m_st S (As := [.int place]) (rest := []) (cC_X3_isPlace l place) (cwS 1 hts gX3_tellValue_X3_isPlace rfl rfl rfl (by decide +kernel) ⟨Nat.le_of_ble_eq_true rfl, Nat.le_of_ble_eq_true rfl⟩) rfl hl.1 rfl (Nat.le_of_ble_eq_true rfl) dX3_tellValue_1 ⟨Nat.zero_le _, Nat.zero_le _⟩ ?_
  refine lv_if_ne (tgt := 9) hx hb dX3_tellValue_4 (by decide) (fun c_1 => ?_) (fun c_1 => ?_)
  · refine lv_aload_n hx hb dX3_tellValue_9 rfl (lv_at hl 0 rfl) ?_
    refine hx_get hx hb hts hX3 hown hK.1 hP 6 (by decide) (hts (.fieldLink RX3 33 "PledgeHouse$House" "ticketOn" "[I") (by decide +kernel)) rfl (v := .ref (a 4)) rfl dX3_tellValue_10 ?_
    refine lv_iload_n hx hb dX3_tellValue_13 rfl (lv_at hl 1 rfl) ?_
    refine hx_old hx hb hK.1 hP (tN place) (pl_of c_1).1 (pl_of c_1).2 (v := go Z (tN place)) rfl dX3_tellValue_14 ?_
    refine lv_if_eq (tgt := 21) hx hb dX3_tellValue_15 (by decide) (fun c_2 => ?_) (fun c_2 => ?_)
    · refine lv_aload_n hx hb dX3_tellValue_21 rfl (lv_at hl 0 rfl) ?_
      refine hx_get hx hb hts hX3 hown hK.1 hP 4 (by decide) (hts (.fieldLink RX3 25 "PledgeHouse$House" "pledges" "[LPledgeHouse$Pledge;") (by decide +kernel)) rfl (v := .ref (a 2)) rfl dX3_tellValue_22 ?_
      refine lv_iload_n hx hb dX3_tellValue_25 rfl (lv_at hl 1 rfl) ?_
      refine hx_pld hx hb hK.1 hP (tN place) (pl_of c_1).1 (pl_of c_1).2 (v := .null) ((congrArg va_rf hpq)) dX3_tellValue_26 ?_
      refine lv_astoreN (lv' := [(4, .null), (0, .ref (a 0)), (1, .int place), (2, .int value)]) hx hb dX3_tellValue_27 hl (by decide) rfl (fun ls hl => ?_)
      refine lv_aloadN hx hb dX3_tellValue_29 (lv_at hl 0 rfl) ?_
      refine lv_instN hx hb dX3_tellValue_31 ?_
      refine lv_if_eq (tgt := 74) hx hb dX3_tellValue_34 (by decide) (fun c_3 => ?_) (fun c_3 => ?_)
      · refine lv_bipush (v := (-2)) hx hb dX3_tellValue_74 (by decide) ?_
        have hsp : sc_X3_tellValue_n Z place value = (-2) := by unfold sc_X3_tellValue_n; rw [if_neg c_1, if_pos c_2]
        exact W.iret hx hb hr (fun t2 ht2 hW => ⟨by rw [hsp], ht2⟩) (fun q hq => by cases hq) dX3_tellValue_76 hlocks
      · exact absurd c_3 (by decide)
    · refine lv_bipush (v := (-2)) hx hb dX3_tellValue_18 (by decide) ?_
      have hsp : sc_X3_tellValue_n Z place value = (-2) := by unfold sc_X3_tellValue_n; rw [if_neg c_1, if_neg c_2]
      exact W.iret hx hb hr (fun t2 ht2 hW => ⟨by rw [hsp], ht2⟩) (fun q hq => by cases hq) dX3_tellValue_20 hlocks
  · refine lv_iconst (v := (-1)) hx hb dX3_tellValue_7 (by decide) ?_
    have hsp : sc_X3_tellValue_n Z place value = (-1) := by unfold sc_X3_tellValue_n; rw [if_pos c_1]
    exact W.iret hx hb hr (fun t2 ht2 hW => ⟨by rw [hsp], ht2⟩) (fun q hq => by cases hq) dX3_tellValue_8 hlocks
def sc_X3_beginLot (Z : hZ) (RW : Nat → Nat → Int64) (n : Nat → Nat) (rc : Nat) (place : Int32) (value : Int32) : Int32 × (hZ) × (Nat → Nat → Int64) × Option pZ :=
  if (sc_X3_isValue value) = 0 then
    ((-6), Z, RW, none)
  else
    (sc_X4_numberOfLatest (sc_X4_withItem (fun _ => 0) value), (sc_X3_putDown Z RW n (2, sc_X4_withItem (fun _ => 0) value, 0) rc place).1, (sc_X3_putDown Z RW n (2, sc_X4_withItem (fun _ => 0) value, 0) rc place).2, some (2, sc_X4_withItem (fun _ => 0) value, 0))
set_option maxHeartbeats 4000000 in
set_option maxRecDepth 100000 in
theorem cC_X3_beginLot (l : Launch) (D : va_G) (cs : Nat → ClassId) (k : Nat → Nat) (a : Nat → Nat) (Z : hZ) (r : Nat → Nat) (RW : Nat → Nat → Int64) (sz : Nat) (ia : iH a) (ik : iB k r) (d : dHB a k r) (rc : Nat) (place : Int32) (value : Int32) (hrc : gh Z 2 = nI rc) (hrl : rc ≤ 511) (hpl : place = nI (tN place) ∧ tN place < 40) : Met l yX3_beginLot wsX3_beginLot ({ frames := 4, cells := 4, slots := 16, locals := 89 }) (cPc [.ref (a 0), .int place, .int value] D cs (([] ++ wH a (k 0) cs Z) ++ wB k r cs RW) sz) (cQN D 2 (fun n => some (.int (sc_X3_beginLot Z RW n rc place value).1)) (fun n => (wPo n cs (sc_X3_beginLot Z RW n rc place value).2.2.2 ++ wH a (k 0) cs ((sc_X3_beginLot Z RW n rc place value).2.1)) ++ wB k r cs ((sc_X3_beginLot Z RW n rc place value).2.2.1)) (adA (pOr (pH a) (pB k r)) sz)) 4 16 (adA (pOr (pH a) (pB k r)) sz) := by
  refine c_in (P := pOr (pH a) (pB k r)) (cc := cX3_beginLot) (maxL := 4) (ret := (some .int)) (lv := [(0, .ref (a 0)), (1, .int place), (2, .int value)]) (by decide) rfl (Nat.le_of_ble_eq_true rfl) rfl ?_
  intro p e s m below meth c ls S hr hlocks hin hsz hP hK hl hS
  subst hsz
  obtain ⟨hx, hb, hml, hown, hts⟩ := id S
  have hltH := wH_lt (vaL hP)
  have hltB := wB_lt (vaR hP)
  refine lv_iload_n hx hb dX3_beginLot_0 rfl (lv_at hl 2 rfl) ?_
  refine m_st S (As := [.int value]) (rest := []) (cC_X3_isValue l value) (cwS 1 hts gX3_beginLot_X3_isValue rfl rfl rfl (by decide +kernel) ⟨Nat.le_of_ble_eq_true rfl, Nat.le_of_ble_eq_true rfl⟩) rfl hl.1 rfl (Nat.le_of_ble_eq_true rfl) dX3_beginLot_1 ⟨Nat.le_of_ble_eq_true rfl, Nat.le_of_ble_eq_true rfl⟩ ?_
  refine lv_if_ne (tgt := 10) hx hb dX3_beginLot_4 (by decide) (fun c_1 => ?_) (fun c_1 => ?_)
  · refine c_wN (wf' := fun n1 => (wP n1 cs (2, fun _ => 0, 0) ++ wH a (k 0) cs Z) ++ wB k r cs RW) (rest := []) (va_runS S (As := []) (cC_X4_empty l D cs _ ) (va_cwS 0 hts gX3_beginLot_X4_empty rfl rfl rfl (by decide +kernel) ⟨Nat.le_of_ble_eq_true rfl, Nat.le_of_ble_eq_true rfl⟩) (preS_c hK nilP) rfl rfl hl.1 rfl (lv_room (Nat.le_of_ble_eq_true rfl)) dX3_beginLot_10 ⟨Nat.le_of_ble_eq_true rfl, Nat.le_of_ble_eq_true rfl⟩) hS (fun q h => h.elim (fun z => z.elim) (fun z => Or.inr (Nat.le_trans hS.1 z))) (fun n1 H1 _ hk h => va_P.app (va_P.app h (keepP (vaL hP) wH_p nF_n hk)) (keepP (vaR hP) wB_p nF_n hk)) (fun n1 H locs hn1 in1 hP hS => ?_)
    refine lv_iload_n hx hb dX3_beginLot_13 rfl (lv_at hl 2 rfl) ?_
    refine c_wN (wf' := fun n2 => (wP n2 cs (2, sc_X4_withItem (fun _ => 0) value, 0) ++ wH a (k 0) cs Z) ++ wB k r cs RW) (rest := []) (va_runV S (As := [.int value]) (cC_X4_withItem l D cs n1 (fun _ => 0) _ value (by decide)) (cwV 1 hts gX3_beginLot_X4_withItem rfl rfl rfl (by decide +kernel) ⟨Nat.le_of_ble_eq_true rfl, Nat.le_of_ble_eq_true rfl⟩) (preV_c hK (vaL (vaL hP)) (va_recv hK.1 (vaL (vaL hP)) (ci := 4) (q0 := 0) rfl rfl)) rfl rfl hl.1 rfl (lv_room (Nat.le_of_ble_eq_true rfl)) dX3_beginLot_14 ⟨Nat.le_of_ble_eq_true rfl, Nat.le_of_ble_eq_true rfl⟩) hS (fun q h => h.elim (fun z => z.elim) (fun z => Or.inr (Nat.le_trans hS.1 z))) (fun n2 H1 _ hk h => va_P.app (va_P.app h (keepP (vaR (vaL hP)) wH_p nF_n hk)) (keepP (vaR hP) wB_p nF_n hk)) (fun n2 H locs hn2 in2 hP hS => ?_)
    refine lv_astore_n (lv' := [(3, .ref (n2 0)), (0, .ref (a 0)), (1, .int place), (2, .int value)]) hx hb dX3_beginLot_17 rfl hl (by decide) rfl (fun ls hl => ?_)
    refine lv_aload_n hx hb dX3_beginLot_18 rfl (lv_at hl 1 rfl) ?_
    refine lv_iload_n hx hb dX3_beginLot_19 rfl (lv_at hl 2 rfl) ?_
    refine lv_aload_n hx hb dX3_beginLot_20 rfl (lv_at hl 0 rfl) ?_
    refine c_w1 (WS' := (wP n2 cs (2, sc_X4_withItem (fun _ => 0) value, 0) ++ wH a (k 0) cs ((sc_X3_putDown Z RW n2 (2, sc_X4_withItem (fun _ => 0) value, 0) rc place).1)) ++ wB k r cs ((sc_X3_putDown Z RW n2 (2, sc_X4_withItem (fun _ => 0) value, 0) rc place).2)) (rest := []) (va_runV S (As := [.int place, .ref (n2 0)]) (cC_X3_putDown l D cs n2 (2, sc_X4_withItem (fun _ => 0) value, 0) k a Z r RW _ ia ik d rc place hrc hrl ⟨hpl.1, hpl.2⟩) (cwV 2 hts gX3_beginLot_X3_putDown rfl rfl rfl (by decide +kernel) ⟨Nat.le_of_ble_eq_true rfl, Nat.le_of_ble_eq_true rfl⟩) (preV_x hK (show va_P D vwCl (([] ++ wH a (k 0) cs Z) ++ wB k r cs RW) _ from va_P.app (vaR (vaL hP)) (vaR hP)) (vaL (vaL hP)) (va_recv hK.1 hP (ci := 3) (q0 := _ + 0) rfl (get3 rfl))) rfl rfl hl.1 rfl (lv_room (Nat.le_of_ble_eq_true rfl)) dX3_beginLot_21 ⟨Nat.le_of_ble_eq_true rfl, Nat.le_of_ble_eq_true rfl⟩) hS (adA_le hS.1) (fun H1 _ hk h => (va_P.app (va_P.app (keepP (vaL (vaL hP)) wP_p (fr2 (pOr_lt hltH hltB) hn2) hk) (vaL h)) (vaR h))) (fun H locs hP hS => ?_)
    refine lv_aload_n hx hb dX3_beginLot_24 rfl (lv_at hl 0 rfl) ?_
    refine c_rd S hK (vaL (vaL hP)) (va_recv hK.1 (vaL (vaL hP)) (ci := 4) (q0 := 0) rfl rfl) (As := []) (rest := []) (cC_X4_numberOfLatest l D cs n2 (sc_X4_withItem (fun _ => 0) value) _) (cwV 0 hts gX3_beginLot_X4_numberOfLatest rfl rfl rfl (by decide +kernel) ⟨Nat.le_of_ble_eq_true rfl, Nat.le_of_ble_eq_true rfl⟩) rfl hl.1 rfl (Nat.le_of_ble_eq_true rfl) dX3_beginLot_25 ⟨Nat.le_of_ble_eq_true rfl, Nat.le_of_ble_eq_true rfl⟩ ?_
    have hsp : sc_X3_beginLot Z RW n2 rc place value = (sc_X4_numberOfLatest (sc_X4_withItem (fun _ => 0) value), (sc_X3_putDown Z RW n2 (2, sc_X4_withItem (fun _ => 0) value, 0) rc place).1, (sc_X3_putDown Z RW n2 (2, sc_X4_withItem (fun _ => 0) value, 0) rc place).2, some (2, sc_X4_withItem (fun _ => 0) value, 0)) := by unfold sc_X3_beginLot; rw [if_neg c_1]
    refine W.widen (k := 4) (n := 16) (Nat.le_of_ble_eq_true rfl) (Nat.le_of_ble_eq_true rfl) ?_
    exact W.iret hx hb hr (fun t2 ht2 hW => ⟨n2, hn2, in2, by show _ = Outcome.returned (some (Value.int (sc_X3_beginLot Z RW n2 rc place value).1)); rw [hsp], by rw [ht2]; show va_P D vwCl ((wPo n2 cs (sc_X3_beginLot Z RW n2 rc place value).2.2.2 ++ wH a (k 0) cs ((sc_X3_beginLot Z RW n2 rc place value).2.1)) ++ wB k r cs ((sc_X3_beginLot Z RW n2 rc place value).2.2.1)) _; rw [hsp]; exact hP, hS.F ht2⟩) hS.2.2 dX3_beginLot_28 hlocks
  · refine lv_bipush (v := (-6)) hx hb dX3_beginLot_7 (by decide) ?_
    have hsp : sc_X3_beginLot Z RW (two s.heap.size (s.heap.size + 1)) rc place value = ((-6), Z, RW, none) := by unfold sc_X3_beginLot; rw [if_pos c_1]
    refine W.widen (k := 4) (n := 16) (Nat.le_of_ble_eq_true rfl) (Nat.le_of_ble_eq_true rfl) ?_
    exact W.iret hx hb hr (fun t2 ht2 hW => ⟨two s.heap.size (s.heap.size + 1), (two_ge (Nat.le_refl _) (Nat.le_succ _)), (two_inj (Nat.ne_of_lt (Nat.lt_succ_self _))), by show _ = Outcome.returned (some (Value.int (sc_X3_beginLot Z RW (two s.heap.size (s.heap.size + 1)) rc place value).1)); rw [hsp], by rw [ht2]; show va_P D vwCl ((wPo (two s.heap.size (s.heap.size + 1)) cs (sc_X3_beginLot Z RW (two s.heap.size (s.heap.size + 1)) rc place value).2.2.2 ++ wH a (k 0) cs ((sc_X3_beginLot Z RW (two s.heap.size (s.heap.size + 1)) rc place value).2.1)) ++ wB k r cs ((sc_X3_beginLot Z RW (two s.heap.size (s.heap.size + 1)) rc place value).2.2.1)) _; rw [hsp]; exact hP, hS.F ht2⟩) hS.2.2 dX3_beginLot_9 hlocks
theorem if_some {Z : hZ} {place : Int32} {q : Nat} (h : gp Z (tN place) = some q) : sc_X3_isFree Z place = 0 := by
  unfold sc_X3_isFree
  rw [if_neg (by rw [h]; exact fun z => by cases z)]
theorem lu_some {nm : Int32} {v : Nat → Int32} {q : Nat → Nat} {pl : pZ} {Z : hZ} (h : ¬ sc_X3_lotUnder nm v q pl Z = none) : sc_X3_lotUnder nm v q pl Z = some (q 0) ∧ pl.1 = 2 ∧ ¬ sc_X3_isPlace (v 15) = 0 := by
  unfold sc_X3_lotUnder at h ⊢
  by_cases h1 : sc_X9_isHolders nm v = 0
  · rw [if_pos h1] at h; exact absurd rfl h
  · rw [if_neg h1] at h ⊢
    by_cases h2 : sc_X3_isPlace (v 15) = 0
    · rw [if_pos h2] at h; exact absurd rfl h
    · rw [if_neg h2] at h ⊢
      by_cases h3 : pl.1 = 2
      · rw [if_pos h3]; exact ⟨rfl, h3, h2⟩
      · rw [if_neg h3] at h; exact absurd rfl h
theorem lu_none {nm : Int32} {v : Nat → Int32} {Z : hZ} : sc_X3_lotUnder_n nm v Z = none := by
  unfold sc_X3_lotUnder_n
  split <;> (try split) <;> rfl
def sc_X3_bringItem (Z : hZ) (RW : Nat → Nat → Int64) (q : Nat → Nat) (pl : pZ) (n : Nat → Nat) (rc : Nat) (place : Int32) (value : Int32) : Int32 × (hZ) × (Nat → Nat → Int64) × Option pZ :=
  if (sc_X3_isPlace place) = 0 then
    ((-1), Z, RW, none)
  else
    if (go Z (tN place)) = 0 then
      if pl.1 = 2 then
        if (sc_X3_isValue value) = 0 then
          ((-6), Z, RW, none)
        else
          if (sc_X4_isFull pl.2.1) = 0 then
            (sc_X4_numberOfLatest (sc_X4_withItem pl.2.1 value), gpp Z (tN place) (some (n 0)), RW, some (2, sc_X4_withItem pl.2.1 value, 0))
          else
            ((-6), Z, RW, none)
      else
        ((-2), Z, RW, none)
    else
      ((-2), Z, RW, none)
set_option maxHeartbeats 4000000 in
set_option maxRecDepth 100000 in
theorem cC_X3_bringItem (l : Launch) (D : va_G) (cs : Nat → ClassId) (q : Nat → Nat) (pl : pZ) (k : Nat → Nat) (a : Nat → Nat) (Z : hZ) (r : Nat → Nat) (RW : Nat → Nat → Int64) (sz : Nat) (ia : iH a) (ik : iB k r) (d : dHB a k r) (rc : Nat) (place : Int32) (value : Int32) (hrc : gh Z 2 = nI rc) (hrl : rc ≤ 511) (hpq : gp Z (tN place) = some (q 0)) (hw6 : pl.1 = 2 → ¬ pl.2.1 6 < 0) : Met l yX3_bringItem wsX3_bringItem ({ frames := 4, cells := 4, slots := 16, locals := 84 }) (cPcX [.ref (a 0), .int place, .int value] D cs (([] ++ wH a (k 0) cs Z) ++ wB k r cs RW) (wP q cs pl) sz) (cQN D 2 (fun n => some (.int (sc_X3_bringItem Z RW q pl n rc place value).1)) (fun n => (wPo n cs (sc_X3_bringItem Z RW q pl n rc place value).2.2.2 ++ wH a (k 0) cs ((sc_X3_bringItem Z RW q pl n rc place value).2.1)) ++ wB k r cs ((sc_X3_bringItem Z RW q pl n rc place value).2.2.1)) (adA (pOr (pH a) (pB k r)) sz)) 4 16 (adA (pOr (pH a) (pB k r)) sz) := by
  refine c_inX (P := pOr (pH a) (pB k r)) (cc := cX3_bringItem) (maxL := 5) (ret := (some .int)) (lv := [(0, .ref (a 0)), (1, .int place), (2, .int value)]) (by decide) rfl (Nat.le_of_ble_eq_true rfl) rfl ?_
  intro p e s m below meth c ls S hr hlocks hin hsz hP hK hX0 hl hS
  subst hsz
  obtain ⟨hx, hb, hml, hown, hts⟩ := id S
  have hltH := wH_lt (vaL hP)
  have hltB := wB_lt (vaR hP)
  have hX3 : ∀ w ∈ wsX30, w ∈ wsX3_bringItem := by decide +kernel
  refine lv_iload_n hx hb dX3_bringItem_0 rfl (lv_at hl 1 rfl) ?_
  refine m_st S (As := [.int place]) (rest := []) (cC_X3_isPlace l place) (cwS 1 hts gX3_bringItem_X3_isPlace rfl rfl rfl (by decide +kernel) ⟨Nat.le_of_ble_eq_true rfl, Nat.le_of_ble_eq_true rfl⟩) rfl hl.1 rfl (Nat.le_of_ble_eq_true rfl) dX3_bringItem_1 ⟨Nat.le_of_ble_eq_true rfl, Nat.le_of_ble_eq_true rfl⟩ ?_
  refine lv_if_ne (tgt := 9) hx hb dX3_bringItem_4 (by decide) (fun c_1 => ?_) (fun c_1 => ?_)
  · refine lv_aload_n hx hb dX3_bringItem_9 rfl (lv_at hl 0 rfl) ?_
    refine lv_iload_n hx hb dX3_bringItem_10 rfl (lv_at hl 1 rfl) ?_
    refine c_rd S hK (show va_P D vwCl (([] ++ wH a (k 0) cs Z) ++ []) _ from vaL hP) (va_recv hK.1 hP (ci := 3) (q0 := _ + 0) rfl (get3 rfl)) (As := [.int place]) (rest := []) (cC_X3_isFree l D cs k a Z _  place ⟨(pl_of c_1).1, (pl_of c_1).2⟩) (cwV 1 hts gX3_bringItem_X3_isFree rfl rfl rfl (by decide +kernel) ⟨Nat.le_of_ble_eq_true rfl, Nat.le_of_ble_eq_true rfl⟩) rfl hl.1 rfl (Nat.le_of_ble_eq_true rfl) dX3_bringItem_11 ⟨Nat.le_of_ble_eq_true rfl, Nat.le_of_ble_eq_true rfl⟩ ?_
    refine lv_if_eq (tgt := 24) hx hb dX3_bringItem_14 (by decide) (fun c_2 => ?_) (fun c_2 => ?_)
    · refine lv_aload_n hx hb dX3_bringItem_24 rfl (lv_at hl 0 rfl) ?_
      refine hx_get hx hb hts hX3 hown hK.1 hP 6 (by decide) (hts (.fieldLink RX3 33 "PledgeHouse$House" "ticketOn" "[I") (by decide +kernel)) rfl (v := .ref (a 4)) rfl dX3_bringItem_25 ?_
      refine lv_iload_n hx hb dX3_bringItem_28 rfl (lv_at hl 1 rfl) ?_
      refine hx_old hx hb hK.1 hP (tN place) (pl_of c_1).1 (pl_of c_1).2 (v := go Z (tN place)) rfl dX3_bringItem_29 ?_
      refine lv_if_eq (tgt := 36) hx hb dX3_bringItem_30 (by decide) (fun c_3 => ?_) (fun c_3 => ?_)
      · refine lv_aload_n hx hb dX3_bringItem_36 rfl (lv_at hl 0 rfl) ?_
        refine hx_get hx hb hts hX3 hown hK.1 hP 4 (by decide) (hts (.fieldLink RX3 25 "PledgeHouse$House" "pledges" "[LPledgeHouse$Pledge;") (by decide +kernel)) rfl (v := .ref (a 2)) rfl dX3_bringItem_37 ?_
        refine lv_iload_n hx hb dX3_bringItem_40 rfl (lv_at hl 1 rfl) ?_
        refine hx_pld hx hb hK.1 hP (tN place) (pl_of c_1).1 (pl_of c_1).2 (v := .ref (q 0)) ((congrArg va_rf hpq)) dX3_bringItem_41 ?_
        refine lv_astore (lv' := [(4, .ref (q 0)), (0, .ref (a 0)), (1, .int place), (2, .int value)]) hx hb dX3_bringItem_42 hl (by decide) rfl (fun ls hl => ?_)
        refine lv_aload hx hb dX3_bringItem_44 (lv_at hl 0 rfl) ?_
        by_cases c_4 : pl.1 = 2
        · refine il_yes rfl hx hb hown (hts (.classLink RX3 170 "PledgeHouse$Lot") (by decide +kernel)) hK hX0 c_4 dX3_bringItem_46 ?_
          refine lv_if_eq (tgt := 96) hx hb dX3_bringItem_49 (by decide) (fun c_5 => ?_) (fun c_5 => ?_)
          · exact absurd c_5 (by decide)
          · refine lv_aload hx hb dX3_bringItem_52 (lv_at hl 0 rfl) ?_
            refine ic_yes rfl hx hb hown (hts (.classLink RX3 170 "PledgeHouse$Lot") (by decide +kernel)) hK hX0 c_4 dX3_bringItem_54 ?_
            refine lv_astore_n (lv' := [(3, .ref (q 0)), (4, .ref (q 0)), (0, .ref (a 0)), (1, .int place), (2, .int value)]) hx hb dX3_bringItem_57 rfl hl (by decide) rfl (fun ls hl => ?_)
            refine lv_iload_n hx hb dX3_bringItem_58 rfl (lv_at hl 4 rfl) ?_
            refine m_st S (As := [.int value]) (rest := []) (cC_X3_isValue l value) (cwS 1 hts gX3_bringItem_X3_isValue rfl rfl rfl (by decide +kernel) ⟨Nat.le_of_ble_eq_true rfl, Nat.le_of_ble_eq_true rfl⟩) rfl hl.1 rfl (Nat.le_of_ble_eq_true rfl) dX3_bringItem_59 ⟨Nat.le_of_ble_eq_true rfl, Nat.le_of_ble_eq_true rfl⟩ ?_
            refine lv_if_eq (tgt := 72) hx hb dX3_bringItem_62 (by decide) (fun c_6 => ?_) (fun c_6 => ?_)
            · refine lv_bipush (v := (-6)) hx hb dX3_bringItem_72 (by decide) ?_
              have hsp : sc_X3_bringItem Z RW q pl (two s.heap.size (s.heap.size + 1)) rc place value = ((-6), Z, RW, none) := by unfold sc_X3_bringItem; rw [if_neg c_1, if_pos c_3, if_pos c_4, if_pos c_6]
              refine W.widen (k := 4) (n := 16) (Nat.le_of_ble_eq_true rfl) (Nat.le_of_ble_eq_true rfl) ?_
              exact W.iret hx hb hr (fun t2 ht2 hW => ⟨two s.heap.size (s.heap.size + 1), (two_ge (Nat.le_refl _) (Nat.le_succ _)), (two_inj (Nat.ne_of_lt (Nat.lt_succ_self _))), by show _ = Outcome.returned (some (Value.int (sc_X3_bringItem Z RW q pl (two s.heap.size (s.heap.size + 1)) rc place value).1)); rw [hsp], by rw [ht2]; show va_P D vwCl ((wPo (two s.heap.size (s.heap.size + 1)) cs (sc_X3_bringItem Z RW q pl (two s.heap.size (s.heap.size + 1)) rc place value).2.2.2 ++ wH a (k 0) cs ((sc_X3_bringItem Z RW q pl (two s.heap.size (s.heap.size + 1)) rc place value).2.1)) ++ wB k r cs ((sc_X3_bringItem Z RW q pl (two s.heap.size (s.heap.size + 1)) rc place value).2.2.1)) _; rw [hsp]; exact hP, hS.F ht2⟩) hS.2.2 dX3_bringItem_74 hlocks
            · refine lv_aload_n hx hb dX3_bringItem_65 rfl (lv_at hl 0 rfl) ?_
              refine c_rd S hK (wP_lot c_4 hX0) (va_recv hK.1 (wP_lot c_4 hX0) (ci := 4) (q0 := 0) rfl rfl) (As := []) (rest := []) (cC_X4_isFull l D cs q pl.2.1 _) (cwV 0 hts gX3_bringItem_X4_isFull rfl rfl rfl (by decide +kernel) ⟨Nat.le_of_ble_eq_true rfl, Nat.le_of_ble_eq_true rfl⟩) rfl hl.1 rfl (Nat.le_of_ble_eq_true rfl) dX3_bringItem_66 ⟨Nat.le_of_ble_eq_true rfl, Nat.le_of_ble_eq_true rfl⟩ ?_
              refine lv_if_eq (tgt := 75) hx hb dX3_bringItem_69 (by decide) (fun c_7 => ?_) (fun c_7 => ?_)
              · refine lv_aload_n hx hb dX3_bringItem_75 rfl (lv_at hl 0 rfl) ?_
                refine lv_iload_n hx hb dX3_bringItem_76 rfl (lv_at hl 4 rfl) ?_
                refine c_wN (wf' := fun n1 => (wP n1 cs (2, sc_X4_withItem pl.2.1 value, 0) ++ wH a (k 0) cs Z) ++ wB k r cs RW) (rest := []) (va_runV S (As := [.int value]) (cC_X4_withItem l D cs q pl.2.1 _ value (hw6 c_4)) (cwV 1 hts gX3_bringItem_X4_withItem rfl rfl rfl (by decide +kernel) ⟨Nat.le_of_ble_eq_true rfl, Nat.le_of_ble_eq_true rfl⟩) (preV_c hK (wP_lot c_4 hX0) (va_recv hK.1 (wP_lot c_4 hX0) (ci := 4) (q0 := 0) rfl rfl)) rfl rfl hl.1 rfl (lv_room (Nat.le_of_ble_eq_true rfl)) dX3_bringItem_77 ⟨Nat.le_of_ble_eq_true rfl, Nat.le_of_ble_eq_true rfl⟩) hS (fun q h => h.elim (fun z => z.elim) (fun z => Or.inr (Nat.le_trans hS.1 z))) (fun n1 H1 _ hk h => va_P.app (va_P.app h (keepP (vaL hP) wH_p nF_n hk)) (keepP (vaR hP) wB_p nF_n hk)) (fun n1 H locs hn1 in1 hP hS => ?_)
                refine lv_astore (lv' := [(4, .ref (n1 0)), (3, .ref (q 0)), (0, .ref (a 0)), (1, .int place), (2, .int value)]) hx hb dX3_bringItem_80 hl (by decide) rfl (fun ls hl => ?_)
                refine lv_aload_n hx hb dX3_bringItem_82 rfl (lv_at hl 2 rfl) ?_
                refine hx_get hx hb hts hX3 hown hK.1 hP 4 (by decide) (hts (.fieldLink RX3 25 "PledgeHouse$House" "pledges" "[LPledgeHouse$Pledge;") (by decide +kernel)) rfl (v := .ref (a 2)) rfl dX3_bringItem_83 ?_
                refine lv_iload_n hx hb dX3_bringItem_86 rfl (lv_at hl 3 rfl) ?_
                refine lv_aload hx hb dX3_bringItem_87 (lv_at hl 0 rfl) ?_
                refine hx_pst hx hb hK.1 hP (wNHB_D ia ik d hn1 in1 (pOr_lt hltH hltB)) hS (any_P hK (vaL (vaL hP))) (tN place) (pl_of c_1).1 (pl_of c_1).2 dX3_bringItem_89 (fun H locs hP hS => ?_)
                refine lv_aload hx hb dX3_bringItem_90 (lv_at hl 0 rfl) ?_
                refine c_rd S hK (vaL (vaL hP)) (va_recv hK.1 (vaL (vaL hP)) (ci := 4) (q0 := 0) rfl rfl) (As := []) (rest := []) (cC_X4_numberOfLatest l D cs n1 (sc_X4_withItem pl.2.1 value) _) (cwV 0 hts gX3_bringItem_X4_numberOfLatest rfl rfl rfl (by decide +kernel) ⟨Nat.le_of_ble_eq_true rfl, Nat.le_of_ble_eq_true rfl⟩) rfl hl.1 rfl (Nat.le_of_ble_eq_true rfl) dX3_bringItem_92 ⟨Nat.le_of_ble_eq_true rfl, Nat.le_of_ble_eq_true rfl⟩ ?_
                have hsp : sc_X3_bringItem Z RW q pl n1 rc place value = (sc_X4_numberOfLatest (sc_X4_withItem pl.2.1 value), gpp Z (tN place) (some (n1 0)), RW, some (2, sc_X4_withItem pl.2.1 value, 0)) := by unfold sc_X3_bringItem; rw [if_neg c_1, if_pos c_3, if_pos c_4, if_neg c_6, if_pos c_7]
                refine W.widen (k := 4) (n := 16) (Nat.le_of_ble_eq_true rfl) (Nat.le_of_ble_eq_true rfl) ?_
                exact W.iret hx hb hr (fun t2 ht2 hW => ⟨n1, hn1, in1, by show _ = Outcome.returned (some (Value.int (sc_X3_bringItem Z RW q pl n1 rc place value).1)); rw [hsp], by rw [ht2]; show va_P D vwCl ((wPo n1 cs (sc_X3_bringItem Z RW q pl n1 rc place value).2.2.2 ++ wH a (k 0) cs ((sc_X3_bringItem Z RW q pl n1 rc place value).2.1)) ++ wB k r cs ((sc_X3_bringItem Z RW q pl n1 rc place value).2.2.1)) _; rw [hsp]; exact hP, hS.F ht2⟩) hS.2.2 dX3_bringItem_95 hlocks
              · refine lv_bipush (v := (-6)) hx hb dX3_bringItem_72 (by decide) ?_
                have hsp : sc_X3_bringItem Z RW q pl (two s.heap.size (s.heap.size + 1)) rc place value = ((-6), Z, RW, none) := by unfold sc_X3_bringItem; rw [if_neg c_1, if_pos c_3, if_pos c_4, if_neg c_6, if_neg c_7]
                refine W.widen (k := 4) (n := 16) (Nat.le_of_ble_eq_true rfl) (Nat.le_of_ble_eq_true rfl) ?_
                exact W.iret hx hb hr (fun t2 ht2 hW => ⟨two s.heap.size (s.heap.size + 1), (two_ge (Nat.le_refl _) (Nat.le_succ _)), (two_inj (Nat.ne_of_lt (Nat.lt_succ_self _))), by show _ = Outcome.returned (some (Value.int (sc_X3_bringItem Z RW q pl (two s.heap.size (s.heap.size + 1)) rc place value).1)); rw [hsp], by rw [ht2]; show va_P D vwCl ((wPo (two s.heap.size (s.heap.size + 1)) cs (sc_X3_bringItem Z RW q pl (two s.heap.size (s.heap.size + 1)) rc place value).2.2.2 ++ wH a (k 0) cs ((sc_X3_bringItem Z RW q pl (two s.heap.size (s.heap.size + 1)) rc place value).2.1)) ++ wB k r cs ((sc_X3_bringItem Z RW q pl (two s.heap.size (s.heap.size + 1)) rc place value).2.2.1)) _; rw [hsp]; exact hP, hS.F ht2⟩) hS.2.2 dX3_bringItem_74 hlocks
        · refine il_no rfl hx hb hown (hts (.classLink RX3 170 "PledgeHouse$Lot") (by decide +kernel)) hK hX0 c_4 dX3_bringItem_46 ?_
          refine lv_if_eq (tgt := 96) hx hb dX3_bringItem_49 (by decide) (fun c_8 => ?_) (fun c_8 => ?_)
          · refine lv_bipush (v := (-2)) hx hb dX3_bringItem_96 (by decide) ?_
            have hsp : sc_X3_bringItem Z RW q pl (two s.heap.size (s.heap.size + 1)) rc place value = ((-2), Z, RW, none) := by unfold sc_X3_bringItem; rw [if_neg c_1, if_pos c_3, if_neg c_4]
            refine W.widen (k := 4) (n := 16) (Nat.le_of_ble_eq_true rfl) (Nat.le_of_ble_eq_true rfl) ?_
            exact W.iret hx hb hr (fun t2 ht2 hW => ⟨two s.heap.size (s.heap.size + 1), (two_ge (Nat.le_refl _) (Nat.le_succ _)), (two_inj (Nat.ne_of_lt (Nat.lt_succ_self _))), by show _ = Outcome.returned (some (Value.int (sc_X3_bringItem Z RW q pl (two s.heap.size (s.heap.size + 1)) rc place value).1)); rw [hsp], by rw [ht2]; show va_P D vwCl ((wPo (two s.heap.size (s.heap.size + 1)) cs (sc_X3_bringItem Z RW q pl (two s.heap.size (s.heap.size + 1)) rc place value).2.2.2 ++ wH a (k 0) cs ((sc_X3_bringItem Z RW q pl (two s.heap.size (s.heap.size + 1)) rc place value).2.1)) ++ wB k r cs ((sc_X3_bringItem Z RW q pl (two s.heap.size (s.heap.size + 1)) rc place value).2.2.1)) _; rw [hsp]; exact hP, hS.F ht2⟩) hS.2.2 dX3_bringItem_98 hlocks
          · exact absurd c_8 (by decide)
      · refine lv_bipush (v := (-2)) hx hb dX3_bringItem_33 (by decide) ?_
        have hsp : sc_X3_bringItem Z RW q pl (two s.heap.size (s.heap.size + 1)) rc place value = ((-2), Z, RW, none) := by unfold sc_X3_bringItem; rw [if_neg c_1, if_neg c_3]
        refine W.widen (k := 4) (n := 16) (Nat.le_of_ble_eq_true rfl) (Nat.le_of_ble_eq_true rfl) ?_
        exact W.iret hx hb hr (fun t2 ht2 hW => ⟨two s.heap.size (s.heap.size + 1), (two_ge (Nat.le_refl _) (Nat.le_succ _)), (two_inj (Nat.ne_of_lt (Nat.lt_succ_self _))), by show _ = Outcome.returned (some (Value.int (sc_X3_bringItem Z RW q pl (two s.heap.size (s.heap.size + 1)) rc place value).1)); rw [hsp], by rw [ht2]; show va_P D vwCl ((wPo (two s.heap.size (s.heap.size + 1)) cs (sc_X3_bringItem Z RW q pl (two s.heap.size (s.heap.size + 1)) rc place value).2.2.2 ++ wH a (k 0) cs ((sc_X3_bringItem Z RW q pl (two s.heap.size (s.heap.size + 1)) rc place value).2.1)) ++ wB k r cs ((sc_X3_bringItem Z RW q pl (two s.heap.size (s.heap.size + 1)) rc place value).2.2.1)) _; rw [hsp]; exact hP, hS.F ht2⟩) hS.2.2 dX3_bringItem_35 hlocks
    · exact absurd (if_some hpq) c_2
  · refine lv_iconst (v := (-1)) hx hb dX3_bringItem_7 (by decide) ?_
    have hsp : sc_X3_bringItem Z RW q pl (two s.heap.size (s.heap.size + 1)) rc place value = ((-1), Z, RW, none) := by unfold sc_X3_bringItem; rw [if_pos c_1]
    refine W.widen (k := 4) (n := 16) (Nat.le_of_ble_eq_true rfl) (Nat.le_of_ble_eq_true rfl) ?_
    exact W.iret hx hb hr (fun t2 ht2 hW => ⟨two s.heap.size (s.heap.size + 1), (two_ge (Nat.le_refl _) (Nat.le_succ _)), (two_inj (Nat.ne_of_lt (Nat.lt_succ_self _))), by show _ = Outcome.returned (some (Value.int (sc_X3_bringItem Z RW q pl (two s.heap.size (s.heap.size + 1)) rc place value).1)); rw [hsp], by rw [ht2]; show va_P D vwCl ((wPo (two s.heap.size (s.heap.size + 1)) cs (sc_X3_bringItem Z RW q pl (two s.heap.size (s.heap.size + 1)) rc place value).2.2.2 ++ wH a (k 0) cs ((sc_X3_bringItem Z RW q pl (two s.heap.size (s.heap.size + 1)) rc place value).2.1)) ++ wB k r cs ((sc_X3_bringItem Z RW q pl (two s.heap.size (s.heap.size + 1)) rc place value).2.2.1)) _; rw [hsp]; exact hP, hS.F ht2⟩) hS.2.2 dX3_bringItem_8 hlocks
def sc_X3_bringItem_n (Z : hZ) (RW : Nat → Nat → Int64) (n : Nat → Nat) (rc : Nat) (place : Int32) (value : Int32) : Int32 × (hZ) × (Nat → Nat → Int64) × Option pZ :=
  if (sc_X3_isPlace place) = 0 then
    ((-1), Z, RW, none)
  else
    if (sc_X3_isFree Z place) = 0 then
      if (go Z (tN place)) = 0 then
        ((-2), Z, RW, none)
      else
        ((-2), Z, RW, none)
    else
      ((sc_X3_beginLot Z RW n rc place value).1, (sc_X3_beginLot Z RW n rc place value).2.1, (sc_X3_beginLot Z RW n rc place value).2.2.1, (sc_X3_beginLot Z RW n rc place value).2.2.2)
set_option maxHeartbeats 4000000 in
set_option maxRecDepth 100000 in
theorem cC_X3_bringItem_n (l : Launch) (D : va_G) (cs : Nat → ClassId) (k : Nat → Nat) (a : Nat → Nat) (Z : hZ) (r : Nat → Nat) (RW : Nat → Nat → Int64) (sz : Nat) (ia : iH a) (ik : iB k r) (d : dHB a k r) (rc : Nat) (place : Int32) (value : Int32) (hrc : gh Z 2 = nI rc) (hrl : rc ≤ 511) (hpq : gp Z (tN place) = none) : Met l yX3_bringItem wsX3_bringItem ({ frames := 5, cells := 4, slots := 16, locals := 112 }) (cPc [.ref (a 0), .int place, .int value] D cs (([] ++ wH a (k 0) cs Z) ++ wB k r cs RW) sz) (cQN D 2 (fun n => some (.int (sc_X3_bringItem_n Z RW n rc place value).1)) (fun n => (wPo n cs (sc_X3_bringItem_n Z RW n rc place value).2.2.2 ++ wH a (k 0) cs ((sc_X3_bringItem_n Z RW n rc place value).2.1)) ++ wB k r cs ((sc_X3_bringItem_n Z RW n rc place value).2.2.1)) (adA (pOr (pH a) (pB k r)) sz)) 4 16 (adA (pOr (pH a) (pB k r)) sz) := by
  refine c_in (P := pOr (pH a) (pB k r)) (cc := cX3_bringItem) (maxL := 5) (ret := (some .int)) (lv := [(0, .ref (a 0)), (1, .int place), (2, .int value)]) (by decide) rfl (Nat.le_of_ble_eq_true rfl) rfl ?_
  intro p e s m below meth c ls S hr hlocks hin hsz hP hK hl hS
  subst hsz
  obtain ⟨hx, hb, hml, hown, hts⟩ := id S
  have hltH := wH_lt (vaL hP)
  have hltB := wB_lt (vaR hP)
  have hX3 : ∀ w ∈ wsX30, w ∈ wsX3_bringItem := by decide +kernel
  refine lv_iload_n hx hb dX3_bringItem_0 rfl (lv_at hl 1 rfl) ?_
  refine m_st S (As := [.int place]) (rest := []) (cC_X3_isPlace l place) (cwS 1 hts gX3_bringItem_X3_isPlace rfl rfl rfl (by decide +kernel) ⟨Nat.le_of_ble_eq_true rfl, Nat.le_of_ble_eq_true rfl⟩) rfl hl.1 rfl (Nat.le_of_ble_eq_true rfl) dX3_bringItem_1 ⟨Nat.le_of_ble_eq_true rfl, Nat.le_of_ble_eq_true rfl⟩ ?_
  refine lv_if_ne (tgt := 9) hx hb dX3_bringItem_4 (by decide) (fun c_1 => ?_) (fun c_1 => ?_)
  · refine lv_aload_n hx hb dX3_bringItem_9 rfl (lv_at hl 0 rfl) ?_
    refine lv_iload_n hx hb dX3_bringItem_10 rfl (lv_at hl 1 rfl) ?_
    refine c_rd S hK (show va_P D vwCl (([] ++ wH a (k 0) cs Z) ++ []) _ from vaL hP) (va_recv hK.1 hP (ci := 3) (q0 := _ + 0) rfl (get3 rfl)) (As := [.int place]) (rest := []) (cC_X3_isFree l D cs k a Z _  place ⟨(pl_of c_1).1, (pl_of c_1).2⟩) (cwV 1 hts gX3_bringItem_X3_isFree rfl rfl rfl (by decide +kernel) ⟨Nat.le_of_ble_eq_true rfl, Nat.le_of_ble_eq_true rfl⟩) rfl hl.1 rfl (Nat.le_of_ble_eq_true rfl) dX3_bringItem_11 ⟨Nat.le_of_ble_eq_true rfl, Nat.le_of_ble_eq_true rfl⟩ ?_
    refine lv_if_eq (tgt := 24) hx hb dX3_bringItem_14 (by decide) (fun c_2 => ?_) (fun c_2 => ?_)
    · refine lv_aload_n hx hb dX3_bringItem_24 rfl (lv_at hl 0 rfl) ?_
      refine hx_get hx hb hts hX3 hown hK.1 hP 6 (by decide) (hts (.fieldLink RX3 33 "PledgeHouse$House" "ticketOn" "[I") (by decide +kernel)) rfl (v := .ref (a 4)) rfl dX3_bringItem_25 ?_
      refine lv_iload_n hx hb dX3_bringItem_28 rfl (lv_at hl 1 rfl) ?_
      refine hx_old hx hb hK.1 hP (tN place) (pl_of c_1).1 (pl_of c_1).2 (v := go Z (tN place)) rfl dX3_bringItem_29 ?_
      refine lv_if_eq (tgt := 36) hx hb dX3_bringItem_30 (by decide) (fun c_3 => ?_) (fun c_3 => ?_)
      · refine lv_aload_n hx hb dX3_bringItem_36 rfl (lv_at hl 0 rfl) ?_
        refine hx_get hx hb hts hX3 hown hK.1 hP 4 (by decide) (hts (.fieldLink RX3 25 "PledgeHouse$House" "pledges" "[LPledgeHouse$Pledge;") (by decide +kernel)) rfl (v := .ref (a 2)) rfl dX3_bringItem_37 ?_
        refine lv_iload_n hx hb dX3_bringItem_40 rfl (lv_at hl 1 rfl) ?_
        refine hx_pld hx hb hK.1 hP (tN place) (pl_of c_1).1 (pl_of c_1).2 (v := .null) ((congrArg va_rf hpq)) dX3_bringItem_41 ?_
        refine lv_astoreN (lv' := [(4, .null), (0, .ref (a 0)), (1, .int place), (2, .int value)]) hx hb dX3_bringItem_42 hl (by decide) rfl (fun ls hl => ?_)
        refine lv_aloadN hx hb dX3_bringItem_44 (lv_at hl 0 rfl) ?_
        refine lv_instN hx hb dX3_bringItem_46 ?_
        refine lv_if_eq (tgt := 96) hx hb dX3_bringItem_49 (by decide) (fun c_4 => ?_) (fun c_4 => ?_)
        · refine lv_bipush (v := (-2)) hx hb dX3_bringItem_96 (by decide) ?_
          have hsp : sc_X3_bringItem_n Z RW (two s.heap.size (s.heap.size + 1)) rc place value = ((-2), Z, RW, none) := by unfold sc_X3_bringItem_n; rw [if_neg c_1, if_pos c_2, if_pos c_3]
          refine W.widen (k := 4) (n := 16) (Nat.le_of_ble_eq_true rfl) (Nat.le_of_ble_eq_true rfl) ?_
          exact W.iret hx hb hr (fun t2 ht2 hW => ⟨two s.heap.size (s.heap.size + 1), (two_ge (Nat.le_refl _) (Nat.le_succ _)), (two_inj (Nat.ne_of_lt (Nat.lt_succ_self _))), by show _ = Outcome.returned (some (Value.int (sc_X3_bringItem_n Z RW (two s.heap.size (s.heap.size + 1)) rc place value).1)); rw [hsp], by rw [ht2]; show va_P D vwCl ((wPo (two s.heap.size (s.heap.size + 1)) cs (sc_X3_bringItem_n Z RW (two s.heap.size (s.heap.size + 1)) rc place value).2.2.2 ++ wH a (k 0) cs ((sc_X3_bringItem_n Z RW (two s.heap.size (s.heap.size + 1)) rc place value).2.1)) ++ wB k r cs ((sc_X3_bringItem_n Z RW (two s.heap.size (s.heap.size + 1)) rc place value).2.2.1)) _; rw [hsp]; exact hP, hS.F ht2⟩) hS.2.2 dX3_bringItem_98 hlocks
        · exact absurd c_4 (by decide)
      · refine lv_bipush (v := (-2)) hx hb dX3_bringItem_33 (by decide) ?_
        have hsp : sc_X3_bringItem_n Z RW (two s.heap.size (s.heap.size + 1)) rc place value = ((-2), Z, RW, none) := by unfold sc_X3_bringItem_n; rw [if_neg c_1, if_pos c_2, if_neg c_3]
        refine W.widen (k := 4) (n := 16) (Nat.le_of_ble_eq_true rfl) (Nat.le_of_ble_eq_true rfl) ?_
        exact W.iret hx hb hr (fun t2 ht2 hW => ⟨two s.heap.size (s.heap.size + 1), (two_ge (Nat.le_refl _) (Nat.le_succ _)), (two_inj (Nat.ne_of_lt (Nat.lt_succ_self _))), by show _ = Outcome.returned (some (Value.int (sc_X3_bringItem_n Z RW (two s.heap.size (s.heap.size + 1)) rc place value).1)); rw [hsp], by rw [ht2]; show va_P D vwCl ((wPo (two s.heap.size (s.heap.size + 1)) cs (sc_X3_bringItem_n Z RW (two s.heap.size (s.heap.size + 1)) rc place value).2.2.2 ++ wH a (k 0) cs ((sc_X3_bringItem_n Z RW (two s.heap.size (s.heap.size + 1)) rc place value).2.1)) ++ wB k r cs ((sc_X3_bringItem_n Z RW (two s.heap.size (s.heap.size + 1)) rc place value).2.2.1)) _; rw [hsp]; exact hP, hS.F ht2⟩) hS.2.2 dX3_bringItem_35 hlocks
    · refine lv_aload_n hx hb dX3_bringItem_17 rfl (lv_at hl 0 rfl) ?_
      refine lv_iload_n hx hb dX3_bringItem_18 rfl (lv_at hl 1 rfl) ?_
      refine lv_iload_n hx hb dX3_bringItem_19 rfl (lv_at hl 2 rfl) ?_
      refine c_wN (wf' := fun n1 => (wPo n1 cs ((sc_X3_beginLot Z RW n1 rc place value).2.2.2) ++ wH a (k 0) cs ((sc_X3_beginLot Z RW n1 rc place value).2.1)) ++ wB k r cs ((sc_X3_beginLot Z RW n1 rc place value).2.2.1)) (rest := []) (va_runV S (As := [.int place, .int value]) (cC_X3_beginLot l D cs k a Z r RW _ ia ik d rc place value hrc hrl ⟨(pl_of c_1).1, (pl_of c_1).2⟩) (cwV 2 hts gX3_bringItem_X3_beginLot rfl rfl rfl (by decide +kernel) ⟨Nat.le_of_ble_eq_true rfl, Nat.le_of_ble_eq_true rfl⟩) (preV_c hK (hP) (va_recv hK.1 hP (ci := 3) (q0 := _ + 0) rfl (get3 rfl))) rfl rfl hl.1 rfl (lv_room (Nat.le_of_ble_eq_true rfl)) dX3_bringItem_20 ⟨Nat.le_of_ble_eq_true rfl, Nat.le_of_ble_eq_true rfl⟩) hS (adA_le hS.1) (fun _ _ _ _ h => h) (fun n1 H locs hn1 in1 hP hS => ?_)
      have hsp : sc_X3_bringItem_n Z RW n1 rc place value = ((sc_X3_beginLot Z RW n1 rc place value).1, (sc_X3_beginLot Z RW n1 rc place value).2.1, (sc_X3_beginLot Z RW n1 rc place value).2.2.1, (sc_X3_beginLot Z RW n1 rc place value).2.2.2) := by unfold sc_X3_bringItem_n; rw [if_neg c_1, if_neg c_2]
      refine W.widen (k := 4) (n := 16) (Nat.le_of_ble_eq_true rfl) (Nat.le_of_ble_eq_true rfl) ?_
      exact W.iret hx hb hr (fun t2 ht2 hW => ⟨n1, hn1, in1, by show _ = Outcome.returned (some (Value.int (sc_X3_bringItem_n Z RW n1 rc place value).1)); rw [hsp], by rw [ht2]; show va_P D vwCl ((wPo n1 cs (sc_X3_bringItem_n Z RW n1 rc place value).2.2.2 ++ wH a (k 0) cs ((sc_X3_bringItem_n Z RW n1 rc place value).2.1)) ++ wB k r cs ((sc_X3_bringItem_n Z RW n1 rc place value).2.2.1)) _; rw [hsp]; exact hP, hS.F ht2⟩) hS.2.2 dX3_bringItem_23 hlocks
  · refine lv_iconst (v := (-1)) hx hb dX3_bringItem_7 (by decide) ?_
    have hsp : sc_X3_bringItem_n Z RW (two s.heap.size (s.heap.size + 1)) rc place value = ((-1), Z, RW, none) := by unfold sc_X3_bringItem_n; rw [if_pos c_1]
    refine W.widen (k := 4) (n := 16) (Nat.le_of_ble_eq_true rfl) (Nat.le_of_ble_eq_true rfl) ?_
    exact W.iret hx hb hr (fun t2 ht2 hW => ⟨two s.heap.size (s.heap.size + 1), (two_ge (Nat.le_refl _) (Nat.le_succ _)), (two_inj (Nat.ne_of_lt (Nat.lt_succ_self _))), by show _ = Outcome.returned (some (Value.int (sc_X3_bringItem_n Z RW (two s.heap.size (s.heap.size + 1)) rc place value).1)); rw [hsp], by rw [ht2]; show va_P D vwCl ((wPo (two s.heap.size (s.heap.size + 1)) cs (sc_X3_bringItem_n Z RW (two s.heap.size (s.heap.size + 1)) rc place value).2.2.2 ++ wH a (k 0) cs ((sc_X3_bringItem_n Z RW (two s.heap.size (s.heap.size + 1)) rc place value).2.1)) ++ wB k r cs ((sc_X3_bringItem_n Z RW (two s.heap.size (s.heap.size + 1)) rc place value).2.2.1)) _; rw [hsp]; exact hP, hS.F ht2⟩) hS.2.2 dX3_bringItem_8 hlocks
def sc_X3_takeItemOut (nm : Int32) (v : Nat → Int32) (Z : hZ) (q : Nat → Nat) (pl : pZ) (n : Nat → Nat) (half : Int32) (item : Int32) : Int32 × (Nat → Int32) × (hZ) × Option pZ :=
  if item < 0 then
    ((-1), v, Z, none)
  else
    if item < 6 then
      if sc_X3_lotUnder nm v q pl Z = none then
        ((-2), v, Z, none)
      else
        if (sc_X4_holds pl.2.1 item) = 0 then
          ((-2), v, Z, none)
        else
          if (sc_X3_whyNotHolders nm v Z half) = 0 then
            if (sc_X4_itemCount (sc_X4_withoutItem pl.2.1 item)) = 0 then
              ((-6), v, Z, some (2, sc_X4_withoutItem pl.2.1 item, 0))
            else
              if (sc_X9_owed nm v) ≤ (sc_X3_partOf Z 2 (sc_X3_worthOf (2, sc_X4_withoutItem pl.2.1 item, 0) Z)) then
                (sc_X3_worthOf (2, sc_X4_withoutItem pl.2.1 item, 0) Z, (sc_X9_endOathBy nm (upd v 20 (-1)) half), gpp Z (tN (v 15)) (some (n 0)), some (2, sc_X4_withoutItem pl.2.1 item, 0))
              else
                ((-6), v, Z, some (2, sc_X4_withoutItem pl.2.1 item, 0))
          else
            (sc_X3_whyNotHolders nm v Z half, v, Z, none)
    else
      ((-1), v, Z, none)
set_option maxHeartbeats 4000000 in
set_option maxRecDepth 100000 in
theorem cC_X3_takeItemOut (l : Launch) (D : va_G) (cs : Nat → ClassId) (b : Nat → Nat) (nm : Int32) (v : Nat → Int32) (q : Nat → Nat) (pl : pZ) (k : Nat → Nat) (a : Nat → Nat) (Z : hZ) (sz : Nat) (ib : iT b) (ia : iH a) (d : dTH b a) (half : Int32) (item : Int32) (hpq : gp Z (tN (v 15)) = some (q 0)) : Met l yX3_takeItemOut wsX3_takeItemOut ({ frames := 4, cells := 2, slots := 8, locals := 84 }) (cPcX [.ref (a 0), .ref (b 0), .int half, .int item] D cs ((wT b nm v ++ wH a (k 0) cs Z) ++ []) (wP q cs pl) sz) (cQN D 2 (fun n => some (.int (sc_X3_takeItemOut nm v Z q pl n half item).1)) (fun n => ((wT b nm ((sc_X3_takeItemOut nm v Z q pl n half item).2.1) ++ wPo n cs (sc_X3_takeItemOut nm v Z q pl n half item).2.2.2) ++ wH a (k 0) cs ((sc_X3_takeItemOut nm v Z q pl n half item).2.2.1)) ++ []) (adA (pOr (pT b) (pH a)) sz)) 2 8 (adA (pOr (pT b) (pH a)) sz) := by
  refine c_inX (P := pOr (pT b) (pH a)) (cc := cX3_takeItemOut) (maxL := 8) (ret := (some .int)) (lv := [(0, .ref (a 0)), (1, .ref (b 0)), (2, .int half), (3, .int item)]) (by decide) rfl (Nat.le_of_ble_eq_true rfl) rfl ?_
  intro p e s m below meth c ls S hr hlocks hin hsz hP hK hX0 hl hS
  subst hsz
  obtain ⟨hx, hb, hml, hown, hts⟩ := id S
  have hltT := wT_lt (vaL (vaL hP))
  have hltH := wH_lt (vaR (vaL hP))
  have hX3 : ∀ w ∈ wsX30, w ∈ wsX3_takeItemOut := by decide +kernel
  have hX9 : ∀ w ∈ wsX90, w ∈ wsX3_takeItemOut := by decide +kernel
  refine lv_aload_n hx hb dX3_takeItemOut_0 rfl (lv_at hl 1 rfl) ?_
  refine lv_ifnull hx hb dX3_takeItemOut_1 ?_
  refine lv_iload_n hx hb dX3_takeItemOut_4 rfl (lv_at hl 3 rfl) ?_
  refine lv_if_lt (tgt := 14) hx hb dX3_takeItemOut_5 (by decide) (fun c_1 => ?_) (fun c_1 => ?_)
  · refine lv_iconst (v := (-1)) hx hb dX3_takeItemOut_14 (by decide) ?_
    have hsp : sc_X3_takeItemOut nm v Z q pl (two s.heap.size (s.heap.size + 1)) half item = ((-1), v, Z, none) := by unfold sc_X3_takeItemOut; rw [if_pos c_1]
    refine W.widen (k := 2) (n := 8) (Nat.le_of_ble_eq_true rfl) (Nat.le_of_ble_eq_true rfl) ?_
    exact W.iret hx hb hr (fun t2 ht2 hW => ⟨two s.heap.size (s.heap.size + 1), (two_ge (Nat.le_refl _) (Nat.le_succ _)), (two_inj (Nat.ne_of_lt (Nat.lt_succ_self _))), by show _ = Outcome.returned (some (Value.int (sc_X3_takeItemOut nm v Z q pl (two s.heap.size (s.heap.size + 1)) half item).1)); rw [hsp], by rw [ht2]; show va_P D vwCl (((wT b nm ((sc_X3_takeItemOut nm v Z q pl (two s.heap.size (s.heap.size + 1)) half item).2.1) ++ wPo (two s.heap.size (s.heap.size + 1)) cs (sc_X3_takeItemOut nm v Z q pl (two s.heap.size (s.heap.size + 1)) half item).2.2.2) ++ wH a (k 0) cs ((sc_X3_takeItemOut nm v Z q pl (two s.heap.size (s.heap.size + 1)) half item).2.2.1)) ++ []) _; rw [hsp]; exact hP, hS.F ht2⟩) hS.2.2 dX3_takeItemOut_15 hlocks
  · refine lv_iload_n hx hb dX3_takeItemOut_8 rfl (lv_at hl 3 rfl) ?_
    refine lv_bipush (v := 6) hx hb dX3_takeItemOut_9 (by decide) ?_
    refine lv_icmp_lt (tgt := 16) hx hb dX3_takeItemOut_11 (by decide) (fun c_2 => ?_) (fun c_2 => ?_)
    · refine lv_aload_n hx hb dX3_takeItemOut_16 rfl (lv_at hl 0 rfl) ?_
      refine lv_aload_n hx hb dX3_takeItemOut_17 rfl (lv_at hl 1 rfl) ?_
      refine c_rd S hK (va_P.app (va_P.app (va_P.app (vaL (vaL hP)) hX0) (vaR (vaL hP))) nilP) (va_recv hK.1 hP (ci := 3) (q0 := _ + 0) rfl (get3 rfl)) (As := [.ref (b 0)]) (rest := []) (cC_X3_lotUnder l D cs b nm v q pl k a Z _ hpq) (cwV 1 hts gX3_takeItemOut_X3_lotUnder rfl rfl rfl (by decide +kernel) ⟨Nat.le_of_ble_eq_true rfl, Nat.le_of_ble_eq_true rfl⟩) rfl hl.1 rfl (Nat.le_of_ble_eq_true rfl) dX3_takeItemOut_18 ⟨Nat.zero_le _, Nat.zero_le _⟩ ?_
      by_cases c_3 : sc_X3_lotUnder nm v q pl Z = none
      · refine wtop (show va_rf (sc_X3_lotUnder nm v q pl Z) = .null from by rw [c_3]; rfl) ?_
        refine lv_astoreN (lv' := [(4, .null), (0, .ref (a 0)), (1, .ref (b 0)), (2, .int half), (3, .int item)]) hx hb dX3_takeItemOut_21 hl (by decide) rfl (fun ls hl => ?_)
        refine lv_aloadN hx hb dX3_takeItemOut_23 (lv_at hl 0 rfl) ?_
        refine lv_ifnullN (tgt := 37) hx hb dX3_takeItemOut_25 (by decide) ?_
        refine lv_bipush (v := (-2)) hx hb dX3_takeItemOut_37 (by decide) ?_
        have hsp : sc_X3_takeItemOut nm v Z q pl (two s.heap.size (s.heap.size + 1)) half item = ((-2), v, Z, none) := by unfold sc_X3_takeItemOut; rw [if_neg c_1, if_pos c_2, if_pos c_3]
        refine W.widen (k := 2) (n := 8) (Nat.le_of_ble_eq_true rfl) (Nat.le_of_ble_eq_true rfl) ?_
        exact W.iret hx hb hr (fun t2 ht2 hW => ⟨two s.heap.size (s.heap.size + 1), (two_ge (Nat.le_refl _) (Nat.le_succ _)), (two_inj (Nat.ne_of_lt (Nat.lt_succ_self _))), by show _ = Outcome.returned (some (Value.int (sc_X3_takeItemOut nm v Z q pl (two s.heap.size (s.heap.size + 1)) half item).1)); rw [hsp], by rw [ht2]; show va_P D vwCl (((wT b nm ((sc_X3_takeItemOut nm v Z q pl (two s.heap.size (s.heap.size + 1)) half item).2.1) ++ wPo (two s.heap.size (s.heap.size + 1)) cs (sc_X3_takeItemOut nm v Z q pl (two s.heap.size (s.heap.size + 1)) half item).2.2.2) ++ wH a (k 0) cs ((sc_X3_takeItemOut nm v Z q pl (two s.heap.size (s.heap.size + 1)) half item).2.2.1)) ++ []) _; rw [hsp]; exact hP, hS.F ht2⟩) hS.2.2 dX3_takeItemOut_39 hlocks
      · refine wtop (show va_rf (sc_X3_lotUnder nm v q pl Z) = .ref (q 0) from by rw [(lu_some c_3).1]; rfl) ?_
        refine lv_astore (lv' := [(4, .ref (q 0)), (0, .ref (a 0)), (1, .ref (b 0)), (2, .int half), (3, .int item)]) hx hb dX3_takeItemOut_21 hl (by decide) rfl (fun ls hl => ?_)
        refine lv_aload hx hb dX3_takeItemOut_23 (lv_at hl 0 rfl) ?_
        refine lv_ifnull hx hb dX3_takeItemOut_25 ?_
        refine lv_aload hx hb dX3_takeItemOut_28 (lv_at hl 0 rfl) ?_
        refine lv_iload_n hx hb dX3_takeItemOut_30 rfl (lv_at hl 4 rfl) ?_
        refine c_rd S hK (wP_lot (lu_some c_3).2.1 hX0) (va_recv hK.1 (wP_lot (lu_some c_3).2.1 hX0) (ci := 4) (q0 := 0) rfl rfl) (As := [.int item]) (rest := []) (cC_X4_holds l D cs q pl.2.1 _ item) (cwV 1 hts gX3_takeItemOut_X4_holds rfl rfl rfl (by decide +kernel) ⟨Nat.le_of_ble_eq_true rfl, Nat.le_of_ble_eq_true rfl⟩) rfl hl.1 rfl (Nat.le_of_ble_eq_true rfl) dX3_takeItemOut_31 ⟨Nat.le_of_ble_eq_true rfl, Nat.le_of_ble_eq_true rfl⟩ ?_
        refine lv_if_ne (tgt := 40) hx hb dX3_takeItemOut_34 (by decide) (fun c_4 => ?_) (fun c_4 => ?_)
        · refine lv_aload_n hx hb dX3_takeItemOut_40 rfl (lv_at hl 1 rfl) ?_
          refine lv_aload_n hx hb dX3_takeItemOut_41 rfl (lv_at hl 2 rfl) ?_
          refine lv_iload_n hx hb dX3_takeItemOut_42 rfl (lv_at hl 3 rfl) ?_
          refine c_rd S hK (hP) (va_recv hK.1 hP (ci := 3) (q0 := _ + 0) rfl (get3 rfl)) (As := [.ref (b 0), .int half]) (rest := []) (cC_X3_whyNotHolders l D cs b nm v k a Z _  half ) (cwV 2 hts gX3_takeItemOut_X3_whyNotHolders rfl rfl rfl (by decide +kernel) ⟨Nat.le_of_ble_eq_true rfl, Nat.le_of_ble_eq_true rfl⟩) rfl hl.1 rfl (Nat.le_of_ble_eq_true rfl) dX3_takeItemOut_43 ⟨Nat.le_of_ble_eq_true rfl, Nat.le_of_ble_eq_true rfl⟩ ?_
          refine lv_istore (lv' := [(5, .int (sc_X3_whyNotHolders nm v Z half)), (4, .ref (q 0)), (0, .ref (a 0)), (1, .ref (b 0)), (2, .int half), (3, .int item)]) hx hb dX3_takeItemOut_46 hl (by decide) rfl (fun ls hl => ?_)
          refine lv_iload hx hb dX3_takeItemOut_48 (lv_at hl 0 rfl) ?_
          refine lv_if_eq (tgt := 56) hx hb dX3_takeItemOut_50 (by decide) (fun c_5 => ?_) (fun c_5 => ?_)
          · refine lv_aload hx hb dX3_takeItemOut_56 (lv_at hl 1 rfl) ?_
            refine lv_iload_n hx hb dX3_takeItemOut_58 rfl (lv_at hl 5 rfl) ?_
            refine c_wN (wf' := fun n1 => ((wT b nm v ++ wP n1 cs (2, sc_X4_withoutItem pl.2.1 item, 0)) ++ wH a (k 0) cs Z) ++ []) (rest := []) (va_runV S (As := [.int item]) (cC_X4_withoutItem l D cs q pl.2.1 _ item ) (cwV 1 hts gX3_takeItemOut_X4_withoutItem rfl rfl rfl (by decide +kernel) ⟨Nat.le_of_ble_eq_true rfl, Nat.le_of_ble_eq_true rfl⟩) (preV_c hK (wP_lot (lu_some c_3).2.1 hX0) (va_recv hK.1 (wP_lot (lu_some c_3).2.1 hX0) (ci := 4) (q0 := 0) rfl rfl)) rfl rfl hl.1 rfl (lv_room (Nat.le_of_ble_eq_true rfl)) dX3_takeItemOut_59 ⟨Nat.le_of_ble_eq_true rfl, Nat.le_of_ble_eq_true rfl⟩) hS (fun q h => h.elim (fun z => z.elim) (fun z => Or.inr (Nat.le_trans hS.1 z))) (fun n1 H1 _ hk h => va_P.app (va_P.app (va_P.app (keepP (vaL (vaL hP)) wT_p nF_n hk) h) (keepP (vaR (vaL hP)) wH_p nF_n hk)) nilP) (fun n1 H locs hn1 in1 hP hS => ?_)
            refine lv_astore (lv' := [(6, .ref (n1 0)), (5, .int (sc_X3_whyNotHolders nm v Z half)), (4, .ref (q 0)), (0, .ref (a 0)), (1, .ref (b 0)), (2, .int half), (3, .int item)]) hx hb dX3_takeItemOut_62 hl (by decide) rfl (fun ls hl => ?_)
            refine lv_aload_n hx hb dX3_takeItemOut_64 rfl (lv_at hl 3 rfl) ?_
            refine lv_aload hx hb dX3_takeItemOut_65 (lv_at hl 0 rfl) ?_
            refine c_rd S hK (va_P.app (va_P.app (vaR (vaL (vaL hP))) (vaR (vaL hP))) nilP) (va_recv hK.1 hP (ci := 3) (q0 := _ + 0) rfl (get3 rfl)) (As := [.ref (n1 0)]) (rest := []) (cC_X3_worthOf l D cs n1 (2, sc_X4_withoutItem pl.2.1 item, 0) k a Z _) (cwV 1 hts gX3_takeItemOut_X3_worthOf rfl rfl rfl (by decide +kernel) ⟨Nat.le_of_ble_eq_true rfl, Nat.le_of_ble_eq_true rfl⟩) rfl hl.1 rfl (Nat.le_of_ble_eq_true rfl) dX3_takeItemOut_67 ⟨Nat.le_of_ble_eq_true rfl, Nat.le_of_ble_eq_true rfl⟩ ?_
            refine lv_istore (lv' := [(7, .int (sc_X3_worthOf (2, sc_X4_withoutItem pl.2.1 item, 0) Z)), (6, .ref (n1 0)), (5, .int (sc_X3_whyNotHolders nm v Z half)), (4, .ref (q 0)), (0, .ref (a 0)), (1, .ref (b 0)), (2, .int half), (3, .int item)]) hx hb dX3_takeItemOut_70 hl (by decide) rfl (fun ls hl => ?_)
            refine lv_aload hx hb dX3_takeItemOut_72 (lv_at hl 1 rfl) ?_
            refine c_rd S hK (vaR (vaL (vaL hP))) (va_recv hK.1 (vaR (vaL (vaL hP))) (ci := 4) (q0 := 0) rfl rfl) (As := []) (rest := []) (cC_X4_itemCount l D cs n1 (sc_X4_withoutItem pl.2.1 item) _) (cwV 0 hts gX3_takeItemOut_X4_itemCount rfl rfl rfl (by decide +kernel) ⟨Nat.le_of_ble_eq_true rfl, Nat.le_of_ble_eq_true rfl⟩) rfl hl.1 rfl (Nat.le_of_ble_eq_true rfl) dX3_takeItemOut_74 ⟨Nat.le_of_ble_eq_true rfl, Nat.le_of_ble_eq_true rfl⟩ ?_
            refine lv_if_eq (tgt := 94) hx hb dX3_takeItemOut_77 (by decide) (fun c_6 => ?_) (fun c_6 => ?_)
            · refine lv_bipush (v := (-6)) hx hb dX3_takeItemOut_94 (by decide) ?_
              have hsp : sc_X3_takeItemOut nm v Z q pl n1 half item = ((-6), v, Z, some (2, sc_X4_withoutItem pl.2.1 item, 0)) := by unfold sc_X3_takeItemOut; rw [if_neg c_1, if_pos c_2, if_neg c_3, if_neg c_4, if_pos c_5, if_pos c_6]
              refine W.widen (k := 2) (n := 8) (Nat.le_of_ble_eq_true rfl) (Nat.le_of_ble_eq_true rfl) ?_
              exact W.iret hx hb hr (fun t2 ht2 hW => ⟨n1, hn1, in1, by show _ = Outcome.returned (some (Value.int (sc_X3_takeItemOut nm v Z q pl n1 half item).1)); rw [hsp], by rw [ht2]; show va_P D vwCl (((wT b nm ((sc_X3_takeItemOut nm v Z q pl n1 half item).2.1) ++ wPo n1 cs (sc_X3_takeItemOut nm v Z q pl n1 half item).2.2.2) ++ wH a (k 0) cs ((sc_X3_takeItemOut nm v Z q pl n1 half item).2.2.1)) ++ []) _; rw [hsp]; exact hP, hS.F ht2⟩) hS.2.2 dX3_takeItemOut_96 hlocks
            · refine lv_aload_n hx hb dX3_takeItemOut_80 rfl (lv_at hl 5 rfl) ?_
              refine c_rd S hK (show va_P D vwCl (wT b nm v) _ from vaL (vaL (vaL hP))) (va_recv hK.1 hP (ci := 8) (q0 := 0) rfl rfl) (As := []) (rest := []) (cC_X9_owed l D cs b nm v _   ) (cwV 0 hts gX3_takeItemOut_X9_owed rfl rfl rfl (by decide +kernel) ⟨Nat.le_of_ble_eq_true rfl, Nat.le_of_ble_eq_true rfl⟩) rfl hl.1 rfl (Nat.le_of_ble_eq_true rfl) dX3_takeItemOut_81 ⟨Nat.le_of_ble_eq_true rfl, Nat.le_of_ble_eq_true rfl⟩ ?_
              refine lv_aload_n hx hb dX3_takeItemOut_84 rfl (lv_at hl 4 rfl) ?_
              refine lv_iconst (v := 2) hx hb dX3_takeItemOut_85 (by decide) ?_
              refine lv_iload hx hb dX3_takeItemOut_86 (lv_at hl 0 rfl) ?_
              refine c_rd S hK (show va_P D vwCl (([] ++ wH a (k 0) cs Z) ++ []) _ from vaR (vaL hP)) (va_recv hK.1 hP (ci := 3) (q0 := _ + 0) rfl (get3 rfl)) (As := [.int 2, .int (sc_X3_worthOf (2, sc_X4_withoutItem pl.2.1 item, 0) Z)]) (rest := [.int (sc_X9_owed nm v)]) (cC_X3_partOf l D cs k a Z _  2 (sc_X3_worthOf (2, sc_X4_withoutItem pl.2.1 item, 0) Z) ) (cwV 2 hts gX3_takeItemOut_X3_partOf rfl rfl rfl (by decide +kernel) ⟨Nat.le_of_ble_eq_true rfl, Nat.le_of_ble_eq_true rfl⟩) rfl hl.1 rfl (Nat.le_of_ble_eq_true rfl) dX3_takeItemOut_88 ⟨Nat.le_of_ble_eq_true rfl, Nat.le_of_ble_eq_true rfl⟩ ?_
              refine lv_icmp_le (tgt := 97) hx hb dX3_takeItemOut_91 (by decide) (fun c_7 => ?_) (fun c_7 => ?_)
              · refine lv_aload_n hx hb dX3_takeItemOut_97 rfl (lv_at hl 4 rfl) ?_
                refine hx_get hx hb hts hX3 hown hK.1 hP 4 (by decide) (hts (.fieldLink RX3 25 "PledgeHouse$House" "pledges" "[LPledgeHouse$Pledge;") (by decide +kernel)) rfl (v := .ref (a 2)) rfl dX3_takeItemOut_98 ?_
                refine lv_aload_n hx hb dX3_takeItemOut_101 rfl (lv_at hl 5 rfl) ?_
                refine va_get (D := D) (ci := 8) (v := .int (v 15)) (C := RX9) (T := TX9) (N := 19) hx hb hts hX9 hown hK.1 hP 0 rfl rfl 1 (by decide) (hts (.fieldLink RX3 212 "PledgeHouse$Ticket" "place" "I") (by decide +kernel)) (fun _ h9 => h9) rfl dX3_takeItemOut_102 ?_
                refine lv_aload hx hb dX3_takeItemOut_105 (lv_at hl 1 rfl) ?_
                refine hx_pst hx hb hK.1 hP (wTNH_D ib ia d hn1 in1 (pOr_lt hltT hltH)) hS (any_P hK (vaR (vaL (vaL hP)))) (tN (v 15)) (pl_of (lu_some c_3).2.2).1 (pl_of (lu_some c_3).2.2).2 dX3_takeItemOut_107 (fun H locs hP hS => ?_)
                refine lv_aload_n hx hb dX3_takeItemOut_108 rfl (lv_at hl 5 rfl) ?_
                refine lv_iconst (v := (-1)) hx hb dX3_takeItemOut_109 (by decide) ?_
                refine va_put (D := D) (ci := 8) (v := .int (-1)) (ty := .int) (C := RX9) (T := TX9) (N := 19) hx hb hts hX9 tyX9 tyX9_ok nmX9 hown hK.1 hP (wTNH_D ib ia d hn1 in1 (pOr_lt hltT hltH)) hS 0 rfl rfl 8 (by decide) (hts (.fieldLink RX3 269 "PledgeHouse$Ticket" "renewedOn" "I") (by decide +kernel)) (fun _ h9 => h9) rfl (by decide +kernel) rfl rfl (Nat.le_of_ble_eq_true rfl) dX3_takeItemOut_110 (fun H locs hP _ hS => ?_)
                have hP : va_P D vwCl (((wT b nm (upd v 20 (-1)) ++ wP n1 cs (2, sc_X4_withoutItem pl.2.1 item, 0)) ++ wH a (k 0) cs (gpp Z (tN (v 15)) (some (n1 0)))) ++ []) H := hP
                refine lv_aload_n hx hb dX3_takeItemOut_113 rfl (lv_at hl 5 rfl) ?_
                refine lv_iload_n hx hb dX3_takeItemOut_114 rfl (lv_at hl 6 rfl) ?_
                refine c_wr (WS' := ((wT b nm (sc_X9_endOathBy nm (upd v 20 (-1)) half) ++ wP n1 cs (2, sc_X4_withoutItem pl.2.1 item, 0)) ++ wH a (k 0) cs (gpp Z (tN (v 15)) (some (n1 0)))) ++ []) S hK (show va_P D vwCl (wT b nm (upd v 20 (-1))) _ from vaL (vaL (vaL hP))) (va_recv hK.1 hP (ci := 8) (q0 := 0) rfl rfl) hS (As := [.int half]) (rest := []) (cC_X9_endOathBy l D cs b nm (upd v 20 (-1)) _ ib half ) (cwV 1 hts gX3_takeItemOut_X9_endOathBy rfl rfl rfl (by decide +kernel) ⟨Nat.le_of_ble_eq_true rfl, Nat.le_of_ble_eq_true rfl⟩) rfl hl.1 rfl (Nat.le_of_ble_eq_true rfl) dX3_takeItemOut_115 ⟨Nat.le_of_ble_eq_true rfl, Nat.le_of_ble_eq_true rfl⟩ (fun q h => adA_le hS.1 q (h.elim (fun t => Or.inl (Or.inl t)) Or.inr)) (fun H1 _ hk h => (va_P.app (va_P.app (va_P.app h (keepP (vaR (vaL (vaL hP))) wP_p (fr2 hltT hn1) hk)) (keepP (vaR (vaL hP)) wH_p (fun q h1 h2 => d q h2 h1) hk)) nilP)) (fun H locs hP hS => ?_)
                refine lv_iload hx hb dX3_takeItemOut_118 (lv_at hl 0 rfl) ?_
                have hsp : sc_X3_takeItemOut nm v Z q pl n1 half item = (sc_X3_worthOf (2, sc_X4_withoutItem pl.2.1 item, 0) Z, (sc_X9_endOathBy nm (upd v 20 (-1)) half), gpp Z (tN (v 15)) (some (n1 0)), some (2, sc_X4_withoutItem pl.2.1 item, 0)) := by unfold sc_X3_takeItemOut; rw [if_neg c_1, if_pos c_2, if_neg c_3, if_neg c_4, if_pos c_5, if_neg c_6, if_pos c_7]
                refine W.widen (k := 2) (n := 8) (Nat.le_of_ble_eq_true rfl) (Nat.le_of_ble_eq_true rfl) ?_
                exact W.iret hx hb hr (fun t2 ht2 hW => ⟨n1, hn1, in1, by show _ = Outcome.returned (some (Value.int (sc_X3_takeItemOut nm v Z q pl n1 half item).1)); rw [hsp], by rw [ht2]; show va_P D vwCl (((wT b nm ((sc_X3_takeItemOut nm v Z q pl n1 half item).2.1) ++ wPo n1 cs (sc_X3_takeItemOut nm v Z q pl n1 half item).2.2.2) ++ wH a (k 0) cs ((sc_X3_takeItemOut nm v Z q pl n1 half item).2.2.1)) ++ []) _; rw [hsp]; exact hP, hS.F ht2⟩) hS.2.2 dX3_takeItemOut_120 hlocks
              · refine lv_bipush (v := (-6)) hx hb dX3_takeItemOut_94 (by decide) ?_
                have hsp : sc_X3_takeItemOut nm v Z q pl n1 half item = ((-6), v, Z, some (2, sc_X4_withoutItem pl.2.1 item, 0)) := by unfold sc_X3_takeItemOut; rw [if_neg c_1, if_pos c_2, if_neg c_3, if_neg c_4, if_pos c_5, if_neg c_6, if_neg c_7]
                refine W.widen (k := 2) (n := 8) (Nat.le_of_ble_eq_true rfl) (Nat.le_of_ble_eq_true rfl) ?_
                exact W.iret hx hb hr (fun t2 ht2 hW => ⟨n1, hn1, in1, by show _ = Outcome.returned (some (Value.int (sc_X3_takeItemOut nm v Z q pl n1 half item).1)); rw [hsp], by rw [ht2]; show va_P D vwCl (((wT b nm ((sc_X3_takeItemOut nm v Z q pl n1 half item).2.1) ++ wPo n1 cs (sc_X3_takeItemOut nm v Z q pl n1 half item).2.2.2) ++ wH a (k 0) cs ((sc_X3_takeItemOut nm v Z q pl n1 half item).2.2.1)) ++ []) _; rw [hsp]; exact hP, hS.F ht2⟩) hS.2.2 dX3_takeItemOut_96 hlocks
          · refine lv_iload hx hb dX3_takeItemOut_53 (lv_at hl 0 rfl) ?_
            have hsp : sc_X3_takeItemOut nm v Z q pl (two s.heap.size (s.heap.size + 1)) half item = (sc_X3_whyNotHolders nm v Z half, v, Z, none) := by unfold sc_X3_takeItemOut; rw [if_neg c_1, if_pos c_2, if_neg c_3, if_neg c_4, if_neg c_5]
            refine W.widen (k := 2) (n := 8) (Nat.le_of_ble_eq_true rfl) (Nat.le_of_ble_eq_true rfl) ?_
            exact W.iret hx hb hr (fun t2 ht2 hW => ⟨two s.heap.size (s.heap.size + 1), (two_ge (Nat.le_refl _) (Nat.le_succ _)), (two_inj (Nat.ne_of_lt (Nat.lt_succ_self _))), by show _ = Outcome.returned (some (Value.int (sc_X3_takeItemOut nm v Z q pl (two s.heap.size (s.heap.size + 1)) half item).1)); rw [hsp], by rw [ht2]; show va_P D vwCl (((wT b nm ((sc_X3_takeItemOut nm v Z q pl (two s.heap.size (s.heap.size + 1)) half item).2.1) ++ wPo (two s.heap.size (s.heap.size + 1)) cs (sc_X3_takeItemOut nm v Z q pl (two s.heap.size (s.heap.size + 1)) half item).2.2.2) ++ wH a (k 0) cs ((sc_X3_takeItemOut nm v Z q pl (two s.heap.size (s.heap.size + 1)) half item).2.2.1)) ++ []) _; rw [hsp]; exact hP, hS.F ht2⟩) hS.2.2 dX3_takeItemOut_55 hlocks
        · refine lv_bipush (v := (-2)) hx hb dX3_takeItemOut_37 (by decide) ?_
          have hsp : sc_X3_takeItemOut nm v Z q pl (two s.heap.size (s.heap.size + 1)) half item = ((-2), v, Z, none) := by unfold sc_X3_takeItemOut; rw [if_neg c_1, if_pos c_2, if_neg c_3, if_pos c_4]
          refine W.widen (k := 2) (n := 8) (Nat.le_of_ble_eq_true rfl) (Nat.le_of_ble_eq_true rfl) ?_
          exact W.iret hx hb hr (fun t2 ht2 hW => ⟨two s.heap.size (s.heap.size + 1), (two_ge (Nat.le_refl _) (Nat.le_succ _)), (two_inj (Nat.ne_of_lt (Nat.lt_succ_self _))), by show _ = Outcome.returned (some (Value.int (sc_X3_takeItemOut nm v Z q pl (two s.heap.size (s.heap.size + 1)) half item).1)); rw [hsp], by rw [ht2]; show va_P D vwCl (((wT b nm ((sc_X3_takeItemOut nm v Z q pl (two s.heap.size (s.heap.size + 1)) half item).2.1) ++ wPo (two s.heap.size (s.heap.size + 1)) cs (sc_X3_takeItemOut nm v Z q pl (two s.heap.size (s.heap.size + 1)) half item).2.2.2) ++ wH a (k 0) cs ((sc_X3_takeItemOut nm v Z q pl (two s.heap.size (s.heap.size + 1)) half item).2.2.1)) ++ []) _; rw [hsp]; exact hP, hS.F ht2⟩) hS.2.2 dX3_takeItemOut_39 hlocks
    · refine lv_iconst (v := (-1)) hx hb dX3_takeItemOut_14 (by decide) ?_
      have hsp : sc_X3_takeItemOut nm v Z q pl (two s.heap.size (s.heap.size + 1)) half item = ((-1), v, Z, none) := by unfold sc_X3_takeItemOut; rw [if_neg c_1, if_neg c_2]
      refine W.widen (k := 2) (n := 8) (Nat.le_of_ble_eq_true rfl) (Nat.le_of_ble_eq_true rfl) ?_
      exact W.iret hx hb hr (fun t2 ht2 hW => ⟨two s.heap.size (s.heap.size + 1), (two_ge (Nat.le_refl _) (Nat.le_succ _)), (two_inj (Nat.ne_of_lt (Nat.lt_succ_self _))), by show _ = Outcome.returned (some (Value.int (sc_X3_takeItemOut nm v Z q pl (two s.heap.size (s.heap.size + 1)) half item).1)); rw [hsp], by rw [ht2]; show va_P D vwCl (((wT b nm ((sc_X3_takeItemOut nm v Z q pl (two s.heap.size (s.heap.size + 1)) half item).2.1) ++ wPo (two s.heap.size (s.heap.size + 1)) cs (sc_X3_takeItemOut nm v Z q pl (two s.heap.size (s.heap.size + 1)) half item).2.2.2) ++ wH a (k 0) cs ((sc_X3_takeItemOut nm v Z q pl (two s.heap.size (s.heap.size + 1)) half item).2.2.1)) ++ []) _; rw [hsp]; exact hP, hS.F ht2⟩) hS.2.2 dX3_takeItemOut_15 hlocks
def sc_X3_takeItemOut_p (nm : Int32) (v : Nat → Int32) (Z : hZ) (half : Int32) (item : Int32) : Int32 :=
  if item < 0 then
    (-1)
  else
    if item < 6 then
      (-2)
    else
      (-1)
set_option maxHeartbeats 4000000 in
set_option maxRecDepth 100000 in
theorem cC_X3_takeItemOut_p (l : Launch) (D : va_G) (cs : Nat → ClassId) (b : Nat → Nat) (nm : Int32) (v : Nat → Int32) (k : Nat → Nat) (a : Nat → Nat) (Z : hZ) (sz : Nat) (half : Int32) (item : Int32) (hpq : gp Z (tN (v 15)) = none) : Met l yX3_takeItemOut wsX3_takeItemOut ({ frames := 3, cells := 0, slots := 0, locals := 63 }) (cPc [.ref (a 0), .ref (b 0), .int half, .int item] D cs ((wT b nm v ++ wH a (k 0) cs Z) ++ []) sz) (k2_QcV (.int (sc_X3_takeItemOut_p nm v Z half item))) 0 0 (fun _ => False) := by
  refine c_in (P := pOr (pT b) (pH a)) (cc := cX3_takeItemOut) (maxL := 8) (ret := (some .int)) (lv := [(0, .ref (a 0)), (1, .ref (b 0)), (2, .int half), (3, .int item)]) (by decide) rfl (Nat.le_of_ble_eq_true rfl) rfl ?_
  intro p e s m below meth c ls S hr hlocks hin hsz hP hK hl hS
  subst hsz
  obtain ⟨hx, hb, hml, hown, hts⟩ := id S
  refine lv_aload_n hx hb dX3_takeItemOut_0 rfl (lv_at hl 1 rfl) ?_
  refine lv_ifnull hx hb dX3_takeItemOut_1 ?_
  refine lv_iload_n hx hb dX3_takeItemOut_4 rfl (lv_at hl 3 rfl) ?_
  refine lv_if_lt (tgt := 14) hx hb dX3_takeItemOut_5 (by decide) (fun c_1 => ?_) (fun c_1 => ?_)
  · refine lv_iconst (v := (-1)) hx hb dX3_takeItemOut_14 (by decide) ?_
    have hsp : sc_X3_takeItemOut_p nm v Z half item = (-1) := by unfold sc_X3_takeItemOut_p; rw [if_pos c_1]
    exact W.iret hx hb hr (fun t2 ht2 hW => ⟨by rw [hsp], ht2⟩) (fun q hq => by cases hq) dX3_takeItemOut_15 hlocks
  · refine lv_iload_n hx hb dX3_takeItemOut_8 rfl (lv_at hl 3 rfl) ?_
    refine lv_bipush (v := 6) hx hb dX3_takeItemOut_9 (by decide) ?_
    refine lv_icmp_lt (tgt := 16) hx hb dX3_takeItemOut_11 (by decide) (fun c_2 => ?_) (fun c_2 => ?_)
    · refine lv_aload_n hx hb dX3_takeItemOut_16 rfl (lv_at hl 0 rfl) ?_
      refine lv_aload_n hx hb dX3_takeItemOut_17 rfl (lv_at hl 1 rfl) ?_
      refine c_rd S hK (hP) (va_recv hK.1 hP (ci := 3) (q0 := _ + 0) rfl (get3 rfl)) (As := [.ref (b 0)]) (rest := []) (cC_X3_lotUnder_n l D cs b nm v k a Z _   hpq) (cwV 1 hts gX3_takeItemOut_X3_lotUnder rfl rfl rfl (by decide +kernel) ⟨Nat.le_of_ble_eq_true rfl, Nat.le_of_ble_eq_true rfl⟩) rfl hl.1 rfl (Nat.le_of_ble_eq_true rfl) dX3_takeItemOut_18 ⟨Nat.zero_le _, Nat.zero_le _⟩ ?_
      refine wtop ((congrArg va_rf (lu_none)).trans (show va_rf (none) = .null from rfl)) ?_
      refine lv_astoreN (lv' := [(4, .null), (0, .ref (a 0)), (1, .ref (b 0)), (2, .int half), (3, .int item)]) hx hb dX3_takeItemOut_21 hl (by decide) rfl (fun ls hl => ?_)
      refine lv_aloadN hx hb dX3_takeItemOut_23 (lv_at hl 0 rfl) ?_
      refine lv_ifnullN (tgt := 37) hx hb dX3_takeItemOut_25 (by decide) ?_
      refine lv_bipush (v := (-2)) hx hb dX3_takeItemOut_37 (by decide) ?_
      have hsp : sc_X3_takeItemOut_p nm v Z half item = (-2) := by unfold sc_X3_takeItemOut_p; rw [if_neg c_1, if_pos c_2]
      exact W.iret hx hb hr (fun t2 ht2 hW => ⟨by rw [hsp], ht2⟩) (fun q hq => by cases hq) dX3_takeItemOut_39 hlocks
    · refine lv_iconst (v := (-1)) hx hb dX3_takeItemOut_14 (by decide) ?_
      have hsp : sc_X3_takeItemOut_p nm v Z half item = (-1) := by unfold sc_X3_takeItemOut_p; rw [if_neg c_1, if_neg c_2]
      exact W.iret hx hb hr (fun t2 ht2 hW => ⟨by rw [hsp], ht2⟩) (fun q hq => by cases hq) dX3_takeItemOut_15 hlocks
