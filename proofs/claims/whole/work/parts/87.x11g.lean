/-! PledgeHouse's lookings (by x11e.py) -/
set_option maxHeartbeats 4000000 in
set_option maxRecDepth 100000 in
theorem cC_X11_place (l : Launch) (D : va_G) (cs : Nat → ClassId) (o : Nat) (a1 a2 k r : Nat → Nat) (fz : Nat → Prop) (N : Nat) (F : mZ) (sz : Nat) (hN : N ≤ 512) (place what : Int32) : Met l yX11_place wsX11_place ({ frames := 4, cells := 0, slots := 0, locals := 87 }) (cPcF [.ref o, .int place, .int what] D cs (wO o a1 a2 (zik F) (zst F)) (gT D cs o a1 a2 k r fz N F) sz) (k2_QcV (.long (sp_place F place what))) 0 0 (fun _ => False) := by
  refine c_inF (P := p1 o) (cc := cX11_place) (maxL := 3) (ret := (some .long)) (lv := [(0, .ref o), (1, .int place), (2, .int what)]) (by decide) rfl (Nat.le_of_ble_eq_true rfl) rfl ?_
  intro p e s m below meth c ls S hr hlocks hin hsz hP hK hF hl hS0
  subst hsz
  obtain ⟨hx, hb, hml, hown, hts⟩ := id S
  have hX11 : ∀ w ∈ wsX110, w ∈ wsX11_place := by decide +kernel
  obtain ⟨h1, h2, RW, cn1, rc1, d1, cn2, rc2, d2, hR, hI, hH, hfz⟩ := id hF
  have hcn := hR.1.1.2.2.2.2.2.1
  have hrN := hR.2.2.2.2.1
  have hZ1 : va_P D vwCl (([] ++ wH a1 (k 0) cs (sZ h1)) ++ []) s.heap := by rw [List.nil_append, List.append_nil]; exact hH.1.1
  have hrv := va_recv hK.1 hH.1.1 (ci := 3) (q0 := 0) rfl rfl
  refine lv_aload_n hx hb dX11_place_0 rfl (lv_at hl 0 rfl) ?_
  refine va_get (D := D) (ci := 9) (v := .ref (a1 0)) (C := RX11) (T := TX11) (N := 4) hx hb hts hX11 hown hK.1 hP 0 rfl rfl 0 (by decide) (hts (.fieldLink RX11 15 "PledgeHouse" "now" "LPledgeHouse$House;") (by decide +kernel)) (fun _ h9 => h9) rfl dX11_place_1 ?_
  refine lv_iload_n hx hb dX11_place_4 rfl (lv_at hl 1 rfl) ?_
  refine lv_iload_n hx hb dX11_place_5 rfl (lv_at hl 2 rfl) ?_
  cases e : gp (sZ h1) (tN place) with
  | none =>
    refine c_rd S hK hZ1 hrv (As := [.int place, .int what]) (rest := []) (cC_X3_lookAtPlace_n l D cs k a1 (sZ h1) _ place what e) (cwV 2 hts gX11_place_X3_lookAtPlace rfl rfl rfl (by decide +kernel) ⟨Nat.le_of_ble_eq_true rfl, Nat.le_of_ble_eq_true rfl⟩) rfl hl.1 rfl (Nat.le_of_ble_eq_true rfl) dX11_place_6 ⟨Nat.zero_le _, Nat.zero_le _⟩ ?_
    exact W.lret hx hb hr (fun t2 ht2 hW => ⟨by rw [r_place_n hR.1 place what e], ht2⟩) (fun q hq => by cases hq) dX11_place_9 hlocks
  | some x0 =>
    obtain ⟨hp4, hpq, hPP⟩ := pl_at hR hH e
    have hs : gp (sZ h1) (tN place) ≠ none := by rw [e]; simp
    refine c_rd S hK (va_P.app (va_P.app hPP hH.1.1) nilP) hrv (As := [.int place, .int what]) (rest := []) (cC_X3_lookAtPlace l D cs (sq h1 (tN place)) (sl h1 (tN place)) k a1 (sZ h1) _ place what hpq) (cwV 2 hts gX11_place_X3_lookAtPlace rfl rfl rfl (by decide +kernel) ⟨Nat.le_of_ble_eq_true rfl, Nat.le_of_ble_eq_true rfl⟩) rfl hl.1 rfl (Nat.le_of_ble_eq_true rfl) dX11_place_6 ⟨Nat.zero_le _, Nat.zero_le _⟩ ?_
    exact W.lret hx hb hr (fun t2 ht2 hW => ⟨by rw [r_place hR.1 place what hs], ht2⟩) (fun q hq => by cases hq) dX11_place_9 hlocks
set_option maxHeartbeats 4000000 in
set_option maxRecDepth 100000 in
theorem cC_X11_told (l : Launch) (D : va_G) (cs : Nat → ClassId) (o : Nat) (a1 a2 k r : Nat → Nat) (fz : Nat → Prop) (N : Nat) (F : mZ) (sz : Nat) (hN : N ≤ 512) (ticket what : Int32) : Met l yX11_told wsX11_told ({ frames := 5, cells := 0, slots := 0, locals := 108 }) (cPcF [.ref o, .int ticket, .int what] D cs (wO o a1 a2 (zik F) (zst F)) (gT D cs o a1 a2 k r fz N F) sz) (k2_QcV (.int (sp_told F ticket what))) 0 0 (fun _ => False) := by
  refine c_inF (P := p1 o) (cc := cX11_told) (maxL := 3) (ret := (some .int)) (lv := [(0, .ref o), (1, .int ticket), (2, .int what)]) (by decide) rfl (Nat.le_of_ble_eq_true rfl) rfl ?_
  intro p e s m below meth c ls S hr hlocks hin hsz hP hK hF hl hS0
  subst hsz
  obtain ⟨hx, hb, hml, hown, hts⟩ := id S
  have hX11 : ∀ w ∈ wsX110, w ∈ wsX11_told := by decide +kernel
  obtain ⟨h1, h2, RW, cn1, rc1, d1, cn2, rc2, d2, hR, hI, hH, hfz⟩ := id hF
  have hcn := hR.1.1.2.2.2.2.2.1
  have hrN := hR.2.2.2.2.1
  have hZ1 : va_P D vwCl (([] ++ wH a1 (k 0) cs (sZ h1)) ++ []) s.heap := by rw [List.nil_append, List.append_nil]; exact hH.1.1
  have hrv := va_recv hK.1 hH.1.1 (ci := 3) (q0 := 0) rfl rfl
  refine lv_aload_n hx hb dX11_told_0 rfl (lv_at hl 0 rfl) ?_
  refine va_get (D := D) (ci := 9) (v := .ref (a1 0)) (C := RX11) (T := TX11) (N := 4) hx hb hts hX11 hown hK.1 hP 0 rfl rfl 0 (by decide) (hts (.fieldLink RX11 15 "PledgeHouse" "now" "LPledgeHouse$House;") (by decide +kernel)) (fun _ h9 => h9) rfl dX11_told_1 ?_
  refine lv_aload_n hx hb dX11_told_4 rfl (lv_at hl 0 rfl) ?_
  refine va_get (D := D) (ci := 9) (v := .ref (a1 0)) (C := RX11) (T := TX11) (N := 4) hx hb hts hX11 hown hK.1 hP 0 rfl rfl 0 (by decide) (hts (.fieldLink RX11 15 "PledgeHouse" "now" "LPledgeHouse$House;") (by decide +kernel)) (fun _ h9 => h9) rfl dX11_told_5 ?_
  refine lv_iload_n hx hb dX11_told_8 rfl (lv_at hl 1 rfl) ?_
  refine c_rd S hK hZ1 hrv (As := [.int ticket]) (rest := [.ref (a1 0)]) (cC_X3_findTicket l D cs k a1 (sZ h1) _ ticket (cn_le hR.1.1.2.2.2.1 hcn)) (cwV 1 hts gX11_told_X3_findTicket rfl rfl rfl (by decide +kernel) ⟨Nat.le_of_ble_eq_true rfl, Nat.le_of_ble_eq_true rfl⟩) rfl hl.1 rfl (Nat.le_of_ble_eq_true rfl) dX11_told_9 ⟨Nat.zero_le _, Nat.zero_le _⟩ ?_
  rcases tick_cases hR.1 ticket with hn | ⟨i, hi, et⟩
  · refine wtop ((congrArg va_rf (ft_none hn)).trans rfl) ?_
    refine lv_iload_n hx hb dX11_told_12 rfl (lv_at hl 2 rfl) ?_
    refine c_rd S hK hZ1 hrv (As := [.null, .int what]) (rest := []) (cC_X3_lookAtTicket_n l D cs k a1 (sZ h1) _ what) (cwV 2 hts gX11_told_X3_lookAtTicket rfl rfl rfl (by decide +kernel) ⟨Nat.le_of_ble_eq_true rfl, Nat.le_of_ble_eq_true rfl⟩) rfl hl.1 rfl (Nat.le_of_ble_eq_true rfl) dX11_told_13 ⟨Nat.zero_le _, Nat.zero_le _⟩ ?_
    have hA : sp_told F ticket what = sc_X3_lookAtTicket_n (sZ h1) what := by unfold sp_told; rw [if_pos (hR.1.noT hn)]; rfl
    exact W.iret hx hb hr (fun t2 ht2 hW => ⟨by rw [hA], ht2⟩) (fun q hq => by cases hq) dX11_told_16 hlocks
  · subst et
    refine wtop ((congrArg va_rf (ft_some hR.1.1.2.2.2.1 hcn (fun j hj => (hR.2.2.1.2.2.1 j hj).1) hi)).trans rfl) ?_
    refine lv_iload_n hx hb dX11_told_12 rfl (lv_at hl 2 rfl) ?_
    have hs := hR.2.2.1.2.2.1 i hi
    have hT := hH.1.2.1 i (by omega) hs.1
    rw [hs.2] at hT
    refine c_rd S hK (va_P.app (va_P.app hT hH.1.1) nilP) hrv (As := [.ref (sb h1 i 0), .int what]) (rest := []) (cC_X3_lookAtTicket l D cs (sb h1 i) (nI (i + 1)) (sv h1 i) k a1 (sZ h1) _ what) (cwV 2 hts gX11_told_X3_lookAtTicket rfl rfl rfl (by decide +kernel) ⟨Nat.le_of_ble_eq_true rfl, Nat.le_of_ble_eq_true rfl⟩) rfl hl.1 rfl (Nat.le_of_ble_eq_true rfl) dX11_told_13 ⟨Nat.zero_le _, Nat.zero_le _⟩ ?_
    exact W.iret hx hb hr (fun t2 ht2 hW => ⟨by rw [r_told hR.1 hi what], ht2⟩) (fun q hq => by cases hq) dX11_told_16 hlocks
set_option maxHeartbeats 4000000 in
set_option maxRecDepth 100000 in
theorem cC_X11_half (l : Launch) (D : va_G) (cs : Nat → ClassId) (o : Nat) (a1 a2 k r : Nat → Nat) (fz : Nat → Prop) (N : Nat) (F : mZ) (sz : Nat) (hN : N ≤ 512) : Met l yX11_half wsX11_half ({ frames := 2, cells := 0, slots := 0, locals := 42 }) (cPcF [.ref o] D cs (wO o a1 a2 (zik F) (zst F)) (gT D cs o a1 a2 k r fz N F) sz) (k2_QcV (.int (sp_half F))) 0 0 (fun _ => False) := by
  refine c_inF (P := p1 o) (cc := cX11_half) (maxL := 1) (ret := (some .int)) (lv := [(0, .ref o)]) (by decide) rfl (Nat.le_of_ble_eq_true rfl) rfl ?_
  intro p e s m below meth c ls S hr hlocks hin hsz hP hK hF hl hS0
  subst hsz
  obtain ⟨hx, hb, hml, hown, hts⟩ := id S
  have hX11 : ∀ w ∈ wsX110, w ∈ wsX11_half := by decide +kernel
  obtain ⟨h1, h2, RW, cn1, rc1, d1, cn2, rc2, d2, hR, hI, hH, hfz⟩ := id hF
  have hcn := hR.1.1.2.2.2.2.2.1
  have hrN := hR.2.2.2.2.1
  have hZ1 : va_P D vwCl (([] ++ wH a1 (k 0) cs (sZ h1)) ++ []) s.heap := by rw [List.nil_append, List.append_nil]; exact hH.1.1
  have hrv := va_recv hK.1 hH.1.1 (ci := 3) (q0 := 0) rfl rfl
  refine lv_aload_n hx hb dX11_half_0 rfl (lv_at hl 0 rfl) ?_
  refine va_get (D := D) (ci := 9) (v := .ref (a1 0)) (C := RX11) (T := TX11) (N := 4) hx hb hts hX11 hown hK.1 hP 0 rfl rfl 0 (by decide) (hts (.fieldLink RX11 15 "PledgeHouse" "now" "LPledgeHouse$House;") (by decide +kernel)) (fun _ h9 => h9) rfl dX11_half_1 ?_
  have eh := r_half hR.1
  by_cases c0 : cn1 = 0
  · have hf : sc_X3_findTicket (sZ h1) (gh (sZ h1) 1) = none := ft_none (Or.inl (by rw [hR.1.1.2.2.2.1, c0]; decide))
    rw [if_pos c0] at eh
    refine c_rd S hK hZ1 hrv (As := []) (rest := []) (cC_X3_latestHalf_n l D cs k a1 (sZ h1) _ (cn_le hR.1.1.2.2.2.1 hcn) hf) (cwV 0 hts gX11_half_X3_latestHalf rfl rfl rfl (by decide +kernel) ⟨Nat.le_of_ble_eq_true rfl, Nat.le_of_ble_eq_true rfl⟩) rfl hl.1 rfl (Nat.le_of_ble_eq_true rfl) dX11_half_4 ⟨Nat.zero_le _, Nat.zero_le _⟩ ?_
    exact W.iret hx hb hr (fun t2 ht2 hW => ⟨by rw [eh]; rfl, ht2⟩) (fun q hq => by cases hq) dX11_half_7 hlocks
  · obtain ⟨i, rfl⟩ : ∃ i, cn1 = i + 1 := ⟨cn1 - 1, by omega⟩
    have hf : sc_X3_findTicket (sZ h1) (gh (sZ h1) 1) = some (sb h1 i 0) := by
      rw [hR.1.1.2.2.2.1]
      exact ft_some hR.1.1.2.2.2.1 hcn (fun j hj => (hR.2.2.1.2.2.1 j hj).1) (Nat.lt_succ_self i)
    rw [if_neg c0, Nat.add_sub_cancel] at eh
    have hs := hR.2.2.1.2.2.1 i (Nat.lt_succ_self i)
    have hT := hH.1.2.1 i (by omega) hs.1
    rw [hs.2] at hT
    refine c_rd S hK (va_P.app (va_P.app hT hH.1.1) nilP) hrv (As := []) (rest := []) (cC_X3_latestHalf l D cs (sb h1 i) (nI (i + 1)) (sv h1 i) k a1 (sZ h1) _ (cn_le hR.1.1.2.2.2.1 hcn) hf) (cwV 0 hts gX11_half_X3_latestHalf rfl rfl rfl (by decide +kernel) ⟨Nat.le_of_ble_eq_true rfl, Nat.le_of_ble_eq_true rfl⟩) rfl hl.1 rfl (Nat.le_of_ble_eq_true rfl) dX11_half_4 ⟨Nat.zero_le _, Nat.zero_le _⟩ ?_
    exact W.iret hx hb hr (fun t2 ht2 hW => ⟨by rw [eh]; rfl, ht2⟩) (fun q hq => by cases hq) dX11_half_7 hlocks
set_option maxHeartbeats 4000000 in
set_option maxRecDepth 100000 in
theorem cC_X11_as (l : Launch) (D : va_G) (cs : Nat → ClassId) (o : Nat) (a1 a2 k r : Nat → Nat) (fz : Nat → Prop) (N : Nat) (F : mZ) (sz : Nat) (hN : N ≤ 512) (day what : Int32) : Met l yX11_as wsX11_as ({ frames := 4, cells := 0, slots := 0, locals := 93 }) (cPcF [.ref o, .int day, .int what] D cs (wO o a1 a2 (zik F) (zst F)) (gT D cs o a1 a2 k r fz N F) sz) (k2_QcV (.long (sp_as F day what))) 0 0 (fun _ => False) := by
  refine c_inF (P := p1 o) (cc := cX11_as) (maxL := 3) (ret := (some .long)) (lv := [(0, .ref o), (1, .int day), (2, .int what)]) (by decide) rfl (Nat.le_of_ble_eq_true rfl) rfl ?_
  intro p e s m below meth c ls S hr hlocks hin hsz hP hK hF hl hS0
  subst hsz
  obtain ⟨hx, hb, hml, hown, hts⟩ := id S
  have hX11 : ∀ w ∈ wsX110, w ∈ wsX11_as := by decide +kernel
  obtain ⟨h1, h2, RW, cn1, rc1, d1, cn2, rc2, d2, hR, hI, hH, hfz⟩ := id hF
  have hcn := hR.1.1.2.2.2.2.2.1
  have hrN := hR.2.2.2.2.1
  have hZ1 : va_P D vwCl (([] ++ wH a1 (k 0) cs (sZ h1)) ++ []) s.heap := by rw [List.nil_append, List.append_nil]; exact hH.1.1
  have hrv := va_recv hK.1 hH.1.1 (ci := 3) (q0 := 0) rfl rfl
  have htk : tks D (sb h1) (sv h1) cn1 s.heap := fun i hi => by
    have z := hH.1.2.1 i (by omega) (hR.2.2.1.2.2.1 i hi).1
    rw [(hR.2.2.1.2.2.1 i hi).2] at z
    exact z
  have hgt : ∀ i, i < cn1 → gt (sZ h1) i = some (sb h1 i 0) := fun i hi => (hR.2.2.1.2.2.1 i hi).1
  refine lv_aload_n hx hb dX11_as_0 rfl (lv_at hl 0 rfl) ?_
  refine va_get (D := D) (ci := 9) (v := .ref (a1 0)) (C := RX11) (T := TX11) (N := 4) hx hb hts hX11 hown hK.1 hP 0 rfl rfl 0 (by decide) (hts (.fieldLink RX11 15 "PledgeHouse" "now" "LPledgeHouse$House;") (by decide +kernel)) (fun _ h9 => h9) rfl dX11_as_1 ?_
  refine lv_iload_n hx hb dX11_as_4 rfl (lv_at hl 1 rfl) ?_
  refine lv_iload_n hx hb dX11_as_5 rfl (lv_at hl 2 rfl) ?_
  refine c_r1 (va_runV S (cC_X3_sumOn l D cs k a1 (sZ h1) r RW (sb h1) (sv h1) _ cn1 rc1 day what hR.1.1.2.2.2.1 hcn hgt hR.1.1.2.2.2.2.2.2.1 (by omega)) (cwV 2 hts gX11_as_X3_sumOn rfl rfl rfl (by decide +kernel) ⟨Nat.le_of_ble_eq_true rfl, Nat.le_of_ble_eq_true rfl⟩) (preV_f (As := [.int day, .int what]) hK (va_P.app (by rw [List.nil_append]; exact hH.1.1) hH.2.2) htk hrv) rfl rfl hl.1 rfl (lv_room (Nat.le_of_ble_eq_true rfl)) dX11_as_6 ⟨Nat.zero_le _, Nat.zero_le _⟩) (fun _ h => h) ?_
  exact W.lret hx hb hr (fun t2 ht2 hW => ⟨by rw [r_as hR.1 (by omega) day what], ht2⟩) (fun q hq => by cases hq) dX11_as_9 hlocks
set_option maxHeartbeats 4000000 in
set_option maxRecDepth 100000 in
theorem cC_X11_sum (l : Launch) (D : va_G) (cs : Nat → ClassId) (o : Nat) (a1 a2 k r : Nat → Nat) (fz : Nat → Prop) (N : Nat) (F : mZ) (sz : Nat) (hN : N ≤ 512) (what : Int32) : Met l yX11_sum wsX11_sum ({ frames := 4, cells := 0, slots := 0, locals := 93 }) (cPcF [.ref o, .int what] D cs (wO o a1 a2 (zik F) (zst F)) (gT D cs o a1 a2 k r fz N F) sz) (k2_QcV (.long (sp_sum F what))) 0 0 (fun _ => False) := by
  refine c_inF (P := p1 o) (cc := cX11_sum) (maxL := 2) (ret := (some .long)) (lv := [(0, .ref o), (1, .int what)]) (by decide) rfl (Nat.le_of_ble_eq_true rfl) rfl ?_
  intro p e s m below meth c ls S hr hlocks hin hsz hP hK hF hl hS0
  subst hsz
  obtain ⟨hx, hb, hml, hown, hts⟩ := id S
  have hX11 : ∀ w ∈ wsX110, w ∈ wsX11_sum := by decide +kernel
  obtain ⟨h1, h2, RW, cn1, rc1, d1, cn2, rc2, d2, hR, hI, hH, hfz⟩ := id hF
  have hcn := hR.1.1.2.2.2.2.2.1
  have hrN := hR.2.2.2.2.1
  have hZ1 : va_P D vwCl (([] ++ wH a1 (k 0) cs (sZ h1)) ++ []) s.heap := by rw [List.nil_append, List.append_nil]; exact hH.1.1
  have hrv := va_recv hK.1 hH.1.1 (ci := 3) (q0 := 0) rfl rfl
  have htk : tks D (sb h1) (sv h1) cn1 s.heap := fun i hi => by
    have z := hH.1.2.1 i (by omega) (hR.2.2.1.2.2.1 i hi).1
    rw [(hR.2.2.1.2.2.1 i hi).2] at z
    exact z
  have hgt : ∀ i, i < cn1 → gt (sZ h1) i = some (sb h1 i 0) := fun i hi => (hR.2.2.1.2.2.1 i hi).1
  have hX3 : ∀ w ∈ wsX30, w ∈ wsX11_sum := by decide +kernel
  refine lv_aload_n hx hb dX11_sum_0 rfl (lv_at hl 0 rfl) ?_
  refine va_get (D := D) (ci := 9) (v := .ref (a1 0)) (C := RX11) (T := TX11) (N := 4) hx hb hts hX11 hown hK.1 hP 0 rfl rfl 0 (by decide) (hts (.fieldLink RX11 15 "PledgeHouse" "now" "LPledgeHouse$House;") (by decide +kernel)) (fun _ h9 => h9) rfl dX11_sum_1 ?_
  refine lv_aload_n hx hb dX11_sum_4 rfl (lv_at hl 0 rfl) ?_
  refine va_get (D := D) (ci := 9) (v := .ref (a1 0)) (C := RX11) (T := TX11) (N := 4) hx hb hts hX11 hown hK.1 hP 0 rfl rfl 0 (by decide) (hts (.fieldLink RX11 15 "PledgeHouse" "now" "LPledgeHouse$House;") (by decide +kernel)) (fun _ h9 => h9) rfl dX11_sum_5 ?_
  refine va_getN (D := D) (ci := 3) (v := .int (gh (sZ h1) 0)) (C := RX3) (T := TX3) (N := 9) hx hb hts hX3 hown hK.1 hH.1.1 0 rfl rfl 2 (by decide) (va_Nw.use rfl (hK.2.1 _ (List.Mem.head _))) (fun _ h9 => h9) rfl dX11_sum_8 ?_
  refine lv_iload_n hx hb dX11_sum_11 rfl (lv_at hl 1 rfl) ?_
  refine c_r1 (va_runV S (cC_X3_sumOn l D cs k a1 (sZ h1) r RW (sb h1) (sv h1) _ cn1 rc1 (gh (sZ h1) 0) what hR.1.1.2.2.2.1 hcn hgt hR.1.1.2.2.2.2.2.2.1 (by omega)) (cwV 2 hts gX11_sum_X3_sumOn rfl rfl rfl (by decide +kernel) ⟨Nat.le_of_ble_eq_true rfl, Nat.le_of_ble_eq_true rfl⟩) (preV_f (As := [.int (gh (sZ h1) 0), .int what]) hK (va_P.app (by rw [List.nil_append]; exact hH.1.1) hH.2.2) htk hrv) rfl rfl hl.1 rfl (lv_room (Nat.le_of_ble_eq_true rfl)) dX11_sum_12 ⟨Nat.zero_le _, Nat.zero_le _⟩) (fun _ h => h) ?_
  exact W.lret hx hb hr (fun t2 ht2 hW => ⟨by rw [r_sum hR.1 (by omega) what], ht2⟩) (fun q hq => by cases hq) dX11_sum_15 hlocks
set_option maxHeartbeats 4000000 in
set_option maxRecDepth 100000 in
theorem cC_X11_check (l : Launch) (D : va_G) (cs : Nat → ClassId) (o : Nat) (a1 a2 k r : Nat → Nat) (fz : Nat → Prop) (N : Nat) (F : mZ) (sz : Nat) (hN : N ≤ 512) : Met l yX11_check wsX11_check ({ frames := 5, cells := 0, slots := 0, locals := 109 }) (cPcF [.ref o] D cs (wO o a1 a2 (zik F) (zst F)) (gT D cs o a1 a2 k r fz N F) sz) (k2_QcV (.int (sp_check F))) 0 0 (fun _ => False) := by
  refine c_inF (P := p1 o) (cc := cX11_check) (maxL := 1) (ret := (some .int)) (lv := [(0, .ref o)]) (by decide) rfl (Nat.le_of_ble_eq_true rfl) rfl ?_
  intro p e s m below meth c ls S hr hlocks hin hsz hP hK hF hl hS0
  subst hsz
  obtain ⟨hx, hb, hml, hown, hts⟩ := id S
  have hX11 : ∀ w ∈ wsX110, w ∈ wsX11_check := by decide +kernel
  obtain ⟨h1, h2, RW, cn1, rc1, d1, cn2, rc2, d2, hR, hI, hH, hfz⟩ := id hF
  have hcn := hR.1.1.2.2.2.2.2.1
  have hrN := hR.2.2.2.2.1
  have hZ1 : va_P D vwCl (([] ++ wH a1 (k 0) cs (sZ h1)) ++ []) s.heap := by rw [List.nil_append, List.append_nil]; exact hH.1.1
  have hrv := va_recv hK.1 hH.1.1 (ci := 3) (q0 := 0) rfl rfl
  have htk : tks D (sb h1) (sv h1) cn1 s.heap := fun i hi => by
    have z := hH.1.2.1 i (by omega) (hR.2.2.1.2.2.1 i hi).1
    rw [(hR.2.2.1.2.2.1 i hi).2] at z
    exact z
  have hgt : ∀ i, i < cn1 → gt (sZ h1) i = some (sb h1 i 0) := fun i hi => (hR.2.2.1.2.2.1 i hi).1
  refine lv_aload_n hx hb dX11_check_0 rfl (lv_at hl 0 rfl) ?_
  refine va_get (D := D) (ci := 9) (v := .ref (a1 0)) (C := RX11) (T := TX11) (N := 4) hx hb hts hX11 hown hK.1 hP 0 rfl rfl 0 (by decide) (hts (.fieldLink RX11 15 "PledgeHouse" "now" "LPledgeHouse$House;") (by decide +kernel)) (fun _ h9 => h9) rfl dX11_check_1 ?_
  refine c_r1 (va_runV S (cC_X3_countFaults l D cs k a1 (sZ h1) r RW (sb h1) (sv h1) _ cn1 hR.1.1.2.2.2.1 hcn hgt) (cwV 0 hts gX11_check_X3_countFaults rfl rfl rfl (by decide +kernel) ⟨Nat.le_of_ble_eq_true rfl, Nat.le_of_ble_eq_true rfl⟩) (preV_f (As := []) hK (va_P.app (by rw [List.nil_append]; exact hH.1.1) hH.2.2) htk hrv) rfl rfl hl.1 rfl (lv_room (Nat.le_of_ble_eq_true rfl)) dX11_check_4 ⟨Nat.zero_le _, Nat.zero_le _⟩) (fun _ h => h) ?_
  exact W.iret hx hb hr (fun t2 ht2 hW => ⟨by rw [r_check hR.1 (by omega)], ht2⟩) (fun q hq => by cases hq) dX11_check_7 hlocks
set_option maxHeartbeats 4000000 in
set_option maxRecDepth 100000 in
theorem cC_X11_status (l : Launch) (D : va_G) (cs : Nat → ClassId) (o : Nat) (a1 a2 k r : Nat → Nat) (fz : Nat → Prop) (N : Nat) (F : mZ) (sz : Nat) (hN : N ≤ 512) : Met l yX11_status wsX11_status ({ frames := 0, cells := 0, slots := 0, locals := 0 }) (cPcF [.ref o] D cs (wO o a1 a2 (zik F) (zst F)) (gT D cs o a1 a2 k r fz N F) sz) (k2_QcV (.int (sp_status F))) 0 0 (fun _ => False) := by
  refine c_inF (P := p1 o) (cc := cX11_status) (maxL := 1) (ret := (some .int)) (lv := [(0, .ref o)]) (by decide) rfl (Nat.le_of_ble_eq_true rfl) rfl ?_
  intro p e s m below meth c ls S hr hlocks hin hsz hP hK hF hl hS0
  subst hsz
  obtain ⟨hx, hb, hml, hown, hts⟩ := id S
  have hX11 : ∀ w ∈ wsX110, w ∈ wsX11_status := by decide +kernel
  obtain ⟨h1, h2, RW, cn1, rc1, d1, cn2, rc2, d2, hR, hI, hH, hfz⟩ := id hF
  have hcn := hR.1.1.2.2.2.2.2.1
  have hrN := hR.2.2.2.2.1
  have hZ1 : va_P D vwCl (([] ++ wH a1 (k 0) cs (sZ h1)) ++ []) s.heap := by rw [List.nil_append, List.append_nil]; exact hH.1.1
  have hrv := va_recv hK.1 hH.1.1 (ci := 3) (q0 := 0) rfl rfl
  refine lv_aload_n hx hb dX11_status_0 rfl (lv_at hl 0 rfl) ?_
  refine va_get (D := D) (ci := 9) (v := .int (zst F)) (C := RX11) (T := TX11) (N := 4) hx hb hts hX11 hown hK.1 hP 0 rfl rfl 3 (by decide) (hts (.fieldLink RX11 143 "PledgeHouse" "latestAnswer" "I") (by decide +kernel)) (fun _ h9 => h9) rfl dX11_status_1 ?_
  exact W.iret hx hb hr (fun t2 ht2 hW => ⟨rfl, ht2⟩) (fun q hq => by cases hq) dX11_status_4 hlocks
