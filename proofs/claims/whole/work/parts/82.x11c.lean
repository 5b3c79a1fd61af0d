/-! PledgeHouse's acts on places (by x11b.py) -/
set_option maxHeartbeats 4000000 in
set_option maxRecDepth 100000 in
theorem cC_X11_away (l : Launch) (D : va_G) (cs : Nat → ClassId) (o : Nat) (a1 a2 k r : Nat → Nat) (fz : Nat → Prop) (N : Nat) (F : mZ) (sz : Nat) (hN : N ≤ 511) (place : Int32) : Met l yX11_away wsX11_away ({ frames := 4, cells := 0, slots := 0, locals := 89 }) (cPcF [.ref o, .int place] D cs (wO o a1 a2 (zik F) (zst F)) (gT D cs o a1 a2 k r fz N F) sz) (cQF D (some (.int (sp_away F place).1)) (wO o a1 a2 (zik (sp_away F place).2) (zst (sp_away F place).2)) (gT D cs o a1 a2 k r fz (N + 1) (sp_away F place).2) (fun x => ¬ fz x)) 0 0 (fun x => ¬ fz x) := by
  refine c_inF (P := p1 o) (cc := cX11_away) (maxL := 2) (ret := (some .int)) (lv := [(0, .ref o), (1, .int place)]) (by decide) rfl (Nat.le_of_ble_eq_true rfl) rfl ?_
  intro p e s m below meth c ls S hr hlocks hin hsz hP hK hF hl hS0
  subst hsz
  obtain ⟨hx, hb, hml, hown, hts⟩ := id S
  have hX11 : ∀ w ∈ wsX110, w ∈ wsX11_away := by decide +kernel
  have hS : va_S (fun x => ¬ fz x) s.heap s.heap [] := va_S.rf
  obtain ⟨h1, h2, RW, cn1, rc1, d1, cn2, rc2, d2, hR, hI, hH, hfz⟩ := id hF
  have hcn := hR.1.1.2.2.2.2.2.1
  have hrN := hR.2.2.2.2.1
  have hZ1 : va_P D vwCl (([] ++ wH a1 (k 0) cs (sZ h1)) ++ []) s.heap := by rw [List.nil_append, List.append_nil]; exact hH.1.1
  have hrv := va_recv hK.1 hH.1.1 (ci := 3) (q0 := 0) rfl rfl
  refine lv_aload_n hx hb dX11_away_0 rfl (lv_at hl 0 rfl) ?_
  refine lv_aload_n hx hb dX11_away_1 rfl (lv_at hl 0 rfl) ?_
  refine va_get (D := D) (ci := 9) (v := .ref (a1 0)) (C := RX11) (T := TX11) (N := 4) hx hb hts hX11 hown hK.1 hP 0 rfl rfl 0 (by decide) (hts (.fieldLink RX11 15 "PledgeHouse" "now" "LPledgeHouse$House;") (by decide +kernel)) (fun _ h9 => h9) rfl dX11_away_2 ?_
  refine lv_iload_n hx hb dX11_away_5 rfl (lv_at hl 1 rfl) ?_
  obtain ⟨rc', hrc, hA⟩ := r_away hR.1 (by omega) place
  refine c_wG (G := fun H1 => va_P D vwCl (wO o a1 a2 (zik F) (zst F)) H1 ∧ gT D cs o a1 a2 k r fz (N + 1) (sp_away F place).2 H1) (va_runV S (cC_X3_takeAway l D cs k a1 (sZ h1) r RW _ hI.1.1 hI.1.2.2 (dj_HB hI) rc1 place hR.1.1.2.2.2.2.2.2.1 (by omega)) (cwV 1 hts gX11_away_X3_takeAway rfl rfl rfl (by decide +kernel) ⟨Nat.le_of_ble_eq_true rfl, Nat.le_of_ble_eq_true rfl⟩) (preV_c (As := [.int place]) hK (va_P.app (by rw [List.nil_append]; exact hH.1.1) hH.2.2) hrv) rfl rfl hl.1 rfl (lv_room (Nat.le_of_ble_eq_true rfl)) dX11_away_6 ⟨Nat.zero_le _, Nat.zero_le _⟩) hS (fun x h => ?_) (fun H1 hz hk hP1 => ?_) (fun H1 locs1 hG hS => ?_)
  · rcases h with (h | h) | h
    · exact nf_H hI h
    · exact nf_B hI h
    · exact fun z => absurd (hfz x z) (Nat.not_lt.mpr h)
  · exact gT_hb hP hR (by omega) hI hH hfz hrc hA kp_away hz (fun x hx n1 n3 => hk x hx (fun z => by
        rcases z with (z | z) | z
        · exact n1 z
        · exact n3 z
        · exact absurd hx (Nat.not_lt.mpr z))) (by have z := vaL hP1; rw [List.nil_append] at z; exact z) (vaR hP1)
  · exact x11_end S hK hr hlocks hG.1 hG.2 hA.1 hA.2.2.2 hA.2.2.1.2.2.2.2.2 hS (cwV 1 hts gX11_away_X11_answer rfl rfl rfl (by decide +kernel) ⟨Nat.le_of_ble_eq_true rfl, Nat.le_of_ble_eq_true rfl⟩) hl.1 dX11_away_9 dX11_away_12 ⟨Nat.zero_le _, Nat.zero_le _⟩
set_option maxHeartbeats 4000000 in
set_option maxRecDepth 100000 in
theorem cC_X11_box (l : Launch) (D : va_G) (cs : Nat → ClassId) (o : Nat) (a1 a2 k r : Nat → Nat) (fz : Nat → Prop) (N : Nat) (F : mZ) (sz : Nat) (hN : N ≤ 511) (place : Int32) : Met l yX11_box wsX11_box ({ frames := 2, cells := 0, slots := 0, locals := 41 }) (cPcF [.ref o, .int place] D cs (wO o a1 a2 (zik F) (zst F)) (gT D cs o a1 a2 k r fz N F) sz) (cQF D (some (.int (sp_box F place).1)) (wO o a1 a2 (zik (sp_box F place).2) (zst (sp_box F place).2)) (gT D cs o a1 a2 k r fz (N + 1) (sp_box F place).2) (fun x => ¬ fz x)) 0 0 (fun x => ¬ fz x) := by
  refine c_inF (P := p1 o) (cc := cX11_box) (maxL := 2) (ret := (some .int)) (lv := [(0, .ref o), (1, .int place)]) (by decide) rfl (Nat.le_of_ble_eq_true rfl) rfl ?_
  intro p e s m below meth c ls S hr hlocks hin hsz hP hK hF hl hS0
  subst hsz
  obtain ⟨hx, hb, hml, hown, hts⟩ := id S
  have hX11 : ∀ w ∈ wsX110, w ∈ wsX11_box := by decide +kernel
  have hS : va_S (fun x => ¬ fz x) s.heap s.heap [] := va_S.rf
  obtain ⟨h1, h2, RW, cn1, rc1, d1, cn2, rc2, d2, hR, hI, hH, hfz⟩ := id hF
  have hcn := hR.1.1.2.2.2.2.2.1
  have hrN := hR.2.2.2.2.1
  have hZ1 : va_P D vwCl (([] ++ wH a1 (k 0) cs (sZ h1)) ++ []) s.heap := by rw [List.nil_append, List.append_nil]; exact hH.1.1
  have hrv := va_recv hK.1 hH.1.1 (ci := 3) (q0 := 0) rfl rfl
  refine lv_aload_n hx hb dX11_box_0 rfl (lv_at hl 0 rfl) ?_
  refine lv_aload_n hx hb dX11_box_1 rfl (lv_at hl 0 rfl) ?_
  refine va_get (D := D) (ci := 9) (v := .ref (a1 0)) (C := RX11) (T := TX11) (N := 4) hx hb hts hX11 hown hK.1 hP 0 rfl rfl 0 (by decide) (hts (.fieldLink RX11 15 "PledgeHouse" "now" "LPledgeHouse$House;") (by decide +kernel)) (fun _ h9 => h9) rfl dX11_box_2 ?_
  refine lv_iload_n hx hb dX11_box_5 rfl (lv_at hl 1 rfl) ?_
  have hA := r_box hR.1 place
  refine c_wG (G := fun H1 => va_P D vwCl (wO o a1 a2 (zik F) (zst F)) H1 ∧ gT D cs o a1 a2 k r fz (N + 1) (sp_box F place).2 H1) (va_runV S (cC_X3_moveBox l D cs k a1 (sZ h1) _ hI.1.1 place) (cwV 1 hts gX11_box_X3_moveBox rfl rfl rfl (by decide +kernel) ⟨Nat.le_of_ble_eq_true rfl, Nat.le_of_ble_eq_true rfl⟩) (preV_c (As := [.int place]) hK hZ1 hrv) rfl rfl hl.1 rfl (lv_room (Nat.le_of_ble_eq_true rfl)) dX11_box_6 ⟨Nat.zero_le _, Nat.zero_le _⟩) hS (fun x h => ?_) (fun H1 hz hk hP1 => ?_) (fun H1 locs1 hG hS => ?_)
  · rcases h with h | h
    · exact nf_H hI h
    · exact fun z => absurd (hfz x z) (Nat.not_lt.mpr h)
  · have hk2 : ∀ x, x < s.heap.size → ¬ pH a1 x → H1[x]? = s.heap[x]? := fun x hx n1 => hk x hx (fun z => by
        rcases z with z | z
        · exact n1 z
        · exact absurd hx (Nat.not_lt.mpr z))
    exact gT_hb hP hR (by omega) hI hH hfz ⟨Nat.le_refl _, Nat.le_succ _⟩ hA (kp_box (rc := rc1)) hz (fun x hx n1 _ => hk2 x hx n1) (by have z := vaL hP1; rw [List.nil_append] at z; exact z) (keepW hH.2.2 wB_p (fun x hx b => hk2 x hx (fun z => dj_HB hI x z b)))
  · exact x11_end S hK hr hlocks hG.1 hG.2 hA.1 hA.2.2.2 hA.2.2.1.2.2.2.2.2 hS (cwV 1 hts gX11_box_X11_answer rfl rfl rfl (by decide +kernel) ⟨Nat.le_of_ble_eq_true rfl, Nat.le_of_ble_eq_true rfl⟩) hl.1 dX11_box_9 dX11_box_12 ⟨Nat.zero_le _, Nat.zero_le _⟩
set_option maxHeartbeats 4000000 in
set_option maxRecDepth 100000 in
theorem cC_X11_thing (l : Launch) (D : va_G) (cs : Nat → ClassId) (o : Nat) (a1 a2 k r : Nat → Nat) (fz : Nat → Prop) (N : Nat) (F : mZ) (sz : Nat) (hN : N ≤ 511) (place : Int32) (value : Int32) : Met l yX11_thing wsX11_thing ({ frames := 5, cells := 1, slots := 1, locals := 112 }) (cPcF [.ref o, .int place, .int value] D cs (wO o a1 a2 (zik F) (zst F)) (gT D cs o a1 a2 k r fz N F) sz) (cQF D (some (.int (sp_thing F place value).1)) (wO o a1 a2 (zik (sp_thing F place value).2) (zst (sp_thing F place value).2)) (gT D cs o a1 a2 k r fz (N + 1) (sp_thing F place value).2) (fun x => ¬ fz x)) 1 1 (fun x => ¬ fz x) := by
  refine c_inF (P := p1 o) (cc := cX11_thing) (maxL := 3) (ret := (some .int)) (lv := [(0, .ref o), (1, .int place), (2, .int value)]) (by decide) rfl (Nat.le_of_ble_eq_true rfl) rfl ?_
  intro p e s m below meth c ls S hr hlocks hin hsz hP hK hF hl hS0
  subst hsz
  obtain ⟨hx, hb, hml, hown, hts⟩ := id S
  have hX11 : ∀ w ∈ wsX110, w ∈ wsX11_thing := by decide +kernel
  have hS : va_S (fun x => ¬ fz x) s.heap s.heap [] := va_S.rf
  obtain ⟨h1, h2, RW, cn1, rc1, d1, cn2, rc2, d2, hR, hI, hH, hfz⟩ := id hF
  have hcn := hR.1.1.2.2.2.2.2.1
  have hrN := hR.2.2.2.2.1
  have hZ1 : va_P D vwCl (([] ++ wH a1 (k 0) cs (sZ h1)) ++ []) s.heap := by rw [List.nil_append, List.append_nil]; exact hH.1.1
  have hrv := va_recv hK.1 hH.1.1 (ci := 3) (q0 := 0) rfl rfl
  refine lv_aload_n hx hb dX11_thing_0 rfl (lv_at hl 0 rfl) ?_
  refine lv_aload_n hx hb dX11_thing_1 rfl (lv_at hl 0 rfl) ?_
  refine va_get (D := D) (ci := 9) (v := .ref (a1 0)) (C := RX11) (T := TX11) (N := 4) hx hb hts hX11 hown hK.1 hP 0 rfl rfl 0 (by decide) (hts (.fieldLink RX11 15 "PledgeHouse" "now" "LPledgeHouse$House;") (by decide +kernel)) (fun _ h9 => h9) rfl dX11_thing_2 ?_
  refine lv_iload_n hx hb dX11_thing_5 rfl (lv_at hl 1 rfl) ?_
  refine lv_iload_n hx hb dX11_thing_6 rfl (lv_at hl 2 rfl) ?_
  refine c_wNG (G := fun q H1 => (∀ i, i < 2 → s.heap.size ≤ q i) → va_P D vwCl (wO o a1 a2 (zik F) (zst F)) H1 ∧ gT D cs o a1 a2 k r fz (N + 1) (sp_thing F place value).2 H1) (va_runV S (cC_X3_bringThing l D cs k a1 (sZ h1) r RW _ hI.1.1 hI.1.2.2 (dj_HB hI) rc1 place value hR.1.1.2.2.2.2.2.2.1 (by omega)) (cwV 2 hts gX11_thing_X3_bringThing rfl rfl rfl (by decide +kernel) ⟨Nat.le_of_ble_eq_true rfl, Nat.le_of_ble_eq_true rfl⟩) (preV_c (As := [.int place, .int value]) hK (va_P.app (by rw [List.nil_append]; exact hH.1.1) hH.2.2) hrv) rfl rfl hl.1 rfl (lv_room (Nat.le_of_ble_eq_true rfl)) dX11_thing_7 ⟨Nat.le_of_ble_eq_true rfl, Nat.le_of_ble_eq_true rfl⟩) hS (fun x h => ?_) (fun q H1 hz hk hP1 hq => ?_) (fun q H1 locs1 hq _ hG hS => ?_)
  · rcases h with (h | h) | h
    · exact nf_H hI h
    · exact nf_B hI h
    · exact fun z => absurd (hfz x z) (Nat.not_lt.mpr h)
  · obtain ⟨rc', hrc, hA⟩ := r_thing hR.1 (by omega) q place value
    exact gT_np hP hR (by omega) hI hH hfz hq hrc hA np_thing hz (fun x hx n1 n3 => hk x hx (fun z => by
        rcases z with (z | z) | z
        · exact n1 z
        · exact n3 z
        · exact absurd hx (Nat.not_lt.mpr z))) (vaL (vaL hP1)) (vaR (vaL hP1)) (vaR hP1)
  · obtain ⟨rc', hrc, hA⟩ := r_thing hR.1 (by omega) q place value
    exact x11_end S hK hr hlocks (hG hq).1 (hG hq).2 hA.1 hA.2.2.2 hA.2.2.1.2.2.2.2.2 hS (cwV 1 hts gX11_thing_X11_answer rfl rfl rfl (by decide +kernel) ⟨Nat.le_of_ble_eq_true rfl, Nat.le_of_ble_eq_true rfl⟩) hl.1 dX11_thing_10 dX11_thing_13 ⟨Nat.le_of_ble_eq_true rfl, Nat.le_of_ble_eq_true rfl⟩
set_option maxHeartbeats 4000000 in
set_option maxRecDepth 100000 in
theorem cC_X11_coat (l : Launch) (D : va_G) (cs : Nat → ClassId) (o : Nat) (a1 a2 k r : Nat → Nat) (fz : Nat → Prop) (N : Nat) (F : mZ) (sz : Nat) (hN : N ≤ 511) (place : Int32) (value : Int32) (wear : Int32) : Met l yX11_coat wsX11_coat ({ frames := 5, cells := 1, slots := 3, locals := 113 }) (cPcF [.ref o, .int place, .int value, .int wear] D cs (wO o a1 a2 (zik F) (zst F)) (gT D cs o a1 a2 k r fz N F) sz) (cQF D (some (.int (sp_coat F place value wear).1)) (wO o a1 a2 (zik (sp_coat F place value wear).2) (zst (sp_coat F place value wear).2)) (gT D cs o a1 a2 k r fz (N + 1) (sp_coat F place value wear).2) (fun x => ¬ fz x)) 1 3 (fun x => ¬ fz x) := by
  refine c_inF (P := p1 o) (cc := cX11_coat) (maxL := 4) (ret := (some .int)) (lv := [(0, .ref o), (1, .int place), (2, .int value), (3, .int wear)]) (by decide) rfl (Nat.le_of_ble_eq_true rfl) rfl ?_
  intro p e s m below meth c ls S hr hlocks hin hsz hP hK hF hl hS0
  subst hsz
  obtain ⟨hx, hb, hml, hown, hts⟩ := id S
  have hX11 : ∀ w ∈ wsX110, w ∈ wsX11_coat := by decide +kernel
  have hS : va_S (fun x => ¬ fz x) s.heap s.heap [] := va_S.rf
  obtain ⟨h1, h2, RW, cn1, rc1, d1, cn2, rc2, d2, hR, hI, hH, hfz⟩ := id hF
  have hcn := hR.1.1.2.2.2.2.2.1
  have hrN := hR.2.2.2.2.1
  have hZ1 : va_P D vwCl (([] ++ wH a1 (k 0) cs (sZ h1)) ++ []) s.heap := by rw [List.nil_append, List.append_nil]; exact hH.1.1
  have hrv := va_recv hK.1 hH.1.1 (ci := 3) (q0 := 0) rfl rfl
  refine lv_aload_n hx hb dX11_coat_0 rfl (lv_at hl 0 rfl) ?_
  refine lv_aload_n hx hb dX11_coat_1 rfl (lv_at hl 0 rfl) ?_
  refine va_get (D := D) (ci := 9) (v := .ref (a1 0)) (C := RX11) (T := TX11) (N := 4) hx hb hts hX11 hown hK.1 hP 0 rfl rfl 0 (by decide) (hts (.fieldLink RX11 15 "PledgeHouse" "now" "LPledgeHouse$House;") (by decide +kernel)) (fun _ h9 => h9) rfl dX11_coat_2 ?_
  refine lv_iload_n hx hb dX11_coat_5 rfl (lv_at hl 1 rfl) ?_
  refine lv_iload_n hx hb dX11_coat_6 rfl (lv_at hl 2 rfl) ?_
  refine lv_iload_n hx hb dX11_coat_7 rfl (lv_at hl 3 rfl) ?_
  refine c_wNG (G := fun q H1 => (∀ i, i < 2 → s.heap.size ≤ q i) → va_P D vwCl (wO o a1 a2 (zik F) (zst F)) H1 ∧ gT D cs o a1 a2 k r fz (N + 1) (sp_coat F place value wear).2 H1) (va_runV S (cC_X3_bringCoat l D cs k a1 (sZ h1) r RW _ hI.1.1 hI.1.2.2 (dj_HB hI) rc1 place value wear hR.1.1.2.2.2.2.2.2.1 (by omega)) (cwV 3 hts gX11_coat_X3_bringCoat rfl rfl rfl (by decide +kernel) ⟨Nat.le_of_ble_eq_true rfl, Nat.le_of_ble_eq_true rfl⟩) (preV_c (As := [.int place, .int value, .int wear]) hK (va_P.app (by rw [List.nil_append]; exact hH.1.1) hH.2.2) hrv) rfl rfl hl.1 rfl (lv_room (Nat.le_of_ble_eq_true rfl)) dX11_coat_8 ⟨Nat.le_of_ble_eq_true rfl, Nat.le_of_ble_eq_true rfl⟩) hS (fun x h => ?_) (fun q H1 hz hk hP1 hq => ?_) (fun q H1 locs1 hq _ hG hS => ?_)
  · rcases h with (h | h) | h
    · exact nf_H hI h
    · exact nf_B hI h
    · exact fun z => absurd (hfz x z) (Nat.not_lt.mpr h)
  · obtain ⟨rc', hrc, hA⟩ := r_coat hR.1 (by omega) q place value wear
    exact gT_np hP hR (by omega) hI hH hfz hq hrc hA np_coat hz (fun x hx n1 n3 => hk x hx (fun z => by
        rcases z with (z | z) | z
        · exact n1 z
        · exact n3 z
        · exact absurd hx (Nat.not_lt.mpr z))) (vaL (vaL hP1)) (vaR (vaL hP1)) (vaR hP1)
  · obtain ⟨rc', hrc, hA⟩ := r_coat hR.1 (by omega) q place value wear
    exact x11_end S hK hr hlocks (hG hq).1 (hG hq).2 hA.1 hA.2.2.2 hA.2.2.1.2.2.2.2.2 hS (cwV 1 hts gX11_coat_X11_answer rfl rfl rfl (by decide +kernel) ⟨Nat.le_of_ble_eq_true rfl, Nat.le_of_ble_eq_true rfl⟩) hl.1 dX11_coat_11 dX11_coat_14 ⟨Nat.le_of_ble_eq_true rfl, Nat.le_of_ble_eq_true rfl⟩
set_option maxHeartbeats 4000000 in
set_option maxRecDepth 100000 in
theorem cC_X11_gold (l : Launch) (D : va_G) (cs : Nat → ClassId) (o : Nat) (a1 a2 k r : Nat → Nat) (fz : Nat → Prop) (N : Nat) (F : mZ) (sz : Nat) (hN : N ≤ 511) (place : Int32) (weight : UInt32) (fine : Int32) (hW : ¬ sc_X10_isWeight weight = 0 → WSM weight) : Met l yX11_gold wsX11_gold ({ frames := 5, cells := 1, slots := 3, locals := 114 }) (cPcF [.ref o, .int place, .float weight, .int fine] D cs (wO o a1 a2 (zik F) (zst F)) (gT D cs o a1 a2 k r fz N F) sz) (cQF D (some (.int (sp_gold F place weight fine).1)) (wO o a1 a2 (zik (sp_gold F place weight fine).2) (zst (sp_gold F place weight fine).2)) (gT D cs o a1 a2 k r fz (N + 1) (sp_gold F place weight fine).2) (fun x => ¬ fz x)) 1 3 (fun x => ¬ fz x) := by
  refine c_inF (P := p1 o) (cc := cX11_gold) (maxL := 4) (ret := (some .int)) (lv := [(0, .ref o), (1, .int place), (2, .float weight), (3, .int fine)]) (by decide) rfl (Nat.le_of_ble_eq_true rfl) rfl ?_
  intro p e s m below meth c ls S hr hlocks hin hsz hP hK hF hl hS0
  subst hsz
  obtain ⟨hx, hb, hml, hown, hts⟩ := id S
  have hX11 : ∀ w ∈ wsX110, w ∈ wsX11_gold := by decide +kernel
  have hS : va_S (fun x => ¬ fz x) s.heap s.heap [] := va_S.rf
  obtain ⟨h1, h2, RW, cn1, rc1, d1, cn2, rc2, d2, hR, hI, hH, hfz⟩ := id hF
  have hcn := hR.1.1.2.2.2.2.2.1
  have hrN := hR.2.2.2.2.1
  have hZ1 : va_P D vwCl (([] ++ wH a1 (k 0) cs (sZ h1)) ++ []) s.heap := by rw [List.nil_append, List.append_nil]; exact hH.1.1
  have hrv := va_recv hK.1 hH.1.1 (ci := 3) (q0 := 0) rfl rfl
  refine lv_aload_n hx hb dX11_gold_0 rfl (lv_at hl 0 rfl) ?_
  refine lv_aload_n hx hb dX11_gold_1 rfl (lv_at hl 0 rfl) ?_
  refine va_get (D := D) (ci := 9) (v := .ref (a1 0)) (C := RX11) (T := TX11) (N := 4) hx hb hts hX11 hown hK.1 hP 0 rfl rfl 0 (by decide) (hts (.fieldLink RX11 15 "PledgeHouse" "now" "LPledgeHouse$House;") (by decide +kernel)) (fun _ h9 => h9) rfl dX11_gold_2 ?_
  refine lv_iload_n hx hb dX11_gold_5 rfl (lv_at hl 1 rfl) ?_
  refine lv_fload_n hx hb dX11_gold_6 rfl (lv_at hl 2 rfl) ?_
  refine lv_iload_n hx hb dX11_gold_7 rfl (lv_at hl 3 rfl) ?_
  refine c_wNG (G := fun q H1 => (∀ i, i < 2 → s.heap.size ≤ q i) → va_P D vwCl (wO o a1 a2 (zik F) (zst F)) H1 ∧ gT D cs o a1 a2 k r fz (N + 1) (sp_gold F place weight fine).2 H1) (va_runV S (cC_X3_bringGold l D cs k a1 (sZ h1) r RW _ hI.1.1 hI.1.2.2 (dj_HB hI) rc1 place weight fine hR.1.1.2.2.2.2.2.2.1 (by omega) (fun h => (hW h).1)) (cwV 3 hts gX11_gold_X3_bringGold rfl rfl rfl (by decide +kernel) ⟨Nat.le_of_ble_eq_true rfl, Nat.le_of_ble_eq_true rfl⟩) (preV_c (As := [.int place, .float weight, .int fine]) hK (va_P.app (by rw [List.nil_append]; exact hH.1.1) hH.2.2) hrv) rfl rfl hl.1 rfl (lv_room (Nat.le_of_ble_eq_true rfl)) dX11_gold_8 ⟨Nat.le_of_ble_eq_true rfl, Nat.le_of_ble_eq_true rfl⟩) hS (fun x h => ?_) (fun q H1 hz hk hP1 hq => ?_) (fun q H1 locs1 hq _ hG hS => ?_)
  · rcases h with (h | h) | h
    · exact nf_H hI h
    · exact nf_B hI h
    · exact fun z => absurd (hfz x z) (Nat.not_lt.mpr h)
  · obtain ⟨rc', hrc, hA⟩ := r_gold hR.1 (by omega) q place weight fine hW
    exact gT_np hP hR (by omega) hI hH hfz hq hrc hA np_gold hz (fun x hx n1 n3 => hk x hx (fun z => by
        rcases z with (z | z) | z
        · exact n1 z
        · exact n3 z
        · exact absurd hx (Nat.not_lt.mpr z))) (vaL (vaL hP1)) (vaR (vaL hP1)) (vaR hP1)
  · obtain ⟨rc', hrc, hA⟩ := r_gold hR.1 (by omega) q place weight fine hW
    exact x11_end S hK hr hlocks (hG hq).1 (hG hq).2 hA.1 hA.2.2.2 hA.2.2.1.2.2.2.2.2 hS (cwV 1 hts gX11_gold_X11_answer rfl rfl rfl (by decide +kernel) ⟨Nat.le_of_ble_eq_true rfl, Nat.le_of_ble_eq_true rfl⟩) hl.1 dX11_gold_11 dX11_gold_14 ⟨Nat.le_of_ble_eq_true rfl, Nat.le_of_ble_eq_true rfl⟩
set_option maxHeartbeats 4000000 in
set_option maxRecDepth 100000 in
theorem cC_X11_rare (l : Launch) (D : va_G) (cs : Nat → ClassId) (o : Nat) (a1 a2 k r : Nat → Nat) (fz : Nat → Prop) (N : Nat) (F : mZ) (sz : Nat) (hN : N ≤ 511) (place : Int32) (weight : UInt32) (hW : ¬ sc_X10_isWeight weight = 0 → WSM weight) : Met l yX11_rare wsX11_rare ({ frames := 5, cells := 1, slots := 6, locals := 113 }) (cPcF [.ref o, .int place, .float weight] D cs (wO o a1 a2 (zik F) (zst F)) (gT D cs o a1 a2 k r fz N F) sz) (cQF D (some (.int (sp_rare F place weight).1)) (wO o a1 a2 (zik (sp_rare F place weight).2) (zst (sp_rare F place weight).2)) (gT D cs o a1 a2 k r fz (N + 1) (sp_rare F place weight).2) (fun x => ¬ fz x)) 1 6 (fun x => ¬ fz x) := by
  refine c_inF (P := p1 o) (cc := cX11_rare) (maxL := 3) (ret := (some .int)) (lv := [(0, .ref o), (1, .int place), (2, .float weight)]) (by decide) rfl (Nat.le_of_ble_eq_true rfl) rfl ?_
  intro p e s m below meth c ls S hr hlocks hin hsz hP hK hF hl hS0
  subst hsz
  obtain ⟨hx, hb, hml, hown, hts⟩ := id S
  have hX11 : ∀ w ∈ wsX110, w ∈ wsX11_rare := by decide +kernel
  have hS : va_S (fun x => ¬ fz x) s.heap s.heap [] := va_S.rf
  obtain ⟨h1, h2, RW, cn1, rc1, d1, cn2, rc2, d2, hR, hI, hH, hfz⟩ := id hF
  have hcn := hR.1.1.2.2.2.2.2.1
  have hrN := hR.2.2.2.2.1
  have hZ1 : va_P D vwCl (([] ++ wH a1 (k 0) cs (sZ h1)) ++ []) s.heap := by rw [List.nil_append, List.append_nil]; exact hH.1.1
  have hrv := va_recv hK.1 hH.1.1 (ci := 3) (q0 := 0) rfl rfl
  refine lv_aload_n hx hb dX11_rare_0 rfl (lv_at hl 0 rfl) ?_
  refine lv_aload_n hx hb dX11_rare_1 rfl (lv_at hl 0 rfl) ?_
  refine va_get (D := D) (ci := 9) (v := .ref (a1 0)) (C := RX11) (T := TX11) (N := 4) hx hb hts hX11 hown hK.1 hP 0 rfl rfl 0 (by decide) (hts (.fieldLink RX11 15 "PledgeHouse" "now" "LPledgeHouse$House;") (by decide +kernel)) (fun _ h9 => h9) rfl dX11_rare_2 ?_
  refine lv_iload_n hx hb dX11_rare_5 rfl (lv_at hl 1 rfl) ?_
  refine lv_fload_n hx hb dX11_rare_6 rfl (lv_at hl 2 rfl) ?_
  refine c_wNG (G := fun q H1 => (∀ i, i < 2 → s.heap.size ≤ q i) → va_P D vwCl (wO o a1 a2 (zik F) (zst F)) H1 ∧ gT D cs o a1 a2 k r fz (N + 1) (sp_rare F place weight).2 H1) (va_runV S (cC_X3_bringRare l D cs k a1 (sZ h1) r RW _ hI.1.1 hI.1.2.2 (dj_HB hI) rc1 place weight hR.1.1.2.2.2.2.2.2.1 (by omega) (fun h => (hW h).1)) (cwV 2 hts gX11_rare_X3_bringRare rfl rfl rfl (by decide +kernel) ⟨Nat.le_of_ble_eq_true rfl, Nat.le_of_ble_eq_true rfl⟩) (preV_c (As := [.int place, .float weight]) hK (va_P.app (by rw [List.nil_append]; exact hH.1.1) hH.2.2) hrv) rfl rfl hl.1 rfl (lv_room (Nat.le_of_ble_eq_true rfl)) dX11_rare_7 ⟨Nat.le_of_ble_eq_true rfl, Nat.le_of_ble_eq_true rfl⟩) hS (fun x h => ?_) (fun q H1 hz hk hP1 hq => ?_) (fun q H1 locs1 hq _ hG hS => ?_)
  · rcases h with (h | h) | h
    · exact nf_H hI h
    · exact nf_B hI h
    · exact fun z => absurd (hfz x z) (Nat.not_lt.mpr h)
  · obtain ⟨rc', hrc, hA⟩ := r_rare hR.1 (by omega) q place weight hW
    exact gT_np hP hR (by omega) hI hH hfz hq hrc hA np_rare hz (fun x hx n1 n3 => hk x hx (fun z => by
        rcases z with (z | z) | z
        · exact n1 z
        · exact n3 z
        · exact absurd hx (Nat.not_lt.mpr z))) (vaL (vaL hP1)) (vaR (vaL hP1)) (vaR hP1)
  · obtain ⟨rc', hrc, hA⟩ := r_rare hR.1 (by omega) q place weight hW
    exact x11_end S hK hr hlocks (hG hq).1 (hG hq).2 hA.1 hA.2.2.2 hA.2.2.1.2.2.2.2.2 hS (cwV 1 hts gX11_rare_X11_answer rfl rfl rfl (by decide +kernel) ⟨Nat.le_of_ble_eq_true rfl, Nat.le_of_ble_eq_true rfl⟩) hl.1 dX11_rare_10 dX11_rare_13 ⟨Nat.le_of_ble_eq_true rfl, Nat.le_of_ble_eq_true rfl⟩
set_option maxHeartbeats 4000000 in
set_option maxRecDepth 100000 in
theorem cC_X11_second (l : Launch) (D : va_G) (cs : Nat → ClassId) (o : Nat) (a1 a2 k r : Nat → Nat) (fz : Nat → Prop) (N : Nat) (F : mZ) (sz : Nat) (hN : N ≤ 511) (place : Int32) (value : Int32) : Met l yX11_second wsX11_second ({ frames := 6, cells := 1, slots := 6, locals := 131 }) (cPcF [.ref o, .int place, .int value] D cs (wO o a1 a2 (zik F) (zst F)) (gT D cs o a1 a2 k r fz N F) sz) (cQF D (some (.int (sp_second F place value).1)) (wO o a1 a2 (zik (sp_second F place value).2) (zst (sp_second F place value).2)) (gT D cs o a1 a2 k r fz (N + 1) (sp_second F place value).2) (fun x => ¬ fz x)) 1 6 (fun x => ¬ fz x) := by
  refine c_inF (P := p1 o) (cc := cX11_second) (maxL := 3) (ret := (some .int)) (lv := [(0, .ref o), (1, .int place), (2, .int value)]) (by decide) rfl (Nat.le_of_ble_eq_true rfl) rfl ?_
  intro p e s m below meth c ls S hr hlocks hin hsz hP hK hF hl hS0
  subst hsz
  obtain ⟨hx, hb, hml, hown, hts⟩ := id S
  have hX11 : ∀ w ∈ wsX110, w ∈ wsX11_second := by decide +kernel
  have hS : va_S (fun x => ¬ fz x) s.heap s.heap [] := va_S.rf
  obtain ⟨h1, h2, RW, cn1, rc1, d1, cn2, rc2, d2, hR, hI, hH, hfz⟩ := id hF
  have hcn := hR.1.1.2.2.2.2.2.1
  have hrN := hR.2.2.2.2.1
  have hZ1 : va_P D vwCl (([] ++ wH a1 (k 0) cs (sZ h1)) ++ []) s.heap := by rw [List.nil_append, List.append_nil]; exact hH.1.1
  have hrv := va_recv hK.1 hH.1.1 (ci := 3) (q0 := 0) rfl rfl
  refine lv_aload_n hx hb dX11_second_0 rfl (lv_at hl 0 rfl) ?_
  refine lv_aload_n hx hb dX11_second_1 rfl (lv_at hl 0 rfl) ?_
  refine va_get (D := D) (ci := 9) (v := .ref (a1 0)) (C := RX11) (T := TX11) (N := 4) hx hb hts hX11 hown hK.1 hP 0 rfl rfl 0 (by decide) (hts (.fieldLink RX11 15 "PledgeHouse" "now" "LPledgeHouse$House;") (by decide +kernel)) (fun _ h9 => h9) rfl dX11_second_2 ?_
  refine lv_iload_n hx hb dX11_second_5 rfl (lv_at hl 1 rfl) ?_
  refine lv_iload_n hx hb dX11_second_6 rfl (lv_at hl 2 rfl) ?_
  cases e : gp (sZ h1) (tN place) with
  | none =>
    refine c_rd S hK hZ1 hrv (As := [.int place, .int value]) (rest := [.ref o]) (cC_X3_tellValue_n l D cs k a1 (sZ h1) _ place value e) (cwV 2 hts gX11_second_X3_tellValue rfl rfl rfl (by decide +kernel) ⟨Nat.le_of_ble_eq_true rfl, Nat.le_of_ble_eq_true rfl⟩) rfl hl.1 rfl (Nat.le_of_ble_eq_true rfl) dX11_second_7 ⟨Nat.zero_le _, Nat.zero_le _⟩ ?_
    have hA := r_second_n hR.1 place value e
    refine W.widen (k := 1) (n := 6) (Nat.le_of_ble_eq_true rfl) (Nat.le_of_ble_eq_true rfl) ?_
    exact x11_end S hK hr hlocks hP (gT_no hP hR (by omega) hI hH hfz hA) hA.1 hA.2.2.2 hA.2.2.1.2.2.2.2.2 hS (cwV 1 hts gX11_second_X11_answer rfl rfl rfl (by decide +kernel) ⟨Nat.le_of_ble_eq_true rfl, Nat.le_of_ble_eq_true rfl⟩) hl.1 dX11_second_10 dX11_second_13 ⟨Nat.le_of_ble_eq_true rfl, Nat.le_of_ble_eq_true rfl⟩
  | some x0 =>
    obtain ⟨hp4, hpq, hPP⟩ := pl_at hR hH e
    have hs : gp (sZ h1) (tN place) ≠ none := by rw [e]; simp
    refine c_wNG (G := fun q H1 => (∀ i, i < 2 → s.heap.size ≤ q i) → va_P D vwCl (wO o a1 a2 (zik F) (zst F)) H1 ∧ gT D cs o a1 a2 k r fz (N + 1) (sp_second F place value).2 H1) (va_runV S (cC_X3_tellValue l D cs (sq h1 (tN place)) (sl h1 (tN place)) k a1 (sZ h1) _ hI.1.1 place value hpq (pl_wk hR hp4 hs).1) (cwV 2 hts gX11_second_X3_tellValue rfl rfl rfl (by decide +kernel) ⟨Nat.le_of_ble_eq_true rfl, Nat.le_of_ble_eq_true rfl⟩) (preV_x (As := [.int place, .int value]) hK hZ1 hPP hrv) rfl rfl hl.1 rfl (lv_room (Nat.le_of_ble_eq_true rfl)) dX11_second_7 ⟨Nat.le_of_ble_eq_true rfl, Nat.le_of_ble_eq_true rfl⟩) hS (fun x h => ?_) (fun q H1 hz hk hP1 hq => ?_) (fun q H1 locs1 hq _ hG hS => ?_)
    · rcases h with h | h
      · exact nf_H hI h
      · exact fun z => absurd (hfz x z) (Nat.not_lt.mpr h)
    · have hk2 : ∀ x, x < s.heap.size → ¬ pH a1 x → H1[x]? = s.heap[x]? := fun x hx n1 => hk x hx (fun z => by
        rcases z with z | z
        · exact n1 z
        · exact absurd hx (Nat.not_lt.mpr z))
      have hA := r_second hR.1 (sq h1 (tN place)) q place value hs
      exact gT_np hP hR (by omega) hI hH hfz hq ⟨Nat.le_refl _, Nat.le_succ _⟩ hA (np_second (rc := rc1)) hz (fun x hx n1 _ => hk2 x hx n1) (vaL (vaL hP1)) (vaR (vaL hP1)) (keepW hH.2.2 wB_p (fun x hx b => hk2 x hx (fun z => dj_HB hI x z b)))
    · have hA := r_second hR.1 (sq h1 (tN place)) q place value hs
      exact x11_end S hK hr hlocks (hG hq).1 (hG hq).2 hA.1 hA.2.2.2 hA.2.2.1.2.2.2.2.2 hS (cwV 1 hts gX11_second_X11_answer rfl rfl rfl (by decide +kernel) ⟨Nat.le_of_ble_eq_true rfl, Nat.le_of_ble_eq_true rfl⟩) hl.1 dX11_second_10 dX11_second_13 ⟨Nat.le_of_ble_eq_true rfl, Nat.le_of_ble_eq_true rfl⟩
set_option maxHeartbeats 4000000 in
set_option maxRecDepth 100000 in
theorem cC_X11_item (l : Launch) (D : va_G) (cs : Nat → ClassId) (o : Nat) (a1 a2 k r : Nat → Nat) (fz : Nat → Prop) (N : Nat) (F : mZ) (sz : Nat) (hN : N ≤ 511) (place : Int32) (value : Int32) : Met l yX11_item wsX11_item ({ frames := 6, cells := 4, slots := 16, locals := 136 }) (cPcF [.ref o, .int place, .int value] D cs (wO o a1 a2 (zik F) (zst F)) (gT D cs o a1 a2 k r fz N F) sz) (cQF D (some (.int (sp_item F place value).1)) (wO o a1 a2 (zik (sp_item F place value).2) (zst (sp_item F place value).2)) (gT D cs o a1 a2 k r fz (N + 1) (sp_item F place value).2) (fun x => ¬ fz x)) 4 16 (fun x => ¬ fz x) := by
  refine c_inF (P := p1 o) (cc := cX11_item) (maxL := 3) (ret := (some .int)) (lv := [(0, .ref o), (1, .int place), (2, .int value)]) (by decide) rfl (Nat.le_of_ble_eq_true rfl) rfl ?_
  intro p e s m below meth c ls S hr hlocks hin hsz hP hK hF hl hS0
  subst hsz
  obtain ⟨hx, hb, hml, hown, hts⟩ := id S
  have hX11 : ∀ w ∈ wsX110, w ∈ wsX11_item := by decide +kernel
  have hS : va_S (fun x => ¬ fz x) s.heap s.heap [] := va_S.rf
  obtain ⟨h1, h2, RW, cn1, rc1, d1, cn2, rc2, d2, hR, hI, hH, hfz⟩ := id hF
  have hcn := hR.1.1.2.2.2.2.2.1
  have hrN := hR.2.2.2.2.1
  have hZ1 : va_P D vwCl (([] ++ wH a1 (k 0) cs (sZ h1)) ++ []) s.heap := by rw [List.nil_append, List.append_nil]; exact hH.1.1
  have hrv := va_recv hK.1 hH.1.1 (ci := 3) (q0 := 0) rfl rfl
  refine lv_aload_n hx hb dX11_item_0 rfl (lv_at hl 0 rfl) ?_
  refine lv_aload_n hx hb dX11_item_1 rfl (lv_at hl 0 rfl) ?_
  refine va_get (D := D) (ci := 9) (v := .ref (a1 0)) (C := RX11) (T := TX11) (N := 4) hx hb hts hX11 hown hK.1 hP 0 rfl rfl 0 (by decide) (hts (.fieldLink RX11 15 "PledgeHouse" "now" "LPledgeHouse$House;") (by decide +kernel)) (fun _ h9 => h9) rfl dX11_item_2 ?_
  refine lv_iload_n hx hb dX11_item_5 rfl (lv_at hl 1 rfl) ?_
  refine lv_iload_n hx hb dX11_item_6 rfl (lv_at hl 2 rfl) ?_
  cases e : gp (sZ h1) (tN place) with
  | none =>
    refine c_wNG (G := fun q H1 => (∀ i, i < 2 → s.heap.size ≤ q i) → va_P D vwCl (wO o a1 a2 (zik F) (zst F)) H1 ∧ gT D cs o a1 a2 k r fz (N + 1) (sp_item F place value).2 H1) (va_runV S (cC_X3_bringItem_n l D cs k a1 (sZ h1) r RW _ hI.1.1 hI.1.2.2 (dj_HB hI) rc1 place value hR.1.1.2.2.2.2.2.2.1 (by omega) e) (cwV 2 hts gX11_item_X3_bringItem rfl rfl rfl (by decide +kernel) ⟨Nat.le_of_ble_eq_true rfl, Nat.le_of_ble_eq_true rfl⟩) (preV_c (As := [.int place, .int value]) hK (va_P.app (by rw [List.nil_append]; exact hH.1.1) hH.2.2) hrv) rfl rfl hl.1 rfl (lv_room (Nat.le_of_ble_eq_true rfl)) dX11_item_7 ⟨Nat.le_of_ble_eq_true rfl, Nat.le_of_ble_eq_true rfl⟩) hS (fun x h => ?_) (fun q H1 hz hk hP1 hq => ?_) (fun q H1 locs1 hq _ hG hS => ?_)
    · rcases h with (h | h) | h
      · exact nf_H hI h
      · exact nf_B hI h
      · exact fun z => absurd (hfz x z) (Nat.not_lt.mpr h)
    · obtain ⟨rc', hrc, hA⟩ := r_item_n hR.1 (by omega) q place value e
      exact gT_np hP hR (by omega) hI hH hfz hq hrc hA np_item_n hz (fun x hx n1 n3 => hk x hx (fun z => by
        rcases z with (z | z) | z
        · exact n1 z
        · exact n3 z
        · exact absurd hx (Nat.not_lt.mpr z))) (vaL (vaL hP1)) (vaR (vaL hP1)) (vaR hP1)
    · obtain ⟨rc', hrc, hA⟩ := r_item_n hR.1 (by omega) q place value e
      exact x11_end S hK hr hlocks (hG hq).1 (hG hq).2 hA.1 hA.2.2.2 hA.2.2.1.2.2.2.2.2 hS (cwV 1 hts gX11_item_X11_answer rfl rfl rfl (by decide +kernel) ⟨Nat.le_of_ble_eq_true rfl, Nat.le_of_ble_eq_true rfl⟩) hl.1 dX11_item_10 dX11_item_13 ⟨Nat.le_of_ble_eq_true rfl, Nat.le_of_ble_eq_true rfl⟩
  | some x0 =>
    obtain ⟨hp4, hpq, hPP⟩ := pl_at hR hH e
    have hs : gp (sZ h1) (tN place) ≠ none := by rw [e]; simp
    refine c_wNG (G := fun q H1 => (∀ i, i < 2 → s.heap.size ≤ q i) → va_P D vwCl (wO o a1 a2 (zik F) (zst F)) H1 ∧ gT D cs o a1 a2 k r fz (N + 1) (sp_item F place value).2 H1) (va_runV S (cC_X3_bringItem l D cs (sq h1 (tN place)) (sl h1 (tN place)) k a1 (sZ h1) r RW _ hI.1.1 hI.1.2.2 (dj_HB hI) rc1 place value hR.1.1.2.2.2.2.2.2.1 (by omega) hpq (pl_wk hR hp4 hs).2) (cwV 2 hts gX11_item_X3_bringItem rfl rfl rfl (by decide +kernel) ⟨Nat.le_of_ble_eq_true rfl, Nat.le_of_ble_eq_true rfl⟩) (preV_x (As := [.int place, .int value]) hK (va_P.app (by rw [List.nil_append]; exact hH.1.1) hH.2.2) hPP hrv) rfl rfl hl.1 rfl (lv_room (Nat.le_of_ble_eq_true rfl)) dX11_item_7 ⟨Nat.le_of_ble_eq_true rfl, Nat.le_of_ble_eq_true rfl⟩) hS (fun x h => ?_) (fun q H1 hz hk hP1 hq => ?_) (fun q H1 locs1 hq _ hG hS => ?_)
    · rcases h with (h | h) | h
      · exact nf_H hI h
      · exact nf_B hI h
      · exact fun z => absurd (hfz x z) (Nat.not_lt.mpr h)
    · have hA := r_item hR.1 (sq h1 (tN place)) q place value hs
      exact gT_np hP hR (by omega) hI hH hfz hq ⟨Nat.le_refl _, Nat.le_succ _⟩ hA np_item hz (fun x hx n1 n3 => hk x hx (fun z => by
        rcases z with (z | z) | z
        · exact n1 z
        · exact n3 z
        · exact absurd hx (Nat.not_lt.mpr z))) (vaL (vaL hP1)) (vaR (vaL hP1)) (vaR hP1)
    · have hA := r_item hR.1 (sq h1 (tN place)) q place value hs
      exact x11_end S hK hr hlocks (hG hq).1 (hG hq).2 hA.1 hA.2.2.2 hA.2.2.1.2.2.2.2.2 hS (cwV 1 hts gX11_item_X11_answer rfl rfl rfl (by decide +kernel) ⟨Nat.le_of_ble_eq_true rfl, Nat.le_of_ble_eq_true rfl⟩) hl.1 dX11_item_10 dX11_item_13 ⟨Nat.le_of_ble_eq_true rfl, Nat.le_of_ble_eq_true rfl⟩
