/-! going back, with its room said by what is kept -/
def kb (F : mZ) : Nat := if zik F = 0 then 0 else tN (zyh F 1)
theorem kb_le {F : mZ} {N : Nat} (h : zik F = 0 ∨ tN (zyh F 1) ≤ N) : kb F ≤ N := by
  unfold kb
  by_cases c : zik F = 0
  · rw [if_pos c]; exact Nat.zero_le _
  · rw [if_neg c]; exact h.elim (fun z => absurd z c) id
set_option maxHeartbeats 4000000 in
set_option maxRecDepth 100000 in
theorem cC_X11_backK (l : Launch) (D : va_G) (cs : Nat → ClassId) (o : Nat) (a1 a2 k r : Nat → Nat) (fz : Nat → Prop) (N : Nat) (F : mZ) (sz : Nat) (hN : N ≤ 511) : Met l yX11_back wsX11_back ({ frames := 5, cells := (3 * kb F), slots := (31 * kb F), locals := 104 }) (cPcF [.ref o] D cs (wO o a1 a2 (zik F) (zst F)) (gT D cs o a1 a2 k r fz N F) sz) (cQF D (some (.int (sp_back F).1)) (wO o a1 a2 (zik (sp_back F).2) (zst (sp_back F).2)) (gT D cs o a1 a2 k r fz (N + 1) (sp_back F).2) (fun x => ¬ fz x)) (3 * kb F) (31 * kb F) (fun x => ¬ fz x) := by
  refine c_inF (P := p1 o) (cc := cX11_back) (maxL := 1) (ret := (some .int)) (lv := [(0, .ref o)]) (by decide) rfl (Nat.le_of_ble_eq_true rfl) rfl ?_
  intro p e s m below meth c ls S hr hlocks hin hsz hP hK hF hl hS0
  subst hsz
  obtain ⟨hx, hb, hml, hown, hts⟩ := id S
  have hX11 : ∀ w ∈ wsX110, w ∈ wsX11_back := by decide +kernel
  have hS : va_S (fun x => ¬ fz x) s.heap s.heap [] := va_S.rf
  obtain ⟨h1, h2, RW, cn1, rc1, d1, cn2, rc2, d2, hR, hI, hH, hfz⟩ := id hF
  have hcn := hR.1.1.2.2.2.2.2.1
  have hrN := hR.2.2.2.2.1
  have hZ1 : va_P D vwCl (([] ++ wH a1 (k 0) cs (sZ h1)) ++ []) s.heap := by rw [List.nil_append, List.append_nil]; exact hH.1.1
  have hrv := va_recv hK.1 hH.1.1 (ci := 3) (q0 := 0) rfl rfl
  refine lv_aload_n hx hb dX11_back_0 rfl (lv_at hl 0 rfl) ?_
  refine va_get (D := D) (ci := 9) (v := .int (zik F)) (C := RX11) (T := TX11) (N := 4) hx hb hts hX11 hown hK.1 hP 0 rfl rfl 2 (by decide) (hts (.fieldLink RX11 118 "PledgeHouse" "anythingKept" "Z") (by decide +kernel)) (fun _ h9 => h9) rfl dX11_back_1 ?_
  refine lv_if_ne (tgt := 14) hx hb dX11_back_4 (by decide) (fun c_1 => ?_) (fun c_1 => ?_)
  · rcases hR.2.1 with z | ⟨hk1, hHK, hO2, hrc, hdd, hcN⟩
    · exact absurd z c_1
    have hcn2 := hHK.1.2.2.2.2.2.1
    have ecn : kb F = cn2 := by
      have z : zyh F 1 = nI cn2 := hHK.1.2.2.2.2.1
      unfold kb
      rw [if_neg c_1, z]; exact tN_n (by omega)
    rw [ecn]
    have hbb := HR_b hHK
    refine lv_aload_n hx hb dX11_back_14 rfl (lv_at hl 0 rfl) ?_
    refine va_get (D := D) (ci := 9) (v := .ref (a1 0)) (C := RX11) (T := TX11) (N := 4) hx hb hts hX11 hown hK.1 hP 0 rfl rfl 0 (by decide) (hts (.fieldLink RX11 15 "PledgeHouse" "now" "LPledgeHouse$House;") (by decide +kernel)) (fun _ h9 => h9) rfl dX11_back_15 ?_
    refine lv_aload_n hx hb dX11_back_18 rfl (lv_at hl 0 rfl) ?_
    refine va_get (D := D) (ci := 9) (v := .ref (a2 0)) (C := RX11) (T := TX11) (N := 4) hx hb hts hX11 hown hK.1 hP 0 rfl rfl 1 (by decide) (hts (.fieldLink RX11 21 "PledgeHouse" "kept" "LPledgeHouse$House;") (by decide +kernel)) (fun _ h9 => h9) rfl dX11_back_19 ?_
    refine c_gen (v := none) (G := fun H1 => va_P D vwCl (wO o a1 a2 (zik F) (zst F)) H1 ∧ gT D cs o a1 a2 k r fz (N + 1) (sp_back F).2 H1) (va_runV S (be_met (D := D) (cs := cs) l hI (hO1_0 hR.2.2.1) hO2 hHK.1.2.2.2.1 hcn2 hbb.1 hbb.2 _) (cwV 1 hts gX11_back_X3_become rfl rfl rfl (by decide +kernel) ⟨Nat.le_of_ble_eq_true rfl, Nat.le_of_ble_eq_true rfl⟩) (preV_f (As := [.ref (a2 0)]) hK (show va_P D vwCl (([] ++ wH a1 (k 0) cs (sZ h1)) ++ wH a2 (k 0) cs (sZ h2)) _ from va_P.app (by rw [List.nil_append]; exact hH.1.1) hH.2.1.1) (be_pre (RW := RW) hI hH hO2 hcn2) hrv) rfl rfl hl.1 rfl (lv_room (Nat.le_of_ble_eq_true rfl)) dX11_back_22 ⟨show 0 + 3 * cn2 ≤ 3 * cn2 by omega, show 0 + 31 * cn2 ≤ 31 * cn2 by omega⟩) hS (fun x h => ?_) (fun u t ot hu hQ => ?_) (fun H1 locs1 hG hS => ?_)
    · rcases h with ((h | h) | h) | h
      · exact nf_H hI h
      · exact nf_H2 hI h
      · exact nf_S hI h
      · exact fun z => absurd (hfz x z) (Nat.not_lt.mpr h)
    · obtain ⟨e1, bs', hb', q1, q2, q3, q4⟩ := hQ
      rw [hu] at hb'
      have q4' := q4.2
      rw [hu] at q4'
      have q41 := q4.1
      rw [hu] at q41
      exact ⟨e1, q41, q4', gT_bk hP hR hk1 hHK hO2 hrc hcN hI hH hfz hb' q41 (fun q h1 n1 n2 n3 => q4' q h1 (fun z => by
        rcases z with ((z | z) | z) | z
        · exact n1 z
        · exact n2 z
        · exact n3 z
        · exact absurd h1 (Nat.not_lt.mpr z))) q1 q2 q3⟩
    · refine W.widen (k := 3 * cn2) (n := 31 * cn2) (by omega) (by omega) ?_
      refine lv_aload_n hx hb dX11_back_25 rfl (lv_at hl 0 rfl) ?_
      refine lv_iconst (v := 0) hx hb dX11_back_26 (by decide) ?_
      have hi := r_back hHK hk1 (Z2 := sZ h1) (bs := sb h1) (n := cn2)
      exact x11_end (q := sp_back F) S hK hr hlocks hG.1 hG.2 hi.1 hi.2.1 (hi.2.2.1.trans hk1.symm) hS (cwV 1 hts gX11_back_X11_answer rfl rfl rfl (by decide +kernel) ⟨Nat.le_of_ble_eq_true rfl, Nat.le_of_ble_eq_true rfl⟩) hl.1 dX11_back_27 dX11_back_30 ⟨Nat.le_refl _, Nat.le_refl _⟩
  · refine lv_aload_n hx hb dX11_back_7 rfl (lv_at hl 0 rfl) ?_
    refine lv_bipush (v := (-2)) hx hb dX11_back_8 (by decide) ?_
    have hA := r_back0 hR.1 c_1
    refine W.widen (k := 3 * kb F) (n := 31 * kb F) (Nat.zero_le _) (Nat.zero_le _) ?_
    exact x11_end S hK hr hlocks hP (gT_no hP hR (by omega) hI hH hfz hA) hA.1 hA.2.2.2 hA.2.2.1.2.2.2.2.2 hS (cwV 1 hts gX11_back_X11_answer rfl rfl rfl (by decide +kernel) ⟨Nat.le_of_ble_eq_true rfl, Nat.le_of_ble_eq_true rfl⟩) hl.1 dX11_back_10 dX11_back_13 ⟨Nat.le_refl _, Nat.le_refl _⟩
