/-! PledgeHouse: rules, days, images (by x11d.py) -/
section BE
variable {D : va_G} {cs : Nat → ClassId} {o : Nat} {a1 a2 k r : Nat → Nat} {fz : Nat → Prop} {N : Nat} {F : mZ} {H H1 : Heap} {h1 h2 : hS} {RW : Nat → Nat → Int64} {cn1 rc1 d1 cn2 rc2 d2 n2 : Nat} {y st : Int32}
theorem be_met (l : Launch) (hI : gI o a1 a2 k r fz h1 h2) (hO : hO1 h1 0) (hO2 : hO1 h2 n2) (hn : gh (sZ h2) 1 = nI n2) (hc : n2 ≤ 511) (hz7 : ∀ i, i < n2 → sv h2 i 7 = 0 ∨ sv h2 i 7 = 1) (hbx : ∀ i, i < 40 → gb (sZ h2) i = 0 ∨ gb (sZ h2) i = 1) (sz : Nat) : Met l yX3_become wsX3_become ({ frames := 4, cells := 3 * n2, slots := 31 * n2, locals := 82 }) (cPcF [.ref (a1 0), .ref (a2 0)] D cs (([] ++ wH a1 (k 0) cs (sZ h1)) ++ wH a2 (k 0) cs (sZ h2)) (fun H => tks D (sb h2) (sv h2) n2 H ∧ slF D (sZ h1) (sb h1) (sn h1) (sv h1) 0 H ∧ pgF D cs (sZ h2) (pOr (pH a1) (pH a2)) H) sz) (bcQ D cs a1 a2 (k 0) (sZ h1) (sZ h2) (sb h1) (sn h1) (sv h1) (sv h2) n2 (adA (pOr (pOr (pH a1) (pH a2)) (pSl (sZ h1) (sb h1))) sz)) (3 * n2) (31 * n2) (adA (pOr (pOr (pH a1) (pH a2)) (pSl (sZ h1) (sb h1))) sz) := by
  have p1 : ∀ x, pH a1 x → prt o a1 a2 k r h1 h2 1 x := fun x a => Or.inr (Or.inl ⟨rfl, a⟩)
  have p2 : ∀ x, pH a2 x → prt o a1 a2 k r h1 h2 2 x := fun x a => Or.inr (Or.inr (Or.inl ⟨rfl, a⟩))
  have p5 : ∀ j, j < 511 → gt (sZ h1) j = some (sb h1 j 0) → ∀ x, pT (sb h1 j) x → prt o a1 a2 k r h1 h2 (5 + 2 * j) x := fun j hj e x a => Or.inr (Or.inr (Or.inr (Or.inr (Or.inr (Or.inl ⟨j, hj, rfl, e, a⟩)))))
  have p6 : ∀ j, j < n2 → ∀ x, pT (sb h2 j) x → prt o a1 a2 k r h1 h2 (6 + 2 * j) x := fun j hj x a => Or.inr (Or.inr (Or.inr (Or.inr (Or.inr (Or.inr ⟨j, by omega, rfl, (hO2.2.2.1 j hj).1, a⟩)))))
  exact cC_X3_become l D cs k a1 a2 (sZ h1) (sZ h2) (sb h1) (sb h2) (sn h1) (sv h1) (sv h2) n2 sz hI.1.1 hI.1.2.1 (fun x a b => absurd (hI.2.1 1 2 x (p1 x a) (p2 x b)) (by decide)) hn hc (fun i hi => (hO2.2.2.1 i hi).1) hO.1 hO.2.1
    (fun j j' hj hj' hne e e' x a b => absurd (hI.2.1 _ _ x (p5 j hj e x a) (p5 j' hj' e' x b)) (by omega))
    (fun j hj e x a b => absurd (hI.2.1 _ _ x (p5 j hj e x a) (p1 x b)) (by omega))
    (fun j hj e x a b => absurd (hI.2.1 _ _ x (p5 j hj e x a) (p2 x b)) (by omega))
    (fun i hi x a b => absurd (hI.2.1 _ _ x (p6 i hi x a) (p1 x b)) (by omega))
    (fun i hi x a b => absurd (hI.2.1 _ _ x (p6 i hi x a) (p2 x b)) (by omega))
    (fun i j hi hj e x a b => absurd (hI.2.1 _ _ x (p6 i hi x a) (p5 j hj e x b)) (by omega)) hz7 hbx
theorem be_pre (hI : gI o a1 a2 k r fz h1 h2) (hH : gH D cs a1 a2 k r h1 h2 RW H) (hO2 : hO1 h2 n2) (hc : n2 ≤ 511) : tks D (sb h2) (sv h2) n2 H ∧ slF D (sZ h1) (sb h1) (sn h1) (sv h1) 0 H ∧ pgF D cs (sZ h2) (pOr (pH a1) (pH a2)) H := by
  refine ⟨fun i hi => ?_, fun j _ hj e => hH.1.2.1 j hj e, fun i hi x e => ?_⟩
  · have z := hH.2.1.2.1 i (by omega) (hO2.2.2.1 i hi).1
    rw [(hO2.2.2.1 i hi).2] at z
    exact z
  · have z := hH.2.1.2.2 i hi x e
    have p4 : ∀ w, pP (sq h2 i) (sl h2 i) w → prt o a1 a2 k r h1 h2 4 w := fun w a => Or.inr (Or.inr (Or.inr (Or.inr (Or.inl ⟨rfl, Or.inr ⟨i, hi, by rw [e]; simp, a⟩⟩))))
    refine ⟨sq h2 i, sl h2 i, z.1, z.2, fun w a b => ?_⟩
    rcases b with b | b
    · exact absurd (hI.2.1 4 1 w (p4 w a) (Or.inr (Or.inl ⟨rfl, b⟩))) (by decide)
    · exact absurd (hI.2.1 4 2 w (p4 w a) (Or.inr (Or.inr (Or.inl ⟨rfl, b⟩)))) (by decide)
theorem hO1_0 {n : Nat} (h : hO1 h1 n) : hO1 h1 0 := ⟨h.1, h.2.1, fun j hj => absurd hj (Nat.not_lt_zero _), h.2.2.2⟩
theorem HR_b {Z : hZ} {vs : Nat → Nat → Int32} {pl : Nat → pZ} {cn rc d : Nat} (h : HR Z vs pl RW cn rc d F) : (∀ i, i < cn → vs i 7 = 0 ∨ vs i 7 = 1) ∧ ∀ i, i < 40 → gb Z i = 0 ∨ gb Z i = 1 := by
  refine ⟨fun i hi => (h.2.2.1.1 i hi).2.2.2.2.1, fun i hi => ?_⟩
  rcases h.kind0 hi with ⟨_, b, _⟩ | ⟨_, b, _⟩ | ⟨_, b, _⟩
  · exact Or.inl b
  · exact Or.inr b
  · exact Or.inl b
/-- an image is kept -/
theorem gT_im {bs' : Nat → Nat → Nat} (hO : va_P D vwCl (wO o a1 a2 y st) H) (hR : gR h1 h2 RW cn1 rc1 d1 cn2 rc2 d2 N F) (hI : gI o a1 a2 k r fz h1 h2) (hH : gH D cs a1 a2 k r h1 h2 RW H) (hfz : ∀ x, fz x → x < H.size) (hb : bsOK (sZ h2) (sb h2) bs' H.size cn1) (hsz : H.size ≤ H1.size) (hk : ∀ q, q < H.size → ¬ pH a2 q → ¬ pH a1 q → ¬ pSl (sZ h2) (sb h2) q → H1[q]? = H[q]?) (P : va_P D vwCl (([] ++ wH a2 (k 0) cs (bz2 (sZ h2) (sZ h1) bs' cn1)) ++ wH a1 (k 0) cs (sZ h1)) H1) (T : tks D bs' (sv h1) cn1 H1) (SL : slF D (sZ h2) (sb h2) (sn h2) (sv h2) cn1 H1) : va_P D vwCl (wO o a1 a2 y st) H1 ∧ gT D cs o a1 a2 k r fz (N + 1) (sp_image F).2 H1 := by
  have hcn := hR.1.1.2.2.2.2.2.1
  obtain ⟨g1, g2, g3⟩ := gH_be (Or.inr hO) hfz (gI_sw hI) ⟨hH.2.1, hH.1, hH.2.2⟩ hb hcn hk P T SL
  have hi := r_image hR.1 (Z2 := sZ h2) (bs := bs') (n := cn1)
  have hO2 := hBe_O (h2 := h1) hR.2.2.2.1 hb
  exact ⟨keepW (P := fun x => x = o) hO wO_p g3, h1, hBe h2 h1 bs' cn1, RW, cn1, rc1, d1, cn1, rc1, d1, ⟨hi.2.2.2.1, Or.inr ⟨hi.2.2.1, HR_vs hi.2.2.2.2 (fun i hi => mix_lt hi), hO2, Nat.le_refl _, Nat.le_refl _, by have := hR.2.2.2.2; omega⟩, hR.2.2.1, hO1_0 hO2, by have := hR.2.2.2.2; omega, by have := hR.2.2.2.2; omega⟩, gI_sw g2, ⟨g1.2.1, g1.1, g1.2.2⟩, fun x hx => Nat.lt_of_lt_of_le (hfz x hx) hsz⟩
/-- back to the image -/
theorem gT_bk {bs' : Nat → Nat → Nat} (hO : va_P D vwCl (wO o a1 a2 y st) H) (hR : gR h1 h2 RW cn1 rc1 d1 cn2 rc2 d2 N F) (hk1 : zik F = 1) (hHK : HK (sZ h2) (sv h2) (sl h2) RW cn2 rc2 d2 F) (hO2 : hO1 h2 cn2) (hrc : rc2 ≤ rc1) (hcN : cn2 ≤ N) (hI : gI o a1 a2 k r fz h1 h2) (hH : gH D cs a1 a2 k r h1 h2 RW H) (hfz : ∀ x, fz x → x < H.size) (hb : bsOK (sZ h1) (sb h1) bs' H.size cn2) (hsz : H.size ≤ H1.size) (hk : ∀ q, q < H.size → ¬ pH a1 q → ¬ pH a2 q → ¬ pSl (sZ h1) (sb h1) q → H1[q]? = H[q]?) (P : va_P D vwCl (([] ++ wH a1 (k 0) cs (bz2 (sZ h1) (sZ h2) bs' cn2)) ++ wH a2 (k 0) cs (sZ h2)) H1) (T : tks D bs' (sv h2) cn2 H1) (SL : slF D (sZ h1) (sb h1) (sn h1) (sv h1) cn2 H1) : va_P D vwCl (wO o a1 a2 y st) H1 ∧ gT D cs o a1 a2 k r fz (N + 1) (sp_back F).2 H1 := by
  have hcn := hHK.1.2.2.2.2.2.1
  obtain ⟨g1, g2, g3⟩ := gH_be (Or.inl hO) hfz hI hH hb hcn hk P T SL
  have hi := r_back hHK hk1 (Z2 := sZ h1) (bs := bs') (n := cn2)
  have hO1' := hBe_O (h2 := h2) (hO1_0 hR.2.2.1) hb
  exact ⟨keepW (P := fun x => x = o) hO wO_p g3, hBe h1 h2 bs' cn2, h2, RW, cn2, rc2, d2, cn2, rc2, d2, ⟨HR_vs hi.2.2.2.1 (fun i hi => mix_lt hi), Or.inr ⟨hi.2.2.1, hi.2.2.2.2, hO2, Nat.le_refl _, Nat.le_refl _, by omega⟩, hO1', hR.2.2.2.1, by have := hR.2.2.2.2; omega, by omega⟩, g2, g1, fun x hx => Nat.lt_of_lt_of_le (hfz x hx) hsz⟩
theorem nf_S (hI : gI o a1 a2 k r fz h1 h2) {x : Nat} (h : pSl (sZ h1) (sb h1) x) : ¬ fz x := by
  obtain ⟨j, hj, e, q⟩ := h
  exact hI.2.2 (5 + 2 * j) x (Or.inr (Or.inr (Or.inr (Or.inr (Or.inr (Or.inl ⟨j, hj, rfl, e, q⟩))))))
end BE
set_option maxHeartbeats 4000000 in
set_option maxRecDepth 100000 in
theorem cC_X11_day (l : Launch) (D : va_G) (cs : Nat → ClassId) (o : Nat) (a1 a2 k r : Nat → Nat) (fz : Nat → Prop) (N : Nat) (F : mZ) (sz : Nat) (hN : N ≤ 511) (n : Int32) : Met l yX11_day wsX11_day ({ frames := 4, cells := 0, slots := 0, locals := 88 }) (cPcF [.ref o, .int n] D cs (wO o a1 a2 (zik F) (zst F)) (gT D cs o a1 a2 k r fz N F) sz) (cQF D (some (.int (sp_day F n).1)) (wO o a1 a2 (zik (sp_day F n).2) (zst (sp_day F n).2)) (gT D cs o a1 a2 k r fz (N + 1) (sp_day F n).2) (fun x => ¬ fz x)) 0 0 (fun x => ¬ fz x) := by
  refine c_inF (P := p1 o) (cc := cX11_day) (maxL := 2) (ret := (some .int)) (lv := [(0, .ref o), (1, .int n)]) (by decide) rfl (Nat.le_of_ble_eq_true rfl) rfl ?_
  intro p e s m below meth c ls S hr hlocks hin hsz hP hK hF hl hS0
  subst hsz
  obtain ⟨hx, hb, hml, hown, hts⟩ := id S
  have hX11 : ∀ w ∈ wsX110, w ∈ wsX11_day := by decide +kernel
  have hS : va_S (fun x => ¬ fz x) s.heap s.heap [] := va_S.rf
  obtain ⟨h1, h2, RW, cn1, rc1, d1, cn2, rc2, d2, hR, hI, hH, hfz⟩ := id hF
  have hcn := hR.1.1.2.2.2.2.2.1
  have hrN := hR.2.2.2.2.1
  have hZ1 : va_P D vwCl (([] ++ wH a1 (k 0) cs (sZ h1)) ++ []) s.heap := by rw [List.nil_append, List.append_nil]; exact hH.1.1
  have hrv := va_recv hK.1 hH.1.1 (ci := 3) (q0 := 0) rfl rfl
  refine lv_aload_n hx hb dX11_day_0 rfl (lv_at hl 0 rfl) ?_
  refine lv_aload_n hx hb dX11_day_1 rfl (lv_at hl 0 rfl) ?_
  refine va_get (D := D) (ci := 9) (v := .ref (a1 0)) (C := RX11) (T := TX11) (N := 4) hx hb hts hX11 hown hK.1 hP 0 rfl rfl 0 (by decide) (hts (.fieldLink RX11 15 "PledgeHouse" "now" "LPledgeHouse$House;") (by decide +kernel)) (fun _ h9 => h9) rfl dX11_day_2 ?_
  refine lv_iload_n hx hb dX11_day_5 rfl (lv_at hl 1 rfl) ?_
  obtain ⟨d', hd', e1, hA, hD, he, e2⟩ := r_day hR.1 (by omega) n
  have htk : tks D (sb h1) (sv h1) cn1 s.heap := fun i hi => by
    have z := hH.1.2.1 i (by omega) (hR.2.2.1.2.2.1 i hi).1
    rw [(hR.2.2.1.2.2.1 i hi).2] at z
    exact z
  refine c_wF (G := fun H1 => va_P D vwCl (wO o a1 a2 (zik F) (zst F)) H1 ∧ gT D cs o a1 a2 k r fz (N + 1) (sp_day F n).2 H1) (va_runV S (cC_X3_passDays l D cs k a1 (sZ h1) (sb h1) (sv h1) _ hI.1.1 cn1 n hR.1.1.2.2.2.1 hcn (fun i hi => (hR.2.2.1.2.2.1 i hi).1) (fun i hi => hR.2.2.1.2.1 i (by omega) (hR.2.2.1.2.2.1 i hi).1) (fun i j hi hj hne x a b => absurd (hI.2.1 (5 + 2 * i) (5 + 2 * j) x (Or.inr (Or.inr (Or.inr (Or.inr (Or.inr (Or.inl ⟨i, by omega, rfl, (hR.2.2.1.2.2.1 i hi).1, a⟩)))))) (Or.inr (Or.inr (Or.inr (Or.inr (Or.inr (Or.inl ⟨j, by omega, rfl, (hR.2.2.1.2.2.1 j hj).1, b⟩))))))) (by omega)) (fun i hi x a b => dj_TH hI (by omega) (hR.2.2.1.2.2.1 i hi).1 x a b)) (cwV 1 hts gX11_day_X3_passDays rfl rfl rfl (by decide +kernel) ⟨Nat.le_of_ble_eq_true rfl, Nat.le_of_ble_eq_true rfl⟩) (preV_f (As := [.int n]) hK hZ1 htk hrv) rfl rfl hl.1 rfl (lv_room (Nat.le_of_ble_eq_true rfl)) dX11_day_6 ⟨Nat.zero_le _, Nat.zero_le _⟩) hS (fun x h => ?_) (fun H1 hz hk hP1 hT1 => ?_) (fun H1 locs1 hG hS => ?_)
  · rcases h with (h | ⟨i, hi, h⟩) | h
    · exact nf_H hI h
    · exact nf_T hI (by omega) (hR.2.2.1.2.2.1 i hi).1 h
    · exact fun z => absurd (hfz x z) (Nat.not_lt.mpr h)
  · have zg : gt (sc_X3_passDays (sZ h1) (sv h1) cn1 n).2.1 = gt (sZ h1) ∧ gp (sc_X3_passDays (sZ h1) (sv h1) cn1 n).2.1 = gp (sZ h1) ∧ ∀ j, ¬ j < cn1 → (sc_X3_passDays (sZ h1) (sv h1) cn1 n).2.2 j = sv h1 j := by
      unfold sc_X3_passDays
      split
      · split
        · exact ⟨rfl, rfl, fun _ _ => rfl⟩
        split
        · exact ⟨rfl, rfl, fun j hj => if_neg hj⟩
        · exact ⟨rfl, rfl, fun _ _ => rfl⟩
      · exact ⟨rfl, rfl, fun _ _ => rfl⟩
    have hP2 := vaL hP1
    rw [List.nil_append] at hP2
    exact gT_day hP hR (by omega) hI hH hfz zg.1 zg.2.1 hd' hA hD he zg.2.2 hz (fun x hx n1 n5 => hk x hx (fun z => by
      rcases z with (z | z) | z
      · exact n1 z
      · exact n5 z
      · exact absurd hx (Nat.not_lt.mpr z))) hT1 hP2
  · exact x11_end S hK hr hlocks hG.1 hG.2 e1 e2 hD.2.2.2.2 hS (cwV 1 hts gX11_day_X11_answer rfl rfl rfl (by decide +kernel) ⟨Nat.le_of_ble_eq_true rfl, Nat.le_of_ble_eq_true rfl⟩) hl.1 dX11_day_9 dX11_day_12 ⟨Nat.zero_le _, Nat.zero_le _⟩
set_option maxHeartbeats 4000000 in
set_option maxRecDepth 100000 in
theorem cC_X11_rule (l : Launch) (D : va_G) (cs : Nat → ClassId) (o : Nat) (a1 a2 k r : Nat → Nat) (fz : Nat → Prop) (N : Nat) (F : mZ) (sz : Nat) (hN : N ≤ 511) (rule : Int32) (v : Int32) (rL rG : Nat) : Met l yX11_rule wsX11_rule ({ frames := 1, cells := 0, slots := 0, locals := 22 }) (cPcV (stC D cs (fun x => ¬ fz x) rL rG) [.ref o, .int rule, .int v] D cs (wO o a1 a2 (zik F) (zst F)) (gT D cs o a1 a2 k r fz N F) sz) (cQF D (some (.int (sp_rule F rule v).1)) (wO o a1 a2 (zik (sp_rule F rule v).2) (zst (sp_rule F rule v).2)) (gT D cs o a1 a2 k r fz (N + 1) (sp_rule F rule v).2) (fun x => ¬ fz x)) 0 0 (fun x => ¬ fz x) := by
  refine c_inV (cc := cX11_rule) (maxL := 3) (ret := (some .int)) (lv := [(0, .ref o), (1, .int rule), (2, .int v)]) (by decide) rfl (Nat.le_of_ble_eq_true rfl) rfl ?_ stC_same
  intro p e s m below meth c ls S hr hlocks hsz hP hK hF hXs hl
  subst hsz
  obtain ⟨hx, hb, hml, hown, hts⟩ := id S
  have hX11 : ∀ w ∈ wsX110, w ∈ wsX11_rule := by decide +kernel
  have hS : va_S (fun x => ¬ fz x) s.heap s.heap [] := va_S.rf
  obtain ⟨h1, h2, RW, cn1, rc1, d1, cn2, rc2, d2, hR, hI, hH, hfz⟩ := id hF
  have hcn := hR.1.1.2.2.2.2.2.1
  have hrN := hR.2.2.2.2.1
  have hZ1 : va_P D vwCl (([] ++ wH a1 (k 0) cs (sZ h1)) ++ []) s.heap := by rw [List.nil_append, List.append_nil]; exact hH.1.1
  have hrv := va_recv hK.1 hH.1.1 (ci := 3) (q0 := 0) rfl rfl
  refine lv_aload_n hx hb dX11_rule_0 rfl (lv_at hl 0 rfl) ?_
  refine lv_aload_n hx hb dX11_rule_1 rfl (lv_at hl 0 rfl) ?_
  refine va_get (D := D) (ci := 9) (v := .ref (a1 0)) (C := RX11) (T := TX11) (N := 4) hx hb hts hX11 hown hK.1 hP 0 rfl rfl 0 (by decide) (hts (.fieldLink RX11 15 "PledgeHouse" "now" "LPledgeHouse$House;") (by decide +kernel)) (fun _ h9 => h9) rfl dX11_rule_2 ?_
  refine lv_iload_n hx hb dX11_rule_5 rfl (lv_at hl 1 rfl) ?_
  refine lv_iload_n hx hb dX11_rule_6 rfl (lv_at hl 2 rfl) ?_
  have hA := r_rule hR.1 rule v
  have hst : ∀ U : State, U.heap = s.heap → s.WarmedH U.vm → stC D cs (adA (pH a1) s.heap.size) rL rG U := fun U hU hW => by
    have hm : ∀ q, adA (pH a1) s.heap.size q → ¬ fz q := fun q h => h.elim (fun z => nf_H hI z) (fun z y => absurd (hfz q y) (Nat.not_lt.mpr z))
    exact ⟨by rw [hU]; exact va_Z.moved hW.alike (va_Zm hXs.1 hm), by rw [hU]; exact va_Z.moved hW.alike (va_Zm hXs.2.1 hm), by rw [hU]; exact hXs.2.2⟩
  refine c_wG (G := fun H1 => va_P D vwCl (wO o a1 a2 (zik F) (zst F)) H1 ∧ gT D cs o a1 a2 k r fz (N + 1) (sp_rule F rule v).2 H1) (va_runV S (cC_X3_setRule l D cs k a1 (sZ h1) _ rL rG hI.1.1 rule v) (cwV 2 hts gX11_rule_X3_setRule rfl rfl rfl (by decide +kernel) ⟨Nat.le_of_ble_eq_true rfl, Nat.le_of_ble_eq_true rfl⟩) (preV_u (As := [.int rule, .int v]) stC_same hK hZ1 hst hrv) rfl rfl hl.1 rfl (lv_room (Nat.le_of_ble_eq_true rfl)) dX11_rule_7 ⟨Nat.zero_le _, Nat.zero_le _⟩) hS (fun x h => ?_) (fun H1 hz hk hP1 => ?_) (fun H1 locs1 hG hS => ?_)
  · rcases h with h | h
    · exact nf_H hI h
    · exact fun z => absurd (hfz x z) (Nat.not_lt.mpr h)
  · have hk2 : ∀ x, x < s.heap.size → ¬ pH a1 x → H1[x]? = s.heap[x]? := fun x hx n1 => hk x hx (fun z => by
        rcases z with z | z
        · exact n1 z
        · exact absurd hx (Nat.not_lt.mpr z))
    exact gT_hb hP hR (by omega) hI hH hfz ⟨Nat.le_refl _, Nat.le_succ _⟩ hA (kp_rule (rc := rc1)) hz (fun x hx n1 _ => hk2 x hx n1) (by have z := vaL hP1; rw [List.nil_append] at z; exact z) (keepW hH.2.2 wB_p (fun x hx b => hk2 x hx (fun z => dj_HB hI x z b)))
  · exact x11_end S hK hr hlocks hG.1 hG.2 hA.1 hA.2.2.2 hA.2.2.1.2.2.2.2.2 hS (cwV 1 hts gX11_rule_X11_answer rfl rfl rfl (by decide +kernel) ⟨Nat.le_of_ble_eq_true rfl, Nat.le_of_ble_eq_true rfl⟩) hl.1 dX11_rule_10 dX11_rule_13 ⟨Nat.zero_le _, Nat.zero_le _⟩
set_option maxHeartbeats 4000000 in
set_option maxRecDepth 100000 in
theorem cC_X11_image (l : Launch) (D : va_G) (cs : Nat → ClassId) (o : Nat) (a1 a2 k r : Nat → Nat) (fz : Nat → Prop) (N : Nat) (F : mZ) (sz : Nat) (hN : N ≤ 511) : Met l yX11_image wsX11_image ({ frames := 5, cells := (3 * tN (zh F 1)), slots := (31 * tN (zh F 1)), locals := 104 }) (cPcF [.ref o] D cs (wO o a1 a2 (zik F) (zst F)) (gT D cs o a1 a2 k r fz N F) sz) (cQF D (some (.int (sp_image F).1)) (wO o a1 a2 (zik (sp_image F).2) (zst (sp_image F).2)) (gT D cs o a1 a2 k r fz (N + 1) (sp_image F).2) (fun x => ¬ fz x)) (3 * tN (zh F 1)) (31 * tN (zh F 1)) (fun x => ¬ fz x) := by
  refine c_inF (P := p1 o) (cc := cX11_image) (maxL := 1) (ret := (some .int)) (lv := [(0, .ref o)]) (by decide) rfl (Nat.le_of_ble_eq_true rfl) rfl ?_
  intro p e s m below meth c ls S hr hlocks hin hsz hP hK hF hl hS0
  subst hsz
  obtain ⟨hx, hb, hml, hown, hts⟩ := id S
  have hX11 : ∀ w ∈ wsX110, w ∈ wsX11_image := by decide +kernel
  have hS : va_S (fun x => ¬ fz x) s.heap s.heap [] := va_S.rf
  obtain ⟨h1, h2, RW, cn1, rc1, d1, cn2, rc2, d2, hR, hI, hH, hfz⟩ := id hF
  rw [tn_cn hR.1]
  have hcn := hR.1.1.2.2.2.2.2.1
  have hrN := hR.2.2.2.2.1
  have hZ1 : va_P D vwCl (([] ++ wH a1 (k 0) cs (sZ h1)) ++ []) s.heap := by rw [List.nil_append, List.append_nil]; exact hH.1.1
  have hrv := va_recv hK.1 hH.1.1 (ci := 3) (q0 := 0) rfl rfl
  refine lv_aload_n hx hb dX11_image_0 rfl (lv_at hl 0 rfl) ?_
  refine va_get (D := D) (ci := 9) (v := .ref (a2 0)) (C := RX11) (T := TX11) (N := 4) hx hb hts hX11 hown hK.1 hP 0 rfl rfl 1 (by decide) (hts (.fieldLink RX11 21 "PledgeHouse" "kept" "LPledgeHouse$House;") (by decide +kernel)) (fun _ h9 => h9) rfl dX11_image_1 ?_
  refine lv_aload_n hx hb dX11_image_4 rfl (lv_at hl 0 rfl) ?_
  refine va_get (D := D) (ci := 9) (v := .ref (a1 0)) (C := RX11) (T := TX11) (N := 4) hx hb hts hX11 hown hK.1 hP 0 rfl rfl 0 (by decide) (hts (.fieldLink RX11 15 "PledgeHouse" "now" "LPledgeHouse$House;") (by decide +kernel)) (fun _ h9 => h9) rfl dX11_image_5 ?_
  have hbb := HR_b hR.1
  have hrv2 := va_recv hK.1 hH.2.1.1 (ci := 3) (q0 := 0) rfl rfl
  refine c_gen (v := none) (G := fun H1 => va_P D vwCl (wO o a1 a2 (zik F) (zst F)) H1 ∧ gT D cs o a1 a2 k r fz (N + 1) (sp_image F).2 H1) (va_runV S (be_met (D := D) (cs := cs) l (gI_sw hI) hR.2.2.2.1 hR.2.2.1 hR.1.1.2.2.2.1 hcn hbb.1 hbb.2 _) (cwV 1 hts gX11_image_X3_become rfl rfl rfl (by decide +kernel) ⟨Nat.le_of_ble_eq_true rfl, Nat.le_of_ble_eq_true rfl⟩) (preV_f (As := [.ref (a1 0)]) hK (show va_P D vwCl (([] ++ wH a2 (k 0) cs (sZ h2)) ++ wH a1 (k 0) cs (sZ h1)) _ from va_P.app (by rw [List.nil_append]; exact hH.2.1.1) hH.1.1) (be_pre (RW := RW) (gI_sw hI) ⟨hH.2.1, hH.1, hH.2.2⟩ hR.2.2.1 hcn) hrv2) rfl rfl hl.1 rfl (lv_room (Nat.le_of_ble_eq_true rfl)) dX11_image_8 ⟨show 0 + 3 * cn1 ≤ 3 * cn1 by omega, show 0 + 31 * cn1 ≤ 31 * cn1 by omega⟩) hS (fun x h => ?_) (fun u t ot hu hQ => ?_) (fun H1 locs1 hG hS => ?_)
  · rcases h with ((h | h) | h) | h
    · exact nf_H2 hI h
    · exact nf_H hI h
    · exact nf_S (gI_sw hI) h
    · exact fun z => absurd (hfz x z) (Nat.not_lt.mpr h)
  · obtain ⟨e1, bs', hb', q1, q2, q3, q4⟩ := hQ
    rw [hu] at hb'
    have q4' := q4.2
    rw [hu] at q4'
    have q41 := q4.1
    rw [hu] at q41
    exact ⟨e1, q41, q4', gT_im hP hR hI hH hfz hb' q41 (fun q h1 n1 n2 n3 => q4' q h1 (fun z => by
      rcases z with ((z | z) | z) | z
      · exact n1 z
      · exact n2 z
      · exact n3 z
      · exact absurd h1 (Nat.not_lt.mpr z))) q1 q2 q3⟩
  · refine W.widen (k := 3 * cn1) (n := 31 * cn1) (by omega) (by omega) ?_
    refine lv_aload_n hx hb dX11_image_11 rfl (lv_at hl 0 rfl) ?_
    refine lv_iconst (v := 1) hx hb dX11_image_12 (by decide) ?_
    refine x_putO hx hb hts hX11 hown hK.1 hG.1 (gT_ofz hG.2).1 hS (hts (.fieldLink RX11 118 "PledgeHouse" "anythingKept" "Z") (by decide +kernel)) dX11_image_13 (fun H2 locs2 hP2 hz2 hk2 hS => ?_)
    refine lv_aload_n hx hb dX11_image_16 rfl (lv_at hl 0 rfl) ?_
    refine lv_iconst (v := 0) hx hb dX11_image_17 (by decide) ?_
    have hT2 := gT_o (y := 1) (st := 0) hG.2 (Nat.le_of_eq hz2.symm) (fun q _ h => hk2 q h)
    exact x11_end (q := sp_image F) S hK hr hlocks hP2 hT2 rfl rfl rfl hS (cwV 1 hts gX11_image_X11_answer rfl rfl rfl (by decide +kernel) ⟨Nat.le_of_ble_eq_true rfl, Nat.le_of_ble_eq_true rfl⟩) hl.1 dX11_image_18 dX11_image_21 ⟨Nat.le_refl _, Nat.le_refl _⟩
set_option maxHeartbeats 4000000 in
set_option maxRecDepth 100000 in
theorem cC_X11_back (l : Launch) (D : va_G) (cs : Nat → ClassId) (o : Nat) (a1 a2 k r : Nat → Nat) (fz : Nat → Prop) (N : Nat) (F : mZ) (sz : Nat) (hN : N ≤ 511) : Met l yX11_back wsX11_back ({ frames := 5, cells := (3 * tN (zyh F 1)), slots := (31 * tN (zyh F 1)), locals := 104 }) (cPcF [.ref o] D cs (wO o a1 a2 (zik F) (zst F)) (gT D cs o a1 a2 k r fz N F) sz) (cQF D (some (.int (sp_back F).1)) (wO o a1 a2 (zik (sp_back F).2) (zst (sp_back F).2)) (gT D cs o a1 a2 k r fz (N + 1) (sp_back F).2) (fun x => ¬ fz x)) (3 * tN (zyh F 1)) (31 * tN (zyh F 1)) (fun x => ¬ fz x) := by
  refine c_inF (P := p1 o) (cc := cX11_back) (maxL := 1) (ret := (some .int)) (lv := [(0, .ref o)]) (by decide) rfl (Nat.le_of_ble_eq_true rfl) rfl ?_
  intro p e s m below meth c ls S hr hlocks hin hsz hP hK hF hl hS0
  subst hsz
  obtain ⟨hx, hb, hml, hown, hts⟩ := id S
  have hX11 : ∀ w ∈ wsX110, w ∈ wsX11_back := by decide +kernel
  have hS : va_S (fun x => ¬ fz x) s.heap s.heap [] := va_S.rf
  obtain ⟨h1, h2, RW, cn1, rc1, d1, cn2, rc2, d2, hR, hI, hH, hfz⟩ := id hF
  have hcn := hR.1.1.2.2.2.2.2.1
  have hrN := hR.2.2.2.2.1
  have hZ1 : va_P D vwCl (([] ++ wH a1 (k 0) cs (sZ h1)) ++ []) s.heap := by rw [List.nil_append, List.append_nil]; exact hH.1.1
  have hrv := va_recv hK.1 hH.1.1 (ci := 3) (q0 := 0) rfl rfl
  refine lv_aload_n hx hb dX11_back_0 rfl (lv_at hl 0 rfl) ?_
  refine va_get (D := D) (ci := 9) (v := .int (zik F)) (C := RX11) (T := TX11) (N := 4) hx hb hts hX11 hown hK.1 hP 0 rfl rfl 2 (by decide) (hts (.fieldLink RX11 118 "PledgeHouse" "anythingKept" "Z") (by decide +kernel)) (fun _ h9 => h9) rfl dX11_back_1 ?_
  refine lv_if_ne (tgt := 14) hx hb dX11_back_4 (by decide) (fun c_1 => ?_) (fun c_1 => ?_)
  · rcases hR.2.1 with z | ⟨hk1, hHK, hO2, hrc, hdd, hcN⟩
    · exact absurd z c_1
    have hcn2 := hHK.1.2.2.2.2.2.1
    have ecn : tN (zyh F 1) = cn2 := by
      have z : zyh F 1 = nI cn2 := hHK.1.2.2.2.2.1
      rw [z]; exact tN_n (by omega)
    rw [ecn]
    have hbb := HR_b hHK
    refine lv_aload_n hx hb dX11_back_14 rfl (lv_at hl 0 rfl) ?_
    refine va_get (D := D) (ci := 9) (v := .ref (a1 0)) (C := RX11) (T := TX11) (N := 4) hx hb hts hX11 hown hK.1 hP 0 rfl rfl 0 (by decide) (hts (.fieldLink RX11 15 "PledgeHouse" "now" "LPledgeHouse$House;") (by decide +kernel)) (fun _ h9 => h9) rfl dX11_back_15 ?_
    refine lv_aload_n hx hb dX11_back_18 rfl (lv_at hl 0 rfl) ?_
    refine va_get (D := D) (ci := 9) (v := .ref (a2 0)) (C := RX11) (T := TX11) (N := 4) hx hb hts hX11 hown hK.1 hP 0 rfl rfl 1 (by decide) (hts (.fieldLink RX11 21 "PledgeHouse" "kept" "LPledgeHouse$House;") (by decide +kernel)) (fun _ h9 => h9) rfl dX11_back_19 ?_
    refine c_gen (v := none) (G := fun H1 => va_P D vwCl (wO o a1 a2 (zik F) (zst F)) H1 ∧ gT D cs o a1 a2 k r fz (N + 1) (sp_back F).2 H1) (va_runV S (be_met (D := D) (cs := cs) l hI (hO1_0 hR.2.2.1) hO2 hHK.1.2.2.2.1 hcn2 hbb.1 hbb.2 _) (cwV 1 hts gX11_back_X3_become rfl rfl rfl (by decide +kernel) ⟨Nat.le_of_ble_eq_true rfl, Nat.le_of_ble_eq_true rfl⟩) (preV_f (As := [.ref (a2 0)]) hK (show va_P D vwCl (([] ++ wH a1 (k 0) cs (sZ h1)) ++ wH a2 (k 0) cs (sZ h2)) _ from va_P.app (by rw [List.nil_append]; exact hH.1.1) hH.2.1.1) (be_pre (RW := RW) hI hH hO2 hcn2) hrv) rfl rfl hl.1 rfl (lv_room (Nat.le_of_ble_eq_true rfl)) dX11_back_22 ⟨show 0 + 3 * cn2 ≤ 3 * cn2 by omega, show 0 + 31 * cn2 ≤ 31 * cn2 by omega⟩) hS (fun x h => ?_) (fun u t ot hu hQ => ?_) (fun H1 locs1 hG hS => ?_)
    · rcases h with ((h | h) | h) | h
      · exact nf_H hI h
      · exact nf_H2 hI h
      · exact nf_S hI h
      · exact fun z => absurd (hfz x z) (Nat.not_lt.mpr h)
    · obtain ⟨e1, bs', hb', q1, q2, q3, q4⟩ := hQ
      rw [hu] at hb'
      have q4' := q4.2
      rw [hu] at q4'
      have q41 := q4.1
      rw [hu] at q41
      exact ⟨e1, q41, q4', gT_bk hP hR hk1 hHK hO2 hrc hcN hI hH hfz hb' q41 (fun q h1 n1 n2 n3 => q4' q h1 (fun z => by
        rcases z with ((z | z) | z) | z
        · exact n1 z
        · exact n2 z
        · exact n3 z
        · exact absurd h1 (Nat.not_lt.mpr z))) q1 q2 q3⟩
    · refine W.widen (k := 3 * cn2) (n := 31 * cn2) (by omega) (by omega) ?_
      refine lv_aload_n hx hb dX11_back_25 rfl (lv_at hl 0 rfl) ?_
      refine lv_iconst (v := 0) hx hb dX11_back_26 (by decide) ?_
      have hi := r_back hHK hk1 (Z2 := sZ h1) (bs := sb h1) (n := cn2)
      exact x11_end (q := sp_back F) S hK hr hlocks hG.1 hG.2 hi.1 hi.2.1 (hi.2.2.1.trans hk1.symm) hS (cwV 1 hts gX11_back_X11_answer rfl rfl rfl (by decide +kernel) ⟨Nat.le_of_ble_eq_true rfl, Nat.le_of_ble_eq_true rfl⟩) hl.1 dX11_back_27 dX11_back_30 ⟨Nat.le_refl _, Nat.le_refl _⟩
  · refine lv_aload_n hx hb dX11_back_7 rfl (lv_at hl 0 rfl) ?_
    refine lv_bipush (v := (-2)) hx hb dX11_back_8 (by decide) ?_
    have hA := r_back0 hR.1 c_1
    refine W.widen (k := 3 * tN (zyh F 1)) (n := 31 * tN (zyh F 1)) (Nat.zero_le _) (Nat.zero_le _) ?_
    exact x11_end S hK hr hlocks hP (gT_no hP hR (by omega) hI hH hfz hA) hA.1 hA.2.2.2 hA.2.2.1.2.2.2.2.2 hS (cwV 1 hts gX11_back_X11_answer rfl rfl rfl (by decide +kernel) ⟨Nat.le_of_ble_eq_true rfl, Nat.le_of_ble_eq_true rfl⟩) hl.1 dX11_back_10 dX11_back_13 ⟨Nat.le_refl _, Nat.le_refl _⟩
