/-! a second value, items, boxes, taking away -/
section RS2
variable {Z Z' : hZ} {vs : Nat → Nat → Int32} {pl : Nat → pZ} {RW RW' : Nat → Nat → Int64} {cn rc d i p : Nat} {F F' : mZ} {P : pZ}
theorem HR.on1 (h : HR Z vs pl RW cn rc d F) (hp : p < 40) : sh F p 1 = go Z p := (h.2.2.2.1 p hp).1
theorem HR.on0 (h : HR Z vs pl RW cn rc d F) (hp : p < 40) : (go Z p ≤ 0) ↔ go Z p = 0 := by
  have hc := h.1.2.2.2.2.2.1
  rcases h.2.2.2.2.1.2 p hp with e | ⟨j, j1, e, _⟩
  · rw [e]; decide
  · rw [e]
    exact ⟨fun z => absurd z (nI_nle (by omega) (by omega)), fun z => absurd z (nI_ne0 (by omega) (by omega))⟩
theorem plR4 {w : Nat → Int32} (h : plR d P w) (e : P.1 = 4) : w 6 = P.2.1 0 ∧ w 7 = P.2.1 1 ∧ w 8 = P.2.1 3 ∧ w 2 = P.2.1 4 ∧ w 3 = P.2.1 5 ∧ P.2.1 0 = FP.f2i (FP.fmul P.2.2 1120403456) ∧ P.2.1 1 = FP.f2i (FP.fmul (FP.fsub (FP.fmul P.2.2 1120403456) (FP.i2f (FP.f2i (FP.fmul P.2.2 1120403456)))) 1148846080) ∧ WOK P.2.2 ∧ (∃ x : Nat, P.2.1 4 = nI x ∧ x ≤ 1000000) ∧ ∃ x : Nat, P.2.1 5 = nI x ∧ x ≤ 1000000 := by
  unfold plR at h
  rw [e] at h
  exact h
theorem plR2 {w : Nat → Int32} (h : plR d P w) (e : P.1 = 2) : w 6 = 0 ∧ w 7 = 0 ∧ w 8 = P.2.1 6 ∧ (∃ x : Nat, P.2.1 6 = nI x ∧ x ≤ 6) ∧ ∀ k, k < 6 → w (9 + k) = P.2.1 k ∧ ∃ x : Nat, P.2.1 k = nI x ∧ x ≤ 1000000 := by
  unfold plR at h
  rw [e] at h
  exact h
theorem nI_k4 {k : Nat} (hk : k ≤ 5) {j : Nat} (hj : j ≤ 5) : nI k = nI j ↔ k = j := nI_eq (by omega) (by omega)
set_option maxHeartbeats 400000 in
theorem r_second (h : HR Z vs pl RW cn rc d F) (q n : Nat → Nat) (place value : Int32) (hs : gp Z (tN place) ≠ none) : AO F (sp_second F place value) (sc_X3_tellValue Z q (pl (tN place)) n place value).1 (sc_X3_tellValue Z q (pl (tN place)) n place value).2.1 vs (plO pl (tN place) (sc_X3_tellValue Z q (pl (tN place)) n place value).2.2) RW cn rc d := by
  unfold sp_second sc_X3_tellValue
  rw [spP, spV]
  by_cases c0 : sc_X3_isPlace place = 0
  · rw [if_pos c0, if_pos c0]; exact AO_no h
  rw [if_neg c0, if_neg c0]
  have hp := (pl_of c0).2
  rcases h.kind0 hp with ⟨a, _⟩ | ⟨a, _⟩ | ⟨a, b, e, e2, e3⟩
  · exact absurd a hs
  · exact absurd a hs
  rw [h.on1 hp]
  by_cases c1 : go Z (tN place) = 0
  rotate_left
  · rw [if_neg c1, if_neg (fun z => c1 ((h.on0 hp).mp z))]
    split <;> exact AO_no h
  rw [if_pos c1, if_pos ((h.on0 hp).mpr c1), e]
  by_cases c2 : (pl (tN place)).1 = 4
  rotate_left
  · rw [if_neg (show ¬ nI (pl (tN place)).1 = 4 from fun z => c2 ((nI_k4 (by omega) (j := 4) (by omega)).mp z)), if_neg (show ¬ 4 ≤ (pl (tN place)).1 by omega)]; exact AO_no h
  rw [if_pos (show nI (pl (tN place)).1 = 4 by rw [c2]; rfl), if_pos (show 4 ≤ (pl (tN place)).1 by omega)]
  by_cases c3 : sc_X3_isValue value = 0
  · rw [if_pos c3, if_pos c3]; exact AO_no h
  rw [if_neg c3, if_neg c3]
  obtain ⟨j, ej, j1, j2⟩ := val_of c3
  obtain ⟨w6, w7, w8, w2, w3, f0, f1, wk, v4, v5⟩ := plR4 e3 c2
  have g : ∀ k, k ≠ 2 → k ≠ 3 → k ≠ 8 → sh (shp (shp (shp F (tN place) 3 (sh F (tN place) 2)) (tN place) 2 value) (tN place) 8 (sh F (tN place) 8 + 1)) (tN place) k = sh F (tN place) k := fun k a b c => (sh_ne c).trans ((sh_ne a).trans (sh_ne b))
  refine ⟨?_, HR_sh (F' := zR (shp (shp (shp F (tN place) 3 (sh F (tN place) 2)) (tN place) 2 value) (tN place) 8 (sh F (tN place) 8 + 1)) _) h rfl rfl rfl (fun q hq => ⟨gp_gpp_ne hq, rfl⟩) ?_ (Or.inl c1) rfl rfl rfl rfl (fun q hq k hk => ?_) ?_, kk_id, ?_⟩
  · show sh F (tN place) 8 + 1 = (pl (tN place)).2.1 3 + 1
    rw [w8]
  · rw [gp_gpp_eq]; exact ⟨fun z => by simp at z, fun z => absurd z a⟩
  · exact (sh_no hq hk (by decide)).trans ((sh_no hq hk (by decide)).trans (sh_no hq hk (by decide)))
  · rw [gp_gpp_eq, gb_gpp, go_gpp]
    refine ⟨(g 1 (by decide) (by decide) (by decide)).trans (h.on1 hp), b, ?_, (g 6 (by decide) (by decide) (by decide)).trans (w6.trans f0), (g 7 (by decide) (by decide) (by decide)).trans (w7.trans f1), ?_, ?_, ?_, rfl, rfl, wk, ⟨j, ej, j2⟩, v4⟩
    · exact (g 0 (by decide) (by decide) (by decide)).trans (e.trans (by rw [c2]))
    · show sh (shp _ (tN place) 8 _) (tN place) 8 = (pl (tN place)).2.1 3 + 1
      rw [sh_eq, w8]
    · show sh (shp (shp _ (tN place) 2 value) (tN place) 8 _) (tN place) 2 = value
      rw [sh_ne (by decide), sh_eq]
    · show sh (shp (shp (shp _ (tN place) 3 _) (tN place) 2 value) (tN place) 8 _) (tN place) 3 = (pl (tN place)).2.1 4
      rw [sh_ne (by decide), sh_ne (by decide), sh_eq, w2]
  · show sh F (tN place) 8 + 1 = (pl (tN place)).2.1 3 + 1
    rw [w8]
theorem r_second_n (h : HR Z vs pl RW cn rc d F) (place value : Int32) (hs : gp Z (tN place) = none) : AO F (sp_second F place value) (sc_X3_tellValue_n Z place value) Z vs pl RW cn rc d := by
  unfold sp_second sc_X3_tellValue_n
  rw [spP, spV]
  by_cases c0 : sc_X3_isPlace place = 0
  · rw [if_pos c0, if_pos c0]; exact AO_no h
  rw [if_neg c0, if_neg c0]
  have hp := (pl_of c0).2
  rw [if_neg (show ¬ sh F (tN place) 0 = 4 by
    rcases h.kind0 hp with ⟨_, _, e, _⟩ | ⟨_, _, e, _⟩ | ⟨a, _⟩
    · rw [e]; decide
    · rw [e]; decide
    · exact absurd hs a), ite_self]
  exact AO_no h
set_option maxHeartbeats 400000 in
theorem r_item_n (h : HR Z vs pl RW cn rc d F) (hrc : rc ≤ 511) (n : Nat → Nat) (place value : Int32) (hs : gp Z (tN place) = none) : ∃ rc', (rc ≤ rc' ∧ rc' ≤ rc + 1) ∧ AO F (sp_item F place value) (sc_X3_bringItem_n Z RW n rc place value).1 (sc_X3_bringItem_n Z RW n rc place value).2.1 vs (plO pl (tN place) (sc_X3_bringItem_n Z RW n rc place value).2.2.2) (sc_X3_bringItem_n Z RW n rc place value).2.2.1 cn rc' d := by
  unfold sp_item sc_X3_bringItem_n
  rw [spP, spV]
  by_cases c0 : sc_X3_isPlace place = 0
  · rw [if_pos c0, if_pos c0]; exact AO_noR h
  rw [if_neg c0, if_neg c0, ite_self]
  have hp := (pl_of c0).2
  rcases h.kind0 hp with ⟨a, b, e, e2⟩ | ⟨a, b, e, e2⟩ | ⟨a, _⟩
  · have ef : sc_X3_isFree Z place = 1 := by unfold sc_X3_isFree; rw [if_pos a, if_pos b]
    have ew : sc_X3_whyNotTo Z place = 0 := by unfold sc_X3_whyNotTo; rw [if_neg c0, ef, if_neg (by decide)]
    rw [e, if_pos rfl, ef, if_neg (show ¬ (1 : Int32) = 0 by decide)]
    unfold sc_X3_beginLot
    by_cases c1 : sc_X3_isValue value = 0
    · rw [if_pos c1, if_pos c1]; exact AO_noR h
    rw [if_neg c1, if_neg c1]
    obtain ⟨j, ej, j1, j2⟩ := val_of c1
    have hG := comes_f (F := F) (place := place) (kd := 2)
    generalize sp_comes F place 2 = G at hG ⊢
    have hc := hG.1
    have g : ∀ k, k ≠ 8 → k ≠ 9 → sh (shp (shp G (tN place) 9 value) (tN place) 8 (0 + 1)) (tN place) k = sh G (tN place) k := fun k a b => (sh_ne a).trans (sh_ne b)
    have hwi : ∀ k, k < 6 → sc_X4_withItem (fun _ => 0) value k = if k = 0 then value else 0 := fun k hk => by
      have : k = 0 ∨ k = 1 ∨ k = 2 ∨ k = 3 ∨ k = 4 ∨ k = 5 := by omega
      rcases this with rfl | rfl | rfl | rfl | rfl | rfl <;> rfl
    have en : sc_X4_numberOfLatest (sc_X4_withItem (fun _ => 0) value) = 0 := by
      show (0 : Int32) + 1 - 1 = 0
      decide
    refine ⟨rc + 1, by omega, en.symm, HR_put (F' := zR (shp (shp G (tN place) 9 value) (tN place) 8 (0 + 1)) 0) h hrc ew hc.1 hc.2.1 hc.2.2.1 hc.2.2.2.1 (fun q hq k hk => ?_) ?_ ?_ ?_, hc.2.2.2.2, en.symm⟩
    · exact (sh_no hq hk (by decide)).trans ((sh_no hq hk (by decide)).trans (hG.2.2.2.2 q k hq hk))
    · exact (g 0 (by decide) (by decide)).trans hG.2.1
    · exact (g 1 (by decide) (by decide)).trans (hG.2.2.2.1 _ (by decide) (by decide) (by decide))
    · refine ⟨(g 6 (by decide) (by decide)).trans (hG.2.2.2.1 _ (by decide) (by decide) (by decide)), (g 7 (by decide) (by decide)).trans (hG.2.2.2.1 _ (by decide) (by decide) (by decide)), sh_eq, ⟨1, rfl, by omega⟩, fun k hk => ?_⟩
      show sh (shp (shp G (tN place) 9 value) (tN place) 8 (0 + 1)) (tN place) (9 + k) = sc_X4_withItem (fun _ => 0) value k ∧ ∃ x : Nat, sc_X4_withItem (fun _ => 0) value k = nI x ∧ x ≤ 1000000
      rw [hwi k hk, sh_ne (show 9 + k ≠ 8 by omega)]
      by_cases z : k = 0
      · subst z
        rw [if_pos rfl]
        exact ⟨sh_eq, j, ej, j2⟩
      · rw [if_neg z, sh_ne (by omega)]
        exact ⟨hG.2.2.2.1 _ (by omega) (by omega) (by omega), 0, rfl, by omega⟩
  · have ef : sc_X3_isFree Z place = 0 := by unfold sc_X3_isFree; rw [if_pos a, b, if_neg (by decide)]
    rw [e, if_neg (by decide), if_neg (by decide), ef, if_pos rfl]; exact AO_noR h
  · exact absurd hs a
set_option maxHeartbeats 400000 in
theorem r_item (h : HR Z vs pl RW cn rc d F) (q n : Nat → Nat) (place value : Int32) (hs : gp Z (tN place) ≠ none) : AO F (sp_item F place value) (sc_X3_bringItem Z RW q (pl (tN place)) n rc place value).1 (sc_X3_bringItem Z RW q (pl (tN place)) n rc place value).2.1 vs (plO pl (tN place) (sc_X3_bringItem Z RW q (pl (tN place)) n rc place value).2.2.2) (sc_X3_bringItem Z RW q (pl (tN place)) n rc place value).2.2.1 cn rc d := by
  unfold sp_item sc_X3_bringItem
  rw [spP, spV]
  by_cases c0 : sc_X3_isPlace place = 0
  · rw [if_pos c0, if_pos c0]; exact AO_no h
  rw [if_neg c0, if_neg c0]
  have hp := (pl_of c0).2
  rcases h.kind0 hp with ⟨a, _⟩ | ⟨a, _⟩ | ⟨a, b, e, e2, e3⟩
  · exact absurd a hs
  · exact absurd a hs
  rw [h.on1 hp, e, if_neg (nI_m1n (by omega))]
  by_cases c1 : go Z (tN place) = 0
  rotate_left
  · rw [if_neg c1, if_neg (fun z => c1 ((h.on0 hp).mp z)), ite_self]
    exact AO_no h
  rw [if_pos c1, if_pos ((h.on0 hp).mpr c1)]
  by_cases c2 : (pl (tN place)).1 = 2
  rotate_left
  · rw [if_neg (show ¬ nI (pl (tN place)).1 = 2 from fun z => c2 ((nI_k4 (by omega) (j := 2) (by omega)).mp z)), if_neg c2]; exact AO_no h
  rw [if_pos (show nI (pl (tN place)).1 = 2 by rw [c2]; rfl), if_pos c2]
  by_cases c3 : sc_X3_isValue value = 0
  · rw [if_pos c3, if_pos c3]; exact AO_no h
  rw [if_neg c3, if_neg c3]
  obtain ⟨j, ej, j1, j2⟩ := val_of c3
  obtain ⟨w6, w7, w8, ⟨m, em, hm⟩, hv⟩ := plR2 e3 c2
  rw [w8]
  unfold sc_X4_isFull
  by_cases c4 : m = 6
  · rw [if_pos (show (pl (tN place)).2.1 6 = 6 by rw [em, c4]; rfl), if_neg (show ¬ (pl (tN place)).2.1 6 < 6 by rw [em, c4]; decide), if_neg (by decide)]; exact AO_no h
  have lt6 : (pl (tN place)).2.1 6 < 6 := by rw [em]; exact (nI_ltI (a := m) (b := 6) (by omega) (by omega)).mpr (by omega)
  rw [if_neg (show ¬ (pl (tN place)).2.1 6 = 6 from fun z => c4 (by rw [em] at z; exact (nI_eq (b := 6) (by omega) (by omega)).mp z)), if_pos lt6, if_pos rfl, em, tN_n (by omega)]
  have hwi : sc_X4_withItem (pl (tN place)).2.1 value = upd (upd (pl (tN place)).2.1 m value) 6 (nI (m + 1)) := by
    unfold sc_X4_withItem
    rw [em, if_neg (show ¬ (6 : Int32) ≤ nI m from fun z => absurd ((nI_leI (a := 6) (b := m) (by omega) (by omega)).mp z) (by omega)), tN_n (by omega), nI_1]
  rw [hwi]
  have g : ∀ k, k ≠ 9 + m → k ≠ 8 → sh (shp (shp F (tN place) (9 + m) value) (tN place) 8 (nI m + 1)) (tN place) k = sh F (tN place) k := fun k a b => (sh_ne b).trans (sh_ne a)
  have en : sc_X4_numberOfLatest (upd (upd (pl (tN place)).2.1 m value) 6 (nI (m + 1))) = nI m := by
    unfold sc_X4_numberOfLatest
    rw [upd_eq]
    exact nI_pred m
  refine ⟨en.symm, HR_sh (F' := zR (shp (shp F (tN place) (9 + m) value) (tN place) 8 (nI m + 1)) _) h rfl rfl rfl (fun q hq => ⟨gp_gpp_ne hq, rfl⟩) ?_ (Or.inl c1) rfl rfl rfl rfl (fun q hq k hk => ?_) ?_, kk_id, en.symm⟩
  · rw [gp_gpp_eq]; exact ⟨fun z => by simp at z, fun z => absurd z a⟩
  · exact (sh_no hq hk (by decide)).trans (sh_no hq hk (by omega))
  · rw [gp_gpp_eq, gb_gpp, go_gpp]
    refine ⟨(g 1 (by omega) (by decide)).trans (h.on1 hp), b, ?_, (g 6 (by omega) (by decide)).trans w6, (g 7 (by omega) (by decide)).trans w7, ?_, ⟨m + 1, show upd (upd (pl (tN place)).2.1 m value) 6 (nI (m + 1)) 6 = nI (m + 1) from upd_eq, by omega⟩, fun k hk => ?_⟩
    · exact (g 0 (by omega) (by decide)).trans (e.trans (by rw [c2]))
    · show sh (shp _ (tN place) 8 (nI m + 1)) (tN place) 8 = upd (upd (pl (tN place)).2.1 m value) 6 (nI (m + 1)) 6
      rw [sh_eq, upd_eq, nI_1]
    · show sh (shp (shp F (tN place) (9 + m) value) (tN place) 8 (nI m + 1)) (tN place) (9 + k) = upd (upd (pl (tN place)).2.1 m value) 6 (nI (m + 1)) k ∧ ∃ x : Nat, upd (upd (pl (tN place)).2.1 m value) 6 (nI (m + 1)) k = nI x ∧ x ≤ 1000000
      rw [sh_ne (show 9 + k ≠ 8 by omega), upd_ne (show k ≠ 6 by omega)]
      by_cases z : k = m
      · subst z
        rw [sh_eq, upd_eq]
        exact ⟨rfl, j, ej, j2⟩
      · rw [sh_ne (by omega), upd_ne z]
        exact hv k hk
set_option maxHeartbeats 400000 in
theorem r_box (h : HR Z vs pl RW cn rc d F) (place : Int32) : AO F (sp_box F place) (sc_X3_moveBox Z place).1 (sc_X3_moveBox Z place).2 vs pl RW cn rc d := by
  have epl : ∀ p, plW pl p (pl p) = pl := fun p => funext fun j => by
    by_cases z : j = p
    · rw [z, plW_eq]
    · rw [plW_ne z]
  unfold sp_box sc_X3_moveBox
  rw [spP]
  by_cases c0 : sc_X3_isPlace place = 0
  · rw [if_pos c0, if_pos c0]; exact AO_no h
  rw [if_neg c0, if_neg c0]
  have hp := (pl_of c0).2
  have key : ∀ (kd x : Int32), ((x = 0 ∧ kd = -1) ∨ (x = 1 ∧ kd = 5)) → gp Z (tN place) = none → go Z (tN place) = 0 → ∀ (a : Int32) (G : mZ), CF F place kd G → HR (gbp Z (tN place) x) vs pl RW cn rc d (zR G a) := fun kd x hx hn ho a G hG => by
    have hc := hG.1
    rw [← epl (tN place)]
    refine HR_sh (F' := zR G a) h rfl rfl rfl (fun q hq => ⟨rfl, gb_gbp_ne hq⟩) Iff.rfl (Or.inl ho) hc.1 hc.2.1 hc.2.2.1 hc.2.2.2.1 (fun q hq k hk => hG.2.2.2.2 q k hq hk) ?_
    rw [gp_gbp, gb_gbp_eq, go_gbp, hn, ho]
    refine ⟨hG.2.2.2.1 _ (by decide) (by decide) (by decide), rfl, ?_, fun k k1 k2 k3 => hG.2.2.2.1 k (by omega) k3 k2⟩
    have e0 : sh (zR G a) (tN place) 0 = kd := hG.2.1
    rw [e0]
    exact hx
  rcases h.kind0 hp with ⟨a, b, e, e2⟩ | ⟨a, b, e, e2⟩ | ⟨a, b, e, e2, _⟩
  · rw [e, if_pos rfl, if_pos rfl, if_pos rfl, if_pos a, if_pos b]
    have hG := comes_f (F := F) (place := place) (kd := 5)
    generalize sp_comes F place 5 = G at hG ⊢
    exact ⟨rfl, key 5 1 (Or.inr ⟨rfl, rfl⟩) a e2 1 G hG, sameK_R hG.1.2.2.2.2, rfl⟩
  · rw [e, if_neg (by decide), if_pos rfl, if_neg (by decide), if_neg (by decide), if_pos a, b, if_neg (by decide)]
    have hG := leaves_f (F := F) (place := place)
    generalize sp_leaves F place = G at hG ⊢
    exact ⟨rfl, key (-1) 0 (Or.inl ⟨rfl, rfl⟩) a e2 0 G hG, sameK_R hG.1.2.2.2.2, rfl⟩
  · rw [e, if_neg (nI_m1n (by omega)), if_neg (show ¬ nI (pl (tN place)).1 = 5 from fun z => absurd ((nI_k4 (by omega) (j := 5) (by omega)).mp z) (by omega)), if_neg a]
    exact AO_no h
theorem HR.ispl (h : HR Z vs pl RW cn rc d F) {place : Int32} (hp : tN place < 40) : sp_isPledge F place = if gp Z (tN place) = none then 0 else 1 := by
  unfold sp_isPledge
  rcases h.kind0 hp with ⟨a, b, e, e2⟩ | ⟨a, b, e, e2⟩ | ⟨a, b, e, e2, _⟩
  · rw [e, if_pos (by decide), if_pos a]
  · rw [e, if_neg (by decide), if_pos (by decide), if_pos a]
  · rw [e, if_neg (nI_pos (by omega)), if_neg (show ¬ (4 : Int32) < nI (pl (tN place)).1 from fun z => absurd ((nI_ltI (a := 4) (by omega) (by omega)).mp z) (by omega)), if_neg a]
set_option maxHeartbeats 400000 in
theorem r_away (h : HR Z vs pl RW cn rc d F) (hrc : rc ≤ 511) (place : Int32) : ∃ rc', (rc ≤ rc' ∧ rc' ≤ rc + 1) ∧ AO F (sp_away F place) (sc_X3_takeAway Z RW rc place).1 (sc_X3_takeAway Z RW rc place).2.1 vs pl (sc_X3_takeAway Z RW rc place).2.2 cn rc' d := by
  have epl : ∀ p, plW pl p (pl p) = pl := fun p => funext fun j => by
    by_cases z : j = p
    · rw [z, plW_eq]
    · rw [plW_ne z]
  unfold sp_away sc_X3_takeAway sc_X3_whyNotFreeOn
  rw [spP]
  by_cases c0 : sc_X3_isPlace place = 0
  · rw [if_pos c0, if_pos c0, if_neg (by decide)]; exact AO_noR h
  rw [if_neg c0, if_neg c0]
  have hp := (pl_of c0).2
  have hpl := (pl_of c0).1
  rw [h.ispl hp, h.on1 hp]
  by_cases c1 : gp Z (tN place) = none
  · rw [if_pos c1, if_pos rfl, if_pos c1, if_neg (by decide)]; exact AO_noR h
  rw [if_neg c1, if_neg (by decide), if_neg c1]
  by_cases c2 : go Z (tN place) = 0
  rotate_left
  · rw [if_neg c2, if_neg (fun z => c2 ((h.on0 hp).mp z)), if_neg (by decide)]; exact AO_noR h
  rw [if_pos c2, if_pos ((h.on0 hp).mpr c2), if_pos rfl]
  simp only [sc_X3_addRow]
  have hG := leaves_f (F := F) (place := place)
  generalize sp_leaves F place = G at hG ⊢
  have hc := hG.1
  have hb : gb Z (tN place) = 0 := by
    rcases h.kind0 hp with ⟨a, b, _⟩ | ⟨a, b, _⟩ | ⟨a, b, _⟩
    · exact b
    · exact absurd a c1
    · exact b
  refine ⟨rc + 1, by omega, rfl, ?_, hc.2.2.2.2, rfl⟩
  rw [← epl (tN place)]
  refine HR_sr (F' := zR G 0) h hrc (by rw [gh_ghp_ne (by decide), gh_gpp]) (by rw [gh_ghp_ne (by decide), gh_gpp]) (by rw [gh_ghp_eq, cB_n hrc]) rfl rfl (fun q hq => ⟨by rw [gp_ghp, gp_gpp_ne hq], rfl⟩) c2 hc.1 hc.2.1 hc.2.2.1 hc.2.2.2.1 (fun q hq k hk => hG.2.2.2.2 q k hq hk) ?_ (fun i hi => ?_) ?_ (fun j hj hj2 => ?_) ?_ (fun j hj hj2 => ?_)
  · rw [gp_ghp, gp_gpp_eq, gb_ghp, gb_gpp, go_ghp, go_gpp, c2, hb]
    exact shR_e rfl hG
  · simp only [rwp_i (show i ≠ rc by omega), rb_i (show i ≠ rc by omega)]
  · rw [rwp_at, if_neg (by decide), rb_20, gh_gpp]
  · rw [rwp_at, if_neg hj2, rb_t hj]
  · rw [rwp_at, if_pos rfl, rb_t (by decide), plS_end (Z := Z) (p := tN place) c1 (by rw [gp_ghp, gp_gpp_eq]) (fun q hq => by rw [gp_ghp, gp_gpp_ne hq]) 40, if_pos hp, h.2.2.2.2.2.1.2.2.2.1]
  · rw [rwp_at, if_neg (by omega), rb_z hj hj2]
end RS2
