/-! selling -/
section RE4
variable {Z : hZ} {vs : Nat → Nat → Int32} {pl : Nat → pZ} {RW : Nat → Nat → Int64} {cn rc d i : Nat} {F : mZ}
theorem owed_z {F : mZ} {j : Nat} {x : Int64} {t : Int32} : sp_owed (zcp F j x) t = sp_owed F t := rfl
set_option maxHeartbeats 400000 in
theorem r_sale (h : HR Z vs pl RW cn rc d F) (hi : i < cn) (hrc : rc ≤ 511) : ∃ rc', (rc ≤ rc' ∧ rc' ≤ rc + 1) ∧ AO F (sp_sale F (nI (i + 1))) (sc_X3_sellPledge (nI (i + 1)) (vs i) Z RW rc).1 (sc_X3_sellPledge (nI (i + 1)) (vs i) Z RW rc).2.2.1 (vsW vs i (sc_X3_sellPledge (nI (i + 1)) (vs i) Z RW rc).2.1) pl (sc_X3_sellPledge (nI (i + 1)) (vs i) Z RW rc).2.2.2 cn rc' d := by
  have ht := h.2.2.1.1 i hi
  unfold sp_sale sc_X3_sellPledge
  rw [if_neg (h.isT hi), h.forf hi, h.claimed hi, owed_z, owed_z, owed_z, h.owed hi, h.tkv hi (k := 1) (by decide) (by decide) (by decide), h.tkv hi (k := 2) (by decide) (by decide) (by decide), h.tkv hi (k := 10) (by decide) (by decide) (by decide), h.tkv hi (k := 11) (by decide) (by decide) (by decide), ← h.today, ← h.rule (j := 1) (by decide), ← h.rule (j := 2) (by decide), cut_eq]
  by_cases c0 : sc_X9_isForSale (nI (i + 1)) (vs i) = 0
  · rw [if_pos c0, if_pos c0]; exact AO_idR h
  rw [if_neg c0, if_neg c0]
  by_cases c1 : vs i 11 = 0
  · rw [if_pos c1, if_pos c1]; exact AO_idR h
  rw [if_neg c1, if_neg c1]
  by_cases c2 : sc_X9_isClaimed (nI (i + 1)) (vs i) = 0
  rotate_left
  · rw [if_neg c2, if_neg c2]; exact AO_idR h
  rw [if_pos c2, if_pos c2]
  have ho := sale_op c0
  have hd := h.1.2.2.1
  obtain ⟨p, e15, hp⟩ := ht.2.2.2.2.2.2.1
  obtain ⟨s, b, pr, r, x, e4, e3, e1, e6, e2, q1, q2, q3, q4, q5, q6, q7⟩ := ht.2.1
  obtain ⟨hb, e10, hhb⟩ := ht.2.2.2.2.2.2.2
  obtain ⟨ov, f12, fo, f30, f31, f0⟩ := ht.2.2.2.1
  obtain ⟨rt, er, hrt⟩ := (h.2.1 1 (by decide)).2
  have hrt : rt ≤ 500 := hrt
  have hfee : (hb * rt + 999) / 1000 ≤ hb := by
    have := Nat.mul_le_mul_left hb hrt
    omega
  have efee : sc_X11_cutUp (vs i 10) (gr Z 1) = nI ((hb * rt + 999) / 1000) := by rw [e10, er]; exact cut_n hhb (by omega)
  rw [efee]
  generalize (hb * rt + 999) / 1000 = fee at *
  have er1 : vs i 10 - nI fee = nI (hb - fee) := by rw [e10]; exact pk_sub hfee
  rw [er1]
  have eti : (if vs i 2 < nI (hb - fee) then vs i 2 else nI (hb - fee)) = nI (min x (hb - fee)) := by rw [e2]; exact nI_min (by omega) (by omega)
  rw [eti]
  have er2 : nI (hb - fee) - nI (min x (hb - fee)) = nI (hb - fee - min x (hb - fee)) := pk_sub (Nat.min_le_right _ _)
  rw [er2]
  have etp : (if vs i 1 < nI (hb - fee - min x (hb - fee)) then vs i 1 else nI (hb - fee - min x (hb - fee))) = nI (min pr (hb - fee - min x (hb - fee))) := by rw [e1]; exact nI_min (by omega) (by omega)
  rw [etp]
  have hl1 := Nat.min_le_left pr (hb - fee - min x (hb - fee))
  have hl2 := Nat.min_le_right pr (hb - fee - min x (hb - fee))
  have er3 : nI (hb - fee - min x (hb - fee)) - nI (min pr (hb - fee - min x (hb - fee))) = nI (hb - fee - min x (hb - fee) - min pr (hb - fee - min x (hb - fee))) := pk_sub hl2
  rw [er3]
  have hov2 : hb - fee - min x (hb - fee) - min pr (hb - fee - min x (hb - fee)) ≤ 10000000 := by omega
  generalize hb - fee - min x (hb - fee) - min pr (hb - fee - min x (hb - fee)) = over at *
  generalize min pr (hb - fee - min x (hb - fee)) = tp at *
  generalize min x (hb - fee) = ti at *
  generalize hv : upd (upd (upd (vs i) 12 (nI over)) 30 (gh Z 0)) 14 (gh Z 0 + gr Z 2) = v1
  have hk : ∀ k, k ≠ 12 → k ≠ 30 → k ≠ 14 → v1 k = vs i k := fun k k1 k2 k3 => by rw [← hv, upd_ne k3, upd_ne k2, upd_ne k1]
  rw [endT_eq hp ((hk 15 (by decide) (by decide) (by decide)).trans e15)]
  simp only [sc_X0_writeGrowing, sc_X7_growth]
  have eo2 : sc_X9_owed (nI (i + 1)) (upd v1 0 2) = sc_X9_owed (nI (i + 1)) (vs i) := by
    unfold sc_X9_owed
    rw [upd_ne (by decide), upd_ne (by decide), hk 1 (by decide) (by decide) (by decide), hk 2 (by decide) (by decide) (by decide)]
  have e10' : upd v1 0 2 10 = vs i 10 := by rw [upd_ne (by decide), hk 10 (by decide) (by decide) (by decide)]
  have e1' : upd v1 0 2 1 = vs i 1 := by rw [upd_ne (by decide), hk 1 (by decide) (by decide) (by decide)]
  rw [eo2, e10', e1', h.tn hi]
  generalize hF : tkp (tkp (zcp (zcp (zcp (zcp (zcp F 3 (zc F 3 + (nI fee).toInt64)) 1 (zc F 1 + (nI ti).toInt64)) 2 (zc F 2 + (nI tp).toInt64)) 5 (zc F 5 + (sc_X9_owed (nI (i + 1)) (vs i) - nI ti - nI tp).toInt64)) 6 (zc F 6 + (vs i 1 - nI tp).toInt64)) (i + 1) 12 (nI over)) (i + 1) 14 (gh Z 0 + gr Z 2) = F1
  have hT : tkR v1 (tk F1 (i + 1)) := by
    rw [← hF, ← hv, tk_upd, tk_upd]
    refine tkR_upd ?_ (by decide) (by decide) (by decide)
    show tkR _ (upd (tk F (i + 1)) 12 (nI over))
    refine ⟨fun k k1 k2 k3 => ?_, ht.1.2.1, ht.1.2.2⟩
    rw [upd_ne (show k ≠ 30 by omega)]
    exact (tkR_upd ht.1 (by decide) (by decide) (by decide)).1 k k1 k2 k3
  have hI1 : tI d (upd v1 0 2) := by
    rw [← hv]
    refine ⟨⟨s, b, pr, r, x, e4, e3, e1, e6, e2, q1, fun z => absurd z (by rw [upd_eq]; decide), q3, q4, q5, q6, q7⟩, tU_c ht.2.2.1 rfl rfl rfl rfl rfl, ⟨over, rfl, hov2, fun _ => ⟨d, h.1.1, Nat.le_refl _⟩, f31, fun z => absurd z (by rw [upd_eq]; decide)⟩, tB_c ht.2.2.2.2 rfl rfl rfl rfl⟩
  refine ⟨rc + 1, by omega, rfl, ?_, ?_, rfl⟩
  · refine (HR_en h hi hrc ho hp e15 (v := v1) (st := 2) (by decide) (F1 := F1) (fun k hk' => hk k (by omega) (by omega) (by omega)) hT hI1 (by rw [← hF]; rfl) (by rw [← hF]; rfl) (by rw [← hF]; rfl) (fun n hn k hk => ?_) (fun j hj => ?_) ?_ ?_ ?_ ?_ ?_ ?_ ?_ ?_ ?_ (fun y hy k => ?_)).1
    · rw [← hF, tk_no hn hk (by decide), tk_no hn hk (by decide)]; rfl
    · simp only [rwp_i (show j ≠ rc by omega), rb_i (show j ≠ rc by omega)]
    · simp [rwp_at, rb_20]
    · rw [← hF]
      have z := h.2.2.2.2.2.1.1
      refine ⟨?_, ?_, ?_, ?_, ?_, ?_, ?_⟩
      · simp [rwp_at, rb_t]; exact z.1
      · simp [rwp_at, rb_t]; rw [z.2.1]; rfl
      · simp [rwp_at, rb_t]; rw [z.2.2.1]; rfl
      · simp [rwp_at, rb_t]; rw [z.2.2.2.1]; rfl
      · simp [rwp_at, rb_t]; exact z.2.2.2.2.1
      · simp [rwp_at, rb_t]; rw [z.2.2.2.2.2.1]; rfl
      · simp [rwp_at, rb_t]; rw [z.2.2.2.2.2.2]; rfl
    · simp [rwp_at, rb_t, hk 1]
    · simp [rwp_at, rb_t]
    · simp [rwp_at, rb_t]
    · simp [rwp_at, rb_t]
    · simp [rwp_at, rb_t, hk 1]
      rw [e1, pk_sub hl1, nI_l (by omega), nI_l (by omega), nI_l (by omega), ← lN_sub hl1]
      grind
    · rw [hk 1 (by decide) (by decide) (by decide), hk 2 (by decide) (by decide) (by decide), hk 3 (by decide) (by decide) (by decide), hk 4 (by decide) (by decide) (by decide), hk 6 (by decide) (by decide) (by decide)]
      refine ⟨?_, ?_, ?_⟩ <;> simp [rwp_at]
    · refine ⟨?_, ?_⟩ <;> simp [rwp_at, rb_z]
    · have hh : sc_X9_hasOverOn (nI (i + 1)) (upd v1 0 2) (nI y) = 0 := by
        unfold sc_X9_hasOverOn
        have a30 : upd v1 0 2 30 = gh Z 0 := by rw [← hv]; rfl
        rw [a30, h.1.1]
        have a2 : nI y < nI d := (nI_ltI (by omega) (by omega)).mpr hy
        rw [if_pos a2]
        split <;> rfl
      have ho2 : sc_X9_hasOverOn (nI (i + 1)) (vs i) (nI y) = 0 := by
        unfold sc_X9_hasOverOn
        rw [f12, (f0 ho).1, if_pos (by decide)]
      have a1 : sc_X9_isHousesOver (nI (i + 1)) (upd v1 0 2) (nI y) = 0 := by unfold sc_X9_isHousesOver; rw [hh, if_pos rfl]
      have a2 : sc_X9_isKeptOver (nI (i + 1)) (upd v1 0 2) (nI y) = 0 := by unfold sc_X9_isKeptOver; rw [hh, if_pos rfl]
      refine ovN_v (a1.trans ?_) (a2.trans ?_) (Or.inr ⟨a1, a2⟩) cn
      · unfold sc_X9_isHousesOver; rw [ho2, if_pos rfl]
      · unfold sc_X9_isKeptOver; rw [ho2, if_pos rfl]
  · have e : sameK F F1 := by rw [← hF]; exact kk_id
    have e2 : sameK F1 (sp_closes F1 (nI (i + 1)) 2) := closes_f.1
    exact sameK_R (sameK_tr e e2)
end RE4
