/-! proving a claim -/
section RE3
variable {Z : hZ} {vs : Nat → Nat → Int32} {pl : Nat → pZ} {RW : Nat → Nat → Int64} {cn rc d i : Nat} {F : mZ}
set_option maxHeartbeats 400000 in
theorem r_prove (h : HR Z vs pl RW cn rc d F) (hi : i < cn) (hrc : rc ≤ 511) : ∃ rc', (rc ≤ rc' ∧ rc' ≤ rc + 1) ∧ AO F (sp_prove F (nI (i + 1))) (sc_X3_proveClaim (nI (i + 1)) (vs i) Z RW rc).1 (sc_X3_proveClaim (nI (i + 1)) (vs i) Z RW rc).2.2.1 (vsW vs i (sc_X3_proveClaim (nI (i + 1)) (vs i) Z RW rc).2.1) pl (sc_X3_proveClaim (nI (i + 1)) (vs i) Z RW rc).2.2.2 cn rc' d := by
  have ht := h.2.2.1.1 i hi
  unfold sp_prove sc_X3_proveClaim
  rw [if_neg (h.isT hi), h.opn hi, h.claimed hi, h.tkv hi (k := 1) (by decide) (by decide) (by decide)]
  by_cases c0 : sc_X9_isOpen (nI (i + 1)) (vs i) = 0
  · have e : sc_X3_whyNotClaimed (nI (i + 1)) (vs i) = -2 := by unfold sc_X3_whyNotClaimed; rw [if_pos c0]
    rw [if_pos c0, e, if_neg (by decide)]; exact AO_idR h
  rw [if_neg c0]
  by_cases c1 : sc_X9_isClaimed (nI (i + 1)) (vs i) = 0
  · have e : sc_X3_whyNotClaimed (nI (i + 1)) (vs i) = -3 := by unfold sc_X3_whyNotClaimed; rw [if_neg c0, if_pos c1]
    rw [if_pos c1, e, if_neg (by decide)]; exact AO_idR h
  have e : sc_X3_whyNotClaimed (nI (i + 1)) (vs i) = 0 := by unfold sc_X3_whyNotClaimed; rw [if_neg c0, if_neg c1]
  rw [if_neg c1, if_pos e]
  have ho := opn_op c0
  obtain ⟨p, e15, hp⟩ := ht.2.2.2.2.2.2.1
  have hk : ∀ k, k ≠ 8 → k ≠ 9 → sc_X9_endClaim (nI (i + 1)) (vs i) (gh Z 0) k = vs i k := fun k k1 k2 => (upd_ne k1).trans (upd_ne k2)
  rw [endT_eq hp ((hk 15 (by decide) (by decide)).trans e15)]
  simp only [sc_X0_writeGrowing, sc_X7_growth]
  have hD : tkR (sc_X9_endClaim (nI (i + 1)) (vs i) (gh Z 0)) (tk (sp_dropped F (nI (i + 1))) (i + 1)) := by
    unfold sp_dropped sc_X9_endClaim
    rw [h.claims hi, h.tn hi, tk_upd, tk_upd]
    exact tkR_upd (tkR_upd ht.1 (by decide) (by decide) (by decide)) (by decide) (by decide) (by decide)
  have eo : sp_owed (sp_dropped F (nI (i + 1))) (nI (i + 1)) = sc_X9_owed (nI (i + 1)) (vs i) := by
    unfold sp_owed sc_X9_owed
    rw [h.tn hi, hD.1 1 (by decide) (by decide) (by decide), hD.1 2 (by decide) (by decide) (by decide), hk 1 (by decide) (by decide), hk 2 (by decide) (by decide)]
  have eo2 : sc_X9_owed (nI (i + 1)) (upd (sc_X9_endClaim (nI (i + 1)) (vs i) (gh Z 0)) 0 3) = sc_X9_owed (nI (i + 1)) (vs i) := by
    unfold sc_X9_owed
    rw [upd_ne (by decide), upd_ne (by decide), hk 1 (by decide) (by decide), hk 2 (by decide) (by decide)]
  rw [eo, eo2]
  generalize hF : zcp (zcp (sp_dropped F (nI (i + 1))) 5 (zc (sp_dropped F (nI (i + 1))) 5 + (sc_X9_owed (nI (i + 1)) (vs i)).toInt64)) 6 (zc (sp_dropped F (nI (i + 1))) 6 + (vs i 1).toInt64) = F1
  have hT : tkR (sc_X9_endClaim (nI (i + 1)) (vs i) (gh Z 0)) (tk F1 (i + 1)) := by rw [← hF]; exact hD
  have ea : sp_owed (sp_closes F1 (nI (i + 1)) 3) (nI (i + 1)) = sc_X9_owed (nI (i + 1)) (vs i) := by
    rw [owed_closes, ← eo, ← hF]
    rfl
  rw [ea]
  refine ⟨rc + 1, by omega, rfl, ?_, ?_, rfl⟩
  · refine (HR_en h hi hrc ho hp e15 (v := sc_X9_endClaim (nI (i + 1)) (vs i) (gh Z 0)) (st := 3) (by decide) (F1 := F1) (fun k hk' => hk k (by omega) (by omega)) hT (tI_end ⟨tA_c ht.2.1 rfl rfl rfl rfl rfl rfl, tU_c ht.2.2.1 rfl rfl rfl rfl rfl, tO_c ht.2.2.2.1 rfl rfl rfl rfl, tB_c ht.2.2.2.2 rfl rfl rfl rfl⟩ (by decide)) (by rw [← hF]; rfl) (by rw [← hF]; rfl) (by rw [← hF]; rfl) (fun n hn k hk => ?_) (fun j hj => ?_) ?_ ?_ ?_ ?_ ?_ ?_ ?_ ?_ ?_ (fun y hy k => ?_)).1
    · rw [← hF]
      show tk (sp_dropped F (nI (i + 1))) n k = _
      unfold sp_dropped
      rw [h.tn hi, tk_no hn hk (by decide), tk_no hn hk (by decide)]
    · simp only [rwp_i (show j ≠ rc by omega), rb_i (show j ≠ rc by omega)]
    · simp [rwp_at, rb_20]
    · rw [← hF]
      have z := h.2.2.2.2.2.1.1
      refine ⟨?_, ?_, ?_, ?_, ?_, ?_, ?_⟩
      · simp [rwp_at, rb_t]; exact z.1
      · simp [rwp_at, rb_t]; exact z.2.1
      · simp [rwp_at, rb_t]; exact z.2.2.1
      · simp [rwp_at, rb_t]; exact z.2.2.2.1
      · simp [rwp_at, rb_t]; exact z.2.2.2.2.1
      · simp [rwp_at, rb_t]; rw [z.2.2.2.2.2.1]; rfl
      · simp [rwp_at, rb_t]; rw [z.2.2.2.2.2.2, upd_ne (by decide), hk 1 (by decide) (by decide)]; rfl
    · simp [rwp_at, rb_t, hk 1]
    · simp [rwp_at, rb_t]
    · simp [rwp_at, rb_t]
    · simp [rwp_at, rb_t]
    · simp [rwp_at, rb_t]
      rw [upd_ne (by decide)]
      grind
    · rw [hk 1 (by decide) (by decide), hk 2 (by decide) (by decide), hk 3 (by decide) (by decide), hk 4 (by decide) (by decide), hk 6 (by decide) (by decide)]
      refine ⟨?_, ?_, ?_⟩ <;> simp [rwp_at]
    · refine ⟨?_, ?_⟩ <;> simp [rwp_at, rb_z]
    · exact ovN_c cn (fun j _ => ⟨vsW_k ((upd_ne (by decide)).trans (hk 12 (by decide) (by decide))) j, vsW_k ((upd_ne (by decide)).trans (hk 14 (by decide) (by decide))) j, vsW_k ((upd_ne (by decide)).trans (hk 30 (by decide) (by decide))) j, vsW_k ((upd_ne (by decide)).trans (hk 31 (by decide) (by decide))) j⟩)
  · have e : sameK F F1 := by rw [← hF]; exact kk_id
    have e2 : sameK F1 (sp_closes F1 (nI (i + 1)) 3) := closes_f.1
    exact sameK_R (sameK_tr e e2)
end RE3
