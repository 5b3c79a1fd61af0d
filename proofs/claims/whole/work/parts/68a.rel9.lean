/-! redeeming, selling, proving a claim -/
theorem tI_end {d : Nat} {v : Nat → Int32} {st : Int32} (h : tI d v) (hst : ¬ st = 0) : tI d (upd v 0 st) := by
  have h0 : ¬ upd v 0 st 0 = 0 := by rw [upd_eq]; exact hst
  obtain ⟨⟨s, b, p, r, x, e4, e3, e1, e6, e2, q1, q2, q3, q4, q5, q6, q7⟩, hU, ⟨ov, o1, o2, o3, o4, o5⟩, hB⟩ := h
  exact ⟨⟨s, b, p, r, x, e4, e3, e1, e6, e2, q1, fun z => absurd z h0, q3, q4, q5, q6, q7⟩, tU_c hU rfl rfl rfl rfl rfl, ⟨ov, o1, o2, o3, o4, fun z => absurd z h0⟩, tB_c hB rfl rfl rfl rfl⟩
theorem cut_eq {a b : Int32} : sp_cutUp (a.toInt64 * b.toInt64) 1000 = sc_X11_cutUp a b := by
  unfold sp_cutUp sc_X11_cutUp
  have : a.toInt64 * b.toInt64 + 1000 - 1 = a.toInt64 * b.toInt64 + 999 := by grind
  rw [this]
theorem cut_n {a b : Nat} (ha : a ≤ 10000000) (hb : b ≤ 1000) : sc_X11_cutUp (nI a) (nI b) = nI ((a * b + 999) / 1000) := by
  unfold sc_X11_cutUp
  have hab : a * b ≤ 10000000 * 1000 := Nat.mul_le_mul ha hb
  rw [nI_l (by omega), nI_l (by omega), lN_mul, show (999 : Int64) = lN 999 from rfl, lN_add, show (1000 : Int64) = lN 1000 from rfl, pk_lDiv (by omega) (by decide) (by decide), lN_i]
theorem closes_f {F : mZ} {t how : Int32} : sameK F (sp_closes F t how) ∧ zt (sp_closes F t how) = zt (tkp F (tN t) 0 how) := by
  unfold sp_closes
  have hG := leaves_f (F := tkp F (tN t) 0 how) (place := tk F (tN t) 15)
  generalize sp_leaves (tkp F (tN t) 0 how) (tk F (tN t) 15) = G at hG ⊢
  exact ⟨sameK_tr (B := tkp F (tN t) 0 how) ⟨rfl, rfl, rfl, rfl, rfl, rfl⟩ hG.1.2.2.2.2, hG.1.2.1⟩
theorem owed_closes {F : mZ} {t how : Int32} : sp_owed (sp_closes F t how) t = sp_owed F t := by
  have e := (closes_f (F := F) (t := t) (how := how)).2
  generalize sp_closes F t how = G at e ⊢
  have e2 : ∀ k, tk G (tN t) k = tk (tkp F (tN t) 0 how) (tN t) k := fun k => by
    show zt G _ = zt (tkp F (tN t) 0 how) _
    rw [e]
  unfold sp_owed
  rw [e2, e2, tk_ne (by decide), tk_ne (by decide)]
theorem sameK_R {F G : mZ} {a : Int32} (h : sameK F G) : sameK F (zR G a) := h
section RE2
variable {Z : hZ} {vs : Nat → Nat → Int32} {pl : Nat → pZ} {RW : Nat → Nat → Int64} {cn rc d i : Nat} {F : mZ}
set_option maxHeartbeats 400000 in
theorem r_redeem (h : HR Z vs pl RW cn rc d F) (hi : i < cn) (hrc : rc ≤ 511) (half coins : Int32) : ∃ rc', (rc ≤ rc' ∧ rc' ≤ rc + 1) ∧ AO F (sp_redeem F (nI (i + 1)) half coins) (sc_X3_giveBack (nI (i + 1)) (vs i) Z RW rc half coins).1 (sc_X3_giveBack (nI (i + 1)) (vs i) Z RW rc half coins).2.2.1 (vsW vs i (sc_X3_giveBack (nI (i + 1)) (vs i) Z RW rc half coins).2.1) pl (sc_X3_giveBack (nI (i + 1)) (vs i) Z RW rc half coins).2.2.2 cn rc' d := by
  have ht := h.2.2.1.1 i hi
  unfold sp_redeem sc_X3_giveBack
  rw [if_neg (h.isT hi), h.free hi, h.claimed hi, h.right hi, h.owed hi, h.tkv hi (k := 2) (by decide) (by decide) (by decide), h.tkv hi (k := 1) (by decide) (by decide) (by decide)]
  by_cases c0 : sc_X9_isHolders (nI (i + 1)) (vs i) = 0
  · have e : sc_X3_whyNotHolders (nI (i + 1)) (vs i) Z half = -2 := by unfold sc_X3_whyNotHolders; rw [if_pos c0]
    rw [if_pos c0, e, if_neg (by decide)]; exact AO_idR h
  rw [if_neg c0]
  by_cases c1 : sc_X9_isClaimed (nI (i + 1)) (vs i) = 0
  rotate_left
  · have e : sc_X3_whyNotHolders (nI (i + 1)) (vs i) Z half = -3 := by unfold sc_X3_whyNotHolders; rw [if_neg c0, if_neg c1]
    rw [if_neg c1, e, if_neg (by decide)]; exact AO_idR h
  rw [if_pos c1]
  by_cases c2 : sc_X9_isRight (nI (i + 1)) (vs i) half (gh Z 0) = 0
  · have e : sc_X3_whyNotHolders (nI (i + 1)) (vs i) Z half = -4 := by unfold sc_X3_whyNotHolders; rw [if_neg c0, if_pos c1, if_pos c2]
    rw [if_pos c2, e, if_neg (by decide)]; exact AO_idR h
  have e : sc_X3_whyNotHolders (nI (i + 1)) (vs i) Z half = 0 := by unfold sc_X3_whyNotHolders; rw [if_neg c0, if_pos c1, if_neg c2]
  rw [if_neg c2, if_pos e]
  by_cases c3 : coins = sc_X9_owed (nI (i + 1)) (vs i)
  rotate_left
  · rw [if_neg c3, if_neg c3]; exact AO_idR h
  rw [if_pos c3, if_pos c3]
  have ho := hold_op c0
  obtain ⟨p, e15, hp⟩ := ht.2.2.2.2.2.2.1
  have hk : ∀ k, k ≠ 18 → sc_X9_endOathBy (nI (i + 1)) (vs i) half k = vs i k := fun k k1 => oath_k k1
  rw [endT_eq hp ((hk 15 (by decide)).trans e15)]
  simp only [sc_X0_writeGrowing, sc_X7_growth]
  generalize hF : zcp (zcp F 1 (zc F 1 + (vs i 2).toInt64)) 2 (zc F 2 + (vs i 1).toInt64) = F1
  have hT := shown_tk (F := F1) (nm := nI (i + 1)) (half := half) (w := vs i) (h.tn hi) (show tkR (vs i) (tk F1 (i + 1)) by rw [← hF]; exact ht.1)
  have hz := shown_z (F := F1) (t := nI (i + 1)) (half := half)
  refine ⟨rc + 1, by omega, rfl, ?_, ?_, rfl⟩
  · refine (HR_en h hi hrc ho hp e15 (v := sc_X9_endOathBy (nI (i + 1)) (vs i) half) (st := 1) (by decide) (F1 := sp_shown F1 (nI (i + 1)) half) (fun k hk' => hk k (by omega)) hT (tI_end (tI_oath ht.2) (by decide)) (hz.1.trans (by rw [← hF]; rfl)) (hz.2.1.trans (by rw [← hF]; rfl)) (hz.2.2.2.1.trans (by rw [← hF]; rfl)) (fun n hn k hk => ?_) (fun j hj => ?_) ?_ ?_ ?_ ?_ ?_ ?_ ?_ ?_ ?_ (fun y hy k => ?_)).1
    · rw [shown_no (h.tn hi) hn hk, ← hF]; rfl
    · simp only [rwp_i (show j ≠ rc by omega), rb_i (show j ≠ rc by omega)]
    · simp [rwp_at, rb_20]
    · rw [hz.2.2.1, ← hF]
      have z := h.2.2.2.2.2.1.1
      refine ⟨?_, ?_, ?_, ?_, ?_, ?_, ?_⟩
      · simp [rwp_at, rb_t]; exact z.1
      · simp [rwp_at, rb_t]; rw [z.2.1, upd_ne (by decide), hk 2 (by decide)]; rfl
      · simp [rwp_at, rb_t]; rw [z.2.2.1, upd_ne (by decide), hk 1 (by decide)]; rfl
      · simp [rwp_at, rb_t]; exact z.2.2.2.1
      · simp [rwp_at, rb_t]; exact z.2.2.2.2.1
      · simp [rwp_at, rb_t]; exact z.2.2.2.2.2.1
      · simp [rwp_at, rb_t]; exact z.2.2.2.2.2.2
    · simp [rwp_at, rb_t, hk 1]
    · simp [rwp_at, rb_t]
    · simp [rwp_at, rb_t]
    · simp [rwp_at, rb_t]
    · simp [rwp_at, rb_t]
      rw [upd_ne (by decide)]
      grind
    · rw [hk 1 (by decide), hk 2 (by decide), hk 3 (by decide), hk 4 (by decide), hk 6 (by decide)]
      refine ⟨?_, ?_, ?_⟩ <;> simp [rwp_at]
    · refine ⟨?_, ?_⟩ <;> simp [rwp_at, rb_z]
    · exact ovN_c cn (fun j _ => ⟨vsW_k ((upd_ne (by decide)).trans (hk 12 (by decide))) j, vsW_k ((upd_ne (by decide)).trans (hk 14 (by decide))) j, vsW_k ((upd_ne (by decide)).trans (hk 30 (by decide))) j, vsW_k ((upd_ne (by decide)).trans (hk 31 (by decide))) j⟩)
  · have e : sameK F F1 := by rw [← hF]; exact kk_id
    have e2 : sameK (sp_shown F1 (nI (i + 1)) half) (sp_closes (sp_shown F1 (nI (i + 1)) half) (nI (i + 1)) 1) := closes_f.1
    exact sameK_R (sameK_tr (sameK_tr e hz.2.2.2.2) e2)
end RE2
