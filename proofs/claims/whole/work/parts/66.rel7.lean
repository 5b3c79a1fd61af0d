/-! renewing, undoing, fetching -/
theorem tk_zcF {F : mZ} {j n : Nat} {x : Int64} : tk (zcp F j x) n = tk F n := rfl
theorem why_0 {nm : Int32} {v : Nat → Int32} {Z : hZ} {half : Int32} : sc_X3_whyNotHolders nm v Z half = 0 → ¬ sc_X9_isHolders nm v = 0 ∧ sc_X9_isClaimed nm v = 0 ∧ ¬ sc_X9_isRight nm v half (gh Z 0) = 0 := fun h => by
  unfold sc_X3_whyNotHolders at h
  by_cases c0 : sc_X9_isHolders nm v = 0
  · rw [if_pos c0] at h; exact absurd h (by decide)
  rw [if_neg c0] at h
  by_cases c1 : sc_X9_isClaimed nm v = 0
  · rw [if_pos c1] at h
    by_cases c2 : sc_X9_isRight nm v half (gh Z 0) = 0
    · rw [if_pos c2] at h; exact absurd h (by decide)
    · exact ⟨c0, c1, c2⟩
  · rw [if_neg c1] at h; exact absurd h (by decide)
theorem term_0 {m : Int32} (h : ¬ sc_X3_isTerm m = 0) : ¬ m < 1 ∧ m ≤ 12 := by
  unfold sc_X3_isTerm at h
  by_cases c0 : m < 1
  · rw [if_pos c0] at h; exact absurd rfl h
  · refine ⟨c0, ?_⟩
    rw [if_neg c0] at h
    by_cases c1 : (12 : Int32) < m
    · rw [if_pos c1] at h; exact absurd rfl h
    · exact Int32.not_lt.mp c1
theorem sameK_tr {A B C : mZ} (a : sameK A B) (b : sameK B C) : sameK A C := ⟨b.1.trans a.1, b.2.1.trans a.2.1, b.2.2.1.trans a.2.2.1, b.2.2.2.1.trans a.2.2.2.1, b.2.2.2.2.1.trans a.2.2.2.2.1, b.2.2.2.2.2.trans a.2.2.2.2.2⟩
section RP3
variable {Z : hZ} {vs : Nat → Nat → Int32} {pl : Nat → pZ} {RW : Nat → Nat → Int64} {cn rc d i : Nat} {F : mZ}
theorem HR.rate (h : HR Z vs pl RW cn rc d F) {kd : Nat} (hk : kd ≤ 4) {x : Int32} : sc_X3_rateOf (ghp Z 2 x) (nI kd) = zh F (3 + (4 + kd)) ∧ ∃ r : Nat, zh F (3 + (4 + kd)) = nI r ∧ r ≤ 200 := by
  unfold sc_X3_rateOf
  rw [show (4 : Int32) + nI kd = nI (4 + kd) from nI_add 4 kd, if_neg (show ¬ nI (4 + kd) < 4 from fun z => absurd ((nI_ltI (a := 4 + kd) (b := 4) (by omega) (by omega)).mp z) (by omega)), if_neg (show ¬ (9 : Int32) ≤ nI (4 + kd) from fun z => absurd ((nI_leI (a := 9) (b := 4 + kd) (by omega) (by omega)).mp z) (by omega)), tN_n (by omega), gr_ghp]
  have q := h.2.1 (4 + kd) (by omega)
  refine ⟨q.1, ?_⟩
  rw [← q.1]
  obtain ⟨x, e1, e2⟩ := q.2
  refine ⟨x, e1, Nat.le_trans e2 ?_⟩
  have : kd = 0 ∨ kd = 1 ∨ kd = 2 ∨ kd = 3 ∨ kd = 4 := by omega
  rcases this with rfl | rfl | rfl | rfl | rfl <;> decide
set_option maxHeartbeats 4000000 in
theorem r_renew (h : HR Z vs pl RW cn rc d F) (hi : i < cn) (hrc : rc ≤ 511) (half months : Int32) : ∃ rc', (rc ≤ rc' ∧ rc' ≤ rc + 1) ∧ AO F (sp_renew F (nI (i + 1)) half months) (sc_X3_renewTerm (nI (i + 1)) (vs i) Z RW rc half months).1 (sc_X3_renewTerm (nI (i + 1)) (vs i) Z RW rc half months).2.2.1 (vsW vs i (sc_X3_renewTerm (nI (i + 1)) (vs i) Z RW rc half months).2.1) pl (sc_X3_renewTerm (nI (i + 1)) (vs i) Z RW rc half months).2.2.2 cn rc' d := by
  have ht := h.2.2.1.1 i hi
  unfold sp_renew sc_X3_renewTerm
  rw [if_neg (h.isT hi), h.free hi, h.claimed hi, h.right hi]
  by_cases c0 : sc_X9_isHolders (nI (i + 1)) (vs i) = 0
  · have e : sc_X3_whyNotHolders (nI (i + 1)) (vs i) Z half = -2 := by unfold sc_X3_whyNotHolders; rw [if_pos c0]
    rw [if_pos c0, e, if_neg (by decide)]; exact AO_idR h
  rw [if_neg c0]
  by_cases c1 : sc_X9_isClaimed (nI (i + 1)) (vs i) = 0
  rotate_left
  · have e : sc_X3_whyNotHolders (nI (i + 1)) (vs i) Z half = -3 := by unfold sc_X3_whyNotHolders; rw [if_neg c0, if_neg c1]
    rw [if_neg c1, e, if_neg (by decide)]; exact AO_idR h
  rw [if_pos c1]
  by_cases c2 : sc_X9_isRight (nI (i + 1)) (vs i) half (gh Z 0) = 0
  · have e : sc_X3_whyNotHolders (nI (i + 1)) (vs i) Z half = -4 := by unfold sc_X3_whyNotHolders; rw [if_neg c0, if_pos c1, if_pos c2]
    rw [if_pos c2, e, if_neg (by decide)]; exact AO_idR h
  have e : sc_X3_whyNotHolders (nI (i + 1)) (vs i) Z half = 0 := by unfold sc_X3_whyNotHolders; rw [if_neg c0, if_pos c1, if_neg c2]
  rw [if_neg c2, if_pos e]
  unfold sc_X3_isTerm
  by_cases c3 : months < 1
  · rw [if_pos c3, if_pos c3, if_pos rfl]; exact AO_idR h
  rw [if_neg c3, if_neg c3]
  by_cases c4 : months ≤ 12
  rotate_left
  · rw [if_neg c4, if_pos (Int32.not_le.mp c4), if_pos rfl]; exact AO_idR h
  rw [if_pos c4, if_neg (Int32.not_lt.mpr c4), if_neg (by decide)]
  have ho := hold_op c0
  obtain ⟨s, b, p, r, x, e4, e3, e1, e6, e2, q1, q2, q3, q4, q5, q6, q7⟩ := ht.2.1
  obtain ⟨kd, e19, hkd⟩ := ht.2.2.2.2.2.1
  have hb := q2 ho
  simp only [sc_X0_writeGrowing, sc_X3_addRow]
  rw [h.tkv hi (k := 2) (by decide) (by decide) (by decide), h.tkv hi (k := 3) (by decide) (by decide) (by decide), h.tkv hi (k := 4) (by decide) (by decide) (by decide), h.tkv hi (k := 5) (by decide) (by decide) (by decide), h.tkv hi (k := 6) (by decide) (by decide) (by decide), h.tkv hi (k := 9) (by decide) (by decide) (by decide), h.tkv hi (k := 19) (by decide) (by decide) (by decide), h.tn hi, e19, tN_n (by omega)]
  have e19' : sc_X7_become_e (nI (i + 1)) (vs i) 19 = nI kd := e19
  have en : sc_X7_nextBeginning (nI (i + 1)) (sc_X7_become_e (nI (i + 1)) (vs i)) = nI (s + 30 * b) := by
    show vs i 4 + 30 * vs i 3 = _
    rw [e4, e3, show (30 : Int32) = nI 30 from rfl, pk_mul, nI_add]
  have en' : vs i 4 + 30 * vs i 3 = nI (s + 30 * b) := en
  obtain ⟨er, rr, er2, er3⟩ := h.rate (x := sc_X0_countBehind (sc_X0_rowBehind RW rc (gh Z 0)) (nI rc)) hkd
  have hbs : s + 30 * b ≤ d + 30 ∧ bgN (s + 30 * b) d = 0 := by
    unfold bgN at hb ⊢
    by_cases z : d < s
    · rw [if_pos z] at hb
      exact ⟨by omega, if_pos (by omega)⟩
    · rw [if_neg z] at hb
      have := Nat.div_add_mod (d - s) 30
      have := Nat.mod_lt (d - s) (show 0 < 30 by decide)
      exact ⟨by omega, if_pos (by omega)⟩
  rw [e19', en, en', er, er2, gh_ghp_ne (show 0 ≠ 2 by decide), ← h.today]
  generalize hF : zcp (tkp (tkp (tkp (tkp (tkp (tkp (tkp (tkp (tkp (tkp (tkp (tkp (tkp F (i + 1) 20 (gh Z 0)) (i + 1) 21 (vs i 4)) (i + 1) 22 (vs i 5)) (i + 1) 23 (vs i 6)) (i + 1) 24 (vs i 3)) (i + 1) 25 (vs i 2)) (i + 1) 26 (vs i 9)) (i + 1) 4 (nI (s + 30 * b))) (i + 1) 5 months) (i + 1) 6 (nI rr)) (i + 1) 3 0) (i + 1) 2 0) (i + 1) 9 0) 1 (zc F 1 + (vs i 2).toInt64) = F1
  generalize hv : upd (sc_X7_beginAnew (nI (i + 1)) (sc_X7_become_e (nI (i + 1)) (vs i)) (nI (s + 30 * b)) months (nI rr)) 20 (gh Z 0) = v1
  have hT1 : tkR v1 (tk F1 (i + 1)) := by
    refine ⟨fun k k1 k2 k3 => ?_, ?_, ?_⟩
    · have hw := ht.1.1 k k1 k2 k3
      rw [← hF, ← hv]
      simp only [tk_zcF, tk_upd, sc_X7_beginAnew, sc_X7_become_e, upd]
      by_cases z : k = 20
      · subst z; simp
      · simp [z, hw]
    · rw [← hF, ← hv]
      simp only [tk_zcF, tk_upd]
      exact ht.1.2.1
    · rw [← hF, ← hv]
      simp only [tk_zcF, tk_upd]
      exact ht.1.2.2
  have hT := shown_tk (nm := nI (i + 1)) (half := half) (w := v1) (h.tn hi) hT1
  have hz := shown_z (F := F1) (t := nI (i + 1)) (half := half)
  have hd := h.1.2.2.1
  have hI1 : tI d v1 := by
    rw [← hv]
    refine ⟨⟨s + 30 * b, 0, p, rr, 0, rfl, rfl, e1, rfl, rfl, hbs.1, fun _ => hbs.2.symm, by omega, q4, q5, er3, by omega⟩, Or.inr ⟨d, h.1.1, Nat.le_refl _, fun _ => ⟨s, b, r, x, e4, e3, e6, e2, q1, hb, q6, q7⟩⟩, tO_c ht.2.2.2.1 rfl rfl rfl rfl, tB_c ht.2.2.2.2 rfl rfl rfl rfl⟩
  have hk : ∀ k, k = 0 ∨ k = 1 ∨ k = 12 ∨ k = 14 ∨ k = 15 ∨ k = 17 ∨ k = 19 ∨ k = 30 ∨ k = 31 → sc_X9_endOathBy (nI (i + 1)) v1 half k = vs i k := fun k hk => by
    rw [oath_k (by omega), ← hv]
    rcases hk with rfl | rfl | rfl | rfl | rfl | rfl | rfl | rfl | rfl <;> rfl
  refine ⟨rc + 1, by omega, rfl, ?_, ?_, rfl⟩
  · refine HR_tr (F' := zR (sp_shown F1 (nI (i + 1)) half) _) h hi hrc (gh_ghp_ne (by decide)) (gh_ghp_ne (by decide)) (gh_ghp_eq.trans (cB_n hrc)) rfl (hz.1.trans (by rw [← hF]; rfl)) (hz.2.2.2.1.trans (by rw [← hF]; rfl)) (fun n hn k hk => ?_) hT (tI_oath hI1) (hk 17 (by decide)) (rC4_c h.2.2.2.1 rfl rfl rfl (hz.2.1.trans (by rw [← hF]; rfl))) (rC6_c h.2.2.2.2.1 rfl rfl (fun j => ⟨vsW_k (hk _ (by decide)) j, vsW_k (hk _ (by decide)) j, vsW_k (hk _ (by decide)) j⟩)) (fun j hj => ?_) ?_ ?_ ?_ ?_ ?_ ?_ ?_ (fun day => ?_) (fun y hy k => ?_)
    · show tk (sp_shown F1 (nI (i + 1)) half) n k = _
      rw [shown_no (h.tn hi) hn hk, ← hF, tk_zcF]
      iterate 13 rw [tk_no hn hk (by decide)]
    · simp only [rwp_i (show j ≠ rc by omega), rb_i (show j ≠ rc by omega)]
    · simp [rwp_at, rb_20]
    · show _ = zc (sp_shown F1 (nI (i + 1)) half) 0 ∧ _ = zc (sp_shown F1 (nI (i + 1)) half) 1 ∧ _ = zc (sp_shown F1 (nI (i + 1)) half) 2 ∧ _ = zc (sp_shown F1 (nI (i + 1)) half) 3 ∧ _ = zc (sp_shown F1 (nI (i + 1)) half) 4 ∧ _ = zc (sp_shown F1 (nI (i + 1)) half) 5 ∧ _ = zc (sp_shown F1 (nI (i + 1)) half) 6
      rw [hz.2.2.1, ← hF]
      have z := h.2.2.2.2.2.1.1
      refine ⟨?_, ?_, ?_, ?_, ?_, ?_, ?_⟩
      · simp [rwp_at, rb_t]; exact z.1
      · simp [rwp_at, rb_t]; rw [z.2.1]; rfl
      · simp [rwp_at, rb_t]; exact z.2.2.1
      · simp [rwp_at, rb_t]; exact z.2.2.2.1
      · simp [rwp_at, rb_t]; exact z.2.2.2.2.1
      · simp [rwp_at, rb_t]; exact z.2.2.2.2.2.1
      · simp [rwp_at, rb_t]; exact z.2.2.2.2.2.2
    · rw [if_pos ho, if_pos ((hk 0 (by decide)).trans ho), hk 1 (by decide)]
      simp [rwp_at, rb_t]
    · rw [if_pos ho, if_pos ((hk 0 (by decide)).trans ho)]
      simp [rwp_at, rb_t]
    · simp [rwp_at, rb_t]
      exact h.2.2.2.2.2.1.2.2.2.1.trans (plS_gh 40).symm
    · simp [rwp_at, rb_t]
    · simp [rwp_at, rb_t]
    · rw [if_pos ho, if_pos ((hk 0 (by decide)).trans ho)]
      congr 1
      · refine gF_w ?_ ?_ ?_ <;> simp [rwp_at] <;> rfl
      · refine gF_w ?_ ?_ ?_ <;> simp [rwp_at] <;> rfl
    · exact ovN_c cn (fun j _ => ⟨vsW_k (hk _ (by decide)) j, vsW_k (hk _ (by decide)) j, vsW_k (hk _ (by decide)) j, vsW_k (hk _ (by decide)) j⟩)
  · have e : sameK F F1 := by rw [← hF]; exact kk_id
    exact sameK_tr e hz.2.2.2.2
set_option maxHeartbeats 4000000 in
theorem r_undo (h : HR Z vs pl RW cn rc d F) (hi : i < cn) (hrc : rc ≤ 511) : ∃ rc', (rc ≤ rc' ∧ rc' ≤ rc + 1) ∧ AO F (sp_undo F (nI (i + 1))) (sc_X3_undoRenewing (nI (i + 1)) (vs i) Z RW rc).1 (sc_X3_undoRenewing (nI (i + 1)) (vs i) Z RW rc).2.2.1 (vsW vs i (sc_X3_undoRenewing (nI (i + 1)) (vs i) Z RW rc).2.1) pl (sc_X3_undoRenewing (nI (i + 1)) (vs i) Z RW rc).2.2.2 cn rc' d := by
  have ht := h.2.2.1.1 i hi
  unfold sp_undo sc_X3_undoRenewing
  rw [if_neg (h.isT hi), h.opn hi, h.tkv hi (k := 20) (by decide) (by decide) (by decide), h.tkv hi (k := 21) (by decide) (by decide) (by decide), h.tkv hi (k := 22) (by decide) (by decide) (by decide), h.tkv hi (k := 23) (by decide) (by decide) (by decide), h.tkv hi (k := 24) (by decide) (by decide) (by decide), h.tkv hi (k := 25) (by decide) (by decide) (by decide), h.tkv hi (k := 26) (by decide) (by decide) (by decide), h.tn hi, ← h.today]
  by_cases c0 : sc_X9_isOpen (nI (i + 1)) (vs i) = 0
  · rw [if_pos c0, if_pos c0]; exact AO_idR h
  rw [if_neg c0, if_neg c0]
  by_cases c1 : vs i 20 = -1
  · rw [if_pos c1, if_pos c1]; exact AO_idR h
  rw [if_neg c1, if_neg c1]
  by_cases c2 : vs i 20 = gh Z 0
  rotate_left
  · rw [if_neg c2, if_neg c2]; exact AO_idR h
  rw [if_pos c2, if_pos c2]
  have ho := opn_op c0
  have hd := h.1.2.2.1
  obtain ⟨s, b, p, r, x, e4, e3, e1, e6, e2, q1, q2, q3, q4, q5, q6, q7⟩ := ht.2.1
  obtain ⟨s', b', r', x', f4, f3, f6, f2, p1, p2, p3, p4⟩ : ∃ s b r x : Nat, vs i 21 = nI s ∧ vs i 24 = nI b ∧ vs i 23 = nI r ∧ vs i 25 = nI x ∧ s ≤ d + 30 ∧ b = bgN s d ∧ r ≤ 200 ∧ x ≤ 2000000 * b := by
    rcases ht.2.2.1 with e | ⟨y, y1, y2, y3⟩
    · exact absurd e c1
    · refine y3 ?_
      rw [y1, h.1.1, nI_eq (by omega) (by omega)] at c2
      exact c2
  have hb' : b' ≤ 245 := by
    rw [p2]
    unfold bgN
    split
    · omega
    · omega
  simp only [sc_X0_writeGrowing, sc_X3_addRow]
  generalize hF : zcp (tkp (tkp (tkp (tkp (tkp (tkp (tkp F (i + 1) 4 (vs i 21)) (i + 1) 5 (vs i 22)) (i + 1) 6 (vs i 23)) (i + 1) 3 (vs i 24)) (i + 1) 2 (vs i 25)) (i + 1) 9 (vs i 26)) (i + 1) 20 (-1)) 1 (zc F 1 - (vs i 25).toInt64) = F1
  generalize hv : upd (sc_X7_become_t (nI (i + 1)) (vs i)) 20 (-1) = v1
  have hT : tkR v1 (tk F1 (i + 1)) := by
    rw [← hF, ← hv]
    unfold sc_X7_become_t
    rw [tk_zcF, tk_upd, tk_upd, tk_upd, tk_upd, tk_upd, tk_upd, tk_upd]
    iterate 7 refine tkR_upd ?_ (by decide) (by decide) (by decide)
    exact ht.1
  have hI : tI d v1 := by
    rw [← hv]
    refine ⟨⟨s', b', p, r', x', f4, f3, e1, f6, f2, p1, fun _ => p2, hb', q4, q5, p3, p4⟩, Or.inl rfl, tO_c ht.2.2.2.1 rfl rfl rfl rfl, tB_c ht.2.2.2.2 rfl rfl rfl rfl⟩
  have hk : ∀ k, k = 0 ∨ k = 1 ∨ k = 12 ∨ k = 14 ∨ k = 15 ∨ k = 17 ∨ k = 19 ∨ k = 30 ∨ k = 31 → v1 k = vs i k := fun k hk => by
    rw [← hv]
    rcases hk with rfl | rfl | rfl | rfl | rfl | rfl | rfl | rfl | rfl <;> rfl
  have hk2 : v1 2 = vs i 25 := by rw [← hv]; rfl
  refine ⟨rc + 1, by omega, hk2.symm, ?_, ?_, hk2.symm⟩
  · refine HR_tr (F' := zR F1 _) h hi hrc (gh_ghp_ne (by decide)) (gh_ghp_ne (by decide)) (gh_ghp_eq.trans (cB_n hrc)) rfl (by rw [← hF]; rfl) (by rw [← hF]; rfl) (fun n hn k hk => ?_) hT hI (hk 17 (by decide)) (rC4_c h.2.2.2.1 rfl rfl rfl (by rw [← hF]; rfl)) (rC6_c h.2.2.2.2.1 rfl rfl (fun j => ⟨vsW_k (hk _ (by decide)) j, vsW_k (hk _ (by decide)) j, vsW_k (hk _ (by decide)) j⟩)) (fun j hj => ?_) ?_ ?_ ?_ ?_ ?_ ?_ ?_ (fun day => ?_) (fun y hy k => ?_)
    · show tk F1 n k = _
      rw [← hF, tk_zcF]
      iterate 7 rw [tk_no hn hk (by decide)]
    · simp only [rwp_i (show j ≠ rc by omega), rb_i (show j ≠ rc by omega)]
    · simp [rwp_at, rb_20]
    · show _ = zc F1 0 ∧ _ = zc F1 1 ∧ _ = zc F1 2 ∧ _ = zc F1 3 ∧ _ = zc F1 4 ∧ _ = zc F1 5 ∧ _ = zc F1 6
      rw [← hF]
      have z := h.2.2.2.2.2.1.1
      refine ⟨?_, ?_, ?_, ?_, ?_, ?_, ?_⟩
      · simp [rwp_at, rb_t]; exact z.1
      · simp [rwp_at, rb_t]; rw [z.2.1, hk2]; rfl
      · simp [rwp_at, rb_t]; exact z.2.2.1
      · simp [rwp_at, rb_t]; exact z.2.2.2.1
      · simp [rwp_at, rb_t]; exact z.2.2.2.2.1
      · simp [rwp_at, rb_t]; exact z.2.2.2.2.2.1
      · simp [rwp_at, rb_t]; exact z.2.2.2.2.2.2
    · rw [if_pos ho, if_pos ((hk 0 (by decide)).trans ho), hk 1 (by decide)]
      simp [rwp_at, rb_t]
    · rw [if_pos ho, if_pos ((hk 0 (by decide)).trans ho)]
      simp [rwp_at, rb_t]
    · simp [rwp_at, rb_t]
      exact h.2.2.2.2.2.1.2.2.2.1.trans (plS_gh 40).symm
    · simp [rwp_at, rb_t]
    · simp [rwp_at, rb_t]
    · rw [if_pos ho, if_pos ((hk 0 (by decide)).trans ho)]
      congr 1
      · refine gF_w ?_ ?_ ?_ <;> simp [rwp_at] <;> rfl
      · refine gF_w ?_ ?_ ?_ <;> simp [rwp_at] <;> rfl
    · exact ovN_c cn (fun j _ => ⟨vsW_k (hk _ (by decide)) j, vsW_k (hk _ (by decide)) j, vsW_k (hk _ (by decide)) j, vsW_k (hk _ (by decide)) j⟩)
  · show sameK F F1
    rw [← hF]; exact kk_id
/-- what was left over, day by day: only what is counted matters -/
theorem ovN_v {vs : Nat → Nat → Int32} {v : Nat → Int32} {i : Nat} {day kept : Int32} (h1 : sc_X9_isHousesOver (nI (i + 1)) v day = sc_X9_isHousesOver (nI (i + 1)) (vs i) day) (h2 : sc_X9_isKeptOver (nI (i + 1)) v day = sc_X9_isKeptOver (nI (i + 1)) (vs i) day) (h3 : v 12 = vs i 12 ∨ (sc_X9_isHousesOver (nI (i + 1)) v day = 0 ∧ sc_X9_isKeptOver (nI (i + 1)) v day = 0)) : ∀ n, ovN (vsW vs i v) day kept n = ovN vs day kept n
  | 0 => rfl
  | n + 1 => by
    unfold ovN
    rw [ovN_v h1 h2 h3 n]
    by_cases e : n = i
    · rw [e, vsW_eq]
      rcases h3 with h3 | ⟨h3, h4⟩
      · rw [h1, h2, h3]
      · rw [if_pos h3, if_pos h4, if_pos (h1.symm.trans h3), if_pos (h2.symm.trans h4)]
    · rw [vsW_ne e]
set_option maxHeartbeats 4000000 in
theorem r_fetch (h : HR Z vs pl RW cn rc d F) (hi : i < cn) (hrc : rc ≤ 511) (half : Int32) : ∃ rc', (rc ≤ rc' ∧ rc' ≤ rc + 1) ∧ AO F (sp_fetch F (nI (i + 1)) half) (sc_X3_handOver (nI (i + 1)) (vs i) Z RW rc half).1 (sc_X3_handOver (nI (i + 1)) (vs i) Z RW rc half).2.2.1 (vsW vs i (sc_X3_handOver (nI (i + 1)) (vs i) Z RW rc half).2.1) pl (sc_X3_handOver (nI (i + 1)) (vs i) Z RW rc half).2.2.2 cn rc' d := by
  have ht := h.2.2.1.1 i hi
  unfold sp_fetch sc_X3_handOver
  rw [if_neg (h.isT hi), h.right hi, h.tkv hi (k := 12) (by decide) (by decide) (by decide), h.tkv hi (k := 14) (by decide) (by decide) (by decide), h.tn hi, ← h.today]
  by_cases c0 : vs i 12 = 0
  · rw [if_pos c0, if_pos c0]; exact AO_idR h
  rw [if_neg c0, if_neg c0]
  by_cases c1 : vs i 31 = -1
  rotate_left
  · have e13 : tk F (i + 1) 13 = 1 := by
      rcases ht.1.2.2 with ⟨a, _⟩ | ⟨_, a⟩
      · exact absurd a c1
      · exact a
    rw [if_pos e13, if_neg c1]; exact AO_idR h
  have e13 : tk F (i + 1) 13 = 0 := by
    rcases ht.1.2.2 with ⟨_, a⟩ | ⟨a, _⟩
    · exact a
    · exact absurd c1 a
  rw [e13, if_neg (by decide), if_pos c1]
  by_cases c2 : sc_X9_isRight (nI (i + 1)) (vs i) half (gh Z 0) = 0
  · rw [if_pos c2, if_pos c2]; exact AO_idR h
  rw [if_neg c2, if_neg c2]
  obtain ⟨ov, f12, fo, f30, f31, f0⟩ := ht.2.2.2.1
  have hov : 0 < ov := Nat.pos_of_ne_zero (fun z => c0 (by rw [f12, z]; rfl))
  obtain ⟨y0, g30, gy⟩ := f30 hov
  have hd := h.1.2.2.1
  have n12 : ¬ vs i 12 ≤ 0 := by rw [f12]; exact nI_nle hov (by omega)
  have ek : sc_X9_isKeptOver (nI (i + 1)) (vs i) (gh Z 0) = if vs i 14 < gh Z 0 then 0 else 1 := by
    unfold sc_X9_isKeptOver sc_X9_hasOverOn
    rw [if_neg n12, if_neg (show ¬ gh Z 0 < vs i 30 by rw [h.1.1, g30, nI_ltI (by omega) (by omega)]; omega), if_pos c1, if_neg (by decide)]
  rw [ek]
  by_cases c3 : gh Z 0 ≤ vs i 14
  rotate_left
  · rw [if_neg c3, if_pos (Int32.not_le.mp c3), if_pos rfl]; exact AO_idR h
  rw [if_pos c3, if_neg (Int32.not_lt.mpr c3), if_neg (by decide)]
  simp only [sc_X3_addRow]
  generalize hF : zcp (tkp F (i + 1) 13 1) 4 (zc F 4 + (vs i 12).toInt64) = F1
  generalize hv : upd (vs i) 31 (gh Z 0) = v1
  have hT1 : tkR v1 (tk F1 (i + 1)) := by
    rw [← hF, ← hv, tk_zcF, tk_upd]
    refine ⟨fun k k1 k2 k3 => ?_, ht.1.2.1, Or.inr ⟨?_, rfl⟩⟩
    · rw [upd_ne k2, upd_ne (show k ≠ 31 by omega)]; exact ht.1.1 k k1 k2 k3
    · rw [upd_eq, h.1.1]
      intro z
      exact absurd (nI_pos (n := d) (by omega)) (by rw [z]; decide)
  have hT := shown_tk (nm := nI (i + 1)) (half := half) (w := v1) (h.tn hi) hT1
  have hz := shown_z (F := F1) (t := nI (i + 1)) (half := half)
  have hI1 : tI d v1 := by
    rw [← hv]
    refine ⟨tA_c ht.2.1 rfl rfl rfl rfl rfl rfl, tU_c ht.2.2.1 rfl rfl rfl rfl rfl, ⟨ov, f12, fo, f30, Or.inr ⟨d, h.1.1, Nat.le_refl _⟩, fun z => absurd (f0 z).1 (by omega)⟩, tB_c ht.2.2.2.2 rfl rfl rfl rfl⟩
  have hk : ∀ k, k ≠ 18 → k ≠ 31 → sc_X9_endOathBy (nI (i + 1)) v1 half k = vs i k := fun k k1 k2 => by
    rw [oath_k k1, ← hv, upd_ne k2]
  have hk31 : sc_X9_endOathBy (nI (i + 1)) v1 half 31 = gh Z 0 := by rw [oath_k (by decide), ← hv]; rfl
  have hk12 := hk 12 (by decide) (by decide)
  refine ⟨rc + 1, by omega, hk12.symm, ?_, ?_, hk12.symm⟩
  · refine HR_tr (F' := zR (sp_shown F1 (nI (i + 1)) half) _) h hi hrc (gh_ghp_ne (by decide)) (gh_ghp_ne (by decide)) (gh_ghp_eq.trans (cB_n hrc)) rfl (hz.1.trans (by rw [← hF]; rfl)) (hz.2.2.2.1.trans (by rw [← hF]; rfl)) (fun n hn k hk => ?_) hT (tI_oath hI1) (hk 17 (by decide) (by decide)) (rC4_c h.2.2.2.1 rfl rfl rfl (hz.2.1.trans (by rw [← hF]; rfl))) (rC6_c h.2.2.2.2.1 rfl rfl (fun j => ⟨vsW_k (hk _ (by decide) (by decide)) j, vsW_k (hk _ (by decide) (by decide)) j, vsW_k (hk _ (by decide) (by decide)) j⟩)) (fun j hj => ?_) ?_ ?_ ?_ ?_ ?_ ?_ ?_ (fun day => ?_) (fun y hy k => ?_)
    · show tk (sp_shown F1 (nI (i + 1)) half) n k = _
      rw [shown_no (h.tn hi) hn hk, ← hF, tk_zcF, tk_no hn hk (by decide)]
    · simp only [rwp_i (show j ≠ rc by omega), rb_i (show j ≠ rc by omega)]
    · simp [rwp_at, rb_20]
    · show _ = zc (sp_shown F1 (nI (i + 1)) half) 0 ∧ _ = zc (sp_shown F1 (nI (i + 1)) half) 1 ∧ _ = zc (sp_shown F1 (nI (i + 1)) half) 2 ∧ _ = zc (sp_shown F1 (nI (i + 1)) half) 3 ∧ _ = zc (sp_shown F1 (nI (i + 1)) half) 4 ∧ _ = zc (sp_shown F1 (nI (i + 1)) half) 5 ∧ _ = zc (sp_shown F1 (nI (i + 1)) half) 6
      rw [hz.2.2.1, ← hF]
      have z := h.2.2.2.2.2.1.1
      refine ⟨?_, ?_, ?_, ?_, ?_, ?_, ?_⟩
      · simp [rwp_at, rb_t]; exact z.1
      · simp [rwp_at, rb_t]; exact z.2.1
      · simp [rwp_at, rb_t]; exact z.2.2.1
      · simp [rwp_at, rb_t]; exact z.2.2.2.1
      · simp [rwp_at, rb_t]; rw [z.2.2.2.2.1, hk12]; rfl
      · simp [rwp_at, rb_t]; exact z.2.2.2.2.2.1
      · simp [rwp_at, rb_t]; exact z.2.2.2.2.2.2
    · rw [hk 0 (by decide) (by decide), hk 1 (by decide) (by decide)]
      simp [rwp_at, rb_t]
    · rw [hk 0 (by decide) (by decide)]
      simp [rwp_at, rb_t]
    · simp [rwp_at, rb_t]
      exact h.2.2.2.2.2.1.2.2.2.1.trans (plS_gh 40).symm
    · simp [rwp_at, rb_t]
    · simp [rwp_at, rb_t]
    · have eg : gF (sc_X9_endOathBy (nI (i + 1)) v1 half) day = gF (vs i) day := by
        unfold gF
        rw [hk 1 (by decide) (by decide), hk 2 (by decide) (by decide), hk 3 (by decide) (by decide), hk 4 (by decide) (by decide), hk 6 (by decide) (by decide)]
      rw [hk 0 (by decide) (by decide), eg, gF_z (o := 17) (by simp [rwp_at, rb_z]) (by simp [rwp_at, rb_z]), gF_z (o := 14) (by simp [rwp_at, rb_z]) (by simp [rwp_at, rb_z])]
      grind
    · have eh : sc_X9_hasOverOn (nI (i + 1)) (sc_X9_endOathBy (nI (i + 1)) v1 half) (nI y) = sc_X9_hasOverOn (nI (i + 1)) (vs i) (nI y) := by
        unfold sc_X9_hasOverOn
        rw [hk 12 (by decide) (by decide), hk 30 (by decide) (by decide), hk31, c1, h.1.1]
        have a1 : ¬ nI d = -1 := fun z => absurd (nI_pos (n := d) (by omega)) (by rw [z]; decide)
        have a2 : ¬ nI d ≤ nI y := fun z => absurd ((nI_leI (by omega) (by omega)).mp z) (by omega)
        rw [if_neg a1, if_neg a2, if_pos rfl]
      refine ovN_v ?_ ?_ (Or.inl hk12) cn
      · unfold sc_X9_isHousesOver
        rw [eh, hk 14 (by decide) (by decide)]
      · unfold sc_X9_isKeptOver
        rw [eh, hk 14 (by decide) (by decide)]
  · have e : sameK F F1 := by rw [← hF]; exact kk_id
    exact sameK_tr e hz.2.2.2.2
end RP3
