/-! paying a part, renewing, undoing, fetching -/
theorem hold_op {nm : Int32} {v : Nat → Int32} (h : ¬ sc_X9_isHolders nm v = 0) : v 0 = 0 := by
  by_cases e : v 0 = 0
  · exact e
  · exact absurd (by unfold sc_X9_isHolders sc_X9_isOpen; rw [if_neg e, if_pos rfl]) h
theorem opn_op {nm : Int32} {v : Nat → Int32} (h : ¬ sc_X9_isOpen nm v = 0) : v 0 = 0 := by
  by_cases e : v 0 = 0
  · exact e
  · exact absurd (by unfold sc_X9_isOpen; rw [if_neg e]) h
theorem sale_op {nm : Int32} {v : Nat → Int32} (h : ¬ sc_X9_isForSale nm v = 0) : v 0 = 0 := by
  by_cases e : v 0 = 0
  · exact e
  · exact absurd (by unfold sc_X9_isForSale sc_X9_isOpen; rw [if_neg e, if_pos rfl]) h
theorem ge1_of {c : Int32} (h : ¬ c < 1) : ∃ j : Nat, j < 2 ^ 31 ∧ 1 ≤ j ∧ c = nI j := by
  have h0 : ¬ c < 0 := fun z => h (by
    rw [Int32.lt_iff_toInt_lt] at z ⊢
    have e0 : (0 : Int32).toInt = 0 := by decide
    have e1 : (1 : Int32).toInt = 1 := by decide
    omega)
  obtain ⟨j, hj, rfl⟩ := nI_of (x := c) h0
  refine ⟨j, hj, ?_, rfl⟩
  have q : ¬ j < 1 := fun z => h ((nI_ltI (a := j) (b := 1) hj (by omega)).mpr z)
  omega
theorem nI_min {a b : Nat} (ha : a < 2 ^ 31) (hb : b < 2 ^ 31) : (if nI a < nI b then nI a else nI b) = nI (min a b) := by
  by_cases c : a < b
  · rw [if_pos ((nI_ltI ha hb).mpr c), Nat.min_eq_left (by omega)]
  · rw [if_neg (fun z => c ((nI_ltI ha hb).mp z)), Nat.min_eq_right (by omega)]
section RP2
variable {Z : hZ} {vs : Nat → Nat → Int32} {pl : Nat → pZ} {RW : Nat → Nat → Int64} {cn rc d i : Nat} {F : mZ}
set_option maxHeartbeats 4000000 in
theorem r_pay (h : HR Z vs pl RW cn rc d F) (hi : i < cn) (hrc : rc ≤ 511) (half coins : Int32) : ∃ rc', (rc ≤ rc' ∧ rc' ≤ rc + 1) ∧ AO F (sp_pay F (nI (i + 1)) half coins) (sc_X3_payPart (nI (i + 1)) (vs i) Z RW rc half coins).1 (sc_X3_payPart (nI (i + 1)) (vs i) Z RW rc half coins).2.2.1 (vsW vs i (sc_X3_payPart (nI (i + 1)) (vs i) Z RW rc half coins).2.1) pl (sc_X3_payPart (nI (i + 1)) (vs i) Z RW rc half coins).2.2.2 cn rc' d := by
  have ht := h.2.2.1.1 i hi
  unfold sp_pay sc_X3_payPart
  rw [if_neg (h.isT hi), h.free hi, h.right hi, h.owed hi, h.tkv hi (k := 2) (by decide) (by decide) (by decide), h.tkv hi (k := 1) (by decide) (by decide) (by decide), h.tn hi]
  by_cases c0 : sc_X9_isHolders (nI (i + 1)) (vs i) = 0
  · rw [if_pos c0, if_pos c0]; exact AO_idR h
  rw [if_neg c0, if_neg c0]
  by_cases c1 : sc_X9_isRight (nI (i + 1)) (vs i) half (gh Z 0) = 0
  · rw [if_pos c1, if_pos c1]; exact AO_idR h
  rw [if_neg c1, if_neg c1]
  by_cases c2 : coins < 1
  · rw [if_pos c2, if_pos c2]; exact AO_idR h
  rw [if_neg c2, if_neg c2]
  by_cases c3 : coins < sc_X9_owed (nI (i + 1)) (vs i)
  rotate_left
  · rw [if_neg c3, if_neg c3]; exact AO_idR h
  rw [if_pos c3, if_pos c3]
  have ho := hold_op c0
  obtain ⟨s, b, p, r, x, e4, e3, e1, e6, e2, q1, q2, q3, q4, q5, q6, q7⟩ := ht.2.1
  obtain ⟨c, hc, hc1, ec⟩ := ge1_of c2
  unfold sc_X9_owed at c3
  rw [e1, e2, ec, nI_add, nI_ltI hc (by omega)] at c3
  have eq : (if vs i 2 < coins then vs i 2 else coins) = nI (min x c) := by rw [e2, ec]; exact nI_min (by omega) hc
  have eq2 : coins - nI (min x c) = nI (c - min x c) := by rw [ec]; exact pk_sub (Nat.min_le_right _ _)
  rw [eq, eq2]
  have hm1 := Nat.min_le_left x c
  have hm2 := Nat.min_le_right x c
  have hm3 : c - min x c < p := by omega
  have ev2 : vs i 2 - nI (min x c) = nI (x - min x c) := by rw [e2]; exact pk_sub hm1
  have ev1 : vs i 1 - nI (c - min x c) = nI (p - (c - min x c)) := by rw [e1]; exact pk_sub (by omega)
  simp only [sc_X0_writeGrowing, sc_X3_addRow]
  rw [ev2, ev1]
  generalize hm : min x c = m at *
  generalize hF : tkp (zcp (zcp (tkp (tkp F (i + 1) 2 (nI (x - m))) (i + 1) 1 (nI (p - (c - m)))) 1 (zc F 1 + (nI m).toInt64)) 2 (zc F 2 + (nI (c - m)).toInt64)) (i + 1) 20 (-1) = F1
  generalize hv : upd (upd (upd (vs i) 2 (nI (x - m))) 1 (nI (p - (c - m)))) 20 (-1) = v1
  have hT1 : tkR v1 (tk F1 (i + 1)) := by
    rw [← hF, ← hv, tk_upd]
    refine tkR_upd ?_ (by decide) (by decide) (by decide)
    show tkR _ (tk (tkp (tkp F (i + 1) 2 (nI (x - m))) (i + 1) 1 (nI (p - (c - m)))) (i + 1))
    rw [tk_upd, tk_upd]
    exact tkR_upd (tkR_upd ht.1 (by decide) (by decide) (by decide)) (by decide) (by decide) (by decide)
  have hT := shown_tk (nm := nI (i + 1)) (half := half) (w := v1) (h.tn hi) hT1
  have hz := shown_z (F := F1) (t := nI (i + 1)) (half := half)
  have hI1 : tI d v1 := by
    rw [← hv]
    refine ⟨⟨s, b, p - (c - m), r, x - m, e4, e3, rfl, e6, rfl, q1, q2, q3, by omega, by omega, q6, by omega⟩, Or.inl rfl, tO_c ht.2.2.2.1 rfl rfl rfl rfl, tB_c ht.2.2.2.2 rfl rfl rfl rfl⟩
  have hk : ∀ k, k ≠ 18 → k ≠ 2 → k ≠ 1 → k ≠ 20 → sc_X9_endOathBy (nI (i + 1)) v1 half k = vs i k := fun k k1 k2 k3 k4 => by
    rw [oath_k k1, ← hv, upd_ne k4, upd_ne k3, upd_ne k2]
  have hk1 : sc_X9_endOathBy (nI (i + 1)) v1 half 1 = nI (p - (c - m)) := by rw [oath_k (by decide), ← hv]; rfl
  have eo : sp_owed (sp_shown F1 (nI (i + 1)) half) (nI (i + 1)) = sc_X9_owed (nI (i + 1)) (sc_X9_endOathBy (nI (i + 1)) v1 half) := by
    unfold sp_owed sc_X9_owed
    rw [h.tn hi, hT.1 1 (by decide) (by decide) (by decide), hT.1 2 (by decide) (by decide) (by decide)]
  refine ⟨rc + 1, by omega, eo, ?_, ?_, eo⟩
  · refine HR_tr (F' := zR (sp_shown F1 (nI (i + 1)) half) _) h hi hrc (gh_ghp_ne (by decide)) (gh_ghp_ne (by decide)) (gh_ghp_eq.trans (cB_n hrc)) rfl (hz.1.trans (by rw [← hF]; rfl)) (hz.2.2.2.1.trans (by rw [← hF]; rfl)) (fun n hn k hk => ?_) hT (tI_oath hI1) (hk 17 (by decide) (by decide) (by decide) (by decide)) (rC4_c h.2.2.2.1 rfl rfl rfl (hz.2.1.trans (by rw [← hF]; rfl))) (rC6_c h.2.2.2.2.1 rfl rfl (fun j => ⟨vsW_k (hk _ (by decide) (by decide) (by decide) (by decide)) j, vsW_k (hk _ (by decide) (by decide) (by decide) (by decide)) j, vsW_k (hk _ (by decide) (by decide) (by decide) (by decide)) j⟩)) (fun j hj => ?_) ?_ ?_ ?_ ?_ ?_ ?_ ?_ (fun day => ?_) (fun y hy k => ?_)
    · show tk (sp_shown F1 (nI (i + 1)) half) n k = _
      rw [shown_no (h.tn hi) hn hk, ← hF, tk_no hn hk (by decide)]
      show tk (tkp (tkp F (i + 1) 2 (nI (x - m))) (i + 1) 1 (nI (p - (c - m)))) n k = _
      rw [tk_no hn hk (by decide), tk_no hn hk (by decide)]
    · simp only [rwp_i (show j ≠ rc by omega), rb_i (show j ≠ rc by omega)]
    · simp [rwp_at, rb_20]
    · show _ = zc (sp_shown F1 (nI (i + 1)) half) 0 ∧ _ = zc (sp_shown F1 (nI (i + 1)) half) 1 ∧ _ = zc (sp_shown F1 (nI (i + 1)) half) 2 ∧ _ = zc (sp_shown F1 (nI (i + 1)) half) 3 ∧ _ = zc (sp_shown F1 (nI (i + 1)) half) 4 ∧ _ = zc (sp_shown F1 (nI (i + 1)) half) 5 ∧ _ = zc (sp_shown F1 (nI (i + 1)) half) 6
      rw [hz.2.2.1, ← hF]
      have z := h.2.2.2.2.2.1.1
      refine ⟨?_, ?_, ?_, ?_, ?_, ?_, ?_⟩
      · simp [rwp_at, rb_t]; exact z.1
      · simp [rwp_at, rb_t]; rw [z.2.1]; rfl
      · simp [rwp_at, rb_t]; rw [z.2.2.1]; rfl
      · simp [rwp_at, rb_t]; exact z.2.2.2.1
      · simp [rwp_at, rb_t]; exact z.2.2.2.2.1
      · simp [rwp_at, rb_t]; exact z.2.2.2.2.2.1
      · simp [rwp_at, rb_t]; exact z.2.2.2.2.2.2
    · rw [if_pos ho, if_pos ((hk 0 (by decide) (by decide) (by decide) (by decide)).trans ho), hk1, e1]
      simp [rwp_at, rb_t]
      rw [nI_l (by omega), nI_l (by omega), nI_l (by omega), ← lN_sub (a := p) (by omega)]
      grind
    · rw [if_pos ho, if_pos ((hk 0 (by decide) (by decide) (by decide) (by decide)).trans ho)]
      simp [rwp_at, rb_t]
    · simp [rwp_at, rb_t]
      exact h.2.2.2.2.2.1.2.2.2.1.trans (plS_gh 40).symm
    · simp [rwp_at, rb_t]
    · simp [rwp_at, rb_t]
      grind
    · rw [if_pos ho, if_pos ((hk 0 (by decide) (by decide) (by decide) (by decide)).trans ho)]
      congr 1
      · refine gF_w ?_ ?_ ?_ <;> simp [rwp_at] <;> rfl
      · refine gF_w ?_ ?_ ?_ <;> simp [rwp_at] <;> rfl
    · exact ovN_c cn (fun j _ => ⟨vsW_k (hk _ (by decide) (by decide) (by decide) (by decide)) j, vsW_k (hk _ (by decide) (by decide) (by decide) (by decide)) j, vsW_k (hk _ (by decide) (by decide) (by decide) (by decide)) j, vsW_k (hk _ (by decide) (by decide) (by decide) (by decide)) j⟩)
  · have e : sameK F F1 := by rw [← hF]; exact kk_id
    obtain ⟨a1, a2, a3, a4, a5, a6⟩ := hz.2.2.2.2
    obtain ⟨b1, b2, b3, b4, b5, b6⟩ := e
    exact ⟨a1.trans b1, a2.trans b2, a3.trans b3, a4.trans b4, a5.trans b5, a6.trans b6⟩
end RP2
