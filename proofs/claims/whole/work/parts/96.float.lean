/-! the weights -/
theorem fl_n {a : UInt32} (h : FP.Core.val32 a ≠ .nan) : vf_n32 a := by
  have h1 := (FP.Core.ne_nan32 a).mp h
  unfold vf_n32
  rw [UInt32.le_iff_toNat_le, UInt32.toNat_and]
  show a.toNat &&& (2 ^ 31 - 1) ≤ 2139095040
  rw [Nat.and_two_pow_sub_one_eq_mod]
  exact h1
theorem fl_nn {a : UInt32} (h : FP.Core.fIsNaN a = false) : vf_n32 a := fl_n ((FP.Core.notNaN_iff32 a).mp h)
theorem fl_fin (x : Int32) : FP.Core.FFin (FP.i2f x) := by
  show FP.Core.FFin (FP.Core.i2f x)
  rw [FP.Core.i2f_l2f]
  exact FP.Core.l2f_fin _
theorem fl_c8 : FP.Core.FFin 1040187392 := (FP.Core.fin_bits32 _).mpr (by decide)
theorem fl_c100 : FP.Core.val32 1120403456 = .fin false 13107200 (-17) := by decide +kernel
theorem fl_c1000 : FP.Core.val32 1148846080 = .fin false 16384000 (-14) := by decide +kernel
theorem fl_w (x : Int32) : FP.Core.val32 (FP.fmul (FP.i2f x) 1040187392) ≠ .nan := (FP.Core.notNaN_iff32 _).mp (FP.Core.fmul_out (fl_fin x) fl_c8)
theorem fl_nz {a : UInt32} {c : Nat} {q : Int} (h : FP.Core.val32 a = .fin false (c + 1) q) : ¬ FP.Core.FZero a := fun ⟨s, r, e⟩ => by
  rw [h] at e
  cases e
theorem fl_ok {w : UInt32} (h : FP.Core.val32 w ≠ .nan) : WOK w := by
  have h1 : FP.Core.fIsNaN (wAll w) = false := FP.Core.fmul_out' ((FP.Core.notNaN_iff32 w).mpr h) ⟨_, _, _, fl_c100⟩ (fl_nz fl_c100)
  have h2 : FP.Core.fIsNaN (FP.fsub (wAll w) (FP.i2f (FP.f2i (wAll w)))) = false := FP.Core.fsub_out h1 (fl_fin _)
  have h3 : FP.Core.fIsNaN (wOver w) = false := FP.Core.fmul_out' h2 ⟨_, _, _, fl_c1000⟩ (fl_nz fl_c1000)
  exact ⟨fl_nn h1, fl_nn h2, fl_nn h3⟩
theorem fl_z0 : FP.Core.zval FP.Core.b32 (FP.Core.val32 0) = 0 := FP.Core.zval32_zero
theorem fl_zt : FP.Core.zval FP.Core.b32 (FP.Core.val32 1176256512) = 10000 * (FP.Core.one32 : Int) := by decide +kernel
theorem fl_zm : FP.Core.zval FP.Core.b32 (FP.Core.val32 1232348160) = 1000000 * (FP.Core.one32 : Int) := by decide +kernel
theorem fl_qm : FP.Core.b32.qmin = -149 := by decide +kernel
theorem fl_top : 10000 * FP.Core.one32 < FP.Core.b32.tails * 2 ^ (FP.Core.b32.exps - 2) := by decide +kernel
/-- what a weight's hundredths lie between -/
theorem fl_bd {w : UInt32} (hn : FP.Core.val32 w ≠ .nan) (h0 : 0 ≤ FP.Core.zval FP.Core.b32 (FP.Core.val32 w)) (h1 : FP.Core.zval FP.Core.b32 (FP.Core.val32 w) ≤ 10000 * (FP.Core.one32 : Int)) : FP.Core.val32 (FP.fmul w 1120403456) ≠ .nan ∧ 0 ≤ FP.Core.zval FP.Core.b32 (FP.Core.val32 (FP.fmul w 1120403456)) ∧ FP.Core.zval FP.Core.b32 (FP.Core.val32 (FP.fmul w 1120403456)) ≤ 1000000 * (FP.Core.one32 : Int) := by
  have hw : FP.Core.val32 (FP.fmul w 1120403456) ≠ .nan := (FP.Core.notNaN_iff32 _).mp (FP.Core.fmul_out' ((FP.Core.notNaN_iff32 w).mpr hn) ⟨_, _, _, fl_c100⟩ (fl_nz fl_c100))
  refine ⟨hw, ?_⟩
  have hv : FP.Core.val32 (FP.fmul w 1120403456) = FP.Core.round FP.Core.b32 (FP.Core.exactProduct (FP.Core.val32 w) (FP.Core.val32 1120403456)) := FP.Core.val32_fmul w 1120403456
  have hfit := FP.Core.val32_fits w
  rw [fl_c100] at hv
  cases hd : FP.Core.val32 w with
  | nan => exact absurd hd hn
  | inf s =>
    rw [hd] at h0 h1
    have hz : FP.Core.zmag FP.Core.b32 (.inf s) = FP.Core.b32.tails * 2 ^ (FP.Core.b32.exps - 2) := rfl
    have ht := fl_top
    unfold FP.Core.zval at h0 h1
    rw [hz] at h0 h1
    generalize FP.Core.b32.tails * 2 ^ (FP.Core.b32.exps - 2) = T at h0 h1 ht
    generalize FP.Core.one32 = O at h1 ht
    generalize FP.Core.sgn (.inf s) = sg at h0 h1
    cases sg <;> simp only [FP.Core.signed, if_true, Bool.false_eq_true, if_false] at h0 h1 <;> omega
  | fin s c q =>
    rw [hd] at h0 h1 hv hfit
    have hq : FP.Core.b32.qmin ≤ q := by
      have h9 := hfit
      unfold FP.Core.fits at h9
      omega
    have hz : FP.Core.zval FP.Core.b32 (.fin s c q) = FP.Core.signed s (FP.Core.inUnits c q FP.Core.b32.qmin) := rfl
    rw [hz] at h0 h1
    have hU : FP.Core.inUnits (c * 13107200) (q + -17) (FP.Core.b32.qmin - 17) = FP.Core.inUnits c q FP.Core.b32.qmin * 13107200 := by
      unfold FP.Core.inUnits
      rw [show q + -17 - (FP.Core.b32.qmin - 17) = q - FP.Core.b32.qmin by omega, Nat.mul_right_comm]
    have hp : FP.Core.exactProduct (.fin s c q) (.fin false 13107200 (-17)) = .fin s (c * 13107200) (q + -17) := by
      show FP.Core.Datum.fin (s != false) _ _ = _
      cases s <;> rfl
    rw [hp] at hv
    have h17 : (FP.Core.b32.qmin - (FP.Core.b32.qmin - 17)).toNat = 17 := by rw [show FP.Core.b32.qmin - (FP.Core.b32.qmin - 17) = 17 by omega]; rfl
    refine ⟨?_, ?_⟩
    · have hb := FP.Core.zval_round_ge FP.Core.good_b32 (s := s) (c := c * 13107200) (q := q + -17) (e0 := FP.Core.b32.qmin - 17) (V := FP.Core.val32 0) (FP.Core.val32_fits 0) (by decide +kernel) (by omega) (by omega) (by
        rw [fl_z0, hU, FP.Core.signed_mul]
        generalize FP.Core.signed s (FP.Core.inUnits c q FP.Core.b32.qmin) = z at h0 h1
        omega)
      rw [hv, ← fl_z0]
      exact hb
    · have hb := FP.Core.zval_round_le FP.Core.good_b32 (s := s) (c := c * 13107200) (q := q + -17) (e0 := FP.Core.b32.qmin - 17) (V := FP.Core.val32 1232348160) (FP.Core.val32_fits _) (by decide +kernel) (by omega) (by omega) (by
        rw [fl_zm, hU, FP.Core.signed_mul, h17]
        generalize FP.Core.signed s (FP.Core.inUnits c q FP.Core.b32.qmin) = z at h0 h1
        generalize FP.Core.one32 = O at h1
        show z * 13107200 ≤ 1000000 * (O : Int) * 131072
        omega)
      rw [hv, ← fl_zm]
      exact hb
theorem fl_i {a : UInt32} (hn : FP.Core.val32 a ≠ .nan) (h0 : 0 ≤ FP.Core.zval FP.Core.b32 (FP.Core.val32 a)) (h1 : FP.Core.zval FP.Core.b32 (FP.Core.val32 a) ≤ 1000000 * (FP.Core.one32 : Int)) : ∃ x : Nat, FP.f2i a = nI x ∧ x ≤ 1000000 := by
  have hv : (FP.f2i a).toInt = _ := FP.Core.f2i_val hn
  unfold FP.Core.zval at h0 h1
  have hO := FP.Core.one32_pos
  generalize FP.Core.one32 = O at hv h1 hO
  generalize FP.Core.zmag FP.Core.b32 (FP.Core.val32 a) = z at hv h0 h1
  generalize FP.Core.sgn (FP.Core.val32 a) = sg at hv h0 h1
  have key : ∃ x : Nat, FP.Core.signed sg (z / O) = (x : Int) ∧ x ≤ 1000000 := by
    cases sg
    · refine ⟨z / O, rfl, ?_⟩
      have h2 : (z : Int) ≤ 1000000 * (O : Int) := h1
      exact Nat.div_le_of_le_mul (by rw [Nat.mul_comm]; omega)
    · have h2 : (0 : Int) ≤ -(z : Int) := h0
      have h3 : z = 0 := by omega
      refine ⟨0, ?_, by omega⟩
      rw [h3, Nat.zero_div]
      rfl
  obtain ⟨x, k1, k2⟩ := key
  rw [k1] at hv
  refine ⟨x, Int32.toInt.inj ?_, k2⟩
  rw [hv]
  show _ = (Int32.ofNat x).toInt
  rw [Int32.toInt_ofNat_small (by omega)]
  omega
theorem fl_wt {w : UInt32} (hn : FP.Core.val32 w ≠ .nan) (h : ¬ sc_X10_isWeight w = 0) : WSM w := by
  have c0 : FP.fcmp w FP.fconst0 = some (compare (FP.Core.zval FP.Core.b32 (FP.Core.val32 w)) (FP.Core.zval FP.Core.b32 (FP.Core.val32 0))) := FP.Core.fcmp_zval hn (by decide +kernel)
  have c1 : FP.fcmp w 1176256512 = some (compare (FP.Core.zval FP.Core.b32 (FP.Core.val32 w)) (FP.Core.zval FP.Core.b32 (FP.Core.val32 1176256512))) := FP.Core.fcmp_zval hn (by decide +kernel)
  rw [fl_z0] at c0
  rw [fl_zt] at c1
  unfold sc_X10_isWeight at h
  rw [c0, c1] at h
  generalize hz : FP.Core.zval FP.Core.b32 (FP.Core.val32 w) = z at h
  have b0 : 0 ≤ z := by
    apply Int.not_lt.mp
    intro hlt
    apply h
    rw [show compare z 0 = .lt from Int.compare_eq_lt.mpr hlt]
    exact if_pos (by decide)
  have b1 : z ≤ 10000 * (FP.Core.one32 : Int) := by
    apply Int.not_lt.mp
    intro hlt
    apply h
    rw [show compare z (10000 * (FP.Core.one32 : Int)) = .gt from Int.compare_eq_gt.mpr hlt]
    split
    · rfl
    · exact if_pos (by decide)
  obtain ⟨k1, k2, k3⟩ := fl_bd hn (by rw [hz]; exact b0) (by rw [hz]; exact b1)
  exact ⟨fl_ok hn, fl_i k1 k2 k3⟩
theorem fl_all (x : Int32) : vf_n32 (FP.fmul (FP.i2f x) 1040187392) ∧ (¬ sc_X10_isWeight (FP.fmul (FP.i2f x) 1040187392) = 0 → WSM (FP.fmul (FP.i2f x) 1040187392)) := ⟨fl_n (fl_w x), fl_wt (fl_w x)⟩
