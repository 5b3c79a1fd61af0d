/-! a row more in the books -/
theorem rwp_i {RW : Nat → Nat → Int64} {rc j i : Nat} {x : Int64} (h : i ≠ rc) : rwp RW rc j x i = RW i := if_neg h
theorem rwp_at {RW : Nat → Nat → Int64} {rc j l : Nat} {x : Int64} : rwp RW rc j x rc l = if l = j then x else RW rc l := by
  unfold rwp updR
  rw [if_pos rfl]
  rfl
theorem rb_i {RW : Nat → Nat → Int64} {rc i : Nat} {day : Int32} (h : i ≠ rc) : sc_X0_rowBehind RW rc day i = RW i := by
  unfold sc_X0_rowBehind
  rw [rwp_i h]
  unfold rowN updR
  rw [if_neg h]
theorem rb_t {RW : Nat → Nat → Int64} {rc j : Nat} {day : Int32} (h : j < 14) : sc_X0_rowBehind RW rc day rc j = tot RW rc j := by
  unfold sc_X0_rowBehind
  rw [rwp_at, if_neg (by omega)]
  unfold rowN updR mix rowF tot
  rw [if_pos rfl, if_pos (by omega)]
  by_cases h0 : 0 < rc
  · rw [if_pos h0, if_pos h, if_neg (by omega)]
  · rw [if_neg h0, if_pos (by omega)]
theorem rb_z {RW : Nat → Nat → Int64} {rc j : Nat} {day : Int32} (h : 14 ≤ j) (h2 : j < 20) : sc_X0_rowBehind RW rc day rc j = 0 := by
  unfold sc_X0_rowBehind
  rw [rwp_at, if_neg (by omega)]
  unfold rowN updR mix rowF
  rw [if_pos rfl, if_pos (by omega)]
  by_cases h0 : 0 < rc
  · rw [if_pos h0, if_neg (by omega)]
  · rw [if_neg h0]
theorem rb_20 {RW : Nat → Nat → Int64} {rc : Nat} {day : Int32} : sc_X0_rowBehind RW rc day rc 20 = day.toInt64 := by
  unfold sc_X0_rowBehind
  rw [rwp_at, if_pos rfl]
theorem tot_s {RW : Nat → Nat → Int64} {rc j : Nat} : tot RW (rc + 1) j = RW rc j := by
  unfold tot
  rw [if_neg (by omega), Nat.add_sub_cancel]
theorem upN_c {RW RW' : Nat → Nat → Int64} {day : Int32} : ∀ n, (∀ i, i < n → RW' i = RW i) → upN RW' day n = upN RW day n
  | 0, _ => rfl
  | n + 1, h => by
    unfold upN
    rw [upN_c n (fun i hi => h i (by omega)), h n (by omega)]
theorem inN_c {RW RW' : Nat → Nat → Int64} {day : Int32} : ∀ n, (∀ i, i < n → RW' i = RW i) → inN RW' day n = inN RW day n
  | 0, _ => rfl
  | n + 1, h => by
    unfold inN sc_X0_grown
    rw [inN_c n (fun i hi => h i (by omega)), h n (by omega)]
theorem upN_new {RW RW' : Nat → Nat → Int64} {y rc d : Nat} (h : ∀ i, i < rc → RW' i = RW i) (h20 : RW' rc 20 = lN d) (hy : y < d) (hd : d ≤ 7300) : upN RW' (nI y) (rc + 1) = upN RW (nI y) rc := by
  conv => lhs; unfold upN
  rw [h20, nI_l (by omega), if_neg (by rw [lN_le (by omega) (by omega)]; omega)]
  exact upN_c rc h
theorem rC8_row {vs vs' : Nat → Nat → Int32} {RW RW' : Nat → Nat → Int64} {cn cn' rc d : Nat} (h : rC8 vs RW cn rc d) (hR : ∀ i, i < rc → RW' i = RW i) (h20 : RW' rc 20 = lN d) (hg : ∀ day, gS vs' day cn' = gS vs day cn + (sc_X0_grown RW' rc 17 day - sc_X0_grown RW' rc 14 day)) : rC8 vs' RW' cn' (rc + 1) d := by
  refine ⟨fun day => ?_, ?_⟩
  · rw [hg, ← h.1 day, ← inN_c (RW := RW) (RW' := RW') rc hR]
    rfl
  · obtain ⟨dy, h1, h2⟩ := h.2
    have q1 : ∀ i, i = rc → (fun i => if i = rc then d else dy i) i = d := fun i e => if_pos e
    have q2 : ∀ i, ¬ i = rc → (fun i => if i = rc then d else dy i) i = dy i := fun i e => if_neg e
    refine ⟨fun i => if i = rc then d else dy i, fun i hi => ?_, fun i j hij hj => ?_⟩
    · by_cases e : i = rc
      · rw [q1 i e, e]; exact ⟨h20, Nat.le_refl _⟩
      · rw [q2 i e, hR i (by omega)]; exact h1 i (by omega)
    · by_cases e : j = rc
      · rw [q1 j e]
        by_cases e2 : i = rc
        · rw [q1 i e2]; exact Nat.le_refl _
        · rw [q2 i e2]; exact (h1 i (by omega)).2
      · rw [q2 j e, q2 i (by omega)]; exact h2 i j hij (by omega)
theorem total_c {RW RW' : Nat → Nat → Int64} {rc up : Nat} {w : Int32} (hR : ∀ i, i < rc → RW' i = RW i) (hu : up ≤ rc) (hrc : rc ≤ 512) : sc_X0_total RW' w (nI up) = sc_X0_total RW w (nI up) := by
  unfold sc_X0_total
  by_cases c0 : nI up < 1
  · rw [if_pos c0, if_pos c0]
  · have h1 : ¬ up < 1 := fun z => c0 ((nI_ltI (a := up) (b := 1) (by omega) (by omega)).mpr z)
    rw [tN_n (by omega), hR (up - 1) (by omega)]
theorem rC9_row {Z Z' : hZ} {vs vs' : Nat → Nat → Int32} {RW RW' : Nat → Nat → Int64} {cn cn' rc d : Nat} {F F' : mZ} (h : rC9 Z vs RW cn rc d F) (he : ze F' = ze F) (hg : gh Z 0 = nI d) (hg' : gh Z' 0 = nI d) (hd : d ≤ 7300) (hrc : rc ≤ 511) (hR : ∀ i, i < rc → RW' i = RW i) (h20 : RW' rc 20 = lN d) (hov : ∀ y, y < d → ∀ k, ovN vs' (nI y) k cn' = ovN vs (nI y) k cn) : rC9 Z' vs' RW' cn' (rc + 1) d F' := fun y hy w hw => by
  rw [he, ← h y hy w hw]
  have hu := upN_new (y := y) hR h20 hy hd
  unfold sc_X3_sumOn sc_X3_oversOn sc_X0_rowsUpTo sc_X0_interestOn
  rw [hg, hg', hov y hy, hov y hy, hu, inN_c (RW := RW) (RW' := RW') _ (fun i hi => hR i (Nat.lt_of_lt_of_le hi (upN_le _ _ _))), total_c hR (upN_le _ _ _) (by omega)]
/-- sums with one ticket anew -/
theorem prN_x {vs : Nat → Nat → Int32} {x : Int64} : ∀ n, prN vs x n = x + prN vs 0 n
  | 0 => (Int64.add_zero x).symm
  | n + 1 => by
    unfold prN
    rw [prN_x n]
    split
    · rfl
    · rw [Int64.add_assoc]
theorem prN_w {vs : Nat → Nat → Int32} {i : Nat} {v : Nat → Int32} : ∀ n, i < n → prN (vsW vs i v) 0 n = prN vs 0 n - (if vs i 0 = 0 then (vs i 1).toInt64 else 0) + (if v 0 = 0 then (v 1).toInt64 else 0)
  | 0, h => absurd h (Nat.not_lt_zero _)
  | n + 1, h => by
    unfold prN sc_X9_isOpen
    by_cases e : i = n
    · subst e
      rw [vsW_eq, prN_c (vs := vs) (vs' := vsW vs i v) i (fun j hj => by rw [vsW_ne (by omega)]; exact ⟨rfl, rfl⟩)]
      by_cases c1 : vs i 0 = 0 <;> by_cases c2 : v 0 = 0 <;> simp [c1, c2] <;> grind
    · rw [vsW_ne (by omega), prN_w n (by omega)]
      by_cases c1 : vs n 0 = 0 <;> simp [c1] <;> grind
theorem opS_w {vs : Nat → Nat → Int32} {i : Nat} {v : Nat → Int32} : ∀ n, i < n → opS (vsW vs i v) n = opS vs n - (if vs i 0 = 0 then 1 else 0) + (if v 0 = 0 then 1 else 0)
  | 0, h => absurd h (Nat.not_lt_zero _)
  | n + 1, h => by
    unfold opS
    by_cases e : i = n
    · subst e
      rw [vsW_eq, opS_c (vs := vs) (vs' := vsW vs i v) i (fun j hj => by rw [vsW_ne (by omega)])]
      by_cases c1 : vs i 0 = 0 <;> by_cases c2 : v 0 = 0 <;> simp [c1, c2] <;> grind
    · rw [vsW_ne (by omega), opS_w n (by omega)]
      by_cases c1 : vs n 0 = 0 <;> simp [c1] <;> grind
theorem gS_w {vs : Nat → Nat → Int32} {i : Nat} {v : Nat → Int32} {day : Int32} : ∀ n, i < n → gS (vsW vs i v) day n = gS vs day n - (if vs i 0 = 0 then gF (vs i) day else 0) + (if v 0 = 0 then gF v day else 0)
  | 0, h => absurd h (Nat.not_lt_zero _)
  | n + 1, h => by
    unfold gS
    by_cases e : i = n
    · subst e
      rw [vsW_eq, gS_c (vs := vs) (vs' := vsW vs i v) i (fun j hj => by rw [vsW_ne (by omega)]; exact ⟨rfl, rfl, rfl, rfl, rfl, rfl⟩)]
      by_cases c1 : vs i 0 = 0 <;> by_cases c2 : v 0 = 0 <;> simp [c1, c2] <;> grind
    · rw [vsW_ne (by omega), gS_w n (by omega)]
      by_cases c1 : vs n 0 = 0 <;> simp [c1] <;> grind
