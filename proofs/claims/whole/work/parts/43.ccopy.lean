/-! copies of tickets -/
theorem T3_D {b : Nat → Nat} {E0 E1 E2 : va_E} (hi : iT b) (sz : Nat) : va_D (adA (pT b) sz) [(b 0, E0), (b 1, E1), (b 2, E2)] := by
  refine ⟨fun i j p q h1 h2 h3 => ?_, fun k q h => ?_⟩
  · match i, j, h1, h2 with
    | 0, 0, _, _ => rfl
    | 0, 1, h1, h2 => cases h1; cases h2; exact hi 0 1 (by decide) (by decide) h3
    | 0, 2, h1, h2 => cases h1; cases h2; exact hi 0 2 (by decide) (by decide) h3
    | 1, 0, h1, h2 => cases h1; cases h2; exact hi 1 0 (by decide) (by decide) h3
    | 1, 1, _, _ => rfl
    | 1, 2, h1, h2 => cases h1; cases h2; exact hi 1 2 (by decide) (by decide) h3
    | 2, 0, h1, h2 => cases h1; cases h2; exact hi 2 0 (by decide) (by decide) h3
    | 2, 1, h1, h2 => cases h1; cases h2; exact hi 2 1 (by decide) (by decide) h3
    | 2, 2, _, _ => rfl
    | n + 3, _, h1, _ => cases h1
    | _, n + 3, _, h2 => cases h2
  · match k, h with
    | 0, h => cases h; exact Or.inl ⟨0, by decide, rfl⟩
    | 1, h => cases h; exact Or.inl ⟨1, by decide, rfl⟩
    | 2, h => cases h; exact Or.inl ⟨2, by decide, rfl⟩
    | n + 3, h => cases h
theorem one_p {o : Nat} {E : va_E} : ∀ (k : Nat) (q : Nat × va_E), ([(o, E)] : va_W)[k]? = some q → p1 o q.1 := fun k q h => by
  match k, h with
  | 0, h => cases h; rfl
  | n + 1, h => cases h
/-- one cell out of three -/
theorem T3_at {D : va_G} {H : Heap} {a0 a1 a2 : Nat} {E0 E1 E2 : va_E} (hP : va_P D vwCl [(a0, E0), (a1, E1), (a2, E2)] H) : va_P D vwCl [(a0, E0)] H ∧ va_P D vwCl [(a1, E1)] H ∧ va_P D vwCl [(a2, E2)] H := ⟨hP.sub [0] rfl, hP.sub [1] rfl, hP.sub [2] rfl⟩
theorem T3_of {D : va_G} {H : Heap} {a0 a1 a2 : Nat} {E0 E1 E2 : va_E} (h0 : va_P D vwCl [(a0, E0)] H) (h1 : va_P D vwCl [(a1, E1)] H) (h2 : va_P D vwCl [(a2, E2)] H) : va_P D vwCl [(a0, E0), (a1, E1), (a2, E2)] H := va_P.app (w1 := [(a0, E0)]) h0 (va_P.app (w1 := [(a1, E1)]) h1 h2)
theorem p1_ne {a b : Nat} (h : a ≠ b) : ∀ q, p1 a q → ¬ p1 b q := fun q h1 h2 => h ((show q = a from h1).symm.trans h2)
theorem bz_n {x : Int32} (h : x = 0 ∨ x = 1) : narrow .boolean (.int x) = .int x := by rcases h with rfl | rfl <;> rfl
theorem bz_f {x : Int32} (h : x = 0 ∨ x = 1) : fits .boolean (.int x) = true := by rcases h with rfl | rfl <;> rfl
