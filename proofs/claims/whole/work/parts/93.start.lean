/-! the start: both sides are alike -/
def hS0 : hS := (hZ0, fun _ _ => 0, fun _ => (0, fun _ => 0, 0), fun _ _ => 0, fun _ _ => 0, fun _ => 0)
theorem HR_0 : HR hZ0 (fun _ _ => 0) (fun _ => (0, fun _ => 0, 0)) (fun _ _ => 0) 0 0 0 (mz2 40) := by
  refine ⟨⟨rfl, rfl, by omega, rfl, rfl, by omega, rfl, rfl⟩, fun j hj => ?_, ⟨fun i hi => absurd hi (Nat.not_lt_zero _), fun n _ _ k _ => rfl⟩, fun p hp => ?_, ⟨fun i hi => absurd hi (Nat.not_lt_zero _), fun p hp => Or.inl rfl⟩, ?_, ⟨fun day => rfl, fun _ => 0, fun i hi => absurd hi (Nat.not_lt_zero _), fun i j _ hj => absurd hj (Nat.not_lt_zero _)⟩, fun y hy => absurd hy (Nat.not_lt_zero _)⟩
  · have e : zh (mz2 40) (3 + j) = tFIRST j := by
      show (if 3 ≤ 3 + j ∧ 3 + j < 3 + 14 then tFIRST (3 + j - 3) else 0) = tFIRST j
      rw [if_pos (by omega), Nat.add_sub_cancel_left]
    refine ⟨e.symm, ?_⟩
    show ∃ x : Nat, tFIRST j = nI x ∧ x ≤ tN (tGREAT j)
    have : j = 0 ∨ j = 1 ∨ j = 2 ∨ j = 3 ∨ j = 4 ∨ j = 5 ∨ j = 6 ∨ j = 7 ∨ j = 8 ∨ j = 9 ∨ j = 10 ∨ j = 11 ∨ j = 12 ∨ j = 13 := by omega
    rcases this with rfl | rfl | rfl | rfl | rfl | rfl | rfl | rfl | rfl | rfl | rfl | rfl | rfl | rfl
    · exact ⟨20, rfl, by decide⟩
    · exact ⟨50, rfl, by decide⟩
    · exact ⟨700, rfl, by decide⟩
    · exact ⟨400, rfl, by decide⟩
    · exact ⟨20, rfl, by decide⟩
    · exact ⟨20, rfl, by decide⟩
    · exact ⟨20, rfl, by decide⟩
    · exact ⟨20, rfl, by decide⟩
    · exact ⟨20, rfl, by decide⟩
    · exact ⟨600, rfl, by decide⟩
    · exact ⟨600, rfl, by decide⟩
    · exact ⟨600, rfl, by decide⟩
    · exact ⟨600, rfl, by decide⟩
    · exact ⟨600, rfl, by decide⟩
  · have e : ∀ k, sh (mz2 40) p k = if 16 * p + k < 16 * 40 ∧ (16 * p + k) % 16 = 0 then -1 else 0 := fun k => rfl
    refine ⟨?_, rfl, Or.inl ⟨rfl, ?_⟩, fun k k1 k2 k3 => ?_⟩
    · rw [e, if_neg (by omega)]; rfl
    · rw [e, if_pos (by omega)]
    · rw [e, if_neg (by omega)]
  · have ep : ∀ n, plS hZ0 n = 0 := fun n => by
      induction n with
      | zero => rfl
      | succ n ih =>
        unfold plS
        rw [ih]
        exact if_pos rfl
    exact ⟨⟨rfl, rfl, rfl, rfl, rfl, rfl, rfl⟩, rfl, rfl, (ep 40).symm, rfl, rfl⟩
theorem gT_0 {D : va_G} {cs : Nat → ClassId} {o : Nat} {a1 a2 k r : Nat → Nat} {fz : Nat → Prop} {H : Heap} (hB : iB k r) (hA1 : iH a1) (hA2 : iH a2) (d1 : dHB a1 k r) (d2 : dHB a2 k r) (d3 : ∀ x, pH a1 x → ¬ pH a2 x) (o1 : ¬ pB k r o) (o2 : ¬ pH a1 o) (o3 : ¬ pH a2 o) (f0 : ¬ fz o) (f1 : ∀ x, pB k r x → ¬ fz x) (f2 : ∀ x, pH a1 x → ¬ fz x) (f3 : ∀ x, pH a2 x → ¬ fz x) (hfz : ∀ x, fz x → x < H.size) (P1 : va_P D vwCl (wB k r cs (fun _ _ => 0)) H) (P2 : va_P D vwCl (wH a1 (k 0) cs hZ0) H) (P3 : va_P D vwCl (wH a2 (k 0) cs hZ0) H) : gT D cs o a1 a2 k r fz 0 (mz2 40) H := by
  have hO : hO1 hS0 0 := ⟨fun j _ => Or.inr rfl, fun j _ e => (by cases e), fun j hj => absurd hj (Nat.not_lt_zero _), fun p _ => rfl⟩
  have np : ∀ x, ¬ plx hS0 x := fun x ⟨p, _, h, _⟩ => h rfl
  have ns : ∀ j x, ¬ slx hS0 j x := fun j x h => by cases h.1
  have key : ∀ n x, prt o a1 a2 k r hS0 hS0 n x → (n = 0 ∧ x = o) ∨ (n = 1 ∧ pH a1 x) ∨ (n = 2 ∧ pH a2 x) ∨ (n = 3 ∧ pB k r x) := fun n x h => by
    rcases h with q | q | q | q | ⟨_, q⟩ | ⟨j, _, _, q⟩ | ⟨j, _, _, q⟩
    · exact Or.inl q
    · exact Or.inr (Or.inl q)
    · exact Or.inr (Or.inr (Or.inl q))
    · exact Or.inr (Or.inr (Or.inr q))
    · exact (q.elim (np x) (np x)).elim
    · exact (ns j x q).elim
    · exact (ns j x q).elim
  refine ⟨hS0, hS0, fun _ _ => 0, 0, 0, 0, 0, 0, 0, ⟨HR_0, Or.inl rfl, hO, hO, Nat.le_refl _, Nat.le_refl _⟩, ⟨⟨hA1, hA2, hB⟩, fun n m x p q => ?_, fun n x p => ?_⟩, ⟨⟨P2, fun j _ e => (by cases e), fun p _ x e => (by cases e)⟩, ⟨P3, fun j _ e => (by cases e), fun p _ x e => (by cases e)⟩, P1⟩, hfz⟩
  · rcases key n x p with ⟨rfl, e⟩ | ⟨rfl, e⟩ | ⟨rfl, e⟩ | ⟨rfl, e⟩ <;> rcases key m x q with ⟨rfl, f⟩ | ⟨rfl, f⟩ | ⟨rfl, f⟩ | ⟨rfl, f⟩
    · rfl
    · rw [e] at f; exact absurd f o2
    · rw [e] at f; exact absurd f o3
    · rw [e] at f; exact absurd f o1
    · rw [f] at e; exact absurd e o2
    · rfl
    · exact absurd f (d3 x e)
    · exact absurd f (d1 x e)
    · rw [f] at e; exact absurd e o3
    · exact absurd e (d3 x f)
    · rfl
    · exact absurd f (d2 x e)
    · rw [f] at e; exact absurd e o1
    · exact absurd e (d1 x f)
    · exact absurd e (d2 x f)
    · rfl
  · rcases key n x p with ⟨_, e⟩ | ⟨_, e⟩ | ⟨_, e⟩ | ⟨_, e⟩
    · rw [e]; exact f0
    · exact f2 x e
    · exact f3 x e
    · exact f1 x e
