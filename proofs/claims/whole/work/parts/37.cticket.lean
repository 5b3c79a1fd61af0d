/-! a new ticket -/
theorem va_Dcons {A : Nat → Prop} {ws : va_W} {q : Nat} {E : va_E} (hD : va_D A ws) (hlt : ∀ (k : Nat) (x : Nat × va_E), ws[k]? = some x → x.1 < q) (hA : A q) : va_D A ((q, E) :: ws) := by
  refine ⟨fun i j p r h1 h2 h3 => ?_, fun k r h => ?_⟩
  · cases i with
    | zero => cases j with
      | zero => rfl
      | succ j => cases h1; exact absurd (hlt j r h2) (by rw [← h3]; exact Nat.lt_irrefl _)
    | succ i => cases j with
      | zero => cases h2; exact absurd (hlt i p h1) (by rw [h3]; exact Nat.lt_irrefl _)
      | succ j => rw [hD.1 i j p r h1 h2 h3]
  · cases k with
    | zero => cases h; exact hA
    | succ k => exact hD.2 k r h
def tri (a b c : Nat) : Nat → Nat := fun i => if i = 0 then a else if i = 1 then b else c
theorem tri_inj {a b c : Nat} (h1 : a ≠ b) (h2 : a ≠ c) (h3 : b ≠ c) : ∀ i j, i < 3 → j < 3 → tri a b c i = tri a b c j → i = j := fun i j hi hj h => by
  match i, j, hi, hj with
  | 0, 0, _, _ => rfl
  | 0, 1, _, _ => exact absurd h h1
  | 0, 2, _, _ => exact absurd h h2
  | 1, 0, _, _ => exact absurd h.symm h1
  | 1, 1, _, _ => rfl
  | 1, 2, _, _ => exact absurd h h3
  | 2, 0, _, _ => exact absurd h.symm h2
  | 2, 1, _, _ => exact absurd h.symm h3
  | 2, 2, _, _ => rfl
/-- what a new ticket holds -/
def tk0 : Nat → Int32 := fun k => ([0, 0, 0, 0, 0, 0, 0, 0, -1, 0, 0, 0, 0, 0, 0, 0, 0, 0, -1, 0, -1, 0, 0, 0, 0, 0, 0, 0, 0, 0, -1, -1] : List Int32).getD k 0
/-- a ticket, if there is one -/
def wTo (b : Nat → Nat) (o : Option (Int32 × (Nat → Int32))) : va_W := match o with
  | none => []
  | some t => wT b t.1 t.2
theorem wTn_D {b : Nat → Nat} {nm : Int32} {v : Nat → Int32} {P : Nat → Prop} {sz : Nat} (ib : iT b) (hb : ∀ x, pT b x → sz ≤ x) : va_D (adA P sz) (wT b nm v) := ⟨(wT_D ib 0 nm v).1, fun k q h => Or.inr (hb q.1 (wT_p k q h))⟩
theorem wTnH_D {b a : Nat → Nat} {nm : Int32} {v : Nat → Int32} {kb : Nat} {cs : Nat → ClassId} {Z : hZ} {sz : Nat} (ib : iT b) (ia : iH a) (hb : ∀ x, pT b x → sz ≤ x) (hlt : ∀ x, pH a x → x < sz) : va_D (adA (pH a) sz) ((wT b nm v ++ wH a kb cs Z) ++ []) := by
  rw [List.append_nil]
  exact va_Dapp (wTn_D ib hb) (wH_D ia sz) wT_p wH_p (fr_dis hlt hb)
theorem wTnHB_D {b a k r : Nat → Nat} {nm : Int32} {v : Nat → Int32} {kb : Nat} {cs : Nat → ClassId} {Z : hZ} {RW : Nat → Nat → Int64} {sz : Nat} (ib : iT b) (ia : iH a) (ik : iB k r) (d : dHB a k r) (hb : ∀ x, pT b x → sz ≤ x) (hlt : ∀ x, pOr (pH a) (pB k r) x → x < sz) : va_D (adA (pOr (pH a) (pB k r)) sz) ((wT b nm v ++ wH a kb cs Z) ++ wB k r cs RW) := by
  rw [List.append_assoc]
  exact va_Dapp (wTn_D ib hb) (wHB_D ia ik d sz) wT_p (fun i p h => by
    by_cases hl : i < (wH a kb cs Z).length
    · rw [List.getElem?_append_left hl] at h
      exact Or.inl (wH_p i p h)
    · rw [List.getElem?_append_right (by omega)] at h
      exact Or.inr (wB_p _ p h)) (fr_dis hlt hb)
theorem any_T {s : State} {H : Heap} {D : va_G} {cs : Nat → ClassId} {b : Nat → Nat} {nm : Int32} {v : Nat → Int32} (hK : cK D cs s) (hq : va_P D vwCl (wT b nm v) H) : va_Any "PledgeHouse$Ticket" s H (b 0) := va_rAny hK.1 hq (q0 := 0) (ci := 8) rfl rfl vb_asgS
theorem pT_ge {b : Nat → Nat} {sz : Nat} (h : ∀ i, i < 3 → sz ≤ b i) : ∀ x, pT b x → sz ≤ x := fun x ⟨i, hi, e⟩ => by rw [e]; exact h i hi
section CRUN2
variable {p : Program} {l : Launch} {e : Env} {R : Room} {s : State} {m : MethodId} {args : Array Value} {below : List Frame} {meth : Method} {c : Code} {H : Heap} {locs : List Loc} {cells slots : Nat} {Q : State → Prop}
variable {mc ms pc n : Nat} {rest st0 : List Value} {ls : Array Slot} {D : va_G} {A A' : Nat → Prop} {a : Array Value}
theorem c_wN2 {x : Nat} {v : (Nat → Nat) → Option Value} {wf wf' : (Nat → Nat) → va_W} (hx : x < H.size) (hr : va_Run p l e R s m args below meth c H locs cells slots mc ms (F0 m pc ls st0) rest (cQN D n v wf A' a) A') (hS : va_S A s.heap H locs) (hA : ∀ q, A' q → A q) (hj : ∀ (q : Nat → Nat) (H1 : Heap), H.size ≤ H1.size → (∀ q : Nat, q < H.size → ¬ A' q → H1[q]? = H[q]?) → va_P D vwCl (wf q) H1 → va_P D vwCl (wf' q) H1)
    (kk : ∀ (q : Nat → Nat) (H1 : Heap) (locs1 : List Loc), (∀ i, i < n → s.heap.size ≤ q i) → (∀ i, i < n → x < q i) → (∀ i j, i < n → j < n → q i = q j → i = j) → va_P D vwCl (wf' q) H1 → va_S A s.heap H1 locs1 → W p l e R s m args below meth c H1 locs1 (cells + mc) (slots + ms) Q (F0 m (pc + 3) ls ((v q).toList ++ rest))) : W p l e R s m args below meth c H locs cells slots Q (F0 m pc ls st0) := by
  intro T hT X
  obtain ⟨v', st₀, t, T', L, h0, X', hL, e1, e2, ⟨q, hq1, hq2, hv, hP', hz, hk⟩, st⟩ := hr T hT X
  cases hv
  rw [h0] at hz hk hq1
  obtain ⟨t2, a1, b1⟩ := kk q T'.heap (locs ++ L) (fun i hi => Nat.le_trans hS.1 (hq1 i hi)) (fun i hi => Nat.lt_of_lt_of_le hx (hq1 i hi)) hq2 (by rw [e1]; exact hj q t.heap hz hk hP') ⟨by rw [e1]; exact Nat.le_trans hS.1 hz, fun q h1 h2 => by
    rw [e1, hk q (Nat.lt_of_lt_of_le h1 hS.1) (fun z => h2 (hA q z))]
    exact hS.2.1 q h1 h2, fun q hq => by
      rcases List.mem_append.mp hq with h | h
      · exact hS.2.2 q h
      · exact hA _ (hL q h)⟩ T' rfl X'
  exact ⟨t2, st t2 a1, b1⟩
end CRUN2
theorem tri_ge {a b c sz : Nat} (h1 : sz ≤ a) (h2 : sz ≤ b) (h3 : sz ≤ c) : ∀ i, i < 3 → sz ≤ tri a b c i := fun i _ => by
  unfold tri
  split
  · exact h1
  · split
    · exact h2
    · exact h3
