/-! pledges: kind, numbers, weight -/
abbrev pZ : Type := Nat × (Nat → Int32) × UInt32
abbrev w8 (q : Nat → Nat) (v : Nat → Int32) : va_W := [(q 0, .inr (7, [.int (v 0)]))]
abbrev w2 (q : Nat → Nat) (v : Nat → Int32) : va_W := [(q 0, .inr (2, [.int (v 0), .int (v 1), .int (v 2)]))]
abbrev w4 (q : Nat → Nat) (cs : Nat → ClassId) (v : Nat → Int32) : va_W := [(q 0, .inr (4, [.ref (q 1), .int (v 6)])), (q 1, .inl (cs 0, 6, .inl v))]
abbrev w3 (q : Nat → Nat) (v : Nat → Int32) : va_W := [(q 0, .inr (1, [.int (v 0), .int (v 1), .int (v 2)]))]
abbrev w6 (q : Nat → Nat) (v : Nat → Int32) (w : UInt32) : va_W := [(q 0, .inr (5, [.int (v 0), .int (v 1), .float w, .int (v 3), .int (v 4), .int (v 5)]))]
/-- a pledge: 0 a thing, 1 gold, 2 a lot, 3 a coat, 4 a rare thing -/
def wP (q : Nat → Nat) (cs : Nat → ClassId) (c : pZ) : va_W := match c.1 with
  | 0 => w8 q c.2.1
  | 1 => w2 q c.2.1
  | 2 => w4 q cs c.2.1
  | 3 => w3 q c.2.1
  | _ => w6 q c.2.1 c.2.2
/-- the cells of a pledge -/
def pP (q : Nat → Nat) (c : pZ) : Nat → Prop := fun x => x = q 0 ∨ (c.1 = 2 ∧ x = q 1)
theorem wP_p {q : Nat → Nat} {cs : Nat → ClassId} {c : pZ} : ∀ (i : Nat) (p : Nat × va_E), (wP q cs c)[i]? = some p → pP q c p.1 := by
  obtain ⟨k, v, w⟩ := c
  intro i p h
  match k with
  | 0 => match i with
    | 0 => cases h; exact Or.inl rfl
    | n + 1 => cases h
  | 1 => match i with
    | 0 => cases h; exact Or.inl rfl
    | n + 1 => cases h
  | 2 => match i with
    | 0 => cases h; exact Or.inl rfl
    | 1 => cases h; exact Or.inr ⟨rfl, rfl⟩
    | n + 2 => cases h
  | 3 => match i with
    | 0 => cases h; exact Or.inl rfl
    | n + 1 => cases h
  | n + 4 => match i with
    | 0 => cases h; exact Or.inl rfl
    | n + 1 => cases h
theorem w4_D {q : Nat → Nat} {cs : Nat → ClassId} {v : Nat → Int32} (hq : q 0 ≠ q 1) {A : Nat → Prop} (hA : ∀ i, i < 2 → A (q i)) : va_D A (w4 q cs v) := by
  refine ⟨fun i j p r h1 h2 h3 => ?_, fun k r h => ?_⟩
  · match i, j, h1, h2 with
    | 0, 0, _, _ => rfl
    | 0, 1, h1, h2 => cases h1; cases h2; exact absurd h3 hq
    | 1, 0, h1, h2 => cases h1; cases h2; exact absurd h3.symm hq
    | 1, 1, _, _ => rfl
    | n + 2, _, h1, _ => cases h1
    | _, n + 2, _, h2 => cases h2
  · match k, h with
    | 0, h => cases h; exact hA 0 (by decide)
    | 1, h => cases h; exact hA 1 (by decide)
    | n + 2, h => cases h
/-- what an item's numbers add up to; how many there are -/
def lotS (v : Nat → Int32) : Nat → Int32
  | 0 => 0
  | i + 1 => lotS v i + v i
def lotN (v : Nat → Int32) : Nat → Int32
  | 0 => 0
  | i + 1 => if v i = 0 then lotN v i else lotN v i + 1
