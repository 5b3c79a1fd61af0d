/-! all of the class's cells at once -/
abbrev hS : Type := hZ × (Nat → Nat → Int32) × (Nat → pZ) × (Nat → Nat → Nat) × (Nat → Nat → Nat) × (Nat → Int32)
abbrev sZ (h : hS) : hZ := h.1
abbrev sv (h : hS) : Nat → Nat → Int32 := h.2.1
abbrev sl (h : hS) : Nat → pZ := h.2.2.1
abbrev sq (h : hS) : Nat → Nat → Nat := h.2.2.2.1
abbrev sb (h : hS) : Nat → Nat → Nat := h.2.2.2.2.1
abbrev sn (h : hS) : Nat → Int32 := h.2.2.2.2.2
/-- the cells of a ticket in a slot; of the pledges -/
def slx (h : hS) (j x : Nat) : Prop := gt (sZ h) j = some (sb h j 0) ∧ pT (sb h j) x
def plx (h : hS) (x : Nat) : Prop := ∃ p, p < 40 ∧ gp (sZ h) p ≠ none ∧ pP (sq h p) (sl h p) x
/-- whose a cell is -/
def prt (o : Nat) (a1 a2 k r : Nat → Nat) (h1 h2 : hS) (n x : Nat) : Prop := (n = 0 ∧ x = o) ∨ (n = 1 ∧ pH a1 x) ∨ (n = 2 ∧ pH a2 x) ∨ (n = 3 ∧ pB k r x) ∨ (n = 4 ∧ (plx h1 x ∨ plx h2 x)) ∨ (∃ j, j < 511 ∧ n = 5 + 2 * j ∧ slx h1 j x) ∨ (∃ j, j < 511 ∧ n = 6 + 2 * j ∧ slx h2 j x)
/-- a house in the heap -/
def hG1 (D : va_G) (cs : Nat → ClassId) (a : Nat → Nat) (kb : Nat) (h : hS) (H : Heap) : Prop := va_P D vwCl (wH a kb cs (sZ h)) H ∧ (∀ j, j < 511 → gt (sZ h) j = some (sb h j 0) → va_P D vwCl (wT (sb h j) (sn h j) (sv h j)) H) ∧ ∀ p, p < 40 → ∀ x, gp (sZ h) p = some x → x = sq h p 0 ∧ va_P D vwCl (wP (sq h p) cs (sl h p)) H
/-- its slots -/
def hO1 (h : hS) (cn : Nat) : Prop := (∀ j, j < 511 → gt (sZ h) j = some (sb h j 0) ∨ gt (sZ h) j = none) ∧ (∀ j, j < 511 → gt (sZ h) j = some (sb h j 0) → iT (sb h j)) ∧ (∀ j, j < cn → gt (sZ h) j = some (sb h j 0) ∧ sn h j = nI (j + 1)) ∧ ∀ p, 40 ≤ p → gp (sZ h) p = none
def gI (o : Nat) (a1 a2 k r : Nat → Nat) (fz : Nat → Prop) (h1 h2 : hS) : Prop := (iH a1 ∧ iH a2 ∧ iB k r) ∧ (∀ n m x, prt o a1 a2 k r h1 h2 n x → prt o a1 a2 k r h1 h2 m x → n = m) ∧ ∀ n x, prt o a1 a2 k r h1 h2 n x → ¬ fz x
def gH (D : va_G) (cs : Nat → ClassId) (a1 a2 k r : Nat → Nat) (h1 h2 : hS) (RW : Nat → Nat → Int64) (H : Heap) : Prop := hG1 D cs a1 (k 0) h1 H ∧ hG1 D cs a2 (k 0) h2 H ∧ va_P D vwCl (wB k r cs RW) H
/-- the class's state and the reference's -/
def gR (h1 h2 : hS) (RW : Nat → Nat → Int64) (cn1 rc1 d1 cn2 rc2 d2 : Nat) (N : Nat) (F : mZ) : Prop := HR (sZ h1) (sv h1) (sl h1) RW cn1 rc1 d1 F ∧ (zik F = 0 ∨ (zik F = 1 ∧ HK (sZ h2) (sv h2) (sl h2) RW cn2 rc2 d2 F ∧ hO1 h2 cn2 ∧ rc2 ≤ rc1 ∧ d2 ≤ d1 ∧ cn2 ≤ N)) ∧ hO1 h1 cn1 ∧ hO1 h2 0 ∧ rc1 ≤ N ∧ cn1 ≤ N
def gT (D : va_G) (cs : Nat → ClassId) (o : Nat) (a1 a2 k r : Nat → Nat) (fz : Nat → Prop) (N : Nat) (F : mZ) (H : Heap) : Prop := ∃ (h1 h2 : hS) (RW : Nat → Nat → Int64) (cn1 rc1 d1 cn2 rc2 d2 : Nat), gR h1 h2 RW cn1 rc1 d1 cn2 rc2 d2 N F ∧ gI o a1 a2 k r fz h1 h2 ∧ gH D cs a1 a2 k r h1 h2 RW H ∧ ∀ x, fz x → x < H.size
abbrev wO (o : Nat) (a1 a2 : Nat → Nat) (y st : Int32) : va_W := [(o, .inr (9, [.ref (a1 0), .ref (a2 0), .int y, .int st]))]
theorem wO_p {o : Nat} {a1 a2 : Nat → Nat} {y st : Int32} : ∀ (i : Nat) (p : Nat × va_E), (wO o a1 a2 y st)[i]? = some p → p.1 = o := fun i p h => by
  match i with
  | 0 => cases h; rfl
  | n + 1 => cases h
theorem keepW {D : va_G} {w : va_W} {H H1 : Heap} {P : Nat → Prop} (hp : va_P D vwCl w H) (hpr : ∀ (k : Nat) (q : Nat × va_E), w[k]? = some q → P q.1) (hk : ∀ q : Nat, q < H.size → P q → H1[q]? = H[q]?) : va_P D vwCl w H1 := fun k q h => (hp k q h).kept (hk q.1 (hp k q h).lt (hpr k q h))
theorem wP_lt {D : va_G} {q : Nat → Nat} {cs : Nat → ClassId} {c : pZ} {H : Heap} (hp : va_P D vwCl (wP q cs c) H) : ∀ x, pP q c x → x < H.size := fun x h => by
  obtain ⟨k, v, w⟩ := c
  match k with
  | 0 => rcases h with h | h
         · subst h; exact (hp 0 _ rfl).lt
         · exact absurd h.1 (by show ¬ (0 : Nat) = 2; decide)
  | 1 => rcases h with h | h
         · subst h; exact (hp 0 _ rfl).lt
         · exact absurd h.1 (by show ¬ (1 : Nat) = 2; decide)
  | 2 => rcases h with h | h
         · subst h; exact (hp 0 _ rfl).lt
         · rw [h.2]; exact (hp 1 _ rfl).lt
  | 3 => rcases h with h | h
         · subst h; exact (hp 0 _ rfl).lt
         · exact absurd h.1 (by show ¬ (3 : Nat) = 2; decide)
  | n + 4 => rcases h with h | h
             · subst h; exact (hp 0 _ rfl).lt
             · exact absurd h.1 (by show ¬ (n + 4) = 2; omega)
section GL
variable {D : va_G} {cs : Nat → ClassId} {o : Nat} {a1 a2 k r : Nat → Nat} {fz : Nat → Prop} {N : Nat} {F F' : mZ} {H H1 : Heap} {h1 h2 h1' h2' : hS} {RW RW' : Nat → Nat → Int64} {cn1 rc1 d1 cn2 rc2 d2 : Nat} {y st : Int32}
/-- all cells that are the class's are there -/
theorem prt_lt (hO : va_P D vwCl (wO o a1 a2 y st) H) (hH : gH D cs a1 a2 k r h1 h2 RW H) : ∀ n x, prt o a1 a2 k r h1 h2 n x → x < H.size := fun n x h => by
  have pl : ∀ (h : hS) (a : Nat → Nat), hG1 D cs a (k 0) h H → plx h x → x < H.size := fun h a hg ⟨p, p1, p2, p3⟩ => by
    cases e : gp (sZ h) p with
    | none => exact absurd e p2
    | some y => exact wP_lt (hg.2.2 p p1 y e).2 x p3
  rcases h with ⟨_, rfl⟩ | ⟨_, q⟩ | ⟨_, q⟩ | ⟨_, q⟩ | ⟨_, q⟩ | ⟨j, hj, _, q⟩ | ⟨j, hj, _, q⟩
  · exact (hO 0 _ rfl).lt
  · exact wH_lt hH.1.1 x q
  · exact wH_lt hH.2.1.1 x q
  · exact wB_lt hH.2.2 x q
  · rcases q with q | q
    · exact pl h1 a1 hH.1 q
    · exact pl h2 a2 hH.2.1 q
  · exact wT_lt (hH.1.2.1 j hj q.1) x q.2
  · exact wT_lt (hH.2.1.2.1 j hj q.1) x q.2
/-- new cells -/
theorem gI_new {sz : Nat} {Nw : Nat → Nat → Prop} (hI : gI o a1 a2 k r fz h1 h2) (hlt : ∀ n x, prt o a1 a2 k r h1 h2 n x → x < sz) (hfz : ∀ x, fz x → x < sz) (hn : ∀ n x, prt o a1 a2 k r h1' h2' n x → prt o a1 a2 k r h1 h2 n x ∨ (sz ≤ x ∧ Nw n x)) (hw : ∀ n m x, Nw n x → Nw m x → n = m) : gI o a1 a2 k r fz h1' h2' := by
  refine ⟨hI.1, fun n m x p q => ?_, fun n x p => ?_⟩
  · rcases hn n x p with p | p <;> rcases hn m x q with q | q
    · exact hI.2.1 n m x p q
    · exact absurd (hlt n x p) (by omega)
    · exact absurd (hlt m x q) (by omega)
    · exact hw n m x p.2 q.2
  · rcases hn n x p with p | p
    · exact hI.2.2 n x p
    · exact fun z => absurd (hfz x z) (by omega)
theorem gI_sub (hI : gI o a1 a2 k r fz h1 h2) (hn : ∀ n x, prt o a1 a2 k r h1' h2' n x → prt o a1 a2 k r h1 h2 n x) : gI o a1 a2 k r fz h1' h2' := ⟨hI.1, fun n m x p q => hI.2.1 n m x (hn n x p) (hn m x q), fun n x p => hI.2.2 n x (hn n x p)⟩
/-- the other house, when it is not touched -/
theorem keep_h {a : Nat → Nat} {h : hS} (hg : hG1 D cs a (k 0) h H) (e1 : ∀ x, x < H.size → pH a x → H1[x]? = H[x]?) (e2 : ∀ j x, j < 511 → x < H.size → slx h j x → H1[x]? = H[x]?) (e3 : ∀ x, x < H.size → plx h x → H1[x]? = H[x]?) : hG1 D cs a (k 0) h H1 :=
  ⟨keepW hg.1 wH_p (fun q a b => e1 q a b), fun j hj e => keepW (hg.2.1 j hj e) wT_p (fun q a b => e2 j q hj a ⟨e, b⟩), fun p hp x e => ⟨(hg.2.2 p hp x e).1, keepW (hg.2.2 p hp x e).2 wP_p (fun q a b => e3 q a ⟨p, hp, by rw [e]; simp, b⟩)⟩⟩
/-- acts on a ticket -/
theorem gH_tk (hI : gI o a1 a2 k r fz h1 h2) (hH : gH D cs a1 a2 k r h1 h2 RW H) {i : Nat} (hi : i < 511) (hs : gt (sZ h1) i = some (sb h1 i 0)) {Z' : hZ} {v' : Nat → Int32} (hgt : gt Z' = gt (sZ h1)) (hgp : ∀ p x, gp Z' p = some x → gp (sZ h1) p = some x)
    (hk : ∀ q, q < H.size → ¬ pH a1 q → ¬ pB k r q → ¬ slx h1 i q → H1[q]? = H[q]?) (P1 : va_P D vwCl (wT (sb h1 i) (sn h1 i) v') H1) (P2 : va_P D vwCl (wH a1 (k 0) cs Z') H1) (P3 : va_P D vwCl (wB k r cs RW') H1) :
    gH D cs a1 a2 k r (Z', vsW (sv h1) i v', h1.2.2) h2 RW' H1 ∧ gI o a1 a2 k r fz (Z', vsW (sv h1) i v', h1.2.2) h2 := by
  have un : ∀ n x, n ≠ 1 → n ≠ 3 → n ≠ 5 + 2 * i → x < H.size → prt o a1 a2 k r h1 h2 n x → H1[x]? = H[x]? := fun n x n1 n3 n5 hx p => hk x hx (fun q => n1 (hI.2.1 n 1 x p (Or.inr (Or.inl ⟨rfl, q⟩)))) (fun q => n3 (hI.2.1 n 3 x p (Or.inr (Or.inr (Or.inr (Or.inl ⟨rfl, q⟩)))))) (fun q => n5 (hI.2.1 n (5 + 2 * i) x p (Or.inr (Or.inr (Or.inr (Or.inr (Or.inr (Or.inl ⟨i, hi, rfl, q⟩))))))))
  refine ⟨⟨⟨P2, fun j hj e => ?_, fun p hp x e => ?_⟩, keep_h hH.2.1 (fun x a b => un 2 x (by decide) (by decide) (by omega) a (Or.inr (Or.inr (Or.inl ⟨rfl, b⟩)))) (fun j x hj a b => un (6 + 2 * j) x (by omega) (by omega) (by omega) a (Or.inr (Or.inr (Or.inr (Or.inr (Or.inr (Or.inr ⟨j, hj, rfl, b⟩))))))) (fun x a b => un 4 x (by decide) (by decide) (by omega) a (Or.inr (Or.inr (Or.inr (Or.inr (Or.inl ⟨rfl, Or.inr b⟩)))))), P3⟩, gI_sub hI (fun n x p => ?_)⟩
  · have e' : gt (sZ h1) j = some (sb h1 j 0) := by rw [← hgt]; exact e
    show va_P D vwCl (wT (sb h1 j) (sn h1 j) (vsW (sv h1) i v' j)) H1
    by_cases z : j = i
    · subst z; rw [vsW_eq]; exact P1
    · rw [vsW_ne z]
      exact keepW (hH.1.2.1 j hj e') wT_p (fun q a b => un (5 + 2 * j) q (by omega) (by omega) (by omega) a (Or.inr (Or.inr (Or.inr (Or.inr (Or.inr (Or.inl ⟨j, hj, rfl, e', b⟩)))))))
  · have e' := hgp p x e
    exact ⟨(hH.1.2.2 p hp x e').1, keepW (hH.1.2.2 p hp x e').2 wP_p (fun q a b => un 4 q (by decide) (by decide) (by omega) a (Or.inr (Or.inr (Or.inr (Or.inr (Or.inl ⟨rfl, Or.inl ⟨p, hp, by rw [e']; simp, b⟩⟩))))))⟩
  · rcases p with q | q | q | q | ⟨n4, q⟩ | ⟨j, hj, e, q⟩ | q
    · exact Or.inl q
    · exact Or.inr (Or.inl q)
    · exact Or.inr (Or.inr (Or.inl q))
    · exact Or.inr (Or.inr (Or.inr (Or.inl q)))
    · refine Or.inr (Or.inr (Or.inr (Or.inr (Or.inl ⟨n4, ?_⟩))))
      rcases q with ⟨p, p1, p2, p3⟩ | q
      · refine Or.inl ⟨p, p1, ?_, p3⟩
        cases e : gp Z' p with
        | none => exact absurd e p2
        | some y => rw [hgp p y e]; simp
      · exact Or.inr q
    · refine Or.inr (Or.inr (Or.inr (Or.inr (Or.inr (Or.inl ⟨j, hj, e, ?_, q.2⟩)))))
      have q1 := q.1
      show gt (sZ h1) j = _
      rw [← hgt]
      exact q1
    · exact Or.inr (Or.inr (Or.inr (Or.inr (Or.inr (Or.inr q)))))
/-- acts that touch the house and the books alone -/
theorem gH_hb (hI : gI o a1 a2 k r fz h1 h2) (hH : gH D cs a1 a2 k r h1 h2 RW H) {Z' : hZ} (hgt : gt Z' = gt (sZ h1)) (hgp : ∀ p x, gp Z' p = some x → gp (sZ h1) p = some x)
    (hk : ∀ q, q < H.size → ¬ pH a1 q → ¬ pB k r q → H1[q]? = H[q]?) (P2 : va_P D vwCl (wH a1 (k 0) cs Z') H1) (P3 : va_P D vwCl (wB k r cs RW') H1) :
    gH D cs a1 a2 k r (Z', h1.2) h2 RW' H1 ∧ gI o a1 a2 k r fz (Z', h1.2) h2 := by
  have un : ∀ n x, n ≠ 1 → n ≠ 3 → x < H.size → prt o a1 a2 k r h1 h2 n x → H1[x]? = H[x]? := fun n x n1 n3 hx p => hk x hx (fun q => n1 (hI.2.1 n 1 x p (Or.inr (Or.inl ⟨rfl, q⟩)))) (fun q => n3 (hI.2.1 n 3 x p (Or.inr (Or.inr (Or.inr (Or.inl ⟨rfl, q⟩))))))
  refine ⟨⟨⟨P2, fun j hj e => ?_, fun p hp x e => ?_⟩, keep_h hH.2.1 (fun x a b => un 2 x (by decide) (by decide) a (Or.inr (Or.inr (Or.inl ⟨rfl, b⟩)))) (fun j x hj a b => un (6 + 2 * j) x (by omega) (by omega) a (Or.inr (Or.inr (Or.inr (Or.inr (Or.inr (Or.inr ⟨j, hj, rfl, b⟩))))))) (fun x a b => un 4 x (by decide) (by decide) a (Or.inr (Or.inr (Or.inr (Or.inr (Or.inl ⟨rfl, Or.inr b⟩)))))), P3⟩, gI_sub hI (fun n x p => ?_)⟩
  · have e' : gt (sZ h1) j = some (sb h1 j 0) := by rw [← hgt]; exact e
    exact keepW (hH.1.2.1 j hj e') wT_p (fun q a b => un (5 + 2 * j) q (by omega) (by omega) a (Or.inr (Or.inr (Or.inr (Or.inr (Or.inr (Or.inl ⟨j, hj, rfl, e', b⟩)))))))
  · have e' := hgp p x e
    exact ⟨(hH.1.2.2 p hp x e').1, keepW (hH.1.2.2 p hp x e').2 wP_p (fun q a b => un 4 q (by decide) (by decide) a (Or.inr (Or.inr (Or.inr (Or.inr (Or.inl ⟨rfl, Or.inl ⟨p, hp, by rw [e']; simp, b⟩⟩))))))⟩
  · rcases p with q | q | q | q | ⟨n4, q⟩ | ⟨j, hj, e, q⟩ | q
    · exact Or.inl q
    · exact Or.inr (Or.inl q)
    · exact Or.inr (Or.inr (Or.inl q))
    · exact Or.inr (Or.inr (Or.inr (Or.inl q)))
    · refine Or.inr (Or.inr (Or.inr (Or.inr (Or.inl ⟨n4, ?_⟩))))
      rcases q with ⟨p, p1, p2, p3⟩ | q
      · refine Or.inl ⟨p, p1, ?_, p3⟩
        cases e : gp Z' p with
        | none => exact absurd e p2
        | some y => rw [hgp p y e]; simp
      · exact Or.inr q
    · refine Or.inr (Or.inr (Or.inr (Or.inr (Or.inr (Or.inl ⟨j, hj, e, ?_, q.2⟩)))))
      have q1 := q.1
      show gt (sZ h1) j = _
      rw [← hgt]
      exact q1
    · exact Or.inr (Or.inr (Or.inr (Or.inr (Or.inr (Or.inr q)))))
/-- a new pledge on a place -/
def qsW (qs : Nat → Nat → Nat) (p : Nat) (q : Nat → Nat) : Nat → Nat → Nat := fun j => if j = p then q else qs j
theorem qsW_eq {qs : Nat → Nat → Nat} {p : Nat} {q : Nat → Nat} : qsW qs p q p = q := if_pos rfl
theorem qsW_ne {qs : Nat → Nat → Nat} {p j : Nat} {q : Nat → Nat} (h : j ≠ p) : qsW qs p q j = qs j := if_neg h
theorem gH_pl (hO : va_P D vwCl (wO o a1 a2 y st) H) (hfz : ∀ x, fz x → x < H.size) (hI : gI o a1 a2 k r fz h1 h2) (hH : gH D cs a1 a2 k r h1 h2 RW H) {Z' : hZ} {vs' : Nat → Nat → Int32} {p0 : Nat} {q0 : Nat → Nat} {P : pZ} (hp0 : p0 < 40) (hgt : gt Z' = gt (sZ h1)) (hgp : gp Z' p0 = some (q0 0)) (hgn : ∀ p, p ≠ p0 → gp Z' p = gp (sZ h1) p) (hq : ∀ i, i < 2 → H.size ≤ q0 i)
    {I : Nat → Prop} (hvI : ∀ j, j < 511 → (gt (sZ h1) j = some (sb h1 j 0)) → (I j ∧ va_P D vwCl (wT (sb h1 j) (sn h1 j) (vs' j)) H1) ∨ (¬ I j ∧ vs' j = sv h1 j)) (hk : ∀ q, q < H.size → ¬ pH a1 q → ¬ pB k r q → (∀ j, j < 511 → I j → ¬ slx h1 j q) → H1[q]? = H[q]?) (P1 : va_P D vwCl (wP q0 cs P) H1) (P2 : va_P D vwCl (wH a1 (k 0) cs Z') H1) (P3 : va_P D vwCl (wB k r cs RW') H1) :
    gH D cs a1 a2 k r (Z', vs', plW (sl h1) p0 P, qsW (sq h1) p0 q0, h1.2.2.2.2) h2 RW' H1 ∧ gI o a1 a2 k r fz (Z', vs', plW (sl h1) p0 P, qsW (sq h1) p0 q0, h1.2.2.2.2) h2 := by
  have un : ∀ n x, n ≠ 1 → n ≠ 3 → (∀ j, j < 511 → I j → n ≠ 5 + 2 * j) → x < H.size → prt o a1 a2 k r h1 h2 n x → H1[x]? = H[x]? := fun n x n1 n3 n5 hx p => hk x hx (fun q => n1 (hI.2.1 n 1 x p (Or.inr (Or.inl ⟨rfl, q⟩)))) (fun q => n3 (hI.2.1 n 3 x p (Or.inr (Or.inr (Or.inr (Or.inl ⟨rfl, q⟩)))))) (fun j hj hIj q => n5 j hj hIj (hI.2.1 n (5 + 2 * j) x p (Or.inr (Or.inr (Or.inr (Or.inr (Or.inr (Or.inl ⟨j, hj, rfl, q⟩))))))))
  refine ⟨⟨⟨P2, fun j hj e => ?_, fun p hp x e => ?_⟩, keep_h hH.2.1 (fun x a b => un 2 x (by decide) (by decide) (fun _ _ _ => by omega) a (Or.inr (Or.inr (Or.inl ⟨rfl, b⟩)))) (fun j x hj a b => un (6 + 2 * j) x (by omega) (by omega) (fun _ _ _ => by omega) a (Or.inr (Or.inr (Or.inr (Or.inr (Or.inr (Or.inr ⟨j, hj, rfl, b⟩))))))) (fun x a b => un 4 x (by decide) (by decide) (fun _ _ _ => by omega) a (Or.inr (Or.inr (Or.inr (Or.inr (Or.inl ⟨rfl, Or.inr b⟩)))))), P3⟩, gI_new (Nw := fun n _ => n = 4) hI (prt_lt hO hH) hfz (fun n x p => ?_) (fun n m _ a b => a.trans b.symm)⟩
  · have e' : gt (sZ h1) j = some (sb h1 j 0) := by rw [← hgt]; exact e
    rcases hvI j hj e' with ⟨_, q⟩ | ⟨q1, q2⟩
    · exact q
    · show va_P D vwCl (wT (sb h1 j) (sn h1 j) (vs' j)) H1
      rw [q2]
      exact keepW (hH.1.2.1 j hj e') wT_p (fun q a b => un (5 + 2 * j) q (by omega) (by omega) (fun m hm hIm z => q1 (by
        have : j = m := by omega
        rw [this]; exact hIm)) a (Or.inr (Or.inr (Or.inr (Or.inr (Or.inr (Or.inl ⟨j, hj, rfl, e', b⟩)))))))
  · show x = qsW (sq h1) p0 q0 p 0 ∧ va_P D vwCl (wP (qsW (sq h1) p0 q0 p) cs (plW (sl h1) p0 P p)) H1
    by_cases z : p = p0
    · subst z
      rw [qsW_eq, plW_eq]
      have e2 : some x = some (q0 0) := e.symm.trans hgp
      exact ⟨Option.some.inj e2, P1⟩
    · rw [qsW_ne z, plW_ne z]
      have e' : gp (sZ h1) p = some x := by rw [← hgn p z]; exact e
      exact ⟨(hH.1.2.2 p hp x e').1, keepW (hH.1.2.2 p hp x e').2 wP_p (fun q a b => un 4 q (by decide) (by decide) (fun _ _ _ => by omega) a (Or.inr (Or.inr (Or.inr (Or.inr (Or.inl ⟨rfl, Or.inl ⟨p, hp, by rw [e']; simp, b⟩⟩))))))⟩
  · rcases p with q | q | q | q | ⟨n4, q⟩ | ⟨j, hj, e, q⟩ | q
    · exact Or.inl (Or.inl q)
    · exact Or.inl (Or.inr (Or.inl q))
    · exact Or.inl (Or.inr (Or.inr (Or.inl q)))
    · exact Or.inl (Or.inr (Or.inr (Or.inr (Or.inl q))))
    · rcases q with ⟨p, p1, p2, p3⟩ | q
      · have p2 : gp Z' p ≠ none := p2
        have p3 : pP (qsW (sq h1) p0 q0 p) (plW (sl h1) p0 P p) x := p3
        by_cases z : p = p0
        · subst z
          rw [qsW_eq] at p3
          refine Or.inr ⟨?_, n4⟩
          rcases p3 with e | ⟨_, e⟩
          · rw [e]; exact hq 0 (by decide)
          · rw [e]; exact hq 1 (by decide)
        · rw [qsW_ne z, plW_ne z] at p3
          exact Or.inl (Or.inr (Or.inr (Or.inr (Or.inr (Or.inl ⟨n4, Or.inl ⟨p, p1, by rw [← hgn p z]; exact p2, p3⟩⟩)))))
      · exact Or.inl (Or.inr (Or.inr (Or.inr (Or.inr (Or.inl ⟨n4, Or.inr q⟩)))))
    · refine Or.inl (Or.inr (Or.inr (Or.inr (Or.inr (Or.inr (Or.inl ⟨j, hj, e, ?_, q.2⟩))))))
      have q1 := q.1
      show gt (sZ h1) j = _
      rw [← hgt]
      exact q1
    · exact Or.inl (Or.inr (Or.inr (Or.inr (Or.inr (Or.inr (Or.inr q))))))
end GL
