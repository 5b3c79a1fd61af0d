/-! the class's worlds: the house, the books -/
abbrev hZ : Type := (Nat → Int32) × (Nat → Int32) × (Nat → Int32) × (Nat → Int32) × (Nat → Option Nat) × (Nat → Option Nat)
/-- 0 today, 1 ticketCount, 2 rowCount; the rules; the boxes; ticketOn; pledges; tickets -/
abbrev gh (Z : hZ) : Nat → Int32 := Z.1
abbrev gr (Z : hZ) : Nat → Int32 := Z.2.1
abbrev gb (Z : hZ) : Nat → Int32 := Z.2.2.1
abbrev go (Z : hZ) : Nat → Int32 := Z.2.2.2.1
abbrev gp (Z : hZ) : Nat → Option Nat := Z.2.2.2.2.1
abbrev gt (Z : hZ) : Nat → Option Nat := Z.2.2.2.2.2
def ghp (Z : hZ) (j : Nat) (v : Int32) : hZ := (upd (gh Z) j v, Z.2)
def grp (Z : hZ) (j : Nat) (v : Int32) : hZ := (gh Z, upd (gr Z) j v, Z.2.2)
def gbp (Z : hZ) (j : Nat) (v : Int32) : hZ := (gh Z, gr Z, upd (gb Z) j v, Z.2.2.2)
def gop (Z : hZ) (j : Nat) (v : Int32) : hZ := (gh Z, gr Z, gb Z, upd (go Z) j v, Z.2.2.2.2)
def gpp (Z : hZ) (j : Nat) (v : Option Nat) : hZ := (gh Z, gr Z, gb Z, go Z, va_up (gp Z) j v, gt Z)
def gtp (Z : hZ) (j : Nat) (v : Option Nat) : hZ := (gh Z, gr Z, gb Z, go Z, gp Z, va_up (gt Z) j v)
theorem gh_grp {Z : hZ} {i j : Nat} {v : Int32} : gh (grp Z i v) j = gh Z j := rfl
theorem gh_gbp {Z : hZ} {i j : Nat} {v : Int32} : gh (gbp Z i v) j = gh Z j := rfl
theorem gh_gop {Z : hZ} {i j : Nat} {v : Int32} : gh (gop Z i v) j = gh Z j := rfl
theorem gh_gpp {Z : hZ} {i j : Nat} {v : Option Nat} : gh (gpp Z i v) j = gh Z j := rfl
theorem gh_gtp {Z : hZ} {i j : Nat} {v : Option Nat} : gh (gtp Z i v) j = gh Z j := rfl
theorem gr_ghp {Z : hZ} {i j : Nat} {v : Int32} : gr (ghp Z i v) j = gr Z j := rfl
theorem gr_gbp {Z : hZ} {i j : Nat} {v : Int32} : gr (gbp Z i v) j = gr Z j := rfl
theorem gr_gop {Z : hZ} {i j : Nat} {v : Int32} : gr (gop Z i v) j = gr Z j := rfl
theorem gr_gpp {Z : hZ} {i j : Nat} {v : Option Nat} : gr (gpp Z i v) j = gr Z j := rfl
theorem gr_gtp {Z : hZ} {i j : Nat} {v : Option Nat} : gr (gtp Z i v) j = gr Z j := rfl
theorem gb_ghp {Z : hZ} {i j : Nat} {v : Int32} : gb (ghp Z i v) j = gb Z j := rfl
theorem gb_grp {Z : hZ} {i j : Nat} {v : Int32} : gb (grp Z i v) j = gb Z j := rfl
theorem gb_gop {Z : hZ} {i j : Nat} {v : Int32} : gb (gop Z i v) j = gb Z j := rfl
theorem gb_gpp {Z : hZ} {i j : Nat} {v : Option Nat} : gb (gpp Z i v) j = gb Z j := rfl
theorem gb_gtp {Z : hZ} {i j : Nat} {v : Option Nat} : gb (gtp Z i v) j = gb Z j := rfl
theorem go_ghp {Z : hZ} {i j : Nat} {v : Int32} : go (ghp Z i v) j = go Z j := rfl
theorem go_grp {Z : hZ} {i j : Nat} {v : Int32} : go (grp Z i v) j = go Z j := rfl
theorem go_gbp {Z : hZ} {i j : Nat} {v : Int32} : go (gbp Z i v) j = go Z j := rfl
theorem go_gpp {Z : hZ} {i j : Nat} {v : Option Nat} : go (gpp Z i v) j = go Z j := rfl
theorem go_gtp {Z : hZ} {i j : Nat} {v : Option Nat} : go (gtp Z i v) j = go Z j := rfl
theorem gp_ghp {Z : hZ} {i j : Nat} {v : Int32} : gp (ghp Z i v) j = gp Z j := rfl
theorem gp_grp {Z : hZ} {i j : Nat} {v : Int32} : gp (grp Z i v) j = gp Z j := rfl
theorem gp_gbp {Z : hZ} {i j : Nat} {v : Int32} : gp (gbp Z i v) j = gp Z j := rfl
theorem gp_gop {Z : hZ} {i j : Nat} {v : Int32} : gp (gop Z i v) j = gp Z j := rfl
theorem gp_gtp {Z : hZ} {i j : Nat} {v : Option Nat} : gp (gtp Z i v) j = gp Z j := rfl
theorem gt_ghp {Z : hZ} {i j : Nat} {v : Int32} : gt (ghp Z i v) j = gt Z j := rfl
theorem gt_grp {Z : hZ} {i j : Nat} {v : Int32} : gt (grp Z i v) j = gt Z j := rfl
theorem gt_gbp {Z : hZ} {i j : Nat} {v : Int32} : gt (gbp Z i v) j = gt Z j := rfl
theorem gt_gop {Z : hZ} {i j : Nat} {v : Int32} : gt (gop Z i v) j = gt Z j := rfl
theorem gt_gpp {Z : hZ} {i j : Nat} {v : Option Nat} : gt (gpp Z i v) j = gt Z j := rfl
theorem gh_ghp_ne {Z : hZ} {i j : Nat} {v : Int32} (h : j ≠ i) : gh (ghp Z i v) j = gh Z j := if_neg h
theorem gh_ghp_eq {Z : hZ} {i : Nat} {v : Int32} : gh (ghp Z i v) i = v := if_pos rfl
theorem gr_grp_ne {Z : hZ} {i j : Nat} {v : Int32} (h : j ≠ i) : gr (grp Z i v) j = gr Z j := if_neg h
theorem gr_grp_eq {Z : hZ} {i : Nat} {v : Int32} : gr (grp Z i v) i = v := if_pos rfl
theorem gb_gbp_ne {Z : hZ} {i j : Nat} {v : Int32} (h : j ≠ i) : gb (gbp Z i v) j = gb Z j := if_neg h
theorem gb_gbp_eq {Z : hZ} {i : Nat} {v : Int32} : gb (gbp Z i v) i = v := if_pos rfl
theorem go_gop_ne {Z : hZ} {i j : Nat} {v : Int32} (h : j ≠ i) : go (gop Z i v) j = go Z j := if_neg h
theorem go_gop_eq {Z : hZ} {i : Nat} {v : Int32} : go (gop Z i v) i = v := if_pos rfl
theorem gp_gpp_ne {Z : hZ} {i j : Nat} {v : Option Nat} (h : j ≠ i) : gp (gpp Z i v) j = gp Z j := if_neg h
theorem gp_gpp_eq {Z : hZ} {i : Nat} {v : Option Nat} : gp (gpp Z i v) i = v := if_pos rfl
theorem gt_gtp_ne {Z : hZ} {i j : Nat} {v : Option Nat} (h : j ≠ i) : gt (gtp Z i v) j = gt Z j := if_neg h
theorem gt_gtp_eq {Z : hZ} {i : Nat} {v : Option Nat} : gt (gtp Z i v) i = v := if_pos rfl
abbrev refs (f : Nat → Option Nat) : (Nat → Int32) ⊕ (Nat → Int64) ⊕ (Nat → UInt32) ⊕ (Nat → UInt64) ⊕ (Nat → Option Nat) := .inr (.inr (.inr (.inr f)))
abbrev wH (a : Nat → Nat) (kb : Nat) (cs : Nat → ClassId) (Z : hZ) : va_W := [
  (a 0, .inr (3, [.ref kb, .int (gh Z 2), .int (gh Z 0), .ref (a 1), .ref (a 2), .ref (a 3), .ref (a 4), .ref (a 5), .int (gh Z 1)])),
  (a 1, .inl (cs 0, 14, .inl (gr Z))), (a 2, .inl (cs 3, 40, refs (gp Z))), (a 3, .inl (cs 2, 40, .inl (gb Z))), (a 4, .inl (cs 0, 40, .inl (go Z))), (a 5, .inl (cs 4, 511, refs (gt Z)))]
def rowL (r : Nat → Nat) (cs : Nat → ClassId) (RW : Nat → Nat → Int64) (n : Nat) : va_W := (List.range n).map (fun i => (r i, .inl (cs 1, 21, .inr (.inl (RW i)))))
def outR (r : Nat → Nat) : Nat → Option Nat := fun i => if i < 513 then some (r i) else none
abbrev wB (k : Nat → Nat) (r : Nat → Nat) (cs : Nat → ClassId) (RW : Nat → Nat → Int64) : va_W := [(k 0, .inr (0, [.ref (k 1)])), (k 1, .inl (cs 5, 513, refs (outR r)))] ++ rowL r cs RW 513
def pH (a : Nat → Nat) : Nat → Prop := fun q => ∃ i, i < 6 ∧ q = a i
def pB (k r : Nat → Nat) : Nat → Prop := fun q => (∃ i, i < 2 ∧ q = k i) ∨ ∃ i, i < 513 ∧ q = r i
def pOr (P Q : Nat → Prop) : Nat → Prop := fun q => P q ∨ Q q
def iH (a : Nat → Nat) : Prop := ∀ i j, i < 6 → j < 6 → a i = a j → i = j
def iB (k r : Nat → Nat) : Prop := k 0 ≠ k 1 ∧ (∀ i j, i < 513 → j < 513 → r i = r j → i = j) ∧ ∀ i j, i < 2 → j < 513 → k i ≠ r j
theorem rowL_at {r : Nat → Nat} {cs : Nat → ClassId} {RW : Nat → Nat → Int64} {n i : Nat} (h : i < n) : (rowL r cs RW n)[i]? = some (r i, .inl (cs 1, 21, .inr (.inl (RW i)))) := by
  unfold rowL
  rw [List.getElem?_map, List.getElem?_range h]
  rfl
theorem rowL_of {r : Nat → Nat} {cs : Nat → ClassId} {RW : Nat → Nat → Int64} {n i : Nat} {p : Nat × va_E} (h : (rowL r cs RW n)[i]? = some p) : i < n ∧ p = (r i, .inl (cs 1, 21, .inr (.inl (RW i)))) := by
  have hl : i < n := by
    have := (List.getElem?_eq_some_iff.mp h).1
    simpa [rowL] using this
  rw [rowL_at hl] at h
  exact ⟨hl, (Option.some.inj h).symm⟩
theorem wH_at {a : Nat → Nat} {kb : Nat} {cs : Nat → ClassId} {Z : hZ} : ∀ (i : Nat) (p : Nat × va_E), (wH a kb cs Z)[i]? = some p → i < 6 ∧ p.1 = a i
  | 0, p, h => by cases h; exact ⟨by decide, rfl⟩
  | 1, p, h => by cases h; exact ⟨by decide, rfl⟩
  | 2, p, h => by cases h; exact ⟨by decide, rfl⟩
  | 3, p, h => by cases h; exact ⟨by decide, rfl⟩
  | 4, p, h => by cases h; exact ⟨by decide, rfl⟩
  | 5, p, h => by cases h; exact ⟨by decide, rfl⟩
  | n + 6, p, h => by cases h
theorem wBn_at {k r : Nat → Nat} {cs : Nat → ClassId} {RW : Nat → Nat → Int64} {n : Nat} : ∀ (i : Nat) (p : Nat × va_E), (([(k 0, .inr (0, [.ref (k 1)])), (k 1, .inl (cs 5, 513, refs (outR r)))] : va_W) ++ rowL r cs RW n)[i]? = some p → (i < 2 ∧ p.1 = k i) ∨ ∃ j, j < n ∧ i = j + 2 ∧ p.1 = r j
  | 0, p, h => Or.inl ⟨by decide, by rw [← Option.some.inj h]⟩
  | 1, p, h => Or.inl ⟨by decide, by rw [← Option.some.inj h]⟩
  | i + 2, p, h => by
    have h2 : (rowL r cs RW n)[i]? = some p := h
    obtain ⟨h3, h4⟩ := rowL_of h2
    exact Or.inr ⟨i, h3, rfl, by rw [h4]⟩
theorem wB_at {k r : Nat → Nat} {cs : Nat → ClassId} {RW : Nat → Nat → Int64} (i : Nat) (p : Nat × va_E) (h : (wB k r cs RW)[i]? = some p) : (i < 2 ∧ p.1 = k i) ∨ ∃ j, j < 513 ∧ i = j + 2 ∧ p.1 = r j := wBn_at i p h
theorem wH_D {a : Nat → Nat} {kb : Nat} {cs : Nat → ClassId} {Z : hZ} (hi : iH a) (sz : Nat) : va_D (adA (pH a) sz) (wH a kb cs Z) := by
  refine ⟨fun i j p q h1 h2 h3 => ?_, fun k q h => ?_⟩
  · obtain ⟨a1, a2⟩ := wH_at i p h1
    obtain ⟨b1, b2⟩ := wH_at j q h2
    exact hi i j a1 b1 (by rw [← a2, ← b2]; exact h3)
  · obtain ⟨a1, a2⟩ := wH_at k q h
    exact Or.inl ⟨k, a1, a2⟩
theorem wB_D {k r : Nat → Nat} {cs : Nat → ClassId} {RW : Nat → Nat → Int64} (hi : iB k r) (sz : Nat) : va_D (adA (pB k r) sz) (wB k r cs RW) := by
  refine ⟨fun i j p q h1 h2 h3 => ?_, fun n q h => ?_⟩
  · rcases wB_at i p h1 with ⟨a1, a2⟩ | ⟨i', a1, a2, a3⟩ <;> rcases wB_at j q h2 with ⟨b1, b2⟩ | ⟨j', b1, b2, b3⟩
    · rw [a2, b2] at h3
      rcases (show i = 0 ∨ i = 1 by omega) with rfl | rfl <;> rcases (show j = 0 ∨ j = 1 by omega) with rfl | rfl
      · rfl
      · exact absurd h3 hi.1
      · exact absurd h3.symm hi.1
      · rfl
    · rw [a2, b3] at h3; exact absurd h3 (hi.2.2 i j' a1 b1)
    · rw [a3, b2] at h3; exact absurd h3.symm (hi.2.2 j i' b1 a1)
    · rw [a3, b3] at h3; have := hi.2.1 i' j' a1 b1 h3; omega
  · rcases wB_at n q h with ⟨a1, a2⟩ | ⟨i', a1, -, a3⟩
    · exact Or.inl (Or.inl ⟨n, a1, a2⟩)
    · exact Or.inl (Or.inr ⟨i', a1, a3⟩)
theorem wT_p {b : Nat → Nat} {nm : Int32} {v : Nat → Int32} : ∀ (i : Nat) (p : Nat × va_E), (wT b nm v)[i]? = some p → pT b p.1 := fun i p h => ⟨i, (wT_at i p h).1, (wT_at i p h).2⟩
theorem wH_p {a : Nat → Nat} {kb : Nat} {cs : Nat → ClassId} {Z : hZ} : ∀ (i : Nat) (p : Nat × va_E), (wH a kb cs Z)[i]? = some p → pH a p.1 := fun i p h => ⟨i, (wH_at i p h).1, (wH_at i p h).2⟩
theorem wB_p {k r : Nat → Nat} {cs : Nat → ClassId} {RW : Nat → Nat → Int64} : ∀ (i : Nat) (p : Nat × va_E), (wB k r cs RW)[i]? = some p → pB k r p.1 := fun i p h => (wB_at i p h).elim (fun h => Or.inl ⟨i, h.1, h.2⟩) (fun ⟨j, h1, _, h3⟩ => Or.inr ⟨j, h1, h3⟩)
theorem vaL {D : va_G} {w1 w2 : va_W} {H : Heap} (h : va_P D vwCl (w1 ++ w2) H) : va_P D vwCl w1 H := fun k q hk => h k q (by rw [List.getElem?_append_left (List.getElem?_eq_some_iff.mp hk).1]; exact hk)
theorem vaR {D : va_G} {w1 w2 : va_W} {H : Heap} (h : va_P D vwCl (w1 ++ w2) H) : va_P D vwCl w2 H := fun k q hk => h (w1.length + k) q (by rw [List.getElem?_append_right (Nat.le_add_right _ _), Nat.add_sub_cancel_left]; exact hk)
/-- what a call leaves alone -/
theorem keepP {D : va_G} {w : va_W} {H H1 : Heap} {P P' : Nat → Prop} (hp : va_P D vwCl w H) (hpr : ∀ (k : Nat) (q : Nat × va_E), w[k]? = some q → P q.1) (hd : ∀ q, P q → ¬ P' q) (hk : ∀ q : Nat, q < H.size → ¬ adA P' H.size q → H1[q]? = H[q]?) : va_P D vwCl w H1 :=
  hp.kept (fun k q hq => hk q.1 (hp k q hq).lt (fun z => z.elim (hd q.1 (hpr k q hq)) (fun h => absurd (hp k q hq).lt (Nat.not_lt.mpr h))))
theorem va_Dapp {A : Nat → Prop} {w1 w2 : va_W} {P1 P2 : Nat → Prop} (h1 : va_D A w1) (h2 : va_D A w2) (p1 : ∀ (k : Nat) (q : Nat × va_E), w1[k]? = some q → P1 q.1) (p2 : ∀ (k : Nat) (q : Nat × va_E), w2[k]? = some q → P2 q.1) (hd : ∀ q, P1 q → ¬ P2 q) : va_D A (w1 ++ w2) :=
  va_D.app h1 h2 (fun i j p q hi hj he => hd p.1 (p1 i p hi) (by rw [he]; exact p2 j q hj))
theorem adA_l {P Q : Nat → Prop} {sz : Nat} : ∀ q, adA P sz q → adA (pOr P Q) sz q := fun q h => h.elim (fun h => Or.inl (Or.inl h)) Or.inr
theorem adA_r {P Q : Nat → Prop} {sz : Nat} : ∀ q, adA Q sz q → adA (pOr P Q) sz q := fun q h => h.elim (fun h => Or.inl (Or.inr h)) Or.inr
/-- apart: a ticket, the house, the books -/
def dHB (a k r : Nat → Nat) : Prop := ∀ q, pH a q → ¬ pB k r q
def dTB (b k r : Nat → Nat) : Prop := ∀ q, pT b q → ¬ pB k r q
def dTH (b a : Nat → Nat) : Prop := ∀ q, pT b q → ¬ pH a q
theorem wHB_D {a k r : Nat → Nat} {kb : Nat} {cs : Nat → ClassId} {Z : hZ} {RW : Nat → Nat → Int64} (ia : iH a) (ik : iB k r) (d : dHB a k r) (sz : Nat) : va_D (adA (pOr (pH a) (pB k r)) sz) (wH a kb cs Z ++ wB k r cs RW) :=
  va_Dapp ((wH_D ia sz).weaken (fun _ q _ h => adA_l q.1 h)) ((wB_D ik sz).weaken (fun _ q _ h => adA_r q.1 h)) wH_p wB_p d
theorem wTB_D {b k r : Nat → Nat} {nm : Int32} {v : Nat → Int32} {cs : Nat → ClassId} {RW : Nat → Nat → Int64} (ib : iT b) (ik : iB k r) (d : dTB b k r) (sz : Nat) : va_D (adA (pOr (pT b) (pB k r)) sz) (wT b nm v ++ wB k r cs RW) :=
  va_Dapp ((wT_D ib sz nm v).weaken (fun _ q _ h => adA_l q.1 h)) ((wB_D ik sz).weaken (fun _ q _ h => adA_r q.1 h)) wT_p wB_p d
theorem wTH_D {b a : Nat → Nat} {nm : Int32} {v : Nat → Int32} {kb : Nat} {cs : Nat → ClassId} {Z : hZ} (ib : iT b) (ia : iH a) (d : dTH b a) (sz : Nat) : va_D (adA (pOr (pT b) (pH a)) sz) (wT b nm v ++ wH a kb cs Z) :=
  va_Dapp ((wT_D ib sz nm v).weaken (fun _ q _ h => adA_l q.1 h)) ((wH_D ia sz).weaken (fun _ q _ h => adA_r q.1 h)) wT_p wH_p d
theorem wTH_p {b a : Nat → Nat} {nm : Int32} {v : Nat → Int32} {kb : Nat} {cs : Nat → ClassId} {Z : hZ} : ∀ (i : Nat) (p : Nat × va_E), (wT b nm v ++ wH a kb cs Z)[i]? = some p → pOr (pT b) (pH a) p.1 := fun i p h => by
  by_cases hl : i < (wT b nm v).length
  · rw [List.getElem?_append_left hl] at h
    exact Or.inl (wT_p i p h)
  · rw [List.getElem?_append_right (by omega)] at h
    exact Or.inr (wH_p _ p h)
def dTHB (b a k r : Nat → Nat) : Prop := dTH b a ∧ dTB b k r ∧ dHB a k r
theorem dTHB_x {b a k r : Nat → Nat} (d : dTHB b a k r) : ∀ q, pOr (pT b) (pH a) q → ¬ pB k r q := fun q h => h.elim (d.2.1 q) (d.2.2 q)
theorem wTHB_D {b a k r : Nat → Nat} {nm : Int32} {v : Nat → Int32} {kb : Nat} {cs : Nat → ClassId} {Z : hZ} {RW : Nat → Nat → Int64} (ib : iT b) (ia : iH a) (ik : iB k r) (d : dTHB b a k r) (sz : Nat) : va_D (adA (pOr (pOr (pT b) (pH a)) (pB k r)) sz) ((wT b nm v ++ wH a kb cs Z) ++ wB k r cs RW) :=
  va_Dapp ((wTH_D ib ia d.1 sz).weaken (fun _ q _ h => adA_l q.1 h)) ((wB_D ik sz).weaken (fun _ q _ h => adA_r q.1 h)) wTH_p wB_p (dTHB_x d)
/-- a row's place put anew -/
def updR (RW : Nat → Nat → Int64) (i : Nat) (f : Nat → Int64) : Nat → Nat → Int64 := fun j => if j = i then f else RW j
def rwp (RW : Nat → Nat → Int64) (i j : Nat) (x : Int64) : Nat → Nat → Int64 := updR RW i (vp_updL (RW i) j x)
theorem wBn_row {k r : Nat → Nat} {cs : Nat → ClassId} {RW : Nat → Nat → Int64} {X : va_W} {n i : Nat} (h : i < n) : (X ++ (([(k 0, .inr (0, [.ref (k 1)])), (k 1, .inl (cs 5, 513, refs (outR r)))] : va_W) ++ rowL r cs RW n))[X.length + (i + 2)]? = some (r i, .inl (cs 1, 21, .inr (.inl (RW i)))) := by
  rw [List.getElem?_append_right (Nat.le_add_right _ _), Nat.add_sub_cancel_left]
  exact rowL_at h
theorem wBn_set {k r : Nat → Nat} {cs : Nat → ClassId} {RW : Nat → Nat → Int64} {X : va_W} {n i : Nat} {f : Nat → Int64} (h : i < n) : (X ++ (([(k 0, .inr (0, [.ref (k 1)])), (k 1, .inl (cs 5, 513, refs (outR r)))] : va_W) ++ rowL r cs RW n)).set (X.length + (i + 2)) (r i, .inl (cs 1, 21, .inr (.inl f))) = X ++ (([(k 0, .inr (0, [.ref (k 1)])), (k 1, .inl (cs 5, 513, refs (outR r)))] : va_W) ++ rowL r cs (updR RW i f) n) := by
  apply List.ext_getElem?
  intro m
  rw [List.getElem?_set]
  by_cases hn : X.length + (i + 2) = m
  · subst hn
    rw [if_pos rfl, wBn_row h]
    rw [if_pos (List.getElem?_eq_some_iff.mp (wBn_row (X := X) (k := k) (r := r) (cs := cs) (RW := RW) h)).1]
    simp [updR]
  · rw [if_neg hn]
    by_cases hx : m < X.length
    · rw [List.getElem?_append_left hx, List.getElem?_append_left hx]
    · have eL : ∀ w2 : va_W, (X ++ w2)[m]? = w2[m - X.length]? := fun w2 => List.getElem?_append_right (by omega)
      rw [eL, eL]
      match hm : m - X.length with
      | 0 => rfl
      | 1 => rfl
      | j + 2 =>
        show (rowL r cs RW n)[j]? = (rowL r cs (updR RW i f) n)[j]?
        by_cases hj : j < n
        · rw [rowL_at hj, rowL_at hj]
          have : j ≠ i := by omega
          simp [updR, this]
        · have e1 : (rowL r cs RW n)[j]? = none := List.getElem?_eq_none (by simp [rowL]; omega)
          have e2 : (rowL r cs (updR RW i f) n)[j]? = none := List.getElem?_eq_none (by simp [rowL]; omega)
          rw [e1, e2]
theorem wB_row {k r : Nat → Nat} {cs : Nat → ClassId} {RW : Nat → Nat → Int64} {X : va_W} {i : Nat} (h : i < 513) : (X ++ wB k r cs RW)[X.length + (i + 2)]? = some (r i, .inl (cs 1, 21, .inr (.inl (RW i)))) := wBn_row h
theorem wB_set {k r : Nat → Nat} {cs : Nat → ClassId} {RW : Nat → Nat → Int64} {X : va_W} {i : Nat} {f : Nat → Int64} (h : i < 513) : (X ++ wB k r cs RW).set (X.length + (i + 2)) (r i, .inl (cs 1, 21, .inr (.inl f))) = X ++ wB k r cs (updR RW i f) := wBn_set h
section BROW
variable {p : Program} {l : Launch} {e : Env} {R : Room} {s : State} {m : MethodId} {args : Array Value} {below : List Frame} {meth : Method} {c : Code} {H : Heap} {locs : List Loc} {cells slots : Nat} {Q : State → Prop}
variable {cc : ByteArray} {pc : Nat} {ls : Array Slot} {rest : List Value} {D : va_G} {A : Nat → Prop} {H0 : Heap} {k r : Nat → Nat} {cs : Nat → ClassId} {RW : Nat → Nat → Int64} {X : va_W}
theorem b_lald (hexec : p.tables.exec = Jvm.exec) (hb : c.code = cc) (hK : va_K D vwCl (tysA cs) s) (hP : va_P D vwCl (X ++ wB k r cs RW) H) {ix : Int32} (i j : Nat) (hi : i < 513) (hj : ix = nI j) (hjn : j < 21) {v : Int64} (hv : RW i j = v) (hdg : decode cc pc = .ok (.laload, 1))
    (kk : W p l e R s m args below meth c H locs cells slots Q (F0 m (pc + 1) ls (.long v :: rest))) : W p l e R s m args below meth c H locs cells slots Q (F0 m pc ls (.int ix :: .ref (r i) :: rest)) :=
  x_lald hexec hb hK hP (X.length + (i + 2)) 1 (wB_row hi) rfl j hj hjn (by decide) hdg (by rw [hv]; exact kk)
theorem b_last (hexec : p.tables.exec = Jvm.exec) (hb : c.code = cc) (hK : va_K D vwCl (tysA cs) s) (hP : va_P D vwCl (X ++ wB k r cs RW) H) (hD : va_D A (X ++ wB k r cs RW)) (hS : va_S A H0 H locs) {ix : Int32} {x : Int64} (i j : Nat) (hi : i < 513) (hj : ix = nI j) (hjn : j < 21) (hdg : decode cc pc = .ok (.lastore, 1))
    (kk : ∀ (H1 : Heap) (locs1 : List Loc), va_P D vwCl (X ++ wB k r cs (rwp RW i j x)) H1 → va_S A H0 H1 locs1 → W p l e R s m args below meth c H1 locs1 cells slots Q (F0 m (pc + 1) ls rest)) : W p l e R s m args below meth c H locs cells slots Q (F0 m pc ls (.long x :: .int ix :: .ref (r i) :: rest)) :=
  x_last hexec hb hK hP hD hS (X.length + (i + 2)) 1 (wB_row hi) rfl j hj hjn (by decide) hdg (fun H1 locs1 hP hS => kk H1 locs1 (by rw [wB_set hi] at hP; exact hP) hS)
theorem x_aaldA {cl : List vw_C} {ws : va_W} {tys : List (ClassId × FieldType)} {a : Nat} (hexec : p.tables.exec = Jvm.exec) (hb : c.code = cc) (hK : va_K D cl tys s) (hP : va_P D cl ws H) (q0 t0 : Nat) {cA : ClassId} {ty : FieldType} {n : Nat} {f : Nat → Option Nat} (ha : ws[q0]? = some (a, .inl (cA, n, refs f))) (ht : tys[t0]? = some (cA, .array ty)) {ix : Int32} (i : Nat) (hj : ix = nI i) (hi : i < n) (hn : n < 2 ^ 31) {v : Value} (hv : va_rf (f i) = v) (hdg : decode cc pc = .ok (.aaload, 1))
    (kk : W p l e R s m args below meth c H locs cells slots Q (F0 m (pc + 1) ls (v :: rest))) : W p l e R s m args below meth c H locs cells slots Q (F0 m pc ls (.int ix :: .ref a :: rest)) := by
  subst hj
  subst hv
  have hin : vp_in (nI i) n := vp_in_nI hi hn
  have hcl : (nI i).toNatClampNeg = i := nI_clamp (by omega)
  exact W.aald (v := va_rf (f i)) hexec hb (hP q0 _ ha) ((hK.2 t0 _ ht).1 n (fun j => va_rf (f j))) (by first | rfl | (cases ty <;> rfl)) (fun q => by cases q) (by show ¬ (nI i < 0 ∨ (arrV _ _ _).slots.size ≤ _); rw [arrV_size]; exact hin) (by show (arrV _ _ _).slots[_]? = _; rw [hcl, arrV_read _ _ hi]) rfl rfl hdg kk
/-- a row out of the books -/
theorem b_aald (hexec : p.tables.exec = Jvm.exec) (hb : c.code = cc) (hK : va_K D vwCl (tysA cs) s) (hP : va_P D vwCl (X ++ wB k r cs RW) H) {ix : Int32} (i : Nat) (hj : ix = nI i) (hi : i < 513) (hdg : decode cc pc = .ok (.aaload, 1))
    (kk : W p l e R s m args below meth c H locs cells slots Q (F0 m (pc + 1) ls (.ref (r i) :: rest))) : W p l e R s m args below meth c H locs cells slots Q (F0 m pc ls (.int ix :: .ref (k 1) :: rest)) :=
  x_aaldA hexec hb hK (vaR hP) 1 5 rfl rfl i hj hi (by decide) (by unfold outR; rw [if_pos hi]; rfl) hdg kk
end BROW
theorem set3 {X L Y : va_W} {i : Nat} {e : Nat × va_E} (h : i < L.length) : ((X ++ L) ++ Y).set (X.length + i) e = (X ++ L.set i e) ++ Y := by
  rw [List.set_append_left _ _ (by rw [List.length_append]; omega), List.set_append_right _ _ (Nat.le_add_right _ _), Nat.add_sub_cancel_left]
theorem get3 {X L Y : va_W} {i : Nat} {e : Nat × va_E} (h : L[i]? = some e) : ((X ++ L) ++ Y)[X.length + i]? = some e := by
  have hl := (List.getElem?_eq_some_iff.mp h).1
  rw [List.getElem?_append_left (by rw [List.length_append]; omega), List.getElem?_append_right (Nat.le_add_right _ _), Nat.add_sub_cancel_left]
  exact h
section HROW
variable {p : Program} {l : Launch} {e : Env} {R : Room} {s : State} {m : MethodId} {args : Array Value} {below : List Frame} {meth : Method} {c : Code} {H : Heap} {locs : List Loc} {cells slots : Nat} {Q : State → Prop}
variable {cc : ByteArray} {pc : Nat} {ls : Array Slot} {rest : List Value} {D : va_G} {A : Nat → Prop} {H0 : Heap} {a : Nat → Nat} {kb : Nat} {cs : Nat → ClassId} {Z : hZ} {X Y : va_W} {own ref : String} {index : Nat} {Ts : List Cond}
theorem hx_get (hexec : p.tables.exec = Jvm.exec) (hb : c.code = cc) (hts : ∀ w ∈ Ts, w.before args s = true) (hin : ∀ w ∈ wsX30, w ∈ Ts) (hown : s.vm.findClass own = some m.cls) (hK : va_K D vwCl (tysA cs) s) (hP : va_P D vwCl ((X ++ wH a kb cs Z) ++ Y) H) (k : Nat) (hk : k < 9) (hlink : (Cond.fieldLink own index RX3 (TX3 k).2.1 (TX3 k).2.2.1).before args s = true) (h3 : (TX3 k).1 = RX3) {v : Value} (hv : ([.ref kb, .int (gh Z 2), .int (gh Z 0), .ref (a 1), .ref (a 2), .ref (a 3), .ref (a 4), .ref (a 5), .int (gh Z 1)] : List Value)[k]? = some v) (hdg : decode cc pc = .ok (.getfield index, 3))
    (kk : W p l e R s m args below meth c H locs cells slots Q (F0 m (pc + 3) ls (v :: rest))) : W p l e R s m args below meth c H locs cells slots Q (F0 m pc ls (.ref (a 0) :: rest)) :=
  va_get (D := D) (ci := 3) (C := RX3) (T := TX3) (N := 9) hexec hb hts hin hown hK hP (X.length + 0) (get3 rfl) rfl k hk hlink (fun x h => by rw [h3] at h; exact h) hv hdg kk
theorem hx_put (hexec : p.tables.exec = Jvm.exec) (hb : c.code = cc) (hts : ∀ w ∈ Ts, w.before args s = true) (hin : ∀ w ∈ wsX30, w ∈ Ts) (hown : s.vm.findClass own = some m.cls) (hK : va_K D vwCl (tysA cs) s) (hP : va_P D vwCl ((X ++ wH a kb cs Z) ++ Y) H) (hD : va_D A ((X ++ wH a kb cs Z) ++ Y)) (hS : va_S A H0 H locs) (k j : Nat) (hkj : (k = 1 ∧ j = 2) ∨ (k = 2 ∧ j = 0) ∨ (k = 8 ∧ j = 1)) (hlink : (Cond.fieldLink own index RX3 (TX3 k).2.1 (TX3 k).2.2.1).before args s = true) {x : Int32} (hdg : decode cc pc = .ok (.putfield index, 3))
    (kk : ∀ (H1 : Heap) (locs1 : List Loc), va_P D vwCl ((X ++ wH a kb cs (ghp Z j x)) ++ Y) H1 → va_S A H0 H1 locs1 → W p l e R s m args below meth c H1 locs1 cells slots Q (F0 m (pc + 3) ls rest)) : W p l e R s m args below meth c H locs cells slots Q (F0 m pc ls (.int x :: .ref (a 0) :: rest)) := by
  rcases hkj with ⟨rfl, rfl⟩ | ⟨rfl, rfl⟩ | ⟨rfl, rfl⟩
  · exact va_put (D := D) (ci := 3) (v := .int x) (ty := .int) (C := RX3) (T := TX3) (N := 9) hexec hb hts hin tyX3 tyX3_ok nmX3 hown hK hP hD hS (X.length + 0) (get3 rfl) rfl 1 (by decide) hlink (fun _ h9 => h9) rfl (by decide +kernel) rfl rfl (Nat.le_of_ble_eq_true rfl) hdg (fun H1 locs1 hP _ hS => kk H1 locs1 (by rw [set3 (Nat.le_of_ble_eq_true rfl)] at hP; exact hP) hS)
  · exact va_put (D := D) (ci := 3) (v := .int x) (ty := .int) (C := RX3) (T := TX3) (N := 9) hexec hb hts hin tyX3 tyX3_ok nmX3 hown hK hP hD hS (X.length + 0) (get3 rfl) rfl 2 (by decide) hlink (fun _ h9 => h9) rfl (by decide +kernel) rfl rfl (Nat.le_of_ble_eq_true rfl) hdg (fun H1 locs1 hP _ hS => kk H1 locs1 (by rw [set3 (Nat.le_of_ble_eq_true rfl)] at hP; exact hP) hS)
  · exact va_put (D := D) (ci := 3) (v := .int x) (ty := .int) (C := RX3) (T := TX3) (N := 9) hexec hb hts hin tyX3 tyX3_ok nmX3 hown hK hP hD hS (X.length + 0) (get3 rfl) rfl 8 (by decide) hlink (fun _ h9 => h9) rfl (by decide +kernel) rfl rfl (Nat.le_of_ble_eq_true rfl) hdg (fun H1 locs1 hP _ hS => kk H1 locs1 (by rw [set3 (Nat.le_of_ble_eq_true rfl)] at hP; exact hP) hS)
theorem hx_rld (hexec : p.tables.exec = Jvm.exec) (hb : c.code = cc) (hK : va_K D vwCl (tysA cs) s) (hP : va_P D vwCl ((X ++ wH a kb cs Z) ++ Y) H) {i : Int32} (j : Nat) (hj : i = nI j) (hjn : j < 14) {v : Int32} (hv : gr Z j = v) (hdg : decode cc pc = .ok (.iaload, 1))
    (kk : W p l e R s m args below meth c H locs cells slots Q (F0 m (pc + 1) ls (.int v :: rest))) : W p l e R s m args below meth c H locs cells slots Q (F0 m pc ls (.int i :: .ref (a 1) :: rest)) :=
  x_iald hexec hb hK hP (X.length + 1) 0 (get3 rfl) rfl j hj hjn (by decide) hdg (by rw [hv]; exact kk)
theorem hx_rst (hexec : p.tables.exec = Jvm.exec) (hb : c.code = cc) (hK : va_K D vwCl (tysA cs) s) (hP : va_P D vwCl ((X ++ wH a kb cs Z) ++ Y) H) (hD : va_D A ((X ++ wH a kb cs Z) ++ Y)) (hS : va_S A H0 H locs) {i x : Int32} (j : Nat) (hj : i = nI j) (hjn : j < 14) (hdg : decode cc pc = .ok (.iastore, 1))
    (kk : ∀ (H1 : Heap) (locs1 : List Loc), va_P D vwCl ((X ++ wH a kb cs (grp Z j x)) ++ Y) H1 → va_S A H0 H1 locs1 → W p l e R s m args below meth c H1 locs1 cells slots Q (F0 m (pc + 1) ls rest)) : W p l e R s m args below meth c H locs cells slots Q (F0 m pc ls (.int x :: .int i :: .ref (a 1) :: rest)) :=
  x_iast hexec hb hK hP hD hS (X.length + 1) 0 (get3 rfl) rfl j hj hjn (by decide) hdg (fun H1 locs1 hP hS => kk H1 locs1 (by rw [set3 (Nat.le_of_ble_eq_true rfl)] at hP; exact hP) hS)
theorem hx_old (hexec : p.tables.exec = Jvm.exec) (hb : c.code = cc) (hK : va_K D vwCl (tysA cs) s) (hP : va_P D vwCl ((X ++ wH a kb cs Z) ++ Y) H) {i : Int32} (j : Nat) (hj : i = nI j) (hjn : j < 40) {v : Int32} (hv : go Z j = v) (hdg : decode cc pc = .ok (.iaload, 1))
    (kk : W p l e R s m args below meth c H locs cells slots Q (F0 m (pc + 1) ls (.int v :: rest))) : W p l e R s m args below meth c H locs cells slots Q (F0 m pc ls (.int i :: .ref (a 4) :: rest)) :=
  x_iald hexec hb hK hP (X.length + 4) 0 (get3 rfl) rfl j hj hjn (by decide) hdg (by rw [hv]; exact kk)
theorem hx_ost (hexec : p.tables.exec = Jvm.exec) (hb : c.code = cc) (hK : va_K D vwCl (tysA cs) s) (hP : va_P D vwCl ((X ++ wH a kb cs Z) ++ Y) H) (hD : va_D A ((X ++ wH a kb cs Z) ++ Y)) (hS : va_S A H0 H locs) {i x : Int32} (j : Nat) (hj : i = nI j) (hjn : j < 40) (hdg : decode cc pc = .ok (.iastore, 1))
    (kk : ∀ (H1 : Heap) (locs1 : List Loc), va_P D vwCl ((X ++ wH a kb cs (gop Z j x)) ++ Y) H1 → va_S A H0 H1 locs1 → W p l e R s m args below meth c H1 locs1 cells slots Q (F0 m (pc + 1) ls rest)) : W p l e R s m args below meth c H locs cells slots Q (F0 m pc ls (.int x :: .int i :: .ref (a 4) :: rest)) :=
  x_iast hexec hb hK hP hD hS (X.length + 4) 0 (get3 rfl) rfl j hj hjn (by decide) hdg (fun H1 locs1 hP hS => kk H1 locs1 (by rw [set3 (Nat.le_of_ble_eq_true rfl)] at hP; exact hP) hS)
theorem hx_bld (hexec : p.tables.exec = Jvm.exec) (hb : c.code = cc) (hK : va_K D vwCl (tysA cs) s) (hP : va_P D vwCl ((X ++ wH a kb cs Z) ++ Y) H) {i : Int32} (j : Nat) (hj : i = nI j) (hjn : j < 40) {v : Int32} (hv : gb Z j = v) (hdg : decode cc pc = .ok (.baload, 1))
    (kk : W p l e R s m args below meth c H locs cells slots Q (F0 m (pc + 1) ls (.int v :: rest))) : W p l e R s m args below meth c H locs cells slots Q (F0 m pc ls (.int i :: .ref (a 3) :: rest)) := by
  subst hj
  refine va_zald hexec hb hK hP (X.length + 3) 2 (get3 rfl) rfl (vp_in_nI hjn (by decide)) hdg ?_
  rw [nI_clamp (by omega), hv]
  exact kk
theorem hx_bst (hexec : p.tables.exec = Jvm.exec) (hb : c.code = cc) (hK : va_K D vwCl (tysA cs) s) (hP : va_P D vwCl ((X ++ wH a kb cs Z) ++ Y) H) (hD : va_D A ((X ++ wH a kb cs Z) ++ Y)) (hS : va_S A H0 H locs) {i x : Int32} (j : Nat) (hj : i = nI j) (hjn : j < 40) (hx1 : vp_nar .boolean x = x) (hdg : decode cc pc = .ok (.bastore, 1))
    (kk : ∀ (H1 : Heap) (locs1 : List Loc), va_P D vwCl ((X ++ wH a kb cs (gbp Z j x)) ++ Y) H1 → va_S A H0 H1 locs1 → W p l e R s m args below meth c H1 locs1 cells slots Q (F0 m (pc + 1) ls rest)) : W p l e R s m args below meth c H locs cells slots Q (F0 m pc ls (.int x :: .int i :: .ref (a 3) :: rest)) := by
  subst hj
  refine va_zast hexec hb hK hP hD hS (X.length + 3) 2 (get3 rfl) rfl (vp_in_nI hjn (by decide)) hdg (fun H1 locs1 hP _ hS => ?_)
  rw [nI_clamp (by omega), hx1, set3 (Nat.le_of_ble_eq_true rfl)] at hP
  exact kk H1 locs1 hP hS
theorem hx_pld (hexec : p.tables.exec = Jvm.exec) (hb : c.code = cc) (hK : va_K D vwCl (tysA cs) s) (hP : va_P D vwCl ((X ++ wH a kb cs Z) ++ Y) H) {i : Int32} (j : Nat) (hj : i = nI j) (hjn : j < 40) {v : Value} (hv : va_rf (gp Z j) = v) (hdg : decode cc pc = .ok (.aaload, 1))
    (kk : W p l e R s m args below meth c H locs cells slots Q (F0 m (pc + 1) ls (v :: rest))) : W p l e R s m args below meth c H locs cells slots Q (F0 m pc ls (.int i :: .ref (a 2) :: rest)) := by
  subst hj
  refine va_aldq hexec hb hK hP (X.length + 2) 3 (get3 rfl) rfl (vp_in_nI hjn (by decide)) hdg ?_
  rw [nI_clamp (by omega), hv]
  exact kk
theorem hx_tld (hexec : p.tables.exec = Jvm.exec) (hb : c.code = cc) (hK : va_K D vwCl (tysA cs) s) (hP : va_P D vwCl ((X ++ wH a kb cs Z) ++ Y) H) {i : Int32} (j : Nat) (hj : i = nI j) (hjn : j < 511) {v : Value} (hv : va_rf (gt Z j) = v) (hdg : decode cc pc = .ok (.aaload, 1))
    (kk : W p l e R s m args below meth c H locs cells slots Q (F0 m (pc + 1) ls (v :: rest))) : W p l e R s m args below meth c H locs cells slots Q (F0 m pc ls (.int i :: .ref (a 5) :: rest)) := by
  subst hj
  refine va_aldq hexec hb hK hP (X.length + 5) 4 (get3 rfl) rfl (vp_in_nI hjn (by decide)) hdg ?_
  rw [nI_clamp (by omega), hv]
  exact kk
theorem hx_pst (hexec : p.tables.exec = Jvm.exec) (hb : c.code = cc) (hK : va_K D vwCl (tysA cs) s) (hP : va_P D vwCl ((X ++ wH a kb cs Z) ++ Y) H) (hD : va_D A ((X ++ wH a kb cs Z) ++ Y)) (hS : va_S A H0 H locs) {i : Int32} {q : Nat} (hr : va_Any "PledgeHouse$Pledge" s H q) (j : Nat) (hj : i = nI j) (hjn : j < 40) (hdg : decode cc pc = .ok (.aastore, 1))
    (kk : ∀ (H1 : Heap) (locs1 : List Loc), va_P D vwCl ((X ++ wH a kb cs (gpp Z j (some q))) ++ Y) H1 → va_S A H0 H1 locs1 → W p l e R s m args below meth c H1 locs1 cells slots Q (F0 m (pc + 1) ls rest)) : W p l e R s m args below meth c H locs cells slots Q (F0 m pc ls (.ref q :: .int i :: .ref (a 2) :: rest)) := by
  subst hj
  refine va_astqM hexec hb hK hP hD hS (X.length + 2) 3 (get3 rfl) rfl hr (vp_in_nI hjn (by decide)) hdg (fun H1 locs1 hP _ hS => ?_)
  rw [nI_clamp (by omega), set3 (Nat.le_of_ble_eq_true rfl)] at hP
  exact kk H1 locs1 hP hS
theorem hx_pstN (hexec : p.tables.exec = Jvm.exec) (hb : c.code = cc) (hK : va_K D vwCl (tysA cs) s) (hP : va_P D vwCl ((X ++ wH a kb cs Z) ++ Y) H) (hD : va_D A ((X ++ wH a kb cs Z) ++ Y)) (hS : va_S A H0 H locs) {i : Int32} (j : Nat) (hj : i = nI j) (hjn : j < 40) (hdg : decode cc pc = .ok (.aastore, 1))
    (kk : ∀ (H1 : Heap) (locs1 : List Loc), va_P D vwCl ((X ++ wH a kb cs (gpp Z j none)) ++ Y) H1 → va_S A H0 H1 locs1 → W p l e R s m args below meth c H1 locs1 cells slots Q (F0 m (pc + 1) ls rest)) : W p l e R s m args below meth c H locs cells slots Q (F0 m pc ls (.null :: .int i :: .ref (a 2) :: rest)) := by
  subst hj
  refine va_astqN hexec hb hK hP hD hS (X.length + 2) 3 (get3 rfl) rfl (vp_in_nI hjn (by decide)) hdg (fun H1 locs1 hP _ hS => ?_)
  rw [nI_clamp (by omega), set3 (Nat.le_of_ble_eq_true rfl)] at hP
  exact kk H1 locs1 hP hS
theorem hx_tst (hexec : p.tables.exec = Jvm.exec) (hb : c.code = cc) (hK : va_K D vwCl (tysA cs) s) (hP : va_P D vwCl ((X ++ wH a kb cs Z) ++ Y) H) (hD : va_D A ((X ++ wH a kb cs Z) ++ Y)) (hS : va_S A H0 H locs) {i : Int32} {q : Nat} (hr : va_Any "PledgeHouse$Ticket" s H q) (j : Nat) (hj : i = nI j) (hjn : j < 511) (hdg : decode cc pc = .ok (.aastore, 1))
    (kk : ∀ (H1 : Heap) (locs1 : List Loc), va_P D vwCl ((X ++ wH a kb cs (gtp Z j (some q))) ++ Y) H1 → va_S A H0 H1 locs1 → W p l e R s m args below meth c H1 locs1 cells slots Q (F0 m (pc + 1) ls rest)) : W p l e R s m args below meth c H locs cells slots Q (F0 m pc ls (.ref q :: .int i :: .ref (a 5) :: rest)) := by
  subst hj
  refine va_astqM hexec hb hK hP hD hS (X.length + 5) 4 (get3 rfl) rfl hr (vp_in_nI hjn (by decide)) hdg (fun H1 locs1 hP _ hS => ?_)
  rw [nI_clamp (by omega), set3 (Nat.le_of_ble_eq_true rfl)] at hP
  exact kk H1 locs1 hP hS
end HROW
