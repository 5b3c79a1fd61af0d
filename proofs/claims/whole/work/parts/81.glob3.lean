/-! a pledge that is new; a ticket that is new -/
def NP (Z : hZ) (RW : Nat → Nat → Int64) (q0 : Nat → Nat) (p0 rc : Nat) (Z' : hZ) (RW' : Nat → Nat → Int64) (op : Option pZ) : Prop := (op = none ∧ Z' = Z ∧ RW' = RW) ∨ ∃ P, op = some P ∧ p0 < 40 ∧ gt Z' = gt Z ∧ gp Z' p0 = some (q0 0) ∧ (∀ p, p ≠ p0 → gp Z' p = gp Z p) ∧ ∀ j, j ≠ rc → RW' j = RW j
section NPA
variable {Z : hZ} {RW : Nat → Nat → Int64} {n q : Nat → Nat} {rc : Nat} {place : Int32} {P : pZ}
theorem np_put (hp : tN place < 40) : NP Z RW n (tN place) rc (sc_X3_putDown Z RW n P rc place).1 (sc_X3_putDown Z RW n P rc place).2 (some P) := Or.inr ⟨P, rfl, hp, rfl, gp_gpp_eq, fun p h => gp_gpp_ne h, rw_k rb_k⟩
theorem np_gpp {P2 : pZ} (hp : tN place < 40) : NP Z RW n (tN place) rc (gpp Z (tN place) (some (n 0))) RW (some P2) := Or.inr ⟨P2, rfl, hp, rfl, gp_gpp_eq, fun p h => gp_gpp_ne h, fun _ _ => rfl⟩
theorem np_no : NP Z RW n (tN place) rc Z RW none := Or.inl ⟨rfl, rfl, rfl⟩
theorem wt_pl (h : sc_X3_whyNotTo Z place = 0) : tN place < 40 := by
  by_cases c : sc_X3_isPlace place = 0
  · unfold sc_X3_whyNotTo at h; rw [if_pos c] at h; exact absurd h (by decide)
  · exact (pl_of c).2
theorem np_thing {value : Int32} : NP Z RW n (tN place) rc (sc_X3_bringThing Z RW n rc place value).2.1 (sc_X3_bringThing Z RW n rc place value).2.2.1 (sc_X3_bringThing Z RW n rc place value).2.2.2 := by
  unfold sc_X3_bringThing
  split
  · rename_i c
    split
    · exact np_no
    · exact np_put (wt_pl c)
  · exact np_no
theorem np_coat {value wear : Int32} : NP Z RW n (tN place) rc (sc_X3_bringCoat Z RW n rc place value wear).2.1 (sc_X3_bringCoat Z RW n rc place value wear).2.2.1 (sc_X3_bringCoat Z RW n rc place value wear).2.2.2 := by
  unfold sc_X3_bringCoat
  split
  · rename_i c
    split
    · exact np_no
    split
    · exact np_no
    split
    · exact np_put (wt_pl c)
    · exact np_no
  · exact np_no
theorem np_gold {w : UInt32} {fine : Int32} : NP Z RW n (tN place) rc (sc_X3_bringGold Z RW n rc place w fine).2.1 (sc_X3_bringGold Z RW n rc place w fine).2.2.1 (sc_X3_bringGold Z RW n rc place w fine).2.2.2 := by
  unfold sc_X3_bringGold
  split
  · rename_i c
    split
    · exact np_no
    split
    · exact np_no
    split
    · exact np_put (wt_pl c)
    · exact np_no
  · exact np_no
theorem np_rare {w : UInt32} : NP Z RW n (tN place) rc (sc_X3_bringRare Z RW n rc place w).2.1 (sc_X3_bringRare Z RW n rc place w).2.2.1 (sc_X3_bringRare Z RW n rc place w).2.2.2 := by
  unfold sc_X3_bringRare
  split
  · rename_i c
    split
    · exact np_no
    · exact np_put (wt_pl c)
  · exact np_no
theorem np_item_n {value : Int32} : NP Z RW n (tN place) rc (sc_X3_bringItem_n Z RW n rc place value).2.1 (sc_X3_bringItem_n Z RW n rc place value).2.2.1 (sc_X3_bringItem_n Z RW n rc place value).2.2.2 := by
  unfold sc_X3_bringItem_n
  split
  · exact np_no
  rename_i c
  split
  · split <;> exact np_no
  · show NP Z RW n (tN place) rc (sc_X3_beginLot Z RW n rc place value).2.1 (sc_X3_beginLot Z RW n rc place value).2.2.1 (sc_X3_beginLot Z RW n rc place value).2.2.2
    unfold sc_X3_beginLot
    split
    · exact np_no
    · exact np_put (pl_of c).2
theorem np_item {value : Int32} : NP Z RW n (tN place) rc (sc_X3_bringItem Z RW q P n rc place value).2.1 (sc_X3_bringItem Z RW q P n rc place value).2.2.1 (sc_X3_bringItem Z RW q P n rc place value).2.2.2 := by
  unfold sc_X3_bringItem
  split
  · exact np_no
  rename_i c
  split
  · split
    · split
      · exact np_no
      split
      · exact np_gpp (pl_of c).2
      · exact np_no
    · exact np_no
  · exact np_no
theorem np_second {value : Int32} : NP Z RW n (tN place) rc (sc_X3_tellValue Z q P n place value).2.1 RW (sc_X3_tellValue Z q P n place value).2.2 := by
  unfold sc_X3_tellValue
  split
  · exact np_no
  rename_i c
  split
  · split
    · split
      · exact np_no
      · exact np_gpp (pl_of c).2
    · exact np_no
  · exact np_no
end NPA
section GL3
variable {D : va_G} {cs : Nat → ClassId} {o : Nat} {a1 a2 k r : Nat → Nat} {fz : Nat → Prop} {N : Nat} {F : mZ} {H H1 : Heap} {h1 h2 : hS} {RW RW' : Nat → Nat → Int64} {cn1 rc1 d1 cn2 rc2 d2 : Nat} {y st : Int32} {q : Int32 × mZ} {a : Int32} {Z' : hZ} {v' : Nat → Int32} {rc' : Nat}
theorem gT_np (hO : va_P D vwCl (wO o a1 a2 y st) H) (hR : gR h1 h2 RW cn1 rc1 d1 cn2 rc2 d2 N F) (hN : N ≤ 512) (hI : gI o a1 a2 k r fz h1 h2) (hH : gH D cs a1 a2 k r h1 h2 RW H) (hfz : ∀ x, fz x → x < H.size) {p0 : Nat} {q0 : Nat → Nat} {op : Option pZ} (hq : ∀ i, i < 2 → H.size ≤ q0 i)
    (hrc : rc1 ≤ rc' ∧ rc' ≤ rc1 + 1) (hA : AO F q a Z' (sv h1) (plO (sl h1) p0 op) RW' cn1 rc' d1) (hn : NP (sZ h1) RW q0 p0 rc1 Z' RW' op) (hsz : H.size ≤ H1.size) (hk : ∀ x, x < H.size → ¬ pH a1 x → ¬ pB k r x → H1[x]? = H[x]?) (P1 : va_P D vwCl (wPo q0 cs op) H1) (P2 : va_P D vwCl (wH a1 (k 0) cs Z') H1) (P3 : va_P D vwCl (wB k r cs RW') H1) : va_P D vwCl (wO o a1 a2 y st) H1 ∧ gT D cs o a1 a2 k r fz (N + 1) q.2 H1 := by
  rcases hn with ⟨e1, e2, e3⟩ | ⟨P, e, hp, hgt, hgp, hgn, hRW⟩
  · subst e1; subst e2; subst e3
    exact gT_hb hO hR hN hI hH hfz hrc hA KP_id hsz hk P2 P3
  · subst e
    exact gT_pl (I := fun _ => False) hO hR hN hI hH hfz hp hgt hgp hgn hq hrc hA hRW hsz (fun j _ _ => Or.inr ⟨id, rfl⟩) (fun x hx n1 n3 _ => hk x hx n1 n3) P1 P2 P3
/-- a pledge that is there -/
theorem pl_at (hR : gR h1 h2 RW cn1 rc1 d1 cn2 rc2 d2 N F) (hH : gH D cs a1 a2 k r h1 h2 RW H) {p x : Nat} (e : gp (sZ h1) p = some x) : p < 40 ∧ gp (sZ h1) p = some (sq h1 p 0) ∧ va_P D vwCl (wP (sq h1 p) cs (sl h1 p)) H := by
  have hp : p < 40 := by
    by_cases c : p < 40
    · exact c
    · have := hR.2.2.1.2.2.2 p (by omega)
      rw [e] at this; cases this
  have z := hH.1.2.2 p hp x e
  exact ⟨hp, by rw [e, z.1], z.2⟩
theorem pl_wk (hR : gR h1 h2 RW cn1 rc1 d1 cn2 rc2 d2 N F) {p : Nat} (hp : p < 40) (hs : gp (sZ h1) p ≠ none) : (4 ≤ (sl h1 p).1 → WOK (sl h1 p).2.2) ∧ ((sl h1 p).1 = 2 → ¬ (sl h1 p).2.1 6 < 0) := by
  rcases hR.1.kind0 hp with ⟨a, _⟩ | ⟨a, _⟩ | ⟨_, _, _, e2, e3⟩
  · exact absurd a hs
  · exact absurd a hs
  · refine ⟨fun h => (plR4 e3 (by omega)).2.2.2.2.2.2.2.1, fun h => ?_⟩
    obtain ⟨_, _, _, ⟨m, em, hm⟩, _⟩ := plR2 e3 h
    rw [em]
    exact nI_pos (by omega)
/-- a new ticket -/
def bsN (bs : Nat → Nat → Nat) (i : Nat) (b : Nat → Nat) : Nat → Nat → Nat := fun j => if j = i then b else bs j
theorem bsN_eq {bs : Nat → Nat → Nat} {i : Nat} {b : Nat → Nat} : bsN bs i b i = b := if_pos rfl
theorem bsN_ne {bs : Nat → Nat → Nat} {i j : Nat} {b : Nat → Nat} (h : j ≠ i) : bsN bs i b j = bs j := if_neg h
def nmN (f : Nat → Int32) (i : Nat) (b : Int32) : Nat → Int32 := fun j => if j = i then b else f j
theorem nmN_eq {f : Nat → Int32} {i : Nat} {b : Int32} : nmN f i b i = b := if_pos rfl
theorem nmN_ne {f : Nat → Int32} {i j : Nat} {b : Int32} (h : j ≠ i) : nmN f i b j = f j := if_neg h
theorem gT_nt (hO : va_P D vwCl (wO o a1 a2 y st) H) (hR : gR h1 h2 RW cn1 rc1 d1 cn2 rc2 d2 N F) (hN : N ≤ 512) (hI : gI o a1 a2 k r fz h1 h2) (hH : gH D cs a1 a2 k r h1 h2 RW H) (hfz : ∀ x, fz x → x < H.size) {b : Nat → Nat} (hcn : cn1 < 511) (hb : ∀ i, i < 3 → H.size ≤ b i) (hbi : iT b)
    (hgt : gt Z' cn1 = some (b 0)) (hgn : ∀ j, j ≠ cn1 → gt Z' j = gt (sZ h1) j) (hgp : gp Z' = gp (sZ h1)) (hrc : rc1 ≤ rc' ∧ rc' ≤ rc1 + 1) (hA : AO F q a Z' (vsW (sv h1) cn1 v') (sl h1) RW' (cn1 + 1) rc' d1) (hRW : ∀ j, j ≠ rc1 → RW' j = RW j) (hsz : H.size ≤ H1.size) (hk : ∀ x, x < H.size → ¬ pH a1 x → ¬ pB k r x → H1[x]? = H[x]?)
    (P1 : va_P D vwCl (wT b (nI (cn1 + 1)) v') H1) (P2 : va_P D vwCl (wH a1 (k 0) cs Z') H1) (P3 : va_P D vwCl (wB k r cs RW') H1) : va_P D vwCl (wO o a1 a2 y st) H1 ∧ gT D cs o a1 a2 k r fz (N + 1) q.2 H1 := by
  have un : ∀ n x, n ≠ 1 → n ≠ 3 → x < H.size → prt o a1 a2 k r h1 h2 n x → H1[x]? = H[x]? := fun n x n1 n3 hx p => hk x hx (fun q => n1 (hI.2.1 n 1 x p (Or.inr (Or.inl ⟨rfl, q⟩)))) (fun q => n3 (hI.2.1 n 3 x p (Or.inr (Or.inr (Or.inr (Or.inl ⟨rfl, q⟩))))))
  have hbx : ∀ x, pT b x → H.size ≤ x := fun x ⟨i, hi, e⟩ => by rw [e]; exact hb i hi
  refine ⟨keepW (P := fun x => x = o) hO wO_p (fun x hx e => un 0 x (by decide) (by decide) hx (Or.inl ⟨rfl, e⟩)), (Z', vsW (sv h1) cn1 v', sl h1, sq h1, bsN (sb h1) cn1 b, nmN (sn h1) cn1 (nI (cn1 + 1))), h2, RW', cn1 + 1, rc', d1, cn2, rc2, d2, ⟨hA.2.1, kept_c hR hN (sameD_K hA.2.2.1) (fun j _ => by rw [hA.2.2.1.2.2.2.2.1]) (fun j hj => hRW j (by omega)) hrc.1 (Nat.le_refl _), ⟨fun j hj => ?_, fun j hj e => ?_, fun j hj => ?_, fun p hp => ?_⟩, hR.2.2.2.1, by have := hR.2.2.2.2; omega, by have := hR.2.2.2.2; omega⟩, gI_new (Nw := fun n _ => n = 5 + 2 * cn1) hI (prt_lt hO hH) hfz (fun n x p => ?_) (fun n m _ a b => a.trans b.symm), ⟨⟨P2, fun j hj e => ?_, fun p hp x e => ?_⟩, keep_h hH.2.1 (fun x a b => un 2 x (by decide) (by decide) a (Or.inr (Or.inr (Or.inl ⟨rfl, b⟩)))) (fun j x hj a b => un (6 + 2 * j) x (by omega) (by omega) a (Or.inr (Or.inr (Or.inr (Or.inr (Or.inr (Or.inr ⟨j, hj, rfl, b⟩))))))) (fun x a b => un 4 x (by decide) (by decide) a (Or.inr (Or.inr (Or.inr (Or.inr (Or.inl ⟨rfl, Or.inr b⟩)))))), P3⟩, fun x hx => Nat.lt_of_lt_of_le (hfz x hx) hsz⟩
  · show gt Z' j = some (bsN (sb h1) cn1 b j 0) ∨ gt Z' j = none
    by_cases z : j = cn1
    · subst z; rw [bsN_eq]; exact Or.inl hgt
    · rw [bsN_ne z, hgn j z]; exact hR.2.2.1.1 j hj
  · show iT (bsN (sb h1) cn1 b j)
    have e : gt Z' j = some (bsN (sb h1) cn1 b j 0) := e
    by_cases z : j = cn1
    · subst z; rw [bsN_eq]; exact hbi
    · rw [bsN_ne z] at e ⊢
      rw [hgn j z] at e
      exact hR.2.2.1.2.1 j hj e
  · show gt Z' j = some (bsN (sb h1) cn1 b j 0) ∧ nmN (sn h1) cn1 (nI (cn1 + 1)) j = nI (j + 1)
    by_cases z : j = cn1
    · subst z; rw [bsN_eq, nmN_eq]; exact ⟨hgt, rfl⟩
    · rw [bsN_ne z, nmN_ne z, hgn j z]; exact hR.2.2.1.2.2.1 j (by omega)
  · show gp Z' p = none
    rw [hgp]; exact hR.2.2.1.2.2.2 p hp
  · rcases p with q | q | q | q | ⟨n4, q⟩ | ⟨j, hj, e, q⟩ | q
    · exact Or.inl (Or.inl q)
    · exact Or.inl (Or.inr (Or.inl q))
    · exact Or.inl (Or.inr (Or.inr (Or.inl q)))
    · exact Or.inl (Or.inr (Or.inr (Or.inr (Or.inl q))))
    · refine Or.inl (Or.inr (Or.inr (Or.inr (Or.inr (Or.inl ⟨n4, ?_⟩)))))
      rcases q with ⟨p, p1, p2, p3⟩ | q
      · refine Or.inl ⟨p, p1, ?_, p3⟩
        have p2 : gp Z' p ≠ none := p2
        rw [hgp] at p2; exact p2
      · exact Or.inr q
    · have q1 : gt Z' j = some (bsN (sb h1) cn1 b j 0) := q.1
      have q2 : pT (bsN (sb h1) cn1 b j) x := q.2
      by_cases z : j = cn1
      · subst z
        rw [bsN_eq] at q2
        exact Or.inr ⟨hbx x q2, e⟩
      · rw [bsN_ne z] at q1 q2
        rw [hgn j z] at q1
        exact Or.inl (Or.inr (Or.inr (Or.inr (Or.inr (Or.inr (Or.inl ⟨j, hj, e, q1, q2⟩))))))
    · exact Or.inl (Or.inr (Or.inr (Or.inr (Or.inr (Or.inr (Or.inr q))))))
  · show va_P D vwCl (wT (bsN (sb h1) cn1 b j) (nmN (sn h1) cn1 (nI (cn1 + 1)) j) (vsW (sv h1) cn1 v' j)) H1
    have e : gt Z' j = some (bsN (sb h1) cn1 b j 0) := e
    by_cases z : j = cn1
    · subst z; rw [bsN_eq, nmN_eq, vsW_eq]; exact P1
    · rw [bsN_ne z] at e ⊢
      rw [nmN_ne z, vsW_ne z]
      rw [hgn j z] at e
      exact keepW (hH.1.2.1 j hj e) wT_p (fun q a b => un (5 + 2 * j) q (by omega) (by omega) a (Or.inr (Or.inr (Or.inr (Or.inr (Or.inr (Or.inl ⟨j, hj, rfl, e, b⟩)))))))
  · have e : gp Z' p = some x := e
    rw [hgp] at e
    exact ⟨(hH.1.2.2 p hp x e).1, keepW (hH.1.2.2 p hp x e).2 wP_p (fun q a b => un 4 q (by decide) (by decide) a (Or.inr (Or.inr (Or.inr (Or.inr (Or.inl ⟨rfl, Or.inl ⟨p, hp, by rw [e]; simp, b⟩⟩))))))⟩
end GL3
