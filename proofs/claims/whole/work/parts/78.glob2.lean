/-! what an act keeps; the state behind an act -/
def KP (Z Z' : hZ) (RW RW' : Nat → Nat → Int64) (rc : Nat) : Prop := gt Z' = gt Z ∧ (∀ p x, gp Z' p = some x → gp Z p = some x) ∧ ∀ j, j ≠ rc → RW' j = RW j
theorem KP_id {Z : hZ} {RW : Nat → Nat → Int64} {rc : Nat} : KP Z Z RW RW rc := ⟨rfl, fun _ _ h => h, fun _ _ => rfl⟩
theorem KP_gh {Z : hZ} {RW RW' : Nat → Nat → Int64} {rc j : Nat} {x : Int32} (h : ∀ j, j ≠ rc → RW' j = RW j) : KP Z (ghp Z j x) RW RW' rc := ⟨rfl, fun _ _ h => h, h⟩
theorem gp_sub {Z : hZ} {p0 : Nat} : ∀ p x, va_up (gp Z) p0 none p = some x → gp Z p = some x := fun p x h => by
  by_cases e : p = p0
  · subst e
    have : va_up (gp Z) p none p = none := if_pos rfl
    rw [this] at h; cases h
  · have : va_up (gp Z) p0 none p = gp Z p := if_neg e
    rw [this] at h; exact h
theorem KP_en {Z : hZ} {RW RW' : Nat → Nat → Int64} {rc j p : Nat} {x y : Int32} (h : ∀ j, j ≠ rc → RW' j = RW j) : KP Z (gop (gpp (ghp Z j x) p none) p y) RW RW' rc := ⟨rfl, gp_sub, h⟩
theorem KP_tr {A B C : hZ} {R1 R2 R3 : Nat → Nat → Int64} {rc : Nat} (a : KP A B R1 R2 rc) (b : KP B C R2 R3 rc) : KP A C R1 R3 rc := ⟨b.1.trans a.1, fun p x h => a.2.1 p x (b.2.1 p x h), fun j hj => (b.2.2 j hj).trans (a.2.2 j hj)⟩
section KPA
variable {nm : Int32} {v : Nat → Int32} {Z : hZ} {RW : Nat → Nat → Int64} {rc : Nat}
theorem rb_k {x : Int32} : ∀ j, j ≠ rc → sc_X0_rowBehind RW rc x j = RW j := fun j h => rb_i h
theorem rw_k {RW' : Nat → Nat → Int64} {l : Nat} {x : Int64} (h : ∀ j, j ≠ rc → RW' j = RW j) : ∀ j, j ≠ rc → rwp RW' rc l x j = RW j := fun j hj => (rwp_i hj).trans (h j hj)
theorem wg_k {RW' : Nat → Nat → Int64} {o : Nat} (h : ∀ j, j ≠ rc → RW' j = RW j) : ∀ j, j ≠ rc → (sc_X0_writeGrowing nm v RW' rc o).2 j = RW j := rw_k (rw_k (rw_k h))
theorem ar_k : KP Z (sc_X3_addRow Z RW rc).1 RW (sc_X3_addRow Z RW rc).2 rc := KP_gh rb_k
theorem et_k {st : Int32} : KP Z (sc_X3_endTicket nm v Z RW rc st).2.1 RW (sc_X3_endTicket nm v Z RW rc st).2.2 rc := by
  unfold sc_X3_endTicket
  split
  · exact ⟨rfl, fun _ _ h => h, rw_k (rw_k (rw_k (wg_k rb_k)))⟩
  · exact ⟨rfl, gp_sub, rw_k (rw_k (rw_k (wg_k rb_k)))⟩
theorem kp_pay {half coins : Int32} : KP Z (sc_X3_payPart nm v Z RW rc half coins).2.2.1 RW (sc_X3_payPart nm v Z RW rc half coins).2.2.2 rc := by
  unfold sc_X3_payPart
  split
  · exact KP_id
  split
  · exact KP_id
  split
  · exact KP_id
  split
  · exact KP_gh (rw_k (rw_k (rw_k (wg_k (wg_k rb_k)))))
  · exact KP_id
theorem kp_renew {half months : Int32} : KP Z (sc_X3_renewTerm nm v Z RW rc half months).2.2.1 RW (sc_X3_renewTerm nm v Z RW rc half months).2.2.2 rc := by
  unfold sc_X3_renewTerm
  split
  · split
    · exact KP_id
    · exact KP_gh (rw_k (wg_k (wg_k rb_k)))
  · exact KP_id
theorem kp_undo : KP Z (sc_X3_undoRenewing nm v Z RW rc).2.2.1 RW (sc_X3_undoRenewing nm v Z RW rc).2.2.2 rc := by
  unfold sc_X3_undoRenewing
  split
  · exact KP_id
  split
  · exact KP_id
  split
  · exact KP_gh (rw_k (wg_k (wg_k rb_k)))
  · exact KP_id
theorem kp_redeem {half coins : Int32} : KP Z (sc_X3_giveBack nm v Z RW rc half coins).2.2.1 RW (sc_X3_giveBack nm v Z RW rc half coins).2.2.2 rc := by
  unfold sc_X3_giveBack
  split
  · split
    · exact ⟨et_k.1, et_k.2.1, rw_k (rw_k et_k.2.2)⟩
    · exact KP_id
  · exact KP_id
theorem kp_sale : KP Z (sc_X3_sellPledge nm v Z RW rc).2.2.1 RW (sc_X3_sellPledge nm v Z RW rc).2.2.2 rc := by
  unfold sc_X3_sellPledge
  split
  · exact KP_id
  split
  · exact KP_id
  split
  · exact ⟨et_k.1, et_k.2.1, rw_k (rw_k (rw_k (rw_k (rw_k et_k.2.2))))⟩
  · exact KP_id
theorem kp_fetch {half : Int32} : KP Z (sc_X3_handOver nm v Z RW rc half).2.2.1 RW (sc_X3_handOver nm v Z RW rc half).2.2.2 rc := by
  unfold sc_X3_handOver
  split
  · exact KP_id
  split
  · split
    · exact KP_id
    split
    · exact KP_id
    · exact KP_gh (rw_k rb_k)
  · exact KP_id
theorem kp_prove : KP Z (sc_X3_proveClaim nm v Z RW rc).2.2.1 RW (sc_X3_proveClaim nm v Z RW rc).2.2.2 rc := by
  unfold sc_X3_proveClaim
  split
  · exact ⟨et_k.1, et_k.2.1, rw_k (rw_k et_k.2.2)⟩
  · exact KP_id
theorem kp_away {place : Int32} : KP Z (sc_X3_takeAway Z RW rc place).2.1 RW (sc_X3_takeAway Z RW rc place).2.2 rc := by
  unfold sc_X3_takeAway
  split
  · exact ⟨rfl, gp_sub, rw_k rb_k⟩
  · exact KP_id
theorem kp_box {place : Int32} : KP Z (sc_X3_moveBox Z place).2 RW RW rc := by
  unfold sc_X3_moveBox
  split
  · exact KP_id
  split
  · split
    · exact KP_id
    · exact KP_id
  · exact KP_id
theorem kp_rule {rule x : Int32} : KP Z (sc_X3_setRule Z rule x).2 RW RW rc := by
  unfold sc_X3_setRule
  split
  · exact KP_id
  split
  · split
    · exact KP_id
    split
    · exact KP_id
    · exact KP_id
  · exact KP_id
/-- acts on a ticket alone leave the house -/
theorem z_tear {how : Int32} : (sc_X3_tearHalf nm v Z how).2.2 = Z := by
  unfold sc_X3_tearHalf
  split
  · split
    · rfl
    split <;> rfl
  · rfl
theorem z_oath : (sc_X3_hearOath nm v Z).2.2 = Z := by
  unfold sc_X3_hearOath
  split <;> rfl
theorem z_forfeit : (sc_X3_makeForfeit nm v Z).2.2 = Z := by
  unfold sc_X3_makeForfeit
  split
  · rfl
  split
  · split <;> rfl
  · rfl
theorem z_bid {coins : Int32} : (sc_X3_hearBid nm v Z coins).2.2 = Z := by
  unfold sc_X3_hearBid
  split
  · rfl
  split
  · rfl
  split <;> rfl
theorem z_claim : (sc_X3_raiseClaim nm v Z).2.2 = Z := by
  unfold sc_X3_raiseClaim
  split
  · rfl
  split <;> rfl
theorem z_drop : (sc_X3_dropClaim nm v Z).2.2 = Z := by
  unfold sc_X3_dropClaim
  split <;> rfl
end KPA
theorem tick_cases {Z : hZ} {vs : Nat → Nat → Int32} {pl : Nat → pZ} {RW : Nat → Nat → Int64} {cn rc d : Nat} {F : mZ} (h : HR Z vs pl RW cn rc d F) (t : Int32) : (t < 1 ∨ gh Z 1 < t) ∨ ∃ i, i < cn ∧ t = nI (i + 1) := by
  by_cases c : t < 1
  · exact Or.inl (Or.inl c)
  · obtain ⟨j, j1, j2, rfl⟩ := ge1_of c
    have hc := h.1.2.2.2.2.2.1
    by_cases c2 : cn < j
    · exact Or.inl (Or.inr (by rw [h.1.2.2.2.1]; exact (nI_ltI (by omega) j1).mpr c2))
    · exact Or.inr ⟨j - 1, by omega, by rw [Nat.sub_add_cancel j2]⟩
section GL2
variable {D : va_G} {cs : Nat → ClassId} {o : Nat} {a1 a2 k r : Nat → Nat} {fz : Nat → Prop} {N : Nat} {F : mZ} {H H1 : Heap} {h1 h2 : hS} {RW RW' : Nat → Nat → Int64} {cn1 rc1 d1 cn2 rc2 d2 : Nat} {y st : Int32} {q : Int32 × mZ} {a : Int32} {Z' : hZ} {v' : Nat → Int32} {rc' : Nat}
theorem zik_no (h : zik F = 0 ∨ zik F = 1) {F' : mZ} (e : zik F' = zik F) : zik F' = 0 ∨ zik F' = 1 := by rw [e]; exact h
/-- what is kept stays, whatever rows come behind -/
theorem kept_c {F' : mZ} {d' : Nat} (hR : gR h1 h2 RW cn1 rc1 d1 cn2 rc2 d2 N F) (hN : N ≤ 512) (hD : sameD F F') (he : ∀ j, j < 13 * d1 → ze F' j = ze F j) (hr : ∀ j, j < rc1 → RW' j = RW j) (hrc : rc1 ≤ rc') (hd : d1 ≤ d') : zik F' = 0 ∨ (zik F' = 1 ∧ HK (sZ h2) (sv h2) (sl h2) RW' cn2 rc2 d2 F' ∧ hO1 h2 cn2 ∧ rc2 ≤ rc' ∧ d2 ≤ d' ∧ cn2 ≤ N + 1) := by
  have hrN := hR.2.2.2.2.1
  rcases hR.2.1 with e | ⟨e, hK, hO, q1, q2, q3⟩
  · exact Or.inl (hD.2.2.2.2.trans e)
  · exact Or.inr ⟨hD.2.2.2.2.trans e, HR_rw (HK_c hK hD (fun j hj => he j (by omega))) (by omega) (fun i hi => hr i (by omega)), hO, by omega, by omega, by omega⟩
theorem sameD_K {F F' : mZ} (h : sameK F F') : sameD F F' := ⟨h.1, h.2.1, h.2.2.1, h.2.2.2.1, h.2.2.2.2.2⟩
theorem hO1_vs {cn : Nat} {Z' : hZ} {vs' : Nat → Nat → Int32} (h : hO1 h1 cn) (hgt : gt Z' = gt (sZ h1)) (hgp : ∀ p x, gp Z' p = some x → gp (sZ h1) p = some x) : hO1 (Z', vs', h1.2.2) cn := by
  refine ⟨fun j hj => ?_, fun j hj e => ?_, fun j hj => ?_, fun p hp => ?_⟩
  · show gt Z' j = _ ∨ gt Z' j = none
    rw [hgt]; exact h.1 j hj
  · have e : gt Z' j = some (sb h1 j 0) := e
    rw [hgt] at e; exact h.2.1 j hj e
  · refine ⟨?_, (h.2.2.1 j hj).2⟩
    show gt Z' j = _
    rw [hgt]; exact (h.2.2.1 j hj).1
  · show gp Z' p = none
    cases e : gp Z' p with
    | none => rfl
    | some x =>
      have z := hgp p x e
      rw [h.2.2.2 p hp] at z
      cases z
/-- the state behind an act on a ticket -/
theorem gT_tk (hO : va_P D vwCl (wO o a1 a2 y st) H) (hR : gR h1 h2 RW cn1 rc1 d1 cn2 rc2 d2 N F) (hN : N ≤ 512) (hI : gI o a1 a2 k r fz h1 h2) (hH : gH D cs a1 a2 k r h1 h2 RW H) (hfz : ∀ x, fz x → x < H.size) {i : Nat} (hi : i < cn1) (hrc : rc1 ≤ rc' ∧ rc' ≤ rc1 + 1) (hA : AO F q a Z' (vsW (sv h1) i v') (sl h1) RW' cn1 rc' d1) (hK : KP (sZ h1) Z' RW RW' rc1) (hsz : H.size ≤ H1.size)
    (hk : ∀ x, x < H.size → ¬ pH a1 x → ¬ pB k r x → ¬ pT (sb h1 i) x → H1[x]? = H[x]?) (P1 : va_P D vwCl (wT (sb h1 i) (nI (i + 1)) v') H1) (P2 : va_P D vwCl (wH a1 (k 0) cs Z') H1) (P3 : va_P D vwCl (wB k r cs RW') H1) : va_P D vwCl (wO o a1 a2 y st) H1 ∧ gT D cs o a1 a2 k r fz (N + 1) q.2 H1 := by
  have hcn := hR.1.1.2.2.2.2.2.1
  have hs := hR.2.2.1.2.2.1 i hi
  have hi5 : i < 511 := by omega
  have hk' : ∀ x, x < H.size → ¬ pH a1 x → ¬ pB k r x → ¬ slx h1 i x → H1[x]? = H[x]? := fun x a b c e => hk x a b c (fun z => e ⟨hs.1, z⟩)
  obtain ⟨g1, g2⟩ := gH_tk hI hH hi5 hs.1 hK.1 hK.2.1 hk' (by rw [hs.2]; exact P1) P2 P3
  refine ⟨keepW (P := fun x => x = o) hO wO_p (fun x hx e => ?_), (Z', vsW (sv h1) i v', h1.2.2), h2, RW', cn1, rc', d1, cn2, rc2, d2, ⟨hA.2.1, kept_c hR hN (sameD_K hA.2.2.1) (fun j _ => by rw [hA.2.2.1.2.2.2.2.1]) (fun j hj => hK.2.2 j (by omega)) hrc.1 (Nat.le_refl _), hO1_vs hR.2.2.1 hK.1 hK.2.1, hR.2.2.2.1, by have := hR.2.2.2.2; omega, by have := hR.2.2.2.2; omega⟩, g2, g1, fun x hx => Nat.lt_of_lt_of_le (hfz x hx) hsz⟩
  have p0 : prt o a1 a2 k r h1 h2 0 x := Or.inl ⟨rfl, e⟩
  exact hk x hx (fun z => absurd (hI.2.1 0 1 x p0 (Or.inr (Or.inl ⟨rfl, z⟩))) (by decide)) (fun z => absurd (hI.2.1 0 3 x p0 (Or.inr (Or.inr (Or.inr (Or.inl ⟨rfl, z⟩))))) (by decide)) (fun z => absurd (hI.2.1 0 (5 + 2 * i) x p0 (Or.inr (Or.inr (Or.inr (Or.inr (Or.inr (Or.inl ⟨i, hi5, rfl, hs.1, z⟩))))))) (by omega))
/-- the state behind an act on the house and the books -/
theorem gT_hb (hO : va_P D vwCl (wO o a1 a2 y st) H) (hR : gR h1 h2 RW cn1 rc1 d1 cn2 rc2 d2 N F) (hN : N ≤ 512) (hI : gI o a1 a2 k r fz h1 h2) (hH : gH D cs a1 a2 k r h1 h2 RW H) (hfz : ∀ x, fz x → x < H.size) (hrc : rc1 ≤ rc' ∧ rc' ≤ rc1 + 1) (hA : AO F q a Z' (sv h1) (sl h1) RW' cn1 rc' d1) (hK : KP (sZ h1) Z' RW RW' rc1) (hsz : H.size ≤ H1.size)
    (hk : ∀ x, x < H.size → ¬ pH a1 x → ¬ pB k r x → H1[x]? = H[x]?) (P2 : va_P D vwCl (wH a1 (k 0) cs Z') H1) (P3 : va_P D vwCl (wB k r cs RW') H1) : va_P D vwCl (wO o a1 a2 y st) H1 ∧ gT D cs o a1 a2 k r fz (N + 1) q.2 H1 := by
  obtain ⟨g1, g2⟩ := gH_hb hI hH hK.1 hK.2.1 hk P2 P3
  refine ⟨keepW (P := fun x => x = o) hO wO_p (fun x hx e => ?_), (Z', h1.2), h2, RW', cn1, rc', d1, cn2, rc2, d2, ⟨hA.2.1, kept_c hR hN (sameD_K hA.2.2.1) (fun j _ => by rw [hA.2.2.1.2.2.2.2.1]) (fun j hj => hK.2.2 j (by omega)) hrc.1 (Nat.le_refl _), hO1_vs hR.2.2.1 hK.1 hK.2.1, hR.2.2.2.1, by have := hR.2.2.2.2; omega, by have := hR.2.2.2.2; omega⟩, g2, g1, fun x hx => Nat.lt_of_lt_of_le (hfz x hx) hsz⟩
  have p0 : prt o a1 a2 k r h1 h2 0 x := Or.inl ⟨rfl, e⟩
  exact hk x hx (fun z => absurd (hI.2.1 0 1 x p0 (Or.inr (Or.inl ⟨rfl, z⟩))) (by decide)) (fun z => absurd (hI.2.1 0 3 x p0 (Or.inr (Or.inr (Or.inr (Or.inl ⟨rfl, z⟩))))) (by decide))
/-- nothing has changed but the answer -/
theorem gT_no (hO : va_P D vwCl (wO o a1 a2 y st) H) (hR : gR h1 h2 RW cn1 rc1 d1 cn2 rc2 d2 N F) (hN : N ≤ 512) (hI : gI o a1 a2 k r fz h1 h2) (hH : gH D cs a1 a2 k r h1 h2 RW H) (hfz : ∀ x, fz x → x < H.size) (hA : AO F q a (sZ h1) (sv h1) (sl h1) RW cn1 rc1 d1) : gT D cs o a1 a2 k r fz (N + 1) q.2 H := (gT_hb hO hR hN hI hH hfz ⟨Nat.le_refl _, Nat.le_succ _⟩ hA KP_id (Nat.le_refl _) (fun _ _ _ _ => rfl) hH.1.1 hH.2.2).2
/-- a new pledge has been put down, or takes an old one's place -/
theorem gT_pl (hO : va_P D vwCl (wO o a1 a2 y st) H) (hR : gR h1 h2 RW cn1 rc1 d1 cn2 rc2 d2 N F) (hN : N ≤ 512) (hI : gI o a1 a2 k r fz h1 h2) (hH : gH D cs a1 a2 k r h1 h2 RW H) (hfz : ∀ x, fz x → x < H.size) {p0 : Nat} {q0 : Nat → Nat} {P : pZ} {vs' : Nat → Nat → Int32} {I : Nat → Prop} (hp0 : p0 < 40) (hgt : gt Z' = gt (sZ h1)) (hgp : gp Z' p0 = some (q0 0)) (hgn : ∀ p, p ≠ p0 → gp Z' p = gp (sZ h1) p) (hq : ∀ i, i < 2 → H.size ≤ q0 i)
    (hrc : rc1 ≤ rc' ∧ rc' ≤ rc1 + 1) (hA : AO F q a Z' vs' (plW (sl h1) p0 P) RW' cn1 rc' d1) (hRW : ∀ j, j ≠ rc1 → RW' j = RW j) (hsz : H.size ≤ H1.size) (hvI : ∀ j, j < 511 → (gt (sZ h1) j = some (sb h1 j 0)) → (I j ∧ va_P D vwCl (wT (sb h1 j) (sn h1 j) (vs' j)) H1) ∨ (¬ I j ∧ vs' j = sv h1 j)) (hk : ∀ q, q < H.size → ¬ pH a1 q → ¬ pB k r q → (∀ j, j < 511 → I j → ¬ slx h1 j q) → H1[q]? = H[q]?) (P1 : va_P D vwCl (wP q0 cs P) H1) (P2 : va_P D vwCl (wH a1 (k 0) cs Z') H1) (P3 : va_P D vwCl (wB k r cs RW') H1) : va_P D vwCl (wO o a1 a2 y st) H1 ∧ gT D cs o a1 a2 k r fz (N + 1) q.2 H1 := by
  obtain ⟨g1, g2⟩ := gH_pl hO hfz hI hH hp0 hgt hgp hgn hq hvI hk P1 P2 P3
  refine ⟨keepW (P := fun x => x = o) hO wO_p (fun x hx e => ?_), (Z', vs', plW (sl h1) p0 P, qsW (sq h1) p0 q0, h1.2.2.2.2), h2, RW', cn1, rc', d1, cn2, rc2, d2, ⟨hA.2.1, kept_c hR hN (sameD_K hA.2.2.1) (fun j _ => by rw [hA.2.2.1.2.2.2.2.1]) (fun j hj => hRW j (by omega)) hrc.1 (Nat.le_refl _), ⟨fun j hj => ?_, fun j hj e => ?_, fun j hj => ?_, fun p hp => ?_⟩, hR.2.2.2.1, by have := hR.2.2.2.2; omega, by have := hR.2.2.2.2; omega⟩, g2, g1, fun x hx => Nat.lt_of_lt_of_le (hfz x hx) hsz⟩
  · have p0 : prt o a1 a2 k r h1 h2 0 x := Or.inl ⟨rfl, e⟩
    exact hk x hx (fun z => absurd (hI.2.1 0 1 x p0 (Or.inr (Or.inl ⟨rfl, z⟩))) (by decide)) (fun z => absurd (hI.2.1 0 3 x p0 (Or.inr (Or.inr (Or.inr (Or.inl ⟨rfl, z⟩))))) (by decide)) (fun j hj _ z => absurd (hI.2.1 0 (5 + 2 * j) x p0 (Or.inr (Or.inr (Or.inr (Or.inr (Or.inr (Or.inl ⟨j, hj, rfl, z⟩))))))) (by omega))
  · show gt Z' j = _ ∨ gt Z' j = none
    rw [hgt]; exact hR.2.2.1.1 j hj
  · have e : gt Z' j = some (sb h1 j 0) := e
    rw [hgt] at e; exact hR.2.2.1.2.1 j hj e
  · refine ⟨?_, (hR.2.2.1.2.2.1 j hj).2⟩
    show gt Z' j = _
    rw [hgt]; exact (hR.2.2.1.2.2.1 j hj).1
  · show gp Z' p = none
    rw [hgn p (by omega)]; exact hR.2.2.1.2.2.2 p hp
end GL2
