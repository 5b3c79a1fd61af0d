/-! a house becomes another; days pass -/
section GSW
variable {D : va_G} {cs : Nat → ClassId} {o : Nat} {a1 a2 k r : Nat → Nat} {fz : Nat → Prop} {h1 h2 : hS}
def sgt (n : Nat) : Nat := if n = 1 then 2 else if n = 2 then 1 else if n < 5 then n else if n % 2 = 1 then n + 1 else n - 1
theorem sgt_i {n m : Nat} (h : sgt n = sgt m) : n = m := by
  unfold sgt at h
  repeat' split at h
  all_goals omega
theorem sgt_5 {j : Nat} : sgt (5 + 2 * j) = 6 + 2 * j := by
  unfold sgt
  rw [if_neg (by omega), if_neg (by omega), if_neg (by omega), if_pos (by omega)]
  omega
theorem sgt_6 {j : Nat} : sgt (6 + 2 * j) = 5 + 2 * j := by
  unfold sgt
  rw [if_neg (by omega), if_neg (by omega), if_neg (by omega), if_neg (by omega)]
  omega
theorem prt_sw {n x : Nat} (h : prt o a2 a1 k r h2 h1 n x) : prt o a1 a2 k r h1 h2 (sgt n) x := by
  rcases h with ⟨rfl, q⟩ | ⟨rfl, q⟩ | ⟨rfl, q⟩ | ⟨rfl, q⟩ | ⟨rfl, q⟩ | ⟨j, hj, rfl, q⟩ | ⟨j, hj, rfl, q⟩
  · exact Or.inl ⟨rfl, q⟩
  · exact Or.inr (Or.inr (Or.inl ⟨rfl, q⟩))
  · exact Or.inr (Or.inl ⟨rfl, q⟩)
  · exact Or.inr (Or.inr (Or.inr (Or.inl ⟨rfl, q⟩)))
  · exact Or.inr (Or.inr (Or.inr (Or.inr (Or.inl ⟨rfl, q.symm⟩))))
  · exact Or.inr (Or.inr (Or.inr (Or.inr (Or.inr (Or.inr ⟨j, hj, sgt_5, q⟩)))))
  · exact Or.inr (Or.inr (Or.inr (Or.inr (Or.inr (Or.inl ⟨j, hj, sgt_6, q⟩)))))
theorem gI_sw (h : gI o a1 a2 k r fz h1 h2) : gI o a2 a1 k r fz h2 h1 := ⟨⟨h.1.2.1, h.1.1, h.1.2.2⟩, fun n m x p q => sgt_i (h.2.1 _ _ x (prt_sw p) (prt_sw q)), fun n x p => h.2.2 _ x (prt_sw p)⟩
end GSW
section GBE
variable {D : va_G} {cs : Nat → ClassId} {o : Nat} {a1 a2 k r : Nat → Nat} {fz : Nat → Prop} {N : Nat} {F : mZ} {H H1 : Heap} {h1 h2 : hS} {RW : Nat → Nat → Int64} {cn1 rc1 d1 cn2 rc2 d2 n2 : Nat} {y st : Int32} {bs' : Nat → Nat → Nat}
/-- the house that has become another -/
def hBe (h1 h2 : hS) (bs' : Nat → Nat → Nat) (n2 : Nat) : hS := (bz2 (sZ h1) (sZ h2) bs' n2, mix (sv h2) (sv h1) n2, sl h2, sq h2, mix bs' (sb h1) n2, mix (fun j => nI (j + 1)) (sn h1) n2)
theorem mix_ge {α : Type} {f g : Nat → α} {n j : Nat} (h : ¬ j < n) : mix f g n j = g j := if_neg h
theorem hBe_gt {j : Nat} : gt (sZ (hBe h1 h2 bs' n2)) j = if j < n2 then some (bs' j 0) else gt (sZ h1) j := rfl
theorem hBe_gp {p : Nat} : gp (sZ (hBe h1 h2 bs' n2)) p = if p < 40 then gp (sZ h2) p else gp (sZ h1) p := rfl
theorem hBe_O (hO1' : hO1 h1 0) (hb : bsOK (sZ h1) (sb h1) bs' H.size n2) : hO1 (hBe h1 h2 bs' n2) n2 := by
  refine ⟨fun j hj => ?_, fun j hj e => ?_, fun j hj => ?_, fun p hp => ?_⟩
  · rw [hBe_gt]
    show _ = some (mix bs' (sb h1) n2 j 0) ∨ _
    by_cases c : j < n2
    · rw [if_pos c, mix_lt c]; exact Or.inl rfl
    · rw [if_neg c, mix_ge c]; exact hO1'.1 j hj
  · rw [hBe_gt] at e
    show iT (mix bs' (sb h1) n2 j)
    have e : _ = some (mix bs' (sb h1) n2 j 0) := e
    by_cases c : j < n2
    · rw [mix_lt c]; exact hb.2.1 j c
    · rw [if_neg c, mix_ge c] at e
      rw [mix_ge c]; exact hO1'.2.1 j hj e
  · rw [hBe_gt]
    show _ = some (mix bs' (sb h1) n2 j 0) ∧ mix (fun j => nI (j + 1)) (sn h1) n2 j = nI (j + 1)
    rw [if_pos hj, mix_lt hj, mix_lt hj]
    exact ⟨rfl, rfl⟩
  · rw [hBe_gp, if_neg (by omega)]
    exact hO1'.2.2.2 p hp
theorem gH_be (hO : va_P D vwCl (wO o a1 a2 y st) H ∨ va_P D vwCl (wO o a2 a1 y st) H) (hfz : ∀ x, fz x → x < H.size) (hI : gI o a1 a2 k r fz h1 h2) (hH : gH D cs a1 a2 k r h1 h2 RW H) (hb : bsOK (sZ h1) (sb h1) bs' H.size n2) (hn2 : n2 ≤ 511)
    (hk : ∀ q, q < H.size → ¬ pH a1 q → ¬ pH a2 q → ¬ pSl (sZ h1) (sb h1) q → H1[q]? = H[q]?) (P : va_P D vwCl (([] ++ wH a1 (k 0) cs (bz2 (sZ h1) (sZ h2) bs' n2)) ++ wH a2 (k 0) cs (sZ h2)) H1) (T : tks D bs' (sv h2) n2 H1) (SL : slF D (sZ h1) (sb h1) (sn h1) (sv h1) n2 H1) :
    gH D cs a1 a2 k r (hBe h1 h2 bs' n2) h2 RW H1 ∧ gI o a1 a2 k r fz (hBe h1 h2 bs' n2) h2 ∧ ∀ x, x < H.size → x = o → H1[x]? = H[x]? := by
  have un : ∀ n x, n ≠ 1 → n ≠ 2 → (∀ j, j < 511 → n ≠ 5 + 2 * j) → x < H.size → prt o a1 a2 k r h1 h2 n x → H1[x]? = H[x]? := fun n x n1 n2 n5 hx p => hk x hx (fun q => n1 (hI.2.1 n 1 x p (Or.inr (Or.inl ⟨rfl, q⟩)))) (fun q => n2 (hI.2.1 n 2 x p (Or.inr (Or.inr (Or.inl ⟨rfl, q⟩))))) (fun ⟨j, hj, e, q⟩ => n5 j hj (hI.2.1 n (5 + 2 * j) x p (Or.inr (Or.inr (Or.inr (Or.inr (Or.inr (Or.inl ⟨j, hj, rfl, e, q⟩))))))))
  have hlt : ∀ n x, prt o a1 a2 k r h1 h2 n x → x < H.size := by
    rcases hO with hO | hO
    · exact prt_lt hO hH
    · exact fun n x p => by
        have p' : prt o a2 a1 k r h2 h1 (sgt n) x := prt_sw p
        exact prt_lt (D := D) (cs := cs) (RW := RW) hO ⟨hH.2.1, hH.1, hH.2.2⟩ _ x p'
  have k2pl : ∀ p, p < 40 → ∀ x, gp (sZ h2) p = some x → x = sq h2 p 0 ∧ va_P D vwCl (wP (sq h2 p) cs (sl h2 p)) H1 := fun p hp x e => ⟨(hH.2.1.2.2 p hp x e).1, keepW (hH.2.1.2.2 p hp x e).2 wP_p (fun q a b => un 4 q (by decide) (by decide) (fun _ _ => by omega) a (Or.inr (Or.inr (Or.inr (Or.inr (Or.inl ⟨rfl, Or.inr ⟨p, hp, by rw [e]; simp, b⟩⟩))))))⟩
  have PH := vaL P
  rw [List.nil_append] at PH
  refine ⟨⟨⟨PH, fun j hj e => ?_, fun p hp x e => ?_⟩, ⟨vaR P, fun j hj e => ?_, k2pl⟩, ?_⟩, gI_new (Nw := fun n x => ∃ j, j < n2 ∧ n = 5 + 2 * j ∧ pT (bs' j) x) hI hlt hfz (fun n x p => ?_) (fun n m x p q => ?_), fun x hx e => un 0 x (by decide) (by decide) (fun _ _ => by omega) hx (Or.inl ⟨rfl, e⟩)⟩
  · show va_P D vwCl (wT (mix bs' (sb h1) n2 j) (mix (fun j => nI (j + 1)) (sn h1) n2 j) (mix (sv h2) (sv h1) n2 j)) H1
    by_cases c : j < n2
    · rw [mix_lt c, mix_lt c, mix_lt c]; exact T j c
    · rw [hBe_gt, if_neg c] at e
      have e : gt (sZ h1) j = some (mix bs' (sb h1) n2 j 0) := e
      rw [mix_ge c] at e
      rw [mix_ge c, mix_ge c, mix_ge c]
      exact SL j (by omega) hj e
  · rw [hBe_gp, if_pos hp] at e
    exact k2pl p hp x e
  · exact keepW (hH.2.1.2.1 j hj e) wT_p (fun q a b => un (6 + 2 * j) q (by omega) (by omega) (fun _ _ => by omega) a (Or.inr (Or.inr (Or.inr (Or.inr (Or.inr (Or.inr ⟨j, hj, rfl, e, b⟩)))))))
  · exact keepW hH.2.2 wB_p (fun q a b => un 3 q (by decide) (by decide) (fun _ _ => by omega) a (Or.inr (Or.inr (Or.inr (Or.inl ⟨rfl, b⟩)))))
  · rcases p with q | q | q | q | ⟨n4, q⟩ | ⟨j, hj, e, q⟩ | q
    · exact Or.inl (Or.inl q)
    · exact Or.inl (Or.inr (Or.inl q))
    · exact Or.inl (Or.inr (Or.inr (Or.inl q)))
    · exact Or.inl (Or.inr (Or.inr (Or.inr (Or.inl q))))
    · refine Or.inl (Or.inr (Or.inr (Or.inr (Or.inr (Or.inl ⟨n4, Or.inr ?_⟩)))))
      rcases q with ⟨p, p1, p2, p3⟩ | q
      · rw [hBe_gp, if_pos p1] at p2
        exact ⟨p, p1, p2, p3⟩
      · exact q
    · have q1 := q.1
      rw [hBe_gt] at q1
      have q1 : _ = some (mix bs' (sb h1) n2 j 0) := q1
      have q2 : pT (mix bs' (sb h1) n2 j) x := q.2
      by_cases c : j < n2
      · rw [mix_lt c] at q2
        rcases hb.1 j c with ⟨z1, z2⟩ | ⟨z1, z2⟩
        · rw [z2] at q2
          exact Or.inl (Or.inr (Or.inr (Or.inr (Or.inr (Or.inr (Or.inl ⟨j, hj, e, z1, q2⟩))))))
        · refine Or.inr ⟨?_, j, c, e, q2⟩
          obtain ⟨i, hi, ei⟩ := q2
          rw [ei]; exact z2 i hi
      · rw [if_neg c, mix_ge c] at q1
        rw [mix_ge c] at q2
        exact Or.inl (Or.inr (Or.inr (Or.inr (Or.inr (Or.inr (Or.inl ⟨j, hj, e, q1, q2⟩))))))
    · exact Or.inl (Or.inr (Or.inr (Or.inr (Or.inr (Or.inr (Or.inr q))))))
  · obtain ⟨j, j1, j2, j3⟩ := p
    obtain ⟨i, i1, i2, i3⟩ := q
    by_cases z : i = j
    · omega
    · exact absurd i3 (fun q => hb.2.2 i j i1 j1 z x q j3)
/-- only the tickets that count matter -/
theorem HR_vs {Z : hZ} {vs vs' : Nat → Nat → Int32} {pl : Nat → pZ} {cn rc d : Nat} (h : HR Z vs pl RW cn rc d F) (e : ∀ i, i < cn → vs' i = vs i) : HR Z vs' pl RW cn rc d F := by
  obtain ⟨q1, q2, q3, q4, q6, q7, q8, q9⟩ := h
  refine ⟨?_, q2, ⟨fun j hj => by rw [e j hj]; exact q3.1 j hj, q3.2⟩, q4, ⟨fun j hj h0 => by rw [e j hj] at h0 ⊢; exact q6.1 j hj h0, fun p hp => ?_⟩, ?_, ⟨fun day => ?_, q8.2⟩, fun y hy w hw => ?_⟩
  · refine ⟨q1.1, q1.2.1, q1.2.2.1, q1.2.2.2.1, q1.2.2.2.2.1, q1.2.2.2.2.2.1, q1.2.2.2.2.2.2.1, ?_⟩
    rw [q1.2.2.2.2.2.2.2]
    by_cases c : cn = 0
    · rw [if_pos c, if_pos c]
    · rw [if_neg c, if_neg c, e _ (by omega)]
  · rcases q6.2 p hp with a | ⟨j, j1, j2, j3, j4⟩
    · exact Or.inl a
    · exact Or.inr ⟨j, j1, j2, by rw [e j j1]; exact j3, by rw [e j j1]; exact j4⟩
  · unfold rC7
    rw [prN_c (vs := vs) (vs' := vs') cn (fun j hj => by rw [e j hj]; exact ⟨rfl, rfl⟩), prN_c (vs := vs) (vs' := vs') cn (fun j hj => by rw [e j hj]; exact ⟨rfl, rfl⟩), opS_c (vs := vs) (vs' := vs') cn (fun j hj => by rw [e j hj])]
    exact q7
  · rw [gS_c (vs := vs) (vs' := vs') cn (fun j hj => by rw [e j hj]; exact ⟨rfl, rfl, rfl, rfl, rfl, rfl⟩)]
    exact q8.1 day
  · rw [← q9 y hy w hw]
    unfold sc_X3_sumOn sc_X3_oversOn
    rw [ovN_c (vs := vs) (vs' := vs') cn (fun j hj => by rw [e j hj]; exact ⟨rfl, rfl, rfl, rfl⟩), ovN_c (vs := vs) (vs' := vs') cn (fun j hj => by rw [e j hj]; exact ⟨rfl, rfl, rfl, rfl⟩)]
/-- all days -/
theorem gT_day (hO : va_P D vwCl (wO o a1 a2 y st) H) (hR : gR h1 h2 RW cn1 rc1 d1 cn2 rc2 d2 N F) (hN : N ≤ 512) (hI : gI o a1 a2 k r fz h1 h2) (hH : gH D cs a1 a2 k r h1 h2 RW H) (hfz : ∀ x, fz x → x < H.size) {Z' : hZ} {vs' : Nat → Nat → Int32} {F' : mZ} {d' : Nat} (hgt : gt Z' = gt (sZ h1)) (hgp : gp Z' = gp (sZ h1)) (hd : d1 ≤ d') (hA : HR Z' vs' (sl h1) RW cn1 rc1 d' F') (hD : sameD F F') (he : ∀ j, j < 13 * d1 → ze F' j = ze F j) (hv : ∀ j, ¬ j < cn1 → vs' j = sv h1 j) (hsz : H.size ≤ H1.size)
    (hk : ∀ x, x < H.size → ¬ pH a1 x → ¬ pTs (sb h1) cn1 x → H1[x]? = H[x]?) (P1 : tks D (sb h1) vs' cn1 H1) (P2 : va_P D vwCl (wH a1 (k 0) cs Z') H1) : va_P D vwCl (wO o a1 a2 y st) H1 ∧ gT D cs o a1 a2 k r fz (N + 1) F' H1 := by
  have hcn := hR.1.1.2.2.2.2.2.1
  have un : ∀ n x, n ≠ 1 → (∀ j, j < cn1 → n ≠ 5 + 2 * j) → x < H.size → prt o a1 a2 k r h1 h2 n x → H1[x]? = H[x]? := fun n x n1 n5 hx p => hk x hx (fun q => n1 (hI.2.1 n 1 x p (Or.inr (Or.inl ⟨rfl, q⟩)))) (fun ⟨j, hj, q⟩ => n5 j hj (hI.2.1 n (5 + 2 * j) x p (Or.inr (Or.inr (Or.inr (Or.inr (Or.inr (Or.inl ⟨j, by omega, rfl, (hR.2.2.1.2.2.1 j hj).1, q⟩))))))))
  refine ⟨keepW (P := fun x => x = o) hO wO_p (fun x hx e => un 0 x (by decide) (fun _ _ => by omega) hx (Or.inl ⟨rfl, e⟩)), (Z', vs', h1.2.2), h2, RW, cn1, rc1, d', cn2, rc2, d2, ⟨hA, kept_c hR hN hD he (fun _ _ => rfl) (Nat.le_refl _) hd, hO1_vs hR.2.2.1 hgt (fun p x e => by rw [hgp] at e; exact e), hR.2.2.2.1, by have := hR.2.2.2.2; omega, by have := hR.2.2.2.2; omega⟩, gI_sub hI (fun n x p => ?_), ⟨⟨P2, fun j hj e => ?_, fun p hp x e => ?_⟩, keep_h hH.2.1 (fun x a b => un 2 x (by decide) (fun _ _ => by omega) a (Or.inr (Or.inr (Or.inl ⟨rfl, b⟩)))) (fun j x hj a b => un (6 + 2 * j) x (by omega) (fun _ _ => by omega) a (Or.inr (Or.inr (Or.inr (Or.inr (Or.inr (Or.inr ⟨j, hj, rfl, b⟩))))))) (fun x a b => un 4 x (by decide) (fun _ _ => by omega) a (Or.inr (Or.inr (Or.inr (Or.inr (Or.inl ⟨rfl, Or.inr b⟩)))))), keepW hH.2.2 wB_p (fun q a b => un 3 q (by decide) (fun _ _ => by omega) a (Or.inr (Or.inr (Or.inr (Or.inl ⟨rfl, b⟩)))))⟩, fun x hx => Nat.lt_of_lt_of_le (hfz x hx) hsz⟩
  · rcases p with q | q | q | q | ⟨n4, q⟩ | ⟨j, hj, e, q⟩ | q
    · exact Or.inl q
    · exact Or.inr (Or.inl q)
    · exact Or.inr (Or.inr (Or.inl q))
    · exact Or.inr (Or.inr (Or.inr (Or.inl q)))
    · refine Or.inr (Or.inr (Or.inr (Or.inr (Or.inl ⟨n4, ?_⟩))))
      rcases q with ⟨p, p1, p2, p3⟩ | q
      · have p2 : gp Z' p ≠ none := p2
        rw [hgp] at p2
        exact Or.inl ⟨p, p1, p2, p3⟩
      · exact Or.inr q
    · have q1 : gt Z' j = some (sb h1 j 0) := q.1
      rw [hgt] at q1
      exact Or.inr (Or.inr (Or.inr (Or.inr (Or.inr (Or.inl ⟨j, hj, e, q1, q.2⟩)))))
    · exact Or.inr (Or.inr (Or.inr (Or.inr (Or.inr (Or.inr q)))))
  · have e : gt Z' j = some (sb h1 j 0) := e
    rw [hgt] at e
    show va_P D vwCl (wT (sb h1 j) (sn h1 j) (vs' j)) H1
    by_cases c : j < cn1
    · rw [(hR.2.2.1.2.2.1 j c).2]; exact P1 j c
    · rw [hv j c]
      exact keepW (hH.1.2.1 j hj e) wT_p (fun q a b => un (5 + 2 * j) q (by omega) (fun m hm => by omega) a (Or.inr (Or.inr (Or.inr (Or.inr (Or.inr (Or.inl ⟨j, hj, rfl, e, b⟩)))))))
  · have e : gp Z' p = some x := e
    rw [hgp] at e
    exact ⟨(hH.1.2.2 p hp x e).1, keepW (hH.1.2.2 p hp x e).2 wP_p (fun q a b => un 4 q (by decide) (fun _ _ => by omega) a (Or.inr (Or.inr (Or.inr (Or.inr (Or.inl ⟨rfl, Or.inl ⟨p, hp, by rw [e]; simp, b⟩⟩))))))⟩
end GBE
