/-! worth; looking at places and tickets -/
section RW1
variable {Z Z' : hZ} {vs : Nat → Nat → Int32} {pl : Nat → pZ} {RW RW' : Nat → Nat → Int64} {cn rc d i p : Nat} {F F' : mZ} {P : pZ}
theorem lot_n {v w : Nat → Int32} (F : mZ) (p : Nat) (hv : ∀ k, k < 6 → sh F p (9 + k) = v k ∧ ∃ x : Nat, v k = nI x ∧ x ≤ 1000000) : ∀ n, n ≤ 6 → ∃ m : Nat, m ≤ 1000000 * n ∧ lotS v n = nI m ∧ lot F p n = lN m
  | 0, _ => ⟨0, by omega, rfl, rfl⟩
  | n + 1, hn => by
    obtain ⟨m, m1, m2, m3⟩ := lot_n (w := w) F p hv n (by omega)
    obtain ⟨e, x, ex, hx⟩ := hv n (by omega)
    refine ⟨m + x, by omega, ?_, ?_⟩
    · unfold lotS; rw [m2, ex, nI_add]
    · unfold lot; rw [m3, e, ex, nI_l (by omega), lN_add]
theorem itm_n {v w : Nat → Int32} (F : mZ) (p : Nat) (hv : ∀ k, k < 6 → sh F p (9 + k) = v k ∧ ∃ x : Nat, v k = nI x ∧ x ≤ 1000000) : ∀ n, n ≤ 6 → itm F p n = lotN v n
  | 0, _ => rfl
  | n + 1, hn => by
    have ih := itm_n (w := w) F p hv n (by omega)
    obtain ⟨e, x, ex, hx⟩ := hv n (by omega)
    unfold itm lotN
    rw [ih, e, ex]
    by_cases z : x = 0
    · subst z
      rw [if_pos (by decide), if_pos (by decide), Int32.add_zero]
    · rw [if_neg (nI_nle (by omega) (by omega)), if_neg (nI_ne0 (by omega) (by omega))]
theorem lN_min {a b : Nat} (ha : a < 2 ^ 31) (hb : b < 2 ^ 31) : (if nI a < nI b then nI a else nI b).toInt64 = lN (min a b) := by
  rw [nI_min ha hb, nI_l (by omega)]
set_option maxHeartbeats 400000 in
theorem HR.worth (h : HR Z vs pl RW cn rc d F) {place : Int32} (hp : tN place < 40) (hs : gp Z (tN place) ≠ none) : ∃ n : Nat, n ≤ 10000000 ∧ sc_X3_worthOf (pl (tN place)) Z = nI n ∧ sp_worth F place = lN n := by
  rcases h.kind0 hp with ⟨a, _⟩ | ⟨a, _⟩ | ⟨a, b, e, e2, e3⟩
  · exact absurd a hs
  · exact absurd a hs
  have hd := h.1.2.2.1
  unfold sp_worth sc_X3_worthOf
  rw [e]
  revert e3
  generalize pl (tN place) = P at *
  obtain ⟨k, v, w⟩ := P
  intro e3
  match k, e2, e3 with
  | 0, _, e3 =>
    obtain ⟨w2, _, _, x, ex, hx⟩ := e3
    rw [if_pos (show nI 0 = 0 by decide), w2]
    exact ⟨x, by omega, ex, by show (v 0).toInt64 = _; rw [show v 0 = nI x from ex, nI_l (by omega)]⟩
  | 1, _, e3 =>
    obtain ⟨w6, w7, w4, ⟨x, ex, hx⟩, y, ey, hy⟩ := e3
    obtain ⟨pr, ep, hpr⟩ := (h.2.1 3 (by decide)).2
    have hpr : pr ≤ 10000 := hpr
    have ep2 : zh F 6 = nI pr := (h.rule (j := 3) (by decide)).symm.trans ep
    have hxy : x * y ≤ 1000000 * 1000 := Nat.mul_le_mul hx hy
    have hxyp : x * y * pr ≤ 1000000 * 1000 * 10000 := Nat.mul_le_mul hxy hpr
    have ecalc : (lN x * lN y * lN pr) / 1000000 = lN (x * y * pr / 1000000) := by
      rw [lN_mul, lN_mul, show (1000000 : Int64) = lN 1000000 from rfl, pk_lDiv (by omega) (by decide) (by decide)]
    refine ⟨x * y * pr / 1000000, by omega, ?_, ?_⟩
    · show ((((v 0).toInt64 * (v 2).toInt64) * (gr Z 3).toInt64) / 1000000).toInt32 = _
      rw [show v 0 = nI x from ex, show v 2 = nI y from ey, ep, nI_l (by omega), nI_l (by omega), nI_l (by omega), ecalc, lN_i]
    · rw [if_neg (show ¬ nI 1 = 0 by decide), if_pos (show nI 1 = 1 by decide), w6, w4, ep2]
      show (((v 0).toInt64 * (v 2).toInt64) * (nI pr).toInt64) / 1000000 = _
      rw [show v 0 = nI x from ex, show v 2 = nI y from ey, nI_l (by omega), nI_l (by omega), nI_l (by omega), ecalc]
  | 2, _, e3 =>
    obtain ⟨w6, w7, w8, _, hv⟩ := e3
    obtain ⟨m, m1, m2, m3⟩ := lot_n (w := v) F (tN place) (v := v) hv 6 (by decide)
    refine ⟨m, by omega, m2, ?_⟩
    rw [if_neg (show ¬ nI 2 = 0 by decide), if_neg (show ¬ nI 2 = 1 by decide), if_pos (show nI 2 = 2 by decide), m3]
  | 3, _, e3 =>
    obtain ⟨w2, w4, w5, _, _, ⟨x, ex, hx⟩, ⟨y, ey, hy⟩, z, ez, hz⟩ := e3
    have hq : (d - z) / 360 ≤ 20 := by omega
    have hyq : y * ((d - z) / 360) ≤ 500 * 20 := Nat.mul_le_mul hy hq
    have e36 : (nI d - nI z) / 360 = nI ((d - z) / 360) := by
      rw [pk_sub hz]; exact pk_div (d := 360) (by omega) (by decide) (by decide)
    have eL : (1000 : Int64) - lN y * lN ((d - z) / 360) = lN 1000 - lN (y * ((d - z) / 360)) := by rw [lN_mul]; rfl
    rw [if_neg (show ¬ nI 3 = 0 by decide), if_neg (show ¬ nI 3 = 1 by decide), if_neg (show ¬ nI 3 = 2 by decide), if_pos (show nI 3 = 3 by decide), w2, w4, w5, h.1.2.1]
    show ∃ n : Nat, n ≤ 10000000 ∧ sc_X1_worth v (gh Z 0) (gr Z 3) = nI n ∧ (if 0 < 1000 - (v 1).toInt64 * ((nI d - v 2) / 360).toInt64 then ((v 0).toInt64 * (1000 - (v 1).toInt64 * ((nI d - v 2) / 360).toInt64)) / 1000 else 0) = lN n
    unfold sc_X1_worth
    rw [h.1.1, show v 0 = nI x from ex, show v 1 = nI y from ey, show v 2 = nI z from ez, e36, nI_l (by omega), nI_l (by omega), nI_l (by omega), eL]
    by_cases c : y * ((d - z) / 360) < 1000
    · have c2 : (0 : Int64) < lN 1000 - lN (y * ((d - z) / 360)) := by
        rw [lN_sub (by omega), show (0 : Int64) = lN 0 from rfl, lN_lt (by omega) (by omega)]; omega
      have hx2 : x * (1000 - y * ((d - z) / 360)) ≤ 1000000 * 1000 := Nat.mul_le_mul hx (by omega)
      rw [if_pos c2, if_pos c2, lN_sub (by omega), lN_mul, show (1000 : Int64) = lN 1000 from rfl, pk_lDiv (by omega) (by decide) (by decide), lN_i]
      exact ⟨_, by omega, rfl, rfl⟩
    · have c2 : ¬ (0 : Int64) < lN 1000 - lN (y * ((d - z) / 360)) := by
        intro q
        have e1 : lN (y * ((d - z) / 360)) = lN 1000 + lN (y * ((d - z) / 360) - 1000) := by rw [lN_add]; exact congrArg lN (by omega)
        rw [e1] at q
        have e2 : lN 1000 - (lN 1000 + lN (y * ((d - z) / 360) - 1000)) = - lN (y * ((d - z) / 360) - 1000) := by grind
        rw [e2, Int64.lt_iff_toInt_lt, Int64.toInt_neg, lN_toInt (by omega)] at q
        have : (0 : Int64).toInt = 0 := by decide
        rw [this, Int.bmod_def] at q
        omega
      rw [if_neg c2, if_neg c2]
      exact ⟨0, by omega, rfl, rfl⟩
  | 4, _, e3 =>
    obtain ⟨_, _, w8, w2, w3, _, _, _, ⟨x, ex, hx⟩, y, ey, hy⟩ := e3
    rw [if_neg (show ¬ nI 4 = 0 by decide), if_neg (show ¬ nI 4 = 1 by decide), if_neg (show ¬ nI 4 = 2 by decide), if_neg (show ¬ nI 4 = 3 by decide), if_pos (show nI 4 = 4 by decide), w8, w2, w3]
    show ∃ n : Nat, n ≤ 10000000 ∧ sc_X6_worth v (gh Z 0) (gr Z 3) = nI n ∧ (if 2 ≤ v 3 then (if v 5 < v 4 then v 5 else v 4).toInt64 else 0) = lN n
    unfold sc_X6_worth
    rw [show v 4 = nI x from ex, show v 5 = nI y from ey, nI_min (by omega) (by omega)]
    have := Nat.min_le_left y x
    by_cases c : 2 ≤ v 3
    · rw [if_pos c, if_pos c]
      exact ⟨min y x, by omega, rfl, nI_l (by omega)⟩
    · rw [if_neg c, if_neg c]
      exact ⟨0, by omega, rfl, rfl⟩
  | n + 5, h5, _ => exact absurd h5 (by omega)
theorem HR.kd (h : HR Z vs pl RW cn rc d F) {place : Int32} (hp : tN place < 40) (hs : gp Z (tN place) ≠ none) : sc_kind (pl (tN place)) = nI (pl (tN place)).1 ∧ (pl (tN place)).1 ≤ 4 ∧ sh F (tN place) 0 = nI (pl (tN place)).1 := by
  rcases h.kind0 hp with ⟨a, _⟩ | ⟨a, _⟩ | ⟨a, b, e, e2, e3⟩
  · exact absurd a hs
  · exact absurd a hs
  refine ⟨?_, e2, e⟩
  unfold sc_kind
  revert e2
  generalize (pl (tN place)).1 = k
  intro e2
  match k, e2 with
  | 0, _ => rfl
  | 1, _ => rfl
  | 2, _ => rfl
  | 3, _ => rfl
  | 4, _ => rfl
  | n + 5, h5 => exact absurd h5 (by omega)
set_option maxRecDepth 4000 in
theorem HR.rest (h : HR Z vs pl RW cn rc d F) {place : Int32} (hp : tN place < 40) (hs : gp Z (tN place) ≠ none) : sh F (tN place) 6 = sc_hundredths (pl (tN place)) ∧ sh F (tN place) 7 = sc_leftOver (pl (tN place)) ∧ (if nI (pl (tN place)).1 = 2 then (sp_items F place).toInt64 else 0) = (sc_itemCount (pl (tN place))).toInt64 ∧ (if nI (pl (tN place)).1 = 4 then (sh F (tN place) 8).toInt64 else 0) = (sc_tellers (pl (tN place))).toInt64 := by
  rcases h.kind0 hp with ⟨a, _⟩ | ⟨a, _⟩ | ⟨a, b, e, e2, e3⟩
  · exact absurd a hs
  · exact absurd a hs
  revert e3 e2
  generalize pl (tN place) = P at *
  obtain ⟨k, v, w⟩ := P
  intro e2 e3
  match k, e2, e3 with
  | 0, _, e3 => exact ⟨e3.2.1, e3.2.2.1, (by rw [if_neg (show ¬ nI 0 = 2 by decide)]; show (0 : Int64) = (0 : Int32).toInt64; decide), (by rw [if_neg (show ¬ nI 0 = 4 by decide)]; show (0 : Int64) = (0 : Int32).toInt64; decide)⟩
  | 1, _, e3 => exact ⟨e3.1, e3.2.1, (by rw [if_neg (show ¬ nI 1 = 2 by decide)]; show (0 : Int64) = (0 : Int32).toInt64; decide), (by rw [if_neg (show ¬ nI 1 = 4 by decide)]; show (0 : Int64) = (0 : Int32).toInt64; decide)⟩
  | 2, _, e3 =>
    refine ⟨e3.1, e3.2.1, ?_, (by rw [if_neg (show ¬ nI 2 = 4 by decide)]; show (0 : Int64) = (0 : Int32).toInt64; decide)⟩
    rw [if_pos (show nI 2 = 2 by decide)]
    unfold sp_items
    rw [itm_n (w := v) F (tN place) (v := v) e3.2.2.2.2 6 (by decide)]
    rfl
  | 3, _, e3 => exact ⟨e3.2.2.2.1, e3.2.2.2.2.1, (by rw [if_neg (show ¬ nI 3 = 2 by decide)]; show (0 : Int64) = (0 : Int32).toInt64; decide), (by rw [if_neg (show ¬ nI 3 = 4 by decide)]; show (0 : Int64) = (0 : Int32).toInt64; decide)⟩
  | 4, _, e3 =>
    refine ⟨e3.1, e3.2.1, (by rw [if_neg (show ¬ nI 4 = 2 by decide)]; show (0 : Int64) = (0 : Int32).toInt64; decide), ?_⟩
    rw [if_pos (show nI 4 = 4 by decide), e3.2.2.1]
    rfl
  | n + 5, h5, _ => exact absurd h5 (by omega)
set_option maxHeartbeats 400000 in
theorem r_place (h : HR Z vs pl RW cn rc d F) (place what : Int32) (hs : gp Z (tN place) ≠ none) : sp_place F place what = sc_X3_lookAtPlace (pl (tN place)) Z place what := by
  unfold sp_place sc_X3_lookAtPlace
  rw [spP]
  by_cases c0 : sc_X3_isPlace place = 0
  · rw [if_pos c0, if_pos c0]
  rw [if_neg c0, if_neg c0]
  have hp := (pl_of c0).2
  obtain ⟨k1, k2, k3⟩ := h.kd hp hs
  obtain ⟨n, n1, n2, n3⟩ := h.worth hp hs
  rw [k1, k3, n2, n3, h.on1 hp, nI_l (n := n) (by omega)]
  have rest := h.rest hp hs
  rw [rest.1, rest.2.1, rest.2.2.1, rest.2.2.2]
theorem r_place_n (h : HR Z vs pl RW cn rc d F) (place what : Int32) (hs : gp Z (tN place) = none) : sp_place F place what = sc_X3_lookAtPlace_n Z place what := by
  unfold sp_place sc_X3_lookAtPlace_n sc_X3_boxOrNothing
  rw [spP]
  by_cases c0 : sc_X3_isPlace place = 0
  · rw [if_pos c0, if_pos c0]
  rw [if_neg c0, if_neg c0]
  have hp := (pl_of c0).2
  have q := (h.2.2.2.1 (tN place) hp).2
  rw [hs] at q
  have z := q.2.2
  have e1 := (h.on1 hp).trans q.1
  have e0 : (sh F (tN place) 0 = -1 ∧ gb Z (tN place) = 0) ∨ (sh F (tN place) 0 = 5 ∧ gb Z (tN place) = 1) := by
    rcases q.2.1 with a | a
    · exact Or.inl ⟨a.2, a.1⟩
    · exact Or.inr ⟨a.2, a.1⟩
  have ew : sp_worth F place = 0 := by
    unfold sp_worth
    rcases e0 with a | a <;> rw [a.1] <;> rfl
  rw [ew, e1, z 6 (by decide) (by decide) (by decide), z 7 (by decide) (by decide) (by decide)]
  rcases e0 with a | a <;> rw [a.1, a.2] <;> by_cases w0 : what = 0
  · simp [w0]
  · simp [w0]
  · simp [w0]
  · simp [w0]
set_option maxHeartbeats 400000 in
theorem r_told (h : HR Z vs pl RW cn rc d F) (hi : i < cn) (what : Int32) : sp_told F (nI (i + 1)) what = sc_X3_lookAtTicket (nI (i + 1)) (vs i) Z what := by
  have ht := h.2.2.1.1 i hi
  have hd := h.1.2.2.1
  unfold sp_told sc_X3_lookAtTicket
  have g := fun (k : Nat) (a : k ≤ 26) (b : k ≠ 13) (c : k ≠ 16) => h.tkv hi (k := k) a b c
  have e7 : vs i 7 = if vs i 7 = 0 then 0 else 1 := by
    rcases ht.2.2.2.2.1 with e | e <;> rw [e] <;> rfl
  have e13 : (if tk F (tN (nI (i + 1))) 13 = 1 then (1 : Int32) else if tk F (tN (nI (i + 1))) 12 ≤ 0 then 0 else if zh F 0 ≤ tk F (tN (nI (i + 1))) 14 then 0 else 2) = sc_X9_overState (nI (i + 1)) (vs i) (gh Z 0) := by
    unfold sc_X9_overState
    rw [g 12 (by decide) (by decide) (by decide), g 14 (by decide) (by decide) (by decide), h.tn hi, ← h.today]
    obtain ⟨ov, f12, fo, f30, f31, f0⟩ := ht.2.2.2.1
    rcases ht.1.2.2 with ⟨a, b⟩ | ⟨a, b⟩
    · rw [a, b, if_pos rfl, if_neg (by decide)]
      unfold sc_X9_isHousesOver sc_X9_hasOverOn
      rw [a]
      by_cases z : vs i 12 ≤ 0
      · rw [if_pos z, if_pos z, if_pos rfl, if_pos rfl]
      · rw [if_neg z, if_neg z]
        have hov : 0 < ov := nI_posN (by omega) (by rw [← f12]; exact z)
        obtain ⟨y0, g30, gy⟩ := f30 hov
        rw [if_neg (show ¬ gh Z 0 < vs i 30 by rw [h.1.1, g30, nI_ltI (by omega) (by omega)]; omega), if_pos rfl, if_neg (show ¬ (1 : Int32) = 0 by decide)]
        by_cases y : gh Z 0 ≤ vs i 14
        · rw [if_pos y, if_pos y, if_pos rfl]
        · rw [if_neg y, if_neg y, if_neg (by decide)]
    · rw [b, if_pos rfl, if_neg a]
  have e15 : (if tk F (tN (nI (i + 1))) 16 = 0 then (-1 : Int32) else nI (i + 1)) = sc_X9_numberInHouseHalf (nI (i + 1)) (vs i) := by
    unfold sc_X9_numberInHouseHalf
    rw [h.tn hi]
    rcases ht.1.2.1 with ⟨a, b⟩ | ⟨a, b⟩ | ⟨a, b⟩ <;> rw [a, b] <;> rfl
  have e16 : (if tk F (tN (nI (i + 1))) 16 = -1 then tk F (tN (nI (i + 1))) 17 else (-1 : Int32)) = sc_X9_halfInHouseHalf (nI (i + 1)) (vs i) := by
    unfold sc_X9_halfInHouseHalf sc_X9_isTorn
    rw [g 17 (by decide) (by decide) (by decide), h.tn hi]
    rcases ht.1.2.1 with ⟨a, b⟩ | ⟨a, b⟩ | ⟨a, b⟩ <;> rw [a, b] <;> rfl
  rw [if_neg (h.isT hi), e13, e15, e16, g 0 (by decide) (by decide) (by decide), g 1 (by decide) (by decide) (by decide), g 2 (by decide) (by decide) (by decide), g 3 (by decide) (by decide) (by decide), g 4 (by decide) (by decide) (by decide), g 5 (by decide) (by decide) (by decide), g 6 (by decide) (by decide) (by decide), g 7 (by decide) (by decide) (by decide), h.first hi, h.claimed hi, g 9 (by decide) (by decide) (by decide), g 10 (by decide) (by decide) (by decide), g 12 (by decide) (by decide) (by decide), g 15 (by decide) (by decide) (by decide), g 18 (by decide) (by decide) (by decide), ← e7]
theorem r_half (h : HR Z vs pl RW cn rc d F) : sp_half F = if cn = 0 then 0 else vs (cn - 1) 17 := h.1.2.2.2.2.2.2.2
/-- no such ticket -/
theorem HR.noT (h : HR Z vs pl RW cn rc d F) {t : Int32} (ht : t < 1 ∨ gh Z 1 < t) : sp_isTicket F t = 0 := by
  unfold sp_isTicket
  by_cases c : t < 1
  · rw [if_pos c]
  · rw [if_neg c, if_pos]
    rcases ht with a | a
    · exact absurd a c
    · rw [h.1.2.2.2.2.1, ← h.1.2.2.2.1]; exact a
end RW1
