/-! lending: a new ticket -/
section RLN
variable {Z Z' : hZ} {vs : Nat → Nat → Int32} {pl : Nat → pZ} {RW RW' : Nat → Nat → Int64} {cn rc d i p : Nat} {F F' : mZ} {P : pZ}
theorem prN_n {x : Int64} {v : Nat → Int32} (h0 : v 0 = 0) : prN (vsW vs cn v) x (cn + 1) = prN vs x cn + (v 1).toInt64 := by
  conv => lhs; unfold prN
  unfold sc_X9_isOpen
  rw [vsW_eq, h0, if_pos rfl, if_neg (by decide), prN_c (vs := vs) cn (fun j hj => by rw [vsW_ne (by omega)]; exact ⟨rfl, rfl⟩)]
theorem opS_n {v : Nat → Int32} (h0 : v 0 = 0) : opS (vsW vs cn v) (cn + 1) = opS vs cn + 1 := by
  conv => lhs; unfold opS
  rw [vsW_eq, if_pos h0, opS_c (vs := vs) cn (fun j hj => by rw [vsW_ne (by omega)])]
theorem gS_n {v : Nat → Int32} {day : Int32} (h0 : v 0 = 0) : gS (vsW vs cn v) day (cn + 1) = gS vs day cn + gF v day := by
  conv => lhs; unfold gS
  rw [vsW_eq, if_pos h0, gS_c (vs := vs) cn (fun j hj => by rw [vsW_ne (by omega)]; exact ⟨rfl, rfl, rfl, rfl, rfl, rfl⟩)]
theorem ovN_n {v : Nat → Int32} {day k : Int32} (h0 : v 12 = 0) : ovN (vsW vs cn v) day k (cn + 1) = ovN vs day k cn := by
  have hh : sc_X9_hasOverOn (nI (cn + 1)) v day = 0 := by unfold sc_X9_hasOverOn; rw [h0, if_pos (by decide)]
  conv => lhs; unfold ovN
  rw [vsW_eq, ovN_c (vs := vs) cn (fun j hj => by rw [vsW_ne (by omega)]; exact ⟨rfl, rfl, rfl, rfl⟩)]
  have a : sc_X9_isHousesOver (nI (cn + 1)) v day = 0 := by unfold sc_X9_isHousesOver; rw [hh, if_pos rfl]
  have b : sc_X9_isKeptOver (nI (cn + 1)) v day = 0 := by unfold sc_X9_isKeptOver; rw [hh, if_pos rfl]
  rw [if_pos a, if_pos b, ite_self]
theorem bg_0 {x : Int32} : sc_X7_begunUpTo x.toInt64 x.toInt64 = 1 := by
  unfold sc_X7_begunUpTo
  rw [if_pos (Int64.le_refl _)]
  have : x.toInt64 - x.toInt64 = 0 := by grind
  rw [this]
  rfl
/-- a new ticket, there and here -/
def vN (am d mo rr H kd pl c : Int32) : Nat → Int32 := upd (upd (upd (sc_X7_beginAnew 0 (upd (upd (upd tk0 19 kd) 1 am) 17 H) d mo rr) 2 c) 3 1) 15 pl
def wN (w : Nat → Int32) (am d mo rr H kd pl c : Int32) : Nat → Int32 := upd (upd (upd (upd (upd (upd (upd (upd (upd (upd (upd (upd (upd w 1 am) 4 d) 5 mo) 6 rr) 8 (-1)) 15 pl) 16 (-1)) 17 H) 18 (-1)) 19 kd) 20 (-1)) 3 1) 2 c
theorem tkR_new {w : Nat → Int32} (hw : ∀ k, k < 32 → w k = 0) {am d mo rr H kd pl c : Int32} : tkR (vN am d mo rr H kd pl c) (wN w am d mo rr H kd pl c) := by
  refine ⟨fun k k1 k2 k3 => ?_, Or.inl ⟨rfl, rfl⟩, Or.inl ⟨rfl, hw 13 (by decide)⟩⟩
  match k, k1, k2, k3 with
  | 0, _, _, _ => exact hw 0 (by decide)
  | 1, _, _, _ => exact rfl
  | 2, _, _, _ => exact rfl
  | 3, _, _, _ => exact rfl
  | 4, _, _, _ => exact rfl
  | 5, _, _, _ => exact rfl
  | 6, _, _, _ => exact rfl
  | 7, _, _, _ => exact hw 7 (by decide)
  | 8, _, _, _ => exact rfl
  | 9, _, _, _ => exact hw 9 (by decide)
  | 10, _, _, _ => exact hw 10 (by decide)
  | 11, _, _, _ => exact hw 11 (by decide)
  | 12, _, _, _ => exact hw 12 (by decide)
  | 13, _, a, b => first | exact absurd rfl a | exact absurd rfl b
  | 14, _, _, _ => exact hw 14 (by decide)
  | 15, _, _, _ => exact rfl
  | 16, _, a, b => first | exact absurd rfl a | exact absurd rfl b
  | 17, _, _, _ => exact rfl
  | 18, _, _, _ => exact rfl
  | 19, _, _, _ => exact rfl
  | 20, _, _, _ => exact rfl
  | 21, _, _, _ => exact hw 21 (by decide)
  | 22, _, _, _ => exact hw 22 (by decide)
  | 23, _, _, _ => exact hw 23 (by decide)
  | 24, _, _, _ => exact hw 24 (by decide)
  | 25, _, _, _ => exact hw 25 (by decide)
  | 26, _, _, _ => exact hw 26 (by decide)
  | n + 27, h, _, _ => exact absurd h (by omega)
theorem reach_new {nm s m r a : Int32} {w : Nat → Int32} : sc_X7_reachDay nm (sc_X7_beginAnew nm w s m r) s a = upd (upd (sc_X7_beginAnew nm w s m r) 2 (sc_X11_cutUp a r)) 3 1 := by
  unfold sc_X7_reachDay
  show upd (upd (sc_X7_beginAnew nm w s m r) 2 (0 + (sc_X7_begunUpTo s.toInt64 s.toInt64 - 0) * sc_X11_cutUp a r)) 3 (sc_X7_begunUpTo s.toInt64 s.toInt64) = _
  rw [bg_0]
  have : (0 : Int32) + (1 - 0) * sc_X11_cutUp a r = sc_X11_cutUp a r := by grind
  rw [this]
/-- a new ticket, and a row for it -/
theorem HR_new (h : HR Z vs pl RW cn rc d F) (hcn : cn < 511) (hrc : rc ≤ 511) (hp : p < 40) {v : Nat → Int32} (ho : go Z p = 0) (hs : gp Z p ≠ none)
    (g0 : gh Z' 0 = gh Z 0) (g1 : gh Z' 1 = nI (cn + 1)) (g2 : gh Z' 2 = nI (rc + 1)) (g3 : gr Z' = gr Z) (g4 : go Z' = upd (go Z) p (nI (cn + 1))) (g5 : gp Z' = gp Z) (g6 : gb Z' = gb Z)
    (e0 : zh F' 0 = zh F 0) (e1 : zh F' 1 = nI (cn + 1)) (e2 : zh F' 2 = v 17) (e3 : ∀ j, j < 14 → zh F' (3 + j) = zh F (3 + j)) (e4 : ze F' = ze F) (e5 : ∀ n, n ≠ cn + 1 → ∀ k, k < 32 → tk F' n k = tk F n k) (e6 : ∀ q k, k < 16 → (q ≠ p ∨ k ≠ 1) → sh F' q k = sh F q k) (e7 : sh F' p 1 = nI (cn + 1))
    (hR : tkR v (tk F' (cn + 1))) (hI : tI d v) (h0 : v 0 = 0) (h12 : v 12 = 0) (h15 : v 15 = nI p) (h19 : v 19 = nI (pl p).1)
    (hl : ∀ i, i < rc → RW' i = RW i) (h20 : RW' rc 20 = (gh Z 0).toInt64) (hz : RW' rc 0 = zc F' 0 ∧ RW' rc 1 = zc F' 1 ∧ RW' rc 2 = zc F' 2 ∧ RW' rc 3 = zc F' 3 ∧ RW' rc 5 = zc F' 4 ∧ RW' rc 7 = zc F' 5 ∧ RW' rc 13 = zc F' 6)
    (t8 : RW' rc 8 = tot RW rc 8 + (v 1).toInt64) (t10 : RW' rc 10 = tot RW rc 10 + 1) (t11 : RW' rc 11 = tot RW rc 11) (t12 : RW' rc 12 = tot RW rc 12 + 1)
    (t0 : RW' rc 2 + RW' rc 13 + RW' rc 8 - RW' rc 0 = tot RW rc 2 + tot RW rc 13 + tot RW rc 8 - tot RW rc 0)
    (hg : ∀ day, sc_X0_grown RW' rc 17 day - sc_X0_grown RW' rc 14 day = gF v day) : HR Z' (vsW vs cn v) pl RW' (cn + 1) (rc + 1) d F' := by
  obtain ⟨h1, h2, h3, h4, h6, h7, h8, h9⟩ := h
  have hd := h1.2.2.1
  have h20' : RW' rc 20 = lN d := by rw [h20, h1.1, nI_l (by omega)]
  refine ⟨?_, ?_, ?_, ?_, ?_, ?_, ?_, ?_⟩
  · refine ⟨g0.trans h1.1, e0.trans h1.2.1, hd, g1, e1, by omega, g2, ?_⟩
    rw [if_neg (by omega), Nat.add_sub_cancel, vsW_eq]
    exact e2
  · intro j hj
    rw [g3, e3 j hj]
    exact h2 j hj
  · refine ⟨fun j hj => ?_, fun n hn1 hn2 k hk => ?_⟩
    · by_cases e : j = cn
      · rw [e, vsW_eq]; exact ⟨hR, hI⟩
      · rw [vsW_ne e]
        have hj2 : j < cn := by omega
        refine ⟨⟨fun k k1 k2 k3 => ?_, ?_, ?_⟩, (h3.1 j hj2).2⟩
        · rw [e5 (j + 1) (by omega) k (by omega)]; exact (h3.1 j hj2).1.1 k k1 k2 k3
        · rw [e5 (j + 1) (by omega) 16 (by decide)]; exact (h3.1 j hj2).1.2.1
        · rw [e5 (j + 1) (by omega) 13 (by decide)]; exact (h3.1 j hj2).1.2.2
    · rw [e5 n (by omega) k hk]; exact h3.2 n (by omega) hn2 k hk
  · intro q hq
    have h4q := h4 q hq
    rw [g5, g6, g4]
    by_cases z : q = p
    · subst z
      rw [upd_eq]
      have h4b := h4q.2
      cases e : gp Z q with
      | none => exact absurd e hs
      | some r =>
        rw [e] at h4b
        have : shR d (some r) (gb Z q) (nI (cn + 1)) (pl q) (upd (sh F q) 1 (nI (cn + 1))) := by
          refine ⟨upd_eq, h4b.1, h4b.2.1, ?_⟩
          have h3' := h4b.2.2
          unfold plR at h3' ⊢
          revert h3'
          split
          · exact id
          · exact id
          · exact fun h3' => ⟨h3'.1, h3'.2.1, h3'.2.2.1, h3'.2.2.2.1, fun k hk => by rw [upd_ne (by omega)]; exact h3'.2.2.2.2 k hk⟩
          · exact id
          · exact id
          · exact id
        refine shR_k this (fun k hk => ?_)
        by_cases y : k = 1
        · subst y; rw [upd_eq]; exact e7
        · rw [upd_ne y]; exact e6 q k hk (Or.inr y)
    · rw [upd_ne z]
      exact shR_k h4q (fun k hk => e6 q k hk (Or.inl z))
  · refine ⟨fun j hj hj0 => ?_, fun q hq => ?_⟩
    · by_cases e : j = cn
      · rw [e, vsW_eq]
        exact ⟨p, hp, h15, by rw [g5]; exact hs, by rw [g4, upd_eq], h19⟩
      · rw [vsW_ne e] at hj0 ⊢
        obtain ⟨q, q1, q2, q3, q4, q5⟩ := h6.1 j (by omega) hj0
        have z : q ≠ p := fun y => by
          subst y
          rw [ho] at q4
          exact absurd q4.symm (nI_ne0 (by omega) (by omega))
        exact ⟨q, q1, q2, by rw [g5]; exact q3, by rw [g4, upd_ne z]; exact q4, q5⟩
    · rw [g4]
      by_cases z : q = p
      · subst z
        exact Or.inr ⟨cn, by omega, upd_eq, by rw [vsW_eq]; exact h0, by rw [vsW_eq]; exact h15⟩
      · rw [upd_ne z]
        rcases h6.2 q hq with y | ⟨j, j1, j2, j3, j4⟩
        · exact Or.inl y
        · exact Or.inr ⟨j, by omega, j2, by rw [vsW_ne (by omega)]; exact j3, by rw [vsW_ne (by omega)]; exact j4⟩
  · have q8 := h7.2.1
    have q10 := h7.2.2.1
    have q11 := h7.2.2.2.1
    have q12 := h7.2.2.2.2.1
    have q0 := h7.2.2.2.2.2
    rw [prN_x] at q0
    have ep : plS Z' 40 = plS Z 40 := plS_c 40 (fun i _ => by rw [g5])
    refine ⟨?_, ?_, ?_, ?_, ?_, ?_⟩
    · rw [tot_s, tot_s, tot_s, tot_s, tot_s, tot_s, tot_s]; exact hz
    · rw [tot_s, t8, prN_n h0, q8]
    · rw [tot_s, t10, opS_n h0, q10]
    · rw [tot_s, t11, ep]; exact q11
    · rw [tot_s, t12, q12, lN_1]
    · rw [tot_s, tot_s, tot_s, prN_n h0, prN_x, ← q8]
      rw [t8] at t0
      rw [q8] at t0 ⊢
      grind
  · refine rC8_row h8 hl h20' (fun day => ?_)
    rw [hg day, gS_n h0]
  · exact rC9_row h9 e4 h1.1 (g0.trans h1.1) hd hrc hl h20' (fun y _ k => ovN_n h12)
theorem AO_noB {a : Int32} (h : HR Z vs pl RW cn rc d F) {o : Option (Int32 × (Nat → Int32))} (ho : o = none) : ∃ cn' vs' rc', (rc ≤ rc' ∧ rc' ≤ rc + 1) ∧ ((cn' = cn ∧ vs' = vs ∧ o = none) ∨ (cn' = cn + 1 ∧ ∃ v, o = some (nI (cn + 1), v) ∧ vs' = vsW vs cn v)) ∧ AO F (a, zR F a) a Z vs' pl RW cn' rc' d := ⟨cn, vs, rc, by omega, Or.inl ⟨rfl, rfl, ho⟩, AO_no h⟩
set_option maxHeartbeats 1600000 in
theorem r_lend (h : HR Z vs pl RW cn rc d F) (hrc : rc ≤ 511) (q b : Nat → Nat) (place amount months : Int32) (hs : gp Z (tN place) ≠ none) : ∃ cn' vs' rc', (rc ≤ rc' ∧ rc' ≤ rc + 1) ∧ ((cn' = cn ∧ vs' = vs ∧ (sc_X3_lendOn Z RW q (pl (tN place)) b rc place amount months).2.2.2 = none) ∨ (cn' = cn + 1 ∧ ∃ v, (sc_X3_lendOn Z RW q (pl (tN place)) b rc place amount months).2.2.2 = some (nI (cn + 1), v) ∧ vs' = vsW vs cn v)) ∧ AO F (sp_lend F place amount months) (sc_X3_lendOn Z RW q (pl (tN place)) b rc place amount months).1 (sc_X3_lendOn Z RW q (pl (tN place)) b rc place amount months).2.1 vs' pl (sc_X3_lendOn Z RW q (pl (tN place)) b rc place amount months).2.2.1 cn' rc' d := by
  have hd := h.1.2.2.1
  have hc := h.1.2.2.2.2.2.1
  unfold sp_lend sc_X3_lendOn
  rw [spP]
  by_cases c0 : sc_X3_isPlace place = 0
  · have e : sc_X3_whyNotFreeOn Z place = -1 := by unfold sc_X3_whyNotFreeOn; rw [if_pos c0]
    rw [if_pos c0, e, if_neg (by decide)]; exact AO_noB h rfl
  rw [if_neg c0]
  obtain ⟨epl, hp⟩ := pl_of c0
  rw [h.ispl hp, if_neg hs, if_neg (show ¬ (1 : Int32) = 0 by decide), h.on1 hp]
  by_cases c1 : go Z (tN place) = 0
  rotate_left
  · have e : sc_X3_whyNotFreeOn Z place = -2 := by unfold sc_X3_whyNotFreeOn; rw [if_neg c0, if_neg hs, if_neg c1]
    rw [if_neg (fun z => c1 ((h.on0 hp).mp z)), e, if_neg (by decide)]; exact AO_noB h rfl
  have e : sc_X3_whyNotFreeOn Z place = 0 := by unfold sc_X3_whyNotFreeOn; rw [if_neg c0, if_neg hs, if_pos c1]
  rw [if_pos ((h.on0 hp).mpr c1), if_pos e]
  unfold sc_X3_isTerm
  by_cases c2 : months < 1
  · rw [if_pos c2, if_pos c2, if_pos rfl]; exact AO_noB h rfl
  rw [if_neg c2, if_neg c2]
  by_cases c3 : (12 : Int32) < months
  · rw [if_pos c3, if_pos c3, if_pos rfl]; exact AO_noB h rfl
  rw [if_neg c3, if_neg c3, if_neg (show ¬ (1 : Int32) = 0 by decide)]
  by_cases c4 : amount < 1
  · rw [if_pos c4, if_pos c4]; exact AO_noB h rfl
  rw [if_neg c4, if_neg c4]
  obtain ⟨k1, k2, k3⟩ := h.kd hp hs
  obtain ⟨wn, wn1, wn2, wn3⟩ := h.worth hp hs
  obtain ⟨am, am1, am2, eam⟩ := ge1_of c4
  obtain ⟨r, er, hr, epart⟩ := part_n h (m := wn) k2 wn1
  have hwr : wn * r ≤ 10000000 * 1000 := Nat.mul_le_mul wn1 hr
  obtain ⟨erate, rr, er2, er3⟩ : sc_X3_rateOf Z (nI (pl (tN place)).1) = zh F (3 + (4 + (pl (tN place)).1)) ∧ ∃ r : Nat, zh F (3 + (4 + (pl (tN place)).1)) = nI r ∧ r ≤ 200 := h.rate k2 (x := 0)
  rw [k1, k3, wn2, wn3, tN_n (n := (pl (tN place)).1) (by omega), epart, er, eam, nI_l (n := am) am1, nI_l (n := r) (by omega), lN_mul, show (1000 : Int64) = lN 1000 from rfl, pk_lDiv (by omega) (by decide) (by decide)]
  by_cases c5 : am ≤ wn * r / 1000
  rotate_left
  · rw [if_neg (fun z => c5 ((lN_le (by omega) (by omega)).mp z)), if_neg (fun z => c5 ((nI_leI (by omega) (by omega)).mp z))]; exact AO_noB h rfl
  rw [if_pos ((lN_le (by omega) (by omega)).mpr c5), if_pos ((nI_leI (by omega) (by omega)).mpr c5), h.1.2.2.2.2.1, h.1.2.2.2.1]
  by_cases c6 : cn = 511
  · subst c6
    rw [if_pos (show nI 511 = 511 by decide), if_neg (show ¬ nI 511 < 511 by decide)]; exact AO_noB h rfl
  rw [if_neg (show ¬ nI cn = 511 from fun z => c6 ((nI_eq (b := 511) (by omega) (by omega)).mp z)), if_pos (show nI cn < 511 from (nI_ltI (b := 511) (by omega) (by omega)).mpr (by omega))]
  have hH : ((lN 7 * lN am + lN 13 * lN d) - (lN 7 * lN am + lN 13 * lN d) / lN 1000 * lN 1000).toInt32 = nI ((7 * am + 13 * d) % 1000) := by
    rw [lN_mul, lN_mul, lN_add, pk_lRem (by omega) (by decide) (by decide), lN_i]
  have hH2 : (7 * nI am + 13 * nI d) - (7 * nI am + 13 * nI d) / 1000 * 1000 = nI ((7 * am + 13 * d) % 1000) := by
    rw [show (7 : Int32) = nI 7 from rfl, show (13 : Int32) = nI 13 from rfl, pk_mul, pk_mul, nI_add]
    exact pk_rem (d := 1000) (by omega) (by decide) (by decide)
  have hz0 : ∀ k, k < 32 → tk F (cn + 1) k = 0 := fun k hk => h.2.2.1.2 (cn + 1) (by omega) (by omega) k hk
  generalize hcc : sc_X11_cutUp (nI am) (nI rr) = cc
  have eWT : sc_X3_writeTicket Z b (nI (pl (tN place)).1) (nI am) months = (nI (cn + 1), upd (upd (sc_X7_beginAnew (nI (cn + 1)) (upd (upd (upd tk0 19 (nI (pl (tN place)).1)) 1 (nI am)) 17 (1000 * nI (cn + 1) + nI ((7 * am + 13 * d) % 1000))) (nI d) months (nI rr)) 2 cc) 3 1, ghp (gtp Z cn (some (b 0))) 1 (nI (cn + 1))) := by
    unfold sc_X3_writeTicket
    rw [h.1.2.2.2.1, nI_1, h.1.1, tN_n (by omega), reach_new, hH2, ← hcc, ← er2, ← erate]
    rfl
  rw [eWT]
  simp only [sc_X3_addRow, sc_X0_writeGrowing]
  generalize hv : upd (upd (upd (sc_X7_beginAnew (nI (cn + 1)) (upd (upd (upd tk0 19 (nI (pl (tN place)).1)) 1 (nI am)) 17 (1000 * nI (cn + 1) + nI ((7 * am + 13 * d) % 1000))) (nI d) months (nI rr)) 2 cc) 3 1) 15 place = v
  have hv' : v = vN (nI am) (nI d) months (nI rr) (1000 * nI (cn + 1) + nI ((7 * am + 13 * d) % 1000)) (nI (pl (tN place)).1) place cc := hv.symm
  rw [nI_1, tN_n (n := cn + 1) (by omega), zh_zhp_ne (show 3 + (4 + (pl (tN place)).1) ≠ 1 by omega), er2, h.1.2.1, nI_l (n := d) (by omega), show (7 : Int64) = lN 7 from rfl, show (13 : Int64) = lN 13 from rfl, hH]
  generalize hHH : 1000 * nI (cn + 1) + nI ((7 * am + 13 * d) % 1000) = HH at hv' ⊢
  generalize hG : zcp (zhp (shp (tkp (tkp (tkp (tkp (tkp (tkp (tkp (tkp (tkp (tkp (tkp (zhp F 1 (nI (cn + 1))) (cn + 1) 1 (nI am)) (cn + 1) 4 (nI d)) (cn + 1) 5 months) (cn + 1) 6 (nI rr)) (cn + 1) 8 (-1)) (cn + 1) 15 place) (cn + 1) 16 (-1)) (cn + 1) 17 HH) (cn + 1) 18 (-1)) (cn + 1) 19 (nI (pl (tN place)).1)) (cn + 1) 20 (-1)) (tN place) 1 (nI (cn + 1))) 2 HH) 0 (zc F 0 + lN am) = G
  have hGt : tk G (cn + 1) = upd (upd (upd (upd (upd (upd (upd (upd (upd (upd (upd (tk F (cn + 1)) 1 (nI am)) 4 (nI d)) 5 months) 6 (nI rr)) 8 (-1)) 15 place) 16 (-1)) 17 HH) 18 (-1)) 19 (nI (pl (tN place)).1)) 20 (-1) := by
    rw [← hG]
    show tk (tkp (tkp (tkp (tkp (tkp (tkp (tkp (tkp (tkp (tkp (tkp (zhp F 1 (nI (cn + 1))) (cn + 1) 1 (nI am)) (cn + 1) 4 (nI d)) (cn + 1) 5 months) (cn + 1) 6 (nI rr)) (cn + 1) 8 (-1)) (cn + 1) 15 place) (cn + 1) 16 (-1)) (cn + 1) 17 HH) (cn + 1) 18 (-1)) (cn + 1) 19 (nI (pl (tN place)).1)) (cn + 1) 20 (-1)) (cn + 1) = _
    simp only [tk_upd]
    rfl
  have g4 : tk G (cn + 1) 4 = nI d := by rw [hGt]; rfl
  have g3 : tk G (cn + 1) 3 = 0 := by rw [hGt]; exact hz0 3 (by decide)
  have g2 : tk G (cn + 1) 2 = 0 := by rw [hGt]; exact hz0 2 (by decide)
  have g1 : tk G (cn + 1) 1 = nI am := by rw [hGt]; rfl
  have g6 : tk G (cn + 1) 6 = nI rr := by rw [hGt]; rfl
  have gd : zh G 0 = nI d := by rw [← hG]; exact h.1.2.1
  have eB : sp_begins G (nI (cn + 1)) = tkp (tkp G (cn + 1) 3 1) (cn + 1) 2 cc := by
    unfold sp_begins
    rw [tN_n (by omega), g4, g3, g2, g1, g6, gd, cut_eq, hcc, if_neg (show ¬ nI d < nI d + 30 * 0 by
      have : nI d + 30 * 0 = nI d := by grind
      rw [this]
      exact Int32.lt_irrefl)]
    have a1 : (0 : Int32) + 1 = 1 := by decide
    have a2 : (0 : Int32) + cc = cc := by grind
    rw [a1, a2]
  rw [eB]
  have hT : tkR v (tk (tkp (tkp G (cn + 1) 3 1) (cn + 1) 2 cc) (cn + 1)) := by
    rw [tk_upd, tk_upd, hGt, hv']
    exact tkR_new hz0
  have hcn : (am * rr + 999) / 1000 ≤ 2000000 := by
    have := Nat.mul_le_mul (show am ≤ 10000000 by omega) er3
    omega
  have ecc : cc = nI ((am * rr + 999) / 1000) := by rw [← hcc]; exact cut_n (by omega) (by omega)
  have hb1 : (1 : Nat) = bgN d d := by unfold bgN; rw [if_neg (Nat.lt_irrefl _), Nat.sub_self]
  have hI : tI d v := by
    rw [hv']
    refine ⟨⟨d, 1, am, rr, (am * rr + 999) / 1000, rfl, rfl, rfl, rfl, ecc, by omega, fun _ => hb1, by omega, am2, by omega, er3, by omega⟩, Or.inl rfl, ⟨0, rfl, by omega, fun z => absurd z (by omega), Or.inl rfl, fun _ => ⟨rfl, rfl⟩⟩, Or.inl rfl, ⟨(pl (tN place)).1, rfl, k2⟩, ⟨tN place, epl, hp⟩, ⟨0, rfl, by omega⟩⟩
  refine ⟨cn + 1, vsW vs cn v, rc + 1, by omega, Or.inr ⟨rfl, v, rfl, rfl⟩, rfl, ?_, ?_, rfl⟩
  · have z := h.2.2.2.2.2.1.1
    refine HR_new (F' := zR (tkp (tkp G (cn + 1) 3 1) (cn + 1) 2 cc) (nI (cn + 1))) (p := tN place) h (by omega) hrc hp c1 hs ?_ ?_ ?_ rfl rfl rfl rfl ?_ ?_ ?_ (fun j hj => ?_) ?_ (fun n hn k hk => ?_) (fun q k hk hqk => ?_) ?_ hT hI ?_ ?_ ?_ ?_ (fun j hj => ?_) ?_ ?_ ?_ ?_ ?_ ?_ ?_ (fun day => ?_)
    · exact gh_ghp_ne (by decide)
    · exact (gh_ghp_ne (by decide)).trans (gh_gop.trans gh_ghp_eq)
    · exact gh_ghp_eq.trans (cB_n hrc)
    · exact gd.trans h.1.2.1.symm
    · show zh G 1 = _
      rw [← hG]
      show upd (upd (zh F) 1 (nI (cn + 1))) 2 HH 1 = nI (cn + 1)
      rw [upd_ne (by decide), upd_eq]
    · show zh G 2 = _
      rw [← hG, hv']
      show upd (upd (zh F) 1 (nI (cn + 1))) 2 HH 2 = HH
      exact upd_eq
    · show zh G (3 + j) = _
      rw [← hG]
      show upd (upd (zh F) 1 (nI (cn + 1))) 2 HH (3 + j) = zh F (3 + j)
      rw [upd_ne (by omega), upd_ne (by omega)]
    · show ze G = _
      rw [← hG]
      rfl
    · show tk (tkp (tkp G (cn + 1) 3 1) (cn + 1) 2 cc) n k = _
      rw [tk_no hn hk (by decide), tk_no hn hk (by decide), ← hG]
      show tk (tkp (tkp (tkp (tkp (tkp (tkp (tkp (tkp (tkp (tkp (tkp (zhp F 1 (nI (cn + 1))) (cn + 1) 1 (nI am)) (cn + 1) 4 (nI d)) (cn + 1) 5 months) (cn + 1) 6 (nI rr)) (cn + 1) 8 (-1)) (cn + 1) 15 place) (cn + 1) 16 (-1)) (cn + 1) 17 HH) (cn + 1) 18 (-1)) (cn + 1) 19 (nI (pl (tN place)).1)) (cn + 1) 20 (-1)) n k = _
      iterate 11 rw [tk_no hn hk (by decide)]
      rfl
    · show sh G q k = _
      rw [← hG]
      rcases hqk with a | a
      · exact sh_no a hk (by decide)
      · by_cases y : q = tN place
        · subst y; exact sh_ne a
        · exact sh_no y hk (by decide)
    · show sh G (tN place) 1 = _
      rw [← hG]
      exact sh_eq
    · rw [hv']; rfl
    · rw [hv']; rfl
    · rw [hv']; exact epl
    · rw [hv']; rfl
    · simp only [rwp_i (show j ≠ rc by omega), rb_i (show j ≠ rc by omega)]
    · simp [rwp_at, rb_20, gh_ghp_ne, gh_gop, gh_gtp]
    · show _ = zc G 0 ∧ _ = zc G 1 ∧ _ = zc G 2 ∧ _ = zc G 3 ∧ _ = zc G 4 ∧ _ = zc G 5 ∧ _ = zc G 6
      rw [← hG]
      refine ⟨?_, ?_, ?_, ?_, ?_, ?_, ?_⟩
      · simp [rwp_at, rb_t]; rw [z.1]; rfl
      · simp [rwp_at, rb_t]; exact z.2.1
      · simp [rwp_at, rb_t]; exact z.2.2.1
      · simp [rwp_at, rb_t]; exact z.2.2.2.1
      · simp [rwp_at, rb_t]; exact z.2.2.2.2.1
      · simp [rwp_at, rb_t]; exact z.2.2.2.2.2.1
      · simp [rwp_at, rb_t]; exact z.2.2.2.2.2.2
    · have : v 1 = nI am := by rw [hv']; rfl
      rw [this, nI_l am1]
      simp [rwp_at, rb_t]
    · simp [rwp_at, rb_t]
    · simp [rwp_at, rb_t]
    · simp [rwp_at, rb_t]
    · simp [rwp_at, rb_t]
      grind
    · rw [gF_w (o := 17) (v := v) (by simp [rwp_at]) (by simp [rwp_at, sc_X7_growth]) (by simp [rwp_at, sc_X7_growth]), gF_z (o := 14) (by simp [rwp_at, rb_z]) (by simp [rwp_at, rb_z])]
      grind
  · show sameK F G
    rw [← hG]
    exact kk_id
end RLN
