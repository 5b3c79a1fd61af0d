/-! places: one place changed -/
def plW (pl : Nat → pZ) (p : Nat) (P : pZ) : Nat → pZ := fun j => if j = p then P else pl j
theorem plW_eq {pl : Nat → pZ} {p : Nat} {P : pZ} : plW pl p P p = P := if_pos rfl
theorem plW_ne {pl : Nat → pZ} {p j : Nat} {P : pZ} (h : j ≠ p) : plW pl p P j = pl j := if_neg h
def plO (pl : Nat → pZ) (p : Nat) : Option pZ → Nat → pZ
  | none => pl
  | some P => plW pl p P
section RS
variable {Z Z' : hZ} {vs : Nat → Nat → Int32} {pl : Nat → pZ} {RW RW' : Nat → Nat → Int64} {cn rc d i p : Nat} {F F' : mZ} {P : pZ}
/-- the kinds of pledges there are -/
theorem plR_k {w : Nat → Int32} (h : plR d P w) : P.1 ≤ 4 := by
  unfold plR at h
  match e : P.1, h with
  | 0, _ => omega
  | 1, _ => omega
  | 2, _ => omega
  | 3, _ => omega
  | 4, _ => omega
  | n + 5, h => exact False.elim h
theorem rC4_p (h : rC4 Z pl d F) (h1 : ∀ q, q ≠ p → gp Z' q = gp Z q ∧ gb Z' q = gb Z q ∧ go Z' q = go Z q) (h2 : ∀ q, q ≠ p → ∀ k, k < 16 → sh F' q k = sh F q k) (h3 : shR d (gp Z' p) (gb Z' p) (go Z' p) P (sh F' p)) : rC4 Z' (plW pl p P) d F' := fun q hq => by
  by_cases z : q = p
  · subst z; rw [plW_eq]; exact h3
  · rw [plW_ne z, (h1 q z).1, (h1 q z).2.1, (h1 q z).2.2]
    exact shR_k (h q hq) (h2 q z)
theorem rC6_p (h : rC6 Z vs pl cn) (h1 : ∀ q, q ≠ p → gp Z' q = gp Z q) (h2 : go Z' = go Z) (h3 : go Z p = 0 ∨ (gp Z' p ≠ none ∧ P.1 = (pl p).1)) (hc : cn ≤ 511) : rC6 Z' vs (plW pl p P) cn := by
  refine ⟨fun j hj h0 => ?_, fun q hq => ?_⟩
  · obtain ⟨q, q1, q2, q3, q4, q5⟩ := h.1 j hj h0
    refine ⟨q, q1, q2, ?_, by rw [h2]; exact q4, ?_⟩
    · by_cases z : q = p
      · subst z
        rcases h3 with a | a
        · rw [a] at q4; exact absurd q4.symm (nI_ne0 (by omega) (by omega))
        · exact a.1
      · rw [h1 q z]; exact q3
    · by_cases z : q = p
      · subst z
        rcases h3 with a | a
        · rw [a] at q4; exact absurd q4.symm (nI_ne0 (by omega) (by omega))
        · rw [plW_eq, a.2]; exact q5
      · rw [plW_ne z]; exact q5
  · rw [h2]
    exact h.2 q hq
/-- a place changed, no row -/
theorem HR_sh (h : HR Z vs pl RW cn rc d F) (g0 : gh Z' = gh Z) (g3 : gr Z' = gr Z) (g4 : go Z' = go Z) (h1 : ∀ q, q ≠ p → gp Z' q = gp Z q ∧ gb Z' q = gb Z q) (hn : gp Z' p = none ↔ gp Z p = none) (hk : go Z p = 0 ∨ (gp Z' p ≠ none ∧ P.1 = (pl p).1)) (e1 : zh F' = zh F) (e2 : zt F' = zt F) (e3 : zc F' = zc F) (e4 : ze F' = ze F) (h2 : ∀ q, q ≠ p → ∀ k, k < 16 → sh F' q k = sh F q k) (h3 : shR d (gp Z' p) (gb Z' p) (go Z' p) P (sh F' p)) : HR Z' vs (plW pl p P) RW cn rc d F' := by
  obtain ⟨q1, q2, q3, q4, q6, q7, q8, q9⟩ := h
  have et : ∀ n, tk F' n = tk F n := fun n => funext fun k => by show zt F' _ = zt F _; rw [e2]
  refine ⟨?_, ?_, ?_, rC4_p q4 (fun q hq => ⟨(h1 q hq).1, (h1 q hq).2, by rw [g4]⟩) h2 h3, rC6_p q6 (fun q hq => (h1 q hq).1) g4 hk q1.2.2.2.2.2.1, ?_, q8, ?_⟩
  · unfold rC1; rw [g0, e1]; exact q1
  · intro j hj; rw [g3, e1]; exact q2 j hj
  · refine ⟨fun j hj => ?_, fun n n1 n2 k hk => ?_⟩
    · rw [et]; exact q3.1 j hj
    · rw [et]; exact q3.2 n n1 n2 k hk
  · have ep : plS Z' 40 = plS Z 40 := by
      have : ∀ n, plS Z' n = plS Z n := fun n => by
        induction n with
        | zero => rfl
        | succ n ih =>
          unfold plS
          rw [ih]
          by_cases z : n = p
          · subst z
            by_cases y : gp Z n = none
            · rw [if_pos y, if_pos (hn.mpr y)]
            · rw [if_neg y, if_neg (fun a => y (hn.mp a))]
          · rw [(h1 n z).1]
      exact this 40
    unfold rC7
    rw [ep, e3]
    exact q7
  · intro y hy w hw
    rw [e4, ← q9 y hy w hw]
    unfold sc_X3_sumOn sc_X3_oversOn
    rw [g0]
/-- a place changed, with a row -/
theorem HR_sr (h : HR Z vs pl RW cn rc d F) (hrc : rc ≤ 511) (g0 : gh Z' 0 = gh Z 0) (g1 : gh Z' 1 = gh Z 1) (g2 : gh Z' 2 = nI (rc + 1)) (g3 : gr Z' = gr Z) (g4 : go Z' = go Z) (h1 : ∀ q, q ≠ p → gp Z' q = gp Z q ∧ gb Z' q = gb Z q) (hk : go Z p = 0) (e1 : zh F' = zh F) (e2 : zt F' = zt F) (e3 : zc F' = zc F) (e4 : ze F' = ze F) (h2 : ∀ q, q ≠ p → ∀ k, k < 16 → sh F' q k = sh F q k) (h3 : shR d (gp Z' p) (gb Z' p) (go Z' p) P (sh F' p))
    (hl : ∀ i, i < rc → RW' i = RW i) (h20 : RW' rc 20 = (gh Z 0).toInt64) (ht : ∀ j, j < 14 → j ≠ 11 → RW' rc j = tot RW rc j) (h11 : RW' rc 11 = plS Z' 40) (hz : ∀ j, 14 ≤ j → j < 20 → RW' rc j = 0) : HR Z' vs (plW pl p P) RW' cn (rc + 1) d F' := by
  obtain ⟨q1, q2, q3, q4, q6, q7, q8, q9⟩ := h
  have hd := q1.2.2.1
  have et : ∀ n, tk F' n = tk F n := fun n => funext fun k => by show zt F' _ = zt F _; rw [e2]
  have h20' : RW' rc 20 = lN d := by rw [h20, q1.1, nI_l (by omega)]
  refine ⟨?_, ?_, ?_, rC4_p q4 (fun q hq => ⟨(h1 q hq).1, (h1 q hq).2, by rw [g4]⟩) h2 h3, rC6_p q6 (fun q hq => (h1 q hq).1) g4 (Or.inl hk) q1.2.2.2.2.2.1, ?_, ?_, ?_⟩
  · exact ⟨g0.trans q1.1, by rw [e1]; exact q1.2.1, hd, g1.trans q1.2.2.2.1, by rw [e1]; exact q1.2.2.2.2.1, q1.2.2.2.2.2.1, g2, by rw [e1]; exact q1.2.2.2.2.2.2.2⟩
  · intro j hj; rw [g3, e1]; exact q2 j hj
  · refine ⟨fun j hj => ?_, fun n n1 n2 k hk => ?_⟩
    · rw [et]; exact q3.1 j hj
    · rw [et]; exact q3.2 n n1 n2 k hk
  · unfold rC7
    simp only [tot_s]
    rw [ht 0 (by decide) (by decide), ht 1 (by decide) (by decide), ht 2 (by decide) (by decide), ht 3 (by decide) (by decide), ht 5 (by decide) (by decide), ht 7 (by decide) (by decide), ht 8 (by decide) (by decide), ht 10 (by decide) (by decide), ht 12 (by decide) (by decide), ht 13 (by decide) (by decide), e3]
    exact ⟨q7.1, q7.2.1, q7.2.2.1, h11, q7.2.2.2.2.1, q7.2.2.2.2.2⟩
  · refine rC8_row q8 hl h20' (fun day => ?_)
    rw [gF_z (o := 17) (hz 18 (by decide) (by decide)) (hz 19 (by decide) (by decide)), gF_z (o := 14) (hz 15 (by decide) (by decide)) (hz 16 (by decide) (by decide))]
    grind
  · exact rC9_row q9 e4 q1.1 (g0.trans q1.1) hd hrc hl h20' (fun _ _ _ => rfl)
theorem plS_new {p : Nat} (h0 : gp Z p = none) (h1 : gp Z' p ≠ none) (h2 : ∀ q, q ≠ p → gp Z' q = gp Z q) : ∀ n, plS Z' n = if p < n then plS Z n + 1 else plS Z n
  | 0 => by rw [if_neg (Nat.not_lt_zero p)]; rfl
  | n + 1 => by
    unfold plS
    rw [plS_new h0 h1 h2 n]
    by_cases e : n = p
    · subst e
      rw [if_neg h1, if_pos h0, if_neg (Nat.lt_irrefl _), if_pos (Nat.lt_succ_self _)]
    · rw [h2 n e]
      by_cases c : p < n
      · rw [if_pos c, if_pos (show p < n + 1 by omega)]
        by_cases y : gp Z n = none
        · rw [if_pos y, if_pos y]
        · rw [if_neg y, if_neg y]
      · rw [if_neg c, if_neg (show ¬ p < n + 1 by omega)]
theorem spP {x : Int32} : sp_isPlace x = sc_X3_isPlace x := rfl
theorem spV {x : Int32} : sp_isValue x = sc_X3_isValue x := rfl
theorem val_of {x : Int32} (h : ¬ sc_X3_isValue x = 0) : ∃ j : Nat, x = nI j ∧ 1 ≤ j ∧ j ≤ 1000000 := by
  unfold sc_X3_isValue at h
  by_cases c : x < 1
  · rw [if_pos c] at h; exact absurd rfl h
  · rw [if_neg c] at h
    obtain ⟨j, j1, j2, rfl⟩ := ge1_of c
    by_cases c2 : (1000000 : Int32) < nI j
    · rw [if_pos c2] at h; exact absurd rfl h
    · exact ⟨j, rfl, j2, Nat.not_lt.mp (fun z => c2 ((nI_ltI (a := 1000000) (b := j) (by omega) j1).mpr z))⟩
/-- what lies on a place -/
theorem HR.kind0 (h : HR Z vs pl RW cn rc d F) (hp : p < 40) : (gp Z p = none ∧ gb Z p = 0 ∧ sh F p 0 = -1 ∧ go Z p = 0) ∨ (gp Z p = none ∧ gb Z p = 1 ∧ sh F p 0 = 5 ∧ go Z p = 0) ∨ (gp Z p ≠ none ∧ gb Z p = 0 ∧ sh F p 0 = nI (pl p).1 ∧ (pl p).1 ≤ 4 ∧ plR d (pl p) (sh F p)) := by
  have q := (h.2.2.2.1 p hp).2
  cases e : gp Z p with
  | none =>
    rw [e] at q
    rcases q.2.1 with a | a
    · exact Or.inl ⟨rfl, a.1, a.2, q.1⟩
    · exact Or.inr (Or.inl ⟨rfl, a.1, a.2, q.1⟩)
  | some r =>
    rw [e] at q
    exact Or.inr (Or.inr ⟨by simp, q.1, q.2.1, plR_k q.2.2, q.2.2⟩)
theorem nI_m1n {k : Nat} (hk : k ≤ 5) : ¬ nI k = -1 := by
  have : k = 0 ∨ k = 1 ∨ k = 2 ∨ k = 3 ∨ k = 4 ∨ k = 5 := by omega
  rcases this with rfl | rfl | rfl | rfl | rfl | rfl <;> decide
theorem HR.bare (h : HR Z vs pl RW cn rc d F) (place : Int32) : sp_bare F place = sc_X3_whyNotTo Z place := by
  unfold sp_bare sc_X3_whyNotTo
  rw [spP]
  by_cases c : sc_X3_isPlace place = 0
  · rw [if_pos c, if_pos c]
  · rw [if_neg c, if_neg c]
    have hp := (pl_of c).2
    unfold sc_X3_isFree
    rcases h.kind0 hp with ⟨a, b, e, _⟩ | ⟨a, b, e, _⟩ | ⟨a, b, e, e2, _⟩
    · rw [e, a, b, if_pos rfl, if_pos rfl, if_pos rfl, if_neg (by decide)]
    · rw [e, a, b, if_neg (show ¬ (5 : Int32) = -1 by decide), if_pos (show (if (none : Option Nat) = none then (if (1 : Int32) = 0 then (1 : Int32) else 0) else 0) = 0 by decide)]
    · rw [e, if_neg (nI_m1n (by omega)), if_neg a, if_pos rfl]
theorem why_v (Z : hZ) (place : Int32) : (0 ≤ sc_X3_whyNotTo Z place) ↔ sc_X3_whyNotTo Z place = 0 := by
  unfold sc_X3_whyNotTo
  by_cases c : sc_X3_isPlace place = 0
  · rw [if_pos c]; decide
  · rw [if_neg c]
    by_cases c2 : sc_X3_isFree Z place = 0
    · rw [if_pos c2]; decide
    · rw [if_neg c2]; decide
theorem why_f (h : HR Z vs pl RW cn rc d F) {place : Int32} (c : sc_X3_whyNotTo Z place = 0) : place = nI (tN place) ∧ tN place < 40 ∧ gp Z (tN place) = none ∧ gb Z (tN place) = 0 ∧ go Z (tN place) = 0 := by
  unfold sc_X3_whyNotTo at c
  by_cases c1 : sc_X3_isPlace place = 0
  · rw [if_pos c1] at c; exact absurd c (by decide)
  rw [if_neg c1] at c
  have hp := pl_of c1
  refine ⟨hp.1, hp.2, ?_⟩
  by_cases c2 : sc_X3_isFree Z place = 0
  · rw [if_pos c2] at c; exact absurd c (by decide)
  unfold sc_X3_isFree at c2
  rcases h.kind0 hp.2 with ⟨a, b, e, e2⟩ | ⟨a, b, e, e2⟩ | ⟨a, b, e, e2, _⟩
  · exact ⟨a, b, e2⟩
  · rw [a, b, if_pos rfl, if_neg (by decide)] at c2; exact absurd rfl c2
  · rw [if_neg a] at c2; exact absurd rfl c2
/-- a pledge put down on a free place -/
theorem HR_put (h : HR Z vs pl RW cn rc d F) (hrc : rc ≤ 511) {place : Int32} (c : sc_X3_whyNotTo Z place = 0) {n : Nat → Nat} {P : pZ} {F' : mZ} (e1 : zh F' = zh F) (e2 : zt F' = zt F) (e3 : zc F' = zc F) (e4 : ze F' = ze F) (h2 : ∀ q, q ≠ tN place → ∀ k, k < 16 → sh F' q k = sh F q k) (w0 : sh F' (tN place) 0 = nI P.1) (w1 : sh F' (tN place) 1 = 0) (hw : plR d P (sh F' (tN place))) : HR (sc_X3_putDown Z RW n P rc place).1 vs (plW pl (tN place) P) (sc_X3_putDown Z RW n P rc place).2 cn (rc + 1) d F' := by
  obtain ⟨_, hp, a1, a2, a3⟩ := why_f h c
  unfold sc_X3_putDown
  simp only [sc_X3_addRow]
  refine HR_sr h hrc (by rw [gh_ghp_ne (by decide), gh_gpp]) (by rw [gh_ghp_ne (by decide), gh_gpp]) (by rw [gh_ghp_eq, cB_n hrc]) rfl rfl (fun q hq => ⟨by rw [gp_ghp, gp_gpp_ne hq], rfl⟩) a3 e1 e2 e3 e4 h2 ?_ (fun i hi => ?_) ?_ (fun j hj hj2 => ?_) ?_ (fun j hj hj2 => ?_)
  · rw [gp_ghp, gp_gpp_eq, gb_ghp, gb_gpp, go_ghp, go_gpp, a3]
    exact ⟨w1, a2, w0, hw⟩
  · simp only [rwp_i (show i ≠ rc by omega), rb_i (show i ≠ rc by omega)]
  · rw [rwp_at, if_neg (by decide), rb_20, gh_gpp]
  · rw [rwp_at, if_neg hj2, rb_t hj]
  · rw [rwp_at, if_pos rfl, rb_t (by decide), plS_new (Z := Z) (p := tN place) a1 (by rw [gp_ghp, gp_gpp_eq]; simp) (fun q hq => by rw [gp_ghp, gp_gpp_ne hq]) 40, if_pos hp, h.2.2.2.2.2.1.2.2.2.1]
  · rw [rwp_at, if_neg (by omega), rb_z hj hj2]
theorem AO_noR {a : Int32} (h : HR Z vs pl RW cn rc d F) : ∃ rc', (rc ≤ rc' ∧ rc' ≤ rc + 1) ∧ AO F (a, zR F a) a Z vs pl RW cn rc' d := ⟨rc, by omega, AO_no h⟩
theorem shp_z {F : mZ} {n k : Nat} {x : Int32} : zh (shp F n k x) = zh F ∧ zt (shp F n k x) = zt F ∧ zc (shp F n k x) = zc F ∧ ze (shp F n k x) = ze F ∧ sameK F (shp F n k x) := ⟨rfl, rfl, rfl, rfl, kk_id⟩
set_option maxHeartbeats 400000 in
theorem r_thing (h : HR Z vs pl RW cn rc d F) (hrc : rc ≤ 511) (n : Nat → Nat) (place value : Int32) : ∃ rc', (rc ≤ rc' ∧ rc' ≤ rc + 1) ∧ AO F (sp_thing F place value) (sc_X3_bringThing Z RW n rc place value).1 (sc_X3_bringThing Z RW n rc place value).2.1 vs (plO pl (tN place) (sc_X3_bringThing Z RW n rc place value).2.2.2) (sc_X3_bringThing Z RW n rc place value).2.2.1 cn rc' d := by
  unfold sp_thing sc_X3_bringThing
  rw [h.bare, spV]
  by_cases c0 : sc_X3_whyNotTo Z place = 0
  rotate_left
  · rw [if_neg (fun z => c0 ((why_v Z place).mp z)), if_neg c0]; exact AO_noR h
  rw [if_pos ((why_v Z place).mpr c0), if_pos c0]
  by_cases c1 : sc_X3_isValue value = 0
  · rw [if_pos c1, if_pos c1]; exact AO_noR h
  rw [if_neg c1, if_neg c1]
  obtain ⟨j, ej, j1, j2⟩ := val_of c1
  have hG := comes_f (F := F) (place := place) (kd := 0)
  generalize sp_comes F place 0 = G at hG ⊢
  have hc := hG.1
  refine ⟨rc + 1, by omega, rfl, HR_put (F' := zR (shp G (tN place) 2 value) 0) h hrc c0 hc.1 hc.2.1 hc.2.2.1 hc.2.2.2.1 (fun q hq k hk => ?_) ?_ ?_ ?_, hc.2.2.2.2, rfl⟩
  · exact (sh_no hq hk (by decide)).trans (hG.2.2.2.2 q k hq hk)
  · exact (sh_ne (by decide)).trans hG.2.1
  · exact (sh_ne (by decide)).trans (hG.2.2.2.1 _ (by decide) (by decide) (by decide))
  · exact ⟨sh_eq, (sh_ne (by decide)).trans (hG.2.2.2.1 _ (by decide) (by decide) (by decide)), (sh_ne (by decide)).trans (hG.2.2.2.1 _ (by decide) (by decide) (by decide)), j, ej, j2⟩
set_option maxHeartbeats 400000 in
theorem r_coat (h : HR Z vs pl RW cn rc d F) (hrc : rc ≤ 511) (n : Nat → Nat) (place value wear : Int32) : ∃ rc', (rc ≤ rc' ∧ rc' ≤ rc + 1) ∧ AO F (sp_coat F place value wear) (sc_X3_bringCoat Z RW n rc place value wear).1 (sc_X3_bringCoat Z RW n rc place value wear).2.1 vs (plO pl (tN place) (sc_X3_bringCoat Z RW n rc place value wear).2.2.2) (sc_X3_bringCoat Z RW n rc place value wear).2.2.1 cn rc' d := by
  unfold sp_coat sc_X3_bringCoat
  rw [h.bare, spV]
  by_cases c0 : sc_X3_whyNotTo Z place = 0
  rotate_left
  · rw [if_neg (fun z => c0 ((why_v Z place).mp z)), if_neg c0]; exact AO_noR h
  rw [if_pos ((why_v Z place).mpr c0), if_pos c0]
  by_cases c1 : sc_X3_isValue value = 0
  · rw [if_pos c1, if_pos c1]; exact AO_noR h
  rw [if_neg c1, if_neg c1]
  by_cases c2 : wear < 0
  · rw [if_pos c2, if_pos c2]; exact AO_noR h
  rw [if_neg c2, if_neg c2]
  by_cases c3 : wear ≤ 500
  rotate_left
  · rw [if_neg c3, if_neg c3]; exact AO_noR h
  rw [if_pos c3, if_pos c3]
  obtain ⟨j, ej, j1, j2⟩ := val_of c1
  obtain ⟨w, w2, ew⟩ := nI_of2 (n := 500) (by decide) c2 c3
  have hG := comes_f (F := F) (place := place) (kd := 3)
  generalize sp_comes F place 3 = G at hG ⊢
  have hc := hG.1
  refine ⟨rc + 1, by omega, rfl, HR_put (F' := zR (shp (shp G (tN place) 2 value) (tN place) 4 wear) 0) h hrc c0 hc.1 hc.2.1 hc.2.2.1 hc.2.2.2.1 (fun q hq k hk => ?_) ?_ ?_ ?_, hc.2.2.2.2, rfl⟩
  · exact (sh_no hq hk (by decide)).trans ((sh_no hq hk (by decide)).trans (hG.2.2.2.2 q k hq hk))
  · exact (sh_ne (by decide)).trans ((sh_ne (by decide)).trans hG.2.1)
  · exact (sh_ne (by decide)).trans ((sh_ne (by decide)).trans (hG.2.2.2.1 _ (by decide) (by decide) (by decide)))
  · exact ⟨(sh_ne (by decide)).trans sh_eq, sh_eq, (sh_ne (by decide)).trans ((sh_ne (by decide)).trans (hG.2.2.1.trans h.today.symm)), (sh_ne (by decide)).trans ((sh_ne (by decide)).trans (hG.2.2.2.1 _ (by decide) (by decide) (by decide))), (sh_ne (by decide)).trans ((sh_ne (by decide)).trans (hG.2.2.2.1 _ (by decide) (by decide) (by decide))), ⟨j, ej, j2⟩, ⟨w, ew, w2⟩, ⟨d, h.1.1, Nat.le_refl _⟩⟩
/-- a weight whose numbers are small -/
def WSM (w : UInt32) : Prop := WOK w ∧ ∃ x : Nat, FP.f2i (FP.fmul w 1120403456) = nI x ∧ x ≤ 1000000
theorem spW {w : UInt32} : sp_isWeight w = sc_X10_isWeight w := rfl
set_option maxHeartbeats 400000 in
theorem r_gold (h : HR Z vs pl RW cn rc d F) (hrc : rc ≤ 511) (n : Nat → Nat) (place : Int32) (weight : UInt32) (fine : Int32) (hW : ¬ sc_X10_isWeight weight = 0 → WSM weight) : ∃ rc', (rc ≤ rc' ∧ rc' ≤ rc + 1) ∧ AO F (sp_gold F place weight fine) (sc_X3_bringGold Z RW n rc place weight fine).1 (sc_X3_bringGold Z RW n rc place weight fine).2.1 vs (plO pl (tN place) (sc_X3_bringGold Z RW n rc place weight fine).2.2.2) (sc_X3_bringGold Z RW n rc place weight fine).2.2.1 cn rc' d := by
  unfold sp_gold sc_X3_bringGold
  rw [h.bare, spW]
  by_cases c0 : sc_X3_whyNotTo Z place = 0
  rotate_left
  · rw [if_neg (fun z => c0 ((why_v Z place).mp z)), if_neg c0]; exact AO_noR h
  rw [if_pos ((why_v Z place).mpr c0), if_pos c0]
  by_cases c1 : sc_X10_isWeight weight = 0
  · rw [if_pos c1, if_pos c1]; exact AO_noR h
  rw [if_neg c1, if_neg c1]
  by_cases c2 : fine < 1
  · rw [if_pos c2, if_pos c2]; exact AO_noR h
  rw [if_neg c2, if_neg c2]
  by_cases c3 : fine ≤ 1000
  rotate_left
  · rw [if_neg c3, if_neg c3]; exact AO_noR h
  rw [if_pos c3, if_pos c3]
  obtain ⟨w, w1, w2, ew⟩ := ge1_of c2
  have w3 : w ≤ 1000 := by rw [ew] at c3; exact (nI_leI (a := w) (b := 1000) w1 (by omega)).mp c3
  have hG := comes_f (F := F) (place := place) (kd := 1)
  generalize sp_comes F place 1 = G at hG ⊢
  have hc := hG.1
  refine ⟨rc + 1, by omega, rfl, HR_put (F' := zR (shp (sp_weighs G place weight) (tN place) 4 fine) _) h hrc c0 hc.1 hc.2.1 hc.2.2.1 hc.2.2.2.1 (fun q hq k hk => ?_) ?_ ?_ ?_, hc.2.2.2.2, rfl⟩
  · exact (sh_no hq hk (by decide)).trans ((sh_no hq hk (by decide)).trans ((sh_no hq hk (by decide)).trans (hG.2.2.2.2 q k hq hk)))
  · exact (sh_ne (by decide)).trans ((sh_ne (by decide)).trans ((sh_ne (by decide)).trans hG.2.1))
  · exact (sh_ne (by decide)).trans ((sh_ne (by decide)).trans ((sh_ne (by decide)).trans (hG.2.2.2.1 _ (by decide) (by decide) (by decide))))
  · exact ⟨(sh_ne (by decide)).trans ((sh_ne (by decide)).trans sh_eq), (sh_ne (by decide)).trans sh_eq, sh_eq, (hW c1).2, ⟨w, ew, w3⟩⟩
set_option maxHeartbeats 400000 in
theorem r_rare (h : HR Z vs pl RW cn rc d F) (hrc : rc ≤ 511) (n : Nat → Nat) (place : Int32) (weight : UInt32) (hW : ¬ sc_X10_isWeight weight = 0 → WSM weight) : ∃ rc', (rc ≤ rc' ∧ rc' ≤ rc + 1) ∧ AO F (sp_rare F place weight) (sc_X3_bringRare Z RW n rc place weight).1 (sc_X3_bringRare Z RW n rc place weight).2.1 vs (plO pl (tN place) (sc_X3_bringRare Z RW n rc place weight).2.2.2) (sc_X3_bringRare Z RW n rc place weight).2.2.1 cn rc' d := by
  unfold sp_rare sc_X3_bringRare
  rw [h.bare, spW]
  by_cases c0 : sc_X3_whyNotTo Z place = 0
  rotate_left
  · rw [if_neg (fun z => c0 ((why_v Z place).mp z)), if_neg c0]; exact AO_noR h
  rw [if_pos ((why_v Z place).mpr c0), if_pos c0]
  by_cases c1 : sc_X10_isWeight weight = 0
  · rw [if_pos c1, if_pos c1]; exact AO_noR h
  rw [if_neg c1, if_neg c1]
  have hG := comes_f (F := F) (place := place) (kd := 4)
  generalize sp_comes F place 4 = G at hG ⊢
  have hc := hG.1
  have k0 : ∀ k, k ≠ 0 → k ≠ 5 → k ≠ 6 → k ≠ 7 → k < 16 → sh (sp_weighs G place weight) (tN place) k = 0 := fun k a b c e f => (sh_ne e).trans ((sh_ne c).trans (hG.2.2.2.1 k a b f))
  refine ⟨rc + 1, by omega, rfl, HR_put (F' := zR (sp_weighs G place weight) _) h hrc c0 hc.1 hc.2.1 hc.2.2.1 hc.2.2.2.1 (fun q hq k hk => ?_) ?_ ?_ ?_, hc.2.2.2.2, rfl⟩
  · exact (sh_no hq hk (by decide)).trans ((sh_no hq hk (by decide)).trans (hG.2.2.2.2 q k hq hk))
  · exact (sh_ne (by decide)).trans ((sh_ne (by decide)).trans hG.2.1)
  · exact k0 1 (by decide) (by decide) (by decide) (by decide) (by decide)
  · exact ⟨(sh_ne (by decide)).trans sh_eq, sh_eq, k0 8 (by decide) (by decide) (by decide) (by decide) (by decide), k0 2 (by decide) (by decide) (by decide) (by decide) (by decide), k0 3 (by decide) (by decide) (by decide) (by decide) (by decide), rfl, rfl, (hW c1).1, ⟨0, rfl, by omega⟩, ⟨0, rfl, by omega⟩⟩
end RS
