/-! a ticket ends: its place is emptied -/
theorem clr_z {Z : mZ} {n : Nat} : ∀ i, zh (clr Z n i) = zh Z ∧ zt (clr Z n i) = zt Z ∧ zc (clr Z n i) = zc Z ∧ ze (clr Z n i) = ze Z ∧ sameK Z (clr Z n i)
  | 0 => ⟨rfl, rfl, rfl, rfl, kk_id⟩
  | i + 1 => clr_z i
theorem sh_no {Z : mZ} {n m k j : Nat} {v : Int32} (h : m ≠ n) (hk : k < 16) (hj : j < 16) : sh (shp Z n j v) m k = sh Z m k := if_neg (fun e => h (by omega))
theorem clr_no {Z : mZ} {n m k : Nat} (h : m ≠ n) (hk : k < 16) : ∀ i, i ≤ 16 → sh (clr Z n i) m k = sh Z m k
  | 0, _ => rfl
  | i + 1, hi => (sh_no h hk (by omega)).trans (clr_no h hk i (by omega))
theorem comes_z {Z : mZ} {p kind : Int32} : zh (sp_comes Z p kind) = zh Z ∧ zt (sp_comes Z p kind) = zt Z ∧ zc (sp_comes Z p kind) = zc Z ∧ ze (sp_comes Z p kind) = ze Z ∧ sameK Z (sp_comes Z p kind) := by
  unfold sp_comes
  have h := clr_z (Z := Z) (n := tN p) 16
  generalize clr Z (tN p) 16 = G at *
  exact ⟨h.1, h.2.1, h.2.2.1, h.2.2.2.1, sameK_tr h.2.2.2.2 ⟨rfl, rfl, rfl, rfl, rfl, rfl⟩⟩
theorem comes_no {Z : mZ} {p kind : Int32} {m k : Nat} (h : m ≠ tN p) (hk : k < 16) : sh (sp_comes Z p kind) m k = sh Z m k := (sh_no h hk (by decide)).trans ((sh_no h hk (by decide)).trans (clr_no h hk 16 (Nat.le_refl _)))
theorem comes_5 {Z : mZ} {p kind : Int32} {n : Nat} (hn : n = tN p) : sh (sp_comes Z p kind) n 5 = zh Z 0 := by
  subst hn
  exact sh_eq
/-- what a place is like when something comes or leaves -/
def CF (F : mZ) (place kd : Int32) (G : mZ) : Prop := (zh G = zh F ∧ zt G = zt F ∧ zc G = zc F ∧ ze G = ze F ∧ sameK F G) ∧ sh G (tN place) 0 = kd ∧ sh G (tN place) 5 = zh F 0 ∧ (∀ k, k ≠ 0 → k ≠ 5 → k < 16 → sh G (tN place) k = 0) ∧ ∀ q k, q ≠ tN place → k < 16 → sh G q k = sh F q k
theorem comes_f {F : mZ} {place kd : Int32} : CF F place kd (sp_comes F place kd) := ⟨comes_z, sh_comes0 rfl, comes_5 rfl, fun k a b c => sh_comes a b c rfl, fun q k a b => comes_no a b⟩
theorem leaves_f {F : mZ} {place : Int32} : CF F place (-1) (sp_leaves F place) := comes_f
theorem shR_k {d : Nat} {o : Option Nat} {bx on : Int32} {P : pZ} {w w' : Nat → Int32} (h : shR d o bx on P w) (hw : ∀ k, k < 16 → w' k = w k) : shR d o bx on P w' := by
  unfold shR plR at h ⊢
  rw [hw 0 (by decide), hw 1 (by decide), hw 2 (by decide), hw 3 (by decide), hw 4 (by decide), hw 5 (by decide), hw 6 (by decide), hw 7 (by decide), hw 8 (by decide)]
  refine ⟨h.1, ?_⟩
  have h2 := h.2
  cases o with
  | none => exact ⟨h2.1, h2.2.1, fun k k1 k2 k3 => by rw [hw k k2]; exact h2.2.2 k k1 k2 k3⟩
  | some q =>
    refine ⟨h2.1, h2.2.1, ?_⟩
    have h3 := h2.2.2
    revert h3
    split
    · exact id
    · exact id
    · exact fun h3 => ⟨h3.1, h3.2.1, h3.2.2.1, h3.2.2.2.1, fun k hk => by rw [hw (9 + k) (by omega)]; exact h3.2.2.2.2 k hk⟩
    · exact id
    · exact id
    · exact id
/-- an empty place -/
theorem shR_e {d : Nat} {P : pZ} {F G : mZ} {p : Int32} {n : Nat} (hn : n = tN p) (hG : CF F p (-1) G) : shR d none 0 0 P (sh G n) := by
  subst hn
  exact ⟨hG.2.2.2.1 1 (by decide) (by decide) (by decide), rfl, Or.inl ⟨rfl, hG.2.1⟩, fun k k1 k2 k3 => hG.2.2.2.1 k (by omega) k3 k2⟩
section RE
variable {Z : hZ} {vs : Nat → Nat → Int32} {pl : Nat → pZ} {RW : Nat → Nat → Int64} {cn rc d i : Nat} {F : mZ}
theorem HR.onp (h : HR Z vs pl RW cn rc d F) (hi : i < cn) (ho : vs i 0 = 0) {p : Nat} (hp : p < 40) (e : vs i 15 = nI p) : gp Z p ≠ none ∧ go Z p = nI (i + 1) ∧ vs i 19 = nI (pl p).1 ∧ gb Z p = 0 := by
  obtain ⟨q, q1, q2, q3, q4, q5⟩ := h.2.2.2.2.1.1 i hi ho
  have : p = q := (nI_eq (by omega) (by omega)).mp (e.symm.trans q2)
  subst this
  refine ⟨q3, q4, q5, ?_⟩
  have h4 := (h.2.2.2.1 p hp).2
  cases e2 : gp Z p with
  | none => exact absurd e2 q3
  | some r => rw [e2] at h4; exact h4.1
theorem rC4_end (h : HR Z vs pl RW cn rc d F) (hi : i < cn) (ho : vs i 0 = 0) {p : Nat} (hp : p < 40) (e : vs i 15 = nI p) {F1 G : mZ} (hs : zs F1 = zs F) {x : Int32} (hG : CF F1 (nI p) (-1) G) : rC4 (gop (gpp (ghp Z 2 x) p none) p 0) pl d G := fun q hq => by
  have ht : tN (nI p) = p := tN_n (by omega)
  by_cases z : q = p
  · subst z
    rw [gp_gop, gp_gpp_eq, gb_gop, gb_gpp, gb_ghp, go_gop_eq, (h.onp hi ho hp e).2.2.2]
    exact shR_e ht.symm hG
  · rw [gp_gop, gp_gpp_ne z, gb_gop, gb_gpp, gb_ghp, go_gop_ne z, go_gpp, gp_ghp, go_ghp]
    refine shR_k (h.2.2.2.1 q hq) (fun k hk => ?_)
    rw [hG.2.2.2.2 q k (by rw [ht]; exact z) hk]
    show zs F1 _ = zs F _
    rw [hs]
theorem rC6_end (h : HR Z vs pl RW cn rc d F) (hi : i < cn) (ho : vs i 0 = 0) {p : Nat} (hp : p < 40) (e : vs i 15 = nI p) {v : Nat → Int32} (hv : ¬ v 0 = 0) {x : Int32} : rC6 (gop (gpp (ghp Z 2 x) p none) p 0) (vsW vs i v) pl cn := by
  have hc := h.1.2.2.2.2.2.1
  have hp2 := (h.onp hi ho hp e).2.1
  refine ⟨fun j hj h0 => ?_, fun q hq => ?_⟩
  · by_cases z : j = i
    · rw [z, vsW_eq] at h0; exact absurd h0 hv
    · rw [vsW_ne z] at h0 ⊢
      obtain ⟨q, q1, q2, q3, q4, q5⟩ := h.2.2.2.2.1.1 j hj h0
      have z2 : q ≠ p := fun y => by
        subst y
        exact z (by have := (nI_eq (by omega) (by omega)).mp (q4.symm.trans hp2); omega)
      exact ⟨q, q1, q2, by rw [gp_gop, gp_gpp_ne z2, gp_ghp]; exact q3, by rw [go_gop_ne z2, go_gpp, go_ghp]; exact q4, q5⟩
  · by_cases z : q = p
    · subst z; exact Or.inl go_gop_eq
    · rw [go_gop_ne z, go_gpp, go_ghp]
      rcases h.2.2.2.2.1.2 q hq with y | ⟨j, j1, j2, j3, j4⟩
      · exact Or.inl y
      · refine Or.inr ⟨j, j1, j2, ?_⟩
        have z2 : j ≠ i := fun y => by
          subst y
          exact z ((nI_eq (by omega) (by omega)).mp (j4.symm.trans e))
        rw [vsW_ne z2]
        exact ⟨j3, j4⟩
theorem plS_end {Z Z' : hZ} {p : Nat} (h0 : gp Z p ≠ none) (h1 : gp Z' p = none) (h2 : ∀ q, q ≠ p → gp Z' q = gp Z q) : ∀ n, plS Z' n = if p < n then plS Z n - 1 else plS Z n
  | 0 => by rw [if_neg (Nat.not_lt_zero p)]; rfl
  | n + 1 => by
    unfold plS
    rw [plS_end h0 h1 h2 n]
    by_cases e : n = p
    · subst e
      rw [if_pos h1, if_neg h0, if_neg (Nat.lt_irrefl _), if_pos (Nat.lt_succ_self _)]
      grind
    · rw [h2 n e]
      by_cases c : p < n
      · rw [if_pos c, if_pos (show p < n + 1 by omega)]
        by_cases y : gp Z n = none
        · rw [if_pos y, if_pos y]
        · rw [if_neg y, if_neg y]; grind
      · rw [if_neg c, if_neg (show ¬ p < n + 1 by omega)]
theorem plS_e (h : HR Z vs pl RW cn rc d F) {p : Nat} (hp : p < 40) (h0 : gp Z p ≠ none) {x : Int32} {o : Int32} : plS (gop (gpp (ghp Z 2 x) p none) p o) 40 = tot RW rc 11 - 1 := by
  rw [plS_end (Z := Z) (p := p) h0 (by rw [gp_gop, gp_gpp_eq]) (fun q hq => by rw [gp_gop, gp_gpp_ne hq, gp_ghp]) 40, if_pos hp, h.2.2.2.2.2.1.2.2.2.1]
theorem isp_0 {p : Nat} (hp : p < 40) : ¬ sc_X3_isPlace (nI p) = 0 := by
  unfold sc_X3_isPlace
  rw [if_neg (nI_pos (by omega)), if_neg (show ¬ (40 : Int32) ≤ nI p from fun z => absurd ((nI_leI (a := 40) (b := p) (by omega) (by omega)).mp z) (by omega))]
  decide
theorem endT_eq {nm : Int32} {v : Nat → Int32} {p : Nat} (hp : p < 40) (e : v 15 = nI p) {st : Int32} : sc_X3_endTicket nm v Z RW rc st = (upd v 0 st, gop (gpp (ghp Z 2 (sc_X0_countBehind (sc_X0_rowBehind RW rc (gh Z 0)) (nI rc))) p none) p 0, rwp (rwp (rwp (sc_X0_writeGrowing nm v (sc_X0_rowBehind RW rc (gh Z 0)) rc 14).2 rc 8 ((sc_X0_writeGrowing nm v (sc_X0_rowBehind RW rc (gh Z 0)) rc 14).2 rc 8 - (v 1).toInt64)) rc 10 ((sc_X0_writeGrowing nm v (sc_X0_rowBehind RW rc (gh Z 0)) rc 14).2 rc 10 - 1)) rc 11 ((sc_X0_writeGrowing nm v (sc_X0_rowBehind RW rc (gh Z 0)) rc 14).2 rc 11 - 1)) := by
  have e1 : ¬ sc_X3_isPlace ((sc_X0_writeGrowing nm v (sc_X3_addRow Z RW rc).2 rc 14).1 15) = 0 := by
    show ¬ sc_X3_isPlace (v 15) = 0
    rw [e]
    exact isp_0 hp
  have e2 : tN ((sc_X0_writeGrowing nm v (sc_X3_addRow Z RW rc).2 rc 14).1 15) = p := by
    show tN (v 15) = p
    rw [e]
    exact tN_n (by omega)
  unfold sc_X3_endTicket
  rw [if_neg e1, e2]
  rfl
/-- the state behind an ending -/
theorem HR_en (h : HR Z vs pl RW cn rc d F) (hi : i < cn) (hrc : rc ≤ 511) (ho : vs i 0 = 0) {p : Nat} (hp : p < 40) (e15 : vs i 15 = nI p) {v : Nat → Int32} {st : Int32} (hst : ¬ st = 0) {F1 : mZ} {RW' : Nat → Nat → Int64} {a : Int32}
    (hv : ∀ k, k = 1 ∨ k = 2 ∨ k = 3 ∨ k = 4 ∨ k = 6 ∨ k = 15 ∨ k = 17 → v k = vs i k) (hT : tkR v (tk F1 (i + 1))) (hI : tI d (upd v 0 st)) (e1 : zh F1 = zh F) (e2 : zs F1 = zs F) (e4 : ze F1 = ze F) (e5 : ∀ n, n ≠ i + 1 → ∀ k, k < 32 → tk F1 n k = tk F n k)
    (hl : ∀ i, i < rc → RW' i = RW i) (h20 : RW' rc 20 = (gh Z 0).toInt64) (hz : RW' rc 0 = zc F1 0 ∧ RW' rc 1 = zc F1 1 ∧ RW' rc 2 = zc F1 2 ∧ RW' rc 3 = zc F1 3 ∧ RW' rc 5 = zc F1 4 ∧ RW' rc 7 = zc F1 5 ∧ RW' rc 13 = zc F1 6)
    (t8 : RW' rc 8 = tot RW rc 8 - (vs i 1).toInt64) (t10 : RW' rc 10 = tot RW rc 10 - 1) (t11 : RW' rc 11 = tot RW rc 11 - 1) (t12 : RW' rc 12 = tot RW rc 12) (t0 : RW' rc 2 + RW' rc 13 + RW' rc 8 - RW' rc 0 = tot RW rc 2 + tot RW rc 13 + tot RW rc 8 - tot RW rc 0)
    (g0 : RW' rc 14 = (vs i 4).toInt64 ∧ RW' rc 15 = (sc_X11_cutUp (vs i 1) (vs i 6)).toInt64 ∧ RW' rc 16 = (vs i 2).toInt64 - (sc_X11_cutUp (vs i 1) (vs i 6)).toInt64 * (vs i 3).toInt64) (g1 : RW' rc 18 = 0 ∧ RW' rc 19 = 0)
    (hov : ∀ y, y < d → ∀ k, ovN (vsW vs i (upd v 0 st)) (nI y) k cn = ovN vs (nI y) k cn) :
    HR (gop (gpp (ghp Z 2 (sc_X0_countBehind (sc_X0_rowBehind RW rc (gh Z 0)) (nI rc))) p none) p 0) (vsW vs i (upd v 0 st)) pl RW' cn (rc + 1) d (zR (sp_closes F1 (nI (i + 1)) st) a) ∧ tkR (upd v 0 st) (tk (sp_closes F1 (nI (i + 1)) st) (i + 1)) := by
  have hon := h.onp hi ho hp e15
  have e15' : tk F1 (tN (nI (i + 1))) 15 = nI p := by rw [h.tn hi, hT.1 15 (by decide) (by decide) (by decide), hv 15 (by decide), e15]
  have ec : sp_closes F1 (nI (i + 1)) st = sp_leaves (tkp F1 (i + 1) 0 st) (nI p) := by unfold sp_closes; rw [e15', h.tn hi]
  rw [ec]
  have hG := leaves_f (F := tkp F1 (i + 1) 0 st) (place := nI p)
  generalize sp_leaves (tkp F1 (i + 1) 0 st) (nI p) = G at hG ⊢
  have hc := hG.1
  have etk : ∀ n, tk G n = tk (tkp F1 (i + 1) 0 st) n := fun n => funext fun k => by
    show zt G _ = zt (tkp F1 (i + 1) 0 st) _
    rw [hc.2.1]
  have hT2 : tkR (upd v 0 st) (tk G (i + 1)) := by
    rw [etk, tk_upd]
    exact tkR_upd hT (by decide) (by decide) (by decide)
  refine ⟨?_, hT2⟩
  have hst2 : ¬ upd v 0 st 0 = 0 := by rw [upd_eq]; exact hst
  refine HR_tr (F' := zR G a) h hi hrc (by rw [gh_gop, gh_gpp, gh_ghp_ne (by decide)]) (by rw [gh_gop, gh_gpp, gh_ghp_ne (by decide)]) (by rw [gh_gop, gh_gpp, gh_ghp_eq, cB_n hrc]) rfl (hc.1.trans e1) (hc.2.2.2.1.trans e4) (fun n hn k hk => ?_) hT2 hI ((upd_ne (by decide)).trans (hv 17 (by decide))) (rC4_end h hi ho hp e15 (F1 := tkp F1 (i + 1) 0 st) e2 hG) (rC6_end h hi ho hp e15 hst2) hl h20 ?_ ?_ ?_ ?_ t12 t0 (fun day => ?_) hov
  · show tk G n k = _
    rw [etk, tk_no hn hk (by decide)]
    exact e5 n hn k hk
  · show _ = zc G 0 ∧ _ = zc G 1 ∧ _ = zc G 2 ∧ _ = zc G 3 ∧ _ = zc G 4 ∧ _ = zc G 5 ∧ _ = zc G 6
    rw [hc.2.2.1]
    exact hz
  · rw [if_pos ho, if_neg hst2, Int64.add_zero]; exact t8
  · rw [if_pos ho, if_neg hst2, Int64.add_zero]; exact t10
  · rw [plS_e h hp hon.1]; exact t11
  · rw [if_pos ho, if_neg hst2, gF_z (o := 17) g1.1 g1.2, gF_w (o := 14) g0.1 g0.2.1 g0.2.2]
end RE
