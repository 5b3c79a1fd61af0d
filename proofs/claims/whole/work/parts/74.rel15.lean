/-! sums, rules, the check -/
section RSM
variable {Z Z' : hZ} {vs : Nat → Nat → Int32} {pl : Nat → pZ} {RW RW' : Nat → Nat → Int64} {cn rc d i p : Nat} {F F' : mZ} {P : pZ}
theorem r_lend_n (h : HR Z vs pl RW cn rc d F) (place amount months : Int32) (hs : gp Z (tN place) = none) : AO F (sp_lend F place amount months) (sc_X3_lendOn_n Z place amount months) Z vs pl RW cn rc d := by
  unfold sp_lend sc_X3_lendOn_n sc_X3_whyNotFreeOn
  rw [spP]
  by_cases c0 : sc_X3_isPlace place = 0
  · rw [if_pos c0, if_pos c0]; exact AO_no h
  rw [if_neg c0, if_neg c0, h.ispl (pl_of c0).2, if_pos hs, if_pos rfl, if_pos hs]
  exact AO_no h
theorem r_rule (h : HR Z vs pl RW cn rc d F) (rule v : Int32) : AO F (sp_rule F rule v) (sc_X3_setRule Z rule v).1 (sc_X3_setRule Z rule v).2 vs pl RW cn rc d := by
  unfold sp_rule sc_X3_setRule
  by_cases c0 : rule < 0
  · rw [if_pos c0, if_pos c0]; exact AO_no h
  rw [if_neg c0, if_neg c0]
  obtain ⟨j, hj, rfl⟩ := nI_of (x := rule) c0
  rw [tN_n hj]
  by_cases c1 : j < 14
  rotate_left
  · rw [if_neg (show ¬ nI j ≤ 13 from fun z => absurd ((nI_leI (b := 13) hj (by omega)).mp z) (by omega)), if_neg (show ¬ nI j < 14 from fun z => c1 ((nI_ltI (b := 14) hj (by omega)).mp z))]; exact AO_no h
  rw [if_pos (show nI j ≤ 13 from (nI_leI (b := 13) hj (by omega)).mpr (by omega)), if_pos (show nI j < 14 from (nI_ltI (b := 14) hj (by omega)).mpr c1)]
  by_cases c2 : v < tLEAST j
  · rw [if_pos c2, if_pos c2]; exact AO_no h
  rw [if_neg c2, if_neg c2]
  by_cases c3 : v ≤ tGREAT j
  rotate_left
  · rw [if_neg c3, if_neg c3]; exact AO_no h
  rw [if_pos c3, if_pos c3]
  have hgl : (0 : Int32) ≤ tLEAST j ∧ (0 : Int32) ≤ tGREAT j := by
    have : j = 0 ∨ j = 1 ∨ j = 2 ∨ j = 3 ∨ j = 4 ∨ j = 5 ∨ j = 6 ∨ j = 7 ∨ j = 8 ∨ j = 9 ∨ j = 10 ∨ j = 11 ∨ j = 12 ∨ j = 13 := by omega
    rcases this with rfl | rfl | rfl | rfl | rfl | rfl | rfl | rfl | rfl | rfl | rfl | rfl | rfl | rfl <;> decide
  have hv : ¬ v < 0 := fun z => c2 (by
    have := hgl.1
    rw [Int32.lt_iff_toInt_lt] at z ⊢
    rw [Int32.le_iff_toInt_le] at this
    have e0 : (0 : Int32).toInt = 0 := by decide
    omega)
  obtain ⟨x, hx, rfl⟩ := nI_of (x := v) hv
  obtain ⟨g, hg, eg⟩ := nI_of (x := tGREAT j) (fun z => by
    have := hgl.2
    rw [Int32.lt_iff_toInt_lt] at z
    rw [Int32.le_iff_toInt_le] at this
    have e0 : (0 : Int32).toInt = 0 := by decide
    omega)
  have hxg : x ≤ tN (tGREAT j) := by
    rw [eg, tN_n hg]
    rw [eg] at c3
    exact (nI_leI hx hg).mp c3
  refine ⟨rfl, ?_, ⟨rfl, rfl, rfl, rfl, rfl, rfl⟩, rfl⟩
  obtain ⟨q1, q2, q3, q4, q6, q7, q8, q9⟩ := h
  refine ⟨?_, fun k hk => ?_, q3, q4, q6, ?_, q8, ?_⟩
  · obtain ⟨a1, a2, a3, a4, a5, a6, a7, a8⟩ := q1
    refine ⟨a1, (zh_zhp_ne (by omega)).trans a2, a3, a4, (zh_zhp_ne (by omega)).trans a5, a6, a7, (zh_zhp_ne (by omega)).trans a8⟩
  · show gr (grp Z j (nI x)) k = zh (zhp F (3 + j) (nI x)) (3 + k) ∧ ∃ y : Nat, gr (grp Z j (nI x)) k = nI y ∧ y ≤ tN (tGREAT k)
    by_cases e : k = j
    · subst e
      rw [gr_grp_eq, zh_zhp_eq]
      exact ⟨rfl, x, rfl, hxg⟩
    · rw [gr_grp_ne e, zh_zhp_ne (by omega)]
      exact q2 k hk
  · have ep : plS (grp Z j (nI x)) 40 = plS Z 40 := plS_c 40 (fun _ _ => rfl)
    unfold rC7
    rw [ep]
    exact q7
  · intro y hy w hw
    exact q9 y hy w hw
/-- all rows are of days that have been -/
theorem up_all (h : HR Z vs pl RW cn rc d F) : upN RW (nI d) rc = rc := by
  have hd := h.1.2.2.1
  obtain ⟨dy, h1, _⟩ := h.2.2.2.2.2.2.1.2
  cases e : rc with
  | zero => rfl
  | succ n =>
    unfold upN
    have q := h1 n (by omega)
    rw [q.1, nI_l (by omega), if_pos ((lN_le (by omega) (by omega)).mpr q.2)]
theorem tot_n {w : Nat} (hw : w < 14) (hrc : rc ≤ 512) : sc_X0_total RW (nI w) (nI rc) = tot RW rc w := by
  unfold sc_X0_total tot
  by_cases c : rc = 0
  · subst c; rfl
  · rw [if_neg (show ¬ nI rc < 1 from fun z => absurd ((nI_ltI (b := 1) (by omega) (by omega)).mp z) (by omega)), if_neg (show ¬ (513 : Int32) < nI rc from fun z => absurd ((nI_ltI (a := 513) (by omega) (by omega)).mp z) (by omega)), if_neg (nI_pos (by omega)), if_pos (show nI w < 14 from (nI_ltI (b := 14) (by omega) (by omega)).mpr hw), tN_n (by omega), tN_n (by omega), if_neg c]
theorem tn_cn (h : HR Z vs pl RW cn rc d F) : tN (zh F 1) = cn := by
  rw [h.1.2.2.2.2.1]
  exact tN_n (by have := h.1.2.2.2.2.2.1; omega)
theorem sm_8 (h : HR Z vs pl RW cn rc d F) : ∀ n, n ≤ cn → sm F 8 n = prN vs 0 n
  | 0, _ => rfl
  | n + 1, hn => by
    unfold sm prN
    rw [sm_8 h n (by omega), h.opn (i := n) (by omega), if_pos rfl, h.tkv (i := n) (by omega) (by decide) (by decide) (by decide)]
theorem sm_10 (h : HR Z vs pl RW cn rc d F) : ∀ n, n ≤ cn → sm F 10 n = opS vs n
  | 0, _ => rfl
  | n + 1, hn => by
    unfold sm opS
    rw [sm_10 h n (by omega), h.opn (i := n) (by omega), if_neg (show ¬ (10 : Int32) = 8 by decide), if_neg (show ¬ (10 : Int32) = 9 by decide)]
    unfold sc_X9_isOpen
    by_cases c : vs n 0 = 0
    · rw [if_pos c, if_neg (show ¬ (1 : Int32) = 0 by decide), if_pos c]
    · rw [if_neg c, if_pos rfl, if_neg c]
theorem beg_n {s y : Nat} (hs : s ≤ 8000) (hy : y ≤ 8000) : sc_X7_begunUpTo (nI s).toInt64 (nI y).toInt64 = nI (bgN s y) := by
  unfold sc_X7_begunUpTo bgN
  rw [nI_l (by omega), nI_l (by omega)]
  by_cases c : y < s
  · rw [if_neg (fun z => absurd ((lN_le (by omega) (by omega)).mp z) (by omega)), if_pos c]; rfl
  · rw [if_pos ((lN_le (by omega) (by omega)).mpr (by omega)), if_neg c, lN_sub (by omega), show (30 : Int64) = lN 30 from rfl, pk_lDiv (by omega) (by decide) (by decide), lN_i, nI_1]
theorem gF_d (h : HR Z vs pl RW cn rc d F) (hi : i < cn) (h0 : vs i 0 = 0) : gF (vs i) (nI d) = (vs i 2).toInt64 := by
  obtain ⟨s, b, p, r, x, e4, e3, e1, e6, e2, q1, q2, q3, q4, q5, q6, q7⟩ := (h.2.2.1.1 i hi).2.1
  have hd := h.1.2.2.1
  unfold gF
  rw [e4, beg_n (by omega) (by omega), ← q2 h0, e3]
  grind
theorem sm_9 (h : HR Z vs pl RW cn rc d F) : ∀ n, n ≤ cn → sm F 9 n = gS vs (nI d) n
  | 0, _ => rfl
  | n + 1, hn => by
    unfold sm gS
    rw [sm_9 h n (by omega), h.opn (i := n) (by omega), if_neg (show ¬ (9 : Int32) = 8 by decide), if_pos rfl, h.tkv (i := n) (by omega) (by decide) (by decide) (by decide)]
    unfold sc_X9_isOpen
    by_cases c : vs n 0 = 0
    · rw [if_pos c, if_neg (show ¬ (1 : Int32) = 0 by decide), if_pos c, gF_d h (by omega) c]
    · rw [if_neg c, if_pos rfl, if_neg c]
theorem pg_n (h : HR Z vs pl RW cn rc d F) : ∀ n, n ≤ 40 → pg F n = plS Z n
  | 0, _ => rfl
  | n + 1, hn => by
    have e := h.ispl (place := nI n) (by rw [tN_n (by omega)]; omega)
    rw [tN_n (by omega)] at e
    unfold pg plS
    rw [pg_n h n (by omega), e]
    by_cases c : gp Z n = none
    · rw [if_pos c, if_pos rfl, if_pos c, Int64.add_zero]
    · rw [if_neg c, if_neg (show ¬ (1 : Int32) = 0 by decide), if_neg c]
theorem ov_n (h : HR Z vs pl RW cn rc d F) : ∀ n, n ≤ cn → ov F 0 n = ovN vs (nI d) 1 n ∧ ov F 1 n = ovN vs (nI d) 0 n
  | 0, _ => ⟨rfl, rfl⟩
  | n + 1, hn => by
    obtain ⟨i1, i2⟩ := ov_n h n (by omega)
    have hn2 : n < cn := by omega
    have ht := h.2.2.1.1 n hn2
    have hd := h.1.2.2.1
    obtain ⟨o, f12, fo, f30, f31, f0⟩ := ht.2.2.2.1
    have e13 : tk F (tN (nI (n + 1))) 13 = tk F (n + 1) 13 := by rw [h.tn hn2]
    have hk : sc_X9_isKeptOver (nI (n + 1)) (vs n) (nI d) = if sc_X9_hasOverOn (nI (n + 1)) (vs n) (nI d) = 0 then 0 else if vs n 14 < nI d then 0 else 1 := rfl
    have hh : sc_X9_isHousesOver (nI (n + 1)) (vs n) (nI d) = if sc_X9_hasOverOn (nI (n + 1)) (vs n) (nI d) = 0 then 0 else if nI d ≤ vs n 14 then 0 else 1 := rfl
    unfold ov ovN
    rw [i1, i2, e13, h.tkv hn2 (k := 14) (by decide) (by decide) (by decide), h.tkv hn2 (k := 12) (by decide) (by decide) (by decide), h.1.2.1, hk, hh, if_neg (show ¬ (1 : Int32) = 0 by decide), if_pos (show (0 : Int32) = 0 from rfl), if_neg (show ¬ (1 : Int32) = 0 by decide), if_neg (show ¬ (0 : Int32) = 1 by decide), if_pos (show (1 : Int32) = 1 from rfl), if_pos (show (0 : Int32) = 0 from rfl)]
    by_cases z : o = 0
    · have e12 : (vs n 12).toInt64 = 0 := by rw [f12, z]; rfl
      have eh : sc_X9_hasOverOn (nI (n + 1)) (vs n) (nI d) = 0 := by unfold sc_X9_hasOverOn; rw [f12, z, if_pos (by decide)]
      rw [e12, eh, if_pos rfl, if_pos rfl, Int64.add_zero, Int64.add_zero]
      simp
    · have n12 : ¬ vs n 12 ≤ 0 := by rw [f12]; exact nI_nle (by omega) (by omega)
      obtain ⟨y0, g30, gy⟩ := f30 (by omega)
      have n30 : ¬ nI d < vs n 30 := by rw [g30, nI_ltI (by omega) (by omega)]; omega
      rcases ht.1.2.2 with ⟨a, b⟩ | ⟨a, b⟩
      · have eh : sc_X9_hasOverOn (nI (n + 1)) (vs n) (nI d) = 1 := by unfold sc_X9_hasOverOn; rw [if_neg n12, if_neg n30, if_pos a]
        rw [b, eh, if_pos (show (0 : Int32) = 0 from rfl), if_neg (show ¬ (1 : Int32) = 0 by decide), if_neg (show ¬ (1 : Int32) = 0 by decide)]
        by_cases y : nI d ≤ vs n 14
        · rw [if_pos y, if_pos y, if_neg (Int32.not_lt.mpr y), if_pos y, if_neg (show ¬ (1 : Int32) = 0 by decide), if_pos rfl]
          exact ⟨rfl, rfl⟩
        · rw [if_neg y, if_neg y, if_pos (Int32.not_le.mp y), if_neg y, if_neg (show ¬ (1 : Int32) = 0 by decide), if_pos rfl]
          exact ⟨rfl, rfl⟩
      · have eh : sc_X9_hasOverOn (nI (n + 1)) (vs n) (nI d) = 0 := by
          rcases f31 with q | ⟨y, q1, q2⟩
          · exact absurd q a
          · unfold sc_X9_hasOverOn
            rw [if_neg n12, if_neg n30, if_neg a, q1, if_pos ((nI_leI (by omega) (by omega)).mpr q2)]
        rw [b, eh, if_neg (show ¬ (1 : Int32) = 0 by decide), if_pos rfl, if_pos rfl]
        simp
set_option maxHeartbeats 800000 in
theorem sum_d (h : HR Z vs pl RW cn rc d F) (hrc : rc ≤ 512) {w : Nat} (hw : w < 13) : sc_X3_sumOn Z RW vs cn rc (nI d) (nI w) = sp_summed F (nI w) := by
  have hd := h.1.2.2.1
  have q7 := h.2.2.2.2.2.1
  have hov := ov_n h cn (Nat.le_refl _)
  have ecn := tn_cn h
  unfold sc_X3_sumOn sc_X3_oversOn sc_X0_interestOn sc_X0_rowsUpTo
  rw [if_neg (nI_pos (n := d) (by omega)), h.1.1, if_neg (show ¬ nI d < nI d from Int32.lt_irrefl), if_neg (nI_pos (n := w) (by omega)), if_pos (show nI w < 13 from (nI_ltI (b := 13) (by omega) (by omega)).mpr hw), up_all h, tot_n (by omega) hrc, ← hov.1, ← hov.2, h.2.2.2.2.2.2.1.1 (nI d), ← sm_9 h cn (Nat.le_refl _)]
  unfold sp_summed sp_overs
  rw [ecn]
  have : w = 0 ∨ w = 1 ∨ w = 2 ∨ w = 3 ∨ w = 4 ∨ w = 5 ∨ w = 6 ∨ w = 7 ∨ w = 8 ∨ w = 9 ∨ w = 10 ∨ w = 11 ∨ w = 12 := by omega
  rcases this with rfl | rfl | rfl | rfl | rfl | rfl | rfl | rfl | rfl | rfl | rfl | rfl | rfl
  · rw [q7.1.1]; rfl
  · rw [q7.1.2.1]; rfl
  · rw [q7.1.2.2.1]; rfl
  · rw [q7.1.2.2.2.1]; rfl
  · rfl
  · rw [q7.1.2.2.2.2.1]; rfl
  · rfl
  · rw [q7.1.2.2.2.2.2.1]; rfl
  · rw [q7.2.1, ← sm_8 h cn (Nat.le_refl _)]; rfl
  · rfl
  · rw [q7.2.2.1, ← sm_10 h cn (Nat.le_refl _)]; rfl
  · rw [q7.2.2.2.1, ← pg_n h 40 (Nat.le_refl _)]; rfl
  · rw [q7.2.2.2.2.1, ← nI_l (n := cn) (by have := h.1.2.2.2.2.2.1; omega), ← h.1.2.2.2.2.1]; rfl
theorem r_as (h : HR Z vs pl RW cn rc d F) (hrc : rc ≤ 512) (day what : Int32) : sp_as F day what = sc_X3_sumOn Z RW vs cn rc day what := by
  have hd := h.1.2.2.1
  by_cases c0 : what < 0
  · unfold sp_as sc_X3_sumOn
    rw [if_pos c0]
    by_cases a : day < 0
    · rw [if_pos a]
    · rw [if_neg a, if_pos c0, ite_self]
  by_cases c1 : (13 : Int32) ≤ what
  · unfold sp_as sc_X3_sumOn
    rw [if_neg c0, if_pos c1]
    by_cases a : day < 0
    · rw [if_pos a]
    · rw [if_neg a, if_neg c0, if_neg (Int32.not_lt.mpr c1), ite_self]
  obtain ⟨w, w1, rfl⟩ := nI_of (x := what) c0
  have w2 : w < 13 := Nat.not_le.mp (fun z => c1 ((nI_leI (a := 13) (by omega) w1).mpr z))
  by_cases c2 : day < 0
  · unfold sp_as sc_X3_sumOn
    rw [if_neg c0, if_neg c1, if_pos c2, if_pos c2]
  obtain ⟨y, y1, rfl⟩ := nI_of (x := day) c2
  by_cases c3 : y ≤ d
  rotate_left
  · unfold sp_as sc_X3_sumOn
    rw [if_neg c0, if_neg c1, if_neg c2, h.1.2.1, h.1.1, if_neg (fun z => c3 ((nI_leI y1 (by omega)).mp z)), if_neg c2, if_pos ((nI_ltI (by omega) y1).mpr (by omega))]
  by_cases c4 : y = d
  · subst c4
    rw [sum_d h hrc w2]
    unfold sp_as
    rw [if_neg c0, if_neg c1, if_neg c2, h.1.2.1, if_pos (Int32.le_refl _), if_pos rfl]
  · rw [h.2.2.2.2.2.2.2 y (by omega) w w2]
    unfold sp_as
    rw [if_neg c0, if_neg c1, if_neg c2, h.1.2.1, if_pos ((nI_leI y1 (by omega)).mpr c3), if_neg (fun z => c4 ((nI_eq y1 (by omega)).mp z)), tN_n y1, tN_n w1]
theorem r_sum (h : HR Z vs pl RW cn rc d F) (hrc : rc ≤ 512) (what : Int32) : sp_sum F what = sc_X3_sumOn Z RW vs cn rc (gh Z 0) what := by
  have hd := h.1.2.2.1
  rw [h.1.1]
  unfold sp_sum
  by_cases c0 : what < 0
  · unfold sc_X3_sumOn
    rw [if_pos c0, if_neg (nI_pos (n := d) (by omega)), if_pos c0, ite_self]
  by_cases c1 : what < 13
  · obtain ⟨w, w1, rfl⟩ := nI_of (x := what) c0
    rw [if_neg c0, if_pos c1, sum_d h hrc ((nI_ltI (b := 13) w1 (by omega)).mp c1)]
  · unfold sc_X3_sumOn
    rw [if_neg c0, if_neg c1, if_neg (nI_pos (n := d) (by omega)), if_neg c0, if_neg c1, ite_self]
/-- the check finds nothing -/
theorem opN_1 (h : HR Z vs pl RW cn rc d F) (hp : p < 40) : ∀ n, n ≤ cn → opN vs (nI p) n = if ∃ i, i < n ∧ vs i 0 = 0 ∧ vs i 15 = nI p then 1 else 0
  | 0, _ => by
    rw [if_neg (fun ⟨i, hi, _⟩ => absurd hi (Nat.not_lt_zero _))]
    rfl
  | n + 1, hn => by
    have ih := opN_1 h hp n (by omega)
    unfold opN sc_X9_isOpen
    rw [ih]
    by_cases c : vs n 0 = 0
    · rw [if_pos c, if_neg (show ¬ (1 : Int32) = 0 by decide)]
      by_cases c2 : vs n 15 = nI p
      · rw [if_pos c2, if_neg (fun ⟨i, hi, i0, i15⟩ => by
          have a := (h.onp (i := i) (by omega) i0 hp i15).2.1
          have b := (h.onp (i := n) (by omega) c hp c2).2.1
          have hc := h.1.2.2.2.2.2.1
          have := (nI_eq (by omega) (by omega)).mp (a.symm.trans b)
          omega), if_pos ⟨n, by omega, c, c2⟩]
        decide
      · rw [if_neg c2]
        by_cases e : ∃ i, i < n ∧ vs i 0 = 0 ∧ vs i 15 = nI p
        · obtain ⟨i, hi, q⟩ := e
          rw [if_pos ⟨i, hi, q⟩, if_pos ⟨i, by omega, q⟩]
        · rw [if_neg e, if_neg (fun ⟨i, hi, q⟩ => by
            by_cases z : i = n
            · subst z; exact c2 q.2
            · exact e ⟨i, by omega, q⟩)]
    · rw [if_neg c, if_pos rfl]
      by_cases e : ∃ i, i < n ∧ vs i 0 = 0 ∧ vs i 15 = nI p
      · obtain ⟨i, hi, q⟩ := e
        rw [if_pos ⟨i, hi, q⟩, if_pos ⟨i, by omega, q⟩]
      · rw [if_neg e, if_neg (fun ⟨i, hi, q⟩ => by
          by_cases z : i = n
          · subst z; exact c q.1
          · exact e ⟨i, by omega, q⟩)]
theorem r_check (h : HR Z vs pl RW cn rc d F) (hrc : rc ≤ 512) : sp_check F = sc_X3_countFaults Z RW vs cn := by
  have a1 : sc_X3_areCoinsThere Z RW vs cn = 1 := by
    unfold sc_X3_areCoinsThere
    rw [h.1.2.2.2.2.2.2.1, show (2 : Int32) = nI 2 from rfl, show (13 : Int32) = nI 13 from rfl, show (0 : Int32) = nI 0 from rfl, tot_n (by decide) hrc, tot_n (by decide) hrc, tot_n (by decide) hrc, if_pos h.2.2.2.2.2.1.2.2.2.2.2]
  have a2 : sc_X3_isEachUnderOneAtMost Z vs cn = 1 := by
    unfold sc_X3_isEachUnderOneAtMost
    have : ∀ n, n ≤ 40 → euN Z vs cn n = 1 := fun n => by
      induction n with
      | zero => intro _; rfl
      | succ n ih =>
        intro hn
        unfold euN sc_X3_countOpenOn
        rw [ih (by omega), if_neg (show ¬ (1 : Int32) = 0 by decide), opN_1 h (by omega) cn (Nat.le_refl _), if_pos (by split <;> decide)]
    exact this 40 (Nat.le_refl _)
  have a3 : sc_X3_isEachOpenOnItsPlace Z vs cn = 1 := by
    unfold sc_X3_isEachOpenOnItsPlace
    have : ∀ n, n ≤ cn → oiN Z vs n = 1 := fun n => by
      induction n with
      | zero => intro _; rfl
      | succ n ih =>
        intro hn
        unfold oiN sc_X9_isOpen
        rw [ih (by omega), if_neg (show ¬ (1 : Int32) = 0 by decide)]
        by_cases c : vs n 0 = 0
        · rw [if_pos c, if_neg (show ¬ (1 : Int32) = 0 by decide)]
          obtain ⟨p, p1, p2, p3, p4, p5⟩ := h.2.2.2.2.1.1 n (by omega) c
          unfold sc_X3_isOnItsPlace
          rw [p2, if_neg (isp_0 p1), tN_n (by omega), if_neg p3, if_pos p4, if_neg (show ¬ (1 : Int32) = 0 by decide)]
        · rw [if_neg c, if_pos rfl]
    exact this cn (Nat.le_refl _)
  unfold sp_check sc_X3_countFaults
  rw [a1, a2, a3]
  rfl
/-- only the rows that count matter -/
theorem HR_rw (h : HR Z vs pl RW cn rc d F) (hrc : rc ≤ 512) (hR : ∀ i, i < rc → RW' i = RW i) : HR Z vs pl RW' cn rc d F := by
  obtain ⟨q1, q2, q3, q4, q6, q7, q8, q9⟩ := h
  have et : ∀ j, tot RW' rc j = tot RW rc j := fun j => by
    unfold tot
    by_cases c : rc = 0
    · rw [if_pos c, if_pos c]
    · rw [if_neg c, if_neg c, hR (rc - 1) (by omega)]
  refine ⟨q1, q2, q3, q4, q6, ?_, ?_, ?_⟩
  · unfold rC7
    simp only [et]
    exact q7
  · refine ⟨fun day => (inN_c rc hR).trans (q8.1 day), ?_⟩
    obtain ⟨dy, a, b⟩ := q8.2
    exact ⟨dy, fun i hi => by rw [hR i hi]; exact a i hi, b⟩
  · intro y hy w hw
    rw [← q9 y hy w hw]
    have hu : upN RW' (nI y) rc = upN RW (nI y) rc := upN_c rc hR
    unfold sc_X3_sumOn sc_X0_rowsUpTo sc_X0_interestOn
    rw [hu, inN_c (RW := RW) (RW' := RW') _ (fun i hi => hR i (Nat.lt_of_lt_of_le hi (upN_le _ _ _))), total_c hR (upN_le _ _ _) (by omega)]
/-- the days that have ended, when later ones are written -/
theorem HR_ze (h : HR Z vs pl RW cn rc d F) (e1 : zh F' = zh F) (e2 : zs F' = zs F) (e3 : zt F' = zt F) (e4 : zc F' = zc F) (e5 : ∀ j, j < 13 * d → ze F' j = ze F j) : HR Z vs pl RW cn rc d F' := by
  obtain ⟨q1, q2, q3, q4, q6, q7, q8, q9⟩ := h
  have et : ∀ n, tk F' n = tk F n := fun n => funext fun k => by show zt F' _ = zt F _; rw [e3]
  refine ⟨?_, ?_, ?_, rC4_c q4 rfl rfl rfl e2, q6, ?_, q8, ?_⟩
  · unfold rC1; rw [e1]; exact q1
  · intro j hj; rw [e1]; exact q2 j hj
  · refine ⟨fun j hj => ?_, fun n n1 n2 k hk => ?_⟩
    · rw [et]; exact q3.1 j hj
    · rw [et]; exact q3.2 n n1 n2 k hk
  · unfold rC7; rw [e4]; exact q7
  · intro y hy w hw
    rw [e5 _ (by omega)]
    exact q9 y hy w hw
end RSM
