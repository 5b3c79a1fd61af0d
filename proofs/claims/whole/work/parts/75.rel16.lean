/-! a day passes -/
def sameD (F F' : mZ) : Prop := zyh F' = zyh F ∧ zys F' = zys F ∧ zyt F' = zyt F ∧ zyc F' = zyc F ∧ zik F' = zik F
theorem sameD_tr {A B C : mZ} (a : sameD A B) (b : sameD B C) : sameD A C := ⟨b.1.trans a.1, b.2.1.trans a.2.1, b.2.2.1.trans a.2.2.1, b.2.2.2.1.trans a.2.2.2.1, b.2.2.2.2.trans a.2.2.2.2⟩
theorem sameD_id {F : mZ} : sameD F F := ⟨rfl, rfl, rfl, rfl, rfl⟩
theorem ov_c {F F' : mZ} (e1 : zh F' = zh F) (e3 : zt F' = zt F) {house : Int32} : ∀ n, ov F' house n = ov F house n
  | 0 => rfl
  | n + 1 => by
    have et : ∀ m k, tk F' m k = tk F m k := fun m k => by show zt F' _ = zt F _; rw [e3]
    unfold ov
    rw [ov_c e1 e3 n, et, et, et, e1]
theorem sm_c {F F' : mZ} (e3 : zt F' = zt F) {what : Int32} : ∀ n, sm F' what n = sm F what n
  | 0 => rfl
  | n + 1 => by
    have et : ∀ m k, tk F' m k = tk F m k := fun m k => by show zt F' _ = zt F _; rw [e3]
    unfold sm sp_isOpen
    rw [sm_c e3 n, et, et, et]
theorem pg_c {F F' : mZ} (e2 : zs F' = zs F) : ∀ n, pg F' n = pg F n
  | 0 => rfl
  | n + 1 => by
    have et : ∀ m k, sh F' m k = sh F m k := fun m k => by show zs F' _ = zs F _; rw [e2]
    unfold pg sp_isPledge
    rw [pg_c e2 n, et]
theorem summed_c {F F' : mZ} (e1 : zh F' = zh F) (e2 : zs F' = zs F) (e3 : zt F' = zt F) (e4 : zc F' = zc F) {what : Int32} : sp_summed F' what = sp_summed F what := by
  unfold sp_summed sp_overs
  rw [ov_c e1 e3, ov_c e1 e3, sm_c e3, pg_c e2, e1, e4]
theorem ew_z {F : mZ} {d : Nat} : ∀ w, zh (ew F d w) = zh F ∧ zs (ew F d w) = zs F ∧ zt (ew F d w) = zt F ∧ zc (ew F d w) = zc F ∧ sameD F (ew F d w)
  | 0 => ⟨rfl, rfl, rfl, rfl, sameD_id⟩
  | w + 1 => ew_z w
theorem ew_e {F : mZ} {d : Nat} : ∀ w j, ze (ew F d w) j = if 13 * d ≤ j ∧ j < 13 * d + w then sp_summed F (nI (j - 13 * d)) else ze F j
  | 0, j => by
    rw [if_neg (by omega)]
    rfl
  | w + 1, j => by
    have hz := ew_z (F := F) (d := d) w
    show vp_updL (ze (ew F d w)) (13 * d + w) (sp_summed (ew F d w) (nI w)) j = _
    by_cases e : j = 13 * d + w
    · subst e
      rw [pk_uLs, if_pos (by omega), Nat.add_sub_cancel_left, summed_c hz.1 hz.2.1 hz.2.2.1 hz.2.2.2.1]
    · rw [pk_uLn e, ew_e w j]
      by_cases c : 13 * d ≤ j ∧ j < 13 * d + w
      · rw [if_pos c, if_pos (by omega)]
      · rw [if_neg c, if_neg (by omega)]
/-- a month that begins for a ticket of the reference -/
def begW (day : Int32) (w : Nat → Int32) : Nat → Int32 := if day < w 4 + 30 * w 3 then w else upd (upd w 3 (w 3 + 1)) 2 (w 2 + sp_cutUp ((w 1).toInt64 * (w 6).toInt64) 1000)
theorem begins_tk {Y : mZ} {t : Int32} : tk (sp_begins Y t) (tN t) = begW (zh Y 0) (tk Y (tN t)) := by
  unfold sp_begins begW
  split
  · rfl
  · rw [tk_upd, tk_upd]
theorem begins_no {Y : mZ} {t : Int32} {m k : Nat} (h : m ≠ tN t) (hk : k < 32) : tk (sp_begins Y t) m k = tk Y m k := by
  unfold sp_begins
  split
  · rfl
  · rw [tk_no h hk (by decide), tk_no h hk (by decide)]
theorem begins_z {Y : mZ} {t : Int32} : zh (sp_begins Y t) = zh Y ∧ zs (sp_begins Y t) = zs Y ∧ zc (sp_begins Y t) = zc Y ∧ ze (sp_begins Y t) = ze Y ∧ sameD Y (sp_begins Y t) := by
  unfold sp_begins
  split <;> exact ⟨rfl, rfl, rfl, rfl, sameD_id⟩
theorem bt_s {X : mZ} {i : Nat} : bt X (i + 1) = if sp_isOpen (bt X i) (nI (i + 1)) = 0 then bt X i else sp_begins (bt X i) (nI (i + 1)) := rfl
theorem bt_z {X : mZ} : ∀ i, zh (bt X i) = zh X ∧ zs (bt X i) = zs X ∧ zc (bt X i) = zc X ∧ ze (bt X i) = ze X ∧ sameD X (bt X i)
  | 0 => ⟨rfl, rfl, rfl, rfl, sameD_id⟩
  | i + 1 => by
    have h := bt_z (X := X) i
    have g := begins_z (Y := bt X i) (t := nI (i + 1))
    rw [bt_s]
    split
    · exact h
    · exact ⟨g.1.trans h.1, g.2.1.trans h.2.1, g.2.2.1.trans h.2.2.1, g.2.2.2.1.trans h.2.2.2.1, sameD_tr h.2.2.2.2 g.2.2.2.2⟩
theorem bt_hi {X : mZ} {n k : Nat} (hk : k < 32) : ∀ i, i ≤ 511 → i < n → tk (bt X i) n k = tk X n k
  | 0, _, _ => rfl
  | i + 1, h1, h2 => by
    rw [bt_s]
    split
    · exact bt_hi hk i (by omega) (by omega)
    · rw [begins_no (by rw [tN_n (by omega)]; omega) hk, bt_hi hk i (by omega) (by omega)]
theorem bt_0 {X : mZ} {k : Nat} (hk : k < 32) : ∀ i, i ≤ 511 → tk (bt X i) 0 k = tk X 0 k
  | 0, _ => rfl
  | i + 1, h1 => by
    rw [bt_s]
    split
    · exact bt_0 hk i (by omega)
    · rw [begins_no (by rw [tN_n (by omega)]; omega) hk, bt_0 hk i (by omega)]
/-- a ticket of the reference behind a day -/
def begT (day : Int32) (w : Nat → Int32) : Nat → Int32 := if w 0 = 0 then begW day w else w
theorem begW_k {day : Int32} {w w' : Nat → Int32} (h : ∀ k, k < 32 → w' k = w k) {k : Nat} (hk : k < 32) : begW day w' k = begW day w k := by
  unfold begW
  rw [h 4 (by decide), h 3 (by decide), h 2 (by decide), h 1 (by decide), h 6 (by decide)]
  split
  · exact h k hk
  · unfold upd
    rw [h k hk]
theorem bt_at {X : mZ} {i k : Nat} (hk : k < 32) (hi : i < 511) : tk (bt X (i + 1)) (i + 1) k = begT (zh X 0) (tk X (i + 1)) k := by
  have hh := fun k hk => bt_hi (X := X) (n := i + 1) (k := k) hk i (by omega) (by omega)
  have e0 : tk (bt X i) (i + 1) 0 = tk X (i + 1) 0 := hh 0 (by decide)
  have et : tN (nI (i + 1)) = i + 1 := tN_n (by omega)
  rw [bt_s]
  unfold sp_isOpen begT
  rw [et, e0]
  by_cases c : tk X (i + 1) 0 = 0
  · rw [if_pos c, if_neg (show ¬ (1 : Int32) = 0 by decide), if_pos c]
    have b := congrFun (begins_tk (Y := bt X i) (t := nI (i + 1))) k
    rw [et, (bt_z (X := X) i).1] at b
    rw [b]
    exact begW_k hh hk
  · rw [if_neg c, if_pos rfl, if_neg c]
    exact hh k hk
theorem bt_lo {X : mZ} {i k : Nat} (hk : k < 32) (hi : i < 511) : ∀ c, i < c → c ≤ 511 → tk (bt X c) (i + 1) k = begT (zh X 0) (tk X (i + 1)) k
  | 0, h, _ => absurd h (Nat.not_lt_zero _)
  | c + 1, h, hc => by
    by_cases e : i = c
    · subst e; exact bt_at hk hi
    · have ih := bt_lo (X := X) hk hi c (by omega) (by omega)
      rw [bt_s]
      split
      · exact ih
      · rw [begins_no (by rw [tN_n (by omega)]; omega) hk]
        exact ih
theorem tkR_k {v w w' : Nat → Int32} (h : tkR v w) (hw : ∀ k, k < 32 → w' k = w k) : tkR v w' := ⟨fun k a b c => (hw k (by omega)).trans (h.1 k a b c), by rw [hw 16 (by decide)]; exact h.2.1, by rw [hw 13 (by decide)]; exact h.2.2⟩
/-- months begun, day by day -/
theorem bg_step {s d : Nat} : (d + 1 < s + 30 * bgN s d → bgN s (d + 1) = bgN s d) ∧ (¬ d + 1 < s + 30 * bgN s d → bgN s (d + 1) = bgN s d + 1) ∧ d + 1 < s + 30 * (bgN s d + 1) := by
  unfold bgN
  by_cases c : d < s
  · rw [if_pos c]
    by_cases c2 : d + 1 < s
    · rw [if_pos c2]; omega
    · rw [if_neg c2]; omega
  · rw [if_neg c, if_neg (show ¬ d + 1 < s by omega)]
    omega
section RD
variable {Z Z' : hZ} {vs : Nat → Nat → Int32} {pl : Nat → pZ} {RW RW' : Nat → Nat → Int64} {cn rc d i p : Nat} {F F' : mZ} {P : pZ}
/-- one ticket, one day -/
theorem tk_day {v w : Nat → Int32} (hd : d + 1 ≤ 7300) (hR : tkR v w) (hI : tI d v) : tkR (tkD (nI (d + 1)) i v) (begT (nI (d + 1)) w) ∧ tI (d + 1) (tkD (nI (d + 1)) i v) ∧ (∀ k, k ≠ 2 → k ≠ 3 → tkD (nI (d + 1)) i v k = v k) ∧ (v 0 = 0 → ∀ day, gF (tkD (nI (d + 1)) i v) day = gF v day) := by
  obtain ⟨hA, hU, hO, hB⟩ := hI
  have hU' : ∀ v', v' 20 = v 20 → tU (d + 1) v' := fun v' e => by
    rcases hU with a | ⟨y, y1, y2, _⟩
    · exact Or.inl (e.trans a)
    · exact Or.inr ⟨y, e.trans y1, by omega, fun z => absurd z (by omega)⟩
  have hO' : ∀ v', v' 0 = v 0 → v' 12 = v 12 → v' 30 = v 30 → v' 31 = v 31 → tO (d + 1) v' := fun v' a b c e => by
    obtain ⟨o, o1, o2, o3, o4, o5⟩ := hO
    refine ⟨o, b.trans o1, o2, fun z => ?_, ?_, fun z => ?_⟩
    · obtain ⟨y, y1, y2⟩ := o3 z
      exact ⟨y, c.trans y1, by omega⟩
    · rcases o4 with q | ⟨y, y1, y2⟩
      · exact Or.inl (e.trans q)
      · exact Or.inr ⟨y, e.trans y1, by omega⟩
    · have q := o5 (a.symm.trans z)
      exact ⟨q.1, e.trans q.2⟩
  obtain ⟨s, b, p, r, x, e4, e3, e1, e6, e2, q1, q2, q3, q4, q5, q6, q7⟩ := hA
  have w0 := hR.1 0 (by decide) (by decide) (by decide)
  unfold tkD begT sc_X9_isOpen
  rw [w0]
  by_cases c0 : v 0 = 0
  rotate_left
  · rw [if_neg c0, if_pos rfl, if_neg c0]
    refine ⟨hR, ⟨⟨s, b, p, r, x, e4, e3, e1, e6, e2, by omega, fun z => absurd z c0, q3, q4, q5, q6, q7⟩, hU' v rfl, hO' v rfl rfl rfl rfl, hB⟩, fun _ _ _ => rfl, fun z => absurd z c0⟩
  rw [if_pos c0, if_neg (show ¬ (1 : Int32) = 0 by decide), if_pos c0]
  have hb := q2 c0
  obtain ⟨st1, st2, st3⟩ := bg_step (s := s) (d := d)
  rw [← hb] at st1 st2
  have ebg : sc_X7_begunUpTo (v 4).toInt64 (nI (d + 1)).toInt64 = nI (bgN s (d + 1)) := by rw [e4]; exact beg_n (by omega) (by omega)
  have hcu : sc_X11_cutUp (v 1) (v 6) = nI ((p * r + 999) / 1000) := by rw [e1, e6]; exact cut_n q5 (by omega)
  have hcu2 : (p * r + 999) / 1000 ≤ 2000000 := by
    have := Nat.mul_le_mul q5 q6
    omega
  have eW : begW (nI (d + 1)) w = if d + 1 < s + 30 * b then w else upd (upd w 3 (w 3 + 1)) 2 (w 2 + sc_X11_cutUp (v 1) (v 6)) := by
    unfold begW
    rw [hR.1 4 (by decide) (by decide) (by decide), hR.1 3 (by decide) (by decide) (by decide), hR.1 1 (by decide) (by decide) (by decide), hR.1 6 (by decide) (by decide) (by decide), cut_eq, e4, e3, show (30 : Int32) = nI 30 from rfl, pk_mul, nI_add]
    by_cases c : d + 1 < s + 30 * b
    · rw [if_pos c, if_pos ((nI_ltI (by omega) (by omega)).mpr c)]
    · rw [if_neg c, if_neg (fun z => c ((nI_ltI (by omega) (by omega)).mp z))]
  have hb' : bgN s (d + 1) ≤ 245 := by
    unfold bgN
    split <;> omega
  unfold sc_X7_reachDay sc_X7_growth
  rw [ebg, eW]
  by_cases c : d + 1 < s + 30 * b
  · rw [if_pos c, st1 c]
    have ev : upd (upd v 2 (v 2 + (nI b - v 3) * sc_X11_cutUp (v 1) (v 6))) 3 (nI b) = v := funext fun k => by
      by_cases z3 : k = 3
      · subst z3; rw [upd_eq, e3]
      · rw [upd_ne z3]
        by_cases z2 : k = 2
        · subst z2; rw [upd_eq, e3]; grind
        · rw [upd_ne z2]
    rw [ev]
    exact ⟨hR, ⟨⟨s, b, p, r, x, e4, e3, e1, e6, e2, by omega, fun _ => (st1 c).symm, q3, q4, q5, q6, q7⟩, hU' v rfl, hO' v rfl rfl rfl rfl, hB⟩, fun _ _ _ => rfl, fun _ _ => rfl⟩
  · rw [if_neg c, st2 c]
    have ei : v 2 + (nI (b + 1) - v 3) * sc_X11_cutUp (v 1) (v 6) = nI (x + (p * r + 999) / 1000) := by
      rw [e2, e3, hcu, pk_sub (by omega), Nat.add_sub_cancel_left, ← nI_add]
      have : nI 1 * nI ((p * r + 999) / 1000) = nI ((p * r + 999) / 1000) := by rw [pk_mul, Nat.one_mul]
      rw [this]
    have ew3 : w 3 + 1 = nI (b + 1) := by rw [hR.1 3 (by decide) (by decide) (by decide), e3, nI_1]
    have ew2 : w 2 + sc_X11_cutUp (v 1) (v 6) = nI (x + (p * r + 999) / 1000) := by rw [hR.1 2 (by decide) (by decide) (by decide), e2, hcu, nI_add]
    rw [ei, ew3, ew2]
    have hk : ∀ k, k ≠ 2 → k ≠ 3 → upd (upd v 2 (nI (x + (p * r + 999) / 1000))) 3 (nI (b + 1)) k = v k := fun k a e => by rw [upd_ne e, upd_ne a]
    refine ⟨⟨fun k k1 k2 k3 => ?_, hR.2.1, hR.2.2⟩, ⟨⟨s, b + 1, p, r, x + (p * r + 999) / 1000, e4, rfl, e1, e6, rfl, by omega, fun _ => (st2 c).symm, by have := st2 c; omega, q4, q5, q6, by omega⟩, hU' _ rfl, hO' _ rfl rfl rfl rfl, tB_c hB rfl rfl rfl rfl⟩, hk, fun _ day => ?_⟩
    · by_cases z2 : k = 2
      · subst z2; rw [upd_eq, upd_ne (by decide), upd_eq]
      · rw [upd_ne z2]
        by_cases z3 : k = 3
        · subst z3; rw [upd_eq, upd_eq]
        · rw [upd_ne z3, upd_ne z3, upd_ne z2]; exact hR.1 k k1 k2 k3
    · unfold gF
      rw [hk 1 (by decide) (by decide), hk 4 (by decide) (by decide), hk 6 (by decide) (by decide), upd_eq, upd_ne (show (2 : Nat) ≠ 3 by decide), upd_eq, e2, e3, hcu, nI_l (by omega), nI_l (by omega), nI_l (by omega), nI_l (by omega), nI_l (by omega), ← lN_add x, ← lN_add b 1]
      have : lN 1 = 1 := rfl
      rw [this]
      grind
/-- the reference's days, when the tickets are as the class has them -/
theorem HR_bg (h : HR Z vs pl RW cn rc d F) (hi : i < cn) (h0 : vs i 0 = 0) : nI (d + 1) < vs i 4 + 30 * (vs i 3 + 1) := by
  obtain ⟨s, b, p, r, x, e4, e3, e1, e6, e2, q1, q2, q3, q4, q5, q6, q7⟩ := (h.2.2.1.1 i hi).2.1
  have hd := h.1.2.2.1
  obtain ⟨_, _, st3⟩ := bg_step (s := s) (d := d)
  rw [← q2 h0] at st3
  rw [e4, e3, nI_1, show (30 : Int32) = nI 30 from rfl, pk_mul, nI_add]
  exact (nI_ltI (by omega) (by omega)).mpr st3
theorem vsD_i {day : Int32} (hi : i < cn) : vsD day vs cn i = tkD day i (vs i) := if_pos hi
set_option maxHeartbeats 800000 in
theorem HR_day (h : HR Z vs pl RW cn rc d F) (hrc : rc ≤ 512) (hd : d + 1 ≤ 7300) : HR (ghp Z 0 (nI (d + 1))) (vsD (nI (d + 1)) vs cn) pl RW cn rc (d + 1) (day1 F d cn) ∧ sameD F (day1 F d cn) ∧ ∀ j, j < 13 * d → ze (day1 F d cn) j = ze F j := by
  have hc := h.1.2.2.2.2.2.1
  have hsum := fun w (hw : w < 13) => sum_d h hrc hw
  unfold day1
  have hw := ew_z (F := F) (d := d) 13
  have he := ew_e (F := F) (d := d) 13
  generalize ew F d 13 = E at hw he ⊢
  rw [h.1.2.1, nI_1]
  have hX : zh (zhp E 0 (nI (d + 1))) 0 = nI (d + 1) := zh_zhp_eq
  have hXn : ∀ j, j ≠ 0 → zh (zhp E 0 (nI (d + 1))) j = zh F j := fun j hj => (zh_zhp_ne hj).trans (by rw [hw.1])
  have hXt : ∀ n, tk (zhp E 0 (nI (d + 1))) n = tk F n := fun n => funext fun k => by
    show zt E _ = zt F _
    rw [hw.2.2.1]
  have hXz : zs (zhp E 0 (nI (d + 1))) = zs F ∧ zc (zhp E 0 (nI (d + 1))) = zc F ∧ ze (zhp E 0 (nI (d + 1))) = ze E ∧ sameD F (zhp E 0 (nI (d + 1))) := ⟨hw.2.1, hw.2.2.2.1, rfl, hw.2.2.2.2⟩
  generalize zhp E 0 (nI (d + 1)) = X at hX hXn hXt hXz ⊢
  have hb := bt_z (X := X) cn
  have blo := fun i (hi : i < cn) k (hk : k < 32) => bt_lo (X := X) (i := i) hk (by omega) cn hi hc
  have bhi := fun n (hn : cn < n) k (hk : k < 32) => bt_hi (X := X) (n := n) hk cn hc hn
  rw [hX] at blo
  generalize bt X cn = B at hb blo bhi ⊢
  have hday := fun i (hi : i < cn) => tk_day (i := i) hd (h.2.2.1.1 i hi).1 (h.2.2.1.1 i hi).2
  have hvk : ∀ j k, k ≠ 2 → k ≠ 3 → vsD (nI (d + 1)) vs cn j k = vs j k := fun j k a b => by
    unfold vsD
    by_cases c : j < cn
    · rw [if_pos c]; exact (hday j c).2.2.1 k a b
    · rw [if_neg c]
  have heB : ∀ j, ze B j = if 13 * d ≤ j ∧ j < 13 * d + 13 then sp_summed F (nI (j - 13 * d)) else ze F j := fun j => by rw [hb.2.2.2.1, hXz.2.2.1]; exact he j
  obtain ⟨q1, q2, q3, q4, q6, q7, q8, q9⟩ := h
  refine ⟨⟨?_, ?_, ?_, ?_, ?_, ?_, ?_, ?_⟩, sameD_tr hXz.2.2.2 hb.2.2.2.2, fun j hj => by rw [heB, if_neg (by omega)]⟩
  · refine ⟨gh_ghp_eq, by rw [hb.1]; exact hX, hd, (gh_ghp_ne (by decide)).trans q1.2.2.2.1, by rw [hb.1, hXn 1 (by decide)]; exact q1.2.2.2.2.1, hc, (gh_ghp_ne (by decide)).trans q1.2.2.2.2.2.2.1, ?_⟩
    rw [hb.1, hXn 2 (by decide), q1.2.2.2.2.2.2.2, hvk _ 17 (by decide) (by decide)]
  · intro j hj
    rw [hb.1, hXn (3 + j) (by omega)]
    exact q2 j hj
  · refine ⟨fun j hj => ?_, fun n n1 n2 k hk => ?_⟩
    · rw [vsD_i hj]
      refine ⟨tkR_k (hday j hj).1 (fun k hk => ?_), (hday j hj).2.1⟩
      rw [blo j hj k hk, hXt]
    · rw [bhi n n1 k hk, hXt]
      exact q3.2 n n1 n2 k hk
  · intro p hp
    have es : sh B p = sh F p := funext fun k => by
      show zs B _ = zs F _
      rw [hb.2.1, hXz.1]
    rw [es]
    have h4 := q4 p hp
    refine ⟨h4.1, ?_⟩
    have h4b := h4.2
    show match gp Z p with
      | none => _
      | some _ => _
    revert h4b
    cases gp Z p with
    | none => exact id
    | some r =>
      intro h4b
      refine ⟨h4b.1, h4b.2.1, ?_⟩
      have h5 := h4b.2.2
      unfold plR at h5 ⊢
      revert h5
      split
      · exact id
      · exact id
      · exact id
      · exact fun h5 => ⟨h5.1, h5.2.1, h5.2.2.1, h5.2.2.2.1, h5.2.2.2.2.1, h5.2.2.2.2.2.1, h5.2.2.2.2.2.2.1, by
          obtain ⟨x, x1, x2⟩ := h5.2.2.2.2.2.2.2
          exact ⟨x, x1, by omega⟩⟩
      · exact id
      · exact id
  · exact rC6_c q6 rfl rfl (fun j => ⟨hvk j 0 (by decide) (by decide), hvk j 15 (by decide) (by decide), hvk j 19 (by decide) (by decide)⟩)
  · have e1 := fun x => prN_c (vs := vs) (vs' := vsD (nI (d + 1)) vs cn) (x := x) cn (fun j _ => ⟨hvk j 0 (by decide) (by decide), hvk j 1 (by decide) (by decide)⟩)
    have e2 := opS_c (vs := vs) (vs' := vsD (nI (d + 1)) vs cn) cn (fun j _ => hvk j 0 (by decide) (by decide))
    have ec : zc B = zc F := hb.2.2.1.trans hXz.2.1
    unfold rC7
    rw [e1, e1, e2, ec, plS_gh]
    exact q7
  · refine ⟨fun day => ?_, ?_⟩
    · rw [q8.1 day]
      have : ∀ n, n ≤ cn → gS (vsD (nI (d + 1)) vs cn) day n = gS vs day n := fun n => by
        induction n with
        | zero => intro _; rfl
        | succ n ih =>
          intro hn
          unfold gS
          rw [ih (by omega), hvk n 0 (by decide) (by decide)]
          by_cases c : vs n 0 = 0
          · rw [if_pos c, if_pos c, vsD_i (by omega), (hday n (by omega)).2.2.2 c day]
          · rw [if_neg c, if_neg c]
      exact (this cn (Nat.le_refl _)).symm
    · obtain ⟨dy, a, b⟩ := q8.2
      exact ⟨dy, fun i hi => ⟨(a i hi).1, by have := (a i hi).2; omega⟩, b⟩
  · intro y hy w hw13
    have eov := fun k => ovN_c (vs := vs) (vs' := vsD (nI (d + 1)) vs cn) (day := nI y) (kept := k) cn (fun j _ => ⟨hvk j 12 (by decide) (by decide), hvk j 14 (by decide) (by decide), hvk j 30 (by decide) (by decide), hvk j 31 (by decide) (by decide)⟩)
    have hs : sc_X3_sumOn (ghp Z 0 (nI (d + 1))) RW (vsD (nI (d + 1)) vs cn) cn rc (nI y) (nI w) = sc_X3_sumOn Z RW vs cn rc (nI y) (nI w) := by
      unfold sc_X3_sumOn sc_X3_oversOn
      rw [eov, eov, gh_ghp_eq, q1.1, if_neg (show ¬ nI (d + 1) < nI y from fun z => absurd ((nI_ltI (by omega) (by omega)).mp z) (by omega)), if_neg (show ¬ nI d < nI y from fun z => absurd ((nI_ltI (by omega) (by omega)).mp z) (by omega))]
    rw [hs, heB]
    by_cases c : y = d
    · subst c
      rw [if_pos (by omega), hsum w hw13, Nat.add_sub_cancel_left]
    · rw [if_neg (by omega)]
      exact q9 y (by omega) w hw13
/-- reaching a day by way of another -/
theorem vsD_id (h : HR Z vs pl RW cn rc d F) : vsD (nI d) vs cn = vs := funext fun j => by
  unfold vsD
  by_cases c : j < cn
  · rw [if_pos c]
    unfold tkD sc_X9_isOpen
    by_cases c0 : vs j 0 = 0
    · obtain ⟨s, b, p, r, x, e4, e3, e1, e6, e2, q1, q2, q3, q4, q5, q6, q7⟩ := (h.2.2.1.1 j c).2.1
      have hd := h.1.2.2.1
      rw [if_pos c0, if_neg (show ¬ (1 : Int32) = 0 by decide)]
      unfold sc_X7_reachDay
      rw [show sc_X7_begunUpTo (vs j 4).toInt64 (nI d).toInt64 = nI b by rw [e4, q2 c0]; exact beg_n (by omega) (by omega)]
      refine funext fun k => ?_
      by_cases z3 : k = 3
      · subst z3; rw [upd_eq, e3]
      · rw [upd_ne z3]
        by_cases z2 : k = 2
        · subst z2; rw [upd_eq, e3]; grind
        · rw [upd_ne z2]
    · rw [if_neg c0, if_pos rfl]
  · rw [if_neg c]
theorem tkD_o {v : Nat → Int32} {a : Int32} (h : v 0 = 0) : tkD a i v = sc_X7_reachDay (nI (i + 1)) v a (v 1) := by
  unfold tkD sc_X9_isOpen
  rw [if_pos h, if_neg (show ¬ (1 : Int32) = 0 by decide)]
theorem tkD_e {v : Nat → Int32} {a : Int32} (h : ¬ v 0 = 0) : tkD a i v = v := by
  unfold tkD sc_X9_isOpen
  rw [if_neg h, if_pos rfl]
theorem tkD_2 {v : Nat → Int32} {a b : Int32} : tkD b i (tkD a i v) = tkD b i v := by
  by_cases c0 : v 0 = 0
  · have e : sc_X7_reachDay (nI (i + 1)) v a (v 1) 0 = 0 := c0
    rw [tkD_o c0, tkD_o e, tkD_o c0]
    unfold sc_X7_reachDay sc_X7_growth
    refine funext fun k => ?_
    by_cases z3 : k = 3
    · subst z3; rw [upd_eq, upd_eq]; rfl
    · rw [upd_ne z3, upd_ne (f := upd v 2 (v 2 + (sc_X7_begunUpTo (v 4).toInt64 b.toInt64 - v 3) * sc_X11_cutUp (v 1) (v 6))) z3]
      by_cases z2 : k = 2
      · subst z2
        rw [upd_eq, upd_eq]
        show v 2 + (sc_X7_begunUpTo (v 4).toInt64 a.toInt64 - v 3) * sc_X11_cutUp (v 1) (v 6) + (sc_X7_begunUpTo (v 4).toInt64 b.toInt64 - sc_X7_begunUpTo (v 4).toInt64 a.toInt64) * sc_X11_cutUp (v 1) (v 6) = v 2 + (sc_X7_begunUpTo (v 4).toInt64 b.toInt64 - v 3) * sc_X11_cutUp (v 1) (v 6)
        generalize sc_X7_begunUpTo (v 4).toInt64 a.toInt64 = A
        generalize sc_X7_begunUpTo (v 4).toInt64 b.toInt64 = B
        generalize sc_X11_cutUp (v 1) (v 6) = C
        generalize v 2 = x
        generalize v 3 = y
        clear e c0
        grind
      · rw [upd_ne z2, upd_ne z3, upd_ne z2, upd_ne z2]
  · rw [tkD_e c0]
theorem vsD_2 {a b : Int32} : vsD b (vsD a vs cn) cn = vsD b vs cn := funext fun j => by
  unfold vsD
  by_cases c : j < cn
  · rw [if_pos c, if_pos c, if_pos c, tkD_2]
  · rw [if_neg c, if_neg c, if_neg c]
theorem HR_days (h : HR Z vs pl RW cn rc d F) (hrc : rc ≤ 512) : ∀ k, d + k ≤ 7300 → HR (ghp Z 0 (nI (d + k))) (vsD (nI (d + k)) vs cn) pl RW cn rc (d + k) (dayN F d cn k) ∧ sameD F (dayN F d cn k) ∧ ∀ j, j < 13 * d → ze (dayN F d cn k) j = ze F j
  | 0, _ => by
    have e : ghp Z 0 (nI (d + 0)) = Z := by
      obtain ⟨g, rest⟩ := Z
      have e0 : g 0 = nI d := h.1.1
      refine Prod.ext (funext fun j => ?_) rfl
      show upd g 0 (nI (d + 0)) j = g j
      by_cases z : j = 0
      · subst z; rw [upd_eq, e0, Nat.add_zero]
      · rw [upd_ne z]
    rw [e, Nat.add_zero, vsD_id h]
    exact ⟨h, sameD_id, fun _ _ => rfl⟩
  | k + 1, hk => by
    obtain ⟨a, b, c⟩ := HR_days h hrc k (by omega)
    obtain ⟨a', b', c'⟩ := HR_day a hrc (show d + k + 1 ≤ 7300 by omega)
    rw [vsD_2] at a'
    have e : ghp (ghp Z 0 (nI (d + k))) 0 (nI (d + k + 1)) = ghp Z 0 (nI (d + k + 1)) := by
      refine Prod.ext (funext fun j => ?_) rfl
      show upd (upd (gh Z) 0 (nI (d + k))) 0 (nI (d + k + 1)) j = upd (gh Z) 0 (nI (d + k + 1)) j
      by_cases z : j = 0
      · subst z; rw [upd_eq, upd_eq]
      · rw [upd_ne z, upd_ne z, upd_ne z]
    rw [e] at a'
    exact ⟨a', sameD_tr b b', fun j hj => (c' j (by omega)).trans (c j hj)⟩
theorem HR_dayOK (h : HR Z vs pl RW cn rc d F) (hrc : rc ≤ 512) {N : Nat} (hN : d + N ≤ 7300) : dayOK F d cn N := by
  intro k i hk hi ho
  obtain ⟨a, _, _⟩ := HR_days h hrc k (by omega)
  have hc := a.1.2.2.2.2.2.1
  generalize dayN F d cn k = G at a ho ⊢
  have hw := ew_z (F := G) (d := d + k) 13
  generalize ew G (d + k) 13 = E at hw ho ⊢
  rw [a.1.2.1, nI_1] at ho ⊢
  have hX : zh (zhp E 0 (nI (d + k + 1))) 0 = nI (d + k + 1) := zh_zhp_eq
  have hXt : ∀ n, tk (zhp E 0 (nI (d + k + 1))) n = tk G n := fun n => funext fun j => by
    show zt E _ = zt G _
    rw [hw.2.2.1]
  generalize zhp E 0 (nI (d + k + 1)) = X at hX hXt ho ⊢
  have hb := bt_z (X := X) i
  have bhi := fun k (hk : k < 32) => bt_hi (X := X) (n := i + 1) hk i (by omega) (by omega)
  generalize bt X i = B at hb bhi ho ⊢
  have et : tN (nI (i + 1)) = i + 1 := tN_n (by omega)
  have hr := (a.2.2.1.1 i hi).1.1
  unfold sp_isOpen at ho
  rw [et, bhi 0 (by decide), hXt, hr 0 (by decide) (by decide) (by decide)] at ho
  unfold bgOK
  rw [et, bhi 4 (by decide), bhi 3 (by decide), hXt, hr 4 (by decide) (by decide) (by decide), hr 3 (by decide) (by decide) (by decide), hb.1, hX]
  refine HR_bg a hi ?_
  by_cases z : vsD (nI (d + k)) vs cn i 0 = 0
  · exact z
  · rw [if_neg z] at ho; exact absurd rfl ho
theorem r_day (h : HR Z vs pl RW cn rc d F) (hrc : rc ≤ 512) (n : Int32) : ∃ d', d ≤ d' ∧ (sp_day F n).1 = (sc_X3_passDays Z vs cn n).1 ∧ HR (sc_X3_passDays Z vs cn n).2.1 (sc_X3_passDays Z vs cn n).2.2 pl RW cn rc d' (sp_day F n).2 ∧ sameD F (sp_day F n).2 ∧ (∀ j, j < 13 * d → ze (sp_day F n).2 j = ze F j) ∧ zst (sp_day F n).2 = (sc_X3_passDays Z vs cn n).1 := by
  have hd := h.1.2.2.1
  have no : ∀ a : Int32, ∃ d', d ≤ d' ∧ a = a ∧ HR Z vs pl RW cn rc d' (zR F a) ∧ sameD F (zR F a) ∧ (∀ j, j < 13 * d → ze (zR F a) j = ze F j) ∧ zst (zR F a) = a := fun a => ⟨d, Nat.le_refl _, rfl, h, ⟨rfl, rfl, rfl, rfl, rfl⟩, fun _ _ => rfl, rfl⟩
  unfold sp_day sc_X3_passDays
  rw [h.today]
  by_cases c0 : (zh F 0).toInt64 + n.toInt64 ≤ 7300
  rotate_left
  · rw [if_neg c0, if_neg c0]; exact no _
  rw [if_pos c0, if_pos c0]
  by_cases c1 : n < 1
  · rw [if_pos c1, if_pos c1]; exact no _
  rw [if_neg c1, if_neg c1]
  by_cases c2 : n ≤ 400
  rotate_left
  · rw [if_neg c2, if_neg c2]; exact no _
  rw [if_pos c2, if_pos c2]
  obtain ⟨nn, n4, n7, rfl⟩ := day_n hd h.1.2.1 c0 c1 c2
  rw [h.1.2.1, tn_cn h, tN_n (n := d) (by omega), tN_n (n := nn) (by omega), nI_add]
  obtain ⟨a, b, c⟩ := HR_days h hrc nn n7
  have ed := a.1.2.1
  generalize dayN F d cn nn = G at a b c ed ⊢
  exact ⟨d + nn, by omega, ed, a, b, c, ed⟩
end RD
