/-! a ticket changed, with a row in the books -/
theorem cB_n {RW : Nat → Nat → Int64} {rc : Nat} (h : rc ≤ 511) : sc_X0_countBehind RW (nI rc) = nI (rc + 1) := by
  unfold sc_X0_countBehind
  rw [nI_1, if_neg (show ¬ (513 : Int32) < nI (rc + 1) from fun z => absurd ((nI_ltI (a := 513) (b := rc + 1) (by omega) (by omega)).mp z) (by omega))]
theorem plS_c {Z Z' : hZ} : ∀ n, (∀ i, i < n → gp Z' i = gp Z i) → plS Z' n = plS Z n
  | 0, _ => rfl
  | n + 1, h => by
    unfold plS
    rw [plS_c n (fun i hi => h i (by omega)), h n (by omega)]
theorem plS_gh {Z : hZ} {j : Nat} {x : Int32} (n : Nat) : plS (ghp Z j x) n = plS Z n := plS_c n (fun _ _ => rfl)
theorem HR_tr {Z Z' : hZ} {vs : Nat → Nat → Int32} {pl : Nat → pZ} {RW RW' : Nat → Nat → Int64} {cn rc d i : Nat} {F F' : mZ} {v : Nat → Int32} (h : HR Z vs pl RW cn rc d F) (hi : i < cn) (hrc : rc ≤ 511)
    (g0 : gh Z' 0 = gh Z 0) (g1 : gh Z' 1 = gh Z 1) (g2 : gh Z' 2 = nI (rc + 1)) (g3 : gr Z' = gr Z) (e1 : zh F' = zh F) (e4 : ze F' = ze F) (e5 : ∀ n, n ≠ i + 1 → ∀ k, k < 32 → tk F' n k = tk F n k)
    (hR : tkR v (tk F' (i + 1))) (hI : tI d v) (h17 : v 17 = vs i 17) (h4 : rC4 Z' pl d F') (h6 : rC6 Z' (vsW vs i v) pl cn) (hl : ∀ i, i < rc → RW' i = RW i) (h20 : RW' rc 20 = (gh Z 0).toInt64)
    (hz : RW' rc 0 = zc F' 0 ∧ RW' rc 1 = zc F' 1 ∧ RW' rc 2 = zc F' 2 ∧ RW' rc 3 = zc F' 3 ∧ RW' rc 5 = zc F' 4 ∧ RW' rc 7 = zc F' 5 ∧ RW' rc 13 = zc F' 6)
    (t8 : RW' rc 8 = tot RW rc 8 - (if vs i 0 = 0 then (vs i 1).toInt64 else 0) + (if v 0 = 0 then (v 1).toInt64 else 0))
    (t10 : RW' rc 10 = tot RW rc 10 - (if vs i 0 = 0 then 1 else 0) + (if v 0 = 0 then 1 else 0)) (t11 : RW' rc 11 = plS Z' 40) (t12 : RW' rc 12 = tot RW rc 12)
    (t0 : RW' rc 2 + RW' rc 13 + RW' rc 8 - RW' rc 0 = tot RW rc 2 + tot RW rc 13 + tot RW rc 8 - tot RW rc 0)
    (hg : ∀ day, sc_X0_grown RW' rc 17 day - sc_X0_grown RW' rc 14 day = (if v 0 = 0 then gF v day else 0) - (if vs i 0 = 0 then gF (vs i) day else 0))
    (hov : ∀ y, y < d → ∀ k, ovN (vsW vs i v) (nI y) k cn = ovN vs (nI y) k cn) : HR Z' (vsW vs i v) pl RW' cn (rc + 1) d F' := by
  obtain ⟨h1, h2, h3, _, _, h7, h8, h9⟩ := h
  have hd := h1.2.2.1
  have h20' : RW' rc 20 = lN d := by rw [h20, h1.1, nI_l (by omega)]
  refine ⟨?_, ?_, ?_, h4, h6, ?_, ?_, ?_⟩
  · refine ⟨g0.trans h1.1, by rw [e1]; exact h1.2.1, hd, g1.trans h1.2.2.2.1, by rw [e1]; exact h1.2.2.2.2.1, h1.2.2.2.2.2.1, g2, ?_⟩
    rw [e1, h1.2.2.2.2.2.2.2]
    by_cases e : cn - 1 = i
    · rw [e, vsW_eq, h17]
    · rw [vsW_ne e]
  · intro j hj
    rw [g3, e1]
    exact h2 j hj
  · refine ⟨fun j hj => ?_, fun n hn1 hn2 k hk => ?_⟩
    · by_cases e : j = i
      · rw [e, vsW_eq]; exact ⟨hR, hI⟩
      · rw [vsW_ne e]
        refine ⟨⟨fun k k1 k2 k3 => ?_, ?_, ?_⟩, (h3.1 j hj).2⟩
        · rw [e5 (j + 1) (by omega) k (by omega)]; exact (h3.1 j hj).1.1 k k1 k2 k3
        · rw [e5 (j + 1) (by omega) 16 (by decide)]; exact (h3.1 j hj).1.2.1
        · rw [e5 (j + 1) (by omega) 13 (by decide)]; exact (h3.1 j hj).1.2.2
    · rw [e5 n (by omega) k hk]; exact h3.2 n hn1 hn2 k hk
  · have q8 := h7.2.1
    have q10 := h7.2.2.1
    have q12 := h7.2.2.2.2.1
    have q0 := h7.2.2.2.2.2
    rw [prN_x] at q0
    refine ⟨?_, ?_, ?_, ?_, ?_, ?_⟩
    · rw [tot_s, tot_s, tot_s, tot_s, tot_s, tot_s, tot_s]; exact hz
    · rw [tot_s, t8, prN_w cn hi, q8]
    · rw [tot_s, t10, opS_w cn hi, q10]
    · rw [tot_s]; exact t11
    · rw [tot_s, t12]; exact q12
    · rw [tot_s, tot_s, tot_s, prN_x, prN_w cn hi, ← q8, ← t8]
      rw [q8] at t0
      grind
  · refine rC8_row h8 hl h20' (fun day => ?_)
    rw [hg day, gS_w cn hi]
    grind
  · exact rC9_row h9 e4 h1.1 (g0.trans h1.1) hd hrc hl h20' hov
/-- the places, where they are as they were -/
theorem rC4_c {Z Z' : hZ} {pl : Nat → pZ} {d : Nat} {F F' : mZ} (h : rC4 Z pl d F) (h1 : gp Z' = gp Z) (h2 : gb Z' = gb Z) (h3 : go Z' = go Z) (h4 : zs F' = zs F) : rC4 Z' pl d F' := fun p hp => by
  have : sh F' p = sh F p := funext fun k => by show zs F' _ = zs F _; rw [h4]
  rw [this, h1, h2, h3]
  exact h p hp
theorem rC6_c {Z Z' : hZ} {vs vs' : Nat → Nat → Int32} {pl : Nat → pZ} {cn : Nat} (h : rC6 Z vs pl cn) (h1 : gp Z' = gp Z) (h3 : go Z' = go Z) (hv : ∀ j, vs' j 0 = vs j 0 ∧ vs' j 15 = vs j 15 ∧ vs' j 19 = vs j 19) : rC6 Z' vs' pl cn := by
  refine ⟨fun j hj h0 => ?_, fun p hp => ?_⟩
  · rw [(hv j).1] at h0
    rw [(hv j).2.1, (hv j).2.2, h1, h3]
    exact h.1 j hj h0
  · rw [h3]
    rcases h.2 p hp with q | ⟨j, j1, j2, j3, j4⟩
    · exact Or.inl q
    · exact Or.inr ⟨j, j1, j2, by rw [(hv j).1]; exact j3, by rw [(hv j).2.1]; exact j4⟩
theorem vsW_k {vs : Nat → Nat → Int32} {i k : Nat} {v : Nat → Int32} (h : v k = vs i k) (j : Nat) : vsW vs i v j k = vs j k := by
  by_cases e : j = i
  · rw [e, vsW_eq]; exact h
  · rw [vsW_ne e]
theorem gF_w {RW : Nat → Nat → Int64} {rc o : Nat} {v : Nat → Int32} {day : Int32} (h0 : RW rc o = (v 4).toInt64) (h1 : RW rc (o + 1) = (sc_X11_cutUp (v 1) (v 6)).toInt64) (h2 : RW rc (o + 2) = (v 2).toInt64 - (sc_X11_cutUp (v 1) (v 6)).toInt64 * (v 3).toInt64) : sc_X0_grown RW rc o day = gF v day := by
  unfold sc_X0_grown gF
  rw [h1, h2, Nat.add_zero, h0]
theorem gF_z {RW : Nat → Nat → Int64} {rc o : Nat} {day : Int32} (h1 : RW rc (o + 1) = 0) (h2 : RW rc (o + 2) = 0) : sc_X0_grown RW rc o day = 0 := by
  unfold sc_X0_grown
  rw [h1, h2, Int64.zero_mul, Int64.add_zero]
section RP
variable {Z : hZ} {vs : Nat → Nat → Int32} {pl : Nat → pZ} {RW : Nat → Nat → Int64} {cn rc d i : Nat} {F : mZ}
theorem AO_idR {a : Int32} (h : HR Z vs pl RW cn rc d F) : ∃ rc', (rc ≤ rc' ∧ rc' ≤ rc + 1) ∧ AO F (a, zR F a) a Z (vsW vs i (vs i)) pl RW cn rc' d := ⟨rc, by omega, AO_id h⟩
/-- the half shown: the oath ends -/
theorem shown_z {F : mZ} {t half : Int32} : zh (sp_shown F t half) = zh F ∧ zs (sp_shown F t half) = zs F ∧ zc (sp_shown F t half) = zc F ∧ ze (sp_shown F t half) = ze F ∧ sameK F (sp_shown F t half) := by
  unfold sp_shown
  by_cases c : half = 0
  · rw [if_pos c]; exact ⟨rfl, rfl, rfl, rfl, kk_id⟩
  · rw [if_neg c]; exact ⟨rfl, rfl, rfl, rfl, kk_id⟩
theorem shown_tk {F : mZ} {n : Nat} {t half nm : Int32} {v w : Nat → Int32} (ht : tN t = n) (hv : tkR v (tk F n)) : tkR (sc_X9_endOathBy nm v half) (tk (sp_shown F t half) n) := by
  unfold sp_shown sc_X9_endOathBy
  by_cases c : half = 0
  · rw [if_pos c, if_pos c]; exact hv
  · rw [if_neg c, if_neg c, ht, tk_upd]; exact tkR_upd hv (by decide) (by decide) (by decide)
theorem shown_no {F : mZ} {n m k : Nat} {t half : Int32} (ht : tN t = n) (h : m ≠ n) (hk : k < 32) : tk (sp_shown F t half) m k = tk F m k := by
  unfold sp_shown
  by_cases c : half = 0
  · rw [if_pos c]
  · rw [if_neg c, ht]; exact tk_no h hk (by decide)
theorem oath_k {v : Nat → Int32} {nm half : Int32} {k : Nat} (h : k ≠ 18) : sc_X9_endOathBy nm v half k = v k := by
  unfold sc_X9_endOathBy
  by_cases c : half = 0
  · rw [if_pos c]
  · rw [if_neg c, upd_ne h]
theorem tI_oath {v : Nat → Int32} {nm half : Int32} (h : tI d v) : tI d (sc_X9_endOathBy nm v half) := by
  have hk : ∀ k, k ≠ 18 → sc_X9_endOathBy nm v half k = v k := fun k hk => oath_k hk
  exact ⟨tA_c h.1 (hk _ (by decide)) (hk _ (by decide)) (hk _ (by decide)) (hk _ (by decide)) (hk _ (by decide)) (hk _ (by decide)), tU_c h.2.1 (hk _ (by decide)) (hk _ (by decide)) (hk _ (by decide)) (hk _ (by decide)) (hk _ (by decide)), tO_c h.2.2.1 (hk _ (by decide)) (hk _ (by decide)) (hk _ (by decide)) (hk _ (by decide)), tB_c h.2.2.2 (hk _ (by decide)) (hk _ (by decide)) (hk _ (by decide)) (hk _ (by decide))⟩
end RP
