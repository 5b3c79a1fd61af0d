/-! taking an item out; lending -/
section RO
variable {Z Z' : hZ} {vs : Nat → Nat → Int32} {pl : Nat → pZ} {RW RW' : Nat → Nat → Int64} {cn rc d i p : Nat} {F F' : mZ} {P : pZ}
theorem lotN_w {v : Nat → Int32} {k : Nat} (hk : ¬ v k = 0) : ∀ n, lotN (upd v k 0) n = if k < n then lotN v n - 1 else lotN v n
  | 0 => by rw [if_neg (Nat.not_lt_zero k)]; rfl
  | n + 1 => by
    unfold lotN
    rw [lotN_w hk n]
    by_cases e : n = k
    · subst e
      rw [upd_eq, if_pos rfl, if_neg hk, if_neg (Nat.lt_irrefl _), if_pos (Nat.lt_succ_self _)]
      grind
    · rw [upd_ne e]
      by_cases c : k < n
      · rw [if_pos c, if_pos (show k < n + 1 by omega)]
        by_cases y : v n = 0
        · rw [if_pos y, if_pos y]
        · rw [if_neg y, if_neg y]; grind
      · rw [if_neg c, if_neg (show ¬ k < n + 1 by omega)]
theorem lotS_w {v : Nat → Int32} {k : Nat} : ∀ n, lotS (upd v k 0) n = if k < n then lotS v n - v k else lotS v n
  | 0 => by rw [if_neg (Nat.not_lt_zero k)]; rfl
  | n + 1 => by
    unfold lotS
    rw [lotS_w n]
    by_cases e : n = k
    · subst e
      rw [upd_eq, if_neg (Nat.lt_irrefl _), if_pos (Nat.lt_succ_self _)]
      grind
    · rw [upd_ne e]
      by_cases c : k < n
      · rw [if_pos c, if_pos (show k < n + 1 by omega)]
        grind
      · rw [if_neg c, if_neg (show ¬ k < n + 1 by omega)]
theorem part_n (h : HR Z vs pl RW cn rc d F) {kd m : Nat} (hk : kd ≤ 4) (hm : m ≤ 10000000) : ∃ r : Nat, zh F (3 + (9 + kd)) = nI r ∧ r ≤ 1000 ∧ sc_X3_partOf Z (nI kd) (nI m) = nI (m * r / 1000) := by
  have q := h.2.1 (9 + kd) (by omega)
  obtain ⟨r, er, hr⟩ := q.2
  have hr : r ≤ 1000 := Nat.le_trans hr (by
    have : kd = 0 ∨ kd = 1 ∨ kd = 2 ∨ kd = 3 ∨ kd = 4 := by omega
    rcases this with rfl | rfl | rfl | rfl | rfl <;> decide)
  have hmr : m * r ≤ 10000000 * 1000 := Nat.mul_le_mul hm hr
  refine ⟨r, q.1.symm.trans er, hr, ?_⟩
  unfold sc_X3_partOf
  rw [show (9 : Int32) + nI kd = nI (9 + kd) from nI_add 9 kd, if_neg (show ¬ nI (9 + kd) < 9 from fun z => absurd ((nI_ltI (a := 9 + kd) (b := 9) (by omega) (by omega)).mp z) (by omega)), if_neg (show ¬ (14 : Int32) ≤ nI (9 + kd) from fun z => absurd ((nI_leI (a := 14) (b := 9 + kd) (by omega) (by omega)).mp z) (by omega)), tN_n (by omega), er, nI_l (by omega), nI_l (by omega), lN_mul, show (1000 : Int64) = lN 1000 from rfl, pk_lDiv (by omega) (by decide) (by decide), lN_i]
set_option maxHeartbeats 800000 in
theorem r_out (h : HR Z vs pl RW cn rc d F) (hi : i < cn) (q n : Nat → Nat) (half item : Int32) (hs : gp Z (tN (vs i 15)) ≠ none) : ∃ pl', ((pl' = pl ∧ (sc_X3_takeItemOut (nI (i + 1)) (vs i) Z q (pl (tN (vs i 15))) n half item).2.2.1 = Z) ∨ ∃ P, (sc_X3_takeItemOut (nI (i + 1)) (vs i) Z q (pl (tN (vs i 15))) n half item).2.2.2 = some P ∧ pl' = plW pl (tN (vs i 15)) P ∧ (sc_X3_takeItemOut (nI (i + 1)) (vs i) Z q (pl (tN (vs i 15))) n half item).2.2.1 = gpp Z (tN (vs i 15)) (some (n 0))) ∧ AO F (sp_out F (nI (i + 1)) half item) (sc_X3_takeItemOut (nI (i + 1)) (vs i) Z q (pl (tN (vs i 15))) n half item).1 (sc_X3_takeItemOut (nI (i + 1)) (vs i) Z q (pl (tN (vs i 15))) n half item).2.2.1 (vsW vs i (sc_X3_takeItemOut (nI (i + 1)) (vs i) Z q (pl (tN (vs i 15))) n half item).2.1) pl' RW cn rc d := by
  have ht := h.2.2.1.1 i hi
  have hd := h.1.2.2.1
  obtain ⟨p, e15, hp⟩ := ht.2.2.2.2.2.2.1
  have etp : tN (vs i 15) = p := by rw [e15]; exact tN_n (by omega)
  unfold sp_out sc_X3_takeItemOut
  rw [if_neg (h.isT hi), h.free hi, h.claimed hi, h.right hi, h.owed hi, h.tkv hi (k := 15) (by decide) (by decide) (by decide), h.tkv hi (k := 19) (by decide) (by decide) (by decide), h.tn hi, etp]
  rw [etp] at hs
  by_cases c0 : item < 0
  · rw [if_pos c0, if_pos c0]; exact ⟨pl, Or.inl ⟨rfl, rfl⟩, AO_id h⟩
  rw [if_neg c0, if_neg c0]
  by_cases c1 : item < 6
  rotate_left
  · rw [if_neg c1, if_neg c1]; exact ⟨pl, Or.inl ⟨rfl, rfl⟩, AO_id h⟩
  rw [if_pos c1, if_pos c1]
  obtain ⟨it, hit, eit⟩ := nI_of (x := item) c0
  have hit6 : it < 6 := by rw [eit] at c1; exact (nI_ltI (a := it) (b := 6) hit (by omega)).mp c1
  have etn : tN item = it := by rw [eit]; exact tN_n hit
  by_cases c2 : sc_X9_isHolders (nI (i + 1)) (vs i) = 0
  · have e : sc_X3_lotUnder (nI (i + 1)) (vs i) q (pl p) Z = none := by unfold sc_X3_lotUnder; rw [if_pos c2]
    rw [if_pos c2, if_pos e]; exact ⟨pl, Or.inl ⟨rfl, rfl⟩, AO_id h⟩
  rw [if_neg c2]
  have ho := hold_op c2
  obtain ⟨o1, o2, o3, o4⟩ := h.onp hi ho hp e15
  by_cases c3 : (pl p).1 = 2
  rotate_left
  · have e : sc_X3_lotUnder (nI (i + 1)) (vs i) q (pl p) Z = none := by unfold sc_X3_lotUnder; rw [if_neg c2, e15, if_neg (isp_0 hp), if_neg c3]
    have hk4 : (pl p).1 ≤ 4 := by
      rcases h.kind0 hp with ⟨a, _⟩ | ⟨a, _⟩ | ⟨_, _, _, e2, _⟩
      · exact absurd a o1
      · exact absurd a o1
      · exact e2
    rw [o3, if_neg (show ¬ nI (pl p).1 = 2 from fun z => c3 ((nI_k4 (by omega) (j := 2) (by omega)).mp z)), if_pos e]; exact ⟨pl, Or.inl ⟨rfl, rfl⟩, AO_id h⟩
  have e : ¬ sc_X3_lotUnder (nI (i + 1)) (vs i) q (pl p) Z = none := by unfold sc_X3_lotUnder; rw [if_neg c2, e15, if_neg (isp_0 hp), if_pos c3]; simp
  rw [o3, if_pos (show nI (pl p).1 = 2 by rw [c3]; rfl), if_neg e]
  have e3 : plR d (pl p) (sh F p) := by
    rcases h.kind0 hp with ⟨a, _⟩ | ⟨a, _⟩ | ⟨_, _, _, _, e3⟩
    · exact absurd a o1
    · exact absurd a o1
    · exact e3
  have e0 : sh F p 0 = 2 := by
    rcases h.kind0 hp with ⟨a, _⟩ | ⟨a, _⟩ | ⟨_, _, e0, _, _⟩
    · exact absurd a o1
    · exact absurd a o1
    · rw [e0, c3]; rfl
  obtain ⟨w6, w7, w8, ⟨mm, em, hm6⟩, hv⟩ := plR2 e3 c3
  obtain ⟨ev, x, ex, hx⟩ := hv it hit6
  unfold sc_X4_holds
  rw [if_neg c0, if_neg (show ¬ (6 : Int32) ≤ item from Int32.not_le.mpr c1), etn, ev]
  by_cases c4 : (pl p).2.1 it = 0
  · rw [if_pos c4, if_pos c4, if_pos rfl]; exact ⟨pl, Or.inl ⟨rfl, rfl⟩, AO_id h⟩
  rw [if_neg c4, if_neg c4, if_neg (by decide)]
  by_cases c5 : sc_X9_isClaimed (nI (i + 1)) (vs i) = 0
  rotate_left
  · have e : sc_X3_whyNotHolders (nI (i + 1)) (vs i) Z half = -3 := by unfold sc_X3_whyNotHolders; rw [if_neg c2, if_neg c5]
    rw [if_neg c5, e, if_neg (by decide)]; exact ⟨pl, Or.inl ⟨rfl, rfl⟩, AO_id h⟩
  rw [if_pos c5]
  by_cases c6 : sc_X9_isRight (nI (i + 1)) (vs i) half (gh Z 0) = 0
  · have e : sc_X3_whyNotHolders (nI (i + 1)) (vs i) Z half = -4 := by unfold sc_X3_whyNotHolders; rw [if_neg c2, if_pos c5, if_pos c6]
    rw [if_pos c6, e, if_neg (by decide)]; exact ⟨pl, Or.inl ⟨rfl, rfl⟩, AO_id h⟩
  have ew : sc_X3_whyNotHolders (nI (i + 1)) (vs i) Z half = 0 := by unfold sc_X3_whyNotHolders; rw [if_neg c2, if_pos c5, if_neg c6]
  rw [if_neg c6, if_pos ew]
  have ewo : sc_X4_withoutItem (pl p).2.1 item = upd (pl p).2.1 it 0 := by
    unfold sc_X4_withoutItem
    rw [if_neg c0, if_neg (Int32.not_le.mpr c1), etn]
  have eit2 : sp_items F (vs i 15) = lotN (pl p).2.1 6 := by
    unfold sp_items
    rw [etp]
    exact itm_n (w := (pl p).2.1) F p hv 6 (by decide)
  have ecn : sc_X4_itemCount (upd (pl p).2.1 it 0) = lotN (pl p).2.1 6 - 1 := by
    unfold sc_X4_itemCount
    rw [lotN_w c4 6, if_pos hit6]
  rw [ewo, eit2, ecn]
  by_cases c7 : lotN (pl p).2.1 6 = 1
  · rw [if_pos c7, c7, if_pos (by decide)]; exact ⟨pl, Or.inl ⟨rfl, rfl⟩, AO_id h⟩
  rw [if_neg c7, if_neg (show ¬ lotN (pl p).2.1 6 - 1 = 0 from fun z => c7 (by grind))]
  -- what the rest is worth
  obtain ⟨m, m1, m2, m3⟩ := lot_n (w := (pl p).2.1) F p hv 6 (by decide)
  have hv' : ∀ k, k < 6 → sh (shp F p (9 + it) 0) p (9 + k) = upd (pl p).2.1 it 0 k ∧ ∃ x : Nat, upd (pl p).2.1 it 0 k = nI x ∧ x ≤ 1000000 := fun k hk => by
    by_cases z : k = it
    · subst z; rw [sh_eq, upd_eq]; exact ⟨rfl, 0, rfl, by omega⟩
    · rw [sh_ne (by omega), upd_ne z]; exact hv k hk
  obtain ⟨m', m1', m2', m3'⟩ := lot_n (w := (pl p).2.1) (shp F p (9 + it) 0) p hv' 6 (by decide)
  have emm : m = m' + x := by
    rw [lotS_w 6, if_pos hit6, m2, ex] at m2'
    have a := congrArg Int32.toInt m2'
    rw [pk_sub_toInt (by omega) (by omega), nI_toInt (by omega)] at a
    omega
  have ewth : sp_worth F (vs i 15) = lN m := by
    unfold sp_worth
    rw [etp, e0, if_neg (by decide), if_neg (by decide), if_pos rfl, m3]
  have esub : sp_worth F (vs i 15) - ((pl p).2.1 it).toInt64 = lN m' := by
    rw [ewth, ex, nI_l (by omega), lN_sub (by omega), emm, Nat.add_sub_cancel]
  have ewn : sc_X3_worthOf (2, upd (pl p).2.1 it 0, 0) Z = nI m' := m2'
  rw [esub, ewn, lN_i]
  obtain ⟨r, er, hr, epart⟩ := part_n h (kd := 2) (m := m') (by omega) (by omega)
  have hmr : m' * r ≤ 6000000 * 1000 := Nat.mul_le_mul (by omega) hr
  have epart' : sc_X3_partOf Z 2 (nI m') = nI (m' * r / 1000) := epart
  have er' : zh F 14 = nI r := er
  obtain ⟨s, b, pr, rr, xx, e4, e3', e1, e6, e2, q1, q2, q3, q4, q5, q6, q7⟩ := ht.2.1
  have eow : sc_X9_owed (nI (i + 1)) (vs i) = nI (pr + xx) := by unfold sc_X9_owed; rw [e1, e2, nI_add]
  rw [epart', er', eow, nI_l (n := r) (by omega), lN_mul, show (1000 : Int64) = lN 1000 from rfl, pk_lDiv (by omega) (by decide) (by decide), nI_l (n := pr + xx) (by omega)]
  by_cases c8 : pr + xx ≤ m' * r / 1000
  rotate_left
  · rw [if_neg (fun z => c8 ((lN_le (by omega) (by omega)).mp z)), if_neg (fun z => c8 ((nI_leI (by omega) (by omega)).mp z))]; exact ⟨pl, Or.inl ⟨rfl, rfl⟩, AO_id h⟩
  rw [if_pos ((lN_le (by omega) (by omega)).mpr c8), if_pos ((nI_leI (by omega) (by omega)).mpr c8)]
  refine ⟨plW pl p (2, upd (pl p).2.1 it 0, 0), Or.inr ⟨_, rfl, rfl, rfl⟩, rfl, ?_, ?_, rfl⟩
  · -- first the place, then the ticket
    have h1 : HR (gpp Z p (some (n 0))) vs (plW pl p (2, upd (pl p).2.1 it 0, 0)) RW cn rc d (shp F p (9 + it) 0) := by
      refine HR_sh h rfl rfl rfl (fun q hq => ⟨gp_gpp_ne hq, rfl⟩) ?_ (Or.inr ⟨by rw [gp_gpp_eq]; simp, c3.symm⟩) rfl rfl rfl rfl (fun q hq k hk => sh_no hq hk (by omega)) ?_
      · rw [gp_gpp_eq]; exact ⟨fun z => by simp at z, fun z => absurd z hs⟩
      · rw [gp_gpp_eq, gb_gpp, go_gpp]
        refine ⟨(sh_ne (by omega)).trans (h.on1 hp), o4, ?_, ?_⟩
        · rw [sh_ne (by omega), e0]; rfl
        · refine ⟨(sh_ne (by omega)).trans w6, (sh_ne (by omega)).trans w7, ?_, ⟨mm, (upd_ne (by omega)).trans em, hm6⟩, hv'⟩
          rw [sh_ne (by omega), w8]
          exact (upd_ne (by omega)).symm
    have hT1 : tkR (upd (vs i) 20 (-1)) (tk (tkp (shp F p (9 + it) 0) (i + 1) 20 (-1)) (i + 1)) := by
      rw [tk_upd]
      exact tkR_upd ht.1 (by decide) (by decide) (by decide)
    have hT := shown_tk (nm := nI (i + 1)) (half := half) (w := vs i) (h.tn hi) hT1
    have hz := shown_z (F := tkp (shp F p (9 + it) 0) (i + 1) 20 (-1)) (t := nI (i + 1)) (half := half)
    have hI1 : tI d (upd (vs i) 20 (-1)) := ⟨tA_c ht.2.1 rfl rfl rfl rfl rfl rfl, Or.inl rfl, tO_c ht.2.2.2.1 rfl rfl rfl rfl, tB_c ht.2.2.2.2 rfl rfl rfl rfl⟩
    refine HR_loc (v := sc_X9_endOathBy (nI (i + 1)) (upd (vs i) 20 (-1)) half) (F' := zR (sp_shown (tkp (shp F p (9 + it) 0) (i + 1) 20 (-1)) (nI (i + 1)) half) _) h1 hi (fun k hk => (oath_k (by omega)).trans (upd_ne (by omega))) hT (tI_oath (nm := nI (i + 1)) hI1) hz.1 hz.2.1 hz.2.2.1 hz.2.2.2.1 (fun n hn k hk => ?_)
    exact (shown_no (h.tn hi) hn hk).trans (tk_no hn hk (by decide))
  · exact (shown_z (F := tkp (shp F p (9 + it) 0) (i + 1) 20 (-1)) (t := nI (i + 1)) (half := half)).2.2.2.2
theorem r_out_p (h : HR Z vs pl RW cn rc d F) (hi : i < cn) (half item : Int32) (hs : gp Z (tN (vs i 15)) = none) : AO F (sp_out F (nI (i + 1)) half item) (sc_X3_takeItemOut_p (nI (i + 1)) (vs i) Z half item) Z vs pl RW cn rc d := by
  have ht := h.2.2.1.1 i hi
  obtain ⟨p, e15, hp⟩ := ht.2.2.2.2.2.2.1
  unfold sp_out sc_X3_takeItemOut_p
  rw [if_neg (h.isT hi), h.free hi]
  by_cases c0 : item < 0
  · rw [if_pos c0, if_pos c0]; exact AO_no h
  rw [if_neg c0, if_neg c0]
  by_cases c1 : item < 6
  · have c2 : sc_X9_isHolders (nI (i + 1)) (vs i) = 0 := by
      by_cases z : sc_X9_isHolders (nI (i + 1)) (vs i) = 0
      · exact z
      · rw [e15, tN_n (by omega)] at hs
        exact absurd hs (h.onp hi (hold_op z) hp e15).1
    rw [if_pos c1, if_pos c1, if_pos c2]; exact AO_no h
  · rw [if_neg c1, if_neg c1]; exact AO_no h
end RO
