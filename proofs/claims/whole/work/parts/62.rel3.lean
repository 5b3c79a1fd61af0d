/-! acts on a ticket that change it alone -/
theorem tk_upd {Z : mZ} {n k : Nat} {v : Int32} : tk (tkp Z n k v) n = upd (tk Z n) k v := funext fun j => by
  show (if 32 * n + j = 32 * n + k then v else zt Z (32 * n + j)) = if j = k then v else zt Z (32 * n + j)
  by_cases e : j = k
  · rw [if_pos e, if_pos (by omega)]
  · rw [if_neg e, if_neg (by omega)]
theorem tkR_upd {v w : Nat → Int32} {k : Nat} {x : Int32} (h : tkR v w) (h1 : k ≤ 26) (h2 : k ≠ 13) (h3 : k ≠ 16) : tkR (upd v k x) (upd w k x) := by
  refine ⟨fun j j1 j2 j3 => ?_, ?_, ?_⟩
  · by_cases e : j = k
    · rw [e, upd_eq, upd_eq]
    · rw [upd_ne e, upd_ne e]; exact h.1 j j1 j2 j3
  · rw [upd_ne (show (28 : Nat) ≠ k by omega), upd_ne (show (16 : Nat) ≠ k by omega)]; exact h.2.1
  · rw [upd_ne (show (31 : Nat) ≠ k by omega), upd_ne (show (13 : Nat) ≠ k by omega)]; exact h.2.2
theorem tA_c {d : Nat} {v v' : Nat → Int32} (h : tA d v) (h0 : v' 0 = v 0) (h1 : v' 1 = v 1) (h2 : v' 2 = v 2) (h3 : v' 3 = v 3) (h4 : v' 4 = v 4) (h6 : v' 6 = v 6) : tA d v' := by
  unfold tA at h ⊢
  rw [h0, h1, h2, h3, h4, h6]
  exact h
theorem tU_c {d : Nat} {v v' : Nat → Int32} (h : tU d v) (h0 : v' 20 = v 20) (h1 : v' 21 = v 21) (h2 : v' 23 = v 23) (h3 : v' 24 = v 24) (h4 : v' 25 = v 25) : tU d v' := by
  unfold tU at h ⊢
  rw [h0, h1, h2, h3, h4]
  exact h
theorem tO_c {d : Nat} {v v' : Nat → Int32} (h : tO d v) (h0 : v' 0 = v 0) (h1 : v' 12 = v 12) (h2 : v' 30 = v 30) (h3 : v' 31 = v 31) : tO d v' := by
  unfold tO at h ⊢
  rw [h0, h1, h2, h3]
  exact h
theorem tB_c {v v' : Nat → Int32} (h : tB v) (h0 : v' 7 = v 7) (h1 : v' 19 = v 19) (h2 : v' 15 = v 15) (h3 : v' 10 = v 10) : tB v' := by
  unfold tB at h ⊢
  rw [h0, h1, h2, h3]
  exact h
section RL
variable {Z : hZ} {vs : Nat → Nat → Int32} {pl : Nat → pZ} {RW : Nat → Nat → Int64} {cn rc d i : Nat} {F : mZ}
theorem HR.tn (h : HR Z vs pl RW cn rc d F) (hi : i < cn) : tN (nI (i + 1)) = i + 1 := tN_n (by have := h.1.2.2.2.2.2.1; omega)
theorem AO_id {a : Int32} (h : HR Z vs pl RW cn rc d F) : AO F (a, zR F a) a Z (vsW vs i (vs i)) pl RW cn rc d := by rw [vsW_id]; exact AO_no h
theorem kk_id {F : mZ} : sameK F F := ⟨rfl, rfl, rfl, rfl, rfl, rfl⟩
theorem r_tear (h : HR Z vs pl RW cn rc d F) (hi : i < cn) (how : Int32) : AO F (sp_tear F (nI (i + 1)) how) (sc_X3_tearHalf (nI (i + 1)) (vs i) Z how).1 (sc_X3_tearHalf (nI (i + 1)) (vs i) Z how).2.2 (vsW vs i (sc_X3_tearHalf (nI (i + 1)) (vs i) Z how).2.1) pl RW cn rc d := by
  have ht := h.2.2.1.1 i hi
  unfold sp_tear sc_X3_tearHalf sc_X9_isTorn sc_X9_tearAll sc_X9_tearAllButNumber
  rw [if_neg (h.isT hi), h.tn hi]
  have key : ∀ x y : Int32, (x = 1 ∧ y = 1) ∨ (x = 2 ∧ y = 0) → HR Z (vsW vs i (upd (vs i) 28 x)) pl RW cn rc d (tkp F (i + 1) 16 y) := fun x y hxy => by
    refine HR_loc h hi (fun k hk => upd_ne (by omega)) ?_ ⟨tA_c ht.2.1 rfl rfl rfl rfl rfl rfl, tU_c ht.2.2.1 rfl rfl rfl rfl rfl, tO_c ht.2.2.2.1 rfl rfl rfl rfl, tB_c ht.2.2.2.2 rfl rfl rfl rfl⟩ rfl rfl rfl rfl (fun n hn k hk => tk_no hn hk (by decide))
    rw [tk_upd]
    refine ⟨fun k k1 k2 k3 => ?_, ?_, ?_⟩
    · rw [upd_ne k3, upd_ne (show k ≠ 28 by omega)]; exact ht.1.1 k k1 k2 k3
    · rw [upd_eq, upd_eq]
      rcases hxy with ⟨a, b⟩ | ⟨a, b⟩
      · exact Or.inr (Or.inl ⟨a, b⟩)
      · exact Or.inr (Or.inr ⟨a, b⟩)
    · exact ht.1.2.2
  rcases ht.1.2.1 with ⟨e1, e2⟩ | ⟨e1, e2⟩ | ⟨e1, e2⟩
  · rw [e1, e2, if_pos rfl, if_pos rfl, if_pos rfl]
    by_cases c0 : how = 0
    · rw [if_pos c0, if_pos c0, c0]
      exact ⟨rfl, key 2 0 (Or.inr ⟨rfl, rfl⟩), kk_id, rfl⟩
    · rw [if_neg c0, if_neg c0]
      by_cases c1 : how = 1
      · rw [if_pos c1, if_pos c1, c1]
        exact ⟨rfl, key 1 1 (Or.inl ⟨rfl, rfl⟩), kk_id, rfl⟩
      · rw [if_neg c1, if_neg c1]
        exact AO_id h
  · rw [e1, e2, if_neg (show ¬ (1 : Int32) = -1 by decide), if_neg (show ¬ (if (1 : Int32) = 0 then (0 : Int32) else 1) = 0 by decide)]
    exact AO_id h
  · rw [e1, e2, if_neg (show ¬ (0 : Int32) = -1 by decide), if_neg (show ¬ (if (2 : Int32) = 0 then (0 : Int32) else 1) = 0 by decide)]
    exact AO_id h
theorem r_oath (h : HR Z vs pl RW cn rc d F) (hi : i < cn) : AO F (sp_oath F (nI (i + 1))) (sc_X3_hearOath (nI (i + 1)) (vs i) Z).1 (sc_X3_hearOath (nI (i + 1)) (vs i) Z).2.2 (vsW vs i (sc_X3_hearOath (nI (i + 1)) (vs i) Z).2.1) pl RW cn rc d := by
  have ht := h.2.2.1.1 i hi
  unfold sp_oath sc_X3_hearOath
  rw [if_neg (h.isT hi), h.tn hi, h.opn hi, ← h.today]
  by_cases c0 : sc_X9_isOpen (nI (i + 1)) (vs i) = 0
  · rw [if_pos c0, if_pos c0]; exact AO_id h
  · rw [if_neg c0, if_neg c0]
    refine ⟨rfl, ?_, kk_id, rfl⟩
    refine HR_loc (F' := zR (tkp F (i + 1) 18 (gh Z 0)) 0) h hi (fun k hk => upd_ne (by omega)) ?_ ⟨tA_c ht.2.1 rfl rfl rfl rfl rfl rfl, tU_c ht.2.2.1 rfl rfl rfl rfl rfl, tO_c ht.2.2.2.1 rfl rfl rfl rfl, tB_c ht.2.2.2.2 rfl rfl rfl rfl⟩ rfl rfl rfl rfl (fun n hn k hk => tk_no hn hk (by decide))
    show tkR _ (tk (tkp F (i + 1) 18 (gh Z 0)) (i + 1))
    rw [tk_upd]
    exact tkR_upd ht.1 (by decide) (by decide) (by decide)
theorem r_claim (h : HR Z vs pl RW cn rc d F) (hi : i < cn) : AO F (sp_claim F (nI (i + 1))) (sc_X3_raiseClaim (nI (i + 1)) (vs i) Z).1 (sc_X3_raiseClaim (nI (i + 1)) (vs i) Z).2.2 (vsW vs i (sc_X3_raiseClaim (nI (i + 1)) (vs i) Z).2.1) pl RW cn rc d := by
  have ht := h.2.2.1.1 i hi
  unfold sp_claim sc_X3_raiseClaim
  rw [if_neg (h.isT hi), h.tn hi, h.opn hi, h.claimed hi, ← h.today]
  by_cases c0 : sc_X9_isOpen (nI (i + 1)) (vs i) = 0
  · rw [if_pos c0, if_pos c0]; exact AO_id h
  · rw [if_neg c0, if_neg c0]
    by_cases c1 : sc_X9_isClaimed (nI (i + 1)) (vs i) = 0
    · rw [if_pos c1, if_pos c1]
      refine ⟨rfl, ?_, kk_id, rfl⟩
      refine HR_loc (F' := zR (tkp (tkp F (i + 1) 8 (gh Z 0)) (i + 1) 20 (-1)) 0) h hi (fun k hk => (upd_ne (by omega)).trans (upd_ne (by omega))) ?_ ⟨tA_c ht.2.1 rfl rfl rfl rfl rfl rfl, Or.inl rfl, tO_c ht.2.2.2.1 rfl rfl rfl rfl, tB_c ht.2.2.2.2 rfl rfl rfl rfl⟩ rfl rfl rfl rfl (fun n hn k hk => (tk_no hn hk (by decide)).trans (tk_no hn hk (by decide)))
      show tkR _ (tk (tkp (tkp F (i + 1) 8 (gh Z 0)) (i + 1) 20 (-1)) (i + 1))
      rw [tk_upd, tk_upd]
      exact tkR_upd (tkR_upd ht.1 (by decide) (by decide) (by decide)) (by decide) (by decide) (by decide)
    · rw [if_neg c1, if_neg c1]; exact AO_id h
theorem r_drop (h : HR Z vs pl RW cn rc d F) (hi : i < cn) : AO F (sp_drop F (nI (i + 1))) (sc_X3_dropClaim (nI (i + 1)) (vs i) Z).1 (sc_X3_dropClaim (nI (i + 1)) (vs i) Z).2.2 (vsW vs i (sc_X3_dropClaim (nI (i + 1)) (vs i) Z).2.1) pl RW cn rc d := by
  have ht := h.2.2.1.1 i hi
  unfold sp_drop sc_X3_dropClaim sc_X3_whyNotClaimed
  rw [if_neg (h.isT hi), h.opn hi, h.claimed hi]
  by_cases c0 : sc_X9_isOpen (nI (i + 1)) (vs i) = 0
  · rw [if_pos c0, if_pos c0, if_neg (by decide)]; exact AO_id h
  · rw [if_neg c0, if_neg c0]
    by_cases c1 : sc_X9_isClaimed (nI (i + 1)) (vs i) = 0
    · rw [if_pos c1, if_pos c1, if_neg (by decide)]; exact AO_id h
    · rw [if_neg c1, if_neg c1, if_pos rfl]
      unfold sp_dropped sc_X9_endClaim
      rw [h.claims hi, h.tn hi]
      have e9 : tk (tkp (tkp F (i + 1) 9 (sc_X9_claimedDaysIfDropped (nI (i + 1)) (vs i) (gh Z 0))) (i + 1) 8 (-1)) (i + 1) 9 = sc_X9_claimedDaysIfDropped (nI (i + 1)) (vs i) (gh Z 0) := (tk_ne (by decide)).trans tk_eq
      rw [e9]
      refine ⟨rfl, ?_, kk_id, rfl⟩
      refine HR_loc (F' := zR (tkp (tkp F (i + 1) 9 (sc_X9_claimedDaysIfDropped (nI (i + 1)) (vs i) (gh Z 0))) (i + 1) 8 (-1)) _) h hi (fun k hk => (upd_ne (by omega)).trans (upd_ne (by omega))) ?_ ⟨tA_c ht.2.1 rfl rfl rfl rfl rfl rfl, tU_c ht.2.2.1 rfl rfl rfl rfl rfl, tO_c ht.2.2.2.1 rfl rfl rfl rfl, tB_c ht.2.2.2.2 rfl rfl rfl rfl⟩ rfl rfl rfl rfl (fun n hn k hk => (tk_no hn hk (by decide)).trans (tk_no hn hk (by decide)))
      show tkR _ (tk (tkp (tkp F (i + 1) 9 (sc_X9_claimedDaysIfDropped (nI (i + 1)) (vs i) (gh Z 0))) (i + 1) 8 (-1)) (i + 1))
      rw [tk_upd, tk_upd]
      exact tkR_upd (tkR_upd ht.1 (by decide) (by decide) (by decide)) (by decide) (by decide) (by decide)
theorem r_forfeit (h : HR Z vs pl RW cn rc d F) (hi : i < cn) : AO F (sp_forfeit F (nI (i + 1))) (sc_X3_makeForfeit (nI (i + 1)) (vs i) Z).1 (sc_X3_makeForfeit (nI (i + 1)) (vs i) Z).2.2 (vsW vs i (sc_X3_makeForfeit (nI (i + 1)) (vs i) Z).2.1) pl RW cn rc d := by
  have ht := h.2.2.1.1 i hi
  unfold sp_forfeit sc_X3_makeForfeit
  rw [if_neg (h.isT hi), h.free hi, h.claimed hi, h.first hi, ← h.today]
  by_cases c0 : sc_X9_isHolders (nI (i + 1)) (vs i) = 0
  · rw [if_pos c0, if_pos c0]; exact AO_id h
  · rw [if_neg c0, if_neg c0]
    by_cases c1 : sc_X9_isClaimed (nI (i + 1)) (vs i) = 0
    · rw [if_pos c1, if_pos c1]
      by_cases c2 : sc_X9_forfeitDay (nI (i + 1)) (vs i) (gh Z 0) (gr Z 0) ≤ gh Z 0
      · rw [if_pos c2, if_pos c2, h.tn hi]
        have ho : sp_owed (tkp F (i + 1) 7 1) (nI (i + 1)) = sc_X9_owed (nI (i + 1)) (upd (vs i) 7 1) := by
          unfold sp_owed sc_X9_owed
          rw [h.tn hi, tk_upd, upd_ne (by decide), upd_ne (by decide), upd_ne (by decide), upd_ne (by decide), ht.1.1 1 (by decide) (by decide) (by decide), ht.1.1 2 (by decide) (by decide) (by decide)]
        rw [ho]
        refine ⟨rfl, ?_, kk_id, rfl⟩
        refine HR_loc (F' := zR (tkp F (i + 1) 7 1) _) h hi (fun k hk => upd_ne (by omega)) ?_ ⟨tA_c ht.2.1 rfl rfl rfl rfl rfl rfl, tU_c ht.2.2.1 rfl rfl rfl rfl rfl, tO_c ht.2.2.2.1 rfl rfl rfl rfl, ⟨Or.inr rfl, ht.2.2.2.2.2⟩⟩ rfl rfl rfl rfl (fun n hn k hk => tk_no hn hk (by decide))
        show tkR _ (tk (tkp F (i + 1) 7 1) (i + 1))
        rw [tk_upd]
        exact tkR_upd ht.1 (by decide) (by decide) (by decide)
      · rw [if_neg c2, if_neg c2]; exact AO_id h
    · rw [if_neg c1, if_neg c1]; exact AO_id h
theorem r_bid (h : HR Z vs pl RW cn rc d F) (hi : i < cn) (coins : Int32) : AO F (sp_bid F (nI (i + 1)) coins) (sc_X3_hearBid (nI (i + 1)) (vs i) Z coins).1 (sc_X3_hearBid (nI (i + 1)) (vs i) Z coins).2.2 (vsW vs i (sc_X3_hearBid (nI (i + 1)) (vs i) Z coins).2.1) pl RW cn rc d := by
  have ht := h.2.2.1.1 i hi
  unfold sp_bid sc_X3_hearBid
  rw [if_neg (h.isT hi), h.forf hi, h.tkv hi (k := 11) (by decide) (by decide) (by decide), h.tkv hi (k := 10) (by decide) (by decide) (by decide), h.tn hi]
  by_cases c0 : sc_X9_isForSale (nI (i + 1)) (vs i) = 0
  · rw [if_pos c0, if_pos c0]; exact AO_id h
  · rw [if_neg c0, if_neg c0]
    by_cases c1 : coins < 1
    · rw [if_pos c1, if_pos c1]; exact AO_id h
    · rw [if_neg c1, if_neg c1]
      by_cases c2 : coins ≤ 10000000
      · rw [if_pos c2, if_pos c2]
        refine ⟨rfl, ?_, kk_id, rfl⟩
        refine HR_loc (F' := zR (tkp (tkp F (i + 1) 11 (vs i 11 + 1)) (i + 1) 10 (if vs i 10 < coins then coins else vs i 10)) _) h hi (fun k hk => (upd_ne (by omega)).trans (upd_ne (by omega))) ?_ ⟨tA_c ht.2.1 rfl rfl rfl rfl rfl rfl, tU_c ht.2.2.1 rfl rfl rfl rfl rfl, tO_c ht.2.2.2.1 rfl rfl rfl rfl, ⟨ht.2.2.2.2.1, ht.2.2.2.2.2.1, ht.2.2.2.2.2.2.1, ?_⟩⟩ rfl rfl rfl rfl (fun n hn k hk => (tk_no hn hk (by decide)).trans (tk_no hn hk (by decide)))
        · show tkR _ (tk (tkp (tkp F (i + 1) 11 (vs i 11 + 1)) (i + 1) 10 (if vs i 10 < coins then coins else vs i 10)) (i + 1))
          rw [tk_upd, tk_upd]
          exact tkR_upd (tkR_upd ht.1 (by decide) (by decide) (by decide)) (by decide) (by decide) (by decide)
        · show ∃ hb : Nat, (if vs i 10 < coins then coins else vs i 10) = nI hb ∧ hb ≤ 10000000
          by_cases c3 : vs i 10 < coins
          · rw [if_pos c3]
            have h0 : ¬ coins < 0 := fun z => c1 (by
              rw [Int32.lt_iff_toInt_lt] at z ⊢
              have e0 : (0 : Int32).toInt = 0 := by decide
              have e1 : (1 : Int32).toInt = 1 := by decide
              omega)
            obtain ⟨j, hj, rfl⟩ := nI_of (x := coins) h0
            exact ⟨j, rfl, (nI_leI (a := j) (b := 10000000) hj (by omega)).mp c2⟩
          · rw [if_neg c3]; exact ht.2.2.2.2.2.2.2
      · rw [if_neg c2, if_neg c2]; exact AO_id h
end RL
