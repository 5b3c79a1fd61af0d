/-! a house becomes as another (by cwalk.py) -/
set_option maxHeartbeats 4000000 in
set_option maxRecDepth 100000 in
theorem cC_X3_become (l : Launch) (D : va_G) (cs : Nat → ClassId) (k a a2 : Nat → Nat) (Z Z2 : hZ) (bs bs2 : Nat → Nat → Nat) (nms : Nat → Int32) (vs vs2 : Nat → Nat → Int32) (n2 sz : Nat) (ia : iH a) (ia2 : iH a2) (daa : ∀ x, pH a x → ¬ pH a2 x) (hn2 : gh Z2 1 = nI n2) (hc : n2 ≤ 511) (hgt2 : ∀ i, i < n2 → gt Z2 i = some (bs2 i 0)) (hgo : ∀ i, i < 511 → gt Z i = some (bs i 0) ∨ gt Z i = none) (ibs : ∀ i, i < 511 → gt Z i = some (bs i 0) → iT (bs i)) (dS : ∀ j j', j < 511 → j' < 511 → j ≠ j' → gt Z j = some (bs j 0) → gt Z j' = some (bs j' 0) → ∀ x, pT (bs j) x → ¬ pT (bs j') x) (dSH : ∀ j, j < 511 → gt Z j = some (bs j 0) → ∀ x, pT (bs j) x → ¬ pH a x) (dS2 : ∀ j, j < 511 → gt Z j = some (bs j 0) → ∀ x, pT (bs j) x → ¬ pH a2 x) (d2a : ∀ i, i < n2 → ∀ x, pT (bs2 i) x → ¬ pH a x) (d2b : ∀ i, i < n2 → ∀ x, pT (bs2 i) x → ¬ pH a2 x) (d2S : ∀ i j, i < n2 → j < 511 → gt Z j = some (bs j 0) → ∀ x, pT (bs2 i) x → ¬ pT (bs j) x) (hz7 : ∀ i, i < n2 → vs2 i 7 = 0 ∨ vs2 i 7 = 1) (hbx : ∀ i, i < 40 → gb Z2 i = 0 ∨ gb Z2 i = 1) : Met l yX3_become wsX3_become ({ frames := 4, cells := 3 * n2, slots := 31 * n2, locals := 82 }) (cPcF [.ref (a 0), .ref (a2 0)] D cs (([] ++ wH a (k 0) cs Z) ++ wH a2 (k 0) cs Z2) (fun H => tks D bs2 vs2 n2 H ∧ slF D Z bs nms vs 0 H ∧ pgF D cs Z2 (pOr (pH a) (pH a2)) H) sz) (bcQ D cs a a2 (k 0) Z Z2 bs nms vs vs2 n2 (adA (pOr (pOr (pH a) (pH a2)) (pSl Z bs)) sz)) (3 * n2) (31 * n2) (adA (pOr (pOr (pH a) (pH a2)) (pSl Z bs)) sz) := by
  refine c_inF (P := pOr (pOr (pH a) (pH a2)) (pSl Z bs)) (cc := cX3_become) (maxL := 3) (ret := none) (lv := [(0, .ref (a 0)), (1, .ref (a2 0))]) (by decide) rfl (Nat.le_of_ble_eq_true rfl) rfl ?_
  intro p e s m below meth c ls S hr hlocks hin hsz hP hK hFF hl hSo
  subst hsz
  obtain ⟨hx, hb, hml, hown, hts⟩ := id S
  obtain ⟨hF, hO0, hPg⟩ := hFF
  have hS : va_S (adA (pOr (pH a) (pH a2)) s.heap.size) s.heap s.heap [] := va_S.rf
  have hltH := wH_lt (vaL hP)
  have hltS : ∀ j, j < 511 → gt Z j = some (bs j 0) → ∀ x, pT (bs j) x → x < s.heap.size := fun j h1 h2 => wT_lt (hO0 j (Nat.zero_le _) h1 h2)
  have d2 : ∀ i, i < n2 → ∀ x, pT (bs2 i) x → ¬ (pOr (pOr (pH a) (pH a2)) (pSl Z bs)) x := fun i hi x h1 h2 => h2.elim (fun t => t.elim (d2a i hi x h1) (d2b i hi x h1)) (fun ⟨j, j1, j2, j3⟩ => d2S i j hi j1 j2 x h1 j3)
  have hX3 : ∀ w ∈ wsX30, w ∈ wsX3_become := by decide +kernel
  have loop2 : ∀ (n9 i : Nat) (bs' : Nat → Nat → Nat) (H : Heap) (locs : List Loc) (ls : Array Slot), i + n9 = n2 → bsOK Z bs bs' s.heap.size i → va_P D vwCl (([] ++ wH a (k 0) cs (bz2 Z Z2 bs' i)) ++ wH a2 (k 0) cs Z2) H → tks D bs' vs2 i H → slF D Z bs nms vs i H → va_S (adA (pOr (pOr (pH a) (pH a2)) (pSl Z bs)) s.heap.size) s.heap H locs → lv_has ls 3 [(0, .ref (a 0)), (1, .ref (a2 0)), (2, .int (nI i))] → W p l e ({ frames := 4, cells := 3 * n2, slots := 31 * n2, locals := 82 }) s m [.ref (a 0), .ref (a2 0)].toArray below meth c H locs (3 * i) (31 * i) (MQ below (bcQ D cs a a2 (k 0) Z Z2 bs nms vs vs2 n2 (adA (pOr (pOr (pH a) (pH a2)) (pSl Z bs)) s.heap.size)) [.ref (a 0), .ref (a2 0)].toArray s (3 * n2) (31 * n2) (adA (pOr (pOr (pH a) (pH a2)) (pSl Z bs)) s.heap.size)) (F0 m 94 ls []) := by
    intro n9
    induction n9 with
    | zero =>
      intro i bs' H locs ls hn hB hP hT hO hS hl
      obtain rfl : i = n2 := by omega
      refine lv_iload_n hx hb dX3_become_94 rfl (lv_at hl 2 rfl) ?_
      refine lv_aload_n hx hb dX3_become_95 rfl (lv_at hl 0 rfl) ?_
      refine hx_get hx hb hts hX3 hown hK.1 hP 8 (by decide) (hts (.fieldLink RX3 59 "PledgeHouse$House" "ticketCount" "I") (by decide +kernel)) rfl (v := .int (gh (bz2 Z Z2 bs' i) 1)) rfl dX3_become_96 ?_
      refine lv_icmp_ge (tgt := 119) hx hb dX3_become_99 (by decide) (fun c_1 => ?_) (fun c_1 => ?_)
      · exact W.vret hx hb hr (fun t2 ht2 hW => ⟨rfl, bs', hB, by rw [ht2]; exact hP, by rw [ht2]; exact hT, by rw [ht2]; exact hO, hS.F ht2⟩) hS.2.2 dX3_become_119 hlocks
      · exact absurd (by rw [bz2_gh, hn2]; exact Int32.le_refl _) c_1
    | succ n9 ih =>
      intro i bs' H locs ls hn hB hP hT hO hS hl
      have hX2 : va_P D vwCl (wT (bs2 i) (nI (i + 1)) (vs2 i)) H := keepA (hF i (by omega)) wT_p (d2 i (by omega)) hS
      have hbi : ∀ j, j < i → ∀ x, pT (bs' j) x → ¬ pH a x := fun j hj x h1 h2 => by
        rcases hB.1 j hj with ⟨g1, g2⟩ | ⟨g1, g2⟩
        · rw [g2] at h1; exact dSH j (by omega) g1 x h1 h2
        · obtain ⟨m9, hm, e9⟩ := h1; have h3 := g2 m9 hm; have h4 := hltH x h2; omega
      refine lv_iload_n hx hb dX3_become_94 rfl (lv_at hl 2 rfl) ?_
      refine lv_aload_n hx hb dX3_become_95 rfl (lv_at hl 0 rfl) ?_
      refine hx_get hx hb hts hX3 hown hK.1 hP 8 (by decide) (hts (.fieldLink RX3 59 "PledgeHouse$House" "ticketCount" "I") (by decide +kernel)) rfl (v := .int (gh (bz2 Z Z2 bs' i) 1)) rfl dX3_become_96 ?_
      refine lv_icmp_ge (tgt := 119) hx hb dX3_become_99 (by decide) (fun c_2 => ?_) (fun c_2 => ?_)
      · exact absurd ((nI_leI (a := n2) (b := i) (by omega) (by omega)).mp (by rw [← hn2]; exact c_2)) (by omega)
      · refine lv_aload_n hx hb dX3_become_102 rfl (lv_at hl 0 rfl) ?_
        refine lv_iload_n hx hb dX3_become_103 rfl (lv_at hl 2 rfl) ?_
        refine lv_aload_n hx hb dX3_become_104 rfl (lv_at hl 1 rfl) ?_
        refine hx_get hx hb hts hX3 hown hK.1 (hh_2 hP) 7 (by decide) (hts (.fieldLink RX3 38 "PledgeHouse$House" "tickets" "[LPledgeHouse$Ticket;") (by decide +kernel)) rfl (v := .ref (a2 5)) rfl dX3_become_105 ?_
        refine lv_iload_n hx hb dX3_become_108 rfl (lv_at hl 2 rfl) ?_
        refine hx_tld hx hb hK.1 (hh_2 hP) i rfl (by omega) (v := .ref (bs2 i 0)) (congrArg va_rf (hgt2 i (by omega))) dX3_become_109 ?_
        rcases hgo i (by omega) with hg | hg
        · have hTi := hO i (Nat.le_refl _) (by omega) hg
          have hbj : ∀ j, j < i → ∀ x, pT (bs' j) x → ¬ pT (bs i) x := fun j hj x h1 t => by
            rcases hB.1 j hj with ⟨g1, g2⟩ | ⟨g1, g2⟩
            · rw [g2] at h1; exact dS j i (by omega) (by omega) (by omega) g1 hg x h1 t
            · obtain ⟨m9, hm, e9⟩ := h1; have h3 := g2 m9 hm; have h4 := hltS i (by omega) hg x t; omega
          refine c_wG (G := fun H1 => va_P D vwCl (([] ++ wH a (k 0) cs (bz2 Z Z2 (bsW bs' i (bs i)) (i + 1))) ++ wH a2 (k 0) cs Z2) H1 ∧ tks D (bsW bs' i (bs i)) vs2 (i + 1) H1 ∧ slF D Z bs nms vs (i + 1) H1) (rest := []) (va_runV S (As := [.int (nI i), .ref (bs2 i 0)]) (cC_X3_copyTicket_r l D cs (bs i) (bs2 i) k a (nms i) (nI (i + 1)) (vs i) (vs2 i) (bz2 Z Z2 bs' i) _ i (ibs i (by omega) hg) ia (dSH i (by omega) hg) (d2S i i (by omega) (by omega) hg) (d2a i (by omega)) (hz7 i (by omega)) (by omega) (by rw [bz2_gt]; exact hg)) (cwV 2 hts gX3_become_X3_copyTicket rfl rfl rfl (by decide +kernel) ⟨Nat.le_of_ble_eq_true rfl, Nat.le_of_ble_eq_true rfl⟩) (preV_x hK (va_P.app (va_P.app hTi (vaL hP)) nilP) hX2 (va_recv hK.1 hP (ci := 3) (q0 := 0) rfl rfl)) rfl rfl hl.1 rfl (lv_room (Nat.le_of_ble_eq_true rfl)) dX3_become_110 ⟨by show _ ≤ 3 * n2; omega, by show _ ≤ 31 * n2; omega⟩) hS (fun q h => h.elim (fun t => t.elim (fun t => Or.inl (Or.inr ⟨i, by omega, hg, t⟩)) (fun t => Or.inl (Or.inl (Or.inl t)))) (fun z => Or.inr (Nat.le_trans hS.1 z))) (fun H1 _ hk h => ⟨va_P.app (by rw [← bz2_rw (b := bs i) hg]; exact vaR (vaL h)) (keepP (vaR hP) wH_p (fun q h1 h2 => h2.elim (fun t => dS2 i (by omega) hg q t h1) (fun t => daa q t h1)) hk), tks_s (fun j hj => keepP (hT j hj) wT_p (fun q h1 h2 => h2.elim (fun t => hbj j hj q h1 t) (fun t => hbi j hj q h1 t)) hk) (vaL (vaL h)), fun j h1 h2 h3 => keepP (hO j (by omega) h2 h3) wT_p (fun q t1 t2 => t2.elim (fun t => dS j i h2 (by omega) (by omega) h3 hg q t1 t) (fun t => dSH j h2 h3 q t1 t)) hk⟩) (fun H locs hG hS => ?_)
          refine lv_iinc (v := (nI i) + 1) (lv' := [(2, .int ((nI i) + 1)), (0, .ref (a 0)), (1, .ref (a2 0))]) hx hb dX3_become_113 hl (k := 2) rfl rfl (by decide) rfl (fun ls hl => ?_)
          refine lv_goto (tgt := 94) hx hb dX3_become_116 (by decide) ?_
          rw [nI_1] at hl
          exact W.widen (k := 3 * (i + 1)) (n := 31 * (i + 1)) (by omega) (by omega) (ih (i + 1) (bsW bs' i (bs i)) H locs ls (by omega) (bsOK_r hB hg (ibs i (by omega) hg) (hltS i (by omega) hg) dS (by omega)) hG.1 hG.2.1 hG.2.2 hS (lv_sub hl [1, 2, 0] rfl))
        · have hS0 := hS
          refine c_wNG (G := fun b H1 => va_P D vwCl (([] ++ wH a (k 0) cs (bz2 Z Z2 (bsW bs' i b) (i + 1))) ++ wH a2 (k 0) cs Z2) H1 ∧ tks D (bsW bs' i b) vs2 (i + 1) H1 ∧ slF D Z bs nms vs (i + 1) H1) (rest := []) (va_runV S (As := [.int (nI i), .ref (bs2 i 0)]) (cC_X3_copyTicket_n l D cs (bs2 i) k a (nI (i + 1)) (vs2 i) (bz2 Z Z2 bs' i) _ i ia (d2a i (by omega)) (hz7 i (by omega)) (by omega) (by rw [bz2_gt]; exact hg)) (cwV 2 hts gX3_become_X3_copyTicket rfl rfl rfl (by decide +kernel) ⟨Nat.le_of_ble_eq_true rfl, Nat.le_of_ble_eq_true rfl⟩) (preV_x hK (va_P.app (vaL hP) nilP) hX2 (va_recv hK.1 hP (ci := 3) (q0 := 0) rfl rfl)) rfl rfl hl.1 rfl (lv_room (Nat.le_of_ble_eq_true rfl)) dX3_become_110 ⟨by show _ ≤ 3 * n2; omega, by show _ ≤ 31 * n2; omega⟩) hS (fun q h => h.elim (fun t => Or.inl (Or.inl (Or.inl t))) (fun z => Or.inr (Nat.le_trans hS.1 z))) (fun b H1 _ hk h => ⟨va_P.app (by rw [← bz2_n (b := b)]; exact vaR (vaL h)) (keepP (vaR hP) wH_p (fun q h1 h2 => daa q h2 h1) hk), tks_s (fun j hj => keepP (hT j hj) wT_p (hbi j hj) hk) (vaL (vaL h)), fun j h1 h2 h3 => keepP (hO j (by omega) h2 h3) wT_p (dSH j h2 h3) hk⟩) (fun b H locs hb9 ib9 hG hS => ?_)
          refine lv_iinc (v := (nI i) + 1) (lv' := [(2, .int ((nI i) + 1)), (0, .ref (a 0)), (1, .ref (a2 0))]) hx hb dX3_become_113 hl (k := 2) rfl rfl (by decide) rfl (fun ls hl => ?_)
          refine lv_goto (tgt := 94) hx hb dX3_become_116 (by decide) ?_
          rw [nI_1] at hl
          exact ih (i + 1) (bsW bs' i b) H locs ls (by omega) (bsOK_n hB hg ib9 (fun m9 h9 => Nat.le_trans hS0.1 (hb9 m9 h9)) (fun j hj x h1 h2 => absurd (wT_lt (hT j hj) x h1) (Nat.not_lt.mpr (pT_ge hb9 x h2)))) hG.1 hG.2.1 hG.2.2 hS (lv_sub hl [1, 2, 0] rfl)
  have loop1 : ∀ (n9 i : Nat) (H : Heap) (locs : List Loc) (ls : Array Slot), i + n9 = 40 → va_P D vwCl (([] ++ wH a (k 0) cs (bz1 Z Z2 i)) ++ wH a2 (k 0) cs Z2) H → va_S (adA (pOr (pH a) (pH a2)) s.heap.size) s.heap H locs → lv_has ls 3 [(0, .ref (a 0)), (1, .ref (a2 0)), (2, .int (nI i))] → W p l e ({ frames := 4, cells := 3 * n2, slots := 31 * n2, locals := 82 }) s m [.ref (a 0), .ref (a2 0)].toArray below meth c H locs (0) (0) (MQ below (bcQ D cs a a2 (k 0) Z Z2 bs nms vs vs2 n2 (adA (pOr (pOr (pH a) (pH a2)) (pSl Z bs)) s.heap.size)) [.ref (a 0), .ref (a2 0)].toArray s (3 * n2) (31 * n2) (adA (pOr (pOr (pH a) (pH a2)) (pSl Z bs)) s.heap.size)) (F0 m 36 ls []) := by
    intro n9
    induction n9 with
    | zero =>
      intro i H locs ls hn hP hS hl
      obtain rfl : i = 40 := by omega
      refine lv_iload_n hx hb dX3_become_36 rfl (lv_at hl 2 rfl) ?_
      refine lv_bipush (v := 40) hx hb dX3_become_37 (by decide) ?_
      refine lv_icmp_ge (tgt := 84) hx hb dX3_become_39 (by decide) (fun c_3 => ?_) (fun c_3 => ?_)
      · refine lv_aload_n hx hb dX3_become_84 rfl (lv_at hl 0 rfl) ?_
        refine lv_aload_n hx hb dX3_become_85 rfl (lv_at hl 1 rfl) ?_
        refine hx_get hx hb hts hX3 hown hK.1 (hh_2 hP) 8 (by decide) (hts (.fieldLink RX3 59 "PledgeHouse$House" "ticketCount" "I") (by decide +kernel)) rfl (v := .int (gh Z2 1)) rfl dX3_become_86 ?_
        refine hx_put hx hb hts hX3 hown hK.1 hP (wHH_D ia ia2 daa (fun x h => Or.inl h) (fun x h => Or.inr h) s.heap.size) hS 8 1 (by decide) (hts (.fieldLink RX3 59 "PledgeHouse$House" "ticketCount" "I") (by decide +kernel)) dX3_become_89 (fun H locs hP hS => ?_)
        refine lv_iconst (v := 0) hx hb dX3_become_92 (by decide) ?_
        refine lv_istore_n (lv' := [(2, .int 0), (0, .ref (a 0)), (1, .ref (a2 0))]) hx hb dX3_become_93 rfl hl (by decide) rfl (fun ls hl => ?_)
        rw [bz2_0 (bs := bs)] at hP
        exact loop2 n2 0 bs H locs ls (by omega) ⟨fun _ h => absurd h (Nat.not_lt_zero _), fun _ h => absurd h (Nat.not_lt_zero _), fun _ _ h => absurd h (Nat.not_lt_zero _)⟩ hP (fun _ h => absurd h (Nat.not_lt_zero _)) (fun j h1 h2 h3 => keepA (hO0 j h1 h2 h3) wT_p (fun x t1 t2 => t2.elim (dSH j h2 h3 x t1) (dS2 j h2 h3 x t1)) hS) (va_Smono (fun q h => adA_l q h) hS) (lv_sub hl [1, 2, 0] rfl)
      · exact absurd (by decide) c_3
    | succ n9 ih =>
      intro i H locs ls hn hP hS hl
      refine lv_iload_n hx hb dX3_become_36 rfl (lv_at hl 2 rfl) ?_
      refine lv_bipush (v := 40) hx hb dX3_become_37 (by decide) ?_
      refine lv_icmp_ge (tgt := 84) hx hb dX3_become_39 (by decide) (fun c_4 => ?_) (fun c_4 => ?_)
      · exact absurd ((nI_leI (a := 40) (b := i) (by omega) (by omega)).mp c_4) (by omega)
      · refine lv_aload_n hx hb dX3_become_42 rfl (lv_at hl 0 rfl) ?_
        refine hx_get hx hb hts hX3 hown hK.1 hP 4 (by decide) (hts (.fieldLink RX3 25 "PledgeHouse$House" "pledges" "[LPledgeHouse$Pledge;") (by decide +kernel)) rfl (v := .ref (a 2)) rfl dX3_become_43 ?_
        refine lv_iload_n hx hb dX3_become_46 rfl (lv_at hl 2 rfl) ?_
        refine lv_aload_n hx hb dX3_become_47 rfl (lv_at hl 1 rfl) ?_
        refine hx_get hx hb hts hX3 hown hK.1 (hh_2 hP) 4 (by decide) (hts (.fieldLink RX3 25 "PledgeHouse$House" "pledges" "[LPledgeHouse$Pledge;") (by decide +kernel)) rfl (v := .ref (a2 2)) rfl dX3_become_48 ?_
        refine lv_iload_n hx hb dX3_become_51 rfl (lv_at hl 2 rfl) ?_
        refine hx_pld hx hb hK.1 (hh_2 hP) i rfl (by omega) (v := va_rf (gp Z2 i)) rfl dX3_become_52 ?_
        refine hx_pstO hx hb hK.1 hP (wHH_D ia ia2 daa (fun x h => Or.inl h) (fun x h => Or.inr h) s.heap.size) hS (fun q hq => ?_) i rfl (by omega) dX3_become_53 (fun H locs hP hS => ?_)
        · obtain ⟨q9, pl9, e9, h9, d9⟩ := hPg i (by omega) q hq
          rw [e9]; exact any_P hK (keepA h9 wP_p d9 hS)
        refine lv_aload_n hx hb dX3_become_54 rfl (lv_at hl 0 rfl) ?_
        refine hx_get hx hb hts hX3 hown hK.1 hP 5 (by decide) (hts (.fieldLink RX3 29 "PledgeHouse$House" "boxes" "[Z") (by decide +kernel)) rfl (v := .ref (a 3)) rfl dX3_become_55 ?_
        refine lv_iload_n hx hb dX3_become_58 rfl (lv_at hl 2 rfl) ?_
        refine lv_aload_n hx hb dX3_become_59 rfl (lv_at hl 1 rfl) ?_
        refine hx_get hx hb hts hX3 hown hK.1 (hh_2 hP) 5 (by decide) (hts (.fieldLink RX3 29 "PledgeHouse$House" "boxes" "[Z") (by decide +kernel)) rfl (v := .ref (a2 3)) rfl dX3_become_60 ?_
        refine lv_iload_n hx hb dX3_become_63 rfl (lv_at hl 2 rfl) ?_
        refine hx_bld hx hb hK.1 (hh_2 hP) i rfl (by omega) (v := gb Z2 i) rfl dX3_become_64 ?_
        refine hx_bst hx hb hK.1 hP (wHH_D ia ia2 daa (fun x h => Or.inl h) (fun x h => Or.inr h) s.heap.size) hS i rfl (by omega) (bz_v (hbx i (by omega))) dX3_become_65 (fun H locs hP hS => ?_)
        refine lv_aload_n hx hb dX3_become_66 rfl (lv_at hl 0 rfl) ?_
        refine hx_get hx hb hts hX3 hown hK.1 hP 6 (by decide) (hts (.fieldLink RX3 33 "PledgeHouse$House" "ticketOn" "[I") (by decide +kernel)) rfl (v := .ref (a 4)) rfl dX3_become_67 ?_
        refine lv_iload_n hx hb dX3_become_70 rfl (lv_at hl 2 rfl) ?_
        refine lv_aload_n hx hb dX3_become_71 rfl (lv_at hl 1 rfl) ?_
        refine hx_get hx hb hts hX3 hown hK.1 (hh_2 hP) 6 (by decide) (hts (.fieldLink RX3 33 "PledgeHouse$House" "ticketOn" "[I") (by decide +kernel)) rfl (v := .ref (a2 4)) rfl dX3_become_72 ?_
        refine lv_iload_n hx hb dX3_become_75 rfl (lv_at hl 2 rfl) ?_
        refine hx_old hx hb hK.1 (hh_2 hP) i rfl (by omega) (v := go Z2 i) rfl dX3_become_76 ?_
        refine hx_ost hx hb hK.1 hP (wHH_D ia ia2 daa (fun x h => Or.inl h) (fun x h => Or.inr h) s.heap.size) hS i rfl (by omega) dX3_become_77 (fun H locs hP hS => ?_)
        refine lv_iinc (v := (nI i) + 1) (lv' := [(2, .int ((nI i) + 1)), (0, .ref (a 0)), (1, .ref (a2 0))]) hx hb dX3_become_78 hl (k := 2) rfl rfl (by decide) rfl (fun ls hl => ?_)
        refine lv_goto (tgt := 36) hx hb dX3_become_81 (by decide) ?_
        rw [nI_1] at hl
        rw [bz1_s] at hP
        exact ih (i + 1) H locs ls (by omega) hP hS (lv_sub hl [1, 2, 0] rfl)
  refine lv_aload_n hx hb dX3_become_0 rfl (lv_at hl 0 rfl) ?_
  refine lv_aload_n hx hb dX3_become_1 rfl (lv_at hl 1 rfl) ?_
  refine hx_get hx hb hts hX3 hown hK.1 (hh_2 hP) 1 (by decide) (hts (.fieldLink RX3 46 "PledgeHouse$House" "rowCount" "I") (by decide +kernel)) rfl (v := .int (gh Z2 2)) rfl dX3_become_2 ?_
  refine hx_put hx hb hts hX3 hown hK.1 hP (wHH_D ia ia2 daa (fun x h => Or.inl h) (fun x h => Or.inr h) s.heap.size) hS 1 2 (by decide) (hts (.fieldLink RX3 46 "PledgeHouse$House" "rowCount" "I") (by decide +kernel)) dX3_become_5 (fun H locs hP hS => ?_)
  refine lv_aload_n hx hb dX3_become_8 rfl (lv_at hl 0 rfl) ?_
  refine lv_aload_n hx hb dX3_become_9 rfl (lv_at hl 1 rfl) ?_
  refine hx_get hx hb hts hX3 hown hK.1 (hh_2 hP) 2 (by decide) (hts (.fieldLink RX3 50 "PledgeHouse$House" "today" "I") (by decide +kernel)) rfl (v := .int (gh Z2 0)) rfl dX3_become_10 ?_
  refine hx_put hx hb hts hX3 hown hK.1 hP (wHH_D ia ia2 daa (fun x h => Or.inl h) (fun x h => Or.inr h) s.heap.size) hS 2 0 (by decide) (hts (.fieldLink RX3 50 "PledgeHouse$House" "today" "I") (by decide +kernel)) dX3_become_13 (fun H locs hP hS => ?_)
  refine lv_aload_n hx hb dX3_become_16 rfl (lv_at hl 1 rfl) ?_
  refine hx_get hx hb hts hX3 hown hK.1 (hh_2 hP) 3 (by decide) (hts (.fieldLink RX3 18 "PledgeHouse$House" "rules" "[I") (by decide +kernel)) rfl (v := .ref (a2 1)) rfl dX3_become_17 ?_
  refine lv_iconst (v := 0) hx hb dX3_become_20 (by decide) ?_
  refine lv_aload_n hx hb dX3_become_21 rfl (lv_at hl 0 rfl) ?_
  refine hx_get hx hb hts hX3 hown hK.1 hP 3 (by decide) (hts (.fieldLink RX3 18 "PledgeHouse$House" "rules" "[I") (by decide +kernel)) rfl (v := .ref (a 1)) rfl dX3_become_22 ?_
  refine lv_iconst (v := 0) hx hb dX3_become_25 (by decide) ?_
  refine lv_aload_n hx hb dX3_become_26 rfl (lv_at hl 0 rfl) ?_
  refine hx_get hx hb hts hX3 hown hK.1 hP 3 (by decide) (hts (.fieldLink RX3 18 "PledgeHouse$House" "rules" "[I") (by decide +kernel)) rfl (v := .ref (a 1)) rfl dX3_become_27 ?_
  refine va_alen hx hb hK.1 hP (_ + 1) 0 (get3 rfl) rfl (v := 14) rfl dX3_become_30 ?_
  refine va_copyi hx hb (hml.trans hl.1.symm) hown (hts (.methodLink RX3 53 arraycopyName) (by decide +kernel)) (hts (.native arraycopyName) (by decide +kernel)) (hts (.static arraycopyName) (by decide +kernel)) (hts (.initialized "java/lang/System") (by decide +kernel)) hK.1 hP (wHH_D ia ia2 daa (fun x h => Or.inl h) (fun x h => Or.inr h) s.heap.size) hS 7 1 0 0 rfl rfl rfl rfl rfl (by decide) (by decide) (by decide) (by decide) (by decide) (fun _ _ => rfl) (Nat.le_of_ble_eq_true rfl) (Nat.le_of_ble_eq_true rfl) dX3_become_31 (fun H locs hP _ hS => ?_)
  have hP : va_P D vwCl (([] ++ wH a (k 0) cs (bz0 Z Z2)) ++ wH a2 (k 0) cs Z2) H := hP
  refine lv_iconst (v := 0) hx hb dX3_become_34 (by decide) ?_
  refine lv_istore_n (lv' := [(2, .int 0), (0, .ref (a 0)), (1, .ref (a2 0))]) hx hb dX3_become_35 rfl hl (by decide) rfl (fun ls hl => ?_)
  exact loop1 40 0 H locs ls (by omega) (by rw [bz1_0]; exact hP) hS (lv_sub hl [1, 2, 0] rfl)
