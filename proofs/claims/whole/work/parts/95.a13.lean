/-! the reference: its constructor, with the statics as the law's start gives them -/
def stMT (D : va_G) (cs : Nat → ClassId) (A : Nat → Prop) (rA : Nat) (U : State) : Prop := (mK D (cs 0) (cs 1) U ∧ va_Nw (.methodLinkNest RX13 9 yX12_init "PledgeHouseModel") U) ∧ va_Z RX13 "AT_FIRST" "[I" (.ref rA) A U U.heap ∧ va_T .int rA 14 (fun j => .int (tFIRST j)) A U U.heap
set_option maxHeartbeats 4000000 in
set_option maxRecDepth 100000 in
theorem c13_loopsT {l : Launch} {D : va_G} {cs : Nat → ClassId} {o rA : Nat} {p : Program} {e : Env} {s : State} {m : MethodId} {below : List Frame} {meth : Method} {c : Code} (S : CallFix p m c cX13_init 2 s [.ref o].toArray wsX13_init RX13) (hr : meth.sig.returnType = none) (hlocks : meth.locks = false) (hX : stMT D cs (adA (p1 o) s.heap.size) rA s) (ad : Nat → Nat) (hmI : mI ad) (had : ad 0 = o) (hge : ∀ i, 0 < i → i < 12 → s.heap.size ≤ ad i) : ∀ (H : Heap) (locs : List Loc) (ls : Array Slot), va_P D vwCl (wM ad (cs 0) (cs 1) mz0) H → va_S (adA (p1 o) s.heap.size) s.heap H locs → lv_has ls 2 [(0, .ref (ad 0)), (1, .int (nI 0))] → W p l e ({ frames := 2, cells := 11, slots := 129017, locals := 60 }) s m [.ref o].toArray below meth c H locs 11 129017 (MQ below (mQ0 D cs o s.heap.size) [.ref o].toArray s 11 129017 (adA (p1 o) s.heap.size)) (F0 m 36 ls []) := by
  obtain ⟨hx, hb, hml, hown, hts⟩ := id S
  obtain ⟨⟨hK, hnl⟩, hX⟩ := hX
  have hX : mK D (cs 0) (cs 1) s ∧ va_Z RX13 "AT_FIRST" "[I" (.ref rA) (adA (p1 o) s.heap.size) s s.heap ∧ va_T .int rA 14 (fun j => .int (tFIRST j)) (adA (p1 o) s.heap.size) s s.heap := ⟨hK, hX⟩
  have hX12 : ∀ w ∈ wsX120, w ∈ wsX13_init := by decide +kernel
  have hX13 : ∀ w ∈ wsX130, w ∈ wsX13_init := by decide +kernel
  have hDM : ∀ Z, va_D (adA (p1 o) s.heap.size) (wM ad (cs 0) (cs 1) Z) := fun Z => (wM_D hmI s.heap.size Z).weaken (fun k q hk _ => by
    obtain ⟨h1, h2⟩ := wM_at k q hk
    by_cases e0 : k = 0
    · subst e0; exact Or.inl (h2.trans had)
    · exact Or.inr (by rw [h2]; exact hge k (by omega) h1))
  have loop2 : ∀ (n9 i : Nat) (H : Heap) (locs : List Loc) (ls : Array Slot), i + n9 = 40 → va_P D vwCl (wM ad (cs 0) (cs 1) (mz2 i)) H → va_S (adA (p1 o) s.heap.size) s.heap H locs → lv_has ls 2 [(0, .ref (ad 0)), (1, .int (nI i))] → W p l e ({ frames := 2, cells := 11, slots := 129017, locals := 60 }) s m [.ref o].toArray below meth c H locs 11 129017 (MQ below (mQ0 D cs o s.heap.size) [.ref o].toArray s 11 129017 (adA (p1 o) s.heap.size)) (F0 m 66 ls []) := by
    intro n9
    induction n9 with
    | zero =>
      intro i H locs ls hn hP hS hl
      obtain rfl : i = 40 := by omega
      refine lv_iload_n hx hb dX13_init_66 rfl (lv_at hl 1 rfl) ?_
      refine lv_bipush (v := 40) hx hb dX13_init_67 (by decide) ?_
      refine lv_icmp_ge (tgt := 91) hx hb dX13_init_69 (by decide) (fun c_1 => ?_) (fun c_1 => ?_)
      · exact W.vret hx hb hr (fun t2 ht2 hW => ⟨rfl, ad, hmI, had, hge, by rw [ht2]; exact hP, hS.F ht2⟩) hS.2.2 dX13_init_91 hlocks
      · exact absurd (by decide) c_1
    | succ n9 ih =>
      intro i H locs ls hn hP hS hl
      refine lv_iload_n hx hb dX13_init_66 rfl (lv_at hl 1 rfl) ?_
      refine lv_bipush (v := 40) hx hb dX13_init_67 (by decide) ?_
      refine lv_icmp_ge (tgt := 91) hx hb dX13_init_69 (by decide) (fun c_2 => ?_) (fun c_2 => ?_)
      · exact absurd ((nI_leI (a := 40) (b := i) (by omega) (by omega)).mp c_2) (by omega)
      · refine lv_aload_n hx hb dX13_init_72 rfl (lv_at hl 0 rfl) ?_
        refine va_get (D := D) (ci := 11) (v := .ref (ad 1)) (C := RX13) (T := TX13) (N := 6) hx hb hts hX13 hown hK.1 hP 0 rfl rfl 0 (by decide) (hts (.fieldLink RX13 10 "PledgeHouseModel" "now" "LPledgeHouseModel$State;") (by decide +kernel)) (fun _ h9 => h9) rfl dX13_init_73 ?_
        refine va_getN (D := D) (ci := 10) (v := .ref (ad 4)) (C := RX12) (T := TX12) (N := 4) hx hb hts hX12 hown hK.1 hP 1 rfl rfl 1 (by decide) (va_Nw.use rfl hK.2.2.1) (fun _ h9 => h9) rfl dX13_init_76 ?_
        refine lv_bipush (v := 16) hx hb dX13_init_79 (by decide) ?_
        refine lv_iload_n hx hb dX13_init_81 rfl (lv_at hl 1 rfl) ?_
        refine lv_imul hx hb dX13_init_82 ?_
        refine lv_iconst (v := (-1)) hx hb dX13_init_83 (by decide) ?_
        refine mx_sst2 hx hb hK.1 hP (hDM _) hS (16 * i) (ix_16i) (by omega) dX13_init_84 (fun H locs hP hS => ?_)
        refine lv_iinc (v := (nI i) + 1) (lv' := [(1, .int ((nI i) + 1)), (0, .ref (ad 0))]) hx hb dX13_init_85 hl (k := 1) rfl rfl (by decide) rfl (fun ls hl => ?_)
        refine lv_goto (tgt := 66) hx hb dX13_init_88 (by decide) ?_
        rw [nI_1] at hl
        rw [mz2_s] at hP
        exact ih (i + 1) H locs ls (by omega) hP hS (lv_sub hl [1, 0] rfl)
  have loop1 : ∀ (n9 i : Nat) (H : Heap) (locs : List Loc) (ls : Array Slot), i + n9 = 14 → va_P D vwCl (wM ad (cs 0) (cs 1) (mz1 i)) H → va_S (adA (p1 o) s.heap.size) s.heap H locs → lv_has ls 2 [(0, .ref (ad 0)), (1, .int (nI i))] → W p l e ({ frames := 2, cells := 11, slots := 129017, locals := 60 }) s m [.ref o].toArray below meth c H locs 11 129017 (MQ below (mQ0 D cs o s.heap.size) [.ref o].toArray s 11 129017 (adA (p1 o) s.heap.size)) (F0 m 36 ls []) := by
    intro n9
    induction n9 with
    | zero =>
      intro i H locs ls hn hP hS hl
      obtain rfl : i = 14 := by omega
      refine lv_iload_n hx hb dX13_init_36 rfl (lv_at hl 1 rfl) ?_
      refine lv_bipush (v := 14) hx hb dX13_init_37 (by decide) ?_
      refine lv_icmp_ge (tgt := 64) hx hb dX13_init_39 (by decide) (fun c_3 => ?_) (fun c_3 => ?_)
      · refine lv_iconst (v := 0) hx hb dX13_init_64 (by decide) ?_
        refine lv_istore_n (lv' := [(1, .int 0), (0, .ref (ad 0))]) hx hb dX13_init_65 rfl hl (by decide) rfl (fun ls hl => ?_)
        exact loop2 40 0 H locs ls (by omega) (by rw [← mz_12]; exact hP) hS (lv_sub hl [1, 0] rfl)
      · exact absurd (by decide) c_3
    | succ n9 ih =>
      intro i H locs ls hn hP hS hl
      refine lv_iload_n hx hb dX13_init_36 rfl (lv_at hl 1 rfl) ?_
      refine lv_bipush (v := 14) hx hb dX13_init_37 (by decide) ?_
      refine lv_icmp_ge (tgt := 64) hx hb dX13_init_39 (by decide) (fun c_4 => ?_) (fun c_4 => ?_)
      · exact absurd ((nI_leI (a := 14) (b := i) (by omega) (by omega)).mp c_4) (by omega)
      · refine lv_aload_n hx hb dX13_init_42 rfl (lv_at hl 0 rfl) ?_
        refine va_get (D := D) (ci := 11) (v := .ref (ad 1)) (C := RX13) (T := TX13) (N := 6) hx hb hts hX13 hown hK.1 hP 0 rfl rfl 0 (by decide) (hts (.fieldLink RX13 10 "PledgeHouseModel" "now" "LPledgeHouseModel$State;") (by decide +kernel)) (fun _ h9 => h9) rfl dX13_init_43 ?_
        refine va_getN (D := D) (ci := 10) (v := .ref (ad 3)) (C := RX12) (T := TX12) (N := 4) hx hb hts hX12 hown hK.1 hP 1 rfl rfl 0 (by decide) (va_Nw.use rfl hK.2.1) (fun _ h9 => h9) rfl dX13_init_46 ?_
        refine lv_iconst (v := 3) hx hb dX13_init_49 (by decide) ?_
        refine lv_iload_n hx hb dX13_init_50 rfl (lv_at hl 1 rfl) ?_
        refine lv_iadd hx hb dX13_init_51 ?_
        refine va_gets hx hb hX.2.1 hS hown (hts (.fieldLink RX13 28 "PledgeHouseModel" "AT_FIRST" "[I") (by decide +kernel)) (fun _ h9 => h9) dX13_init_52 ?_
        refine lv_iload_n hx hb dX13_init_55 rfl (lv_at hl 1 rfl) ?_
        refine va_ti hx hb hX.2.2 hS (v := .int (tFIRST i)) (vp_in_nI (by omega) (by decide)) (by rw [nI_clamp (by omega)]) dX13_init_56 ?_
        refine mx_hst hx hb hK.1 hP (hDM _) hS (3 + i) (ix_add rfl rfl) (by omega) dX13_init_57 (fun H locs hP hS => ?_)
        refine lv_iinc (v := (nI i) + 1) (lv' := [(1, .int ((nI i) + 1)), (0, .ref (ad 0))]) hx hb dX13_init_58 hl (k := 1) rfl rfl (by decide) rfl (fun ls hl => ?_)
        refine lv_goto (tgt := 36) hx hb dX13_init_61 (by decide) ?_
        rw [nI_1] at hl
        rw [mz1_s] at hP
        exact ih (i + 1) H locs ls (by omega) hP hS (lv_sub hl [1, 0] rfl)
  intro H locs ls hP hS hl
  exact loop1 14 0 H locs ls (by omega) (by rw [mz1_0]; exact hP) hS hl
set_option maxHeartbeats 4000000 in
set_option maxRecDepth 100000 in
theorem cC_X13_initT (l : Launch) (D : va_G) (cs : Nat → ClassId) (o rA sz : Nat) : Met l yX13_init wsX13_init ({ frames := 2, cells := 11, slots := 129017, locals := 60 }) (cPcU (stMT D cs (adA (p1 o) sz) rA) [.ref o] D cs [(o, .inr (11, [.null, .null, .null, .int 0, .int 0, .int 0]))] sz) (mQ0 D cs o sz) 11 129017 (adA (p1 o) sz) := by
  refine c_inU (P := p1 o) (cc := cX13_init) (maxL := 2) (ret := none) (lv := [(0, .ref o)]) (by decide) rfl (Nat.le_of_ble_eq_true rfl) rfl ?_
  intro p e s m below meth c ls S hr hlocks hin hsz hP hK hX hl hS
  subst hsz
  have loops := fun ad hmI had hge => c13_loopsT (l := l) (e := e) (below := below) S hr hlocks hX ad hmI had hge
  obtain ⟨hx, hb, hml, hown, hts⟩ := id S
  have hX12 : ∀ w ∈ wsX120, w ∈ wsX13_init := by decide +kernel
  have hX13 : ∀ w ∈ wsX130, w ∈ wsX13_init := by decide +kernel
  have hlo : o < s.heap.size := lt_of hP (i := 0) rfl
  refine lv_aload_n hx hb dX13_init_0 rfl (lv_at hl 0 rfl) ?_
  refine W.objInit hx hb hown (hts (.methodLink RX13 1 objectInit) (by decide +kernel)) (hts (.instanceMethod objectInit) (by decide +kernel)) (hts (.code objectInit ⟨#[0xb1]⟩ 1 none) (by decide +kernel)) rfl (by rw [hml]; exact hl.1) rfl dX13_init_1 (Nat.le_of_ble_eq_true rfl) (Nat.le_of_ble_eq_true rfl) ?_
  refine W.eq (g2 := F0 m 4 ls []) rfl ?_
  refine lv_aload_n hx hb dX13_init_4 rfl (lv_at hl 0 rfl) ?_
  refine x_newS hx hb hts hX12 tyX12 tyX12_ok hown (hts (.classLink RX13 7 RX12) (by decide +kernel)) (hts (.instantiable RX12 4) (by decide +kernel)) (hts (.initialized RX12) (by decide +kernel)) hK.1 hP hS (ci := 10) rfl (fs := [.null, .null, .null, .null]) dfX12 (Nat.le_of_ble_eq_true rfl) (Nat.le_of_ble_eq_true rfl) dX13_init_5 (fun n1 H hn1 ln1 hPn hPr hS => ?_)
  have l1 : n1 < H.size := lt_of hPn (i := 0) rfl
  refine lv_dup hx hb dX13_init_8 rfl ?_
  refine c_wNG (G := fun q H1 => va_P D vwCl (wS (sx n1 q) cs) H1 ∧ va_P D vwCl [(o, .inr (11, [.null, .null, .null, .int 0, .int 0, .int 0]))] H1) (rest := [.ref n1, .ref o]) (va_runIN S (As := []) (b := n1) (cC_X12_init l D cs n1 _) ⟨va_cnB (host := "PledgeHouseModel") 0 hts gX13_init_X12_init_n9 rfl rfl rfl hX.1.2 (hts (.initialized RX12) (by decide +kernel)) (by decide +kernel) ⟨Nat.le_of_ble_eq_true rfl, Nat.le_of_ble_eq_true rfl⟩, rfl, hts (.instanceMethod yX12_init) (by decide +kernel)⟩ (preS_c hK hPn) rfl rfl hl.1 rfl (lv_room (Nat.le_of_ble_eq_true rfl)) dX13_init_9 ⟨Nat.le_of_ble_eq_true rfl, Nat.le_of_ble_eq_true rfl⟩) hS (fun q h => h.elim (fun z => Or.inr (by rw [show q = n1 from z]; exact hn1)) (fun z => Or.inr (Nat.le_trans hS.1 z))) (fun q H1 _ hk h => ⟨h, keepP hPr one_p (p1_ne (by omega)) hk⟩) (fun q1 H locs hq1 iq1 hG hS => ?_)
  have i1 := sx_I5 (o := n1) (n := q1) (fun i hi => Nat.lt_of_lt_of_le l1 (hq1 i hi)) iq1
  have g1 : ∀ x, pS5 (sx n1 q1) x → n1 ≤ x := sx_ge5 (Nat.le_refl _) (fun i hi => by have := hq1 i hi; omega)
  have e1 : sx n1 q1 0 = n1 := rfl
  generalize sx n1 q1 = a1 at hG i1 g1 e1
  subst e1
  have D1 : va_D (adA (p1 o) s.heap.size) ([(o, .inr (11, [.null, .null, .null, .int 0, .int 0, .int 0]))] ++ wS a1 cs) := va_Dapp (P1 := p1 o) (n1_D (Or.inl rfl)) (wS_Dn i1 (fun x h => Nat.le_trans hn1 (g1 x h))) one_p wS_p (fun x h1 h2 => by have h3 : x = o := h1; have := g1 x h2; omega)
  refine va_putF (D := D) (ci := 11) (v := .ref (a1 0)) (ty := (.object "PledgeHouseModel$State")) (C := RX13) (T := TX13) (N := 6) hx hb hts hX13 tyX13 tyX13_ok nmX13 hown hK.1 (va_P.app hG.2 hG.1) D1 hS 0 rfl rfl 0 (by decide) (hts (.fieldLink RX13 10 "PledgeHouseModel" "now" "LPledgeHouseModel$State;") (by decide +kernel)) (fun _ h9 => h9) rfl hin rfl (by decide +kernel) rfl rfl (Nat.le_of_ble_eq_true rfl) dX13_init_12 (fun H locs hP _ hS => ?_)
  have hP : va_P D vwCl ([(o, .inr (11, [.ref (a1 0), .null, .null, .int 0, .int 0, .int 0]))] ++ wS a1 cs) H := hP
  have lS := wS_lt (vaR hP)
  have lo : o < H.size := lt_of (vaL hP) (i := 0) rfl
  refine lv_aload_n hx hb dX13_init_15 rfl (lv_at hl 0 rfl) ?_
  refine x_newS hx hb hts hX12 tyX12 tyX12_ok hown (hts (.classLink RX13 7 RX12) (by decide +kernel)) (hts (.instantiable RX12 4) (by decide +kernel)) (hts (.initialized RX12) (by decide +kernel)) hK.1 hP hS (ci := 10) rfl (fs := [.null, .null, .null, .null]) dfX12 (Nat.le_of_ble_eq_true rfl) (Nat.le_of_ble_eq_true rfl) dX13_init_16 (fun n2 H hn2 ln2 hPn hPr hS => ?_)
  have l2 : n2 < H.size := lt_of hPn (i := 0) rfl
  refine lv_dup hx hb dX13_init_19 rfl ?_
  refine c_wNG (G := fun q H1 => va_P D vwCl (wS (sx n2 q) cs) H1 ∧ va_P D vwCl ([(o, .inr (11, [.ref (a1 0), .null, .null, .int 0, .int 0, .int 0]))] ++ wS a1 cs) H1) (rest := [.ref n2, .ref o]) (va_runIN S (As := []) (b := n2) (cC_X12_init l D cs n2 _) ⟨va_cnB (host := "PledgeHouseModel") 0 hts gX13_init_X12_init_n9 rfl rfl rfl hX.1.2 (hts (.initialized RX12) (by decide +kernel)) (by decide +kernel) ⟨Nat.le_of_ble_eq_true rfl, Nat.le_of_ble_eq_true rfl⟩, rfl, hts (.instanceMethod yX12_init) (by decide +kernel)⟩ (preS_c hK hPn) rfl rfl hl.1 rfl (lv_room (Nat.le_of_ble_eq_true rfl)) dX13_init_20 ⟨Nat.le_of_ble_eq_true rfl, Nat.le_of_ble_eq_true rfl⟩) hS (fun q h => h.elim (fun z => Or.inr (by rw [show q = n2 from z]; exact hn2)) (fun z => Or.inr (Nat.le_trans hS.1 z))) (fun q H1 _ hk h => ⟨h, va_P.app (keepP (vaL hPr) one_p (p1_ne (by omega)) hk) (keepP (vaR hPr) wS_p (fun x h1 h2 => absurd (lS x h1) (by rw [show x = n2 from h2]; omega)) hk)⟩) (fun q2 H locs hq2 iq2 hG hS => ?_)
  have i2 := sx_I5 (o := n2) (n := q2) (fun i hi => Nat.lt_of_lt_of_le l2 (hq2 i hi)) iq2
  have g2 : ∀ x, pS5 (sx n2 q2) x → n2 ≤ x := sx_ge5 (Nat.le_refl _) (fun i hi => by have := hq2 i hi; omega)
  have e2 : sx n2 q2 0 = n2 := rfl
  generalize sx n2 q2 = a2 at hG i2 g2 e2
  subst e2
  have d12 : ∀ x, pS5 a1 x → ¬ pS5 a2 x := fun x h1 h2 => absurd (lS x h1) (by have := g2 x h2; omega)
  have D2 : va_D (adA (p1 o) s.heap.size) (([(o, .inr (11, [.ref (a1 0), .null, .null, .int 0, .int 0, .int 0]))] ++ wS a1 cs) ++ wS a2 cs) := va_Dapp (P1 := pOr (p1 o) (pS5 a1)) (va_Dadr (w := [(o, .inr (11, [.null, .null, .null, .int 0, .int 0, .int 0]))] ++ wS a1 cs) rfl D1) (wS_Dn i2 (fun x h => Nat.le_trans hn2 (g2 x h))) (app_p one_p wS_p) wS_p (fun x h1 h2 => by
    rcases h1 with h1 | h1
    · have h3 : x = o := h1
      have := g2 x h2; omega
    · exact d12 x h1 h2)
  refine va_putF (D := D) (ci := 11) (v := .ref (a2 0)) (ty := (.object "PledgeHouseModel$State")) (C := RX13) (T := TX13) (N := 6) hx hb hts hX13 tyX13 tyX13_ok nmX13 hown hK.1 (va_P.app hG.2 hG.1) D2 hS 0 rfl rfl 1 (by decide) (hts (.fieldLink RX13 16 "PledgeHouseModel" "kept" "LPledgeHouseModel$State;") (by decide +kernel)) (fun _ h9 => h9) rfl hin rfl (by decide +kernel) rfl rfl (Nat.le_of_ble_eq_true rfl) dX13_init_23 (fun H locs hP _ hS => ?_)
  have hP : va_P D vwCl (([(o, .inr (11, [.ref (a1 0), .ref (a2 0), .null, .int 0, .int 0, .int 0]))] ++ wS a1 cs) ++ wS a2 cs) H := hP
  have lS2 := wS_lt (vaR hP)
  refine lv_aload_n hx hb dX13_init_26 rfl (lv_at hl 0 rfl) ?_
  refine lv_ldc (v := 94913) hx hb hown (hts (.constant RX13 19 (94913)) (by decide +kernel)) dX13_init_27 ?_
  refine x_newa hx hb (atype := .long) (hts (.arrayClass .long) (by decide +kernel)) (t0 := 1) hK.1 rfl id hP hS (N' := 94913) (a0 := (94913, .inr (.inl (fun _ => 0)))) (fun _ => rfl) (by decide) (by decide) (by decide) (Nat.le_of_ble_eq_true rfl) (Nat.le_of_ble_eq_true rfl) dX13_init_29 (fun n3 H hn3 ln3 hP hS => ?_)
  have hP : va_P D vwCl ([(n3, .inl (cs 1, 94913, .inr (.inl (fun _ => 0))))] ++ (([(o, .inr (11, [.ref (a1 0), .ref (a2 0), .null, .int 0, .int 0, .int 0]))] ++ wS a1 cs) ++ wS a2 cs)) H := hP
  have D3 : va_D (adA (p1 o) s.heap.size) ([(o, .inr (11, [.ref (a1 0), .ref (a2 0), .null, .int 0, .int 0, .int 0]))] ++ (wS a1 cs ++ (wS a2 cs ++ [(n3, .inl (cs 1, 94913, .inr (.inl (fun _ => 0))))]))) := by
    have h := va_Dapp (A := adA (p1 o) s.heap.size) (P1 := pOr (pOr (p1 o) (pS5 a1)) (pS5 a2)) (P2 := p1 n3) (va_Dadr (w := ([(o, .inr (11, [.ref (a1 0), .null, .null, .int 0, .int 0, .int 0]))] ++ wS a1 cs) ++ wS a2 cs) (w' := ([(o, .inr (11, [.ref (a1 0), .ref (a2 0), .null, .int 0, .int 0, .int 0]))] ++ wS a1 cs) ++ wS a2 cs) rfl D2) (n1_D (n := n3) (E := .inl (cs 1, 94913, .inr (.inl (fun _ => 0)))) (Or.inr hn3)) (app_p (app_p one_p wS_p) wS_p) one_p (fun x h1 h2 => by
      have h3 : x = n3 := h2
      rcases h1 with (h1 | ⟨i, hi, h1⟩) | ⟨i, hi, h1⟩
      · have h4 : x = o := h1
        omega
      · rcases (show i = 0 ∨ i = 1 ∨ i = 2 ∨ i = 3 ∨ i = 4 by omega) with rfl | rfl | rfl | rfl | rfl
        · have h5 := ln3 1 (a1 0, _) rfl
          have h6 : a1 0 < n3 := h5
          omega
        · have h5 := ln3 2 (a1 1, _) rfl
          have h6 : a1 1 < n3 := h5
          omega
        · have h5 := ln3 3 (a1 2, _) rfl
          have h6 : a1 2 < n3 := h5
          omega
        · have h5 := ln3 4 (a1 3, _) rfl
          have h6 : a1 3 < n3 := h5
          omega
        · have h5 := ln3 5 (a1 4, _) rfl
          have h6 : a1 4 < n3 := h5
          omega
      · rcases (show i = 0 ∨ i = 1 ∨ i = 2 ∨ i = 3 ∨ i = 4 by omega) with rfl | rfl | rfl | rfl | rfl
        · have h5 := ln3 6 (a2 0, _) rfl
          have h6 : a2 0 < n3 := h5
          omega
        · have h5 := ln3 7 (a2 1, _) rfl
          have h6 : a2 1 < n3 := h5
          omega
        · have h5 := ln3 8 (a2 2, _) rfl
          have h6 : a2 2 < n3 := h5
          omega
        · have h5 := ln3 9 (a2 3, _) rfl
          have h6 : a2 3 < n3 := h5
          omega
        · have h5 := ln3 10 (a2 4, _) rfl
          have h6 : a2 4 < n3 := h5
          omega)
    exact h
  refine va_putF (D := D) (ci := 11) (v := .ref n3) (ty := (.array .long)) (C := RX13) (T := TX13) (N := 6) hx hb hts hX13 tyX13 tyX13_ok nmX13 hown hK.1 (va_P.app (vaL (vaL (vaR hP))) (va_P.app (vaR (vaL (vaR hP))) (va_P.app (vaR (vaR hP)) (vaL hP)))) D3 hS 0 rfl rfl 2 (by decide) (hts (.fieldLink RX13 20 "PledgeHouseModel" "ended" "[J") (by decide +kernel)) (fun _ h9 => h9) rfl hin rfl (by decide +kernel) rfl rfl (Nat.le_of_ble_eq_true rfl) dX13_init_31 (fun H locs hP _ hS => ?_)
  have hP : va_P D vwCl ([(o, .inr (11, [.ref (a1 0), .ref (a2 0), .ref n3, .int 0, .int 0, .int 0]))] ++ (wS a1 cs ++ (wS a2 cs ++ [(n3, .inl (cs 1, 94913, .inr (.inl (fun _ => 0))))]))) H := hP
  have k1 : ∀ i, i < 5 → a1 i < n3 := fun i hi => by
    rcases (show i = 0 ∨ i = 1 ∨ i = 2 ∨ i = 3 ∨ i = 4 by omega) with rfl | rfl | rfl | rfl | rfl
    · exact ln3 1 (a1 0, _) rfl
    · exact ln3 2 (a1 1, _) rfl
    · exact ln3 3 (a1 2, _) rfl
    · exact ln3 4 (a1 3, _) rfl
    · exact ln3 5 (a1 4, _) rfl
  have k2 : ∀ i, i < 5 → a2 i < n3 := fun i hi => by
    rcases (show i = 0 ∨ i = 1 ∨ i = 2 ∨ i = 3 ∨ i = 4 by omega) with rfl | rfl | rfl | rfl | rfl
    · exact ln3 6 (a2 0, _) rfl
    · exact ln3 7 (a2 1, _) rfl
    · exact ln3 8 (a2 2, _) rfl
    · exact ln3 9 (a2 3, _) rfl
    · exact ln3 10 (a2 4, _) rfl
  have k12 : ∀ i j, i < 5 → j < 5 → a1 i < a2 j := fun i j hi hj => by have := lS (a1 i) ⟨i, hi, rfl⟩; have := g2 (a2 j) ⟨j, hj, rfl⟩; omega
  refine lv_iconst (v := 0) hx hb dX13_init_34 (by decide) ?_
  refine lv_istore_n (lv' := [(1, .int 0), (0, .ref o)]) hx hb dX13_init_35 rfl hl (by decide) rfl (fun ls hl => ?_)
  exact loops (lst [o, a1 0, a2 0, a1 1, a1 2, a1 3, a1 4, a2 1, a2 2, a2 3, a2 4, n3]) (lst_I i1 i2 (fun i hi => by have := g1 (a1 i) ⟨i, hi, rfl⟩; omega) k12 k2) rfl (fun i h0 h1 => by
    have z1 : ∀ i, i < 5 → s.heap.size ≤ a1 i := fun i hi => Nat.le_trans hn1 (g1 _ ⟨i, hi, rfl⟩)
    have z2 : ∀ i, i < 5 → s.heap.size ≤ a2 i := fun i hi => Nat.le_trans hn2 (g2 _ ⟨i, hi, rfl⟩)
    rcases (show i = 1 ∨ i = 2 ∨ i = 3 ∨ i = 4 ∨ i = 5 ∨ i = 6 ∨ i = 7 ∨ i = 8 ∨ i = 9 ∨ i = 10 ∨ i = 11 by omega) with rfl | rfl | rfl | rfl | rfl | rfl | rfl | rfl | rfl | rfl | rfl
    · exact z1 0 (by decide)
    · exact z2 0 (by decide)
    · exact z1 1 (by decide)
    · exact z1 2 (by decide)
    · exact z1 3 (by decide)
    · exact z1 4 (by decide)
    · exact z2 1 (by decide)
    · exact z2 2 (by decide)
    · exact z2 3 (by decide)
    · exact z2 4 (by decide)
    · exact hn3) H locs ls (wS_M (vaL hP) (vaL (vaR hP)) (vaL (vaR (vaR hP))) (vaR (vaR (vaR hP))) rfl) hS (lv_sub hl [1, 0] rfl)
