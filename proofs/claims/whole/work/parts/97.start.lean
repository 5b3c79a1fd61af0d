/-! the law's start: both are made, then the loop -/
theorem stFT_up {cs : Nat → ClassId} {A B : Nat → Prop} {rF : Nat} {s : State} {H : Heap} {locs : List Loc} (hX : stFT cs A rF s) (hS : va_S A s.heap H locs) (hm : ∀ q, B q → A q) : ∀ U : State, U.heap = H → s.WarmedH U.vm → stFT cs B rF U := fun U hU hW => by
  refine ⟨?_, ?_, hX.2.2.warm hW⟩
  · rw [hU]
    exact va_Z.moved hW.alike ((hX.1.kept (fun a h1 h2 => hS.2.1 a h1 h2)).narrow hm)
  · rw [hU]
    exact (hX.2.1.kept (fun a h1 h2 => hS.2.1 a h1 h2)).narrow hm
theorem stMT_up {D : va_G} {cs : Nat → ClassId} {A B : Nat → Prop} {rF : Nat} {s : State} {H : Heap} {locs : List Loc} (hX : stMT D cs A rF s) (hS : va_S A s.heap H locs) (hm : ∀ q, B q → A q) : ∀ U : State, U.heap = H → s.WarmedH U.vm → stMT D cs B rF U := fun U hU hW => by
  refine ⟨⟨hX.1.1.warm hW, va_Nw.warmM hW hX.1.2⟩, ?_, ?_⟩
  · rw [hU]
    exact va_Z.moved hW.alike ((hX.2.1.kept (fun a h1 h2 => hS.2.1 a h1 h2)).narrow hm)
  · rw [hU]
    exact (va_T.moved hW.alike (hX.2.2.kept (fun a h1 h2 => hS.2.1 a h1 h2))).narrow hm
theorem stMT_same {D : va_G} {cs : Nat → ClassId} {A : Nat → Prop} {rF : Nat} (U V : State) (h1 : U.vm = V.vm) (h2 : U.heap = V.heap) (h : stMT D cs A rF U) : stMT D cs A rF V := ⟨⟨h.1.1.same h1, va_Nw.same rfl h1 h.1.2⟩, by rw [← h2]; exact va_Z.moved (by rw [h1]; exact Vm.Alike.refl _) h.2.1, by rw [← h2]; exact va_T.moved (by rw [h1]; exact Vm.Alike.refl _) h.2.2⟩
def phG (D : va_G) (cs : Nat → ClassId) (o sz : Nat) (H : Heap) : Prop := ∃ k r aN aK : Nat → Nat, (iB k r ∧ iH aN ∧ iH aK ∧ dHB aN k r ∧ dHB aK k r ∧ ∀ x, pH aN x → ¬ pH aK x) ∧ ((∀ x, pB k r x → sz ≤ x) ∧ (∀ x, pH aN x → sz ≤ x) ∧ ∀ x, pH aK x → sz ≤ x) ∧ va_P D vwCl [(o, .inr (9, [.ref (aN 0), .ref (aK 0), .int 0, .int 0]))] H ∧ va_P D vwCl (wB k r cs (fun _ _ => 0)) H ∧ va_P D vwCl (wH aN (k 0) cs hZ0) H ∧ va_P D vwCl (wH aK (k 0) cs hZ0) H
def mG0 (D : va_G) (cs : Nat → ClassId) (o sz : Nat) (ws : va_W) (H : Heap) : Prop := (∃ ad : Nat → Nat, mI ad ∧ ad 0 = o ∧ (∀ i, 0 < i → i < 12 → sz ≤ ad i) ∧ va_P D vwCl (wM ad (cs 0) (cs 1) (mz2 40)) H) ∧ va_P D vwCl ws H
set_option maxHeartbeats 8000000 in
set_option maxRecDepth 100000 in
theorem whole_start {p : Program} {e : Env} {s : State} {m : MethodId} {below : List Frame} {meth : Method} {c : Code} (l : Launch) {b L : Nat} {xs : Nat → Int32} (hL : L ≤ 2048) (C0 : lw_At p s m meth c b L xs) : W p l e room_1 s m #[Value.ref b] below meth c s.heap [] 0 0 (lw_Z below #[Value.ref b] s) (entryFrame m ([Value.ref b] : List Value).toArray 4) := by
  obtain ⟨hx, hb, hret, hml, hown, hts0, hX, hbl, hlocks, hg⟩ := C0
  obtain ⟨D, cs, hKA⟩ := kn_K hts0
  have hK := kn_cK hts0 hg hKA
  have hM := kn_mK hts0 hKA
  obtain ⟨rF, rA, rL, rG, sL, sG, hF, hA, hC, hR⟩ := kn_st hts0 hg hKA
  have hts : ∀ w ∈ wsL_law, w.before #[Value.ref b] s = true := fun w hw => hts0 w (kn_law w hw)
  have S : CallFix p m c code 4 s #[Value.ref b] wsL_law RL := ⟨hx, hb, hml, hown, hts⟩
  have t1 : ∀ w ∈ wsL_law_r1, w.before #[Value.ref b] s = true := fun w hw => hts0 w (wsL_i1 w hw)
  have t2 : ∀ w ∈ wsL_law_r2, w.before #[Value.ref b] s = true := fun w hw => hts0 w (wsL_i2 w hw)
  have t3 : ∀ w ∈ wsL_law_r3, w.before #[Value.ref b] s = true := fun w hw => hts0 w (wsL_i3 w hw)
  have w1 : (Cond.classLink RL 7 RX11).before #[Value.ref b] s = true := t1 _ (by decide +kernel)
  have w2 : (Cond.instantiable RX11 4).before #[Value.ref b] s = true := t1 _ (by decide +kernel)
  have w3 : (Cond.initialized RX11).before #[Value.ref b] s = true := t1 _ (by decide +kernel)
  have w4 : (Cond.classLink RL 10 RX13).before #[Value.ref b] s = true := t1 _ (by decide +kernel)
  have w5 : (Cond.instantiable RX13 6).before #[Value.ref b] s = true := t1 _ (by decide +kernel)
  have w6 : (Cond.initialized RX13).before #[Value.ref b] s = true := t1 _ (by decide +kernel)
  have w7 : (Cond.methodLink RL 9 yX11_init).before #[Value.ref b] s = true := t1 _ (by decide +kernel)
  have w8 : (Cond.instanceMethod yX11_init).before #[Value.ref b] s = true := t1 _ (by decide +kernel)
  have w9 : (Cond.methodLink RL 12 yX13_init).before #[Value.ref b] s = true := t2 _ (by decide +kernel)
  have w10 : (Cond.instanceMethod yX13_init).before #[Value.ref b] s = true := t3 _ (by decide +kernel)
  rw [lg_entry_eq]
  have hl : lv_has (lg_sl [Value.ref b] ++ List.replicate (4 - (lg_sl [Value.ref b]).length) Slot.unset).toArray 4 [(0, .ref b)] := lv_entry [Value.ref b] (n := 4) (Nat.le_of_ble_eq_true rfl)
  generalize (lg_sl [Value.ref b] ++ List.replicate (4 - (lg_sl [Value.ref b]).length) Slot.unset).toArray = ls at hl ⊢
  have hS : va_S (fun x => s.heap.size ≤ x) s.heap s.heap [] := ⟨Nat.le_refl _, fun _ _ _ => rfl, fun _ h => (by cases h)⟩
  refine x_newS (ws := []) hx hb hts0 wsL_X110 tyX11 tyX11_ok hown w1 w2 w3 hKA (fun k x hx => (by cases hx)) hS (ci := 9) rfl (fs := [.null, .null, .int 0, .int 0]) dfX11 (Nat.le_of_ble_eq_true rfl) (Nat.le_of_ble_eq_true rfl) dL_law_0 (fun o H ho ho2 hPo _ hS => ?_)
  have lo : o < H.size := lt_of hPo (i := 0) rfl
  refine lv_dup hx hb dL_law_3 rfl ?_
  have m1 : ∀ q, adA (p1 o) H.size q → s.heap.size ≤ q := fun q h => h.elim (fun z => by rw [show q = o from z]; exact ho) (fun z => Nat.le_trans hS.1 z)
  refine c_gen (v := none) (rest := [.ref o]) (G := phG D cs o H.size) (va_runI S (As := []) (b := o) (cC_X11_initT l D cs o rF _) (cwI 0 hts gL_law_X11_init rfl rfl rfl w3 w7 w8 rfl (by decide +kernel) ⟨Nat.le_of_ble_eq_true rfl, Nat.le_of_ble_eq_true rfl⟩) (preS_u stFT_same hK hPo (stFT_up hF hS m1)) rfl rfl hl.1 rfl (lv_room (Nat.le_of_ble_eq_true rfl)) dL_law_4 ⟨Nat.le_of_ble_eq_true rfl, Nat.le_of_ble_eq_true rfl⟩) hS m1 (fun u t ot hu hQ => ?_) (fun H1 locs1 hG hS => ?_)
  · obtain ⟨q1, k, r, aN, aK, q2, q3, q4, q5, q6, q7, q8⟩ := hQ
    unfold va_F at q8
    rw [hu] at q8
    exact ⟨q1, q8.1, q8.2, k, r, aN, aK, q2, q3, q4, q5, q6, q7⟩
  obtain ⟨k, r, a1, a2, ⟨jB, j1, j2, d1, d2, d3⟩, ⟨g0, g1, g2⟩, Po, PB, P1, P2⟩ := hG
  refine lv_astore_n (lv' := [(1, .ref o), (0, .ref b)]) hx hb dL_law_7 rfl hl (by decide) rfl (fun ls hl => ?_)
  have hAll : va_P D vwCl ([(o, .inr (9, [.ref (a1 0), .ref (a2 0), .int 0, .int 0]))] ++ (wB k r cs (fun _ _ => 0) ++ (wH a1 (k 0) cs hZ0 ++ wH a2 (k 0) cs hZ0))) H1 := va_P.app Po (va_P.app PB (va_P.app P1 P2))
  have lo1 : o < H1.size := lt_of Po (i := 0) rfl
  have lB := wB_lt PB
  have l1 := wH_lt P1
  have l2 := wH_lt P2
  generalize hws : ([(o, .inr (9, [.ref (a1 0), .ref (a2 0), .int 0, .int 0]))] ++ (wB k r cs (fun _ _ => 0) ++ (wH a1 (k 0) cs hZ0 ++ wH a2 (k 0) cs hZ0)) : va_W) = ws at hAll
  refine x_newS hx hb hts0 wsL_X130 tyX13 tyX13_ok hown w4 w5 w6 hKA hAll hS (ci := 11) rfl (fs := [.null, .null, .null, .int 0, .int 0, .int 0]) dfX13 (Nat.le_of_ble_eq_true rfl) (Nat.le_of_ble_eq_true rfl) dL_law_8 (fun o2 H2 ho3 ho4 hPn hPr hS => ?_)
  have lo2 : o2 < H2.size := lt_of hPn (i := 0) rfl
  refine lv_dup hx hb dL_law_11 rfl ?_
  have m2 : ∀ q, adA (p1 o2) H2.size q → s.heap.size ≤ q := fun q h => h.elim (fun z => by rw [show q = o2 from z]; exact ho3) (fun z => Nat.le_trans hS.1 z)
  refine c_gen (v := none) (rest := [.ref o2]) (G := mG0 D cs o2 H2.size ws) (va_runI S (As := []) (b := o2) (cC_X13_initT l D cs o2 rA _) (cwI 0 hts gL_law_X13_init rfl rfl rfl w6 w9 w10 rfl (by decide +kernel) ⟨Nat.le_of_ble_eq_true rfl, Nat.le_of_ble_eq_true rfl⟩) (preS_u stMT_same hK hPn (stMT_up hA hS m2)) rfl rfl hl.1 rfl (lv_room (Nat.le_of_ble_eq_true rfl)) dL_law_12 ⟨Nat.le_of_ble_eq_true rfl, Nat.le_of_ble_eq_true rfl⟩) hS m2 (fun u t ot hu hQ => ?_) (fun H3 locs3 hG hS => ?_)
  · obtain ⟨q1, ad, q2, q3, q4, q5, q6⟩ := hQ
    unfold va_F at q6
    rw [hu] at q6
    refine ⟨q1, q6.1, q6.2, ⟨ad, q2, q3, q4, q5⟩, hPr.kept (fun k x hx => q6.2 x.1 (hPr k x hx).lt (fun z => ?_))⟩
    have hlt := (hAll k x hx).lt
    rcases z with z | z
    · have z2 : x.1 = o2 := z
      omega
    · have := (hPr k x hx).lt
      omega
  obtain ⟨⟨ad, had1, had2, had3, PM⟩, hPr⟩ := hG
  have hz12 : H1.size ≤ H2.size := by
    by_cases h : H1.size = 0
    · omega
    · have := (hPr 0 _ (by rw [← hws]; rfl)).lt
      omega
  rw [← hws] at hPr
  have had : ∀ i, i < 12 → H1.size ≤ ad i := fun i hi => by
    by_cases h : i = 0
    · rw [h, had2]; exact ho4
    · have := had3 i (by omega) hi
      omega
  have hs1 : s.heap.size ≤ H1.size := Nat.le_trans ho (Nat.le_of_lt lo1)
  have nf : ∀ x, s.heap.size ≤ x → x < H1.size → ¬ fzL s.heap.size ad x := fun x h1 h2 h => by
    rcases h with h | ⟨i, hi, h⟩
    · omega
    · have := had i hi
      omega
  have hsH : s.heap.size ≤ H.size := by omega
  have hfz : ∀ x, fzL s.heap.size ad x → x < H3.size := fun x h => by
    rcases h with h | ⟨i, hi, h⟩
    · exact Nat.lt_of_lt_of_le h hS.1
    · rw [h]
      match i, hi with
      | 0, _ => exact lt_of PM (i := 0) rfl
      | 1, _ => exact lt_of PM (i := 1) rfl
      | 2, _ => exact lt_of PM (i := 2) rfl
      | 3, _ => exact lt_of PM (i := 3) rfl
      | 4, _ => exact lt_of PM (i := 4) rfl
      | 5, _ => exact lt_of PM (i := 5) rfl
      | 6, _ => exact lt_of PM (i := 6) rfl
      | 7, _ => exact lt_of PM (i := 7) rfl
      | 8, _ => exact lt_of PM (i := 8) rfl
      | 9, _ => exact lt_of PM (i := 9) rfl
      | 10, _ => exact lt_of PM (i := 10) rfl
      | 11, _ => exact lt_of PM (i := 11) rfl
  have hT : gT D cs o a1 a2 k r (fzL s.heap.size ad) 0 (mz2 40) H3 := gT_0 jB j1 j2 d1 d2 d3 (fun z => by have := g0 o z; omega) (fun z => by have := g1 o z; omega) (fun z => by have := g2 o z; omega) (nf o ho lo1) (fun x h => nf x (by have := g0 x h; omega) (lB x h)) (fun x h => nf x (by have := g1 x h; omega) (l1 x h)) (fun x h => nf x (by have := g2 x h; omega) (l2 x h)) hfz (vaL (vaR hPr)) (vaL (vaR (vaR hPr))) (vaR (vaR (vaR hPr)))
  have hI : LI D cs o a1 a2 k r ad s.heap.size 0 (mz2 40) H3 := ⟨vaL hPr, hT, PM⟩
  refine lv_astore_n (lv' := [(2, .ref o2), (1, .ref o), (0, .ref b)]) hx hb dL_law_15 rfl hl (by decide) rfl (fun ls hl => ?_)
  refine lv_iconst (v := 0) hx hb dL_law_16 (by decide) ?_
  refine lv_istore_n (lv' := [(3, .int 0), (2, .ref o2), (1, .ref o), (0, .ref b)]) hx hb dL_law_17 rfl hl (by decide) rfl (fun ls hl => ?_)
  have XC : LC p s m c b L xs D cs ad rL rG sL sG := ⟨S, hK, hM, ⟨hX, hbl⟩, ⟨had1, fun i hi => Nat.le_trans hs1 (had i hi)⟩, hC, hR, (kn_nest hts0).2, fl_all⟩
  rw [← had2] at hl
  exact lw_loop hret hlocks XC hL (L / 4) 0 (mz2 40) H3 locs3 ls _ _ (by omega) hI hS (lv_sub hl [3, 2, 1, 0] rfl) (Nat.le_of_ble_eq_true rfl) (Nat.le_of_ble_eq_true rfl)
