/-! the class: its constructor -/
/-- a new object of the class -/
def phQ (D : va_G) (cs : Nat → ClassId) (o sz : Nat) : Array Value → State → Outcome → State → Prop := fun _ st ot t => ot = .returned none ∧ ∃ k r aN aK : Nat → Nat, (iB k r ∧ iH aN ∧ iH aK ∧ dHB aN k r ∧ dHB aK k r ∧ ∀ x, pH aN x → ¬ pH aK x) ∧ ((∀ x, pB k r x → sz ≤ x) ∧ (∀ x, pH aN x → sz ≤ x) ∧ ∀ x, pH aK x → sz ≤ x) ∧ va_P D vwCl [(o, .inr (9, [.ref (aN 0), .ref (aK 0), .int 0, .int 0]))] t.heap ∧ va_P D vwCl (wB k r cs (fun _ _ => 0)) t.heap ∧ va_P D vwCl (wH aN (k 0) cs hZ0) t.heap ∧ va_P D vwCl (wH aK (k 0) cs hZ0) t.heap ∧ va_F (adA (p1 o) sz) st t
theorem sx_I {o : Nat} {n : Nat → Nat} (h1 : ∀ i, i < 5 → o < n i) (h2 : ∀ i j, i < 5 → j < 5 → n i = n j → i = j) : iH (sx o n) := fun i j hi hj he => by
  unfold sx at he
  by_cases e1 : i = 0 <;> by_cases e2 : j = 0
  · omega
  · rw [if_pos e1, if_neg e2] at he
    have := h1 (j - 1) (by omega)
    omega
  · rw [if_neg e1, if_pos e2] at he
    have := h1 (i - 1) (by omega)
    omega
  · rw [if_neg e1, if_neg e2] at he
    have := h2 (i - 1) (j - 1) (by omega) (by omega) he
    omega
theorem sx_ge {o sz : Nat} {n : Nat → Nat} (h0 : sz ≤ o) (h1 : ∀ i, i < 5 → sz ≤ n i) : ∀ x, pH (sx o n) x → sz ≤ x := fun x ⟨i, hi, e⟩ => by
  rw [e]
  unfold sx
  split
  · exact h0
  · exact h1 (i - 1) (by omega)
theorem two_B {o q : Nat} (h : o < q) : iB (two o q) (fun i => q + 1 + i) := ⟨fun h2 => by have : o = q := h2; omega, fun i j _ _ h2 => by have : q + 1 + i = q + 1 + j := h2; omega, fun i j hi _ h2 => by
    rcases (show i = 0 ∨ i = 1 by omega) with rfl | rfl
    · have : o = q + 1 + j := h2; omega
    · have : q = q + 1 + j := h2; omega⟩
theorem two_Bge {o q sz : Nat} (h1 : sz ≤ o) (h2 : sz ≤ q) : ∀ x, pB (two o q) (fun i => q + 1 + i) x → sz ≤ x := fun x h => by
  rcases h with ⟨i, hi, e⟩ | ⟨i, hi, e⟩
  · rw [e]
    unfold two
    split
    · exact h1
    · exact h2
  · rw [e]
    show sz ≤ q + 1 + i
    omega
theorem gt_dis {P Q : Nat → Prop} {h : Nat} (h1 : ∀ x, P x → x < h) (h2 : ∀ x, Q x → h ≤ x) : ∀ x, P x → ¬ Q x := fun x a b => absurd (h1 x a) (Nat.not_lt.mpr (h2 x b))
theorem preS_u {s : State} {H : Heap} {D : va_G} {cs : Nat → ClassId} {wc : va_W} {X : State → Prop} {As : List Value} (hb : ∀ (U V : State), U.vm = V.vm → U.heap = V.heap → X U → X V) (hK : cK D cs s) (hPc : va_P D vwCl wc H) (hX : ∀ U : State, U.heap = H → s.WarmedH U.vm → X U) : PreS s H (cPcU X As D cs wc H.size) As := ⟨cPcU_blind hb, fun U hU hW => ⟨rfl, by rw [hU], by rw [hU]; exact hPc, cK.warm hW hK, hX U hU hW⟩⟩
theorem stF_same {D : va_G} {cs : Nat → ClassId} {A : Nat → Prop} {rF : Nat} (U V : State) (h1 : U.vm = V.vm) (h2 : U.heap = V.heap) (h : stF D cs A rF U) : stF D cs A rF V := ⟨by rw [← h2]; exact va_Z.moved (by rw [h1]; exact Vm.Alike.refl _) h.1, by rw [← h2]; exact h.2.1, cA.same h1 h.2.2⟩
/-- what a house's making looks at, later in the making of all -/
theorem stF_at {D : va_G} {cs : Nat → ClassId} {o n rF : Nat} {s : State} {H : Heap} {locs : List Loc} (hX : stF D cs (adA (p1 o) s.heap.size) rF s) (hne : rF ≠ o) (hn : s.heap.size ≤ n) (hS : va_S (adA (p1 o) s.heap.size) s.heap H locs) : ∀ U : State, U.heap = H → s.WarmedH U.vm → stF D cs (adA (p1 n) H.size) rF U := fun U hU hW => by
  refine ⟨?_, ?_, hX.2.2.warm hW⟩
  · rw [hU]
    exact va_Z.moved hW.alike ((hX.1.kept (fun a h1 h2 => hS.2.1 a h1 h2)).narrow (fun q h => h.elim (fun z => Or.inr (by rw [show q = n from z]; exact hn)) (fun z => Or.inr (Nat.le_trans hS.1 z))))
  · rw [hU]
    exact keepA hX.2.1 one_p (p1_ne hne) hS
theorem app_p {w1 w2 : va_W} {P1 P2 : Nat → Prop} (p1 : ∀ (k : Nat) (q : Nat × va_E), w1[k]? = some q → P1 q.1) (p2 : ∀ (k : Nat) (q : Nat × va_E), w2[k]? = some q → P2 q.1) : ∀ (k : Nat) (q : Nat × va_E), (w1 ++ w2)[k]? = some q → pOr P1 P2 q.1 := fun i p h => by
  by_cases hl : i < w1.length
  · rw [List.getElem?_append_left hl] at h
    exact Or.inl (p1 i p h)
  · rw [List.getElem?_append_right (by omega)] at h
    exact Or.inr (p2 _ p h)
section CNEWS
variable {p : Program} {l : Launch} {e : Env} {R : Room} {s : State} {m : MethodId} {args : Array Value} {below : List Frame} {meth : Method} {c0 : Code} {H : Heap} {locs : List Loc} {cells slots : Nat} {Q : State → Prop}
variable {cc : ByteArray} {pc : Nat} {ls : Array Slot} {rest : List Value} {D : va_G} {A : Nat → Prop} {tys : List (ClassId × FieldType)} {ws : va_W}
theorem x_newS (hexec : p.tables.exec = Jvm.exec) (hb : c0.code = cc) {own C : String} {T : u_T} {N ci index : Nat} {Ts : List Cond} (hts : ∀ w ∈ Ts, w.before args s = true) (hin : ∀ w ∈ u_ws C T N, w ∈ Ts) (ty : Nat → FieldType) (hty : ∀ k, k < N → parseFieldDescriptor (T k).2.2.1 = some (ty k)) (hown : s.vm.findClass own = some m.cls) (hcl : (Cond.classLink own index C).before args s = true) (hinst : (Cond.instantiable C N).before args s = true) (hini : (Cond.initialized C).before args s = true)
    (hK : va_K D vwCl tys s) (hP : va_P D vwCl ws H) (hS : va_S A s.heap H locs) (hc : vwCl[ci]? = some (C, T, N)) {fs : List Value} (hfs : ∀ j, j < N → defaultValue (ty j) = vp_V fs j) (hcells : cells + 1 ≤ R.cells) (hslots : slots + N ≤ R.slots) (hdg : decode cc pc = .ok (.new index, 3))
    (kk : ∀ (q : Nat) (H1 : Heap), s.heap.size ≤ q → H.size ≤ q → va_P D vwCl [(q, .inr (ci, fs))] H1 → va_P D vwCl ws H1 → va_S A s.heap H1 locs →
      W p l e R s m args below meth c0 H1 locs (cells + 1) (slots + N) Q (F0 m (pc + 3) ls (.ref q :: rest))) : W p l e R s m args below meth c0 H locs cells slots Q (F0 m pc ls rest) := by
  have hKn := hK.1 ci _ hc
  refine W.newcK hexec hb hown hcl hinst hini rfl hdg hcells hslots hKn.2.1 rfl fun H1 kC hkC e1 z1 o1 => ?_
  have hk : ∀ (k : Nat) (x : Nat × va_E), ws[k]? = some x → H1[x.1]? = H[x.1]? := fun k x hx => o1 x.1 ((hP k x hx).lt)
  refine kk H.size H1 hS.1 (Nat.le_refl _) (fun k x hx => ?_) (hP.kept hk) ⟨Nat.le_trans hS.1 (by omega), fun x h1 h2 => (o1 x (Nat.lt_of_lt_of_le h1 hS.1)).trans (hS.2.1 x h1 h2), hS.2.2⟩
  cases k with
  | zero => cases hx; exact ⟨_, hc, (u_born ty hts hin hKn hkC e1 hty).to hfs⟩
  | succ k => cases hx
end CNEWS
set_option maxHeartbeats 4000000 in
set_option maxRecDepth 100000 in
theorem cC_X11_init (l : Launch) (D : va_G) (cs : Nat → ClassId) (o rF sz : Nat) (hne : rF ≠ o) : Met l yX11_init wsX11_init ({ frames := 2, cells := 527, slots := 12595, locals := 50 }) (cPcU (stF D cs (adA (p1 o) sz) rF) [.ref o] D cs [(o, .inr (9, [.null, .null, .int 0, .int 0]))] sz) (phQ D cs o sz) 527 12595 (adA (p1 o) sz) := by
  refine c_inU (P := p1 o) (cc := cX11_init) (maxL := 2) (ret := none) (lv := [(0, .ref o)]) (by decide) rfl (Nat.le_of_ble_eq_true rfl) rfl ?_
  intro p e s m below meth c ls S hr hlocks hin hsz hP hK hX hl hS
  subst hsz
  obtain ⟨hx, hb, hml, hown, hts⟩ := id S
  have hX0 : ∀ w ∈ wsX00, w ∈ wsX11_init := by decide +kernel
  have hX3 : ∀ w ∈ wsX30, w ∈ wsX11_init := by decide +kernel
  have hX11 : ∀ w ∈ wsX110, w ∈ wsX11_init := by decide +kernel
  have hlo : o < s.heap.size := lt_of hP (i := 0) rfl
  refine lv_aload_n hx hb dX11_init_0 rfl (lv_at hl 0 rfl) ?_
  refine W.objInit hx hb hown (hts (.methodLink RX11 1 objectInit) (by decide +kernel)) (hts (.instanceMethod objectInit) (by decide +kernel)) (hts (.code objectInit ⟨#[0xb1]⟩ 1 none) (by decide +kernel)) rfl (by rw [hml]; exact hl.1) rfl dX11_init_1 (Nat.le_of_ble_eq_true rfl) (Nat.le_of_ble_eq_true rfl) ?_
  refine W.eq (g2 := F0 m 4 ls []) rfl ?_
  -- the books
  refine x_new hx hb hts hX0 tyX0 tyX0_ok hown (hts (.classLink RX11 7 RX0) (by decide +kernel)) (hts (.instantiable RX0 1) (by decide +kernel)) (hts (.initialized RX0) (by decide +kernel)) hK.1 hP hS (ci := 0) rfl (fs := [.null]) dfX0 (Nat.le_of_ble_eq_true rfl) (Nat.le_of_ble_eq_true rfl) dX11_init_4 (fun n1 H hn1 ln1 hP hS => ?_)
  have hPo := vaR (w1 := [(n1, .inr (0, [.null]))]) (w2 := [(o, .inr (9, [.null, .null, .int 0, .int 0]))]) hP
  have hP1 := vaL (w1 := [(n1, .inr (0, [.null]))]) (w2 := [(o, .inr (9, [.null, .null, .int 0, .int 0]))]) hP
  have l1 : n1 < H.size := lt_of hP1 (i := 0) rfl
  refine lv_dup hx hb dX11_init_7 rfl ?_
  refine c_wNG (G := fun q H1 => va_P D vwCl (wB (two n1 (q 0)) (fun i => q 0 + 1 + i) cs (fun _ _ => 0)) H1 ∧ va_P D vwCl [(o, .inr (9, [.null, .null, .int 0, .int 0]))] H1) (rest := [.ref n1]) (va_runIN S (As := []) (b := n1) (cC_X0_init l D cs n1 _) ⟨va_cnB (host := "PledgeHouse") 0 hts gX11_init_X0_init_n9 rfl rfl rfl (hK.2.2.1 _ (by decide +kernel)) (hts (.initialized RX0) (by decide +kernel)) (by decide +kernel) ⟨Nat.le_of_ble_eq_true rfl, Nat.le_of_ble_eq_true rfl⟩, rfl, hts (.instanceMethod yX0_init) (by decide +kernel)⟩ (preS_u (fun U V h _ h3 => h3.same h) hK hP1 (fun U _ hW => hX.2.2.warm hW)) rfl rfl hl.1 rfl (lv_room (Nat.le_of_ble_eq_true rfl)) dX11_init_8 ⟨Nat.le_of_ble_eq_true rfl, Nat.le_of_ble_eq_true rfl⟩) hS (fun q h => h.elim (fun z => Or.inr (by rw [show q = n1 from z]; exact hn1)) (fun z => Or.inr (Nat.le_trans hS.1 z))) (fun q H1 _ hk h => ⟨h, keepP hPo one_p (p1_ne (by omega)) hk⟩) (fun q0 H locs hq0 _ hG hS => ?_)
  have iK : iB (two n1 (q0 0)) (fun i => q0 0 + 1 + i) := two_B (Nat.lt_of_lt_of_le l1 (hq0 0 (by decide)))
  have gK : ∀ x, pB (two n1 (q0 0)) (fun i => q0 0 + 1 + i) x → s.heap.size ≤ x := two_Bge hn1 (by have := hq0 0 (by decide); omega)
  generalize hk : two n1 (q0 0) = k at hG iK gK
  generalize hrr : (fun i => q0 0 + 1 + i) = r at hG iK gK
  have hk0 : n1 = k 0 := by rw [← hk]; rfl
  refine lv_astore_n (lv' := [(1, .ref n1), (0, .ref o)]) hx hb dX11_init_11 rfl hl (by decide) rfl (fun ls hl => ?_)
  -- the house
  have lo : o < H.size := lt_of hG.2 (i := 0) rfl
  have lB := wB_lt hG.1
  refine lv_aload_n hx hb dX11_init_12 rfl (lv_at hl 1 rfl) ?_
  refine x_newS hx hb hts hX3 tyX3 tyX3_ok hown (hts (.classLink RX11 10 RX3) (by decide +kernel)) (hts (.instantiable RX3 9) (by decide +kernel)) (hts (.initialized RX3) (by decide +kernel)) hK.1 (va_P.app hG.2 hG.1) hS (ci := 3) rfl (fs := [.null, .int 0, .int 0, .null, .null, .null, .null, .null, .int 0]) dfX3 (Nat.le_of_ble_eq_true rfl) (Nat.le_of_ble_eq_true rfl) dX11_init_13 (fun n2 H hn2 ln2 hPn hPr hS => ?_)
  have l2 : n2 < H.size := lt_of hPn (i := 0) rfl
  refine lv_dup hx hb dX11_init_16 rfl ?_
  refine lv_aload_n hx hb dX11_init_17 rfl (lv_at hl 0 rfl) ?_
  refine c_wNG (G := fun q H1 => va_P D vwCl (wH (sx n2 q) n1 cs hZ0) H1 ∧ va_P D vwCl (wB k r cs (fun _ _ => 0)) H1 ∧ va_P D vwCl [(o, .inr (9, [.null, .null, .int 0, .int 0]))] H1) (rest := [.ref n2, .ref o]) (va_runI S (As := [.ref n1]) (b := n2) (cC_X3_init l D cs n2 n1 rF _) (cwI 1 hts gX11_init_X3_init rfl rfl rfl (hts (.initialized RX3) (by decide +kernel)) (hts (.methodLink RX11 12 yX3_init) (by decide +kernel)) (hts (.instanceMethod yX3_init) (by decide +kernel)) rfl (by decide +kernel) ⟨Nat.le_of_ble_eq_true rfl, Nat.le_of_ble_eq_true rfl⟩) (preS_u stF_same hK hPn (stF_at hX hne hn2 hS)) rfl rfl hl.1 rfl (lv_room (Nat.le_of_ble_eq_true rfl)) dX11_init_18 ⟨Nat.le_of_ble_eq_true rfl, Nat.le_of_ble_eq_true rfl⟩) hS (fun q h => h.elim (fun z => Or.inr (by rw [show q = n2 from z]; exact hn2)) (fun z => Or.inr (Nat.le_trans hS.1 z))) (fun q H1 _ hk h => ⟨h, keepP (vaR hPr) wB_p (fun x h1 h2 => absurd (lB x h1) (by rw [show x = n2 from h2]; omega)) hk, keepP (vaL hPr) one_p (p1_ne (by omega)) hk⟩) (fun q1 H locs hq1 iq1 hG hS => ?_)
  have iN : iH (sx n2 q1) := sx_I (fun i hi => Nat.lt_of_lt_of_le l2 (hq1 i hi)) iq1
  have gN : ∀ x, pH (sx n2 q1) x → n2 ≤ x := sx_ge (Nat.le_refl _) (fun i hi => by have := hq1 i hi; omega)
  have dNB : dHB (sx n2 q1) k r := fun x h1 h2 => absurd (lB x h2) (by have := gN x h1; omega)
  have hN0 : sx n2 q1 0 = n2 := rfl
  generalize sx n2 q1 = aN at hG iN gN dNB hN0
  subst hN0
  have DN : va_D (adA (p1 o) s.heap.size) ([(o, .inr (9, [.null, .null, .int 0, .int 0]))] ++ (wB k r cs (fun _ _ => 0) ++ wH aN n1 cs hZ0)) := va_Dapp (P1 := p1 o) (P2 := pOr (pB k r) (pH aN)) (n1_D (Or.inl rfl)) (va_Dapp ((wB_D iK s.heap.size).weaken (fun k q hk _ => Or.inr (gK q.1 (wB_p k q hk)))) ((wH_D iN s.heap.size).weaken (fun k q hk _ => Or.inr (Nat.le_trans hn2 (gN q.1 (wH_p k q hk))))) wB_p wH_p (fun x h1 h2 => dNB x h2 h1)) one_p (app_p wB_p wH_p) (fun x h1 h2 => by
    have h3 : x = o := h1
    rcases h2 with h2 | h2
    · have := gK x h2; omega
    · have := gN x h2; omega)
  refine va_putF (D := D) (ci := 9) (v := .ref (aN 0)) (ty := (.object "PledgeHouse$House")) (C := RX11) (T := TX11) (N := 4) hx hb hts hX11 tyX11 tyX11_ok nmX11 hown hK.1 (va_P.app hG.2.2 (va_P.app hG.2.1 hG.1)) DN hS 0 rfl rfl 0 (by decide) (hts (.fieldLink RX11 15 "PledgeHouse" "now" "LPledgeHouse$House;") (by decide +kernel)) (fun _ h9 => h9) rfl hin rfl (by decide +kernel) rfl rfl (Nat.le_of_ble_eq_true rfl) dX11_init_21 (fun H locs hP _ hS => ?_)
  have hP : va_P D vwCl ([(o, .inr (9, [.ref (aN 0), .null, .int 0, .int 0]))] ++ (wB k r cs (fun _ _ => 0) ++ wH aN n1 cs hZ0)) H := hP
  have lB := wB_lt (vaL (vaR hP))
  have lN := wH_lt (vaR (vaR hP))
  have lo : o < H.size := lt_of (vaL hP) (i := 0) rfl
  -- the house that is kept
  refine lv_aload_n hx hb dX11_init_24 rfl (lv_at hl 1 rfl) ?_
  refine x_newS hx hb hts hX3 tyX3 tyX3_ok hown (hts (.classLink RX11 10 RX3) (by decide +kernel)) (hts (.instantiable RX3 9) (by decide +kernel)) (hts (.initialized RX3) (by decide +kernel)) hK.1 hP hS (ci := 3) rfl (fs := [.null, .int 0, .int 0, .null, .null, .null, .null, .null, .int 0]) dfX3 (Nat.le_of_ble_eq_true rfl) (Nat.le_of_ble_eq_true rfl) dX11_init_25 (fun n3 H hn3 ln3 hPn hPr hS => ?_)
  have l3 : n3 < H.size := lt_of hPn (i := 0) rfl
  refine lv_dup hx hb dX11_init_28 rfl ?_
  refine lv_aload_n hx hb dX11_init_29 rfl (lv_at hl 0 rfl) ?_
  refine c_wNG (G := fun q H1 => va_P D vwCl (wH (sx n3 q) n1 cs hZ0) H1 ∧ va_P D vwCl ([(o, .inr (9, [.ref (aN 0), .null, .int 0, .int 0]))] ++ (wB k r cs (fun _ _ => 0) ++ wH aN n1 cs hZ0)) H1) (rest := [.ref n3, .ref o]) (va_runI S (As := [.ref n1]) (b := n3) (cC_X3_init l D cs n3 n1 rF _) (cwI 1 hts gX11_init_X3_init rfl rfl rfl (hts (.initialized RX3) (by decide +kernel)) (hts (.methodLink RX11 12 yX3_init) (by decide +kernel)) (hts (.instanceMethod yX3_init) (by decide +kernel)) rfl (by decide +kernel) ⟨Nat.le_of_ble_eq_true rfl, Nat.le_of_ble_eq_true rfl⟩) (preS_u stF_same hK hPn (stF_at hX hne hn3 hS)) rfl rfl hl.1 rfl (lv_room (Nat.le_of_ble_eq_true rfl)) dX11_init_30 ⟨Nat.le_of_ble_eq_true rfl, Nat.le_of_ble_eq_true rfl⟩) hS (fun q h => h.elim (fun z => Or.inr (by rw [show q = n3 from z]; exact hn3)) (fun z => Or.inr (Nat.le_trans hS.1 z))) (fun q H1 _ hk h => ⟨h, va_P.app (keepP (vaL hPr) one_p (p1_ne (by omega)) hk) (va_P.app (keepP (vaL (vaR hPr)) wB_p (fun x h1 h2 => absurd (lB x h1) (by rw [show x = n3 from h2]; omega)) hk) (keepP (vaR (vaR hPr)) wH_p (fun x h1 h2 => absurd (lN x h1) (by rw [show x = n3 from h2]; omega)) hk))⟩) (fun q2 H locs hq2 iq2 hG hS => ?_)
  have iZ : iH (sx n3 q2) := sx_I (fun i hi => Nat.lt_of_lt_of_le l3 (hq2 i hi)) iq2
  have gZ : ∀ x, pH (sx n3 q2) x → n3 ≤ x := sx_ge (Nat.le_refl _) (fun i hi => by have := hq2 i hi; omega)
  have hZ0' : sx n3 q2 0 = n3 := rfl
  generalize sx n3 q2 = aK at hG iZ gZ hZ0'
  subst hZ0'
  have dKB : dHB aK k r := fun x h1 h2 => absurd (lB x h2) (by have := gZ x h1; omega)
  have dNK : ∀ x, pH aN x → ¬ pH aK x := fun x h1 h2 => absurd (lN x h1) (by have := gZ x h2; omega)
  have DK : va_D (adA (p1 o) s.heap.size) (([(o, .inr (9, [.ref (aN 0), .null, .int 0, .int 0]))] ++ (wB k r cs (fun _ _ => 0) ++ wH aN n1 cs hZ0)) ++ wH aK n1 cs hZ0) := va_Dapp (P1 := pOr (p1 o) (pOr (pB k r) (pH aN))) (P2 := pH aK) (va_Dadr (w := [(o, .inr (9, [.null, .null, .int 0, .int 0]))] ++ (wB k r cs (fun _ _ => 0) ++ wH aN n1 cs hZ0)) rfl DN) ((wH_D iZ s.heap.size).weaken (fun k q hk _ => Or.inr (Nat.le_trans hn3 (gZ q.1 (wH_p k q hk))))) (app_p one_p (app_p wB_p wH_p)) wH_p (fun x h1 h2 => by
    rcases h1 with h1 | h1 | h1
    · have h3 : x = o := h1
      have := gZ x h2; omega
    · exact dKB x h2 h1
    · exact dNK x h1 h2)
  refine va_putF (D := D) (ci := 9) (v := .ref (aK 0)) (ty := (.object "PledgeHouse$House")) (C := RX11) (T := TX11) (N := 4) hx hb hts hX11 tyX11 tyX11_ok nmX11 hown hK.1 (va_P.app hG.2 hG.1) DK hS 0 rfl rfl 1 (by decide) (hts (.fieldLink RX11 21 "PledgeHouse" "kept" "LPledgeHouse$House;") (by decide +kernel)) (fun _ h9 => h9) rfl hin rfl (by decide +kernel) rfl rfl (Nat.le_of_ble_eq_true rfl) dX11_init_33 (fun H locs hP _ hS => ?_)
  have hP : va_P D vwCl (([(o, .inr (9, [.ref (aN 0), .ref (aK 0), .int 0, .int 0]))] ++ (wB k r cs (fun _ _ => 0) ++ wH aN n1 cs hZ0)) ++ wH aK n1 cs hZ0) H := hP
  subst hk0
  exact W.vret hx hb hr (fun t2 ht2 hW => ⟨rfl, k, r, aN, aK, ⟨iK, iN, iZ, dNB, dKB, dNK⟩, ⟨gK, fun x h => Nat.le_trans hn2 (gN x h), fun x h => Nat.le_trans hn3 (gZ x h)⟩, by rw [ht2]; exact vaL (vaL hP), by rw [ht2]; exact vaL (vaR (vaL hP)), by rw [ht2]; exact vaR (vaR (vaL hP)), by rw [ht2]; exact vaR hP, hS.F ht2⟩) hS.2.2 dX11_init_36 hlocks
