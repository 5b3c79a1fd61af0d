/-! the class: its constructors, with the statics as the law's start gives them -/
/-- an array of ints that nobody writes, of which all but the head is known -/
def va_U (cA : ClassId) (t n : Nat) (f : Nat → Int32) (A : Nat → Prop) (H : Heap) : Prop := ∃ cell : Cell, H[t]? = some cell ∧ cell.cls = cA ∧ cell.slots = (arrV cA n (fun j => .int (f j))).slots ∧ (∀ k, cell.vm ≠ .statics k) ∧ cell.vm ≠ .unknown ∧ ¬ A t
theorem va_U.kept {cA : ClassId} {t n : Nat} {f : Nat → Int32} {A : Nat → Prop} {H H1 : Heap} (h : va_U cA t n f A H) (hq : ∀ a : Nat, a < H.size → ¬ A a → H1[a]? = H[a]?) : va_U cA t n f A H1 := by
  obtain ⟨cell, h1, h2, h3, h4, h5, h6⟩ := h
  exact ⟨cell, by rw [hq t (Array.getElem?_eq_some_iff.mp h1).1 h6]; exact h1, h2, h3, h4, h5, h6⟩
theorem va_U.narrow {cA : ClassId} {t n : Nat} {f : Nat → Int32} {A B : Nat → Prop} {H : Heap} (h : va_U cA t n f A H) (hAB : ∀ q, B q → A q) : va_U cA t n f B H := by
  obtain ⟨cell, h1, h2, h3, h4, h5, h6⟩ := h
  exact ⟨cell, h1, h2, h3, h4, h5, fun z => h6 (hAB t z)⟩
section CCLU
variable {p : Program} {l : Launch} {e : Env} {R : Room} {s : State} {m : MethodId} {args : Array Value} {below : List Frame} {meth : Method} {c : Code} {H : Heap} {locs : List Loc} {cells slots : Nat} {Q : State → Prop}
variable {cc : ByteArray} {pc : Nat} {ls : Array Slot} {rest : List Value} {D : va_G} {A : Nat → Prop} {cs : Nat → ClassId} {ws : va_W}
theorem x_cloneU (hexec : p.tables.exec = Jvm.exec) (hb : c.code = cc) (hml : c.maxLocals = ls.size) {own : String} {index : Nat} (hown : s.vm.findClass own = some m.cls)
    (hlink : (Cond.methodLink own index ⟨"[I", "clone", "()Ljava/lang/Object;"⟩).before args s = true) (hsame : (Cond.sameMethod "[I" "java/lang/Object" "clone" "()Ljava/lang/Object;").before args s = true)
    (hnat : (Cond.native ⟨"java/lang/Object", "clone", "()Ljava/lang/Object;"⟩).before args s = true) (hinst : (Cond.instanceMethod ⟨"java/lang/Object", "clone", "()Ljava/lang/Object;"⟩).before args s = true)
    (hsel : (Cond.selects "[I" ⟨"[I", "clone", "()Ljava/lang/Object;"⟩ ⟨"java/lang/Object", "clone", "()Ljava/lang/Object;"⟩).before args s = true) (hcl : va_Nw (.castable "[I" "java/lang/Cloneable") s)
    (hK : va_K D vwCl (tysA cs) s) (hP : va_P D vwCl ws H) {a n : Nat} {f : Nat → Int32} (hU : va_U (cs 0) a n f A s.heap) (hS : va_S A s.heap H [])
    (hframes : 1 ≤ R.frames) (hlocals : (rest.map fun v => v.category).sum + 14 ≤ R.locals) (hcells : cells + 1 ≤ R.cells) (hslots : slots + n ≤ R.slots) (hdg : decode cc pc = .ok (.invokevirtual index, 3))
    (kk : ∀ (q : Nat) (H1 : Heap), s.heap.size ≤ q → (∀ (k : Nat) (x : Nat × va_E), ws[k]? = some x → x.1 < q) → va_P D vwCl ((q, .inl (cs 0, n, .inl f)) :: ws) H1 → va_S A s.heap H1 [] →
      W p l e R s m args below meth c H1 [] (cells + 1) (slots + n) Q (F0 m (pc + 3) ls (.ref q :: rest))) : W p l e R s m args below meth c H [] cells slots Q (F0 m pc ls (.ref a :: rest)) := by
  obtain ⟨cell, u1, u2, u3, u4, u5, -⟩ := hU.kept hS.2.1
  have hsz : cell.slots.size = n := by rw [u3]; exact arrV_size _ _ _
  have hcellE : ({ cls := cell.cls, slots := cell.slots } : Cell) = vp_cell (cs 0) (n, .inl f) := by rw [u2, u3]; rfl
  have hnm : s.vm.findClass "[I" = some (cs 0) := (hK.2 0 _ rfl).2
  obtain ⟨c0, t0', f1, f2, f3⟩ := Cond.castable_spec (va_Nw.use (A := args) rfl hcl)
  cases hnm.symm.trans f1
  intro T hT X
  have hcellT : T.heap[a]? = some cell := by rw [hT]; exact u1
  obtain ⟨-, kA, hkA, comp, hkind⟩ := State.isArrayOf_alike X.warmed.alike ((hK.2 0 _ rfl).1 0 (fun _ => .null))
  obtain ⟨-, kS, hkS, compS, hkindS⟩ := (hK.2 0 _ rfl).1 0 (fun _ => .null)
  obtain ⟨vm', X', st⟩ := X.cloneArray hexec hown hlink hsame hnat hinst hsel (a := a) (cell := cell) hcellT u4 u5 (by rw [u2]; exact hnm) f2 (by rw [u2]; exact f3)
    (fun i v hv => by
      rw [u2]
      have hk' : T.vm.classes[cs 0]? = some kA := hkA
      have hfit : fits .int v = true := by
        rw [u3] at hv
        have h3 : i < n := by
          have := (Array.getElem?_eq_some_iff.mp hv).1
          rwa [arrV_size] at this
        have h4 := arrV_read (cs 0) (fun j => Value.int (f j)) h3
        rw [h4] at hv
        cases hv
        rfl
      simpa [State.fitsSlot, State.slotType?, hk', hkind] using hfit)
    (g := F0 m pc ls (.ref a :: rest)) rfl (by rw [hml]) rfl (by rw [hb]; exact hdg) hframes (by show 2 * 0 + _ + 14 ≤ _; omega) hcells (by rw [hsz]; exact hslots) (hloader := by rw [u2]; exact Vm.clonesLoader_of_array hkS hkindS)
  rw [hcellE, hsz] at X'
  generalize hH1 : H.push (vp_cell (cs 0) (n, .inl f)) = H1
  have z1 : H1.size = H.size + 1 := by rw [← hH1, Array.size_push]
  have e1 : H1[H.size]? = some (vp_cell (cs 0) (n, .inl f)) := by rw [← hH1, Array.getElem?_push_size]
  have o1 : ∀ q : Nat, q < H.size → H1[q]? = H[q]? := fun q hq => by rw [← hH1, Array.getElem?_push, if_neg (Nat.ne_of_lt hq)]
  have hk : ∀ (k : Nat) (y : Nat × va_E), ws[k]? = some y → H1[y.1]? = H[y.1]? := fun k y hy => o1 y.1 ((hP k y hy).lt)
  obtain ⟨t, b1, b2⟩ := kk H.size H1 hS.1 (fun k x hx => (hP k x hx).lt) (fun k x hx => by
      cases k with
      | zero => cases hx; exact e1
      | succ k => exact (hP.kept hk) k x hx) ⟨Nat.le_trans hS.1 (by omega), fun y h1 h2 => (o1 y (Nat.lt_of_lt_of_le h1 hS.1)).trans (hS.2.1 y h1 h2), hS.2.2⟩
    ((T.setVm vm').pushCell (vp_cell (cs 0) (n, .inl f))) (by rw [← hH1, ← hT]; rfl) X'
  refine ⟨t, st t ?_, b2⟩
  rw [hcellE, hT]
  exact b1
end CCLU
def stFT (cs : Nat → ClassId) (A : Nat → Prop) (rF : Nat) (U : State) : Prop := va_Z RX11 "RULES_AT_FIRST" "[I" (.ref rF) A U U.heap ∧ va_U (cs 0) rF 14 tFIRST A U.heap ∧ cA U
theorem stFT_same {cs : Nat → ClassId} {A : Nat → Prop} {rF : Nat} (U V : State) (h1 : U.vm = V.vm) (h2 : U.heap = V.heap) (h : stFT cs A rF U) : stFT cs A rF V := ⟨by rw [← h2]; exact va_Z.moved (by rw [h1]; exact Vm.Alike.refl _) h.1, by rw [← h2]; exact h.2.1, cA.same h1 h.2.2⟩
theorem stFT_at {cs : Nat → ClassId} {o n rF : Nat} {s : State} {H : Heap} {locs : List Loc} (hX : stFT cs (adA (p1 o) s.heap.size) rF s) (hn : s.heap.size ≤ n) (hS : va_S (adA (p1 o) s.heap.size) s.heap H locs) : ∀ U : State, U.heap = H → s.WarmedH U.vm → stFT cs (adA (p1 n) H.size) rF U := fun U hU hW => by
  have hm : ∀ q, adA (p1 n) H.size q → adA (p1 o) s.heap.size q := fun q h => h.elim (fun z => Or.inr (by rw [show q = n from z]; exact hn)) (fun z => Or.inr (Nat.le_trans hS.1 z))
  refine ⟨?_, ?_, hX.2.2.warm hW⟩
  · rw [hU]
    exact va_Z.moved hW.alike ((hX.1.kept (fun a h1 h2 => hS.2.1 a h1 h2)).narrow hm)
  · rw [hU]
    exact (hX.2.1.kept (fun a h1 h2 => hS.2.1 a h1 h2)).narrow hm
set_option maxHeartbeats 4000000 in
set_option maxRecDepth 100000 in
theorem cC_X3_initT (l : Launch) (D : va_G) (cs : Nat → ClassId) (o kb rF sz : Nat) : Met l yX3_init wsX3_init ({ frames := 1, cells := 5, slots := 645, locals := 24 }) (cPcU (stFT cs (adA (p1 o) sz) rF) [.ref o, .ref kb] D cs [(o, .inr (3, [.null, .int 0, .int 0, .null, .null, .null, .null, .null, .int 0]))] sz) (cQN D 5 (fun _ => none) (fun n => wH (sx o n) kb cs hZ0) (adA (p1 o) sz)) 5 645 (adA (p1 o) sz) := by
  refine c_inU (P := p1 o) (cc := cX3_init) (maxL := 2) (ret := none) (lv := [(0, .ref o), (1, .ref kb)]) (by decide) rfl (Nat.le_of_ble_eq_true rfl) rfl ?_
  intro p e s m below meth c ls S hr hlocks hin hsz hP hK hX hl hS
  subst hsz
  obtain ⟨hx, hb, hml, hown, hts⟩ := id S
  have hD : va_D (adA (p1 o) s.heap.size) [(o, .inr (3, [.null, .int 0, .int 0, .null, .null, .null, .null, .null, .int 0]))] := w1_D s.heap.size
  have hX3 : ∀ w ∈ wsX30, w ∈ wsX3_init := by decide +kernel
  refine lv_aload_n hx hb dX3_init_0 rfl (lv_at hl 0 rfl) ?_
  refine W.objInit hx hb hown (hts (.methodLink RX3 3 objectInit) (by decide +kernel)) (hts (.instanceMethod objectInit) (by decide +kernel)) (hts (.code objectInit ⟨#[0xb1]⟩ 1 none) (by decide +kernel)) rfl (by rw [hml]; exact hl.1) rfl dX3_init_1 (Nat.le_of_ble_eq_true rfl) (Nat.le_of_ble_eq_true rfl) ?_
  refine W.eq (g2 := F0 m 4 ls []) rfl ?_
  refine lv_aload_n hx hb dX3_init_4 rfl (lv_at hl 0 rfl) ?_
  refine va_getsN (host := "PledgeHouse") hx hb hX.1 hS hown (va_Nw.use rfl (hK.2.1 _ (by decide +kernel))) (fun _ h9 => h9) dX3_init_5 ?_
  refine x_cloneU (ws := [(o, .inr (3, [.null, .int 0, .int 0, .null, .null, .null, .null, .null, .int 0]))]) hx hb (hml.trans hl.1.symm) hown (hts (.methodLink RX3 13 ⟨"[I", "clone", "()Ljava/lang/Object;"⟩) (by decide +kernel)) (hts (.sameMethod "[I" "java/lang/Object" "clone" "()Ljava/lang/Object;") (by decide +kernel)) (hts (.native ⟨"java/lang/Object", "clone", "()Ljava/lang/Object;"⟩) (by decide +kernel)) (hts (.instanceMethod ⟨"java/lang/Object", "clone", "()Ljava/lang/Object;"⟩) (by decide +kernel)) (hts (.selects "[I" ⟨"[I", "clone", "()Ljava/lang/Object;"⟩ ⟨"java/lang/Object", "clone", "()Ljava/lang/Object;"⟩) (by decide +kernel)) hK.2.2.2.2.2.2.1 hK.1 hP hX.2.1 hS (Nat.le_of_ble_eq_true rfl) (Nat.le_of_ble_eq_true rfl) (Nat.le_of_ble_eq_true rfl) (Nat.le_of_ble_eq_true rfl) dX3_init_8 (fun n1 H hn1 ln1 hP hS => ?_)
  have hD : va_D _ [(n1, .inl (cs 0, 14, .inl tFIRST)), (o, .inr (3, [.null, .int 0, .int 0, .null, .null, .null, .null, .null, .int 0]))] := va_Dcons hD ln1 (Or.inr hn1)
  have hP : va_P D vwCl [(n1, .inl (cs 0, 14, .inl tFIRST)), (o, .inr (3, [.null, .int 0, .int 0, .null, .null, .null, .null, .null, .int 0]))] H := hP
  refine va_castA hx hb hown (hts (.classLink RX3 14 "[I") (by decide +kernel)) hP 0 (a := n1) rfl (hK.1.2 0 _ rfl).2 dX3_init_11 ?_
  refine va_putF (D := D) (ci := 3) (v := .ref n1) (ty := (.array .int)) (C := RX3) (T := TX3) (N := 9) hx hb hts hX3 tyX3 tyX3_ok nmX3 hown hK.1 hP hD hS 1 rfl rfl 3 (by decide) (hts (.fieldLink RX3 18 "PledgeHouse$House" "rules" "[I") (by decide +kernel)) (fun _ h9 => h9) rfl hin rfl (by decide +kernel) rfl rfl (Nat.le_of_ble_eq_true rfl) dX3_init_14 (fun H locs hP hD hS => ?_)
  have hP : va_P D vwCl [(n1, .inl (cs 0, 14, .inl tFIRST)), (o, .inr (3, [.null, .int 0, .int 0, .ref n1, .null, .null, .null, .null, .int 0]))] H := hP
  have hD : va_D _ [(n1, .inl (cs 0, 14, .inl tFIRST)), (o, .inr (3, [.null, .int 0, .int 0, .ref n1, .null, .null, .null, .null, .int 0]))] := hD
  refine lv_aload_n hx hb dX3_init_17 rfl (lv_at hl 0 rfl) ?_
  refine lv_bipush (v := 40) hx hb dX3_init_18 (by decide) ?_
  refine x_newq hx hb hown (C := "PledgeHouse$Pledge") (hts (.classLink RX3 23 RX5) (by decide +kernel)) hX.2.2.1 (t0 := 3) hK.1 rfl hP hS (N' := 40) (by decide) (by decide) (by decide) (Nat.le_of_ble_eq_true rfl) (Nat.le_of_ble_eq_true rfl) dX3_init_20 (fun n2 H hn2 ln2 hP hS => ?_)
  have hD : va_D _ [(n2, .inl (cs 3, 40, refs (fun _ => none))), (n1, .inl (cs 0, 14, .inl tFIRST)), (o, .inr (3, [.null, .int 0, .int 0, .ref n1, .null, .null, .null, .null, .int 0]))] := va_Dcons hD ln2 (Or.inr hn2)
  have hP : va_P D vwCl [(n2, .inl (cs 3, 40, refs (fun _ => none))), (n1, .inl (cs 0, 14, .inl tFIRST)), (o, .inr (3, [.null, .int 0, .int 0, .ref n1, .null, .null, .null, .null, .int 0]))] H := hP
  refine va_putF (D := D) (ci := 3) (v := .ref n2) (ty := (.array (.object "PledgeHouse$Pledge"))) (C := RX3) (T := TX3) (N := 9) hx hb hts hX3 tyX3 tyX3_ok nmX3 hown hK.1 hP hD hS 2 rfl rfl 4 (by decide) (hts (.fieldLink RX3 25 "PledgeHouse$House" "pledges" "[LPledgeHouse$Pledge;") (by decide +kernel)) (fun _ h9 => h9) rfl hin rfl (by decide +kernel) rfl rfl (Nat.le_of_ble_eq_true rfl) dX3_init_23 (fun H locs hP hD hS => ?_)
  have hP : va_P D vwCl [(n2, .inl (cs 3, 40, refs (fun _ => none))), (n1, .inl (cs 0, 14, .inl tFIRST)), (o, .inr (3, [.null, .int 0, .int 0, .ref n1, .ref n2, .null, .null, .null, .int 0]))] H := hP
  have hD : va_D _ [(n2, .inl (cs 3, 40, refs (fun _ => none))), (n1, .inl (cs 0, 14, .inl tFIRST)), (o, .inr (3, [.null, .int 0, .int 0, .ref n1, .ref n2, .null, .null, .null, .int 0]))] := hD
  refine lv_aload_n hx hb dX3_init_26 rfl (lv_at hl 0 rfl) ?_
  refine lv_bipush (v := 40) hx hb dX3_init_27 (by decide) ?_
  refine x_newa hx hb (atype := .boolean) (hts (.arrayClass .boolean) (by decide +kernel)) (t0 := 2) hK.1 rfl id hP hS (N' := 40) (a0 := (40, .inl (fun _ => 0))) (fun _ => rfl) (by decide) (by decide) (by decide) (Nat.le_of_ble_eq_true rfl) (Nat.le_of_ble_eq_true rfl) dX3_init_29 (fun n3 H hn3 ln3 hP hS => ?_)
  have hD : va_D _ [(n3, .inl (cs 2, 40, .inl (fun _ => 0))), (n2, .inl (cs 3, 40, refs (fun _ => none))), (n1, .inl (cs 0, 14, .inl tFIRST)), (o, .inr (3, [.null, .int 0, .int 0, .ref n1, .ref n2, .null, .null, .null, .int 0]))] := va_Dcons hD ln3 (Or.inr hn3)
  have hP : va_P D vwCl [(n3, .inl (cs 2, 40, .inl (fun _ => 0))), (n2, .inl (cs 3, 40, refs (fun _ => none))), (n1, .inl (cs 0, 14, .inl tFIRST)), (o, .inr (3, [.null, .int 0, .int 0, .ref n1, .ref n2, .null, .null, .null, .int 0]))] H := hP
  refine va_putF (D := D) (ci := 3) (v := .ref n3) (ty := (.array .boolean)) (C := RX3) (T := TX3) (N := 9) hx hb hts hX3 tyX3 tyX3_ok nmX3 hown hK.1 hP hD hS 3 rfl rfl 5 (by decide) (hts (.fieldLink RX3 29 "PledgeHouse$House" "boxes" "[Z") (by decide +kernel)) (fun _ h9 => h9) rfl hin rfl (by decide +kernel) rfl rfl (Nat.le_of_ble_eq_true rfl) dX3_init_31 (fun H locs hP hD hS => ?_)
  have hP : va_P D vwCl [(n3, .inl (cs 2, 40, .inl (fun _ => 0))), (n2, .inl (cs 3, 40, refs (fun _ => none))), (n1, .inl (cs 0, 14, .inl tFIRST)), (o, .inr (3, [.null, .int 0, .int 0, .ref n1, .ref n2, .ref n3, .null, .null, .int 0]))] H := hP
  have hD : va_D _ [(n3, .inl (cs 2, 40, .inl (fun _ => 0))), (n2, .inl (cs 3, 40, refs (fun _ => none))), (n1, .inl (cs 0, 14, .inl tFIRST)), (o, .inr (3, [.null, .int 0, .int 0, .ref n1, .ref n2, .ref n3, .null, .null, .int 0]))] := hD
  refine lv_aload_n hx hb dX3_init_34 rfl (lv_at hl 0 rfl) ?_
  refine lv_bipush (v := 40) hx hb dX3_init_35 (by decide) ?_
  refine x_newa hx hb (atype := .int) (hts (.arrayClass .int) (by decide +kernel)) (t0 := 0) hK.1 rfl id hP hS (N' := 40) (a0 := (40, .inl (fun _ => 0))) (fun _ => rfl) (by decide) (by decide) (by decide) (Nat.le_of_ble_eq_true rfl) (Nat.le_of_ble_eq_true rfl) dX3_init_37 (fun n4 H hn4 ln4 hP hS => ?_)
  have hD : va_D _ [(n4, .inl (cs 0, 40, .inl (fun _ => 0))), (n3, .inl (cs 2, 40, .inl (fun _ => 0))), (n2, .inl (cs 3, 40, refs (fun _ => none))), (n1, .inl (cs 0, 14, .inl tFIRST)), (o, .inr (3, [.null, .int 0, .int 0, .ref n1, .ref n2, .ref n3, .null, .null, .int 0]))] := va_Dcons hD ln4 (Or.inr hn4)
  have hP : va_P D vwCl [(n4, .inl (cs 0, 40, .inl (fun _ => 0))), (n3, .inl (cs 2, 40, .inl (fun _ => 0))), (n2, .inl (cs 3, 40, refs (fun _ => none))), (n1, .inl (cs 0, 14, .inl tFIRST)), (o, .inr (3, [.null, .int 0, .int 0, .ref n1, .ref n2, .ref n3, .null, .null, .int 0]))] H := hP
  refine va_putF (D := D) (ci := 3) (v := .ref n4) (ty := (.array .int)) (C := RX3) (T := TX3) (N := 9) hx hb hts hX3 tyX3 tyX3_ok nmX3 hown hK.1 hP hD hS 4 rfl rfl 6 (by decide) (hts (.fieldLink RX3 33 "PledgeHouse$House" "ticketOn" "[I") (by decide +kernel)) (fun _ h9 => h9) rfl hin rfl (by decide +kernel) rfl rfl (Nat.le_of_ble_eq_true rfl) dX3_init_39 (fun H locs hP hD hS => ?_)
  have hP : va_P D vwCl [(n4, .inl (cs 0, 40, .inl (fun _ => 0))), (n3, .inl (cs 2, 40, .inl (fun _ => 0))), (n2, .inl (cs 3, 40, refs (fun _ => none))), (n1, .inl (cs 0, 14, .inl tFIRST)), (o, .inr (3, [.null, .int 0, .int 0, .ref n1, .ref n2, .ref n3, .ref n4, .null, .int 0]))] H := hP
  have hD : va_D _ [(n4, .inl (cs 0, 40, .inl (fun _ => 0))), (n3, .inl (cs 2, 40, .inl (fun _ => 0))), (n2, .inl (cs 3, 40, refs (fun _ => none))), (n1, .inl (cs 0, 14, .inl tFIRST)), (o, .inr (3, [.null, .int 0, .int 0, .ref n1, .ref n2, .ref n3, .ref n4, .null, .int 0]))] := hD
  refine lv_aload_n hx hb dX3_init_42 rfl (lv_at hl 0 rfl) ?_
  refine lv_sipush (v := 511) hx hb dX3_init_43 (by decide) ?_
  refine x_newq hx hb hown (C := "PledgeHouse$Ticket") (hts (.classLink RX3 36 RX9) (by decide +kernel)) hX.2.2.2.1 (t0 := 4) hK.1 rfl hP hS (N' := 511) (by decide) (by decide) (by decide) (Nat.le_of_ble_eq_true rfl) (Nat.le_of_ble_eq_true rfl) dX3_init_46 (fun n5 H hn5 ln5 hP hS => ?_)
  have hD : va_D _ [(n5, .inl (cs 4, 511, refs (fun _ => none))), (n4, .inl (cs 0, 40, .inl (fun _ => 0))), (n3, .inl (cs 2, 40, .inl (fun _ => 0))), (n2, .inl (cs 3, 40, refs (fun _ => none))), (n1, .inl (cs 0, 14, .inl tFIRST)), (o, .inr (3, [.null, .int 0, .int 0, .ref n1, .ref n2, .ref n3, .ref n4, .null, .int 0]))] := va_Dcons hD ln5 (Or.inr hn5)
  have hP : va_P D vwCl [(n5, .inl (cs 4, 511, refs (fun _ => none))), (n4, .inl (cs 0, 40, .inl (fun _ => 0))), (n3, .inl (cs 2, 40, .inl (fun _ => 0))), (n2, .inl (cs 3, 40, refs (fun _ => none))), (n1, .inl (cs 0, 14, .inl tFIRST)), (o, .inr (3, [.null, .int 0, .int 0, .ref n1, .ref n2, .ref n3, .ref n4, .null, .int 0]))] H := hP
  refine va_putF (D := D) (ci := 3) (v := .ref n5) (ty := (.array (.object "PledgeHouse$Ticket"))) (C := RX3) (T := TX3) (N := 9) hx hb hts hX3 tyX3 tyX3_ok nmX3 hown hK.1 hP hD hS 5 rfl rfl 7 (by decide) (hts (.fieldLink RX3 38 "PledgeHouse$House" "tickets" "[LPledgeHouse$Ticket;") (by decide +kernel)) (fun _ h9 => h9) rfl hin rfl (by decide +kernel) rfl rfl (Nat.le_of_ble_eq_true rfl) dX3_init_49 (fun H locs hP hD hS => ?_)
  have hP : va_P D vwCl [(n5, .inl (cs 4, 511, refs (fun _ => none))), (n4, .inl (cs 0, 40, .inl (fun _ => 0))), (n3, .inl (cs 2, 40, .inl (fun _ => 0))), (n2, .inl (cs 3, 40, refs (fun _ => none))), (n1, .inl (cs 0, 14, .inl tFIRST)), (o, .inr (3, [.null, .int 0, .int 0, .ref n1, .ref n2, .ref n3, .ref n4, .ref n5, .int 0]))] H := hP
  have hD : va_D _ [(n5, .inl (cs 4, 511, refs (fun _ => none))), (n4, .inl (cs 0, 40, .inl (fun _ => 0))), (n3, .inl (cs 2, 40, .inl (fun _ => 0))), (n2, .inl (cs 3, 40, refs (fun _ => none))), (n1, .inl (cs 0, 14, .inl tFIRST)), (o, .inr (3, [.null, .int 0, .int 0, .ref n1, .ref n2, .ref n3, .ref n4, .ref n5, .int 0]))] := hD
  refine lv_aload_n hx hb dX3_init_52 rfl (lv_at hl 0 rfl) ?_
  refine lv_aload_n hx hb dX3_init_53 rfl (lv_at hl 1 rfl) ?_
  refine va_putF (D := D) (ci := 3) (v := .ref kb) (ty := (.object "PledgeHouse$Books")) (C := RX3) (T := TX3) (N := 9) hx hb hts hX3 tyX3 tyX3_ok nmX3 hown hK.1 hP hD hS 5 rfl rfl 0 (by decide) (hts (.fieldLink RX3 42 "PledgeHouse$House" "books" "LPledgeHouse$Books;") (by decide +kernel)) (fun _ h9 => h9) rfl hin rfl (by decide +kernel) rfl rfl (Nat.le_of_ble_eq_true rfl) dX3_init_54 (fun H locs hP hD hS => ?_)
  have hP : va_P D vwCl [(n5, .inl (cs 4, 511, refs (fun _ => none))), (n4, .inl (cs 0, 40, .inl (fun _ => 0))), (n3, .inl (cs 2, 40, .inl (fun _ => 0))), (n2, .inl (cs 3, 40, refs (fun _ => none))), (n1, .inl (cs 0, 14, .inl tFIRST)), (o, .inr (3, [.ref kb, .int 0, .int 0, .ref n1, .ref n2, .ref n3, .ref n4, .ref n5, .int 0]))] H := hP
  have hD : va_D _ [(n5, .inl (cs 4, 511, refs (fun _ => none))), (n4, .inl (cs 0, 40, .inl (fun _ => 0))), (n3, .inl (cs 2, 40, .inl (fun _ => 0))), (n2, .inl (cs 3, 40, refs (fun _ => none))), (n1, .inl (cs 0, 14, .inl tFIRST)), (o, .inr (3, [.ref kb, .int 0, .int 0, .ref n1, .ref n2, .ref n3, .ref n4, .ref n5, .int 0]))] := hD
  refine W.vret hx hb hr (fun t2 ht2 hW => ⟨lst [n1, n2, n3, n4, n5], fun i hi => by rcases (show i = 0 ∨ i = 1 ∨ i = 2 ∨ i = 3 ∨ i = 4 by omega) with rfl | rfl | rfl | rfl | rfl <;> assumption, fun i j hi hj he => ?_, rfl, by rw [ht2]; exact hP.sub [5, 4, 3, 2, 1, 0] rfl, hS.F ht2⟩) hS.2.2 dX3_init_57 hlocks
  have e1 : n1 < n2 := ln2 0 _ rfl
  have e2 : n2 < n3 := ln3 0 _ rfl
  have e3 : n3 < n4 := ln4 0 _ rfl
  have e4 : n4 < n5 := ln5 0 _ rfl
  rcases (show i = 0 ∨ i = 1 ∨ i = 2 ∨ i = 3 ∨ i = 4 by omega) with rfl | rfl | rfl | rfl | rfl <;> rcases (show j = 0 ∨ j = 1 ∨ j = 2 ∨ j = 3 ∨ j = 4 by omega) with rfl | rfl | rfl | rfl | rfl <;> first | rfl | (exfalso; simp [lst] at he; omega)
set_option maxHeartbeats 4000000 in
set_option maxRecDepth 100000 in
theorem cC_X11_initT (l : Launch) (D : va_G) (cs : Nat → ClassId) (o rF sz : Nat) : Met l yX11_init wsX11_init ({ frames := 2, cells := 527, slots := 12595, locals := 50 }) (cPcU (stFT cs (adA (p1 o) sz) rF) [.ref o] D cs [(o, .inr (9, [.null, .null, .int 0, .int 0]))] sz) (phQ D cs o sz) 527 12595 (adA (p1 o) sz) := by
  refine c_inU (P := p1 o) (cc := cX11_init) (maxL := 2) (ret := none) (lv := [(0, .ref o)]) (by decide) rfl (Nat.le_of_ble_eq_true rfl) rfl ?_
  intro p e s m below meth c ls S hr hlocks hin hsz hP hK hX hl hS
  subst hsz
  obtain ⟨hx, hb, hml, hown, hts⟩ := id S
  have hX0 : ∀ w ∈ wsX00, w ∈ wsX11_init := by decide +kernel
  have hX3 : ∀ w ∈ wsX30, w ∈ wsX11_init := by decide +kernel
  have hX11 : ∀ w ∈ wsX110, w ∈ wsX11_init := by decide +kernel
  have hlo : o < s.heap.size := lt_of hP (i := 0) rfl
  refine lv_aload_n hx hb dX11_init_0 rfl (lv_at hl 0 rfl) ?_
  refine W.objInit hx hb hown (hts (.methodLink RX11 1 objectInit) (by decide +kernel)) (hts (.instanceMethod objectInit) (by decide +kernel)) (hts (.code objectInit ⟨#[0xb1]⟩ 1 none) (by decide +kernel)) rfl (by rw [hml]; exact hl.1) rfl dX11_init_1 (Nat.le_of_ble_eq_true rfl) (Nat.le_of_ble_eq_true rfl) ?_
  refine W.eq (g2 := F0 m 4 ls []) rfl ?_
  -- the books
  refine x_new hx hb hts hX0 tyX0 tyX0_ok hown (hts (.classLink RX11 7 RX0) (by decide +kernel)) (hts (.instantiable RX0 1) (by decide +kernel)) (hts (.initialized RX0) (by decide +kernel)) hK.1 hP hS (ci := 0) rfl (fs := [.null]) dfX0 (Nat.le_of_ble_eq_true rfl) (Nat.le_of_ble_eq_true rfl) dX11_init_4 (fun n1 H hn1 ln1 hP hS => ?_)
  have hPo := vaR (w1 := [(n1, .inr (0, [.null]))]) (w2 := [(o, .inr (9, [.null, .null, .int 0, .int 0]))]) hP
  have hP1 := vaL (w1 := [(n1, .inr (0, [.null]))]) (w2 := [(o, .inr (9, [.null, .null, .int 0, .int 0]))]) hP
  have l1 : n1 < H.size := lt_of hP1 (i := 0) rfl
  refine lv_dup hx hb dX11_init_7 rfl ?_
  refine c_wNG (G := fun q H1 => va_P D vwCl (wB (two n1 (q 0)) (fun i => q 0 + 1 + i) cs (fun _ _ => 0)) H1 ∧ va_P D vwCl [(o, .inr (9, [.null, .null, .int 0, .int 0]))] H1) (rest := [.ref n1]) (va_runIN S (As := []) (b := n1) (cC_X0_init l D cs n1 _) ⟨va_cnB (host := "PledgeHouse") 0 hts gX11_init_X0_init_n9 rfl rfl rfl (hK.2.2.1 _ (by decide +kernel)) (hts (.initialized RX0) (by decide +kernel)) (by decide +kernel) ⟨Nat.le_of_ble_eq_true rfl, Nat.le_of_ble_eq_true rfl⟩, rfl, hts (.instanceMethod yX0_init) (by decide +kernel)⟩ (preS_u (fun U V h _ h3 => h3.same h) hK hP1 (fun U _ hW => hX.2.2.warm hW)) rfl rfl hl.1 rfl (lv_room (Nat.le_of_ble_eq_true rfl)) dX11_init_8 ⟨Nat.le_of_ble_eq_true rfl, Nat.le_of_ble_eq_true rfl⟩) hS (fun q h => h.elim (fun z => Or.inr (by rw [show q = n1 from z]; exact hn1)) (fun z => Or.inr (Nat.le_trans hS.1 z))) (fun q H1 _ hk h => ⟨h, keepP hPo one_p (p1_ne (by omega)) hk⟩) (fun q0 H locs hq0 _ hG hS => ?_)
  have iK : iB (two n1 (q0 0)) (fun i => q0 0 + 1 + i) := two_B (Nat.lt_of_lt_of_le l1 (hq0 0 (by decide)))
  have gK : ∀ x, pB (two n1 (q0 0)) (fun i => q0 0 + 1 + i) x → s.heap.size ≤ x := two_Bge hn1 (by have := hq0 0 (by decide); omega)
  generalize hk : two n1 (q0 0) = k at hG iK gK
  generalize hrr : (fun i => q0 0 + 1 + i) = r at hG iK gK
  have hk0 : n1 = k 0 := by rw [← hk]; rfl
  refine lv_astore_n (lv' := [(1, .ref n1), (0, .ref o)]) hx hb dX11_init_11 rfl hl (by decide) rfl (fun ls hl => ?_)
  -- the house
  have lo : o < H.size := lt_of hG.2 (i := 0) rfl
  have lB := wB_lt hG.1
  refine lv_aload_n hx hb dX11_init_12 rfl (lv_at hl 1 rfl) ?_
  refine x_newS hx hb hts hX3 tyX3 tyX3_ok hown (hts (.classLink RX11 10 RX3) (by decide +kernel)) (hts (.instantiable RX3 9) (by decide +kernel)) (hts (.initialized RX3) (by decide +kernel)) hK.1 (va_P.app hG.2 hG.1) hS (ci := 3) rfl (fs := [.null, .int 0, .int 0, .null, .null, .null, .null, .null, .int 0]) dfX3 (Nat.le_of_ble_eq_true rfl) (Nat.le_of_ble_eq_true rfl) dX11_init_13 (fun n2 H hn2 ln2 hPn hPr hS => ?_)
  have l2 : n2 < H.size := lt_of hPn (i := 0) rfl
  refine lv_dup hx hb dX11_init_16 rfl ?_
  refine lv_aload_n hx hb dX11_init_17 rfl (lv_at hl 0 rfl) ?_
  refine c_wNG (G := fun q H1 => va_P D vwCl (wH (sx n2 q) n1 cs hZ0) H1 ∧ va_P D vwCl (wB k r cs (fun _ _ => 0)) H1 ∧ va_P D vwCl [(o, .inr (9, [.null, .null, .int 0, .int 0]))] H1) (rest := [.ref n2, .ref o]) (va_runI S (As := [.ref n1]) (b := n2) (cC_X3_initT l D cs n2 n1 rF _) (cwI 1 hts gX11_init_X3_init rfl rfl rfl (hts (.initialized RX3) (by decide +kernel)) (hts (.methodLink RX11 12 yX3_init) (by decide +kernel)) (hts (.instanceMethod yX3_init) (by decide +kernel)) rfl (by decide +kernel) ⟨Nat.le_of_ble_eq_true rfl, Nat.le_of_ble_eq_true rfl⟩) (preS_u stFT_same hK hPn (stFT_at hX hn2 hS)) rfl rfl hl.1 rfl (lv_room (Nat.le_of_ble_eq_true rfl)) dX11_init_18 ⟨Nat.le_of_ble_eq_true rfl, Nat.le_of_ble_eq_true rfl⟩) hS (fun q h => h.elim (fun z => Or.inr (by rw [show q = n2 from z]; exact hn2)) (fun z => Or.inr (Nat.le_trans hS.1 z))) (fun q H1 _ hk h => ⟨h, keepP (vaR hPr) wB_p (fun x h1 h2 => absurd (lB x h1) (by rw [show x = n2 from h2]; omega)) hk, keepP (vaL hPr) one_p (p1_ne (by omega)) hk⟩) (fun q1 H locs hq1 iq1 hG hS => ?_)
  have iN : iH (sx n2 q1) := sx_I (fun i hi => Nat.lt_of_lt_of_le l2 (hq1 i hi)) iq1
  have gN : ∀ x, pH (sx n2 q1) x → n2 ≤ x := sx_ge (Nat.le_refl _) (fun i hi => by have := hq1 i hi; omega)
  have dNB : dHB (sx n2 q1) k r := fun x h1 h2 => absurd (lB x h2) (by have := gN x h1; omega)
  have hN0 : sx n2 q1 0 = n2 := rfl
  generalize sx n2 q1 = aN at hG iN gN dNB hN0
  subst hN0
  have DN : va_D (adA (p1 o) s.heap.size) ([(o, .inr (9, [.null, .null, .int 0, .int 0]))] ++ (wB k r cs (fun _ _ => 0) ++ wH aN n1 cs hZ0)) := va_Dapp (P1 := p1 o) (P2 := pOr (pB k r) (pH aN)) (n1_D (Or.inl rfl)) (va_Dapp ((wB_D iK s.heap.size).weaken (fun k q hk _ => Or.inr (gK q.1 (wB_p k q hk)))) ((wH_D iN s.heap.size).weaken (fun k q hk _ => Or.inr (Nat.le_trans hn2 (gN q.1 (wH_p k q hk))))) wB_p wH_p (fun x h1 h2 => dNB x h2 h1)) one_p (app_p wB_p wH_p) (fun x h1 h2 => by
    have h3 : x = o := h1
    rcases h2 with h2 | h2
    · have := gK x h2; omega
    · have := gN x h2; omega)
  refine va_putF (D := D) (ci := 9) (v := .ref (aN 0)) (ty := (.object "PledgeHouse$House")) (C := RX11) (T := TX11) (N := 4) hx hb hts hX11 tyX11 tyX11_ok nmX11 hown hK.1 (va_P.app hG.2.2 (va_P.app hG.2.1 hG.1)) DN hS 0 rfl rfl 0 (by decide) (hts (.fieldLink RX11 15 "PledgeHouse" "now" "LPledgeHouse$House;") (by decide +kernel)) (fun _ h9 => h9) rfl hin rfl (by decide +kernel) rfl rfl (Nat.le_of_ble_eq_true rfl) dX11_init_21 (fun H locs hP _ hS => ?_)
  have hP : va_P D vwCl ([(o, .inr (9, [.ref (aN 0), .null, .int 0, .int 0]))] ++ (wB k r cs (fun _ _ => 0) ++ wH aN n1 cs hZ0)) H := hP
  have lB := wB_lt (vaL (vaR hP))
  have lN := wH_lt (vaR (vaR hP))
  have lo : o < H.size := lt_of (vaL hP) (i := 0) rfl
  -- the house that is kept
  refine lv_aload_n hx hb dX11_init_24 rfl (lv_at hl 1 rfl) ?_
  refine x_newS hx hb hts hX3 tyX3 tyX3_ok hown (hts (.classLink RX11 10 RX3) (by decide +kernel)) (hts (.instantiable RX3 9) (by decide +kernel)) (hts (.initialized RX3) (by decide +kernel)) hK.1 hP hS (ci := 3) rfl (fs := [.null, .int 0, .int 0, .null, .null, .null, .null, .null, .int 0]) dfX3 (Nat.le_of_ble_eq_true rfl) (Nat.le_of_ble_eq_true rfl) dX11_init_25 (fun n3 H hn3 ln3 hPn hPr hS => ?_)
  have l3 : n3 < H.size := lt_of hPn (i := 0) rfl
  refine lv_dup hx hb dX11_init_28 rfl ?_
  refine lv_aload_n hx hb dX11_init_29 rfl (lv_at hl 0 rfl) ?_
  refine c_wNG (G := fun q H1 => va_P D vwCl (wH (sx n3 q) n1 cs hZ0) H1 ∧ va_P D vwCl ([(o, .inr (9, [.ref (aN 0), .null, .int 0, .int 0]))] ++ (wB k r cs (fun _ _ => 0) ++ wH aN n1 cs hZ0)) H1) (rest := [.ref n3, .ref o]) (va_runI S (As := [.ref n1]) (b := n3) (cC_X3_initT l D cs n3 n1 rF _) (cwI 1 hts gX11_init_X3_init rfl rfl rfl (hts (.initialized RX3) (by decide +kernel)) (hts (.methodLink RX11 12 yX3_init) (by decide +kernel)) (hts (.instanceMethod yX3_init) (by decide +kernel)) rfl (by decide +kernel) ⟨Nat.le_of_ble_eq_true rfl, Nat.le_of_ble_eq_true rfl⟩) (preS_u stFT_same hK hPn (stFT_at hX hn3 hS)) rfl rfl hl.1 rfl (lv_room (Nat.le_of_ble_eq_true rfl)) dX11_init_30 ⟨Nat.le_of_ble_eq_true rfl, Nat.le_of_ble_eq_true rfl⟩) hS (fun q h => h.elim (fun z => Or.inr (by rw [show q = n3 from z]; exact hn3)) (fun z => Or.inr (Nat.le_trans hS.1 z))) (fun q H1 _ hk h => ⟨h, va_P.app (keepP (vaL hPr) one_p (p1_ne (by omega)) hk) (va_P.app (keepP (vaL (vaR hPr)) wB_p (fun x h1 h2 => absurd (lB x h1) (by rw [show x = n3 from h2]; omega)) hk) (keepP (vaR (vaR hPr)) wH_p (fun x h1 h2 => absurd (lN x h1) (by rw [show x = n3 from h2]; omega)) hk))⟩) (fun q2 H locs hq2 iq2 hG hS => ?_)
  have iZ : iH (sx n3 q2) := sx_I (fun i hi => Nat.lt_of_lt_of_le l3 (hq2 i hi)) iq2
  have gZ : ∀ x, pH (sx n3 q2) x → n3 ≤ x := sx_ge (Nat.le_refl _) (fun i hi => by have := hq2 i hi; omega)
  have hZ0' : sx n3 q2 0 = n3 := rfl
  generalize sx n3 q2 = aK at hG iZ gZ hZ0'
  subst hZ0'
  have dKB : dHB aK k r := fun x h1 h2 => absurd (lB x h2) (by have := gZ x h1; omega)
  have dNK : ∀ x, pH aN x → ¬ pH aK x := fun x h1 h2 => absurd (lN x h1) (by have := gZ x h2; omega)
  have DK : va_D (adA (p1 o) s.heap.size) (([(o, .inr (9, [.ref (aN 0), .null, .int 0, .int 0]))] ++ (wB k r cs (fun _ _ => 0) ++ wH aN n1 cs hZ0)) ++ wH aK n1 cs hZ0) := va_Dapp (P1 := pOr (p1 o) (pOr (pB k r) (pH aN))) (P2 := pH aK) (va_Dadr (w := [(o, .inr (9, [.null, .null, .int 0, .int 0]))] ++ (wB k r cs (fun _ _ => 0) ++ wH aN n1 cs hZ0)) rfl DN) ((wH_D iZ s.heap.size).weaken (fun k q hk _ => Or.inr (Nat.le_trans hn3 (gZ q.1 (wH_p k q hk))))) (app_p one_p (app_p wB_p wH_p)) wH_p (fun x h1 h2 => by
    rcases h1 with h1 | h1 | h1
    · have h3 : x = o := h1
      have := gZ x h2; omega
    · exact dKB x h2 h1
    · exact dNK x h1 h2)
  refine va_putF (D := D) (ci := 9) (v := .ref (aK 0)) (ty := (.object "PledgeHouse$House")) (C := RX11) (T := TX11) (N := 4) hx hb hts hX11 tyX11 tyX11_ok nmX11 hown hK.1 (va_P.app hG.2 hG.1) DK hS 0 rfl rfl 1 (by decide) (hts (.fieldLink RX11 21 "PledgeHouse" "kept" "LPledgeHouse$House;") (by decide +kernel)) (fun _ h9 => h9) rfl hin rfl (by decide +kernel) rfl rfl (Nat.le_of_ble_eq_true rfl) dX11_init_33 (fun H locs hP _ hS => ?_)
  have hP : va_P D vwCl (([(o, .inr (9, [.ref (aN 0), .ref (aK 0), .int 0, .int 0]))] ++ (wB k r cs (fun _ _ => 0) ++ wH aN n1 cs hZ0)) ++ wH aK n1 cs hZ0) H := hP
  subst hk0
  exact W.vret hx hb hr (fun t2 ht2 hW => ⟨rfl, k, r, aN, aK, ⟨iK, iN, iZ, dNB, dKB, dNK⟩, ⟨gK, fun x h => Nat.le_trans hn2 (gN x h), fun x h => Nat.le_trans hn3 (gZ x h)⟩, by rw [ht2]; exact vaL (vaL hP), by rw [ht2]; exact vaL (vaR (vaL hP)), by rw [ht2]; exact vaR (vaR (vaL hP)), by rw [ht2]; exact vaR hP, hS.F ht2⟩) hS.2.2 dX11_init_36 hlocks
