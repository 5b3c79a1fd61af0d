/-! the class: pledges that are made from others (by cwalk.py) -/
theorem dfX0 : ∀ j, j < 1 → defaultValue (tyX0 j) = vp_V [.null] j := fun j hj => by rcases (show j = 0 by omega) with rfl <;> rfl
theorem dfX1 : ∀ j, j < 3 → defaultValue (tyX1 j) = vp_V [.int 0, .int 0, .int 0] j := fun j hj => by rcases (show j = 0 ∨ j = 1 ∨ j = 2 by omega) with rfl | rfl | rfl <;> rfl
theorem dfX2 : ∀ j, j < 3 → defaultValue (tyX2 j) = vp_V [.int 0, .int 0, .int 0] j := fun j hj => by rcases (show j = 0 ∨ j = 1 ∨ j = 2 by omega) with rfl | rfl | rfl <;> rfl
theorem dfX3 : ∀ j, j < 9 → defaultValue (tyX3 j) = vp_V [.null, .int 0, .int 0, .null, .null, .null, .null, .null, .int 0] j := fun j hj => by rcases (show j = 0 ∨ j = 1 ∨ j = 2 ∨ j = 3 ∨ j = 4 ∨ j = 5 ∨ j = 6 ∨ j = 7 ∨ j = 8 by omega) with rfl | rfl | rfl | rfl | rfl | rfl | rfl | rfl | rfl <;> rfl
theorem dfX4 : ∀ j, j < 2 → defaultValue (tyX4 j) = vp_V [.null, .int 0] j := fun j hj => by rcases (show j = 0 ∨ j = 1 by omega) with rfl | rfl <;> rfl
theorem dfX6 : ∀ j, j < 6 → defaultValue (tyX6 j) = vp_V [.int 0, .int 0, .float 0, .int 0, .int 0, .int 0] j := fun j hj => by rcases (show j = 0 ∨ j = 1 ∨ j = 2 ∨ j = 3 ∨ j = 4 ∨ j = 5 by omega) with rfl | rfl | rfl | rfl | rfl | rfl <;> rfl
theorem dfX7 : ∀ j, j < 6 → defaultValue (tyX7 j) = vp_V [.int 0, .int 0, .int 0, .int 0, .int 0, .int 0] j := fun j hj => by rcases (show j = 0 ∨ j = 1 ∨ j = 2 ∨ j = 3 ∨ j = 4 ∨ j = 5 by omega) with rfl | rfl | rfl | rfl | rfl | rfl <;> rfl
theorem dfX8 : ∀ j, j < 1 → defaultValue (tyX8 j) = vp_V [.int 0] j := fun j hj => by rcases (show j = 0 by omega) with rfl <;> rfl
theorem dfX9 : ∀ j, j < 19 → defaultValue (tyX9 j) = vp_V [.int 0, .int 0, .int 0, .int 0, .int 0, .int 0, .null, .null, .int 0, .int 0, .int 0, .int 0, .int 0, .int 0, .int 0, .int 0, .int 0, .int 0, .int 0] j := fun j hj => by rcases (show j = 0 ∨ j = 1 ∨ j = 2 ∨ j = 3 ∨ j = 4 ∨ j = 5 ∨ j = 6 ∨ j = 7 ∨ j = 8 ∨ j = 9 ∨ j = 10 ∨ j = 11 ∨ j = 12 ∨ j = 13 ∨ j = 14 ∨ j = 15 ∨ j = 16 ∨ j = 17 ∨ j = 18 by omega) with rfl | rfl | rfl | rfl | rfl | rfl | rfl | rfl | rfl | rfl | rfl | rfl | rfl | rfl | rfl | rfl | rfl | rfl | rfl <;> rfl
theorem dfX11 : ∀ j, j < 4 → defaultValue (tyX11 j) = vp_V [.null, .null, .int 0, .int 0] j := fun j hj => by rcases (show j = 0 ∨ j = 1 ∨ j = 2 ∨ j = 3 by omega) with rfl | rfl | rfl | rfl <;> rfl
theorem dfX12 : ∀ j, j < 4 → defaultValue (tyX12 j) = vp_V [.null, .null, .null, .null] j := fun j hj => by rcases (show j = 0 ∨ j = 1 ∨ j = 2 ∨ j = 3 by omega) with rfl | rfl | rfl | rfl <;> rfl
theorem dfX13 : ∀ j, j < 6 → defaultValue (tyX13 j) = vp_V [.null, .null, .null, .int 0, .int 0, .int 0] j := fun j hj => by rcases (show j = 0 ∨ j = 1 ∨ j = 2 ∨ j = 3 ∨ j = 4 ∨ j = 5 by omega) with rfl | rfl | rfl | rfl | rfl | rfl <;> rfl
theorem keep0 {D : va_G} {w : va_W} {s : State} {H : Heap} {locs : List Loc} (hp : va_P D vwCl w s.heap) (hS : va_S (adA (fun _ => False) s.heap.size) s.heap H locs) : va_P D vwCl w H := hp.kept (fun k q hq => hS.2.1 q.1 (hp k q hq).lt (fun z => z.elim id (fun h => absurd (hp k q hq).lt (Nat.not_lt.mpr h))))
theorem n1_D {A : Nat → Prop} {n : Nat} {E : va_E} (h : A n) : va_D A [(n, E)] := by
  refine ⟨fun i j p q h1 h2 _ => ?_, fun k q hq => ?_⟩
  · have a1 : i < 1 := (List.getElem?_eq_some_iff.mp h1).1
    have a2 : j < 1 := (List.getElem?_eq_some_iff.mp h2).1
    omega
  · have a1 : k < 1 := (List.getElem?_eq_some_iff.mp hq).1
    obtain rfl : k = 0 := by omega
    cases hq
    exact h
theorem arr_eq {D : va_G} {q n : Nat} {cA : ClassId} {f g : Nat → Int32} {H : Heap} (h : ∀ i, i < n → f i = g i) (hp : va_P D vwCl [(q, .inl (cA, n, .inl f))] H) : va_P D vwCl [(q, .inl (cA, n, .inl g))] H := by
  intro k x hx
  have a1 : k < 1 := (List.getElem?_eq_some_iff.mp hx).1
  obtain rfl : k = 0 := by omega
  cases hx
  have e1 : H[q]? = some (vp_cell cA (n, .inl f)) := hp 0 _ rfl
  show H[q]? = some (vp_cell cA (n, .inl g))
  rw [e1]
  have h2 : (fun j : Fin n => Value.int (f j.val)) = fun j => Value.int (g j.val) := funext fun j => by rw [h j.val j.isLt]
  rw [vp_cell_i, vp_cell_i]
  unfold arrV
  rw [h2]
def two (a b : Nat) : Nat → Nat := fun i => if i = 0 then a else b
theorem two_ge {a b sz : Nat} (h1 : sz ≤ a) (h2 : sz ≤ b) : ∀ i, i < 2 → sz ≤ two a b i := fun i _ => by
  unfold two
  split
  · exact h1
  · exact h2
theorem two_inj {a b : Nat} (h : a ≠ b) : ∀ i j, i < 2 → j < 2 → two a b i = two a b j → i = j := fun i j h1 h2 h3 => by
  match i, j, h1, h2 with
  | 0, 0, _, _ => rfl
  | 0, 1, _, _ => exact absurd h3 h
  | 1, 0, _, _ => exact absurd h3.symm h
  | 1, 1, _, _ => rfl
def nFalse : Nat → Prop := fun _ => False
def sc_X6_withValue (v : Nat → Int32) (w : UInt32) (value : Int32) : Nat → Int32 := fun i => ([FP.f2i (FP.fmul w 1120403456), FP.f2i (FP.fmul (FP.fsub (FP.fmul w 1120403456) (FP.i2f (FP.f2i (FP.fmul w 1120403456)))) 1148846080), 0, v 3 + 1, value, v 4] : List Int32).getD i 0
set_option maxHeartbeats 4000000 in
set_option maxRecDepth 100000 in
theorem cC_X6_withValue (l : Launch) (D : va_G) (cs : Nat → ClassId) (q : Nat → Nat) (v : Nat → Int32) (w : UInt32) (sz : Nat) (value : Int32) (hw : WOK w) : Met l yX6_withValue wsX6_withValue ({ frames := 4, cells := 1, slots := 6, locals := 86 }) (cPc [.ref (q 0), .int value] D cs (w6 q v w) sz) (cQN D 2 (fun q => some (.ref (q 0))) (fun q => w6 q (sc_X6_withValue v w value) w) (adA nFalse sz)) 1 6 (adA nFalse sz) := by
  refine c_in (P := nFalse) (cc := cX6_withValue) (maxL := 2) (ret := (some (.object "PledgeHouse$Rare"))) (lv := [(0, .ref (q 0)), (1, .int value)]) (by decide) rfl (Nat.le_of_ble_eq_true rfl) rfl ?_
  intro p e s m below meth c ls S hr hlocks hin hsz hP0 hK hl hS
  subst hsz
  obtain ⟨hx, hb, hml, hown, hts⟩ := id S
  have hP : va_P D vwCl [] s.heap := nilP
  have hX6 : ∀ w ∈ wsX60, w ∈ wsX6_withValue := by decide +kernel
  refine x_new hx hb hts hX6 tyX6 tyX6_ok hown (hts (.classLink RX6 10 RX6) (by decide +kernel)) (hts (.instantiable RX6 6) (by decide +kernel)) (hts (.initialized RX6) (by decide +kernel)) hK.1 hP hS (ci := 5) rfl (fs := [.int 0, .int 0, .float 0, .int 0, .int 0, .int 0]) dfX6 (Nat.le_of_ble_eq_true rfl) (Nat.le_of_ble_eq_true rfl) dX6_withValue_0 (fun n1 H hn1 ln1 hP hS => ?_)
  have hP : va_P D vwCl [(n1, .inr (5, [.int 0, .int 0, .float 0, .int 0, .int 0, .int 0]))] H := hP
  refine lv_dup hx hb dX6_withValue_3 rfl ?_
  refine lv_aload_n hx hb dX6_withValue_4 rfl (lv_at hl 0 rfl) ?_
  refine va_get (D := D) (ci := 5) (v := .float w) (C := RX6) (T := TX6) (N := 6) hx hb hts hX6 hown hK.1 (keep0 hP0 hS) 0 rfl rfl 2 (by decide) (hts (.fieldLink RX6 9 "PledgeHouse$Rare" "weight" "F") (by decide +kernel)) (fun _ h9 => h9) rfl dX6_withValue_5 ?_
  refine lv_aload_n hx hb dX6_withValue_8 rfl (lv_at hl 0 rfl) ?_
  refine va_get (D := D) (ci := 5) (v := .int (v 3)) (C := RX6) (T := TX6) (N := 6) hx hb hts hX6 hown hK.1 (keep0 hP0 hS) 0 rfl rfl 3 (by decide) (hts (.fieldLink RX6 15 "PledgeHouse$Rare" "tellers" "I") (by decide +kernel)) (fun _ h9 => h9) rfl dX6_withValue_9 ?_
  refine lv_iconst (v := 1) hx hb dX6_withValue_12 (by decide) ?_
  refine lv_iadd hx hb dX6_withValue_13 ?_
  refine lv_iload_n hx hb dX6_withValue_14 rfl (lv_at hl 1 rfl) ?_
  refine lv_aload_n hx hb dX6_withValue_15 rfl (lv_at hl 0 rfl) ?_
  refine va_get (D := D) (ci := 5) (v := .int (v 4)) (C := RX6) (T := TX6) (N := 6) hx hb hts hX6 hown hK.1 (keep0 hP0 hS) 0 rfl rfl 4 (by decide) (hts (.fieldLink RX6 19 "PledgeHouse$Rare" "latest" "I") (by decide +kernel)) (fun _ h9 => h9) rfl dX6_withValue_16 ?_
  refine c_w1 (WS' := [(n1, .inr (5, [.int (FP.f2i (FP.fmul w 1120403456)), .int (FP.f2i (FP.fmul (FP.fsub (FP.fmul w 1120403456) (FP.i2f (FP.f2i (FP.fmul w 1120403456)))) 1148846080)), .float w, .int ((v 3) + 1), .int value, .int (v 4)]))]) (rest := [.ref n1]) (va_runI S (As := [.float w, .int ((v 3) + 1), .int value, .int (v 4)]) (b := n1) (cC_X6_init l D cs n1 _ w ((v 3) + 1) value (v 4) hw) (cwI 4 hts gX6_withValue_X6_init rfl rfl rfl (hts (.initialized RX6) (by decide +kernel)) (hts (.methodLink RX6 25 yX6_init) (by decide +kernel)) (hts (.instanceMethod yX6_init) (by decide +kernel)) rfl (by decide +kernel) ⟨Nat.le_of_ble_eq_true rfl, Nat.le_of_ble_eq_true rfl⟩) (preS_c hK (hP)) rfl rfl hl.1 rfl (lv_room (Nat.le_of_ble_eq_true rfl)) dX6_withValue_19 ⟨Nat.le_of_ble_eq_true rfl, Nat.le_of_ble_eq_true rfl⟩) hS (fun q h => h.elim (fun z => Or.inr (by rw [z]; exact hn1)) (fun z => Or.inr (Nat.le_trans hS.1 z))) (fun _ _ _ h => h) (fun H locs hP hS => ?_)
  refine W.widen (k := 1) (n := 6) (Nat.le_of_ble_eq_true rfl) (Nat.le_of_ble_eq_true rfl) ?_
  exact W.aret hx hb hr (Or.inl ⟨_, rfl⟩) (Or.inr ⟨_, rfl⟩) (fun t2 ht2 hW => ⟨two n1 (n1 + 1), two_ge hn1 (Nat.le_succ_of_le hn1), two_inj (Nat.ne_of_lt (Nat.lt_succ_self _)), rfl, by rw [ht2]; exact hP, hS.F ht2⟩) hS.2.2 dX6_withValue_22 hlocks
theorem lot_ob {D : va_G} {H : Heap} {o r : Nat} {x y : Int32} (h : x = y) (hp : va_P D vwCl [(o, .inr (4, [.ref r, .int x]))] H) : va_P D vwCl [(o, .inr (4, [.ref r, .int y]))] H := h ▸ hp

set_option maxHeartbeats 4000000 in
set_option maxRecDepth 100000 in
theorem cC_X4_empty (l : Launch) (D : va_G) (cs : Nat → ClassId) (sz : Nat) : Met l yX4_empty wsX4_empty ({ frames := 3, cells := 2, slots := 8, locals := 62 }) (cPc [] D cs ([]) sz) (cQN D 2 (fun q => some (.ref (q 0))) (fun q => w4 q cs (fun _ => 0)) (adA nFalse sz)) 2 8 (adA nFalse sz) := by
  refine c_in (P := nFalse) (cc := cX4_empty) (maxL := 0) (ret := (some (.object "PledgeHouse$Lot"))) (lv := []) (by decide) rfl (Nat.le_of_ble_eq_true rfl) rfl ?_
  intro p e s m below meth c ls S hr hlocks hin hsz hP0 hK hl hS
  subst hsz
  obtain ⟨hx, hb, hml, hown, hts⟩ := id S
  have hP : va_P D vwCl [] s.heap := nilP
  have hX4 : ∀ w ∈ wsX40, w ∈ wsX4_empty := by decide +kernel
  refine x_new hx hb hts hX4 tyX4 tyX4_ok hown (hts (.classLink RX4 10 RX4) (by decide +kernel)) (hts (.instantiable RX4 2) (by decide +kernel)) (hts (.initialized RX4) (by decide +kernel)) hK.1 hP hS (ci := 4) rfl (fs := [.null, .int 0]) dfX4 (Nat.le_of_ble_eq_true rfl) (Nat.le_of_ble_eq_true rfl) dX4_empty_0 (fun n1 H hn1 ln1 hP hS => ?_)
  have hP : va_P D vwCl [(n1, .inr (4, [.null, .int 0]))] H := hP
  refine lv_dup hx hb dX4_empty_3 rfl ?_
  refine lv_bipush (v := 6) hx hb dX4_empty_4 (by decide) ?_
  refine x_newa hx hb (atype := .int) (hts (.arrayClass .int) (by decide +kernel)) (t0 := 0) hK.1 rfl id hP hS (N' := 6) (a0 := (6, .inl (fun _ => 0))) (fun _ => rfl) (by decide) rfl (by decide) (Nat.le_of_ble_eq_true rfl) (Nat.le_of_ble_eq_true rfl) dX4_empty_6 (fun n2 H hn2 ln2 hP hS => ?_)
  have hP : va_P D vwCl [(n2, .inl (cs 0, 6, .inl (fun _ => 0))), (n1, .inr (4, [.null, .int 0]))] H := hP
  refine lv_iconst (v := 0) hx hb dX4_empty_8 (by decide) ?_
  refine c_w1 (WS' := [(n2, .inl (cs 0, 6, .inl (fun _ => 0))), (n1, .inr (4, [.ref n2, .int 0]))]) (rest := [.ref n1]) (va_runI S (As := [.ref n2, .int 0]) (b := n1) (cC_X4_init l D cs n1 _ n2 0 ) (cwI 2 hts gX4_empty_X4_init rfl rfl rfl (hts (.initialized RX4) (by decide +kernel)) (hts (.methodLink RX4 19 yX4_init) (by decide +kernel)) (hts (.instanceMethod yX4_init) (by decide +kernel)) rfl (by decide +kernel) ⟨Nat.le_of_ble_eq_true rfl, Nat.le_of_ble_eq_true rfl⟩) (preS_c hK (show va_P D vwCl [(n1, .inr (4, [.null, .int 0]))] _ from vaR (w1 := [(n2, .inl (cs 0, 6, .inl (fun _ => 0)))]) (w2 := [(n1, .inr (4, [.null, .int 0]))]) hP)) rfl rfl hl.1 rfl (lv_room (Nat.le_of_ble_eq_true rfl)) dX4_empty_9 ⟨Nat.le_of_ble_eq_true rfl, Nat.le_of_ble_eq_true rfl⟩) hS (fun q h => h.elim (fun z => Or.inr (by rw [z]; exact hn1)) (fun z => Or.inr (Nat.le_trans hS.1 z))) (fun H1 _ hk h => va_P.app (keepP (P := p1 n2) (P' := p1 n1) (vaL (w1 := [(n2, .inl (cs 0, 6, .inl (fun _ => 0)))]) (w2 := [(n1, .inr (4, [.null, .int 0]))]) hP) (fun k q hq => by match k, hq with | 0, hq => cases hq; exact rfl | _ + 1, hq => cases hq) (fun q h1 h2 => absurd (h1.symm.trans h2) (fun z => absurd (ln2 0 _ rfl) (by rw [← z]; exact Nat.lt_irrefl _))) hk) h) (fun H locs hP hS => ?_)
  refine W.widen (k := 2) (n := 8) (Nat.le_of_ble_eq_true rfl) (Nat.le_of_ble_eq_true rfl) ?_
  exact W.aret hx hb hr (Or.inl ⟨_, rfl⟩) (Or.inr ⟨_, rfl⟩) (fun t2 ht2 hW => ⟨two n1 n2, two_ge hn1 hn2, two_inj (fun z => absurd (ln2 0 _ rfl) (by rw [z]; exact Nat.lt_irrefl _)), rfl, by rw [ht2]; exact va_P.app (w1 := [_]) (lot_ob rfl (vaR (w1 := [(n2, .inl (cs 0, 6, .inl (fun _ => 0)))]) (w2 := [(n1, .inr (4, [.ref n2, .int 0]))]) hP)) (arr_eq (fun _ _ => rfl) (vaL (w1 := [(n2, .inl (cs 0, 6, .inl (fun _ => 0)))]) (w2 := [(n1, .inr (4, [.ref n2, .int 0]))]) hP)), hS.F ht2⟩) hS.2.2 dX4_empty_12 hlocks
theorem upd_eq {f : Nat → Int32} {i : Nat} {x : Int32} : upd f i x i = x := if_pos rfl
theorem upd_ne {f : Nat → Int32} {i j : Nat} {x : Int32} (h : j ≠ i) : upd f i x j = f j := if_neg h
def sc_X4_withItem (v : Nat → Int32) (value : Int32) : Nat → Int32 := upd (if 6 ≤ v 6 then v else upd v (tN (v 6)) value) 6 (v 6 + 1)
set_option maxHeartbeats 4000000 in
set_option maxRecDepth 100000 in
theorem cC_X4_withItem (l : Launch) (D : va_G) (cs : Nat → ClassId) (q : Nat → Nat) (v : Nat → Int32) (sz : Nat) (value : Int32) (h6 : ¬ v 6 < 0) : Met l yX4_withItem wsX4_withItem ({ frames := 3, cells := 2, slots := 8, locals := 62 }) (cPc [.ref (q 0), .int value] D cs (w4 q cs v) sz) (cQN D 2 (fun q => some (.ref (q 0))) (fun q => w4 q cs (sc_X4_withItem v value)) (adA nFalse sz)) 2 8 (adA nFalse sz) := by
  refine c_in (P := nFalse) (cc := cX4_withItem) (maxL := 3) (ret := (some (.object "PledgeHouse$Lot"))) (lv := [(0, .ref (q 0)), (1, .int value)]) (by decide) rfl (Nat.le_of_ble_eq_true rfl) rfl ?_
  intro p e s m below meth c ls S hr hlocks hin hsz hP0 hK hl hS
  subst hsz
  obtain ⟨hx, hb, hml, hown, hts⟩ := id S
  have hP : va_P D vwCl [] s.heap := nilP
  have hX4 : ∀ w ∈ wsX40, w ∈ wsX4_withItem := by decide +kernel
  refine lv_aload_n hx hb dX4_withItem_0 rfl (lv_at hl 0 rfl) ?_
  refine va_get (D := D) (ci := 4) (v := .ref (q 1)) (C := RX4) (T := TX4) (N := 2) hx hb hts hX4 hown hK.1 (keep0 hP0 hS) 0 rfl rfl 0 (by decide) (hts (.fieldLink RX4 9 "PledgeHouse$Lot" "values" "[I") (by decide +kernel)) (fun _ h9 => h9) rfl dX4_withItem_1 ?_
  refine x_clone hx hb (hml.trans hl.1.symm) hown (hts (.methodLink RX4 22 ⟨"[I", "clone", "()Ljava/lang/Object;"⟩) (by decide +kernel)) (hts (.sameMethod "[I" "java/lang/Object" "clone" "()Ljava/lang/Object;") (by decide +kernel)) (hts (.native ⟨"java/lang/Object", "clone", "()Ljava/lang/Object;"⟩) (by decide +kernel)) (hts (.instanceMethod ⟨"java/lang/Object", "clone", "()Ljava/lang/Object;"⟩) (by decide +kernel)) (hts (.selects "[I" ⟨"[I", "clone", "()Ljava/lang/Object;"⟩ ⟨"java/lang/Object", "clone", "()Ljava/lang/Object;"⟩) (by decide +kernel)) hK.2.2.2.2.2.2.1 hK.1 (keep0 hP0 hS) hS 1 rfl (Nat.le_of_ble_eq_true rfl) (Nat.le_of_ble_eq_true rfl) (Nat.le_of_ble_eq_true rfl) (Nat.le_of_ble_eq_true rfl) dX4_withItem_4 (fun n1 H hn1 ln1 hP hS => ?_)
  have hP : va_P D vwCl [(n1, .inl (cs 0, 6, .inl v))] H := fun k x hx => by match k, hx with | 0, hx => exact hP 0 x hx | _ + 1, hx => cases hx
  refine va_castA hx hb hown (hts (.classLink RX4 23 "[I") (by decide +kernel)) hP 0 (a := n1) rfl (hK.1.2 0 _ rfl).2 dX4_withItem_7 ?_
  refine lv_astore_n (lv' := [(2, .ref n1), (0, .ref (q 0)), (1, .int value)]) hx hb dX4_withItem_10 rfl hl (by decide) rfl (fun ls hl => ?_)
  refine lv_aload_n hx hb dX4_withItem_11 rfl (lv_at hl 1 rfl) ?_
  refine va_get (D := D) (ci := 4) (v := .int (v 6)) (C := RX4) (T := TX4) (N := 2) hx hb hts hX4 hown hK.1 (keep0 hP0 hS) 0 rfl rfl 1 (by decide) (hts (.fieldLink RX4 15 "PledgeHouse$Lot" "came" "I") (by decide +kernel)) (fun _ h9 => h9) rfl dX4_withItem_12 ?_
  refine lv_aload_n hx hb dX4_withItem_15 rfl (lv_at hl 0 rfl) ?_
  refine va_alen hx hb hK.1 hP 0 0 rfl rfl (v := 6) rfl dX4_withItem_16 ?_
  refine lv_icmp_ge (tgt := 27) hx hb dX4_withItem_17 (by decide) (fun c_1 => ?_) (fun c_1 => ?_)
  · refine x_new hx hb hts hX4 tyX4 tyX4_ok hown (hts (.classLink RX4 10 RX4) (by decide +kernel)) (hts (.instantiable RX4 2) (by decide +kernel)) (hts (.initialized RX4) (by decide +kernel)) hK.1 hP hS (ci := 4) rfl (fs := [.null, .int 0]) dfX4 (Nat.le_of_ble_eq_true rfl) (Nat.le_of_ble_eq_true rfl) dX4_withItem_27 (fun n2 H hn2 ln2 hP hS => ?_)
    have hP : va_P D vwCl [(n2, .inr (4, [.null, .int 0])), (n1, .inl (cs 0, 6, .inl v))] H := hP
    refine lv_dup hx hb dX4_withItem_30 rfl ?_
    refine lv_aload_n hx hb dX4_withItem_31 rfl (lv_at hl 0 rfl) ?_
    refine lv_aload_n hx hb dX4_withItem_32 rfl (lv_at hl 1 rfl) ?_
    refine va_get (D := D) (ci := 4) (v := .int (v 6)) (C := RX4) (T := TX4) (N := 2) hx hb hts hX4 hown hK.1 (keep0 hP0 hS) 0 rfl rfl 1 (by decide) (hts (.fieldLink RX4 15 "PledgeHouse$Lot" "came" "I") (by decide +kernel)) (fun _ h9 => h9) rfl dX4_withItem_33 ?_
    refine lv_iconst (v := 1) hx hb dX4_withItem_36 (by decide) ?_
    refine lv_iadd hx hb dX4_withItem_37 ?_
    refine c_w1 (WS' := [(n2, .inr (4, [.ref n1, .int ((v 6) + 1)])), (n1, .inl (cs 0, 6, .inl v))]) (rest := [.ref n2]) (va_runI S (As := [.ref n1, .int ((v 6) + 1)]) (b := n2) (cC_X4_init l D cs n2 _ n1 ((v 6) + 1) ) (cwI 2 hts gX4_withItem_X4_init rfl rfl rfl (hts (.initialized RX4) (by decide +kernel)) (hts (.methodLink RX4 19 yX4_init) (by decide +kernel)) (hts (.instanceMethod yX4_init) (by decide +kernel)) rfl (by decide +kernel) ⟨Nat.le_of_ble_eq_true rfl, Nat.le_of_ble_eq_true rfl⟩) (preS_c hK (show va_P D vwCl [(n2, .inr (4, [.null, .int 0]))] _ from vaL (w1 := [(n2, .inr (4, [.null, .int 0]))]) (w2 := [(n1, .inl (cs 0, 6, .inl v))]) hP)) rfl rfl hl.1 rfl (lv_room (Nat.le_of_ble_eq_true rfl)) dX4_withItem_38 ⟨Nat.le_of_ble_eq_true rfl, Nat.le_of_ble_eq_true rfl⟩) hS (fun q h => h.elim (fun z => Or.inr (by rw [z]; exact hn2)) (fun z => Or.inr (Nat.le_trans hS.1 z))) (fun H1 _ hk h => va_P.app h (keepP (P := p1 n1) (P' := p1 n2) (vaR (w1 := [(n2, .inr (4, [.null, .int 0]))]) (w2 := [(n1, .inl (cs 0, 6, .inl v))]) hP) (fun k q hq => by match k, hq with | 0, hq => cases hq; exact rfl | _ + 1, hq => cases hq) (fun q h1 h2 => absurd (h1.symm.trans h2) (fun z => absurd (ln2 0 _ rfl) (by rw [z]; exact Nat.lt_irrefl _))) hk)) (fun H locs hP hS => ?_)
    refine W.widen (k := 2) (n := 8) (Nat.le_of_ble_eq_true rfl) (Nat.le_of_ble_eq_true rfl) ?_
    exact W.aret hx hb hr (Or.inl ⟨_, rfl⟩) (Or.inr ⟨_, rfl⟩) (fun t2 ht2 hW => ⟨two n2 n1, two_ge hn2 hn1, two_inj (fun z => absurd (ln2 0 _ rfl) (by rw [← z]; exact Nat.lt_irrefl _)), rfl, by rw [ht2]; exact va_P.app (w1 := [_]) (lot_ob (show _ = sc_X4_withItem v value 6 from (upd_eq).symm) (vaL (w1 := [(n2, .inr (4, [.ref n1, .int ((v 6) + 1)]))]) (w2 := [(n1, .inl (cs 0, 6, .inl v))]) hP)) (arr_eq (fun i hi => by unfold sc_X4_withItem; exact ((upd_ne (i := 6) (Nat.ne_of_lt hi)).trans (congrFun (if_pos c_1) i)).symm) (vaR (w1 := [(n2, .inr (4, [.ref n1, .int ((v 6) + 1)]))]) (w2 := [(n1, .inl (cs 0, 6, .inl v))]) hP)), hS.F ht2⟩) hS.2.2 dX4_withItem_41 hlocks
  · refine lv_aload_n hx hb dX4_withItem_20 rfl (lv_at hl 0 rfl) ?_
    refine lv_aload_n hx hb dX4_withItem_21 rfl (lv_at hl 1 rfl) ?_
    refine va_get (D := D) (ci := 4) (v := .int (v 6)) (C := RX4) (T := TX4) (N := 2) hx hb hts hX4 hown hK.1 (keep0 hP0 hS) 0 rfl rfl 1 (by decide) (hts (.fieldLink RX4 15 "PledgeHouse$Lot" "came" "I") (by decide +kernel)) (fun _ h9 => h9) rfl dX4_withItem_22 ?_
    refine lv_iload_n hx hb dX4_withItem_25 rfl (lv_at hl 2 rfl) ?_
    refine x_iast hx hb hK.1 hP (n1_D (Or.inr hn1)) hS 0 0 rfl rfl (tN (v 6)) (ix_lt (c := 6) (n := 6) rfl (by decide) h6 c_1).1 (ix_lt (c := 6) (n := 6) rfl (by decide) h6 c_1).2 (by decide) dX4_withItem_26 (fun H locs hP hS => ?_)
    have hP : va_P D vwCl [(n1, .inl (cs 0, 6, .inl (upd v (tN (v 6)) value)))] H := hP
    refine x_new hx hb hts hX4 tyX4 tyX4_ok hown (hts (.classLink RX4 10 RX4) (by decide +kernel)) (hts (.instantiable RX4 2) (by decide +kernel)) (hts (.initialized RX4) (by decide +kernel)) hK.1 hP hS (ci := 4) rfl (fs := [.null, .int 0]) dfX4 (Nat.le_of_ble_eq_true rfl) (Nat.le_of_ble_eq_true rfl) dX4_withItem_27 (fun n2 H hn2 ln2 hP hS => ?_)
    have hP : va_P D vwCl [(n2, .inr (4, [.null, .int 0])), (n1, .inl (cs 0, 6, .inl (upd v (tN (v 6)) value)))] H := hP
    refine lv_dup hx hb dX4_withItem_30 rfl ?_
    refine lv_aload_n hx hb dX4_withItem_31 rfl (lv_at hl 0 rfl) ?_
    refine lv_aload_n hx hb dX4_withItem_32 rfl (lv_at hl 1 rfl) ?_
    refine va_get (D := D) (ci := 4) (v := .int (v 6)) (C := RX4) (T := TX4) (N := 2) hx hb hts hX4 hown hK.1 (keep0 hP0 hS) 0 rfl rfl 1 (by decide) (hts (.fieldLink RX4 15 "PledgeHouse$Lot" "came" "I") (by decide +kernel)) (fun _ h9 => h9) rfl dX4_withItem_33 ?_
    refine lv_iconst (v := 1) hx hb dX4_withItem_36 (by decide) ?_
    refine lv_iadd hx hb dX4_withItem_37 ?_
    refine c_w1 (WS' := [(n2, .inr (4, [.ref n1, .int ((v 6) + 1)])), (n1, .inl (cs 0, 6, .inl (upd v (tN (v 6)) value)))]) (rest := [.ref n2]) (va_runI S (As := [.ref n1, .int ((v 6) + 1)]) (b := n2) (cC_X4_init l D cs n2 _ n1 ((v 6) + 1) ) (cwI 2 hts gX4_withItem_X4_init rfl rfl rfl (hts (.initialized RX4) (by decide +kernel)) (hts (.methodLink RX4 19 yX4_init) (by decide +kernel)) (hts (.instanceMethod yX4_init) (by decide +kernel)) rfl (by decide +kernel) ⟨Nat.le_of_ble_eq_true rfl, Nat.le_of_ble_eq_true rfl⟩) (preS_c hK (show va_P D vwCl [(n2, .inr (4, [.null, .int 0]))] _ from vaL (w1 := [(n2, .inr (4, [.null, .int 0]))]) (w2 := [(n1, .inl (cs 0, 6, .inl (upd v (tN (v 6)) value)))]) hP)) rfl rfl hl.1 rfl (lv_room (Nat.le_of_ble_eq_true rfl)) dX4_withItem_38 ⟨Nat.le_of_ble_eq_true rfl, Nat.le_of_ble_eq_true rfl⟩) hS (fun q h => h.elim (fun z => Or.inr (by rw [z]; exact hn2)) (fun z => Or.inr (Nat.le_trans hS.1 z))) (fun H1 _ hk h => va_P.app h (keepP (P := p1 n1) (P' := p1 n2) (vaR (w1 := [(n2, .inr (4, [.null, .int 0]))]) (w2 := [(n1, .inl (cs 0, 6, .inl (upd v (tN (v 6)) value)))]) hP) (fun k q hq => by match k, hq with | 0, hq => cases hq; exact rfl | _ + 1, hq => cases hq) (fun q h1 h2 => absurd (h1.symm.trans h2) (fun z => absurd (ln2 0 _ rfl) (by rw [z]; exact Nat.lt_irrefl _))) hk)) (fun H locs hP hS => ?_)
    refine W.widen (k := 2) (n := 8) (Nat.le_of_ble_eq_true rfl) (Nat.le_of_ble_eq_true rfl) ?_
    exact W.aret hx hb hr (Or.inl ⟨_, rfl⟩) (Or.inr ⟨_, rfl⟩) (fun t2 ht2 hW => ⟨two n2 n1, two_ge hn2 hn1, two_inj (fun z => absurd (ln2 0 _ rfl) (by rw [← z]; exact Nat.lt_irrefl _)), rfl, by rw [ht2]; exact va_P.app (w1 := [_]) (lot_ob (show _ = sc_X4_withItem v value 6 from (upd_eq).symm) (vaL (w1 := [(n2, .inr (4, [.ref n1, .int ((v 6) + 1)]))]) (w2 := [(n1, .inl (cs 0, 6, .inl (upd v (tN (v 6)) value)))]) hP)) (arr_eq (fun i hi => by unfold sc_X4_withItem; exact ((upd_ne (i := 6) (Nat.ne_of_lt hi)).trans (congrFun (if_neg c_1) i)).symm) (vaR (w1 := [(n2, .inr (4, [.ref n1, .int ((v 6) + 1)]))]) (w2 := [(n1, .inl (cs 0, 6, .inl (upd v (tN (v 6)) value)))]) hP)), hS.F ht2⟩) hS.2.2 dX4_withItem_41 hlocks
def sc_X4_withoutItem (v : Nat → Int32) (item : Int32) : Nat → Int32 := if item < 0 then v else if 6 ≤ item then v else upd v (tN item) 0
set_option maxHeartbeats 4000000 in
set_option maxRecDepth 100000 in
theorem cC_X4_withoutItem (l : Launch) (D : va_G) (cs : Nat → ClassId) (q : Nat → Nat) (v : Nat → Int32) (sz : Nat) (item : Int32) : Met l yX4_withoutItem wsX4_withoutItem ({ frames := 3, cells := 2, slots := 8, locals := 62 }) (cPc [.ref (q 0), .int item] D cs (w4 q cs v) sz) (cQN D 2 (fun q => some (.ref (q 0))) (fun q => w4 q cs (sc_X4_withoutItem v item)) (adA nFalse sz)) 2 8 (adA nFalse sz) := by
  refine c_in (P := nFalse) (cc := cX4_withoutItem) (maxL := 3) (ret := (some (.object "PledgeHouse$Lot"))) (lv := [(0, .ref (q 0)), (1, .int item)]) (by decide) rfl (Nat.le_of_ble_eq_true rfl) rfl ?_
  intro p e s m below meth c ls S hr hlocks hin hsz hP0 hK hl hS
  subst hsz
  obtain ⟨hx, hb, hml, hown, hts⟩ := id S
  have hP : va_P D vwCl [] s.heap := nilP
  have hX4 : ∀ w ∈ wsX40, w ∈ wsX4_withoutItem := by decide +kernel
  refine lv_aload_n hx hb dX4_withoutItem_0 rfl (lv_at hl 0 rfl) ?_
  refine va_get (D := D) (ci := 4) (v := .ref (q 1)) (C := RX4) (T := TX4) (N := 2) hx hb hts hX4 hown hK.1 (keep0 hP0 hS) 0 rfl rfl 0 (by decide) (hts (.fieldLink RX4 9 "PledgeHouse$Lot" "values" "[I") (by decide +kernel)) (fun _ h9 => h9) rfl dX4_withoutItem_1 ?_
  refine x_clone hx hb (hml.trans hl.1.symm) hown (hts (.methodLink RX4 22 ⟨"[I", "clone", "()Ljava/lang/Object;"⟩) (by decide +kernel)) (hts (.sameMethod "[I" "java/lang/Object" "clone" "()Ljava/lang/Object;") (by decide +kernel)) (hts (.native ⟨"java/lang/Object", "clone", "()Ljava/lang/Object;"⟩) (by decide +kernel)) (hts (.instanceMethod ⟨"java/lang/Object", "clone", "()Ljava/lang/Object;"⟩) (by decide +kernel)) (hts (.selects "[I" ⟨"[I", "clone", "()Ljava/lang/Object;"⟩ ⟨"java/lang/Object", "clone", "()Ljava/lang/Object;"⟩) (by decide +kernel)) hK.2.2.2.2.2.2.1 hK.1 (keep0 hP0 hS) hS 1 rfl (Nat.le_of_ble_eq_true rfl) (Nat.le_of_ble_eq_true rfl) (Nat.le_of_ble_eq_true rfl) (Nat.le_of_ble_eq_true rfl) dX4_withoutItem_4 (fun n1 H hn1 ln1 hP hS => ?_)
  have hP : va_P D vwCl [(n1, .inl (cs 0, 6, .inl v))] H := fun k x hx => by match k, hx with | 0, hx => exact hP 0 x hx | _ + 1, hx => cases hx
  refine va_castA hx hb hown (hts (.classLink RX4 23 "[I") (by decide +kernel)) hP 0 (a := n1) rfl (hK.1.2 0 _ rfl).2 dX4_withoutItem_7 ?_
  refine lv_astore_n (lv' := [(2, .ref n1), (0, .ref (q 0)), (1, .int item)]) hx hb dX4_withoutItem_10 rfl hl (by decide) rfl (fun ls hl => ?_)
  refine lv_iload_n hx hb dX4_withoutItem_11 rfl (lv_at hl 2 rfl) ?_
  refine lv_if_lt (tgt := 25) hx hb dX4_withoutItem_12 (by decide) (fun c_1 => ?_) (fun c_1 => ?_)
  · refine x_new hx hb hts hX4 tyX4 tyX4_ok hown (hts (.classLink RX4 10 RX4) (by decide +kernel)) (hts (.instantiable RX4 2) (by decide +kernel)) (hts (.initialized RX4) (by decide +kernel)) hK.1 hP hS (ci := 4) rfl (fs := [.null, .int 0]) dfX4 (Nat.le_of_ble_eq_true rfl) (Nat.le_of_ble_eq_true rfl) dX4_withoutItem_25 (fun n2 H hn2 ln2 hP hS => ?_)
    have hP : va_P D vwCl [(n2, .inr (4, [.null, .int 0])), (n1, .inl (cs 0, 6, .inl v))] H := hP
    refine lv_dup hx hb dX4_withoutItem_28 rfl ?_
    refine lv_aload_n hx hb dX4_withoutItem_29 rfl (lv_at hl 0 rfl) ?_
    refine lv_aload_n hx hb dX4_withoutItem_30 rfl (lv_at hl 1 rfl) ?_
    refine va_get (D := D) (ci := 4) (v := .int (v 6)) (C := RX4) (T := TX4) (N := 2) hx hb hts hX4 hown hK.1 (keep0 hP0 hS) 0 rfl rfl 1 (by decide) (hts (.fieldLink RX4 15 "PledgeHouse$Lot" "came" "I") (by decide +kernel)) (fun _ h9 => h9) rfl dX4_withoutItem_31 ?_
    refine c_w1 (WS' := [(n2, .inr (4, [.ref n1, .int (v 6)])), (n1, .inl (cs 0, 6, .inl v))]) (rest := [.ref n2]) (va_runI S (As := [.ref n1, .int (v 6)]) (b := n2) (cC_X4_init l D cs n2 _ n1 (v 6) ) (cwI 2 hts gX4_withoutItem_X4_init rfl rfl rfl (hts (.initialized RX4) (by decide +kernel)) (hts (.methodLink RX4 19 yX4_init) (by decide +kernel)) (hts (.instanceMethod yX4_init) (by decide +kernel)) rfl (by decide +kernel) ⟨Nat.le_of_ble_eq_true rfl, Nat.le_of_ble_eq_true rfl⟩) (preS_c hK (show va_P D vwCl [(n2, .inr (4, [.null, .int 0]))] _ from vaL (w1 := [(n2, .inr (4, [.null, .int 0]))]) (w2 := [(n1, .inl (cs 0, 6, .inl v))]) hP)) rfl rfl hl.1 rfl (lv_room (Nat.le_of_ble_eq_true rfl)) dX4_withoutItem_34 ⟨Nat.le_of_ble_eq_true rfl, Nat.le_of_ble_eq_true rfl⟩) hS (fun q h => h.elim (fun z => Or.inr (by rw [z]; exact hn2)) (fun z => Or.inr (Nat.le_trans hS.1 z))) (fun H1 _ hk h => va_P.app h (keepP (P := p1 n1) (P' := p1 n2) (vaR (w1 := [(n2, .inr (4, [.null, .int 0]))]) (w2 := [(n1, .inl (cs 0, 6, .inl v))]) hP) (fun k q hq => by match k, hq with | 0, hq => cases hq; exact rfl | _ + 1, hq => cases hq) (fun q h1 h2 => absurd (h1.symm.trans h2) (fun z => absurd (ln2 0 _ rfl) (by rw [z]; exact Nat.lt_irrefl _))) hk)) (fun H locs hP hS => ?_)
    refine W.widen (k := 2) (n := 8) (Nat.le_of_ble_eq_true rfl) (Nat.le_of_ble_eq_true rfl) ?_
    exact W.aret hx hb hr (Or.inl ⟨_, rfl⟩) (Or.inr ⟨_, rfl⟩) (fun t2 ht2 hW => ⟨two n2 n1, two_ge hn2 hn1, two_inj (fun z => absurd (ln2 0 _ rfl) (by rw [← z]; exact Nat.lt_irrefl _)), rfl, by rw [ht2]; exact va_P.app (w1 := [_]) (lot_ob (by unfold sc_X4_withoutItem; rw [if_pos c_1]) (vaL (w1 := [(n2, .inr (4, [.ref n1, .int (v 6)]))]) (w2 := [(n1, .inl (cs 0, 6, .inl v))]) hP)) (arr_eq (fun i hi => by unfold sc_X4_withoutItem; rw [if_pos c_1]) (vaR (w1 := [(n2, .inr (4, [.ref n1, .int (v 6)]))]) (w2 := [(n1, .inl (cs 0, 6, .inl v))]) hP)), hS.F ht2⟩) hS.2.2 dX4_withoutItem_37 hlocks
  · refine lv_iload_n hx hb dX4_withoutItem_15 rfl (lv_at hl 2 rfl) ?_
    refine lv_aload_n hx hb dX4_withoutItem_16 rfl (lv_at hl 0 rfl) ?_
    refine va_alen hx hb hK.1 hP 0 0 rfl rfl (v := 6) rfl dX4_withoutItem_17 ?_
    refine lv_icmp_ge (tgt := 25) hx hb dX4_withoutItem_18 (by decide) (fun c_2 => ?_) (fun c_2 => ?_)
    · refine x_new hx hb hts hX4 tyX4 tyX4_ok hown (hts (.classLink RX4 10 RX4) (by decide +kernel)) (hts (.instantiable RX4 2) (by decide +kernel)) (hts (.initialized RX4) (by decide +kernel)) hK.1 hP hS (ci := 4) rfl (fs := [.null, .int 0]) dfX4 (Nat.le_of_ble_eq_true rfl) (Nat.le_of_ble_eq_true rfl) dX4_withoutItem_25 (fun n2 H hn2 ln2 hP hS => ?_)
      have hP : va_P D vwCl [(n2, .inr (4, [.null, .int 0])), (n1, .inl (cs 0, 6, .inl v))] H := hP
      refine lv_dup hx hb dX4_withoutItem_28 rfl ?_
      refine lv_aload_n hx hb dX4_withoutItem_29 rfl (lv_at hl 0 rfl) ?_
      refine lv_aload_n hx hb dX4_withoutItem_30 rfl (lv_at hl 1 rfl) ?_
      refine va_get (D := D) (ci := 4) (v := .int (v 6)) (C := RX4) (T := TX4) (N := 2) hx hb hts hX4 hown hK.1 (keep0 hP0 hS) 0 rfl rfl 1 (by decide) (hts (.fieldLink RX4 15 "PledgeHouse$Lot" "came" "I") (by decide +kernel)) (fun _ h9 => h9) rfl dX4_withoutItem_31 ?_
      refine c_w1 (WS' := [(n2, .inr (4, [.ref n1, .int (v 6)])), (n1, .inl (cs 0, 6, .inl v))]) (rest := [.ref n2]) (va_runI S (As := [.ref n1, .int (v 6)]) (b := n2) (cC_X4_init l D cs n2 _ n1 (v 6) ) (cwI 2 hts gX4_withoutItem_X4_init rfl rfl rfl (hts (.initialized RX4) (by decide +kernel)) (hts (.methodLink RX4 19 yX4_init) (by decide +kernel)) (hts (.instanceMethod yX4_init) (by decide +kernel)) rfl (by decide +kernel) ⟨Nat.le_of_ble_eq_true rfl, Nat.le_of_ble_eq_true rfl⟩) (preS_c hK (show va_P D vwCl [(n2, .inr (4, [.null, .int 0]))] _ from vaL (w1 := [(n2, .inr (4, [.null, .int 0]))]) (w2 := [(n1, .inl (cs 0, 6, .inl v))]) hP)) rfl rfl hl.1 rfl (lv_room (Nat.le_of_ble_eq_true rfl)) dX4_withoutItem_34 ⟨Nat.le_of_ble_eq_true rfl, Nat.le_of_ble_eq_true rfl⟩) hS (fun q h => h.elim (fun z => Or.inr (by rw [z]; exact hn2)) (fun z => Or.inr (Nat.le_trans hS.1 z))) (fun H1 _ hk h => va_P.app h (keepP (P := p1 n1) (P' := p1 n2) (vaR (w1 := [(n2, .inr (4, [.null, .int 0]))]) (w2 := [(n1, .inl (cs 0, 6, .inl v))]) hP) (fun k q hq => by match k, hq with | 0, hq => cases hq; exact rfl | _ + 1, hq => cases hq) (fun q h1 h2 => absurd (h1.symm.trans h2) (fun z => absurd (ln2 0 _ rfl) (by rw [z]; exact Nat.lt_irrefl _))) hk)) (fun H locs hP hS => ?_)
      refine W.widen (k := 2) (n := 8) (Nat.le_of_ble_eq_true rfl) (Nat.le_of_ble_eq_true rfl) ?_
      exact W.aret hx hb hr (Or.inl ⟨_, rfl⟩) (Or.inr ⟨_, rfl⟩) (fun t2 ht2 hW => ⟨two n2 n1, two_ge hn2 hn1, two_inj (fun z => absurd (ln2 0 _ rfl) (by rw [← z]; exact Nat.lt_irrefl _)), rfl, by rw [ht2]; exact va_P.app (w1 := [_]) (lot_ob (by unfold sc_X4_withoutItem; rw [if_neg c_1, if_pos c_2]) (vaL (w1 := [(n2, .inr (4, [.ref n1, .int (v 6)]))]) (w2 := [(n1, .inl (cs 0, 6, .inl v))]) hP)) (arr_eq (fun i hi => by unfold sc_X4_withoutItem; rw [if_neg c_1, if_pos c_2]) (vaR (w1 := [(n2, .inr (4, [.ref n1, .int (v 6)]))]) (w2 := [(n1, .inl (cs 0, 6, .inl v))]) hP)), hS.F ht2⟩) hS.2.2 dX4_withoutItem_37 hlocks
    · refine lv_aload_n hx hb dX4_withoutItem_21 rfl (lv_at hl 0 rfl) ?_
      refine lv_iload_n hx hb dX4_withoutItem_22 rfl (lv_at hl 2 rfl) ?_
      refine lv_iconst (v := 0) hx hb dX4_withoutItem_23 (by decide) ?_
      refine x_iast hx hb hK.1 hP (n1_D (Or.inr hn1)) hS 0 0 rfl rfl (tN item) (ix_lt (c := 6) (n := 6) rfl (by decide) c_1 c_2).1 (ix_lt (c := 6) (n := 6) rfl (by decide) c_1 c_2).2 (by decide) dX4_withoutItem_24 (fun H locs hP hS => ?_)
      have hP : va_P D vwCl [(n1, .inl (cs 0, 6, .inl (upd v (tN item) 0)))] H := hP
      refine x_new hx hb hts hX4 tyX4 tyX4_ok hown (hts (.classLink RX4 10 RX4) (by decide +kernel)) (hts (.instantiable RX4 2) (by decide +kernel)) (hts (.initialized RX4) (by decide +kernel)) hK.1 hP hS (ci := 4) rfl (fs := [.null, .int 0]) dfX4 (Nat.le_of_ble_eq_true rfl) (Nat.le_of_ble_eq_true rfl) dX4_withoutItem_25 (fun n2 H hn2 ln2 hP hS => ?_)
      have hP : va_P D vwCl [(n2, .inr (4, [.null, .int 0])), (n1, .inl (cs 0, 6, .inl (upd v (tN item) 0)))] H := hP
      refine lv_dup hx hb dX4_withoutItem_28 rfl ?_
      refine lv_aload_n hx hb dX4_withoutItem_29 rfl (lv_at hl 0 rfl) ?_
      refine lv_aload_n hx hb dX4_withoutItem_30 rfl (lv_at hl 1 rfl) ?_
      refine va_get (D := D) (ci := 4) (v := .int (v 6)) (C := RX4) (T := TX4) (N := 2) hx hb hts hX4 hown hK.1 (keep0 hP0 hS) 0 rfl rfl 1 (by decide) (hts (.fieldLink RX4 15 "PledgeHouse$Lot" "came" "I") (by decide +kernel)) (fun _ h9 => h9) rfl dX4_withoutItem_31 ?_
      refine c_w1 (WS' := [(n2, .inr (4, [.ref n1, .int (v 6)])), (n1, .inl (cs 0, 6, .inl (upd v (tN item) 0)))]) (rest := [.ref n2]) (va_runI S (As := [.ref n1, .int (v 6)]) (b := n2) (cC_X4_init l D cs n2 _ n1 (v 6) ) (cwI 2 hts gX4_withoutItem_X4_init rfl rfl rfl (hts (.initialized RX4) (by decide +kernel)) (hts (.methodLink RX4 19 yX4_init) (by decide +kernel)) (hts (.instanceMethod yX4_init) (by decide +kernel)) rfl (by decide +kernel) ⟨Nat.le_of_ble_eq_true rfl, Nat.le_of_ble_eq_true rfl⟩) (preS_c hK (show va_P D vwCl [(n2, .inr (4, [.null, .int 0]))] _ from vaL (w1 := [(n2, .inr (4, [.null, .int 0]))]) (w2 := [(n1, .inl (cs 0, 6, .inl (upd v (tN item) 0)))]) hP)) rfl rfl hl.1 rfl (lv_room (Nat.le_of_ble_eq_true rfl)) dX4_withoutItem_34 ⟨Nat.le_of_ble_eq_true rfl, Nat.le_of_ble_eq_true rfl⟩) hS (fun q h => h.elim (fun z => Or.inr (by rw [z]; exact hn2)) (fun z => Or.inr (Nat.le_trans hS.1 z))) (fun H1 _ hk h => va_P.app h (keepP (P := p1 n1) (P' := p1 n2) (vaR (w1 := [(n2, .inr (4, [.null, .int 0]))]) (w2 := [(n1, .inl (cs 0, 6, .inl (upd v (tN item) 0)))]) hP) (fun k q hq => by match k, hq with | 0, hq => cases hq; exact rfl | _ + 1, hq => cases hq) (fun q h1 h2 => absurd (h1.symm.trans h2) (fun z => absurd (ln2 0 _ rfl) (by rw [z]; exact Nat.lt_irrefl _))) hk)) (fun H locs hP hS => ?_)
      refine W.widen (k := 2) (n := 8) (Nat.le_of_ble_eq_true rfl) (Nat.le_of_ble_eq_true rfl) ?_
      exact W.aret hx hb hr (Or.inl ⟨_, rfl⟩) (Or.inr ⟨_, rfl⟩) (fun t2 ht2 hW => ⟨two n2 n1, two_ge hn2 hn1, two_inj (fun z => absurd (ln2 0 _ rfl) (by rw [← z]; exact Nat.lt_irrefl _)), rfl, by rw [ht2]; exact va_P.app (w1 := [_]) (lot_ob (by unfold sc_X4_withoutItem; rw [if_neg c_1, if_neg c_2, upd_ne (by have := (ix_lt (c := 6) (n := 6) rfl (by decide) c_1 c_2).2; omega)]) (vaL (w1 := [(n2, .inr (4, [.ref n1, .int (v 6)]))]) (w2 := [(n1, .inl (cs 0, 6, .inl (upd v (tN item) 0)))]) hP)) (arr_eq (fun i hi => by unfold sc_X4_withoutItem; rw [if_neg c_1, if_neg c_2]) (vaR (w1 := [(n2, .inr (4, [.ref n1, .int (v 6)]))]) (w2 := [(n1, .inl (cs 0, 6, .inl (upd v (tN item) 0)))]) hP)), hS.F ht2⟩) hS.2.2 dX4_withoutItem_37 hlocks
