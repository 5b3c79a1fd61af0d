/-! the class: constructors of the books and of a house (by cwalk.py) -/
set_option maxHeartbeats 4000000 in
set_option maxRecDepth 100000 in
theorem cC_X3_init (l : Launch) (D : va_G) (cs : Nat → ClassId) (o kb rF sz : Nat) : Met l yX3_init wsX3_init ({ frames := 1, cells := 5, slots := 645, locals := 24 }) (cPcU (stF D cs (adA (p1 o) sz) rF) [.ref o, .ref kb] D cs [(o, .inr (3, [.null, .int 0, .int 0, .null, .null, .null, .null, .null, .int 0]))] sz) (cQN D 5 (fun _ => none) (fun n => wH (sx o n) kb cs hZ0) (adA (p1 o) sz)) 5 645 (adA (p1 o) sz) := by
  refine c_inU (P := p1 o) (cc := cX3_init) (maxL := 2) (ret := none) (lv := [(0, .ref o), (1, .ref kb)]) (by decide) rfl (Nat.le_of_ble_eq_true rfl) rfl ?_
  intro p e s m below meth c ls S hr hlocks hin hsz hP hK hX hl hS
  subst hsz
  obtain ⟨hx, hb, hml, hown, hts⟩ := id S
  have hD : va_D (adA (p1 o) s.heap.size) [(o, .inr (3, [.null, .int 0, .int 0, .null, .null, .null, .null, .null, .int 0]))] := w1_D s.heap.size
  have hX3 : ∀ w ∈ wsX30, w ∈ wsX3_init := by decide +kernel
  refine lv_aload_n hx hb dX3_init_0 rfl (lv_at hl 0 rfl) ?_
  refine W.objInit hx hb hown (hts (.methodLink RX3 3 objectInit) (by decide +kernel)) (hts (.instanceMethod objectInit) (by decide +kernel)) (hts (.code objectInit ⟨#[0xb1]⟩ 1 none) (by decide +kernel)) rfl (by rw [hml]; exact hl.1) rfl dX3_init_1 (Nat.le_of_ble_eq_true rfl) (Nat.le_of_ble_eq_true rfl) ?_
  refine W.eq (g2 := F0 m 4 ls []) rfl ?_
  refine lv_aload_n hx hb dX3_init_4 rfl (lv_at hl 0 rfl) ?_
  refine va_getsN (host := "PledgeHouse") hx hb hX.1 hS hown (va_Nw.use rfl (hK.2.1 _ (by decide +kernel))) (fun _ h9 => h9) dX3_init_5 ?_
  refine x_clone (ws := [(rF, .inl (cs 0, 14, .inl tFIRST))] ++ [(o, .inr (3, [.null, .int 0, .int 0, .null, .null, .null, .null, .null, .int 0]))]) hx hb (hml.trans hl.1.symm) hown (hts (.methodLink RX3 13 ⟨"[I", "clone", "()Ljava/lang/Object;"⟩) (by decide +kernel)) (hts (.sameMethod "[I" "java/lang/Object" "clone" "()Ljava/lang/Object;") (by decide +kernel)) (hts (.native ⟨"java/lang/Object", "clone", "()Ljava/lang/Object;"⟩) (by decide +kernel)) (hts (.instanceMethod ⟨"java/lang/Object", "clone", "()Ljava/lang/Object;"⟩) (by decide +kernel)) (hts (.selects "[I" ⟨"[I", "clone", "()Ljava/lang/Object;"⟩ ⟨"java/lang/Object", "clone", "()Ljava/lang/Object;"⟩) (by decide +kernel)) hK.2.2.2.2.2.2.1 hK.1 (va_P.app hX.2.1 hP) hS 0 rfl (Nat.le_of_ble_eq_true rfl) (Nat.le_of_ble_eq_true rfl) (Nat.le_of_ble_eq_true rfl) (Nat.le_of_ble_eq_true rfl) dX3_init_8 (fun n1 H hn1 ln1 hP hS => ?_)
  have hP : va_P D vwCl ((n1, .inl (cs 0, 14, .inl tFIRST)) :: [(o, .inr (3, [.null, .int 0, .int 0, .null, .null, .null, .null, .null, .int 0]))]) H := hP.sub [0, 2] rfl
  have ln1 : ∀ (k : Nat) (x : Nat × va_E), ([(o, .inr (3, [.null, .int 0, .int 0, .null, .null, .null, .null, .null, .int 0]))] : va_W)[k]? = some x → x.1 < n1 := fun k x hx => ln1 (k + 1) x hx
  have hD : va_D _ [(n1, .inl (cs 0, 14, .inl tFIRST)), (o, .inr (3, [.null, .int 0, .int 0, .null, .null, .null, .null, .null, .int 0]))] := va_Dcons hD ln1 (Or.inr hn1)
  have hP : va_P D vwCl [(n1, .inl (cs 0, 14, .inl tFIRST)), (o, .inr (3, [.null, .int 0, .int 0, .null, .null, .null, .null, .null, .int 0]))] H := hP
  refine va_castA hx hb hown (hts (.classLink RX3 14 "[I") (by decide +kernel)) hP 0 (a := n1) rfl (hK.1.2 0 _ rfl).2 dX3_init_11 ?_
  refine va_putF (D := D) (ci := 3) (v := .ref n1) (ty := (.array .int)) (C := RX3) (T := TX3) (N := 9) hx hb hts hX3 tyX3 tyX3_ok nmX3 hown hK.1 hP hD hS 1 rfl rfl 3 (by decide) (hts (.fieldLink RX3 18 "PledgeHouse$House" "rules" "[I") (by decide +kernel)) (fun _ h9 => h9) rfl hin rfl (by decide +kernel) rfl rfl (Nat.le_of_ble_eq_true rfl) dX3_init_14 (fun H locs hP hD hS => ?_)
  have hP : va_P D vwCl [(n1, .inl (cs 0, 14, .inl tFIRST)), (o, .inr (3, [.null, .int 0, .int 0, .ref n1, .null, .null, .null, .null, .int 0]))] H := hP
  have hD : va_D _ [(n1, .inl (cs 0, 14, .inl tFIRST)), (o, .inr (3, [.null, .int 0, .int 0, .ref n1, .null, .null, .null, .null, .int 0]))] := hD
  refine lv_aload_n hx hb dX3_init_17 rfl (lv_at hl 0 rfl) ?_
  refine lv_bipush (v := 40) hx hb dX3_init_18 (by decide) ?_
  refine x_newq hx hb hown (C := "PledgeHouse$Pledge") (hts (.classLink RX3 23 RX5) (by decide +kernel)) hX.2.2.1 (t0 := 3) hK.1 rfl hP hS (N' := 40) (by decide) (by decide) (by decide) (Nat.le_of_ble_eq_true rfl) (Nat.le_of_ble_eq_true rfl) dX3_init_20 (fun n2 H hn2 ln2 hP hS => ?_)
  have hD : va_D _ [(n2, .inl (cs 3, 40, refs (fun _ => none))), (n1, .inl (cs 0, 14, .inl tFIRST)), (o, .inr (3, [.null, .int 0, .int 0, .ref n1, .null, .null, .null, .null, .int 0]))] := va_Dcons hD ln2 (Or.inr hn2)
  have hP : va_P D vwCl [(n2, .inl (cs 3, 40, refs (fun _ => none))), (n1, .inl (cs 0, 14, .inl tFIRST)), (o, .inr (3, [.null, .int 0, .int 0, .ref n1, .null, .null, .null, .null, .int 0]))] H := hP
  refine va_putF (D := D) (ci := 3) (v := .ref n2) (ty := (.array (.object "PledgeHouse$Pledge"))) (C := RX3) (T := TX3) (N := 9) hx hb hts hX3 tyX3 tyX3_ok nmX3 hown hK.1 hP hD hS 2 rfl rfl 4 (by decide) (hts (.fieldLink RX3 25 "PledgeHouse$House" "pledges" "[LPledgeHouse$Pledge;") (by decide +kernel)) (fun _ h9 => h9) rfl hin rfl (by decide +kernel) rfl rfl (Nat.le_of_ble_eq_true rfl) dX3_init_23 (fun H locs hP hD hS => ?_)
  have hP : va_P D vwCl [(n2, .inl (cs 3, 40, refs (fun _ => none))), (n1, .inl (cs 0, 14, .inl tFIRST)), (o, .inr (3, [.null, .int 0, .int 0, .ref n1, .ref n2, .null, .null, .null, .int 0]))] H := hP
  have hD : va_D _ [(n2, .inl (cs 3, 40, refs (fun _ => none))), (n1, .inl (cs 0, 14, .inl tFIRST)), (o, .inr (3, [.null, .int 0, .int 0, .ref n1, .ref n2, .null, .null, .null, .int 0]))] := hD
  refine lv_aload_n hx hb dX3_init_26 rfl (lv_at hl 0 rfl) ?_
  refine lv_bipush (v := 40) hx hb dX3_init_27 (by decide) ?_
  refine x_newa hx hb (atype := .boolean) (hts (.arrayClass .boolean) (by decide +kernel)) (t0 := 2) hK.1 rfl id hP hS (N' := 40) (a0 := (40, .inl (fun _ => 0))) (fun _ => rfl) (by decide) (by decide) (by decide) (Nat.le_of_ble_eq_true rfl) (Nat.le_of_ble_eq_true rfl) dX3_init_29 (fun n3 H hn3 ln3 hP hS => ?_)
  have hD : va_D _ [(n3, .inl (cs 2, 40, .inl (fun _ => 0))), (n2, .inl (cs 3, 40, refs (fun _ => none))), (n1, .inl (cs 0, 14, .inl tFIRST)), (o, .inr (3, [.null, .int 0, .int 0, .ref n1, .ref n2, .null, .null, .null, .int 0]))] := va_Dcons hD ln3 (Or.inr hn3)
  have hP : va_P D vwCl [(n3, .inl (cs 2, 40, .inl (fun _ => 0))), (n2, .inl (cs 3, 40, refs (fun _ => none))), (n1, .inl (cs 0, 14, .inl tFIRST)), (o, .inr (3, [.null, .int 0, .int 0, .ref n1, .ref n2, .null, .null, .null, .int 0]))] H := hP
  refine va_putF (D := D) (ci := 3) (v := .ref n3) (ty := (.array .boolean)) (C := RX3) (T := TX3) (N := 9) hx hb hts hX3 tyX3 tyX3_ok nmX3 hown hK.1 hP hD hS 3 rfl rfl 5 (by decide) (hts (.fieldLink RX3 29 "PledgeHouse$House" "boxes" "[Z") (by decide +kernel)) (fun _ h9 => h9) rfl hin rfl (by decide +kernel) rfl rfl (Nat.le_of_ble_eq_true rfl) dX3_init_31 (fun H locs hP hD hS => ?_)
  have hP : va_P D vwCl [(n3, .inl (cs 2, 40, .inl (fun _ => 0))), (n2, .inl (cs 3, 40, refs (fun _ => none))), (n1, .inl (cs 0, 14, .inl tFIRST)), (o, .inr (3, [.null, .int 0, .int 0, .ref n1, .ref n2, .ref n3, .null, .null, .int 0]))] H := hP
  have hD : va_D _ [(n3, .inl (cs 2, 40, .inl (fun _ => 0))), (n2, .inl (cs 3, 40, refs (fun _ => none))), (n1, .inl (cs 0, 14, .inl tFIRST)), (o, .inr (3, [.null, .int 0, .int 0, .ref n1, .ref n2, .ref n3, .null, .null, .int 0]))] := hD
  refine lv_aload_n hx hb dX3_init_34 rfl (lv_at hl 0 rfl) ?_
  refine lv_bipush (v := 40) hx hb dX3_init_35 (by decide) ?_
  refine x_newa hx hb (atype := .int) (hts (.arrayClass .int) (by decide +kernel)) (t0 := 0) hK.1 rfl id hP hS (N' := 40) (a0 := (40, .inl (fun _ => 0))) (fun _ => rfl) (by decide) (by decide) (by decide) (Nat.le_of_ble_eq_true rfl) (Nat.le_of_ble_eq_true rfl) dX3_init_37 (fun n4 H hn4 ln4 hP hS => ?_)
  have hD : va_D _ [(n4, .inl (cs 0, 40, .inl (fun _ => 0))), (n3, .inl (cs 2, 40, .inl (fun _ => 0))), (n2, .inl (cs 3, 40, refs (fun _ => none))), (n1, .inl (cs 0, 14, .inl tFIRST)), (o, .inr (3, [.null, .int 0, .int 0, .ref n1, .ref n2, .ref n3, .null, .null, .int 0]))] := va_Dcons hD ln4 (Or.inr hn4)
  have hP : va_P D vwCl [(n4, .inl (cs 0, 40, .inl (fun _ => 0))), (n3, .inl (cs 2, 40, .inl (fun _ => 0))), (n2, .inl (cs 3, 40, refs (fun _ => none))), (n1, .inl (cs 0, 14, .inl tFIRST)), (o, .inr (3, [.null, .int 0, .int 0, .ref n1, .ref n2, .ref n3, .null, .null, .int 0]))] H := hP
  refine va_putF (D := D) (ci := 3) (v := .ref n4) (ty := (.array .int)) (C := RX3) (T := TX3) (N := 9) hx hb hts hX3 tyX3 tyX3_ok nmX3 hown hK.1 hP hD hS 4 rfl rfl 6 (by decide) (hts (.fieldLink RX3 33 "PledgeHouse$House" "ticketOn" "[I") (by decide +kernel)) (fun _ h9 => h9) rfl hin rfl (by decide +kernel) rfl rfl (Nat.le_of_ble_eq_true rfl) dX3_init_39 (fun H locs hP hD hS => ?_)
  have hP : va_P D vwCl [(n4, .inl (cs 0, 40, .inl (fun _ => 0))), (n3, .inl (cs 2, 40, .inl (fun _ => 0))), (n2, .inl (cs 3, 40, refs (fun _ => none))), (n1, .inl (cs 0, 14, .inl tFIRST)), (o, .inr (3, [.null, .int 0, .int 0, .ref n1, .ref n2, .ref n3, .ref n4, .null, .int 0]))] H := hP
  have hD : va_D _ [(n4, .inl (cs 0, 40, .inl (fun _ => 0))), (n3, .inl (cs 2, 40, .inl (fun _ => 0))), (n2, .inl (cs 3, 40, refs (fun _ => none))), (n1, .inl (cs 0, 14, .inl tFIRST)), (o, .inr (3, [.null, .int 0, .int 0, .ref n1, .ref n2, .ref n3, .ref n4, .null, .int 0]))] := hD
  refine lv_aload_n hx hb dX3_init_42 rfl (lv_at hl 0 rfl) ?_
  refine lv_sipush (v := 511) hx hb dX3_init_43 (by decide) ?_
  refine x_newq hx hb hown (C := "PledgeHouse$Ticket") (hts (.classLink RX3 36 RX9) (by decide +kernel)) hX.2.2.2.1 (t0 := 4) hK.1 rfl hP hS (N' := 511) (by decide) (by decide) (by decide) (Nat.le_of_ble_eq_true rfl) (Nat.le_of_ble_eq_true rfl) dX3_init_46 (fun n5 H hn5 ln5 hP hS => ?_)
  have hD : va_D _ [(n5, .inl (cs 4, 511, refs (fun _ => none))), (n4, .inl (cs 0, 40, .inl (fun _ => 0))), (n3, .inl (cs 2, 40, .inl (fun _ => 0))), (n2, .inl (cs 3, 40, refs (fun _ => none))), (n1, .inl (cs 0, 14, .inl tFIRST)), (o, .inr (3, [.null, .int 0, .int 0, .ref n1, .ref n2, .ref n3, .ref n4, .null, .int 0]))] := va_Dcons hD ln5 (Or.inr hn5)
  have hP : va_P D vwCl [(n5, .inl (cs 4, 511, refs (fun _ => none))), (n4, .inl (cs 0, 40, .inl (fun _ => 0))), (n3, .inl (cs 2, 40, .inl (fun _ => 0))), (n2, .inl (cs 3, 40, refs (fun _ => none))), (n1, .inl (cs 0, 14, .inl tFIRST)), (o, .inr (3, [.null, .int 0, .int 0, .ref n1, .ref n2, .ref n3, .ref n4, .null, .int 0]))] H := hP
  refine va_putF (D := D) (ci := 3) (v := .ref n5) (ty := (.array (.object "PledgeHouse$Ticket"))) (C := RX3) (T := TX3) (N := 9) hx hb hts hX3 tyX3 tyX3_ok nmX3 hown hK.1 hP hD hS 5 rfl rfl 7 (by decide) (hts (.fieldLink RX3 38 "PledgeHouse$House" "tickets" "[LPledgeHouse$Ticket;") (by decide +kernel)) (fun _ h9 => h9) rfl hin rfl (by decide +kernel) rfl rfl (Nat.le_of_ble_eq_true rfl) dX3_init_49 (fun H locs hP hD hS => ?_)
  have hP : va_P D vwCl [(n5, .inl (cs 4, 511, refs (fun _ => none))), (n4, .inl (cs 0, 40, .inl (fun _ => 0))), (n3, .inl (cs 2, 40, .inl (fun _ => 0))), (n2, .inl (cs 3, 40, refs (fun _ => none))), (n1, .inl (cs 0, 14, .inl tFIRST)), (o, .inr (3, [.null, .int 0, .int 0, .ref n1, .ref n2, .ref n3, .ref n4, .ref n5, .int 0]))] H := hP
  have hD : va_D _ [(n5, .inl (cs 4, 511, refs (fun _ => none))), (n4, .inl (cs 0, 40, .inl (fun _ => 0))), (n3, .inl (cs 2, 40, .inl (fun _ => 0))), (n2, .inl (cs 3, 40, refs (fun _ => none))), (n1, .inl (cs 0, 14, .inl tFIRST)), (o, .inr (3, [.null, .int 0, .int 0, .ref n1, .ref n2, .ref n3, .ref n4, .ref n5, .int 0]))] := hD
  refine lv_aload_n hx hb dX3_init_52 rfl (lv_at hl 0 rfl) ?_
  refine lv_aload_n hx hb dX3_init_53 rfl (lv_at hl 1 rfl) ?_
  refine va_putF (D := D) (ci := 3) (v := .ref kb) (ty := (.object "PledgeHouse$Books")) (C := RX3) (T := TX3) (N := 9) hx hb hts hX3 tyX3 tyX3_ok nmX3 hown hK.1 hP hD hS 5 rfl rfl 0 (by decide) (hts (.fieldLink RX3 42 "PledgeHouse$House" "books" "LPledgeHouse$Books;") (by decide +kernel)) (fun _ h9 => h9) rfl hin rfl (by decide +kernel) rfl rfl (Nat.le_of_ble_eq_true rfl) dX3_init_54 (fun H locs hP hD hS => ?_)
  have hP : va_P D vwCl [(n5, .inl (cs 4, 511, refs (fun _ => none))), (n4, .inl (cs 0, 40, .inl (fun _ => 0))), (n3, .inl (cs 2, 40, .inl (fun _ => 0))), (n2, .inl (cs 3, 40, refs (fun _ => none))), (n1, .inl (cs 0, 14, .inl tFIRST)), (o, .inr (3, [.ref kb, .int 0, .int 0, .ref n1, .ref n2, .ref n3, .ref n4, .ref n5, .int 0]))] H := hP
  have hD : va_D _ [(n5, .inl (cs 4, 511, refs (fun _ => none))), (n4, .inl (cs 0, 40, .inl (fun _ => 0))), (n3, .inl (cs 2, 40, .inl (fun _ => 0))), (n2, .inl (cs 3, 40, refs (fun _ => none))), (n1, .inl (cs 0, 14, .inl tFIRST)), (o, .inr (3, [.ref kb, .int 0, .int 0, .ref n1, .ref n2, .ref n3, .ref n4, .ref n5, .int 0]))] := hD
  refine W.vret hx hb hr (fun t2 ht2 hW => ⟨lst [n1, n2, n3, n4, n5], fun i hi => by rcases (show i = 0 ∨ i = 1 ∨ i = 2 ∨ i = 3 ∨ i = 4 by omega) with rfl | rfl | rfl | rfl | rfl <;> assumption, fun i j hi hj he => ?_, rfl, by rw [ht2]; exact hP.sub [5, 4, 3, 2, 1, 0] rfl, hS.F ht2⟩) hS.2.2 dX3_init_57 hlocks
  have e1 : n1 < n2 := ln2 0 _ rfl
  have e2 : n2 < n3 := ln3 0 _ rfl
  have e3 : n3 < n4 := ln4 0 _ rfl
  have e4 : n4 < n5 := ln5 0 _ rfl
  rcases (show i = 0 ∨ i = 1 ∨ i = 2 ∨ i = 3 ∨ i = 4 by omega) with rfl | rfl | rfl | rfl | rfl <;> rcases (show j = 0 ∨ j = 1 ∨ j = 2 ∨ j = 3 ∨ j = 4 by omega) with rfl | rfl | rfl | rfl | rfl <;> first | rfl | (exfalso; simp [lst] at he; omega)
set_option maxHeartbeats 4000000 in
set_option maxRecDepth 100000 in
theorem cC_X0_init (l : Launch) (D : va_G) (cs : Nat → ClassId) (o sz : Nat) : Met l yX0_init wsX0_init ({ frames := 1, cells := 514, slots := 11286, locals := 20 }) (cPcU cA [.ref o] D cs [(o, .inr (0, [.null]))] sz) (cQN D 1 (fun _ => none) (fun n => wB (two o (n 0)) (fun i => n 0 + 1 + i) cs (fun _ _ => 0)) (adA (p1 o) sz)) 514 11286 (adA (p1 o) sz) := by
  refine c_inU (P := p1 o) (cc := cX0_init) (maxL := 1) (ret := none) (lv := [(0, .ref o)]) (by decide) rfl (Nat.le_of_ble_eq_true rfl) rfl ?_
  intro p e s m below meth c ls S hr hlocks hin hsz hP hK hX hl hS
  subst hsz
  obtain ⟨hx, hb, hml, hown, hts⟩ := id S
  have hX0 : ∀ w ∈ wsX00, w ∈ wsX0_init := by decide +kernel
  have hlo : o < s.heap.size := lt_of hP (i := 0) rfl
  refine lv_aload_n hx hb dX0_init_0 rfl (lv_at hl 0 rfl) ?_
  refine W.objInit hx hb hown (hts (.methodLink RX0 1 objectInit) (by decide +kernel)) (hts (.instanceMethod objectInit) (by decide +kernel)) (hts (.code objectInit ⟨#[0xb1]⟩ 1 none) (by decide +kernel)) rfl (by rw [hml]; exact hl.1) rfl dX0_init_1 (Nat.le_of_ble_eq_true rfl) (Nat.le_of_ble_eq_true rfl) ?_
  refine W.eq (g2 := F0 m 4 ls []) rfl ?_
  refine lv_aload_n hx hb dX0_init_4 rfl (lv_at hl 0 rfl) ?_
  refine lv_sipush (v := 513) hx hb dX0_init_5 (by decide) ?_
  refine lv_bipush (v := 21) hx hb dX0_init_8 (by decide) ?_
  refine x_mna hx hb hown (hts (.classLink RX0 9 "[[J") (by decide +kernel)) hX.2.2 (hts (.arrayClass .long) (by decide +kernel)) hK.1 hP hS (Nat.le_of_ble_eq_true rfl) (Nat.le_of_ble_eq_true rfl) dX0_init_10 (fun q H hq lq hP hR hS => ?_)
  have hB : iB (two o q) (fun i => q + 1 + i) := ⟨fun h => by have : o = q := h; omega, fun i j _ _ h => by have : q + 1 + i = q + 1 + j := h; omega, fun i j hi _ h => by
    rcases (show i = 0 ∨ i = 1 by omega) with rfl | rfl
    · have : o = q + 1 + j := h; omega
    · have : q = q + 1 + j := h; omega⟩
  have hD : va_D (adA (p1 o) s.heap.size) ([(o, .inr (0, [.null]))] ++ ([(q, .inl (cs 5, 513, refs (outR (fun i => q + 1 + i))))] ++ rowL (fun i => q + 1 + i) cs (fun _ _ => 0) 513)) := by
    refine va_Dadr (w := wB (two o q) (fun i => q + 1 + i) cs (fun _ _ => 0)) rfl ((wB_D hB s.heap.size).weaken (fun k x hk _ => ?_))
    rcases wB_at k x hk with ⟨h1, h2⟩ | ⟨j, h1, h2, h3⟩
    · rcases (show k = 0 ∨ k = 1 by omega) with rfl | rfl
      · exact Or.inl h2
      · exact Or.inr (by rw [h2]; exact hq)
    · exact Or.inr (by rw [h3]; show s.heap.size ≤ q + 1 + j; omega)
  have hP2 : va_P D vwCl ([(o, .inr (0, [.null]))] ++ ([(q, .inl (cs 5, 513, refs (outR (fun i => q + 1 + i))))] ++ rowL (fun i => q + 1 + i) cs (fun _ _ => 0) 513)) H := va_P.app hP hR
  refine va_putF (D := D) (ci := 0) (v := .ref q) (ty := (.array (.array .long))) (C := RX0) (T := TX0) (N := 1) hx hb hts hX0 tyX0 tyX0_ok nmX0 hown hK.1 hP2 hD hS 0 rfl rfl 0 (by decide) (hts (.fieldLink RX0 11 "PledgeHouse$Books" "rows" "[[J") (by decide +kernel)) (fun _ h9 => h9) rfl hin rfl (by decide +kernel) rfl rfl (Nat.le_of_ble_eq_true rfl) dX0_init_14 (fun H locs hP _ hS => ?_)
  exact W.vret hx hb hr (fun t2 ht2 hW => ⟨fun _ => q, fun _ _ => hq, fun i j h1 h2 _ => by omega, rfl, by rw [ht2]; exact hP, hS.F ht2⟩) hS.2.2 dX0_init_17 hlocks
set_option maxHeartbeats 4000000 in
set_option maxRecDepth 100000 in
theorem cC_X12_init (l : Launch) (D : va_G) (cs : Nat → ClassId) (o : Nat) (sz : Nat) : Met l yX12_init wsX12_init ({ frames := 1, cells := 4, slots := 17048, locals := 20 }) (cPc [.ref o] D cs [(o, .inr (10, [.null, .null, .null, .null]))] sz) (cQN D 4 (fun _ => none) (fun q => [(o, .inr (10, [.ref (q 0), .ref (q 1), .ref (q 2), .ref (q 3)])), (q 0, .inl (cs 0, 17, .inl (fun _ => 0))), (q 1, .inl (cs 0, 640, .inl (fun _ => 0))), (q 2, .inl (cs 0, 16384, .inl (fun _ => 0))), (q 3, .inl (cs 1, 7, .inr (.inl (fun _ => 0))))]) (adA (p1 o) sz)) 4 17048 (adA (p1 o) sz) := by
  refine c_in (P := p1 o) (cc := cX12_init) (maxL := 1) (ret := none) (lv := [(0, .ref o)]) (by decide) rfl (Nat.le_of_ble_eq_true rfl) rfl ?_
  intro p e s m below meth c ls S hr hlocks hin hsz hP hK hl hS
  subst hsz
  obtain ⟨hx, hb, hml, hown, hts⟩ := id S
  have hD : va_D (adA (p1 o) s.heap.size) [(o, .inr (10, [.null, .null, .null, .null]))] := w1_D s.heap.size
  have hX12 : ∀ w ∈ wsX120, w ∈ wsX12_init := by decide +kernel
  refine lv_aload_n hx hb dX12_init_0 rfl (lv_at hl 0 rfl) ?_
  refine W.objInit hx hb hown (hts (.methodLink RX12 3 objectInit) (by decide +kernel)) (hts (.instanceMethod objectInit) (by decide +kernel)) (hts (.code objectInit ⟨#[0xb1]⟩ 1 none) (by decide +kernel)) rfl (by rw [hml]; exact hl.1) rfl dX12_init_1 (Nat.le_of_ble_eq_true rfl) (Nat.le_of_ble_eq_true rfl) ?_
  refine W.eq (g2 := F0 m 4 ls []) rfl ?_
  refine lv_aload_n hx hb dX12_init_4 rfl (lv_at hl 0 rfl) ?_
  refine lv_bipush (v := 17) hx hb dX12_init_5 (by decide) ?_
  refine x_newa hx hb (atype := .int) (hts (.arrayClass .int) (by decide +kernel)) (t0 := 0) hK.1 rfl id hP hS (N' := 17) (a0 := (17, .inl (fun _ => 0))) (fun _ => rfl) (by decide) (by decide) (by decide) (Nat.le_of_ble_eq_true rfl) (Nat.le_of_ble_eq_true rfl) dX12_init_7 (fun n1 H hn1 ln1 hP hS => ?_)
  have hD : va_D _ [(n1, .inl (cs 0, 17, .inl (fun _ => 0))), (o, .inr (10, [.null, .null, .null, .null]))] := va_Dcons hD ln1 (Or.inr hn1)
  have hP : va_P D vwCl [(n1, .inl (cs 0, 17, .inl (fun _ => 0))), (o, .inr (10, [.null, .null, .null, .null]))] H := hP
  refine va_putF (D := D) (ci := 10) (v := .ref n1) (ty := (.array .int)) (C := RX12) (T := TX12) (N := 4) hx hb hts hX12 tyX12 tyX12_ok nmX12 hown hK.1 hP hD hS 1 rfl rfl 0 (by decide) (hts (.fieldLink RX12 9 "PledgeHouseModel$State" "house" "[I") (by decide +kernel)) (fun _ h9 => h9) rfl hin rfl (by decide +kernel) rfl rfl (Nat.le_of_ble_eq_true rfl) dX12_init_9 (fun H locs hP hD hS => ?_)
  have hP : va_P D vwCl [(n1, .inl (cs 0, 17, .inl (fun _ => 0))), (o, .inr (10, [.ref n1, .null, .null, .null]))] H := hP
  have hD : va_D _ [(n1, .inl (cs 0, 17, .inl (fun _ => 0))), (o, .inr (10, [.ref n1, .null, .null, .null]))] := hD
  refine lv_aload_n hx hb dX12_init_12 rfl (lv_at hl 0 rfl) ?_
  refine lv_sipush (v := 640) hx hb dX12_init_13 (by decide) ?_
  refine x_newa hx hb (atype := .int) (hts (.arrayClass .int) (by decide +kernel)) (t0 := 0) hK.1 rfl id hP hS (N' := 640) (a0 := (640, .inl (fun _ => 0))) (fun _ => rfl) (by decide) (by decide) (by decide) (Nat.le_of_ble_eq_true rfl) (Nat.le_of_ble_eq_true rfl) dX12_init_16 (fun n2 H hn2 ln2 hP hS => ?_)
  have hD : va_D _ [(n2, .inl (cs 0, 640, .inl (fun _ => 0))), (n1, .inl (cs 0, 17, .inl (fun _ => 0))), (o, .inr (10, [.ref n1, .null, .null, .null]))] := va_Dcons hD ln2 (Or.inr hn2)
  have hP : va_P D vwCl [(n2, .inl (cs 0, 640, .inl (fun _ => 0))), (n1, .inl (cs 0, 17, .inl (fun _ => 0))), (o, .inr (10, [.ref n1, .null, .null, .null]))] H := hP
  refine va_putF (D := D) (ci := 10) (v := .ref n2) (ty := (.array .int)) (C := RX12) (T := TX12) (N := 4) hx hb hts hX12 tyX12 tyX12_ok nmX12 hown hK.1 hP hD hS 2 rfl rfl 1 (by decide) (hts (.fieldLink RX12 15 "PledgeHouseModel$State" "shelf" "[I") (by decide +kernel)) (fun _ h9 => h9) rfl hin rfl (by decide +kernel) rfl rfl (Nat.le_of_ble_eq_true rfl) dX12_init_18 (fun H locs hP hD hS => ?_)
  have hP : va_P D vwCl [(n2, .inl (cs 0, 640, .inl (fun _ => 0))), (n1, .inl (cs 0, 17, .inl (fun _ => 0))), (o, .inr (10, [.ref n1, .ref n2, .null, .null]))] H := hP
  have hD : va_D _ [(n2, .inl (cs 0, 640, .inl (fun _ => 0))), (n1, .inl (cs 0, 17, .inl (fun _ => 0))), (o, .inr (10, [.ref n1, .ref n2, .null, .null]))] := hD
  refine lv_aload_n hx hb dX12_init_21 rfl (lv_at hl 0 rfl) ?_
  refine lv_sipush (v := 16384) hx hb dX12_init_22 (by decide) ?_
  refine x_newa hx hb (atype := .int) (hts (.arrayClass .int) (by decide +kernel)) (t0 := 0) hK.1 rfl id hP hS (N' := 16384) (a0 := (16384, .inl (fun _ => 0))) (fun _ => rfl) (by decide) (by decide) (by decide) (Nat.le_of_ble_eq_true rfl) (Nat.le_of_ble_eq_true rfl) dX12_init_25 (fun n3 H hn3 ln3 hP hS => ?_)
  have hD : va_D _ [(n3, .inl (cs 0, 16384, .inl (fun _ => 0))), (n2, .inl (cs 0, 640, .inl (fun _ => 0))), (n1, .inl (cs 0, 17, .inl (fun _ => 0))), (o, .inr (10, [.ref n1, .ref n2, .null, .null]))] := va_Dcons hD ln3 (Or.inr hn3)
  have hP : va_P D vwCl [(n3, .inl (cs 0, 16384, .inl (fun _ => 0))), (n2, .inl (cs 0, 640, .inl (fun _ => 0))), (n1, .inl (cs 0, 17, .inl (fun _ => 0))), (o, .inr (10, [.ref n1, .ref n2, .null, .null]))] H := hP
  refine va_putF (D := D) (ci := 10) (v := .ref n3) (ty := (.array .int)) (C := RX12) (T := TX12) (N := 4) hx hb hts hX12 tyX12 tyX12_ok nmX12 hown hK.1 hP hD hS 3 rfl rfl 2 (by decide) (hts (.fieldLink RX12 18 "PledgeHouseModel$State" "ticket" "[I") (by decide +kernel)) (fun _ h9 => h9) rfl hin rfl (by decide +kernel) rfl rfl (Nat.le_of_ble_eq_true rfl) dX12_init_27 (fun H locs hP hD hS => ?_)
  have hP : va_P D vwCl [(n3, .inl (cs 0, 16384, .inl (fun _ => 0))), (n2, .inl (cs 0, 640, .inl (fun _ => 0))), (n1, .inl (cs 0, 17, .inl (fun _ => 0))), (o, .inr (10, [.ref n1, .ref n2, .ref n3, .null]))] H := hP
  have hD : va_D _ [(n3, .inl (cs 0, 16384, .inl (fun _ => 0))), (n2, .inl (cs 0, 640, .inl (fun _ => 0))), (n1, .inl (cs 0, 17, .inl (fun _ => 0))), (o, .inr (10, [.ref n1, .ref n2, .ref n3, .null]))] := hD
  refine lv_aload_n hx hb dX12_init_30 rfl (lv_at hl 0 rfl) ?_
  refine lv_bipush (v := 7) hx hb dX12_init_31 (by decide) ?_
  refine x_newa hx hb (atype := .long) (hts (.arrayClass .long) (by decide +kernel)) (t0 := 1) hK.1 rfl id hP hS (N' := 7) (a0 := (7, .inr (.inl (fun _ => 0)))) (fun _ => rfl) (by decide) (by decide) (by decide) (Nat.le_of_ble_eq_true rfl) (Nat.le_of_ble_eq_true rfl) dX12_init_33 (fun n4 H hn4 ln4 hP hS => ?_)
  have hD : va_D _ [(n4, .inl (cs 1, 7, .inr (.inl (fun _ => 0)))), (n3, .inl (cs 0, 16384, .inl (fun _ => 0))), (n2, .inl (cs 0, 640, .inl (fun _ => 0))), (n1, .inl (cs 0, 17, .inl (fun _ => 0))), (o, .inr (10, [.ref n1, .ref n2, .ref n3, .null]))] := va_Dcons hD ln4 (Or.inr hn4)
  have hP : va_P D vwCl [(n4, .inl (cs 1, 7, .inr (.inl (fun _ => 0)))), (n3, .inl (cs 0, 16384, .inl (fun _ => 0))), (n2, .inl (cs 0, 640, .inl (fun _ => 0))), (n1, .inl (cs 0, 17, .inl (fun _ => 0))), (o, .inr (10, [.ref n1, .ref n2, .ref n3, .null]))] H := hP
  refine va_putF (D := D) (ci := 10) (v := .ref n4) (ty := (.array .long)) (C := RX12) (T := TX12) (N := 4) hx hb hts hX12 tyX12 tyX12_ok nmX12 hown hK.1 hP hD hS 4 rfl rfl 3 (by decide) (hts (.fieldLink RX12 21 "PledgeHouseModel$State" "coins" "[J") (by decide +kernel)) (fun _ h9 => h9) rfl hin rfl (by decide +kernel) rfl rfl (Nat.le_of_ble_eq_true rfl) dX12_init_35 (fun H locs hP hD hS => ?_)
  have hP : va_P D vwCl [(n4, .inl (cs 1, 7, .inr (.inl (fun _ => 0)))), (n3, .inl (cs 0, 16384, .inl (fun _ => 0))), (n2, .inl (cs 0, 640, .inl (fun _ => 0))), (n1, .inl (cs 0, 17, .inl (fun _ => 0))), (o, .inr (10, [.ref n1, .ref n2, .ref n3, .ref n4]))] H := hP
  have hD : va_D _ [(n4, .inl (cs 1, 7, .inr (.inl (fun _ => 0)))), (n3, .inl (cs 0, 16384, .inl (fun _ => 0))), (n2, .inl (cs 0, 640, .inl (fun _ => 0))), (n1, .inl (cs 0, 17, .inl (fun _ => 0))), (o, .inr (10, [.ref n1, .ref n2, .ref n3, .ref n4]))] := hD
  exact W.vret hx hb hr (fun t2 ht2 hW => ⟨lst [n1, n2, n3, n4], fun i hi => by rcases (show i = 0 ∨ i = 1 ∨ i = 2 ∨ i = 3 by omega) with rfl | rfl | rfl | rfl <;> assumption, fun i j hi hj he => by have e1 : n1 < n2 := ln2 0 _ rfl; have e2 : n2 < n3 := ln3 0 _ rfl; have e3 : n3 < n4 := ln4 0 _ rfl; rcases (show i = 0 ∨ i = 1 ∨ i = 2 ∨ i = 3 by omega) with rfl | rfl | rfl | rfl <;> rcases (show j = 0 ∨ j = 1 ∨ j = 2 ∨ j = 3 by omega) with rfl | rfl | rfl | rfl <;> first | rfl | (exfalso; simp [lst] at he; omega), rfl, by rw [ht2]; exact hP.sub [4, 3, 2, 1, 0] rfl, hS.F ht2⟩) hS.2.2 dX12_init_38 hlocks
