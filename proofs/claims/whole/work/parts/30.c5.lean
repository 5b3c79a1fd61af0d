/-! the class: constructors of pledges (by cwalk.py) -/
set_option maxHeartbeats 4000000 in
set_option maxRecDepth 100000 in
theorem cC_X5_init (l : Launch) (o : Nat) : Met l yX5_init wsX5_init ({ frames := 1, cells := 0, slots := 0, locals := 20 }) (fun v9 _ => v9 = [.ref o].toArray) cQ0 0 0 (fun _ => False) := by
  refine s_in (cc := cX5_init) (maxL := 1) (ret := none) (lv := [(0, .ref o)]) (by decide) rfl (Nat.le_of_ble_eq_true rfl) rfl ?_
  intro p e s m below meth c ls S hr hlocks hl
  obtain ⟨hx, hb, hml, hown, hts⟩ := id S
  refine lv_aload_n hx hb dX5_init_0 rfl (lv_at hl 0 rfl) ?_
  refine W.objInit hx hb hown (hts (.methodLink RX5 1 objectInit) (by decide +kernel)) (hts (.instanceMethod objectInit) (by decide +kernel)) (hts (.code objectInit ⟨#[0xb1]⟩ 1 none) (by decide +kernel)) rfl (by rw [hml]; exact hl.1) rfl dX5_init_1 (Nat.le_of_ble_eq_true rfl) (Nat.le_of_ble_eq_true rfl) ?_
  refine W.eq (g2 := F0 m 4 ls []) rfl ?_
  exact W.vret hx hb hr (fun t2 ht2 hW => ⟨rfl, ht2⟩) (fun q hq => by cases hq) dX5_init_4 hlocks
set_option maxHeartbeats 4000000 in
set_option maxRecDepth 100000 in
theorem cC_X7_init (l : Launch) (o : Nat) : Met l yX7_init wsX7_init ({ frames := 1, cells := 0, slots := 0, locals := 20 }) (fun v9 _ => v9 = [.ref o].toArray) cQ0 0 0 (fun _ => False) := by
  refine s_in (cc := cX7_init) (maxL := 1) (ret := none) (lv := [(0, .ref o)]) (by decide) rfl (Nat.le_of_ble_eq_true rfl) rfl ?_
  intro p e s m below meth c ls S hr hlocks hl
  obtain ⟨hx, hb, hml, hown, hts⟩ := id S
  refine lv_aload_n hx hb dX7_init_0 rfl (lv_at hl 0 rfl) ?_
  refine W.objInit hx hb hown (hts (.methodLink RX7 1 objectInit) (by decide +kernel)) (hts (.instanceMethod objectInit) (by decide +kernel)) (hts (.code objectInit ⟨#[0xb1]⟩ 1 none) (by decide +kernel)) rfl (by rw [hml]; exact hl.1) rfl dX7_init_1 (Nat.le_of_ble_eq_true rfl) (Nat.le_of_ble_eq_true rfl) ?_
  refine W.eq (g2 := F0 m 4 ls []) rfl ?_
  exact W.vret hx hb hr (fun t2 ht2 hW => ⟨rfl, ht2⟩) (fun q hq => by cases hq) dX7_init_4 hlocks
set_option maxHeartbeats 4000000 in
set_option maxRecDepth 100000 in
theorem cC_X8_init (l : Launch) (D : va_G) (cs : Nat → ClassId) (o : Nat) (sz : Nat) (value : Int32) : Met l yX8_init wsX8_init ({ frames := 2, cells := 0, slots := 0, locals := 40 }) (cPc [.ref o, .int value] D cs [(o, .inr (7, [.int 0]))] sz) (cQ D none [(o, .inr (7, [.int value]))] (adA (p1 o) sz)) 0 0 (adA (p1 o) sz) := by
  refine c_in (P := p1 o) (cc := cX8_init) (maxL := 2) (ret := none) (lv := [(0, .ref o), (1, .int value)]) (by decide) rfl (Nat.le_of_ble_eq_true rfl) rfl ?_
  intro p e s m below meth c ls S hr hlocks hin hsz hP hK hl hS
  subst hsz
  obtain ⟨hx, hb, hml, hown, hts⟩ := id S
  have hX8 : ∀ w ∈ wsX80, w ∈ wsX8_init := by decide +kernel
  refine lv_aload_n hx hb dX8_init_0 rfl (lv_at hl 0 rfl) ?_
  refine c_r0 (rest := []) (va_runIN S (As := []) (b := o) (cC_X5_init l o) ⟨va_cnB (host := "PledgeHouse") 0 hts gX8_init_X5_init_n3 rfl rfl rfl (hK.2.2.1 _ (by decide +kernel)) (hts (.initialized RX5) (by decide +kernel)) (by decide +kernel) ⟨Nat.le_of_ble_eq_true rfl, Nat.le_of_ble_eq_true rfl⟩, rfl, hts (.instanceMethod yX5_init) (by decide +kernel)⟩ preEq rfl rfl hl.1 rfl (lv_room (Nat.le_of_ble_eq_true rfl)) dX8_init_1 ⟨Nat.zero_le _, Nat.zero_le _⟩) (fun _ h => h) ?_
  refine lv_aload_n hx hb dX8_init_4 rfl (lv_at hl 0 rfl) ?_
  refine lv_iload_n hx hb dX8_init_5 rfl (lv_at hl 1 rfl) ?_
  refine va_putF (D := D) (ci := 7) (v := .int value) (ty := .int) (C := RX8) (T := TX8) (N := 1) hx hb hts hX8 tyX8 tyX8_ok nmX8 hown hK.1 hP (w1_D s.heap.size) hS 0 rfl rfl 0 (by decide) (hts (.fieldLink RX8 9 "PledgeHouse$Thing" "value" "I") (by decide +kernel)) (fun _ h9 => h9) rfl hin rfl (by decide +kernel) rfl rfl (Nat.le_of_ble_eq_true rfl) dX8_init_6 (fun H locs hP _ hS => ?_)
  have hP : va_P D vwCl [(o, .inr (7, [.int value]))] H := hP
  exact W.vret hx hb hr (fun t2 ht2 hW => ⟨rfl, by rw [ht2]; exact hP, hS.F ht2⟩) hS.2.2 dX8_init_9 hlocks
set_option maxHeartbeats 4000000 in
set_option maxRecDepth 100000 in
theorem cC_X1_init (l : Launch) (D : va_G) (cs : Nat → ClassId) (o : Nat) (sz : Nat) (value : Int32) (wear : Int32) (came : Int32) : Met l yX1_init wsX1_init ({ frames := 2, cells := 0, slots := 0, locals := 40 }) (cPc [.ref o, .int value, .int wear, .int came] D cs [(o, .inr (1, [.int 0, .int 0, .int 0]))] sz) (cQ D none [(o, .inr (1, [.int value, .int wear, .int came]))] (adA (p1 o) sz)) 0 0 (adA (p1 o) sz) := by
  refine c_in (P := p1 o) (cc := cX1_init) (maxL := 4) (ret := none) (lv := [(0, .ref o), (1, .int value), (2, .int wear), (3, .int came)]) (by decide) rfl (Nat.le_of_ble_eq_true rfl) rfl ?_
  intro p e s m below meth c ls S hr hlocks hin hsz hP hK hl hS
  subst hsz
  obtain ⟨hx, hb, hml, hown, hts⟩ := id S
  have hX1 : ∀ w ∈ wsX10, w ∈ wsX1_init := by decide +kernel
  refine lv_aload_n hx hb dX1_init_0 rfl (lv_at hl 0 rfl) ?_
  refine c_r0 (rest := []) (va_runIN S (As := []) (b := o) (cC_X5_init l o) ⟨va_cnB (host := "PledgeHouse") 0 hts gX1_init_X5_init_n3 rfl rfl rfl (hK.2.2.1 _ (by decide +kernel)) (hts (.initialized RX5) (by decide +kernel)) (by decide +kernel) ⟨Nat.le_of_ble_eq_true rfl, Nat.le_of_ble_eq_true rfl⟩, rfl, hts (.instanceMethod yX5_init) (by decide +kernel)⟩ preEq rfl rfl hl.1 rfl (lv_room (Nat.le_of_ble_eq_true rfl)) dX1_init_1 ⟨Nat.zero_le _, Nat.zero_le _⟩) (fun _ h => h) ?_
  refine lv_aload_n hx hb dX1_init_4 rfl (lv_at hl 0 rfl) ?_
  refine lv_iload_n hx hb dX1_init_5 rfl (lv_at hl 1 rfl) ?_
  refine va_putF (D := D) (ci := 1) (v := .int value) (ty := .int) (C := RX1) (T := TX1) (N := 3) hx hb hts hX1 tyX1 tyX1_ok nmX1 hown hK.1 hP (w1_D s.heap.size) hS 0 rfl rfl 0 (by decide) (hts (.fieldLink RX1 9 "PledgeHouse$Coat" "value" "I") (by decide +kernel)) (fun _ h9 => h9) rfl hin rfl (by decide +kernel) rfl rfl (Nat.le_of_ble_eq_true rfl) dX1_init_6 (fun H locs hP _ hS => ?_)
  have hP : va_P D vwCl [(o, .inr (1, [.int value, .int 0, .int 0]))] H := hP
  refine lv_aload_n hx hb dX1_init_9 rfl (lv_at hl 0 rfl) ?_
  refine lv_iload_n hx hb dX1_init_10 rfl (lv_at hl 2 rfl) ?_
  refine va_putF (D := D) (ci := 1) (v := .int wear) (ty := .int) (C := RX1) (T := TX1) (N := 3) hx hb hts hX1 tyX1 tyX1_ok nmX1 hown hK.1 hP (w1_D s.heap.size) hS 0 rfl rfl 1 (by decide) (hts (.fieldLink RX1 15 "PledgeHouse$Coat" "wear" "I") (by decide +kernel)) (fun _ h9 => h9) rfl hin rfl (by decide +kernel) rfl rfl (Nat.le_of_ble_eq_true rfl) dX1_init_11 (fun H locs hP _ hS => ?_)
  have hP : va_P D vwCl [(o, .inr (1, [.int value, .int wear, .int 0]))] H := hP
  refine lv_aload_n hx hb dX1_init_14 rfl (lv_at hl 0 rfl) ?_
  refine lv_iload_n hx hb dX1_init_15 rfl (lv_at hl 3 rfl) ?_
  refine va_putF (D := D) (ci := 1) (v := .int came) (ty := .int) (C := RX1) (T := TX1) (N := 3) hx hb hts hX1 tyX1 tyX1_ok nmX1 hown hK.1 hP (w1_D s.heap.size) hS 0 rfl rfl 2 (by decide) (hts (.fieldLink RX1 18 "PledgeHouse$Coat" "came" "I") (by decide +kernel)) (fun _ h9 => h9) rfl hin rfl (by decide +kernel) rfl rfl (Nat.le_of_ble_eq_true rfl) dX1_init_16 (fun H locs hP _ hS => ?_)
  have hP : va_P D vwCl [(o, .inr (1, [.int value, .int wear, .int came]))] H := hP
  exact W.vret hx hb hr (fun t2 ht2 hW => ⟨rfl, by rw [ht2]; exact hP, hS.F ht2⟩) hS.2.2 dX1_init_19 hlocks
set_option maxHeartbeats 4000000 in
set_option maxRecDepth 100000 in
theorem cC_X10_init_2 (l : Launch) (D : va_G) (cs : Nat → ClassId) (o : Nat) (sz : Nat) (weight : UInt32) (hw : WOK weight) : Met l yX10_init wsX10_init ({ frames := 2, cells := 0, slots := 0, locals := 40 }) (cPc [.ref o, .float weight] D cs [(o, .inr (2, [.int 0, .int 0, .int 0]))] sz) (cQ D none [(o, .inr (2, [.int (FP.f2i (FP.fmul weight 1120403456)), .int (FP.f2i (FP.fmul (FP.fsub (FP.fmul weight 1120403456) (FP.i2f (FP.f2i (FP.fmul weight 1120403456)))) 1148846080)), .int 0]))] (adA (p1 o) sz)) 0 0 (adA (p1 o) sz) := by
  refine c_in (P := p1 o) (cc := cX10_init) (maxL := 3) (ret := none) (lv := [(0, .ref o), (1, .float weight)]) (by decide) rfl (Nat.le_of_ble_eq_true rfl) rfl ?_
  intro p e s m below meth c ls S hr hlocks hin hsz hP hK hl hS
  subst hsz
  obtain ⟨hx, hb, hml, hown, hts⟩ := id S
  have hX2 : ∀ w ∈ wsX20, w ∈ wsX10_init := by decide +kernel
  refine lv_aload_n hx hb dX10_init_0 rfl (lv_at hl 0 rfl) ?_
  refine c_r0 (rest := []) (va_runIN S (As := []) (b := o) (cC_X5_init l o) ⟨va_cnB (host := "PledgeHouse") 0 hts gX10_init_X5_init_n1 rfl rfl rfl (hK.2.2.1 _ (by decide +kernel)) (hts (.initialized RX5) (by decide +kernel)) (by decide +kernel) ⟨Nat.le_of_ble_eq_true rfl, Nat.le_of_ble_eq_true rfl⟩, rfl, hts (.instanceMethod yX5_init) (by decide +kernel)⟩ preEq rfl rfl hl.1 rfl (lv_room (Nat.le_of_ble_eq_true rfl)) dX10_init_1 ⟨Nat.zero_le _, Nat.zero_le _⟩) (fun _ h => h) ?_
  refine lv_fload_n hx hb dX10_init_4 rfl (lv_at hl 1 rfl) ?_
  refine lv_ldcf (v := 1120403456) hx hb hown (hts (.constantFloat RX10 7 (1120403456)) (by decide +kernel)) dX10_init_5 ?_
  refine lv_fmul hx hb dX10_init_7 hw.1 ?_
  refine lv_fstore_n (lv' := [(2, .float (FP.fmul weight 1120403456)), (0, .ref o), (1, .float weight)]) hx hb dX10_init_8 rfl hl (by decide) rfl (fun ls hl => ?_)
  refine lv_aload_n hx hb dX10_init_9 rfl (lv_at hl 1 rfl) ?_
  refine lv_fload_n hx hb dX10_init_10 rfl (lv_at hl 0 rfl) ?_
  refine lv_f2i hx hb dX10_init_11 ?_
  refine va_putF (D := D) (ci := 2) (v := .int (FP.f2i (FP.fmul weight 1120403456))) (ty := .int) (C := RX2) (T := TX2) (N := 3) hx hb hts hX2 tyX2 tyX2_ok nmX2 hown hK.1 hP (w1_D s.heap.size) hS 0 rfl rfl 0 (by decide) (hts (.fieldLink RX10 8 "PledgeHouse$Weighed" "hundredths" "I") (by decide +kernel)) (fun _ h9 => h9) rfl hin rfl (by decide +kernel) rfl rfl (Nat.le_of_ble_eq_true rfl) dX10_init_12 (fun H locs hP _ hS => ?_)
  have hP : va_P D vwCl [(o, .inr (2, [.int (FP.f2i (FP.fmul weight 1120403456)), .int 0, .int 0]))] H := hP
  refine lv_aload_n hx hb dX10_init_15 rfl (lv_at hl 1 rfl) ?_
  refine lv_fload_n hx hb dX10_init_16 rfl (lv_at hl 0 rfl) ?_
  refine lv_aload_n hx hb dX10_init_17 rfl (lv_at hl 1 rfl) ?_
  refine va_get (D := D) (ci := 2) (v := .int (FP.f2i (FP.fmul weight 1120403456))) (C := RX2) (T := TX2) (N := 3) hx hb hts hX2 hown hK.1 hP 0 rfl rfl 0 (by decide) (hts (.fieldLink RX10 8 "PledgeHouse$Weighed" "hundredths" "I") (by decide +kernel)) (fun _ h9 => h9) rfl dX10_init_18 ?_
  refine lv_i2f hx hb dX10_init_21 ?_
  refine lv_fsub hx hb dX10_init_22 hw.2.1 ?_
  refine lv_ldcf (v := 1148846080) hx hb hown (hts (.constantFloat RX10 14 (1148846080)) (by decide +kernel)) dX10_init_23 ?_
  refine lv_fmul hx hb dX10_init_25 hw.2.2 ?_
  refine lv_f2i hx hb dX10_init_26 ?_
  refine va_putF (D := D) (ci := 2) (v := .int (FP.f2i (FP.fmul (FP.fsub (FP.fmul weight 1120403456) (FP.i2f (FP.f2i (FP.fmul weight 1120403456)))) 1148846080))) (ty := .int) (C := RX2) (T := TX2) (N := 3) hx hb hts hX2 tyX2 tyX2_ok nmX2 hown hK.1 hP (w1_D s.heap.size) hS 0 rfl rfl 1 (by decide) (hts (.fieldLink RX10 15 "PledgeHouse$Weighed" "leftOver" "I") (by decide +kernel)) (fun _ h9 => h9) rfl hin rfl (by decide +kernel) rfl rfl (Nat.le_of_ble_eq_true rfl) dX10_init_27 (fun H locs hP _ hS => ?_)
  have hP : va_P D vwCl [(o, .inr (2, [.int (FP.f2i (FP.fmul weight 1120403456)), .int (FP.f2i (FP.fmul (FP.fsub (FP.fmul weight 1120403456) (FP.i2f (FP.f2i (FP.fmul weight 1120403456)))) 1148846080)), .int 0]))] H := hP
  exact W.vret hx hb hr (fun t2 ht2 hW => ⟨rfl, by rw [ht2]; exact hP, hS.F ht2⟩) hS.2.2 dX10_init_30 hlocks
set_option maxHeartbeats 4000000 in
set_option maxRecDepth 100000 in
theorem cC_X10_init_6 (l : Launch) (D : va_G) (cs : Nat → ClassId) (o : Nat) (sz : Nat) (weight : UInt32) (hw : WOK weight) : Met l yX10_init wsX10_init ({ frames := 2, cells := 0, slots := 0, locals := 40 }) (cPc [.ref o, .float weight] D cs [(o, .inr (5, [.int 0, .int 0, .float 0, .int 0, .int 0, .int 0]))] sz) (cQ D none [(o, .inr (5, [.int (FP.f2i (FP.fmul weight 1120403456)), .int (FP.f2i (FP.fmul (FP.fsub (FP.fmul weight 1120403456) (FP.i2f (FP.f2i (FP.fmul weight 1120403456)))) 1148846080)), .float 0, .int 0, .int 0, .int 0]))] (adA (p1 o) sz)) 0 0 (adA (p1 o) sz) := by
  refine c_in (P := p1 o) (cc := cX10_init) (maxL := 3) (ret := none) (lv := [(0, .ref o), (1, .float weight)]) (by decide) rfl (Nat.le_of_ble_eq_true rfl) rfl ?_
  intro p e s m below meth c ls S hr hlocks hin hsz hP hK hl hS
  subst hsz
  obtain ⟨hx, hb, hml, hown, hts⟩ := id S
  have hX6 : ∀ w ∈ wsX60, w ∈ wsX10_init := by decide +kernel
  refine lv_aload_n hx hb dX10_init_0 rfl (lv_at hl 0 rfl) ?_
  refine c_r0 (rest := []) (va_runIN S (As := []) (b := o) (cC_X5_init l o) ⟨va_cnB (host := "PledgeHouse") 0 hts gX10_init_X5_init_n1 rfl rfl rfl (hK.2.2.1 _ (by decide +kernel)) (hts (.initialized RX5) (by decide +kernel)) (by decide +kernel) ⟨Nat.le_of_ble_eq_true rfl, Nat.le_of_ble_eq_true rfl⟩, rfl, hts (.instanceMethod yX5_init) (by decide +kernel)⟩ preEq rfl rfl hl.1 rfl (lv_room (Nat.le_of_ble_eq_true rfl)) dX10_init_1 ⟨Nat.zero_le _, Nat.zero_le _⟩) (fun _ h => h) ?_
  refine lv_fload_n hx hb dX10_init_4 rfl (lv_at hl 1 rfl) ?_
  refine lv_ldcf (v := 1120403456) hx hb hown (hts (.constantFloat RX10 7 (1120403456)) (by decide +kernel)) dX10_init_5 ?_
  refine lv_fmul hx hb dX10_init_7 hw.1 ?_
  refine lv_fstore_n (lv' := [(2, .float (FP.fmul weight 1120403456)), (0, .ref o), (1, .float weight)]) hx hb dX10_init_8 rfl hl (by decide) rfl (fun ls hl => ?_)
  refine lv_aload_n hx hb dX10_init_9 rfl (lv_at hl 1 rfl) ?_
  refine lv_fload_n hx hb dX10_init_10 rfl (lv_at hl 0 rfl) ?_
  refine lv_f2i hx hb dX10_init_11 ?_
  refine va_putF (D := D) (ci := 5) (v := .int (FP.f2i (FP.fmul weight 1120403456))) (ty := .int) (C := RX6) (T := TX6) (N := 6) hx hb hts hX6 tyX6 tyX6_ok nmX6 hown hK.1 hP (w1_D s.heap.size) hS 0 rfl rfl 0 (by decide) (hts (.fieldLink RX10 8 "PledgeHouse$Weighed" "hundredths" "I") (by decide +kernel)) (fun _ h9 => h9) rfl hin rfl (by decide +kernel) rfl rfl (Nat.le_of_ble_eq_true rfl) dX10_init_12 (fun H locs hP _ hS => ?_)
  have hP : va_P D vwCl [(o, .inr (5, [.int (FP.f2i (FP.fmul weight 1120403456)), .int 0, .float 0, .int 0, .int 0, .int 0]))] H := hP
  refine lv_aload_n hx hb dX10_init_15 rfl (lv_at hl 1 rfl) ?_
  refine lv_fload_n hx hb dX10_init_16 rfl (lv_at hl 0 rfl) ?_
  refine lv_aload_n hx hb dX10_init_17 rfl (lv_at hl 1 rfl) ?_
  refine va_get (D := D) (ci := 5) (v := .int (FP.f2i (FP.fmul weight 1120403456))) (C := RX6) (T := TX6) (N := 6) hx hb hts hX6 hown hK.1 hP 0 rfl rfl 0 (by decide) (hts (.fieldLink RX10 8 "PledgeHouse$Weighed" "hundredths" "I") (by decide +kernel)) (fun _ h9 => h9) rfl dX10_init_18 ?_
  refine lv_i2f hx hb dX10_init_21 ?_
  refine lv_fsub hx hb dX10_init_22 hw.2.1 ?_
  refine lv_ldcf (v := 1148846080) hx hb hown (hts (.constantFloat RX10 14 (1148846080)) (by decide +kernel)) dX10_init_23 ?_
  refine lv_fmul hx hb dX10_init_25 hw.2.2 ?_
  refine lv_f2i hx hb dX10_init_26 ?_
  refine va_putF (D := D) (ci := 5) (v := .int (FP.f2i (FP.fmul (FP.fsub (FP.fmul weight 1120403456) (FP.i2f (FP.f2i (FP.fmul weight 1120403456)))) 1148846080))) (ty := .int) (C := RX6) (T := TX6) (N := 6) hx hb hts hX6 tyX6 tyX6_ok nmX6 hown hK.1 hP (w1_D s.heap.size) hS 0 rfl rfl 1 (by decide) (hts (.fieldLink RX10 15 "PledgeHouse$Weighed" "leftOver" "I") (by decide +kernel)) (fun _ h9 => h9) rfl hin rfl (by decide +kernel) rfl rfl (Nat.le_of_ble_eq_true rfl) dX10_init_27 (fun H locs hP _ hS => ?_)
  have hP : va_P D vwCl [(o, .inr (5, [.int (FP.f2i (FP.fmul weight 1120403456)), .int (FP.f2i (FP.fmul (FP.fsub (FP.fmul weight 1120403456) (FP.i2f (FP.f2i (FP.fmul weight 1120403456)))) 1148846080)), .float 0, .int 0, .int 0, .int 0]))] H := hP
  exact W.vret hx hb hr (fun t2 ht2 hW => ⟨rfl, by rw [ht2]; exact hP, hS.F ht2⟩) hS.2.2 dX10_init_30 hlocks
set_option maxHeartbeats 4000000 in
set_option maxRecDepth 100000 in
theorem cC_X2_init (l : Launch) (D : va_G) (cs : Nat → ClassId) (o : Nat) (sz : Nat) (weight : UInt32) (fineness : Int32) (hw : WOK weight) : Met l yX2_init wsX2_init ({ frames := 3, cells := 0, slots := 0, locals := 62 }) (cPc [.ref o, .float weight, .int fineness] D cs [(o, .inr (2, [.int 0, .int 0, .int 0]))] sz) (cQ D none [(o, .inr (2, [.int (FP.f2i (FP.fmul weight 1120403456)), .int (FP.f2i (FP.fmul (FP.fsub (FP.fmul weight 1120403456) (FP.i2f (FP.f2i (FP.fmul weight 1120403456)))) 1148846080)), .int fineness]))] (adA (p1 o) sz)) 0 0 (adA (p1 o) sz) := by
  refine c_in (P := p1 o) (cc := cX2_init) (maxL := 3) (ret := none) (lv := [(0, .ref o), (1, .float weight), (2, .int fineness)]) (by decide) rfl (Nat.le_of_ble_eq_true rfl) rfl ?_
  intro p e s m below meth c ls S hr hlocks hin hsz hP hK hl hS
  subst hsz
  obtain ⟨hx, hb, hml, hown, hts⟩ := id S
  have hX2 : ∀ w ∈ wsX20, w ∈ wsX2_init := by decide +kernel
  refine lv_aload_n hx hb dX2_init_0 rfl (lv_at hl 0 rfl) ?_
  refine lv_fload_n hx hb dX2_init_1 rfl (lv_at hl 1 rfl) ?_
  refine c_w1 (WS' := [(o, .inr (2, [.int (FP.f2i (FP.fmul weight 1120403456)), .int (FP.f2i (FP.fmul (FP.fsub (FP.fmul weight 1120403456) (FP.i2f (FP.f2i (FP.fmul weight 1120403456)))) 1148846080)), .int 0]))]) (rest := []) (va_runI S (As := [.float weight]) (b := o) (cC_X10_init_2 l D cs o _ weight hw) (cwI 1 hts gX2_init_X10_init rfl rfl rfl (hts (.initialized RX10) (by decide +kernel)) (hts (.methodLink RX2 3 yX10_init) (by decide +kernel)) (hts (.instanceMethod yX10_init) (by decide +kernel)) rfl (by decide +kernel) ⟨Nat.le_of_ble_eq_true rfl, Nat.le_of_ble_eq_true rfl⟩) (preS_c hK hP) rfl rfl hl.1 rfl (lv_room (Nat.le_of_ble_eq_true rfl)) dX2_init_2 ⟨Nat.zero_le _, Nat.zero_le _⟩) hS (adA_le hS.1) (fun _ _ _ h => h) (fun H locs hP hS => ?_)
  refine lv_aload_n hx hb dX2_init_5 rfl (lv_at hl 0 rfl) ?_
  refine lv_iload_n hx hb dX2_init_6 rfl (lv_at hl 2 rfl) ?_
  refine va_putF (D := D) (ci := 2) (v := .int fineness) (ty := .int) (C := RX2) (T := TX2) (N := 3) hx hb hts hX2 tyX2 tyX2_ok nmX2 hown hK.1 hP (w1_D s.heap.size) hS 0 rfl rfl 2 (by decide) (hts (.fieldLink RX2 9 "PledgeHouse$Gold" "fineness" "I") (by decide +kernel)) (fun _ h9 => h9) rfl hin rfl (by decide +kernel) rfl rfl (Nat.le_of_ble_eq_true rfl) dX2_init_7 (fun H locs hP _ hS => ?_)
  have hP : va_P D vwCl [(o, .inr (2, [.int (FP.f2i (FP.fmul weight 1120403456)), .int (FP.f2i (FP.fmul (FP.fsub (FP.fmul weight 1120403456) (FP.i2f (FP.f2i (FP.fmul weight 1120403456)))) 1148846080)), .int fineness]))] H := hP
  exact W.vret hx hb hr (fun t2 ht2 hW => ⟨rfl, by rw [ht2]; exact hP, hS.F ht2⟩) hS.2.2 dX2_init_10 hlocks
set_option maxHeartbeats 4000000 in
set_option maxRecDepth 100000 in
theorem cC_X6_init (l : Launch) (D : va_G) (cs : Nat → ClassId) (o : Nat) (sz : Nat) (weight : UInt32) (tellers : Int32) (latest : Int32) (earlier : Int32) (hw : WOK weight) : Met l yX6_init wsX6_init ({ frames := 3, cells := 0, slots := 0, locals := 62 }) (cPc [.ref o, .float weight, .int tellers, .int latest, .int earlier] D cs [(o, .inr (5, [.int 0, .int 0, .float 0, .int 0, .int 0, .int 0]))] sz) (cQ D none [(o, .inr (5, [.int (FP.f2i (FP.fmul weight 1120403456)), .int (FP.f2i (FP.fmul (FP.fsub (FP.fmul weight 1120403456) (FP.i2f (FP.f2i (FP.fmul weight 1120403456)))) 1148846080)), .float weight, .int tellers, .int latest, .int earlier]))] (adA (p1 o) sz)) 0 0 (adA (p1 o) sz) := by
  refine c_in (P := p1 o) (cc := cX6_init) (maxL := 5) (ret := none) (lv := [(0, .ref o), (1, .float weight), (2, .int tellers), (3, .int latest), (4, .int earlier)]) (by decide) rfl (Nat.le_of_ble_eq_true rfl) rfl ?_
  intro p e s m below meth c ls S hr hlocks hin hsz hP hK hl hS
  subst hsz
  obtain ⟨hx, hb, hml, hown, hts⟩ := id S
  have hX6 : ∀ w ∈ wsX60, w ∈ wsX6_init := by decide +kernel
  refine lv_aload_n hx hb dX6_init_0 rfl (lv_at hl 0 rfl) ?_
  refine lv_fload_n hx hb dX6_init_1 rfl (lv_at hl 1 rfl) ?_
  refine c_w1 (WS' := [(o, .inr (5, [.int (FP.f2i (FP.fmul weight 1120403456)), .int (FP.f2i (FP.fmul (FP.fsub (FP.fmul weight 1120403456) (FP.i2f (FP.f2i (FP.fmul weight 1120403456)))) 1148846080)), .float 0, .int 0, .int 0, .int 0]))]) (rest := []) (va_runI S (As := [.float weight]) (b := o) (cC_X10_init_6 l D cs o _ weight hw) (cwI 1 hts gX6_init_X10_init rfl rfl rfl (hts (.initialized RX10) (by decide +kernel)) (hts (.methodLink RX6 3 yX10_init) (by decide +kernel)) (hts (.instanceMethod yX10_init) (by decide +kernel)) rfl (by decide +kernel) ⟨Nat.le_of_ble_eq_true rfl, Nat.le_of_ble_eq_true rfl⟩) (preS_c hK hP) rfl rfl hl.1 rfl (lv_room (Nat.le_of_ble_eq_true rfl)) dX6_init_2 ⟨Nat.zero_le _, Nat.zero_le _⟩) hS (adA_le hS.1) (fun _ _ _ h => h) (fun H locs hP hS => ?_)
  refine lv_aload_n hx hb dX6_init_5 rfl (lv_at hl 0 rfl) ?_
  refine lv_fload_n hx hb dX6_init_6 rfl (lv_at hl 1 rfl) ?_
  refine va_putF (D := D) (ci := 5) (v := .float weight) (ty := .float) (C := RX6) (T := TX6) (N := 6) hx hb hts hX6 tyX6 tyX6_ok nmX6 hown hK.1 hP (w1_D s.heap.size) hS 0 rfl rfl 2 (by decide) (hts (.fieldLink RX6 9 "PledgeHouse$Rare" "weight" "F") (by decide +kernel)) (fun _ h9 => h9) rfl hin rfl (by decide +kernel) rfl rfl (Nat.le_of_ble_eq_true rfl) dX6_init_7 (fun H locs hP _ hS => ?_)
  have hP : va_P D vwCl [(o, .inr (5, [.int (FP.f2i (FP.fmul weight 1120403456)), .int (FP.f2i (FP.fmul (FP.fsub (FP.fmul weight 1120403456) (FP.i2f (FP.f2i (FP.fmul weight 1120403456)))) 1148846080)), .float weight, .int 0, .int 0, .int 0]))] H := hP
  refine lv_aload_n hx hb dX6_init_10 rfl (lv_at hl 0 rfl) ?_
  refine lv_iload_n hx hb dX6_init_11 rfl (lv_at hl 2 rfl) ?_
  refine va_putF (D := D) (ci := 5) (v := .int tellers) (ty := .int) (C := RX6) (T := TX6) (N := 6) hx hb hts hX6 tyX6 tyX6_ok nmX6 hown hK.1 hP (w1_D s.heap.size) hS 0 rfl rfl 3 (by decide) (hts (.fieldLink RX6 15 "PledgeHouse$Rare" "tellers" "I") (by decide +kernel)) (fun _ h9 => h9) rfl hin rfl (by decide +kernel) rfl rfl (Nat.le_of_ble_eq_true rfl) dX6_init_12 (fun H locs hP _ hS => ?_)
  have hP : va_P D vwCl [(o, .inr (5, [.int (FP.f2i (FP.fmul weight 1120403456)), .int (FP.f2i (FP.fmul (FP.fsub (FP.fmul weight 1120403456) (FP.i2f (FP.f2i (FP.fmul weight 1120403456)))) 1148846080)), .float weight, .int tellers, .int 0, .int 0]))] H := hP
  refine lv_aload_n hx hb dX6_init_15 rfl (lv_at hl 0 rfl) ?_
  refine lv_iload_n hx hb dX6_init_16 rfl (lv_at hl 3 rfl) ?_
  refine va_putF (D := D) (ci := 5) (v := .int latest) (ty := .int) (C := RX6) (T := TX6) (N := 6) hx hb hts hX6 tyX6 tyX6_ok nmX6 hown hK.1 hP (w1_D s.heap.size) hS 0 rfl rfl 4 (by decide) (hts (.fieldLink RX6 19 "PledgeHouse$Rare" "latest" "I") (by decide +kernel)) (fun _ h9 => h9) rfl hin rfl (by decide +kernel) rfl rfl (Nat.le_of_ble_eq_true rfl) dX6_init_17 (fun H locs hP _ hS => ?_)
  have hP : va_P D vwCl [(o, .inr (5, [.int (FP.f2i (FP.fmul weight 1120403456)), .int (FP.f2i (FP.fmul (FP.fsub (FP.fmul weight 1120403456) (FP.i2f (FP.f2i (FP.fmul weight 1120403456)))) 1148846080)), .float weight, .int tellers, .int latest, .int 0]))] H := hP
  refine lv_aload_n hx hb dX6_init_20 rfl (lv_at hl 0 rfl) ?_
  refine lv_iload hx hb dX6_init_21 (lv_at hl 4 rfl) ?_
  refine va_putF (D := D) (ci := 5) (v := .int earlier) (ty := .int) (C := RX6) (T := TX6) (N := 6) hx hb hts hX6 tyX6 tyX6_ok nmX6 hown hK.1 hP (w1_D s.heap.size) hS 0 rfl rfl 5 (by decide) (hts (.fieldLink RX6 22 "PledgeHouse$Rare" "earlier" "I") (by decide +kernel)) (fun _ h9 => h9) rfl hin rfl (by decide +kernel) rfl rfl (Nat.le_of_ble_eq_true rfl) dX6_init_23 (fun H locs hP _ hS => ?_)
  have hP : va_P D vwCl [(o, .inr (5, [.int (FP.f2i (FP.fmul weight 1120403456)), .int (FP.f2i (FP.fmul (FP.fsub (FP.fmul weight 1120403456) (FP.i2f (FP.f2i (FP.fmul weight 1120403456)))) 1148846080)), .float weight, .int tellers, .int latest, .int earlier]))] H := hP
  exact W.vret hx hb hr (fun t2 ht2 hW => ⟨rfl, by rw [ht2]; exact hP, hS.F ht2⟩) hS.2.2 dX6_init_26 hlocks
set_option maxHeartbeats 4000000 in
set_option maxRecDepth 100000 in
theorem cC_X4_init (l : Launch) (D : va_G) (cs : Nat → ClassId) (o : Nat) (sz : Nat) (values : Nat) (came : Int32) : Met l yX4_init wsX4_init ({ frames := 2, cells := 0, slots := 0, locals := 40 }) (cPc [.ref o, .ref values, .int came] D cs [(o, .inr (4, [.null, .int 0]))] sz) (cQ D none [(o, .inr (4, [.ref values, .int came]))] (adA (p1 o) sz)) 0 0 (adA (p1 o) sz) := by
  refine c_in (P := p1 o) (cc := cX4_init) (maxL := 3) (ret := none) (lv := [(0, .ref o), (1, .ref values), (2, .int came)]) (by decide) rfl (Nat.le_of_ble_eq_true rfl) rfl ?_
  intro p e s m below meth c ls S hr hlocks hin hsz hP hK hl hS
  subst hsz
  obtain ⟨hx, hb, hml, hown, hts⟩ := id S
  have hX4 : ∀ w ∈ wsX40, w ∈ wsX4_init := by decide +kernel
  refine lv_aload_n hx hb dX4_init_0 rfl (lv_at hl 0 rfl) ?_
  refine c_r0 (rest := []) (va_runIN S (As := []) (b := o) (cC_X5_init l o) ⟨va_cnB (host := "PledgeHouse") 0 hts gX4_init_X5_init_n3 rfl rfl rfl (hK.2.2.1 _ (by decide +kernel)) (hts (.initialized RX5) (by decide +kernel)) (by decide +kernel) ⟨Nat.le_of_ble_eq_true rfl, Nat.le_of_ble_eq_true rfl⟩, rfl, hts (.instanceMethod yX5_init) (by decide +kernel)⟩ preEq rfl rfl hl.1 rfl (lv_room (Nat.le_of_ble_eq_true rfl)) dX4_init_1 ⟨Nat.zero_le _, Nat.zero_le _⟩) (fun _ h => h) ?_
  refine lv_aload_n hx hb dX4_init_4 rfl (lv_at hl 0 rfl) ?_
  refine lv_aload_n hx hb dX4_init_5 rfl (lv_at hl 1 rfl) ?_
  refine va_putF (D := D) (ci := 4) (v := .ref values) (ty := (.array .int)) (C := RX4) (T := TX4) (N := 2) hx hb hts hX4 tyX4 tyX4_ok nmX4 hown hK.1 hP (w1_D s.heap.size) hS 0 rfl rfl 0 (by decide) (hts (.fieldLink RX4 9 "PledgeHouse$Lot" "values" "[I") (by decide +kernel)) (fun _ h9 => h9) rfl hin rfl (by decide +kernel) rfl rfl (Nat.le_of_ble_eq_true rfl) dX4_init_6 (fun H locs hP _ hS => ?_)
  have hP : va_P D vwCl [(o, .inr (4, [.ref values, .int 0]))] H := hP
  refine lv_aload_n hx hb dX4_init_9 rfl (lv_at hl 0 rfl) ?_
  refine lv_iload_n hx hb dX4_init_10 rfl (lv_at hl 2 rfl) ?_
  refine va_putF (D := D) (ci := 4) (v := .int came) (ty := .int) (C := RX4) (T := TX4) (N := 2) hx hb hts hX4 tyX4 tyX4_ok nmX4 hown hK.1 hP (w1_D s.heap.size) hS 0 rfl rfl 1 (by decide) (hts (.fieldLink RX4 15 "PledgeHouse$Lot" "came" "I") (by decide +kernel)) (fun _ h9 => h9) rfl hin rfl (by decide +kernel) rfl rfl (Nat.le_of_ble_eq_true rfl) dX4_init_11 (fun H locs hP _ hS => ?_)
  have hP : va_P D vwCl [(o, .inr (4, [.ref values, .int came]))] H := hP
  exact W.vret hx hb hr (fun t2 ht2 hW => ⟨rfl, by rw [ht2]; exact hP, hS.F ht2⟩) hS.2.2 dX4_init_14 hlocks
