/-! the class: pledges (by cwalk.py) -/
def sc_X8_kind : Int32 :=
  0
set_option maxHeartbeats 4000000 in
set_option maxRecDepth 100000 in
theorem cC_X8_kind (l : Launch) (D : va_G) (cs : Nat → ClassId) (o : Nat) (ws : va_W) (sz : Nat) : Met l yX8_kind wsX8_kind ({ frames := 0, cells := 0, slots := 0, locals := 0 }) (cPc [.ref o] D cs (ws) sz) (k2_QcV (.int (sc_X8_kind))) 0 0 (fun _ => False) := by
  refine c_in (P := fun _ => False) (cc := cX8_kind) (maxL := 1) (ret := (some .int)) (lv := [(0, .ref o)]) (by decide) rfl (Nat.le_of_ble_eq_true rfl) rfl ?_
  intro p e s m below meth c ls S hr hlocks hin hsz hP hK hl hS
  subst hsz
  obtain ⟨hx, hb, hml, hown, hts⟩ := id S
  refine lv_iconst (v := 0) hx hb dX8_kind_0 (by decide) ?_
  have hsp : sc_X8_kind = 0 := rfl
  exact W.iret hx hb hr (fun t2 ht2 hW => ⟨by rw [hsp], ht2⟩) (fun q hq => by cases hq) dX8_kind_1 hlocks
def sc_X1_kind : Int32 :=
  3
set_option maxHeartbeats 4000000 in
set_option maxRecDepth 100000 in
theorem cC_X1_kind (l : Launch) (D : va_G) (cs : Nat → ClassId) (o : Nat) (ws : va_W) (sz : Nat) : Met l yX1_kind wsX1_kind ({ frames := 0, cells := 0, slots := 0, locals := 0 }) (cPc [.ref o] D cs (ws) sz) (k2_QcV (.int (sc_X1_kind))) 0 0 (fun _ => False) := by
  refine c_in (P := fun _ => False) (cc := cX1_kind) (maxL := 1) (ret := (some .int)) (lv := [(0, .ref o)]) (by decide) rfl (Nat.le_of_ble_eq_true rfl) rfl ?_
  intro p e s m below meth c ls S hr hlocks hin hsz hP hK hl hS
  subst hsz
  obtain ⟨hx, hb, hml, hown, hts⟩ := id S
  refine lv_iconst (v := 3) hx hb dX1_kind_0 (by decide) ?_
  have hsp : sc_X1_kind = 3 := rfl
  exact W.iret hx hb hr (fun t2 ht2 hW => ⟨by rw [hsp], ht2⟩) (fun q hq => by cases hq) dX1_kind_1 hlocks
def sc_X2_kind : Int32 :=
  1
set_option maxHeartbeats 4000000 in
set_option maxRecDepth 100000 in
theorem cC_X2_kind (l : Launch) (D : va_G) (cs : Nat → ClassId) (o : Nat) (ws : va_W) (sz : Nat) : Met l yX2_kind wsX2_kind ({ frames := 0, cells := 0, slots := 0, locals := 0 }) (cPc [.ref o] D cs (ws) sz) (k2_QcV (.int (sc_X2_kind))) 0 0 (fun _ => False) := by
  refine c_in (P := fun _ => False) (cc := cX2_kind) (maxL := 1) (ret := (some .int)) (lv := [(0, .ref o)]) (by decide) rfl (Nat.le_of_ble_eq_true rfl) rfl ?_
  intro p e s m below meth c ls S hr hlocks hin hsz hP hK hl hS
  subst hsz
  obtain ⟨hx, hb, hml, hown, hts⟩ := id S
  refine lv_iconst (v := 1) hx hb dX2_kind_0 (by decide) ?_
  have hsp : sc_X2_kind = 1 := rfl
  exact W.iret hx hb hr (fun t2 ht2 hW => ⟨by rw [hsp], ht2⟩) (fun q hq => by cases hq) dX2_kind_1 hlocks
def sc_X4_kind : Int32 :=
  2
set_option maxHeartbeats 4000000 in
set_option maxRecDepth 100000 in
theorem cC_X4_kind (l : Launch) (D : va_G) (cs : Nat → ClassId) (o : Nat) (ws : va_W) (sz : Nat) : Met l yX4_kind wsX4_kind ({ frames := 0, cells := 0, slots := 0, locals := 0 }) (cPc [.ref o] D cs (ws) sz) (k2_QcV (.int (sc_X4_kind))) 0 0 (fun _ => False) := by
  refine c_in (P := fun _ => False) (cc := cX4_kind) (maxL := 1) (ret := (some .int)) (lv := [(0, .ref o)]) (by decide) rfl (Nat.le_of_ble_eq_true rfl) rfl ?_
  intro p e s m below meth c ls S hr hlocks hin hsz hP hK hl hS
  subst hsz
  obtain ⟨hx, hb, hml, hown, hts⟩ := id S
  refine lv_iconst (v := 2) hx hb dX4_kind_0 (by decide) ?_
  have hsp : sc_X4_kind = 2 := rfl
  exact W.iret hx hb hr (fun t2 ht2 hW => ⟨by rw [hsp], ht2⟩) (fun q hq => by cases hq) dX4_kind_1 hlocks
def sc_X6_kind : Int32 :=
  4
set_option maxHeartbeats 4000000 in
set_option maxRecDepth 100000 in
theorem cC_X6_kind (l : Launch) (D : va_G) (cs : Nat → ClassId) (o : Nat) (ws : va_W) (sz : Nat) : Met l yX6_kind wsX6_kind ({ frames := 0, cells := 0, slots := 0, locals := 0 }) (cPc [.ref o] D cs (ws) sz) (k2_QcV (.int (sc_X6_kind))) 0 0 (fun _ => False) := by
  refine c_in (P := fun _ => False) (cc := cX6_kind) (maxL := 1) (ret := (some .int)) (lv := [(0, .ref o)]) (by decide) rfl (Nat.le_of_ble_eq_true rfl) rfl ?_
  intro p e s m below meth c ls S hr hlocks hin hsz hP hK hl hS
  subst hsz
  obtain ⟨hx, hb, hml, hown, hts⟩ := id S
  refine lv_iconst (v := 4) hx hb dX6_kind_0 (by decide) ?_
  have hsp : sc_X6_kind = 4 := rfl
  exact W.iret hx hb hr (fun t2 ht2 hW => ⟨by rw [hsp], ht2⟩) (fun q hq => by cases hq) dX6_kind_1 hlocks
def sc_X5_hundredths : Int32 :=
  0
set_option maxHeartbeats 4000000 in
set_option maxRecDepth 100000 in
theorem cC_X5_hundredths (l : Launch) (D : va_G) (cs : Nat → ClassId) (o : Nat) (ws : va_W) (sz : Nat) : Met l yX5_hundredths wsX5_hundredths ({ frames := 0, cells := 0, slots := 0, locals := 0 }) (cPc [.ref o] D cs (ws) sz) (k2_QcV (.int (sc_X5_hundredths))) 0 0 (fun _ => False) := by
  refine c_in (P := fun _ => False) (cc := cX5_hundredths) (maxL := 1) (ret := (some .int)) (lv := [(0, .ref o)]) (by decide) rfl (Nat.le_of_ble_eq_true rfl) rfl ?_
  intro p e s m below meth c ls S hr hlocks hin hsz hP hK hl hS
  subst hsz
  obtain ⟨hx, hb, hml, hown, hts⟩ := id S
  refine lv_iconst (v := 0) hx hb dX5_hundredths_0 (by decide) ?_
  have hsp : sc_X5_hundredths = 0 := rfl
  exact W.iret hx hb hr (fun t2 ht2 hW => ⟨by rw [hsp], ht2⟩) (fun q hq => by cases hq) dX5_hundredths_1 hlocks
def sc_X5_leftOver : Int32 :=
  0
set_option maxHeartbeats 4000000 in
set_option maxRecDepth 100000 in
theorem cC_X5_leftOver (l : Launch) (D : va_G) (cs : Nat → ClassId) (o : Nat) (ws : va_W) (sz : Nat) : Met l yX5_leftOver wsX5_leftOver ({ frames := 0, cells := 0, slots := 0, locals := 0 }) (cPc [.ref o] D cs (ws) sz) (k2_QcV (.int (sc_X5_leftOver))) 0 0 (fun _ => False) := by
  refine c_in (P := fun _ => False) (cc := cX5_leftOver) (maxL := 1) (ret := (some .int)) (lv := [(0, .ref o)]) (by decide) rfl (Nat.le_of_ble_eq_true rfl) rfl ?_
  intro p e s m below meth c ls S hr hlocks hin hsz hP hK hl hS
  subst hsz
  obtain ⟨hx, hb, hml, hown, hts⟩ := id S
  refine lv_iconst (v := 0) hx hb dX5_leftOver_0 (by decide) ?_
  have hsp : sc_X5_leftOver = 0 := rfl
  exact W.iret hx hb hr (fun t2 ht2 hW => ⟨by rw [hsp], ht2⟩) (fun q hq => by cases hq) dX5_leftOver_1 hlocks
def sc_X5_itemCount : Int32 :=
  0
set_option maxHeartbeats 4000000 in
set_option maxRecDepth 100000 in
theorem cC_X5_itemCount (l : Launch) (D : va_G) (cs : Nat → ClassId) (o : Nat) (ws : va_W) (sz : Nat) : Met l yX5_itemCount wsX5_itemCount ({ frames := 0, cells := 0, slots := 0, locals := 0 }) (cPc [.ref o] D cs (ws) sz) (k2_QcV (.int (sc_X5_itemCount))) 0 0 (fun _ => False) := by
  refine c_in (P := fun _ => False) (cc := cX5_itemCount) (maxL := 1) (ret := (some .int)) (lv := [(0, .ref o)]) (by decide) rfl (Nat.le_of_ble_eq_true rfl) rfl ?_
  intro p e s m below meth c ls S hr hlocks hin hsz hP hK hl hS
  subst hsz
  obtain ⟨hx, hb, hml, hown, hts⟩ := id S
  refine lv_iconst (v := 0) hx hb dX5_itemCount_0 (by decide) ?_
  have hsp : sc_X5_itemCount = 0 := rfl
  exact W.iret hx hb hr (fun t2 ht2 hW => ⟨by rw [hsp], ht2⟩) (fun q hq => by cases hq) dX5_itemCount_1 hlocks
def sc_X5_tellers : Int32 :=
  0
set_option maxHeartbeats 4000000 in
set_option maxRecDepth 100000 in
theorem cC_X5_tellers (l : Launch) (D : va_G) (cs : Nat → ClassId) (o : Nat) (ws : va_W) (sz : Nat) : Met l yX5_tellers wsX5_tellers ({ frames := 0, cells := 0, slots := 0, locals := 0 }) (cPc [.ref o] D cs (ws) sz) (k2_QcV (.int (sc_X5_tellers))) 0 0 (fun _ => False) := by
  refine c_in (P := fun _ => False) (cc := cX5_tellers) (maxL := 1) (ret := (some .int)) (lv := [(0, .ref o)]) (by decide) rfl (Nat.le_of_ble_eq_true rfl) rfl ?_
  intro p e s m below meth c ls S hr hlocks hin hsz hP hK hl hS
  subst hsz
  obtain ⟨hx, hb, hml, hown, hts⟩ := id S
  refine lv_iconst (v := 0) hx hb dX5_tellers_0 (by decide) ?_
  have hsp : sc_X5_tellers = 0 := rfl
  exact W.iret hx hb hr (fun t2 ht2 hW => ⟨by rw [hsp], ht2⟩) (fun q hq => by cases hq) dX5_tellers_1 hlocks
def sc_X8_worth (v : Nat → Int32) (today : Int32) (price : Int32) : Int32 :=
  v 0
set_option maxHeartbeats 4000000 in
set_option maxRecDepth 100000 in
theorem cC_X8_worth (l : Launch) (D : va_G) (cs : Nat → ClassId) (q : Nat → Nat) (v : Nat → Int32) (sz : Nat) (today : Int32) (price : Int32) : Met l yX8_worth wsX8_worth ({ frames := 0, cells := 0, slots := 0, locals := 0 }) (cPc [.ref (q 0), .int today, .int price] D cs (w8 q v) sz) (k2_QcV (.int (sc_X8_worth v today price))) 0 0 (fun _ => False) := by
  refine c_in (P := fun _ => False) (cc := cX8_worth) (maxL := 3) (ret := (some .int)) (lv := [(0, .ref (q 0)), (1, .int today), (2, .int price)]) (by decide) rfl (Nat.le_of_ble_eq_true rfl) rfl ?_
  intro p e s m below meth c ls S hr hlocks hin hsz hP hK hl hS
  subst hsz
  obtain ⟨hx, hb, hml, hown, hts⟩ := id S
  have hX8 : ∀ w ∈ wsX80, w ∈ wsX8_worth := by decide +kernel
  refine lv_aload_n hx hb dX8_worth_0 rfl (lv_at hl 0 rfl) ?_
  refine va_get (D := D) (ci := 7) (v := .int (v 0)) (C := RX8) (T := TX8) (N := 1) hx hb hts hX8 hown hK.1 hP 0 rfl rfl 0 (by decide) (hts (.fieldLink RX8 9 "PledgeHouse$Thing" "value" "I") (by decide +kernel)) (fun _ h9 => h9) rfl dX8_worth_1 ?_
  have hsp : sc_X8_worth v today price = v 0 := rfl
  exact W.iret hx hb hr (fun t2 ht2 hW => ⟨by rw [hsp], ht2⟩) (fun q hq => by cases hq) dX8_worth_4 hlocks
def sc_X1_worth (v : Nat → Int32) (today : Int32) (price : Int32) : Int32 :=
  if 0 < (1000 - (((v 1).toInt64) * (((today - (v 2)) / 360).toInt64))) then
    ((((v 0).toInt64) * (1000 - (((v 1).toInt64) * (((today - (v 2)) / 360).toInt64)))) / 1000).toInt32
  else
    0
set_option maxHeartbeats 4000000 in
set_option maxRecDepth 100000 in
theorem cC_X1_worth (l : Launch) (D : va_G) (cs : Nat → ClassId) (q : Nat → Nat) (v : Nat → Int32) (sz : Nat) (today : Int32) (price : Int32) : Met l yX1_worth wsX1_worth ({ frames := 0, cells := 0, slots := 0, locals := 0 }) (cPc [.ref (q 0), .int today, .int price] D cs (w3 q v) sz) (k2_QcV (.int (sc_X1_worth v today price))) 0 0 (fun _ => False) := by
  refine c_in (P := fun _ => False) (cc := cX1_worth) (maxL := 5) (ret := (some .int)) (lv := [(0, .ref (q 0)), (1, .int today), (2, .int price)]) (by decide) rfl (Nat.le_of_ble_eq_true rfl) rfl ?_
  intro p e s m below meth c ls S hr hlocks hin hsz hP hK hl hS
  subst hsz
  obtain ⟨hx, hb, hml, hown, hts⟩ := id S
  have hX1 : ∀ w ∈ wsX10, w ∈ wsX1_worth := by decide +kernel
  refine lv_ldc2 (v := 1000) hx hb hown (hts (.constantLong RX1 21 (1000)) (by decide +kernel)) dX1_worth_0 ?_
  refine lv_aload_n hx hb dX1_worth_3 rfl (lv_at hl 0 rfl) ?_
  refine va_get (D := D) (ci := 1) (v := .int (v 1)) (C := RX1) (T := TX1) (N := 3) hx hb hts hX1 hown hK.1 hP 0 rfl rfl 1 (by decide) (hts (.fieldLink RX1 15 "PledgeHouse$Coat" "wear" "I") (by decide +kernel)) (fun _ h9 => h9) rfl dX1_worth_4 ?_
  refine lv_i2l (v := (v 1).toInt64) hx hb dX1_worth_7 rfl ?_
  refine lv_iload_n hx hb dX1_worth_8 rfl (lv_at hl 1 rfl) ?_
  refine lv_aload_n hx hb dX1_worth_9 rfl (lv_at hl 0 rfl) ?_
  refine va_get (D := D) (ci := 1) (v := .int (v 2)) (C := RX1) (T := TX1) (N := 3) hx hb hts hX1 hown hK.1 hP 0 rfl rfl 2 (by decide) (hts (.fieldLink RX1 18 "PledgeHouse$Coat" "came" "I") (by decide +kernel)) (fun _ h9 => h9) rfl dX1_worth_10 ?_
  refine lv_isub hx hb dX1_worth_13 ?_
  refine lv_sipush (v := 360) hx hb dX1_worth_14 (by decide) ?_
  refine lv_idiv hx hb dX1_worth_17 (by decide) ?_
  refine lv_i2l (v := ((today - (v 2)) / 360).toInt64) hx hb dX1_worth_18 rfl ?_
  refine lv_lmul hx hb dX1_worth_19 ?_
  refine lv_lsub hx hb dX1_worth_20 ?_
  refine lv_lstore_n (lv' := [(3, .long (1000 - (((v 1).toInt64) * (((today - (v 2)) / 360).toInt64)))), (0, .ref (q 0)), (1, .int today), (2, .int price)]) hx hb dX1_worth_21 rfl hl (by decide) rfl (fun ls hl => ?_)
  refine lv_lload_n hx hb dX1_worth_22 rfl (lv_at hl 0 rfl) ?_
  refine lv_lconst (v := 0) hx hb dX1_worth_23 (by decide) ?_
  refine W.lcmp hx hb dX1_worth_24 ?_
  refine lv_if_gt (tgt := 32) hx hb dX1_worth_25 (by decide) (fun c_1 => ?_) (fun c_1 => ?_)
  · have c_1 := (lg_cmp_gt _ _).mp c_1
    refine lv_aload_n hx hb dX1_worth_32 rfl (lv_at hl 1 rfl) ?_
    refine va_get (D := D) (ci := 1) (v := .int (v 0)) (C := RX1) (T := TX1) (N := 3) hx hb hts hX1 hown hK.1 hP 0 rfl rfl 0 (by decide) (hts (.fieldLink RX1 9 "PledgeHouse$Coat" "value" "I") (by decide +kernel)) (fun _ h9 => h9) rfl dX1_worth_33 ?_
    refine lv_i2l (v := (v 0).toInt64) hx hb dX1_worth_36 rfl ?_
    refine lv_lload_n hx hb dX1_worth_37 rfl (lv_at hl 0 rfl) ?_
    refine lv_lmul hx hb dX1_worth_38 ?_
    refine lv_ldc2 (v := 1000) hx hb hown (hts (.constantLong RX1 21 (1000)) (by decide +kernel)) dX1_worth_39 ?_
    refine lv_ldiv hx hb dX1_worth_42 (by decide) ?_
    refine lv_l2i (v := ((((v 0).toInt64) * (1000 - (((v 1).toInt64) * (((today - (v 2)) / 360).toInt64)))) / 1000).toInt32) hx hb dX1_worth_43 rfl ?_
    have hsp : sc_X1_worth v today price = ((((v 0).toInt64) * (1000 - (((v 1).toInt64) * (((today - (v 2)) / 360).toInt64)))) / 1000).toInt32 := by unfold sc_X1_worth; rw [if_pos c_1]
    exact W.iret hx hb hr (fun t2 ht2 hW => ⟨by rw [hsp], ht2⟩) (fun q hq => by cases hq) dX1_worth_44 hlocks
  · have c_1 : ¬ 0 < (1000 - (((v 1).toInt64) * (((today - (v 2)) / 360).toInt64))) := fun h => c_1 ((lg_cmp_gt _ _).mpr h)
    refine lv_iconst (v := 0) hx hb dX1_worth_28 (by decide) ?_
    refine lv_goto (tgt := 44) hx hb dX1_worth_29 (by decide) ?_
    have hsp : sc_X1_worth v today price = 0 := by unfold sc_X1_worth; rw [if_neg c_1]
    exact W.iret hx hb hr (fun t2 ht2 hW => ⟨by rw [hsp], ht2⟩) (fun q hq => by cases hq) dX1_worth_44 hlocks
def sc_X10_hundredths_2 (v : Nat → Int32) : Int32 :=
  v 0
set_option maxHeartbeats 4000000 in
set_option maxRecDepth 100000 in
theorem cC_X10_hundredths_2 (l : Launch) (D : va_G) (cs : Nat → ClassId) (q : Nat → Nat) (v : Nat → Int32) (sz : Nat) : Met l yX10_hundredths wsX10_hundredths ({ frames := 0, cells := 0, slots := 0, locals := 0 }) (cPc [.ref (q 0)] D cs (w2 q v) sz) (k2_QcV (.int (sc_X10_hundredths_2 v))) 0 0 (fun _ => False) := by
  refine c_in (P := fun _ => False) (cc := cX10_hundredths) (maxL := 1) (ret := (some .int)) (lv := [(0, .ref (q 0))]) (by decide) rfl (Nat.le_of_ble_eq_true rfl) rfl ?_
  intro p e s m below meth c ls S hr hlocks hin hsz hP hK hl hS
  subst hsz
  obtain ⟨hx, hb, hml, hown, hts⟩ := id S
  have hX2 : ∀ w ∈ wsX20, w ∈ wsX10_hundredths := by decide +kernel
  refine lv_aload_n hx hb dX10_hundredths_0 rfl (lv_at hl 0 rfl) ?_
  refine va_get (D := D) (ci := 2) (v := .int (v 0)) (C := RX2) (T := TX2) (N := 3) hx hb hts hX2 hown hK.1 hP 0 rfl rfl 0 (by decide) (hts (.fieldLink RX10 8 "PledgeHouse$Weighed" "hundredths" "I") (by decide +kernel)) (fun _ h9 => h9) rfl dX10_hundredths_1 ?_
  have hsp : sc_X10_hundredths_2 v = v 0 := rfl
  exact W.iret hx hb hr (fun t2 ht2 hW => ⟨by rw [hsp], ht2⟩) (fun q hq => by cases hq) dX10_hundredths_4 hlocks
def sc_X10_leftOver_2 (v : Nat → Int32) : Int32 :=
  v 1
set_option maxHeartbeats 4000000 in
set_option maxRecDepth 100000 in
theorem cC_X10_leftOver_2 (l : Launch) (D : va_G) (cs : Nat → ClassId) (q : Nat → Nat) (v : Nat → Int32) (sz : Nat) : Met l yX10_leftOver wsX10_leftOver ({ frames := 0, cells := 0, slots := 0, locals := 0 }) (cPc [.ref (q 0)] D cs (w2 q v) sz) (k2_QcV (.int (sc_X10_leftOver_2 v))) 0 0 (fun _ => False) := by
  refine c_in (P := fun _ => False) (cc := cX10_leftOver) (maxL := 1) (ret := (some .int)) (lv := [(0, .ref (q 0))]) (by decide) rfl (Nat.le_of_ble_eq_true rfl) rfl ?_
  intro p e s m below meth c ls S hr hlocks hin hsz hP hK hl hS
  subst hsz
  obtain ⟨hx, hb, hml, hown, hts⟩ := id S
  have hX2 : ∀ w ∈ wsX20, w ∈ wsX10_leftOver := by decide +kernel
  refine lv_aload_n hx hb dX10_leftOver_0 rfl (lv_at hl 0 rfl) ?_
  refine va_get (D := D) (ci := 2) (v := .int (v 1)) (C := RX2) (T := TX2) (N := 3) hx hb hts hX2 hown hK.1 hP 0 rfl rfl 1 (by decide) (hts (.fieldLink RX10 15 "PledgeHouse$Weighed" "leftOver" "I") (by decide +kernel)) (fun _ h9 => h9) rfl dX10_leftOver_1 ?_
  have hsp : sc_X10_leftOver_2 v = v 1 := rfl
  exact W.iret hx hb hr (fun t2 ht2 hW => ⟨by rw [hsp], ht2⟩) (fun q hq => by cases hq) dX10_leftOver_4 hlocks
def sc_X10_hundredths_6 (v : Nat → Int32) : Int32 :=
  v 0
set_option maxHeartbeats 4000000 in
set_option maxRecDepth 100000 in
theorem cC_X10_hundredths_6 (l : Launch) (D : va_G) (cs : Nat → ClassId) (q : Nat → Nat) (v : Nat → Int32) (w : UInt32) (sz : Nat) : Met l yX10_hundredths wsX10_hundredths ({ frames := 0, cells := 0, slots := 0, locals := 0 }) (cPc [.ref (q 0)] D cs (w6 q v w) sz) (k2_QcV (.int (sc_X10_hundredths_6 v))) 0 0 (fun _ => False) := by
  refine c_in (P := fun _ => False) (cc := cX10_hundredths) (maxL := 1) (ret := (some .int)) (lv := [(0, .ref (q 0))]) (by decide) rfl (Nat.le_of_ble_eq_true rfl) rfl ?_
  intro p e s m below meth c ls S hr hlocks hin hsz hP hK hl hS
  subst hsz
  obtain ⟨hx, hb, hml, hown, hts⟩ := id S
  have hX6 : ∀ w ∈ wsX60, w ∈ wsX10_hundredths := by decide +kernel
  refine lv_aload_n hx hb dX10_hundredths_0 rfl (lv_at hl 0 rfl) ?_
  refine va_get (D := D) (ci := 5) (v := .int (v 0)) (C := RX6) (T := TX6) (N := 6) hx hb hts hX6 hown hK.1 hP 0 rfl rfl 0 (by decide) (hts (.fieldLink RX10 8 "PledgeHouse$Weighed" "hundredths" "I") (by decide +kernel)) (fun _ h9 => h9) rfl dX10_hundredths_1 ?_
  have hsp : sc_X10_hundredths_6 v = v 0 := rfl
  exact W.iret hx hb hr (fun t2 ht2 hW => ⟨by rw [hsp], ht2⟩) (fun q hq => by cases hq) dX10_hundredths_4 hlocks
def sc_X10_leftOver_6 (v : Nat → Int32) : Int32 :=
  v 1
set_option maxHeartbeats 4000000 in
set_option maxRecDepth 100000 in
theorem cC_X10_leftOver_6 (l : Launch) (D : va_G) (cs : Nat → ClassId) (q : Nat → Nat) (v : Nat → Int32) (w : UInt32) (sz : Nat) : Met l yX10_leftOver wsX10_leftOver ({ frames := 0, cells := 0, slots := 0, locals := 0 }) (cPc [.ref (q 0)] D cs (w6 q v w) sz) (k2_QcV (.int (sc_X10_leftOver_6 v))) 0 0 (fun _ => False) := by
  refine c_in (P := fun _ => False) (cc := cX10_leftOver) (maxL := 1) (ret := (some .int)) (lv := [(0, .ref (q 0))]) (by decide) rfl (Nat.le_of_ble_eq_true rfl) rfl ?_
  intro p e s m below meth c ls S hr hlocks hin hsz hP hK hl hS
  subst hsz
  obtain ⟨hx, hb, hml, hown, hts⟩ := id S
  have hX6 : ∀ w ∈ wsX60, w ∈ wsX10_leftOver := by decide +kernel
  refine lv_aload_n hx hb dX10_leftOver_0 rfl (lv_at hl 0 rfl) ?_
  refine va_get (D := D) (ci := 5) (v := .int (v 1)) (C := RX6) (T := TX6) (N := 6) hx hb hts hX6 hown hK.1 hP 0 rfl rfl 1 (by decide) (hts (.fieldLink RX10 15 "PledgeHouse$Weighed" "leftOver" "I") (by decide +kernel)) (fun _ h9 => h9) rfl dX10_leftOver_1 ?_
  have hsp : sc_X10_leftOver_6 v = v 1 := rfl
  exact W.iret hx hb hr (fun t2 ht2 hW => ⟨by rw [hsp], ht2⟩) (fun q hq => by cases hq) dX10_leftOver_4 hlocks
def sc_X6_worth (v : Nat → Int32) (today : Int32) (price : Int32) : Int32 :=
  if 2 ≤ (v 3) then
    if (v 5) < (v 4) then (v 5) else (v 4)
  else
    0
set_option maxHeartbeats 4000000 in
set_option maxRecDepth 100000 in
theorem cC_X6_worth (l : Launch) (D : va_G) (cs : Nat → ClassId) (q : Nat → Nat) (v : Nat → Int32) (w : UInt32) (sz : Nat) (today : Int32) (price : Int32) : Met l yX6_worth wsX6_worth ({ frames := 1, cells := 0, slots := 0, locals := 21 }) (cPc [.ref (q 0), .int today, .int price] D cs (w6 q v w) sz) (k2_QcV (.int (sc_X6_worth v today price))) 0 0 (fun _ => False) := by
  refine c_in (P := fun _ => False) (cc := cX6_worth) (maxL := 3) (ret := (some .int)) (lv := [(0, .ref (q 0)), (1, .int today), (2, .int price)]) (by decide) rfl (Nat.le_of_ble_eq_true rfl) rfl ?_
  intro p e s m below meth c ls S hr hlocks hin hsz hP hK hl hS
  subst hsz
  obtain ⟨hx, hb, hml, hown, hts⟩ := id S
  have hX6 : ∀ w ∈ wsX60, w ∈ wsX6_worth := by decide +kernel
  refine lv_aload_n hx hb dX6_worth_0 rfl (lv_at hl 0 rfl) ?_
  refine va_get (D := D) (ci := 5) (v := .int (v 3)) (C := RX6) (T := TX6) (N := 6) hx hb hts hX6 hown hK.1 hP 0 rfl rfl 3 (by decide) (hts (.fieldLink RX6 15 "PledgeHouse$Rare" "tellers" "I") (by decide +kernel)) (fun _ h9 => h9) rfl dX6_worth_1 ?_
  refine lv_iconst (v := 2) hx hb dX6_worth_4 (by decide) ?_
  refine lv_icmp_ge (tgt := 12) hx hb dX6_worth_5 (by decide) (fun c_1 => ?_) (fun c_1 => ?_)
  · refine lv_aload_n hx hb dX6_worth_12 rfl (lv_at hl 0 rfl) ?_
    refine va_get (D := D) (ci := 5) (v := .int (v 4)) (C := RX6) (T := TX6) (N := 6) hx hb hts hX6 hown hK.1 hP 0 rfl rfl 4 (by decide) (hts (.fieldLink RX6 19 "PledgeHouse$Rare" "latest" "I") (by decide +kernel)) (fun _ h9 => h9) rfl dX6_worth_13 ?_
    refine lv_aload_n hx hb dX6_worth_16 rfl (lv_at hl 0 rfl) ?_
    refine va_get (D := D) (ci := 5) (v := .int (v 5)) (C := RX6) (T := TX6) (N := 6) hx hb hts hX6 hown hK.1 hP 0 rfl rfl 5 (by decide) (hts (.fieldLink RX6 22 "PledgeHouse$Rare" "earlier" "I") (by decide +kernel)) (fun _ h9 => h9) rfl dX6_worth_17 ?_
    refine va_mmin hx hb (hml.trans hl.1.symm) hown (hts (.methodLink RX6 28 Lib.Math.min.name) (by decide +kernel)) (hts (.static Lib.Math.min.name) (by decide +kernel)) (hts (.initialized "java/lang/Math") (by decide +kernel)) (hts (.code Lib.Math.min.name Lib.Math.min.code 2 (some .int)) (by decide +kernel)) (Nat.le_of_ble_eq_true rfl) (Nat.le_of_ble_eq_true rfl) (Nat.zero_le _) (Nat.zero_le _) dX6_worth_20 ?_
    have hsp : sc_X6_worth v today price = if (v 5) < (v 4) then (v 5) else (v 4) := by unfold sc_X6_worth; rw [if_pos c_1]
    exact W.iret hx hb hr (fun t2 ht2 hW => ⟨by rw [hsp], ht2⟩) (fun q hq => by cases hq) dX6_worth_23 hlocks
  · refine lv_iconst (v := 0) hx hb dX6_worth_8 (by decide) ?_
    refine lv_goto (tgt := 23) hx hb dX6_worth_9 (by decide) ?_
    have hsp : sc_X6_worth v today price = 0 := by unfold sc_X6_worth; rw [if_neg c_1]
    exact W.iret hx hb hr (fun t2 ht2 hW => ⟨by rw [hsp], ht2⟩) (fun q hq => by cases hq) dX6_worth_23 hlocks
def sc_X6_tellers (v : Nat → Int32) : Int32 :=
  v 3
set_option maxHeartbeats 4000000 in
set_option maxRecDepth 100000 in
theorem cC_X6_tellers (l : Launch) (D : va_G) (cs : Nat → ClassId) (q : Nat → Nat) (v : Nat → Int32) (w : UInt32) (sz : Nat) : Met l yX6_tellers wsX6_tellers ({ frames := 0, cells := 0, slots := 0, locals := 0 }) (cPc [.ref (q 0)] D cs (w6 q v w) sz) (k2_QcV (.int (sc_X6_tellers v))) 0 0 (fun _ => False) := by
  refine c_in (P := fun _ => False) (cc := cX6_tellers) (maxL := 1) (ret := (some .int)) (lv := [(0, .ref (q 0))]) (by decide) rfl (Nat.le_of_ble_eq_true rfl) rfl ?_
  intro p e s m below meth c ls S hr hlocks hin hsz hP hK hl hS
  subst hsz
  obtain ⟨hx, hb, hml, hown, hts⟩ := id S
  have hX6 : ∀ w ∈ wsX60, w ∈ wsX6_tellers := by decide +kernel
  refine lv_aload_n hx hb dX6_tellers_0 rfl (lv_at hl 0 rfl) ?_
  refine va_get (D := D) (ci := 5) (v := .int (v 3)) (C := RX6) (T := TX6) (N := 6) hx hb hts hX6 hown hK.1 hP 0 rfl rfl 3 (by decide) (hts (.fieldLink RX6 15 "PledgeHouse$Rare" "tellers" "I") (by decide +kernel)) (fun _ h9 => h9) rfl dX6_tellers_1 ?_
  have hsp : sc_X6_tellers v = v 3 := rfl
  exact W.iret hx hb hr (fun t2 ht2 hW => ⟨by rw [hsp], ht2⟩) (fun q hq => by cases hq) dX6_tellers_4 hlocks
def sc_X4_isFull (v : Nat → Int32) : Int32 :=
  if (v 6) < 6 then
    0
  else
    1
set_option maxHeartbeats 4000000 in
set_option maxRecDepth 100000 in
theorem cC_X4_isFull (l : Launch) (D : va_G) (cs : Nat → ClassId) (q : Nat → Nat) (v : Nat → Int32) (sz : Nat) : Met l yX4_isFull wsX4_isFull ({ frames := 0, cells := 0, slots := 0, locals := 0 }) (cPc [.ref (q 0)] D cs (w4 q cs v) sz) (k2_QcV (.int (sc_X4_isFull v))) 0 0 (fun _ => False) := by
  refine c_in (P := fun _ => False) (cc := cX4_isFull) (maxL := 1) (ret := (some .boolean)) (lv := [(0, .ref (q 0))]) (by decide) rfl (Nat.le_of_ble_eq_true rfl) rfl ?_
  intro p e s m below meth c ls S hr hlocks hin hsz hP hK hl hS
  subst hsz
  obtain ⟨hx, hb, hml, hown, hts⟩ := id S
  have hX4 : ∀ w ∈ wsX40, w ∈ wsX4_isFull := by decide +kernel
  refine lv_aload_n hx hb dX4_isFull_0 rfl (lv_at hl 0 rfl) ?_
  refine va_get (D := D) (ci := 4) (v := .int (v 6)) (C := RX4) (T := TX4) (N := 2) hx hb hts hX4 hown hK.1 hP 0 rfl rfl 1 (by decide) (hts (.fieldLink RX4 15 "PledgeHouse$Lot" "came" "I") (by decide +kernel)) (fun _ h9 => h9) rfl dX4_isFull_1 ?_
  refine lv_bipush (v := 6) hx hb dX4_isFull_4 (by decide) ?_
  refine lv_icmp_lt (tgt := 13) hx hb dX4_isFull_6 (by decide) (fun c_1 => ?_) (fun c_1 => ?_)
  · refine lv_iconst (v := 0) hx hb dX4_isFull_13 (by decide) ?_
    have hsp : sc_X4_isFull v = 0 := by unfold sc_X4_isFull; rw [if_pos c_1]
    exact W.zret hx hb hr (by decide) (fun t2 ht2 hW => ⟨by rw [hsp], ht2⟩) (fun q hq => by cases hq) dX4_isFull_14 hlocks
  · refine lv_iconst (v := 1) hx hb dX4_isFull_9 (by decide) ?_
    refine lv_goto (tgt := 14) hx hb dX4_isFull_10 (by decide) ?_
    have hsp : sc_X4_isFull v = 1 := by unfold sc_X4_isFull; rw [if_neg c_1]
    exact W.zret hx hb hr (by decide) (fun t2 ht2 hW => ⟨by rw [hsp], ht2⟩) (fun q hq => by cases hq) dX4_isFull_14 hlocks
def sc_X4_numberOfLatest (v : Nat → Int32) : Int32 :=
  (v 6) - 1
set_option maxHeartbeats 4000000 in
set_option maxRecDepth 100000 in
theorem cC_X4_numberOfLatest (l : Launch) (D : va_G) (cs : Nat → ClassId) (q : Nat → Nat) (v : Nat → Int32) (sz : Nat) : Met l yX4_numberOfLatest wsX4_numberOfLatest ({ frames := 0, cells := 0, slots := 0, locals := 0 }) (cPc [.ref (q 0)] D cs (w4 q cs v) sz) (k2_QcV (.int (sc_X4_numberOfLatest v))) 0 0 (fun _ => False) := by
  refine c_in (P := fun _ => False) (cc := cX4_numberOfLatest) (maxL := 1) (ret := (some .int)) (lv := [(0, .ref (q 0))]) (by decide) rfl (Nat.le_of_ble_eq_true rfl) rfl ?_
  intro p e s m below meth c ls S hr hlocks hin hsz hP hK hl hS
  subst hsz
  obtain ⟨hx, hb, hml, hown, hts⟩ := id S
  have hX4 : ∀ w ∈ wsX40, w ∈ wsX4_numberOfLatest := by decide +kernel
  refine lv_aload_n hx hb dX4_numberOfLatest_0 rfl (lv_at hl 0 rfl) ?_
  refine va_get (D := D) (ci := 4) (v := .int (v 6)) (C := RX4) (T := TX4) (N := 2) hx hb hts hX4 hown hK.1 hP 0 rfl rfl 1 (by decide) (hts (.fieldLink RX4 15 "PledgeHouse$Lot" "came" "I") (by decide +kernel)) (fun _ h9 => h9) rfl dX4_numberOfLatest_1 ?_
  refine lv_iconst (v := 1) hx hb dX4_numberOfLatest_4 (by decide) ?_
  refine lv_isub hx hb dX4_numberOfLatest_5 ?_
  have hsp : sc_X4_numberOfLatest v = (v 6) - 1 := rfl
  exact W.iret hx hb hr (fun t2 ht2 hW => ⟨by rw [hsp], ht2⟩) (fun q hq => by cases hq) dX4_numberOfLatest_6 hlocks
def sc_X2_worth (v : Nat → Int32) (today : Int32) (price : Int32) : Int32 :=
  (((((sc_X10_hundredths_2 v).toInt64) * ((v 2).toInt64)) * price.toInt64) / 1000000).toInt32
set_option maxHeartbeats 4000000 in
set_option maxRecDepth 100000 in
theorem cC_X2_worth (l : Launch) (D : va_G) (cs : Nat → ClassId) (q : Nat → Nat) (v : Nat → Int32) (sz : Nat) (today : Int32) (price : Int32) : Met l yX2_worth wsX2_worth ({ frames := 1, cells := 0, slots := 0, locals := 20 }) (cPc [.ref (q 0), .int today, .int price] D cs (w2 q v) sz) (k2_QcV (.int (sc_X2_worth v today price))) 0 0 (fun _ => False) := by
  refine c_in (P := fun _ => False) (cc := cX2_worth) (maxL := 3) (ret := (some .int)) (lv := [(0, .ref (q 0)), (1, .int today), (2, .int price)]) (by decide) rfl (Nat.le_of_ble_eq_true rfl) rfl ?_
  intro p e s m below meth c ls S hr hlocks hin hsz hP hK hl hS
  subst hsz
  obtain ⟨hx, hb, hml, hown, hts⟩ := id S
  have hX2 : ∀ w ∈ wsX20, w ∈ wsX2_worth := by decide +kernel
  refine lv_aload_n hx hb dX2_worth_0 rfl (lv_at hl 0 rfl) ?_
  refine c_r1 (rest := []) (va_runU S (As := []) (cC_X10_hundredths_2 l D cs q v _) (va_cwU 0 hts gX2_worth_X10_hundredths_u15X2 rfl rfl rfl rfl (by decide +kernel) ⟨Nat.le_of_ble_eq_true rfl, Nat.le_of_ble_eq_true rfl⟩) (preV_c hK hP (va_recv hK.1 hP (ci := 2) (q0 := 0) rfl rfl)) rfl rfl hl.1 rfl (lv_room (Nat.le_of_ble_eq_true rfl)) dX2_worth_1 ⟨Nat.zero_le _, Nat.zero_le _⟩) (fun _ h => h) ?_
  refine lv_i2l (v := (sc_X10_hundredths_2 v).toInt64) hx hb dX2_worth_4 rfl ?_
  refine lv_aload_n hx hb dX2_worth_5 rfl (lv_at hl 0 rfl) ?_
  refine va_get (D := D) (ci := 2) (v := .int (v 2)) (C := RX2) (T := TX2) (N := 3) hx hb hts hX2 hown hK.1 hP 0 rfl rfl 2 (by decide) (hts (.fieldLink RX2 9 "PledgeHouse$Gold" "fineness" "I") (by decide +kernel)) (fun _ h9 => h9) rfl dX2_worth_6 ?_
  refine lv_i2l (v := (v 2).toInt64) hx hb dX2_worth_9 rfl ?_
  refine lv_lmul hx hb dX2_worth_10 ?_
  refine lv_iload_n hx hb dX2_worth_11 rfl (lv_at hl 2 rfl) ?_
  refine lv_i2l (v := price.toInt64) hx hb dX2_worth_12 rfl ?_
  refine lv_lmul hx hb dX2_worth_13 ?_
  refine lv_ldc2 (v := 1000000) hx hb hown (hts (.constantLong RX2 19 (1000000)) (by decide +kernel)) dX2_worth_14 ?_
  refine lv_ldiv hx hb dX2_worth_17 (by decide) ?_
  refine lv_l2i (v := (((((sc_X10_hundredths_2 v).toInt64) * ((v 2).toInt64)) * price.toInt64) / 1000000).toInt32) hx hb dX2_worth_18 rfl ?_
  have hsp : sc_X2_worth v today price = (((((sc_X10_hundredths_2 v).toInt64) * ((v 2).toInt64)) * price.toInt64) / 1000000).toInt32 := rfl
  exact W.iret hx hb hr (fun t2 ht2 hW => ⟨by rw [hsp], ht2⟩) (fun q hq => by cases hq) dX2_worth_19 hlocks
def sc_X4_holds (v : Nat → Int32) (item : Int32) : Int32 :=
  if item < 0 then
    0
  else
    if 6 ≤ item then
      0
    else
      if (v (tN item)) = 0 then
        0
      else
        1
set_option maxHeartbeats 4000000 in
set_option maxRecDepth 100000 in
theorem cC_X4_holds (l : Launch) (D : va_G) (cs : Nat → ClassId) (q : Nat → Nat) (v : Nat → Int32) (sz : Nat) (item : Int32) : Met l yX4_holds wsX4_holds ({ frames := 0, cells := 0, slots := 0, locals := 0 }) (cPc [.ref (q 0), .int item] D cs (w4 q cs v) sz) (k2_QcV (.int (sc_X4_holds v item))) 0 0 (fun _ => False) := by
  refine c_in (P := fun _ => False) (cc := cX4_holds) (maxL := 2) (ret := (some .boolean)) (lv := [(0, .ref (q 0)), (1, .int item)]) (by decide) rfl (Nat.le_of_ble_eq_true rfl) rfl ?_
  intro p e s m below meth c ls S hr hlocks hin hsz hP hK hl hS
  subst hsz
  obtain ⟨hx, hb, hml, hown, hts⟩ := id S
  have hX4 : ∀ w ∈ wsX40, w ∈ wsX4_holds := by decide +kernel
  refine lv_iload_n hx hb dX4_holds_0 rfl (lv_at hl 1 rfl) ?_
  refine lv_if_lt (tgt := 26) hx hb dX4_holds_1 (by decide) (fun c_1 => ?_) (fun c_1 => ?_)
  · refine lv_iconst (v := 0) hx hb dX4_holds_26 (by decide) ?_
    have hsp : sc_X4_holds v item = 0 := by unfold sc_X4_holds; rw [if_pos c_1]
    exact W.zret hx hb hr (by decide) (fun t2 ht2 hW => ⟨by rw [hsp], ht2⟩) (fun q hq => by cases hq) dX4_holds_27 hlocks
  · refine lv_iload_n hx hb dX4_holds_4 rfl (lv_at hl 1 rfl) ?_
    refine lv_aload_n hx hb dX4_holds_5 rfl (lv_at hl 0 rfl) ?_
    refine va_get (D := D) (ci := 4) (v := .ref (q 1)) (C := RX4) (T := TX4) (N := 2) hx hb hts hX4 hown hK.1 hP 0 rfl rfl 0 (by decide) (hts (.fieldLink RX4 9 "PledgeHouse$Lot" "values" "[I") (by decide +kernel)) (fun _ h9 => h9) rfl dX4_holds_6 ?_
    refine va_alen hx hb hK.1 hP 1 0 rfl rfl (v := 6) rfl dX4_holds_9 ?_
    refine lv_icmp_ge (tgt := 26) hx hb dX4_holds_10 (by decide) (fun c_2 => ?_) (fun c_2 => ?_)
    · refine lv_iconst (v := 0) hx hb dX4_holds_26 (by decide) ?_
      have hsp : sc_X4_holds v item = 0 := by unfold sc_X4_holds; rw [if_neg c_1, if_pos c_2]
      exact W.zret hx hb hr (by decide) (fun t2 ht2 hW => ⟨by rw [hsp], ht2⟩) (fun q hq => by cases hq) dX4_holds_27 hlocks
    · refine lv_aload_n hx hb dX4_holds_13 rfl (lv_at hl 0 rfl) ?_
      refine va_get (D := D) (ci := 4) (v := .ref (q 1)) (C := RX4) (T := TX4) (N := 2) hx hb hts hX4 hown hK.1 hP 0 rfl rfl 0 (by decide) (hts (.fieldLink RX4 9 "PledgeHouse$Lot" "values" "[I") (by decide +kernel)) (fun _ h9 => h9) rfl dX4_holds_14 ?_
      refine lv_iload_n hx hb dX4_holds_17 rfl (lv_at hl 1 rfl) ?_
      refine x_iald hx hb hK.1 hP 1 0 rfl rfl (tN item) (ix_lt (c := 6) rfl (by decide) c_1 c_2).1 (ix_lt (c := 6) rfl (by decide) c_1 c_2).2 (by decide) dX4_holds_18 ?_
      refine lv_if_eq (tgt := 26) hx hb dX4_holds_19 (by decide) (fun c_3 => ?_) (fun c_3 => ?_)
      · refine lv_iconst (v := 0) hx hb dX4_holds_26 (by decide) ?_
        have hsp : sc_X4_holds v item = 0 := by unfold sc_X4_holds; rw [if_neg c_1, if_neg c_2, if_pos c_3]
        exact W.zret hx hb hr (by decide) (fun t2 ht2 hW => ⟨by rw [hsp], ht2⟩) (fun q hq => by cases hq) dX4_holds_27 hlocks
      · refine lv_iconst (v := 1) hx hb dX4_holds_22 (by decide) ?_
        refine lv_goto (tgt := 27) hx hb dX4_holds_23 (by decide) ?_
        have hsp : sc_X4_holds v item = 1 := by unfold sc_X4_holds; rw [if_neg c_1, if_neg c_2, if_neg c_3]
        exact W.zret hx hb hr (by decide) (fun t2 ht2 hW => ⟨by rw [hsp], ht2⟩) (fun q hq => by cases hq) dX4_holds_27 hlocks
def sc_X4_worth (v : Nat → Int32) (today : Int32) (price : Int32) : Int32 := lotS v 6
def sc_X4_itemCount (v : Nat → Int32) : Int32 := lotN v 6
-- above
set_option maxHeartbeats 4000000 in
set_option maxRecDepth 100000 in
theorem cC_X4_worth (l : Launch) (D : va_G) (cs : Nat → ClassId) (q : Nat → Nat) (v : Nat → Int32) (sz : Nat) (today : Int32) (price : Int32) : Met l yX4_worth wsX4_worth ({ frames := 0, cells := 0, slots := 0, locals := 0 }) (cPc [.ref (q 0), .int today, .int price] D cs (w4 q cs v) sz) (k2_QcV (.int (sc_X4_worth v today price))) 0 0 (fun _ => False) := by
  refine c_in (P := fun _ => False) (cc := cX4_worth) (maxL := 5) (ret := (some .int)) (lv := [(0, .ref (q 0)), (1, .int today), (2, .int price)]) (by decide) rfl (Nat.le_of_ble_eq_true rfl) rfl ?_
  intro p e s m below meth c ls S hr hlocks hin hsz hP hK hl hS
  subst hsz
  obtain ⟨hx, hb, hml, hown, hts⟩ := id S
  have hX4 : ∀ w ∈ wsX40, w ∈ wsX4_worth := by decide +kernel
  have loop : ∀ (n i : Nat) (ls : Array Slot), i + n = 6 → lv_has ls 5 [(0, .ref (q 0)), (1, .int today), (2, .int price), (3, .int (lotS v i)), (4, .int (nI i))] → W p l e ({ frames := 0, cells := 0, slots := 0, locals := 0 }) s m [.ref (q 0), .int today, .int price].toArray below meth c s.heap [] 0 0 (MQ below (k2_QcV (.int (sc_X4_worth v today price))) [.ref (q 0), .int today, .int price].toArray s 0 0 (fun _ => False)) (F0 m 5 ls []) := by
    intro n
    induction n with
    | zero =>
      intro i ls hn hl
      obtain rfl : 6 = i := by omega
      refine lv_iload hx hb dX4_worth_5 (lv_at hl 4 rfl) ?_
      refine lv_aload_n hx hb dX4_worth_7 rfl (lv_at hl 0 rfl) ?_
      refine va_get (D := D) (ci := 4) (v := .ref (q 1)) (C := RX4) (T := TX4) (N := 2) hx hb hts hX4 hown hK.1 hP 0 rfl rfl 0 (by decide) (hts (.fieldLink RX4 9 "PledgeHouse$Lot" "values" "[I") (by decide +kernel)) (fun _ h9 => h9) rfl dX4_worth_8 ?_
      refine va_alen hx hb hK.1 hP 1 0 rfl rfl (v := 6) rfl dX4_worth_11 ?_
      refine lv_icmp_ge (tgt := 31) hx hb dX4_worth_12 (by decide) (fun c_1 => ?_) (fun c_1 => ?_)
      · refine lv_iload_n hx hb dX4_worth_31 rfl (lv_at hl 3 rfl) ?_
        have hsp : sc_X4_worth v today price = lotS v 6 := rfl
        exact W.iret hx hb hr (fun t2 ht2 hW => ⟨by rw [hsp], ht2⟩) (fun q hq => by cases hq) dX4_worth_32 hlocks
      · exact absurd (by decide) c_1
    | succ n ih =>
      intro i ls hn hl
      refine lv_iload hx hb dX4_worth_5 (lv_at hl 4 rfl) ?_
      refine lv_aload_n hx hb dX4_worth_7 rfl (lv_at hl 0 rfl) ?_
      refine va_get (D := D) (ci := 4) (v := .ref (q 1)) (C := RX4) (T := TX4) (N := 2) hx hb hts hX4 hown hK.1 hP 0 rfl rfl 0 (by decide) (hts (.fieldLink RX4 9 "PledgeHouse$Lot" "values" "[I") (by decide +kernel)) (fun _ h9 => h9) rfl dX4_worth_8 ?_
      refine va_alen hx hb hK.1 hP 1 0 rfl rfl (v := 6) rfl dX4_worth_11 ?_
      refine lv_icmp_ge (tgt := 31) hx hb dX4_worth_12 (by decide) (fun c_2 => ?_) (fun c_2 => ?_)
      · exact absurd ((nI_leI (a := 6) (b := i) (by omega) (by omega)).mp c_2) (by omega)
      · refine lv_iload_n hx hb dX4_worth_15 rfl (lv_at hl 3 rfl) ?_
        refine lv_aload_n hx hb dX4_worth_16 rfl (lv_at hl 0 rfl) ?_
        refine va_get (D := D) (ci := 4) (v := .ref (q 1)) (C := RX4) (T := TX4) (N := 2) hx hb hts hX4 hown hK.1 hP 0 rfl rfl 0 (by decide) (hts (.fieldLink RX4 9 "PledgeHouse$Lot" "values" "[I") (by decide +kernel)) (fun _ h9 => h9) rfl dX4_worth_17 ?_
        refine lv_iload hx hb dX4_worth_20 (lv_at hl 4 rfl) ?_
        refine x_iald hx hb hK.1 hP 1 0 rfl rfl i rfl (by omega) (by decide) dX4_worth_22 ?_
        refine lv_iadd hx hb dX4_worth_23 ?_
        refine lv_istore_n (lv' := [(3, .int ((lotS v i) + (v i))), (0, .ref (q 0)), (1, .int today), (2, .int price), (4, .int (nI i))]) hx hb dX4_worth_24 rfl hl (by decide) rfl (fun ls hl => ?_)
        refine lv_iinc (v := (nI i) + 1) (lv' := [(4, .int ((nI i) + 1)), (3, .int ((lotS v i) + (v i))), (0, .ref (q 0)), (1, .int today), (2, .int price)]) hx hb dX4_worth_25 hl (k := 4) rfl rfl (by decide) rfl (fun ls hl => ?_)
        refine lv_goto (tgt := 5) hx hb dX4_worth_28 (by decide) ?_
        rw [nI_1] at hl
        have e2 : lotS v (i + 1) = (lotS v i) + (v i) := by rw [lotS]
        exact ih (i + 1) ls (by omega) (by rw [e2]; exact lv_sub hl [2, 3, 4, 1, 0] rfl)
  refine lv_iconst (v := 0) hx hb dX4_worth_0 (by decide) ?_
  refine lv_istore_n (lv' := [(3, .int 0), (0, .ref (q 0)), (1, .int today), (2, .int price)]) hx hb dX4_worth_1 rfl hl (by decide) rfl (fun ls hl => ?_)
  refine lv_iconst (v := 0) hx hb dX4_worth_2 (by decide) ?_
  refine lv_istore (lv' := [(4, .int 0), (3, .int 0), (0, .ref (q 0)), (1, .int today), (2, .int price)]) hx hb dX4_worth_3 hl (by decide) rfl (fun ls hl => ?_)
  exact loop 6 0 ls (by omega) (lv_sub hl [2, 3, 4, 1, 0] rfl)
-- above
set_option maxHeartbeats 4000000 in
set_option maxRecDepth 100000 in
theorem cC_X4_itemCount (l : Launch) (D : va_G) (cs : Nat → ClassId) (q : Nat → Nat) (v : Nat → Int32) (sz : Nat) : Met l yX4_itemCount wsX4_itemCount ({ frames := 0, cells := 0, slots := 0, locals := 0 }) (cPc [.ref (q 0)] D cs (w4 q cs v) sz) (k2_QcV (.int (sc_X4_itemCount v))) 0 0 (fun _ => False) := by
  refine c_in (P := fun _ => False) (cc := cX4_itemCount) (maxL := 3) (ret := (some .int)) (lv := [(0, .ref (q 0))]) (by decide) rfl (Nat.le_of_ble_eq_true rfl) rfl ?_
  intro p e s m below meth c ls S hr hlocks hin hsz hP hK hl hS
  subst hsz
  obtain ⟨hx, hb, hml, hown, hts⟩ := id S
  have hX4 : ∀ w ∈ wsX40, w ∈ wsX4_itemCount := by decide +kernel
  have loop : ∀ (n i : Nat) (ls : Array Slot), i + n = 6 → lv_has ls 3 [(0, .ref (q 0)), (1, .int (lotN v i)), (2, .int (nI i))] → W p l e ({ frames := 0, cells := 0, slots := 0, locals := 0 }) s m [.ref (q 0)].toArray below meth c s.heap [] 0 0 (MQ below (k2_QcV (.int (sc_X4_itemCount v))) [.ref (q 0)].toArray s 0 0 (fun _ => False)) (F0 m 4 ls []) := by
    intro n
    induction n with
    | zero =>
      intro i ls hn hl
      obtain rfl : 6 = i := by omega
      refine lv_iload_n hx hb dX4_itemCount_4 rfl (lv_at hl 2 rfl) ?_
      refine lv_aload_n hx hb dX4_itemCount_5 rfl (lv_at hl 0 rfl) ?_
      refine va_get (D := D) (ci := 4) (v := .ref (q 1)) (C := RX4) (T := TX4) (N := 2) hx hb hts hX4 hown hK.1 hP 0 rfl rfl 0 (by decide) (hts (.fieldLink RX4 9 "PledgeHouse$Lot" "values" "[I") (by decide +kernel)) (fun _ h9 => h9) rfl dX4_itemCount_6 ?_
      refine va_alen hx hb hK.1 hP 1 0 rfl rfl (v := 6) rfl dX4_itemCount_9 ?_
      refine lv_icmp_ge (tgt := 31) hx hb dX4_itemCount_10 (by decide) (fun c_1 => ?_) (fun c_1 => ?_)
      · refine lv_iload_n hx hb dX4_itemCount_31 rfl (lv_at hl 1 rfl) ?_
        have hsp : sc_X4_itemCount v = lotN v 6 := rfl
        exact W.iret hx hb hr (fun t2 ht2 hW => ⟨by rw [hsp], ht2⟩) (fun q hq => by cases hq) dX4_itemCount_32 hlocks
      · exact absurd (by decide) c_1
    | succ n ih =>
      intro i ls hn hl
      refine lv_iload_n hx hb dX4_itemCount_4 rfl (lv_at hl 2 rfl) ?_
      refine lv_aload_n hx hb dX4_itemCount_5 rfl (lv_at hl 0 rfl) ?_
      refine va_get (D := D) (ci := 4) (v := .ref (q 1)) (C := RX4) (T := TX4) (N := 2) hx hb hts hX4 hown hK.1 hP 0 rfl rfl 0 (by decide) (hts (.fieldLink RX4 9 "PledgeHouse$Lot" "values" "[I") (by decide +kernel)) (fun _ h9 => h9) rfl dX4_itemCount_6 ?_
      refine va_alen hx hb hK.1 hP 1 0 rfl rfl (v := 6) rfl dX4_itemCount_9 ?_
      refine lv_icmp_ge (tgt := 31) hx hb dX4_itemCount_10 (by decide) (fun c_2 => ?_) (fun c_2 => ?_)
      · exact absurd ((nI_leI (a := 6) (b := i) (by omega) (by omega)).mp c_2) (by omega)
      · refine lv_aload_n hx hb dX4_itemCount_13 rfl (lv_at hl 0 rfl) ?_
        refine va_get (D := D) (ci := 4) (v := .ref (q 1)) (C := RX4) (T := TX4) (N := 2) hx hb hts hX4 hown hK.1 hP 0 rfl rfl 0 (by decide) (hts (.fieldLink RX4 9 "PledgeHouse$Lot" "values" "[I") (by decide +kernel)) (fun _ h9 => h9) rfl dX4_itemCount_14 ?_
        refine lv_iload_n hx hb dX4_itemCount_17 rfl (lv_at hl 2 rfl) ?_
        refine x_iald hx hb hK.1 hP 1 0 rfl rfl i rfl (by omega) (by decide) dX4_itemCount_18 ?_
        refine lv_if_eq (tgt := 25) hx hb dX4_itemCount_19 (by decide) (fun c_3 => ?_) (fun c_3 => ?_)
        · refine lv_iinc (v := (nI i) + 1) (lv' := [(2, .int ((nI i) + 1)), (0, .ref (q 0)), (1, .int (lotN v i))]) hx hb dX4_itemCount_25 hl (k := 2) rfl rfl (by decide) rfl (fun ls hl => ?_)
          refine lv_goto (tgt := 4) hx hb dX4_itemCount_28 (by decide) ?_
          rw [nI_1] at hl
          have e2 : lotN v (i + 1) = lotN v i := by rw [lotN, if_pos c_3]
          exact ih (i + 1) ls (by omega) (by rw [e2]; exact lv_sub hl [1, 2, 0] rfl)
        · refine lv_iinc (v := (lotN v i) + 1) (lv' := [(1, .int ((lotN v i) + 1)), (0, .ref (q 0)), (2, .int (nI i))]) hx hb dX4_itemCount_22 hl (k := 1) rfl rfl (by decide) rfl (fun ls hl => ?_)
          refine lv_iinc (v := (nI i) + 1) (lv' := [(2, .int ((nI i) + 1)), (1, .int ((lotN v i) + 1)), (0, .ref (q 0))]) hx hb dX4_itemCount_25 hl (k := 2) rfl rfl (by decide) rfl (fun ls hl => ?_)
          refine lv_goto (tgt := 4) hx hb dX4_itemCount_28 (by decide) ?_
          rw [nI_1] at hl
          have e2 : lotN v (i + 1) = (lotN v i) + 1 := by rw [lotN, if_neg c_3]
          exact ih (i + 1) ls (by omega) (by rw [e2]; exact lv_sub hl [2, 1, 0] rfl)
  refine lv_iconst (v := 0) hx hb dX4_itemCount_0 (by decide) ?_
  refine lv_istore_n (lv' := [(1, .int 0), (0, .ref (q 0))]) hx hb dX4_itemCount_1 rfl hl (by decide) rfl (fun ls hl => ?_)
  refine lv_iconst (v := 0) hx hb dX4_itemCount_2 (by decide) ?_
  refine lv_istore_n (lv' := [(2, .int 0), (1, .int 0), (0, .ref (q 0))]) hx hb dX4_itemCount_3 rfl hl (by decide) rfl (fun ls hl => ?_)
  exact loop 6 0 ls (by omega) (lv_sub hl [2, 1, 0] rfl)
