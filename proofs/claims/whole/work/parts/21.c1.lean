/-! the class: numbers, terms, tickets (by cwalk.py) -/
def sc_X11_cutUp (coins : Int32) (th : Int32) : Int32 :=
  (((coins.toInt64 * th.toInt64) + 999) / 1000).toInt32
set_option maxHeartbeats 4000000 in
set_option maxRecDepth 100000 in
theorem cC_X11_cutUp (l : Launch) (coins : Int32) (th : Int32) : Met l yX11_cutUp wsX11_cutUp ({ frames := 0, cells := 0, slots := 0, locals := 0 }) (fun v9 _ => v9 = [.int coins, .int th].toArray) (k2_QcV (.int (sc_X11_cutUp coins th))) 0 0 (fun _ => False) := by
  refine s_in (cc := cX11_cutUp) (maxL := 2) (ret := (some .int)) (lv := [(0, .int coins), (1, .int th)]) (by decide) rfl (Nat.le_of_ble_eq_true rfl) rfl ?_
  intro p e s m below meth c ls S hr hlocks hl
  obtain ⟨hx, hb, hml, hown, hts⟩ := id S
  refine lv_iload_n hx hb dX11_cutUp_0 rfl (lv_at hl 0 rfl) ?_
  refine lv_i2l (v := coins.toInt64) hx hb dX11_cutUp_1 rfl ?_
  refine lv_iload_n hx hb dX11_cutUp_2 rfl (lv_at hl 1 rfl) ?_
  refine lv_i2l (v := th.toInt64) hx hb dX11_cutUp_3 rfl ?_
  refine lv_lmul hx hb dX11_cutUp_4 ?_
  refine lv_ldc2 (v := 999) hx hb hown (hts (.constantLong RX11 146 (999)) (by decide +kernel)) dX11_cutUp_5 ?_
  refine lv_ladd hx hb dX11_cutUp_8 ?_
  refine lv_ldc2 (v := 1000) hx hb hown (hts (.constantLong RX11 148 (1000)) (by decide +kernel)) dX11_cutUp_9 ?_
  refine lv_ldiv hx hb dX11_cutUp_12 (by decide) ?_
  refine lv_l2i (v := (((coins.toInt64 * th.toInt64) + 999) / 1000).toInt32) hx hb dX11_cutUp_13 rfl ?_
  have hsp : sc_X11_cutUp coins th = (((coins.toInt64 * th.toInt64) + 999) / 1000).toInt32 := rfl
  exact W.iret hx hb hr (fun t2 ht2 hW => ⟨by rw [hsp], ht2⟩) (fun q hq => by cases hq) dX11_cutUp_14 hlocks
def sc_X7_begunUpTo (start : Int64) (day : Int64) : Int32 :=
  if start ≤ day then
    (((day - start) / 30).toInt32) + 1
  else
    0
set_option maxHeartbeats 4000000 in
set_option maxRecDepth 100000 in
theorem cC_X7_begunUpTo (l : Launch) (start : Int64) (day : Int64) : Met l yX7_begunUpTo wsX7_begunUpTo ({ frames := 0, cells := 0, slots := 0, locals := 0 }) (fun v9 _ => v9 = [.long start, .long day].toArray) (k2_QcV (.int (sc_X7_begunUpTo start day))) 0 0 (fun _ => False) := by
  refine s_in (cc := cX7_begunUpTo) (maxL := 4) (ret := (some .int)) (lv := [(0, .long start), (2, .long day)]) (by decide) rfl (Nat.le_of_ble_eq_true rfl) rfl ?_
  intro p e s m below meth c ls S hr hlocks hl
  obtain ⟨hx, hb, hml, hown, hts⟩ := id S
  refine lv_lload_n hx hb dX7_begunUpTo_0 rfl (lv_at hl 1 rfl) ?_
  refine lv_lload_n hx hb dX7_begunUpTo_1 rfl (lv_at hl 0 rfl) ?_
  refine W.lcmp hx hb dX7_begunUpTo_2 ?_
  refine lv_if_ge (tgt := 10) hx hb dX7_begunUpTo_3 (by decide) (fun c_1 => ?_) (fun c_1 => ?_)
  · have c_1 := (lg_cmp_ge _ _).mp c_1
    refine lv_lload_n hx hb dX7_begunUpTo_10 rfl (lv_at hl 1 rfl) ?_
    refine lv_lload_n hx hb dX7_begunUpTo_11 rfl (lv_at hl 0 rfl) ?_
    refine lv_lsub hx hb dX7_begunUpTo_12 ?_
    refine lv_ldc2 (v := 30) hx hb hown (hts (.constantLong RX7 9 (30)) (by decide +kernel)) dX7_begunUpTo_13 ?_
    refine lv_ldiv hx hb dX7_begunUpTo_16 (by decide) ?_
    refine lv_l2i (v := ((day - start) / 30).toInt32) hx hb dX7_begunUpTo_17 rfl ?_
    refine lv_iconst (v := 1) hx hb dX7_begunUpTo_18 (by decide) ?_
    refine lv_iadd hx hb dX7_begunUpTo_19 ?_
    have hsp : sc_X7_begunUpTo start day = (((day - start) / 30).toInt32) + 1 := by unfold sc_X7_begunUpTo; rw [if_pos c_1]
    exact W.iret hx hb hr (fun t2 ht2 hW => ⟨by rw [hsp], ht2⟩) (fun q hq => by cases hq) dX7_begunUpTo_20 hlocks
  · have c_1 : ¬ start ≤ day := fun h => c_1 ((lg_cmp_ge _ _).mpr h)
    refine lv_iconst (v := 0) hx hb dX7_begunUpTo_6 (by decide) ?_
    refine lv_goto (tgt := 20) hx hb dX7_begunUpTo_7 (by decide) ?_
    have hsp : sc_X7_begunUpTo start day = 0 := by unfold sc_X7_begunUpTo; rw [if_neg c_1]
    exact W.iret hx hb hr (fun t2 ht2 hW => ⟨by rw [hsp], ht2⟩) (fun q hq => by cases hq) dX7_begunUpTo_20 hlocks
def sc_X3_isPlace (place : Int32) : Int32 :=
  if place < 0 then
    0
  else
    if 40 ≤ place then
      0
    else
      1
set_option maxHeartbeats 4000000 in
set_option maxRecDepth 100000 in
theorem cC_X3_isPlace (l : Launch) (place : Int32) : Met l yX3_isPlace wsX3_isPlace ({ frames := 0, cells := 0, slots := 0, locals := 0 }) (fun v9 _ => v9 = [.int place].toArray) (k2_QcV (.int (sc_X3_isPlace place))) 0 0 (fun _ => False) := by
  refine s_in (cc := cX3_isPlace) (maxL := 1) (ret := (some .boolean)) (lv := [(0, .int place)]) (by decide) rfl (Nat.le_of_ble_eq_true rfl) rfl ?_
  intro p e s m below meth c ls S hr hlocks hl
  obtain ⟨hx, hb, hml, hown, hts⟩ := id S
  refine lv_iload_n hx hb dX3_isPlace_0 rfl (lv_at hl 0 rfl) ?_
  refine lv_if_lt (tgt := 14) hx hb dX3_isPlace_1 (by decide) (fun c_1 => ?_) (fun c_1 => ?_)
  · refine lv_iconst (v := 0) hx hb dX3_isPlace_14 (by decide) ?_
    have hsp : sc_X3_isPlace place = 0 := by unfold sc_X3_isPlace; rw [if_pos c_1]
    exact W.zret hx hb hr (by decide) (fun t2 ht2 hW => ⟨by rw [hsp], ht2⟩) (fun q hq => by cases hq) dX3_isPlace_15 hlocks
  · refine lv_iload_n hx hb dX3_isPlace_4 rfl (lv_at hl 0 rfl) ?_
    refine lv_bipush (v := 40) hx hb dX3_isPlace_5 (by decide) ?_
    refine lv_icmp_ge (tgt := 14) hx hb dX3_isPlace_7 (by decide) (fun c_2 => ?_) (fun c_2 => ?_)
    · refine lv_iconst (v := 0) hx hb dX3_isPlace_14 (by decide) ?_
      have hsp : sc_X3_isPlace place = 0 := by unfold sc_X3_isPlace; rw [if_neg c_1, if_pos c_2]
      exact W.zret hx hb hr (by decide) (fun t2 ht2 hW => ⟨by rw [hsp], ht2⟩) (fun q hq => by cases hq) dX3_isPlace_15 hlocks
    · refine lv_iconst (v := 1) hx hb dX3_isPlace_10 (by decide) ?_
      refine lv_goto (tgt := 15) hx hb dX3_isPlace_11 (by decide) ?_
      have hsp : sc_X3_isPlace place = 1 := by unfold sc_X3_isPlace; rw [if_neg c_1, if_neg c_2]
      exact W.zret hx hb hr (by decide) (fun t2 ht2 hW => ⟨by rw [hsp], ht2⟩) (fun q hq => by cases hq) dX3_isPlace_15 hlocks
def sc_X3_isValue (value : Int32) : Int32 :=
  if value < 1 then
    0
  else
    if 1000000 < value then
      0
    else
      1
set_option maxHeartbeats 4000000 in
set_option maxRecDepth 100000 in
theorem cC_X3_isValue (l : Launch) (value : Int32) : Met l yX3_isValue wsX3_isValue ({ frames := 0, cells := 0, slots := 0, locals := 0 }) (fun v9 _ => v9 = [.int value].toArray) (k2_QcV (.int (sc_X3_isValue value))) 0 0 (fun _ => False) := by
  refine s_in (cc := cX3_isValue) (maxL := 1) (ret := (some .boolean)) (lv := [(0, .int value)]) (by decide) rfl (Nat.le_of_ble_eq_true rfl) rfl ?_
  intro p e s m below meth c ls S hr hlocks hl
  obtain ⟨hx, hb, hml, hown, hts⟩ := id S
  refine lv_iload_n hx hb dX3_isValue_0 rfl (lv_at hl 0 rfl) ?_
  refine lv_iconst (v := 1) hx hb dX3_isValue_1 (by decide) ?_
  refine lv_icmp_lt (tgt := 15) hx hb dX3_isValue_2 (by decide) (fun c_1 => ?_) (fun c_1 => ?_)
  · refine lv_iconst (v := 0) hx hb dX3_isValue_15 (by decide) ?_
    have hsp : sc_X3_isValue value = 0 := by unfold sc_X3_isValue; rw [if_pos c_1]
    exact W.zret hx hb hr (by decide) (fun t2 ht2 hW => ⟨by rw [hsp], ht2⟩) (fun q hq => by cases hq) dX3_isValue_16 hlocks
  · refine lv_iload_n hx hb dX3_isValue_5 rfl (lv_at hl 0 rfl) ?_
    refine lv_ldc (v := 1000000) hx hb hown (hts (.constant RX3 96 (1000000)) (by decide +kernel)) dX3_isValue_6 ?_
    refine lv_icmp_gt (tgt := 15) hx hb dX3_isValue_8 (by decide) (fun c_2 => ?_) (fun c_2 => ?_)
    · refine lv_iconst (v := 0) hx hb dX3_isValue_15 (by decide) ?_
      have hsp : sc_X3_isValue value = 0 := by unfold sc_X3_isValue; rw [if_neg c_1, if_pos c_2]
      exact W.zret hx hb hr (by decide) (fun t2 ht2 hW => ⟨by rw [hsp], ht2⟩) (fun q hq => by cases hq) dX3_isValue_16 hlocks
    · refine lv_iconst (v := 1) hx hb dX3_isValue_11 (by decide) ?_
      refine lv_goto (tgt := 16) hx hb dX3_isValue_12 (by decide) ?_
      have hsp : sc_X3_isValue value = 1 := by unfold sc_X3_isValue; rw [if_neg c_1, if_neg c_2]
      exact W.zret hx hb hr (by decide) (fun t2 ht2 hW => ⟨by rw [hsp], ht2⟩) (fun q hq => by cases hq) dX3_isValue_16 hlocks
def sc_X3_isTerm (months : Int32) : Int32 :=
  if months < 1 then
    0
  else
    if 12 < months then
      0
    else
      1
set_option maxHeartbeats 4000000 in
set_option maxRecDepth 100000 in
theorem cC_X3_isTerm (l : Launch) (months : Int32) : Met l yX3_isTerm wsX3_isTerm ({ frames := 0, cells := 0, slots := 0, locals := 0 }) (fun v9 _ => v9 = [.int months].toArray) (k2_QcV (.int (sc_X3_isTerm months))) 0 0 (fun _ => False) := by
  refine s_in (cc := cX3_isTerm) (maxL := 1) (ret := (some .boolean)) (lv := [(0, .int months)]) (by decide) rfl (Nat.le_of_ble_eq_true rfl) rfl ?_
  intro p e s m below meth c ls S hr hlocks hl
  obtain ⟨hx, hb, hml, hown, hts⟩ := id S
  refine lv_iload_n hx hb dX3_isTerm_0 rfl (lv_at hl 0 rfl) ?_
  refine lv_iconst (v := 1) hx hb dX3_isTerm_1 (by decide) ?_
  refine lv_icmp_lt (tgt := 15) hx hb dX3_isTerm_2 (by decide) (fun c_1 => ?_) (fun c_1 => ?_)
  · refine lv_iconst (v := 0) hx hb dX3_isTerm_15 (by decide) ?_
    have hsp : sc_X3_isTerm months = 0 := by unfold sc_X3_isTerm; rw [if_pos c_1]
    exact W.zret hx hb hr (by decide) (fun t2 ht2 hW => ⟨by rw [hsp], ht2⟩) (fun q hq => by cases hq) dX3_isTerm_16 hlocks
  · refine lv_iload_n hx hb dX3_isTerm_5 rfl (lv_at hl 0 rfl) ?_
    refine lv_bipush (v := 12) hx hb dX3_isTerm_6 (by decide) ?_
    refine lv_icmp_gt (tgt := 15) hx hb dX3_isTerm_8 (by decide) (fun c_2 => ?_) (fun c_2 => ?_)
    · refine lv_iconst (v := 0) hx hb dX3_isTerm_15 (by decide) ?_
      have hsp : sc_X3_isTerm months = 0 := by unfold sc_X3_isTerm; rw [if_neg c_1, if_pos c_2]
      exact W.zret hx hb hr (by decide) (fun t2 ht2 hW => ⟨by rw [hsp], ht2⟩) (fun q hq => by cases hq) dX3_isTerm_16 hlocks
    · refine lv_iconst (v := 1) hx hb dX3_isTerm_11 (by decide) ?_
      refine lv_goto (tgt := 16) hx hb dX3_isTerm_12 (by decide) ?_
      have hsp : sc_X3_isTerm months = 1 := by unfold sc_X3_isTerm; rw [if_neg c_1, if_neg c_2]
      exact W.zret hx hb hr (by decide) (fun t2 ht2 hW => ⟨by rw [hsp], ht2⟩) (fun q hq => by cases hq) dX3_isTerm_16 hlocks
def sc_X10_isWeight (w : UInt32) : Int32 :=
  if (Op.cmpValue (FP.fcmp w FP.fconst0) .l) < 0 then
    0
  else
    if 0 < (Op.cmpValue (FP.fcmp w 1176256512) .g) then
      0
    else
      1
set_option maxHeartbeats 4000000 in
set_option maxRecDepth 100000 in
theorem cC_X10_isWeight (l : Launch) (w : UInt32) : Met l yX10_isWeight wsX10_isWeight ({ frames := 0, cells := 0, slots := 0, locals := 0 }) (fun v9 _ => v9 = [.float w].toArray) (k2_QcV (.int (sc_X10_isWeight w))) 0 0 (fun _ => False) := by
  refine s_in (cc := cX10_isWeight) (maxL := 1) (ret := (some .boolean)) (lv := [(0, .float w)]) (by decide) rfl (Nat.le_of_ble_eq_true rfl) rfl ?_
  intro p e s m below meth c ls S hr hlocks hl
  obtain ⟨hx, hb, hml, hown, hts⟩ := id S
  refine lv_fload_n hx hb dX10_isWeight_0 rfl (lv_at hl 0 rfl) ?_
  refine lv_fconst0 hx hb dX10_isWeight_1 ?_
  refine lv_fcmp hx hb dX10_isWeight_2 ?_
  refine lv_if_lt (tgt := 17) hx hb dX10_isWeight_3 (by decide) (fun c_1 => ?_) (fun c_1 => ?_)
  · refine lv_iconst (v := 0) hx hb dX10_isWeight_17 (by decide) ?_
    have hsp : sc_X10_isWeight w = 0 := by unfold sc_X10_isWeight; rw [if_pos c_1]
    exact W.zret hx hb hr (by decide) (fun t2 ht2 hW => ⟨by rw [hsp], ht2⟩) (fun q hq => by cases hq) dX10_isWeight_18 hlocks
  · refine lv_fload_n hx hb dX10_isWeight_6 rfl (lv_at hl 0 rfl) ?_
    refine lv_ldcf (v := 1176256512) hx hb hown (hts (.constantFloat RX10 18 (1176256512)) (by decide +kernel)) dX10_isWeight_7 ?_
    refine lv_fcmp hx hb dX10_isWeight_9 ?_
    refine lv_if_gt (tgt := 17) hx hb dX10_isWeight_10 (by decide) (fun c_2 => ?_) (fun c_2 => ?_)
    · refine lv_iconst (v := 0) hx hb dX10_isWeight_17 (by decide) ?_
      have hsp : sc_X10_isWeight w = 0 := by unfold sc_X10_isWeight; rw [if_neg c_1, if_pos c_2]
      exact W.zret hx hb hr (by decide) (fun t2 ht2 hW => ⟨by rw [hsp], ht2⟩) (fun q hq => by cases hq) dX10_isWeight_18 hlocks
    · refine lv_iconst (v := 1) hx hb dX10_isWeight_13 (by decide) ?_
      refine lv_goto (tgt := 18) hx hb dX10_isWeight_14 (by decide) ?_
      have hsp : sc_X10_isWeight w = 1 := by unfold sc_X10_isWeight; rw [if_neg c_1, if_neg c_2]
      exact W.zret hx hb hr (by decide) (fun t2 ht2 hW => ⟨by rw [hsp], ht2⟩) (fun q hq => by cases hq) dX10_isWeight_18 hlocks
def sc_X7_lastDay (nm : Int32) (v : Nat → Int32) : Int32 :=
  (v 4) + (30 * (v 5))
set_option maxHeartbeats 4000000 in
set_option maxRecDepth 100000 in
theorem cC_X7_lastDay (l : Launch) (D : va_G) (cs : Nat → ClassId) (b : Nat → Nat) (nm : Int32) (v : Nat → Int32) (sz : Nat) : Met l yX7_lastDay wsX7_lastDay ({ frames := 0, cells := 0, slots := 0, locals := 0 }) (cPc [.ref (b 1)] D cs (wT b nm v) sz) (k2_QcV (.int (sc_X7_lastDay nm v))) 0 0 (fun _ => False) := by
  refine c_in (P := pT b) (cc := cX7_lastDay) (maxL := 1) (ret := (some .int)) (lv := [(0, .ref (b 1))]) (by decide) rfl (Nat.le_of_ble_eq_true rfl) rfl ?_
  intro p e s m below meth c ls S hr hlocks hin hsz hP hK hl hS
  subst hsz
  obtain ⟨hx, hb, hml, hown, hts⟩ := id S
  have hX7 : ∀ w ∈ wsX70, w ∈ wsX7_lastDay := by decide +kernel
  refine lv_aload_n hx hb dX7_lastDay_0 rfl (lv_at hl 0 rfl) ?_
  refine va_get (D := D) (ci := 6) (v := .int (v 4)) (C := RX7) (T := TX7) (N := 6) hx hb hts hX7 hown hK.1 hP 1 rfl rfl 0 (by decide) (hts (.fieldLink RX7 11 "PledgeHouse$Term" "start" "I") (by decide +kernel)) (fun _ h9 => h9) rfl dX7_lastDay_1 ?_
  refine lv_bipush (v := 30) hx hb dX7_lastDay_4 (by decide) ?_
  refine lv_aload_n hx hb dX7_lastDay_6 rfl (lv_at hl 0 rfl) ?_
  refine va_get (D := D) (ci := 6) (v := .int (v 5)) (C := RX7) (T := TX7) (N := 6) hx hb hts hX7 hown hK.1 hP 1 rfl rfl 1 (by decide) (hts (.fieldLink RX7 15 "PledgeHouse$Term" "months" "I") (by decide +kernel)) (fun _ h9 => h9) rfl dX7_lastDay_7 ?_
  refine lv_imul hx hb dX7_lastDay_10 ?_
  refine lv_iadd hx hb dX7_lastDay_11 ?_
  have hsp : sc_X7_lastDay nm v = (v 4) + (30 * (v 5)) := rfl
  exact W.iret hx hb hr (fun t2 ht2 hW => ⟨by rw [hsp], ht2⟩) (fun q hq => by cases hq) dX7_lastDay_12 hlocks
def sc_X7_nextBeginning (nm : Int32) (v : Nat → Int32) : Int32 :=
  (v 4) + (30 * (v 3))
set_option maxHeartbeats 4000000 in
set_option maxRecDepth 100000 in
theorem cC_X7_nextBeginning (l : Launch) (D : va_G) (cs : Nat → ClassId) (b : Nat → Nat) (nm : Int32) (v : Nat → Int32) (sz : Nat) : Met l yX7_nextBeginning wsX7_nextBeginning ({ frames := 0, cells := 0, slots := 0, locals := 0 }) (cPc [.ref (b 1)] D cs (wT b nm v) sz) (k2_QcV (.int (sc_X7_nextBeginning nm v))) 0 0 (fun _ => False) := by
  refine c_in (P := pT b) (cc := cX7_nextBeginning) (maxL := 1) (ret := (some .int)) (lv := [(0, .ref (b 1))]) (by decide) rfl (Nat.le_of_ble_eq_true rfl) rfl ?_
  intro p e s m below meth c ls S hr hlocks hin hsz hP hK hl hS
  subst hsz
  obtain ⟨hx, hb, hml, hown, hts⟩ := id S
  have hX7 : ∀ w ∈ wsX70, w ∈ wsX7_nextBeginning := by decide +kernel
  refine lv_aload_n hx hb dX7_nextBeginning_0 rfl (lv_at hl 0 rfl) ?_
  refine va_get (D := D) (ci := 6) (v := .int (v 4)) (C := RX7) (T := TX7) (N := 6) hx hb hts hX7 hown hK.1 hP 1 rfl rfl 0 (by decide) (hts (.fieldLink RX7 11 "PledgeHouse$Term" "start" "I") (by decide +kernel)) (fun _ h9 => h9) rfl dX7_nextBeginning_1 ?_
  refine lv_bipush (v := 30) hx hb dX7_nextBeginning_4 (by decide) ?_
  refine lv_aload_n hx hb dX7_nextBeginning_6 rfl (lv_at hl 0 rfl) ?_
  refine va_get (D := D) (ci := 6) (v := .int (v 3)) (C := RX7) (T := TX7) (N := 6) hx hb hts hX7 hown hK.1 hP 1 rfl rfl 3 (by decide) (hts (.fieldLink RX7 21 "PledgeHouse$Term" "begun" "I") (by decide +kernel)) (fun _ h9 => h9) rfl dX7_nextBeginning_7 ?_
  refine lv_imul hx hb dX7_nextBeginning_10 ?_
  refine lv_iadd hx hb dX7_nextBeginning_11 ?_
  have hsp : sc_X7_nextBeginning nm v = (v 4) + (30 * (v 3)) := rfl
  exact W.iret hx hb hr (fun t2 ht2 hW => ⟨by rw [hsp], ht2⟩) (fun q hq => by cases hq) dX7_nextBeginning_12 hlocks
def sc_X7_growth (nm : Int32) (v : Nat → Int32) (principal : Int32) : Int32 :=
  sc_X11_cutUp principal (v 6)
set_option maxHeartbeats 4000000 in
set_option maxRecDepth 100000 in
theorem cC_X7_growth (l : Launch) (D : va_G) (cs : Nat → ClassId) (b : Nat → Nat) (nm : Int32) (v : Nat → Int32) (sz : Nat) (principal : Int32) : Met l yX7_growth wsX7_growth ({ frames := 1, cells := 0, slots := 0, locals := 21 }) (cPc [.ref (b 1), .int principal] D cs (wT b nm v) sz) (k2_QcV (.int (sc_X7_growth nm v principal))) 0 0 (fun _ => False) := by
  refine c_in (P := pT b) (cc := cX7_growth) (maxL := 2) (ret := (some .int)) (lv := [(0, .ref (b 1)), (1, .int principal)]) (by decide) rfl (Nat.le_of_ble_eq_true rfl) rfl ?_
  intro p e s m below meth c ls S hr hlocks hin hsz hP hK hl hS
  subst hsz
  obtain ⟨hx, hb, hml, hown, hts⟩ := id S
  have hX7 : ∀ w ∈ wsX70, w ∈ wsX7_growth := by decide +kernel
  refine lv_iload_n hx hb dX7_growth_0 rfl (lv_at hl 1 rfl) ?_
  refine lv_aload_n hx hb dX7_growth_1 rfl (lv_at hl 0 rfl) ?_
  refine va_get (D := D) (ci := 6) (v := .int (v 6)) (C := RX7) (T := TX7) (N := 6) hx hb hts hX7 hown hK.1 hP 1 rfl rfl 2 (by decide) (hts (.fieldLink RX7 18 "PledgeHouse$Term" "rate" "I") (by decide +kernel)) (fun _ h9 => h9) rfl dX7_growth_2 ?_
  refine c_stN S (As := [.int principal, .int (v 6)]) (rest := []) (cC_X11_cutUp l principal (v 6)) ⟨va_cnB (host := "PledgeHouse") 2 hts gX7_growth_X11_cutUp_n30 rfl rfl rfl (hK.2.2.1 _ (by decide +kernel)) (hts (.initialized RX11) (by decide +kernel)) (by decide +kernel) ⟨Nat.le_of_ble_eq_true rfl, Nat.le_of_ble_eq_true rfl⟩, hts (.static yX11_cutUp) (by decide +kernel), trivial⟩ rfl hl.1 rfl (Nat.le_of_ble_eq_true rfl) dX7_growth_5 ⟨Nat.zero_le _, Nat.zero_le _⟩ ?_
  have hsp : sc_X7_growth nm v principal = sc_X11_cutUp principal (v 6) := rfl
  exact W.iret hx hb hr (fun t2 ht2 hW => ⟨by rw [hsp], ht2⟩) (fun q hq => by cases hq) dX7_growth_8 hlocks
def sc_X7_daysOfClaim (nm : Int32) (v : Nat → Int32) (claimed : Int32) (dropped : Int32) : Int32 :=
  if 0 < (dropped - (if claimed < (sc_X7_lastDay nm v) then (sc_X7_lastDay nm v) else claimed)) then (dropped - (if claimed < (sc_X7_lastDay nm v) then (sc_X7_lastDay nm v) else claimed)) else 0
set_option maxHeartbeats 4000000 in
set_option maxRecDepth 100000 in
theorem cC_X7_daysOfClaim (l : Launch) (D : va_G) (cs : Nat → ClassId) (b : Nat → Nat) (nm : Int32) (v : Nat → Int32) (sz : Nat) (claimed : Int32) (dropped : Int32) : Met l yX7_daysOfClaim wsX7_daysOfClaim ({ frames := 1, cells := 0, slots := 0, locals := 21 }) (cPc [.ref (b 1), .int claimed, .int dropped] D cs (wT b nm v) sz) (k2_QcV (.int (sc_X7_daysOfClaim nm v claimed dropped))) 0 0 (fun _ => False) := by
  refine c_in (P := pT b) (cc := cX7_daysOfClaim) (maxL := 3) (ret := (some .int)) (lv := [(0, .ref (b 1)), (1, .int claimed), (2, .int dropped)]) (by decide) rfl (Nat.le_of_ble_eq_true rfl) rfl ?_
  intro p e s m below meth c ls S hr hlocks hin hsz hP hK hl hS
  subst hsz
  obtain ⟨hx, hb, hml, hown, hts⟩ := id S
  refine lv_iconst (v := 0) hx hb dX7_daysOfClaim_0 (by decide) ?_
  refine lv_iload_n hx hb dX7_daysOfClaim_1 rfl (lv_at hl 2 rfl) ?_
  refine lv_iload_n hx hb dX7_daysOfClaim_2 rfl (lv_at hl 1 rfl) ?_
  refine lv_aload_n hx hb dX7_daysOfClaim_3 rfl (lv_at hl 0 rfl) ?_
  refine c_rd S hK (hP) (va_recv hK.1 hP (ci := 6) (q0 := 1) rfl rfl) (As := []) (rest := [.int claimed, .int dropped, .int 0]) (cC_X7_lastDay l D cs b nm v _   ) (cwV 0 hts gX7_daysOfClaim_X7_lastDay rfl rfl rfl (by decide +kernel) ⟨Nat.le_of_ble_eq_true rfl, Nat.le_of_ble_eq_true rfl⟩) rfl hl.1 rfl (Nat.le_of_ble_eq_true rfl) dX7_daysOfClaim_4 ⟨Nat.zero_le _, Nat.zero_le _⟩ ?_
  refine va_mmax hx hb (hml.trans hl.1.symm) hown (hts (.methodLink RX7 48 Lib.Math.max.name) (by decide +kernel)) (hts (.static Lib.Math.max.name) (by decide +kernel)) (hts (.initialized "java/lang/Math") (by decide +kernel)) (hts (.code Lib.Math.max.name Lib.Math.max.code 2 (some .int)) (by decide +kernel)) (Nat.le_of_ble_eq_true rfl) (Nat.le_of_ble_eq_true rfl) (Nat.zero_le _) (Nat.zero_le _) dX7_daysOfClaim_7 ?_
  refine lv_isub hx hb dX7_daysOfClaim_10 ?_
  refine va_mmax hx hb (hml.trans hl.1.symm) hown (hts (.methodLink RX7 48 Lib.Math.max.name) (by decide +kernel)) (hts (.static Lib.Math.max.name) (by decide +kernel)) (hts (.initialized "java/lang/Math") (by decide +kernel)) (hts (.code Lib.Math.max.name Lib.Math.max.code 2 (some .int)) (by decide +kernel)) (Nat.le_of_ble_eq_true rfl) (Nat.le_of_ble_eq_true rfl) (Nat.zero_le _) (Nat.zero_le _) dX7_daysOfClaim_11 ?_
  have hsp : sc_X7_daysOfClaim nm v claimed dropped = if 0 < (dropped - (if claimed < (sc_X7_lastDay nm v) then (sc_X7_lastDay nm v) else claimed)) then (dropped - (if claimed < (sc_X7_lastDay nm v) then (sc_X7_lastDay nm v) else claimed)) else 0 := rfl
  exact W.iret hx hb hr (fun t2 ht2 hW => ⟨by rw [hsp], ht2⟩) (fun q hq => by cases hq) dX7_daysOfClaim_14 hlocks
def sc_X7_reachDay (nm : Int32) (v : Nat → Int32) (day : Int32) (principal : Int32) : (Nat → Int32) :=
  upd (upd v 2 ((v 2) + (((sc_X7_begunUpTo ((v 4).toInt64) day.toInt64) - (v 3)) * (sc_X7_growth nm v principal)))) 3 (sc_X7_begunUpTo ((v 4).toInt64) day.toInt64)
set_option maxHeartbeats 4000000 in
set_option maxRecDepth 100000 in
theorem cC_X7_reachDay (l : Launch) (D : va_G) (cs : Nat → ClassId) (b : Nat → Nat) (nm : Int32) (v : Nat → Int32) (sz : Nat) (ib : iT b) (day : Int32) (principal : Int32) : Met l yX7_reachDay wsX7_reachDay ({ frames := 2, cells := 0, slots := 0, locals := 42 }) (cPc [.ref (b 1), .int day, .int principal] D cs (wT b nm v) sz) (cQ D none (wT b nm (sc_X7_reachDay nm v day principal)) (adA (pT b) sz)) 0 0 (adA (pT b) sz) := by
  refine c_in (P := pT b) (cc := cX7_reachDay) (maxL := 4) (ret := none) (lv := [(0, .ref (b 1)), (1, .int day), (2, .int principal)]) (by decide) rfl (Nat.le_of_ble_eq_true rfl) rfl ?_
  intro p e s m below meth c ls S hr hlocks hin hsz hP hK hl hS
  subst hsz
  obtain ⟨hx, hb, hml, hown, hts⟩ := id S
  have hX7 : ∀ w ∈ wsX70, w ∈ wsX7_reachDay := by decide +kernel
  refine lv_aload_n hx hb dX7_reachDay_0 rfl (lv_at hl 0 rfl) ?_
  refine va_get (D := D) (ci := 6) (v := .int (v 4)) (C := RX7) (T := TX7) (N := 6) hx hb hts hX7 hown hK.1 hP 1 rfl rfl 0 (by decide) (hts (.fieldLink RX7 11 "PledgeHouse$Term" "start" "I") (by decide +kernel)) (fun _ h9 => h9) rfl dX7_reachDay_1 ?_
  refine lv_i2l (v := (v 4).toInt64) hx hb dX7_reachDay_4 rfl ?_
  refine lv_iload_n hx hb dX7_reachDay_5 rfl (lv_at hl 1 rfl) ?_
  refine lv_i2l (v := day.toInt64) hx hb dX7_reachDay_6 rfl ?_
  refine m_st S (As := [.long ((v 4).toInt64), .long day.toInt64]) (rest := []) (cC_X7_begunUpTo l ((v 4).toInt64) day.toInt64) (cwS 2 hts gX7_reachDay_X7_begunUpTo rfl rfl rfl (by decide +kernel) ⟨Nat.le_of_ble_eq_true rfl, Nat.le_of_ble_eq_true rfl⟩) rfl hl.1 rfl (Nat.le_of_ble_eq_true rfl) dX7_reachDay_7 ⟨Nat.zero_le _, Nat.zero_le _⟩ ?_
  refine lv_istore_n (lv' := [(3, .int (sc_X7_begunUpTo ((v 4).toInt64) day.toInt64)), (0, .ref (b 1)), (1, .int day), (2, .int principal)]) hx hb dX7_reachDay_10 rfl hl (by decide) rfl (fun ls hl => ?_)
  refine lv_aload_n hx hb dX7_reachDay_11 rfl (lv_at hl 1 rfl) ?_
  refine lv_dup hx hb dX7_reachDay_12 rfl ?_
  refine va_get (D := D) (ci := 6) (v := .int (v 2)) (C := RX7) (T := TX7) (N := 6) hx hb hts hX7 hown hK.1 hP 1 rfl rfl 4 (by decide) (hts (.fieldLink RX7 24 "PledgeHouse$Term" "interest" "I") (by decide +kernel)) (fun _ h9 => h9) rfl dX7_reachDay_13 ?_
  refine lv_iload_n hx hb dX7_reachDay_16 rfl (lv_at hl 0 rfl) ?_
  refine lv_aload_n hx hb dX7_reachDay_17 rfl (lv_at hl 1 rfl) ?_
  refine va_get (D := D) (ci := 6) (v := .int (v 3)) (C := RX7) (T := TX7) (N := 6) hx hb hts hX7 hown hK.1 hP 1 rfl rfl 3 (by decide) (hts (.fieldLink RX7 21 "PledgeHouse$Term" "begun" "I") (by decide +kernel)) (fun _ h9 => h9) rfl dX7_reachDay_18 ?_
  refine lv_isub hx hb dX7_reachDay_21 ?_
  refine lv_aload_n hx hb dX7_reachDay_22 rfl (lv_at hl 1 rfl) ?_
  refine lv_iload_n hx hb dX7_reachDay_23 rfl (lv_at hl 3 rfl) ?_
  refine c_rd S hK (hP) (va_recv hK.1 hP (ci := 6) (q0 := 1) rfl rfl) (As := [.int principal]) (rest := [.int ((sc_X7_begunUpTo ((v 4).toInt64) day.toInt64) - (v 3)), .int (v 2), .ref (b 1)]) (cC_X7_growth l D cs b nm v _  principal ) (cwV 1 hts gX7_reachDay_X7_growth rfl rfl rfl (by decide +kernel) ⟨Nat.le_of_ble_eq_true rfl, Nat.le_of_ble_eq_true rfl⟩) rfl hl.1 rfl (Nat.le_of_ble_eq_true rfl) dX7_reachDay_24 ⟨Nat.zero_le _, Nat.zero_le _⟩ ?_
  refine lv_imul hx hb dX7_reachDay_27 ?_
  refine lv_iadd hx hb dX7_reachDay_28 ?_
  refine va_put (D := D) (ci := 6) (v := .int ((v 2) + (((sc_X7_begunUpTo ((v 4).toInt64) day.toInt64) - (v 3)) * (sc_X7_growth nm v principal)))) (ty := .int) (C := RX7) (T := TX7) (N := 6) hx hb hts hX7 tyX7 tyX7_ok nmX7 hown hK.1 hP (wT_D ib s.heap.size _ _) hS 1 rfl rfl 4 (by decide) (hts (.fieldLink RX7 24 "PledgeHouse$Term" "interest" "I") (by decide +kernel)) (fun _ h9 => h9) rfl (by decide +kernel) rfl rfl (Nat.le_of_ble_eq_true rfl) dX7_reachDay_29 (fun H locs hP _ hS => ?_)
  have hP : va_P D vwCl (wT b nm (upd v 2 ((v 2) + (((sc_X7_begunUpTo ((v 4).toInt64) day.toInt64) - (v 3)) * (sc_X7_growth nm v principal))))) H := hP
  refine lv_aload_n hx hb dX7_reachDay_32 rfl (lv_at hl 1 rfl) ?_
  refine lv_iload_n hx hb dX7_reachDay_33 rfl (lv_at hl 0 rfl) ?_
  refine va_put (D := D) (ci := 6) (v := .int (sc_X7_begunUpTo ((v 4).toInt64) day.toInt64)) (ty := .int) (C := RX7) (T := TX7) (N := 6) hx hb hts hX7 tyX7 tyX7_ok nmX7 hown hK.1 hP (wT_D ib s.heap.size _ _) hS 1 rfl rfl 3 (by decide) (hts (.fieldLink RX7 21 "PledgeHouse$Term" "begun" "I") (by decide +kernel)) (fun _ h9 => h9) rfl (by decide +kernel) rfl rfl (Nat.le_of_ble_eq_true rfl) dX7_reachDay_34 (fun H locs hP _ hS => ?_)
  have hP : va_P D vwCl (wT b nm (upd (upd v 2 ((v 2) + (((sc_X7_begunUpTo ((v 4).toInt64) day.toInt64) - (v 3)) * (sc_X7_growth nm v principal)))) 3 (sc_X7_begunUpTo ((v 4).toInt64) day.toInt64))) H := hP
  have hsp : sc_X7_reachDay nm v day principal = upd (upd v 2 ((v 2) + (((sc_X7_begunUpTo ((v 4).toInt64) day.toInt64) - (v 3)) * (sc_X7_growth nm v principal)))) 3 (sc_X7_begunUpTo ((v 4).toInt64) day.toInt64) := rfl
  exact W.vret hx hb hr (fun t2 ht2 hW => by rw [hsp]; exact ⟨rfl, by rw [ht2]; exact hP, hS.F ht2⟩) hS.2.2 dX7_reachDay_37 hlocks
def sc_X7_beginAnew (nm : Int32) (v : Nat → Int32) (start : Int32) (months : Int32) (rate : Int32) : (Nat → Int32) :=
  upd (upd (upd (upd (upd (upd v 4 start) 5 months) 6 rate) 3 0) 2 0) 9 0
set_option maxHeartbeats 4000000 in
set_option maxRecDepth 100000 in
theorem cC_X7_beginAnew (l : Launch) (D : va_G) (cs : Nat → ClassId) (b : Nat → Nat) (nm : Int32) (v : Nat → Int32) (sz : Nat) (ib : iT b) (start : Int32) (months : Int32) (rate : Int32) : Met l yX7_beginAnew wsX7_beginAnew ({ frames := 0, cells := 0, slots := 0, locals := 0 }) (cPc [.ref (b 1), .int start, .int months, .int rate] D cs (wT b nm v) sz) (cQ D none (wT b nm (sc_X7_beginAnew nm v start months rate)) (adA (pT b) sz)) 0 0 (adA (pT b) sz) := by
  refine c_in (P := pT b) (cc := cX7_beginAnew) (maxL := 4) (ret := none) (lv := [(0, .ref (b 1)), (1, .int start), (2, .int months), (3, .int rate)]) (by decide) rfl (Nat.le_of_ble_eq_true rfl) rfl ?_
  intro p e s m below meth c ls S hr hlocks hin hsz hP hK hl hS
  subst hsz
  obtain ⟨hx, hb, hml, hown, hts⟩ := id S
  have hX7 : ∀ w ∈ wsX70, w ∈ wsX7_beginAnew := by decide +kernel
  refine lv_aload_n hx hb dX7_beginAnew_0 rfl (lv_at hl 0 rfl) ?_
  refine lv_iload_n hx hb dX7_beginAnew_1 rfl (lv_at hl 1 rfl) ?_
  refine va_put (D := D) (ci := 6) (v := .int start) (ty := .int) (C := RX7) (T := TX7) (N := 6) hx hb hts hX7 tyX7 tyX7_ok nmX7 hown hK.1 hP (wT_D ib s.heap.size _ _) hS 1 rfl rfl 0 (by decide) (hts (.fieldLink RX7 11 "PledgeHouse$Term" "start" "I") (by decide +kernel)) (fun _ h9 => h9) rfl (by decide +kernel) rfl rfl (Nat.le_of_ble_eq_true rfl) dX7_beginAnew_2 (fun H locs hP _ hS => ?_)
  have hP : va_P D vwCl (wT b nm (upd v 4 start)) H := hP
  refine lv_aload_n hx hb dX7_beginAnew_5 rfl (lv_at hl 0 rfl) ?_
  refine lv_iload_n hx hb dX7_beginAnew_6 rfl (lv_at hl 2 rfl) ?_
  refine va_put (D := D) (ci := 6) (v := .int months) (ty := .int) (C := RX7) (T := TX7) (N := 6) hx hb hts hX7 tyX7 tyX7_ok nmX7 hown hK.1 hP (wT_D ib s.heap.size _ _) hS 1 rfl rfl 1 (by decide) (hts (.fieldLink RX7 15 "PledgeHouse$Term" "months" "I") (by decide +kernel)) (fun _ h9 => h9) rfl (by decide +kernel) rfl rfl (Nat.le_of_ble_eq_true rfl) dX7_beginAnew_7 (fun H locs hP _ hS => ?_)
  have hP : va_P D vwCl (wT b nm (upd (upd v 4 start) 5 months)) H := hP
  refine lv_aload_n hx hb dX7_beginAnew_10 rfl (lv_at hl 0 rfl) ?_
  refine lv_iload_n hx hb dX7_beginAnew_11 rfl (lv_at hl 3 rfl) ?_
  refine va_put (D := D) (ci := 6) (v := .int rate) (ty := .int) (C := RX7) (T := TX7) (N := 6) hx hb hts hX7 tyX7 tyX7_ok nmX7 hown hK.1 hP (wT_D ib s.heap.size _ _) hS 1 rfl rfl 2 (by decide) (hts (.fieldLink RX7 18 "PledgeHouse$Term" "rate" "I") (by decide +kernel)) (fun _ h9 => h9) rfl (by decide +kernel) rfl rfl (Nat.le_of_ble_eq_true rfl) dX7_beginAnew_12 (fun H locs hP _ hS => ?_)
  have hP : va_P D vwCl (wT b nm (upd (upd (upd v 4 start) 5 months) 6 rate)) H := hP
  refine lv_aload_n hx hb dX7_beginAnew_15 rfl (lv_at hl 0 rfl) ?_
  refine lv_iconst (v := 0) hx hb dX7_beginAnew_16 (by decide) ?_
  refine va_put (D := D) (ci := 6) (v := .int 0) (ty := .int) (C := RX7) (T := TX7) (N := 6) hx hb hts hX7 tyX7 tyX7_ok nmX7 hown hK.1 hP (wT_D ib s.heap.size _ _) hS 1 rfl rfl 3 (by decide) (hts (.fieldLink RX7 21 "PledgeHouse$Term" "begun" "I") (by decide +kernel)) (fun _ h9 => h9) rfl (by decide +kernel) rfl rfl (Nat.le_of_ble_eq_true rfl) dX7_beginAnew_17 (fun H locs hP _ hS => ?_)
  have hP : va_P D vwCl (wT b nm (upd (upd (upd (upd v 4 start) 5 months) 6 rate) 3 0)) H := hP
  refine lv_aload_n hx hb dX7_beginAnew_20 rfl (lv_at hl 0 rfl) ?_
  refine lv_iconst (v := 0) hx hb dX7_beginAnew_21 (by decide) ?_
  refine va_put (D := D) (ci := 6) (v := .int 0) (ty := .int) (C := RX7) (T := TX7) (N := 6) hx hb hts hX7 tyX7 tyX7_ok nmX7 hown hK.1 hP (wT_D ib s.heap.size _ _) hS 1 rfl rfl 4 (by decide) (hts (.fieldLink RX7 24 "PledgeHouse$Term" "interest" "I") (by decide +kernel)) (fun _ h9 => h9) rfl (by decide +kernel) rfl rfl (Nat.le_of_ble_eq_true rfl) dX7_beginAnew_22 (fun H locs hP _ hS => ?_)
  have hP : va_P D vwCl (wT b nm (upd (upd (upd (upd (upd v 4 start) 5 months) 6 rate) 3 0) 2 0)) H := hP
  refine lv_aload_n hx hb dX7_beginAnew_25 rfl (lv_at hl 0 rfl) ?_
  refine lv_iconst (v := 0) hx hb dX7_beginAnew_26 (by decide) ?_
  refine va_put (D := D) (ci := 6) (v := .int 0) (ty := .int) (C := RX7) (T := TX7) (N := 6) hx hb hts hX7 tyX7 tyX7_ok nmX7 hown hK.1 hP (wT_D ib s.heap.size _ _) hS 1 rfl rfl 5 (by decide) (hts (.fieldLink RX7 27 "PledgeHouse$Term" "claimedDays" "I") (by decide +kernel)) (fun _ h9 => h9) rfl (by decide +kernel) rfl rfl (Nat.le_of_ble_eq_true rfl) dX7_beginAnew_27 (fun H locs hP _ hS => ?_)
  have hP : va_P D vwCl (wT b nm (upd (upd (upd (upd (upd (upd v 4 start) 5 months) 6 rate) 3 0) 2 0) 9 0)) H := hP
  have hsp : sc_X7_beginAnew nm v start months rate = upd (upd (upd (upd (upd (upd v 4 start) 5 months) 6 rate) 3 0) 2 0) 9 0 := rfl
  exact W.vret hx hb hr (fun t2 ht2 hW => by rw [hsp]; exact ⟨rfl, by rw [ht2]; exact hP, hS.F ht2⟩) hS.2.2 dX7_beginAnew_30 hlocks
def sc_X7_become_e (nm : Int32) (v : Nat → Int32) : (Nat → Int32) :=
  upd (upd (upd (upd (upd (upd v 21 (v 4)) 22 (v 5)) 23 (v 6)) 24 (v 3)) 25 (v 2)) 26 (v 9)
set_option maxHeartbeats 4000000 in
set_option maxRecDepth 100000 in
theorem cC_X7_become_e (l : Launch) (D : va_G) (cs : Nat → ClassId) (b : Nat → Nat) (nm : Int32) (v : Nat → Int32) (sz : Nat) (ib : iT b) : Met l yX7_become wsX7_become ({ frames := 0, cells := 0, slots := 0, locals := 0 }) (cPc [.ref (b 2), .ref (b 1)] D cs (wT b nm v) sz) (cQ D none (wT b nm (sc_X7_become_e nm v)) (adA (pT b) sz)) 0 0 (adA (pT b) sz) := by
  refine c_in (P := pT b) (cc := cX7_become) (maxL := 2) (ret := none) (lv := [(0, .ref (b 2)), (1, .ref (b 1))]) (by decide) rfl (Nat.le_of_ble_eq_true rfl) rfl ?_
  intro p e s m below meth c ls S hr hlocks hin hsz hP hK hl hS
  subst hsz
  obtain ⟨hx, hb, hml, hown, hts⟩ := id S
  have hX7 : ∀ w ∈ wsX70, w ∈ wsX7_become := by decide +kernel
  refine lv_aload_n hx hb dX7_become_0 rfl (lv_at hl 0 rfl) ?_
  refine lv_aload_n hx hb dX7_become_1 rfl (lv_at hl 1 rfl) ?_
  refine va_get (D := D) (ci := 6) (v := .int (v 4)) (C := RX7) (T := TX7) (N := 6) hx hb hts hX7 hown hK.1 hP 1 rfl rfl 0 (by decide) (hts (.fieldLink RX7 11 "PledgeHouse$Term" "start" "I") (by decide +kernel)) (fun _ h9 => h9) rfl dX7_become_2 ?_
  refine va_put (D := D) (ci := 6) (v := .int (v 4)) (ty := .int) (C := RX7) (T := TX7) (N := 6) hx hb hts hX7 tyX7 tyX7_ok nmX7 hown hK.1 hP (wT_D ib s.heap.size _ _) hS 2 rfl rfl 0 (by decide) (hts (.fieldLink RX7 11 "PledgeHouse$Term" "start" "I") (by decide +kernel)) (fun _ h9 => h9) rfl (by decide +kernel) rfl rfl (Nat.le_of_ble_eq_true rfl) dX7_become_5 (fun H locs hP _ hS => ?_)
  have hP : va_P D vwCl (wT b nm (upd v 21 (v 4))) H := hP
  refine lv_aload_n hx hb dX7_become_8 rfl (lv_at hl 0 rfl) ?_
  refine lv_aload_n hx hb dX7_become_9 rfl (lv_at hl 1 rfl) ?_
  refine va_get (D := D) (ci := 6) (v := .int ((upd v 21 (v 4)) 5)) (C := RX7) (T := TX7) (N := 6) hx hb hts hX7 hown hK.1 hP 1 rfl rfl 1 (by decide) (hts (.fieldLink RX7 15 "PledgeHouse$Term" "months" "I") (by decide +kernel)) (fun _ h9 => h9) rfl dX7_become_10 ?_
  refine wtop (congrArg Value.int (show (upd v 21 (v 4)) 5 = v 5 from (pk_un (by decide)))) ?_
  refine va_put (D := D) (ci := 6) (v := .int (v 5)) (ty := .int) (C := RX7) (T := TX7) (N := 6) hx hb hts hX7 tyX7 tyX7_ok nmX7 hown hK.1 hP (wT_D ib s.heap.size _ _) hS 2 rfl rfl 1 (by decide) (hts (.fieldLink RX7 15 "PledgeHouse$Term" "months" "I") (by decide +kernel)) (fun _ h9 => h9) rfl (by decide +kernel) rfl rfl (Nat.le_of_ble_eq_true rfl) dX7_become_13 (fun H locs hP _ hS => ?_)
  have hP : va_P D vwCl (wT b nm (upd (upd v 21 (v 4)) 22 (v 5))) H := hP
  refine lv_aload_n hx hb dX7_become_16 rfl (lv_at hl 0 rfl) ?_
  refine lv_aload_n hx hb dX7_become_17 rfl (lv_at hl 1 rfl) ?_
  refine va_get (D := D) (ci := 6) (v := .int ((upd (upd v 21 (v 4)) 22 (v 5)) 6)) (C := RX7) (T := TX7) (N := 6) hx hb hts hX7 hown hK.1 hP 1 rfl rfl 2 (by decide) (hts (.fieldLink RX7 18 "PledgeHouse$Term" "rate" "I") (by decide +kernel)) (fun _ h9 => h9) rfl dX7_become_18 ?_
  refine wtop (congrArg Value.int (show (upd (upd v 21 (v 4)) 22 (v 5)) 6 = v 6 from ((pk_un (by decide)).trans (pk_un (by decide))))) ?_
  refine va_put (D := D) (ci := 6) (v := .int (v 6)) (ty := .int) (C := RX7) (T := TX7) (N := 6) hx hb hts hX7 tyX7 tyX7_ok nmX7 hown hK.1 hP (wT_D ib s.heap.size _ _) hS 2 rfl rfl 2 (by decide) (hts (.fieldLink RX7 18 "PledgeHouse$Term" "rate" "I") (by decide +kernel)) (fun _ h9 => h9) rfl (by decide +kernel) rfl rfl (Nat.le_of_ble_eq_true rfl) dX7_become_21 (fun H locs hP _ hS => ?_)
  have hP : va_P D vwCl (wT b nm (upd (upd (upd v 21 (v 4)) 22 (v 5)) 23 (v 6))) H := hP
  refine lv_aload_n hx hb dX7_become_24 rfl (lv_at hl 0 rfl) ?_
  refine lv_aload_n hx hb dX7_become_25 rfl (lv_at hl 1 rfl) ?_
  refine va_get (D := D) (ci := 6) (v := .int ((upd (upd (upd v 21 (v 4)) 22 (v 5)) 23 (v 6)) 3)) (C := RX7) (T := TX7) (N := 6) hx hb hts hX7 hown hK.1 hP 1 rfl rfl 3 (by decide) (hts (.fieldLink RX7 21 "PledgeHouse$Term" "begun" "I") (by decide +kernel)) (fun _ h9 => h9) rfl dX7_become_26 ?_
  refine wtop (congrArg Value.int (show (upd (upd (upd v 21 (v 4)) 22 (v 5)) 23 (v 6)) 3 = v 3 from ((pk_un (by decide)).trans ((pk_un (by decide)).trans (pk_un (by decide)))))) ?_
  refine va_put (D := D) (ci := 6) (v := .int (v 3)) (ty := .int) (C := RX7) (T := TX7) (N := 6) hx hb hts hX7 tyX7 tyX7_ok nmX7 hown hK.1 hP (wT_D ib s.heap.size _ _) hS 2 rfl rfl 3 (by decide) (hts (.fieldLink RX7 21 "PledgeHouse$Term" "begun" "I") (by decide +kernel)) (fun _ h9 => h9) rfl (by decide +kernel) rfl rfl (Nat.le_of_ble_eq_true rfl) dX7_become_29 (fun H locs hP _ hS => ?_)
  have hP : va_P D vwCl (wT b nm (upd (upd (upd (upd v 21 (v 4)) 22 (v 5)) 23 (v 6)) 24 (v 3))) H := hP
  refine lv_aload_n hx hb dX7_become_32 rfl (lv_at hl 0 rfl) ?_
  refine lv_aload_n hx hb dX7_become_33 rfl (lv_at hl 1 rfl) ?_
  refine va_get (D := D) (ci := 6) (v := .int ((upd (upd (upd (upd v 21 (v 4)) 22 (v 5)) 23 (v 6)) 24 (v 3)) 2)) (C := RX7) (T := TX7) (N := 6) hx hb hts hX7 hown hK.1 hP 1 rfl rfl 4 (by decide) (hts (.fieldLink RX7 24 "PledgeHouse$Term" "interest" "I") (by decide +kernel)) (fun _ h9 => h9) rfl dX7_become_34 ?_
  refine wtop (congrArg Value.int (show (upd (upd (upd (upd v 21 (v 4)) 22 (v 5)) 23 (v 6)) 24 (v 3)) 2 = v 2 from ((pk_un (by decide)).trans ((pk_un (by decide)).trans ((pk_un (by decide)).trans (pk_un (by decide))))))) ?_
  refine va_put (D := D) (ci := 6) (v := .int (v 2)) (ty := .int) (C := RX7) (T := TX7) (N := 6) hx hb hts hX7 tyX7 tyX7_ok nmX7 hown hK.1 hP (wT_D ib s.heap.size _ _) hS 2 rfl rfl 4 (by decide) (hts (.fieldLink RX7 24 "PledgeHouse$Term" "interest" "I") (by decide +kernel)) (fun _ h9 => h9) rfl (by decide +kernel) rfl rfl (Nat.le_of_ble_eq_true rfl) dX7_become_37 (fun H locs hP _ hS => ?_)
  have hP : va_P D vwCl (wT b nm (upd (upd (upd (upd (upd v 21 (v 4)) 22 (v 5)) 23 (v 6)) 24 (v 3)) 25 (v 2))) H := hP
  refine lv_aload_n hx hb dX7_become_40 rfl (lv_at hl 0 rfl) ?_
  refine lv_aload_n hx hb dX7_become_41 rfl (lv_at hl 1 rfl) ?_
  refine va_get (D := D) (ci := 6) (v := .int ((upd (upd (upd (upd (upd v 21 (v 4)) 22 (v 5)) 23 (v 6)) 24 (v 3)) 25 (v 2)) 9)) (C := RX7) (T := TX7) (N := 6) hx hb hts hX7 hown hK.1 hP 1 rfl rfl 5 (by decide) (hts (.fieldLink RX7 27 "PledgeHouse$Term" "claimedDays" "I") (by decide +kernel)) (fun _ h9 => h9) rfl dX7_become_42 ?_
  refine wtop (congrArg Value.int (show (upd (upd (upd (upd (upd v 21 (v 4)) 22 (v 5)) 23 (v 6)) 24 (v 3)) 25 (v 2)) 9 = v 9 from ((pk_un (by decide)).trans ((pk_un (by decide)).trans ((pk_un (by decide)).trans ((pk_un (by decide)).trans (pk_un (by decide)))))))) ?_
  refine va_put (D := D) (ci := 6) (v := .int (v 9)) (ty := .int) (C := RX7) (T := TX7) (N := 6) hx hb hts hX7 tyX7 tyX7_ok nmX7 hown hK.1 hP (wT_D ib s.heap.size _ _) hS 2 rfl rfl 5 (by decide) (hts (.fieldLink RX7 27 "PledgeHouse$Term" "claimedDays" "I") (by decide +kernel)) (fun _ h9 => h9) rfl (by decide +kernel) rfl rfl (Nat.le_of_ble_eq_true rfl) dX7_become_45 (fun H locs hP _ hS => ?_)
  have hP : va_P D vwCl (wT b nm (upd (upd (upd (upd (upd (upd v 21 (v 4)) 22 (v 5)) 23 (v 6)) 24 (v 3)) 25 (v 2)) 26 (v 9))) H := hP
  have hsp : sc_X7_become_e nm v = upd (upd (upd (upd (upd (upd v 21 (v 4)) 22 (v 5)) 23 (v 6)) 24 (v 3)) 25 (v 2)) 26 (v 9) := rfl
  exact W.vret hx hb hr (fun t2 ht2 hW => by rw [hsp]; exact ⟨rfl, by rw [ht2]; exact hP, hS.F ht2⟩) hS.2.2 dX7_become_48 hlocks
def sc_X7_become_t (nm : Int32) (v : Nat → Int32) : (Nat → Int32) :=
  upd (upd (upd (upd (upd (upd v 4 (v 21)) 5 (v 22)) 6 (v 23)) 3 (v 24)) 2 (v 25)) 9 (v 26)
set_option maxHeartbeats 4000000 in
set_option maxRecDepth 100000 in
theorem cC_X7_become_t (l : Launch) (D : va_G) (cs : Nat → ClassId) (b : Nat → Nat) (nm : Int32) (v : Nat → Int32) (sz : Nat) (ib : iT b) : Met l yX7_become wsX7_become ({ frames := 0, cells := 0, slots := 0, locals := 0 }) (cPc [.ref (b 1), .ref (b 2)] D cs (wT b nm v) sz) (cQ D none (wT b nm (sc_X7_become_t nm v)) (adA (pT b) sz)) 0 0 (adA (pT b) sz) := by
  refine c_in (P := pT b) (cc := cX7_become) (maxL := 2) (ret := none) (lv := [(0, .ref (b 1)), (1, .ref (b 2))]) (by decide) rfl (Nat.le_of_ble_eq_true rfl) rfl ?_
  intro p e s m below meth c ls S hr hlocks hin hsz hP hK hl hS
  subst hsz
  obtain ⟨hx, hb, hml, hown, hts⟩ := id S
  have hX7 : ∀ w ∈ wsX70, w ∈ wsX7_become := by decide +kernel
  refine lv_aload_n hx hb dX7_become_0 rfl (lv_at hl 0 rfl) ?_
  refine lv_aload_n hx hb dX7_become_1 rfl (lv_at hl 1 rfl) ?_
  refine va_get (D := D) (ci := 6) (v := .int (v 21)) (C := RX7) (T := TX7) (N := 6) hx hb hts hX7 hown hK.1 hP 2 rfl rfl 0 (by decide) (hts (.fieldLink RX7 11 "PledgeHouse$Term" "start" "I") (by decide +kernel)) (fun _ h9 => h9) rfl dX7_become_2 ?_
  refine va_put (D := D) (ci := 6) (v := .int (v 21)) (ty := .int) (C := RX7) (T := TX7) (N := 6) hx hb hts hX7 tyX7 tyX7_ok nmX7 hown hK.1 hP (wT_D ib s.heap.size _ _) hS 1 rfl rfl 0 (by decide) (hts (.fieldLink RX7 11 "PledgeHouse$Term" "start" "I") (by decide +kernel)) (fun _ h9 => h9) rfl (by decide +kernel) rfl rfl (Nat.le_of_ble_eq_true rfl) dX7_become_5 (fun H locs hP _ hS => ?_)
  have hP : va_P D vwCl (wT b nm (upd v 4 (v 21))) H := hP
  refine lv_aload_n hx hb dX7_become_8 rfl (lv_at hl 0 rfl) ?_
  refine lv_aload_n hx hb dX7_become_9 rfl (lv_at hl 1 rfl) ?_
  refine va_get (D := D) (ci := 6) (v := .int ((upd v 4 (v 21)) 22)) (C := RX7) (T := TX7) (N := 6) hx hb hts hX7 hown hK.1 hP 2 rfl rfl 1 (by decide) (hts (.fieldLink RX7 15 "PledgeHouse$Term" "months" "I") (by decide +kernel)) (fun _ h9 => h9) rfl dX7_become_10 ?_
  refine wtop (congrArg Value.int (show (upd v 4 (v 21)) 22 = v 22 from (pk_un (by decide)))) ?_
  refine va_put (D := D) (ci := 6) (v := .int (v 22)) (ty := .int) (C := RX7) (T := TX7) (N := 6) hx hb hts hX7 tyX7 tyX7_ok nmX7 hown hK.1 hP (wT_D ib s.heap.size _ _) hS 1 rfl rfl 1 (by decide) (hts (.fieldLink RX7 15 "PledgeHouse$Term" "months" "I") (by decide +kernel)) (fun _ h9 => h9) rfl (by decide +kernel) rfl rfl (Nat.le_of_ble_eq_true rfl) dX7_become_13 (fun H locs hP _ hS => ?_)
  have hP : va_P D vwCl (wT b nm (upd (upd v 4 (v 21)) 5 (v 22))) H := hP
  refine lv_aload_n hx hb dX7_become_16 rfl (lv_at hl 0 rfl) ?_
  refine lv_aload_n hx hb dX7_become_17 rfl (lv_at hl 1 rfl) ?_
  refine va_get (D := D) (ci := 6) (v := .int ((upd (upd v 4 (v 21)) 5 (v 22)) 23)) (C := RX7) (T := TX7) (N := 6) hx hb hts hX7 hown hK.1 hP 2 rfl rfl 2 (by decide) (hts (.fieldLink RX7 18 "PledgeHouse$Term" "rate" "I") (by decide +kernel)) (fun _ h9 => h9) rfl dX7_become_18 ?_
  refine wtop (congrArg Value.int (show (upd (upd v 4 (v 21)) 5 (v 22)) 23 = v 23 from ((pk_un (by decide)).trans (pk_un (by decide))))) ?_
  refine va_put (D := D) (ci := 6) (v := .int (v 23)) (ty := .int) (C := RX7) (T := TX7) (N := 6) hx hb hts hX7 tyX7 tyX7_ok nmX7 hown hK.1 hP (wT_D ib s.heap.size _ _) hS 1 rfl rfl 2 (by decide) (hts (.fieldLink RX7 18 "PledgeHouse$Term" "rate" "I") (by decide +kernel)) (fun _ h9 => h9) rfl (by decide +kernel) rfl rfl (Nat.le_of_ble_eq_true rfl) dX7_become_21 (fun H locs hP _ hS => ?_)
  have hP : va_P D vwCl (wT b nm (upd (upd (upd v 4 (v 21)) 5 (v 22)) 6 (v 23))) H := hP
  refine lv_aload_n hx hb dX7_become_24 rfl (lv_at hl 0 rfl) ?_
  refine lv_aload_n hx hb dX7_become_25 rfl (lv_at hl 1 rfl) ?_
  refine va_get (D := D) (ci := 6) (v := .int ((upd (upd (upd v 4 (v 21)) 5 (v 22)) 6 (v 23)) 24)) (C := RX7) (T := TX7) (N := 6) hx hb hts hX7 hown hK.1 hP 2 rfl rfl 3 (by decide) (hts (.fieldLink RX7 21 "PledgeHouse$Term" "begun" "I") (by decide +kernel)) (fun _ h9 => h9) rfl dX7_become_26 ?_
  refine wtop (congrArg Value.int (show (upd (upd (upd v 4 (v 21)) 5 (v 22)) 6 (v 23)) 24 = v 24 from ((pk_un (by decide)).trans ((pk_un (by decide)).trans (pk_un (by decide)))))) ?_
  refine va_put (D := D) (ci := 6) (v := .int (v 24)) (ty := .int) (C := RX7) (T := TX7) (N := 6) hx hb hts hX7 tyX7 tyX7_ok nmX7 hown hK.1 hP (wT_D ib s.heap.size _ _) hS 1 rfl rfl 3 (by decide) (hts (.fieldLink RX7 21 "PledgeHouse$Term" "begun" "I") (by decide +kernel)) (fun _ h9 => h9) rfl (by decide +kernel) rfl rfl (Nat.le_of_ble_eq_true rfl) dX7_become_29 (fun H locs hP _ hS => ?_)
  have hP : va_P D vwCl (wT b nm (upd (upd (upd (upd v 4 (v 21)) 5 (v 22)) 6 (v 23)) 3 (v 24))) H := hP
  refine lv_aload_n hx hb dX7_become_32 rfl (lv_at hl 0 rfl) ?_
  refine lv_aload_n hx hb dX7_become_33 rfl (lv_at hl 1 rfl) ?_
  refine va_get (D := D) (ci := 6) (v := .int ((upd (upd (upd (upd v 4 (v 21)) 5 (v 22)) 6 (v 23)) 3 (v 24)) 25)) (C := RX7) (T := TX7) (N := 6) hx hb hts hX7 hown hK.1 hP 2 rfl rfl 4 (by decide) (hts (.fieldLink RX7 24 "PledgeHouse$Term" "interest" "I") (by decide +kernel)) (fun _ h9 => h9) rfl dX7_become_34 ?_
  refine wtop (congrArg Value.int (show (upd (upd (upd (upd v 4 (v 21)) 5 (v 22)) 6 (v 23)) 3 (v 24)) 25 = v 25 from ((pk_un (by decide)).trans ((pk_un (by decide)).trans ((pk_un (by decide)).trans (pk_un (by decide))))))) ?_
  refine va_put (D := D) (ci := 6) (v := .int (v 25)) (ty := .int) (C := RX7) (T := TX7) (N := 6) hx hb hts hX7 tyX7 tyX7_ok nmX7 hown hK.1 hP (wT_D ib s.heap.size _ _) hS 1 rfl rfl 4 (by decide) (hts (.fieldLink RX7 24 "PledgeHouse$Term" "interest" "I") (by decide +kernel)) (fun _ h9 => h9) rfl (by decide +kernel) rfl rfl (Nat.le_of_ble_eq_true rfl) dX7_become_37 (fun H locs hP _ hS => ?_)
  have hP : va_P D vwCl (wT b nm (upd (upd (upd (upd (upd v 4 (v 21)) 5 (v 22)) 6 (v 23)) 3 (v 24)) 2 (v 25))) H := hP
  refine lv_aload_n hx hb dX7_become_40 rfl (lv_at hl 0 rfl) ?_
  refine lv_aload_n hx hb dX7_become_41 rfl (lv_at hl 1 rfl) ?_
  refine va_get (D := D) (ci := 6) (v := .int ((upd (upd (upd (upd (upd v 4 (v 21)) 5 (v 22)) 6 (v 23)) 3 (v 24)) 2 (v 25)) 26)) (C := RX7) (T := TX7) (N := 6) hx hb hts hX7 hown hK.1 hP 2 rfl rfl 5 (by decide) (hts (.fieldLink RX7 27 "PledgeHouse$Term" "claimedDays" "I") (by decide +kernel)) (fun _ h9 => h9) rfl dX7_become_42 ?_
  refine wtop (congrArg Value.int (show (upd (upd (upd (upd (upd v 4 (v 21)) 5 (v 22)) 6 (v 23)) 3 (v 24)) 2 (v 25)) 26 = v 26 from ((pk_un (by decide)).trans ((pk_un (by decide)).trans ((pk_un (by decide)).trans ((pk_un (by decide)).trans (pk_un (by decide)))))))) ?_
  refine va_put (D := D) (ci := 6) (v := .int (v 26)) (ty := .int) (C := RX7) (T := TX7) (N := 6) hx hb hts hX7 tyX7 tyX7_ok nmX7 hown hK.1 hP (wT_D ib s.heap.size _ _) hS 1 rfl rfl 5 (by decide) (hts (.fieldLink RX7 27 "PledgeHouse$Term" "claimedDays" "I") (by decide +kernel)) (fun _ h9 => h9) rfl (by decide +kernel) rfl rfl (Nat.le_of_ble_eq_true rfl) dX7_become_45 (fun H locs hP _ hS => ?_)
  have hP : va_P D vwCl (wT b nm (upd (upd (upd (upd (upd (upd v 4 (v 21)) 5 (v 22)) 6 (v 23)) 3 (v 24)) 2 (v 25)) 9 (v 26))) H := hP
  have hsp : sc_X7_become_t nm v = upd (upd (upd (upd (upd (upd v 4 (v 21)) 5 (v 22)) 6 (v 23)) 3 (v 24)) 2 (v 25)) 9 (v 26) := rfl
  exact W.vret hx hb hr (fun t2 ht2 hW => by rw [hsp]; exact ⟨rfl, by rw [ht2]; exact hP, hS.F ht2⟩) hS.2.2 dX7_become_48 hlocks
def sc_X9_isOpen (nm : Int32) (v : Nat → Int32) : Int32 :=
  if (v 0) = 0 then
    1
  else
    0
set_option maxHeartbeats 4000000 in
set_option maxRecDepth 100000 in
theorem cC_X9_isOpen (l : Launch) (D : va_G) (cs : Nat → ClassId) (b : Nat → Nat) (nm : Int32) (v : Nat → Int32) (sz : Nat) : Met l yX9_isOpen wsX9_isOpen ({ frames := 0, cells := 0, slots := 0, locals := 0 }) (cPc [.ref (b 0)] D cs (wT b nm v) sz) (k2_QcV (.int (sc_X9_isOpen nm v))) 0 0 (fun _ => False) := by
  refine c_in (P := pT b) (cc := cX9_isOpen) (maxL := 1) (ret := (some .boolean)) (lv := [(0, .ref (b 0))]) (by decide) rfl (Nat.le_of_ble_eq_true rfl) rfl ?_
  intro p e s m below meth c ls S hr hlocks hin hsz hP hK hl hS
  subst hsz
  obtain ⟨hx, hb, hml, hown, hts⟩ := id S
  have hX9 : ∀ w ∈ wsX90, w ∈ wsX9_isOpen := by decide +kernel
  refine lv_aload_n hx hb dX9_isOpen_0 rfl (lv_at hl 0 rfl) ?_
  refine va_get (D := D) (ci := 8) (v := .int (v 0)) (C := RX9) (T := TX9) (N := 19) hx hb hts hX9 hown hK.1 hP 0 rfl rfl 3 (by decide) (hts (.fieldLink RX9 46 "PledgeHouse$Ticket" "standing" "I") (by decide +kernel)) (fun _ h9 => h9) rfl dX9_isOpen_1 ?_
  refine lv_if_ne (tgt := 11) hx hb dX9_isOpen_4 (by decide) (fun c_1 => ?_) (fun c_1 => ?_)
  · refine lv_iconst (v := 0) hx hb dX9_isOpen_11 (by decide) ?_
    have hsp : sc_X9_isOpen nm v = 0 := by unfold sc_X9_isOpen; rw [if_neg c_1]
    exact W.zret hx hb hr (by decide) (fun t2 ht2 hW => ⟨by rw [hsp], ht2⟩) (fun q hq => by cases hq) dX9_isOpen_12 hlocks
  · refine lv_iconst (v := 1) hx hb dX9_isOpen_7 (by decide) ?_
    refine lv_goto (tgt := 12) hx hb dX9_isOpen_8 (by decide) ?_
    have hsp : sc_X9_isOpen nm v = 1 := by unfold sc_X9_isOpen; rw [if_pos c_1]
    exact W.zret hx hb hr (by decide) (fun t2 ht2 hW => ⟨by rw [hsp], ht2⟩) (fun q hq => by cases hq) dX9_isOpen_12 hlocks
def sc_X9_isHolders (nm : Int32) (v : Nat → Int32) : Int32 :=
  if (sc_X9_isOpen nm v) = 0 then
    0
  else
    if (v 7) = 0 then
      1
    else
      0
set_option maxHeartbeats 4000000 in
set_option maxRecDepth 100000 in
theorem cC_X9_isHolders (l : Launch) (D : va_G) (cs : Nat → ClassId) (b : Nat → Nat) (nm : Int32) (v : Nat → Int32) (sz : Nat) : Met l yX9_isHolders wsX9_isHolders ({ frames := 1, cells := 0, slots := 0, locals := 20 }) (cPc [.ref (b 0)] D cs (wT b nm v) sz) (k2_QcV (.int (sc_X9_isHolders nm v))) 0 0 (fun _ => False) := by
  refine c_in (P := pT b) (cc := cX9_isHolders) (maxL := 1) (ret := (some .boolean)) (lv := [(0, .ref (b 0))]) (by decide) rfl (Nat.le_of_ble_eq_true rfl) rfl ?_
  intro p e s m below meth c ls S hr hlocks hin hsz hP hK hl hS
  subst hsz
  obtain ⟨hx, hb, hml, hown, hts⟩ := id S
  have hX9 : ∀ w ∈ wsX90, w ∈ wsX9_isHolders := by decide +kernel
  refine lv_aload_n hx hb dX9_isHolders_0 rfl (lv_at hl 0 rfl) ?_
  refine c_rd S hK (hP) (va_recv hK.1 hP (ci := 8) (q0 := 0) rfl rfl) (As := []) (rest := []) (cC_X9_isOpen l D cs b nm v _   ) (cwV 0 hts gX9_isHolders_X9_isOpen rfl rfl rfl (by decide +kernel) ⟨Nat.le_of_ble_eq_true rfl, Nat.le_of_ble_eq_true rfl⟩) rfl hl.1 rfl (Nat.le_of_ble_eq_true rfl) dX9_isHolders_1 ⟨Nat.zero_le _, Nat.zero_le _⟩ ?_
  refine lv_if_eq (tgt := 18) hx hb dX9_isHolders_4 (by decide) (fun c_1 => ?_) (fun c_1 => ?_)
  · refine lv_iconst (v := 0) hx hb dX9_isHolders_18 (by decide) ?_
    have hsp : sc_X9_isHolders nm v = 0 := by unfold sc_X9_isHolders; rw [if_pos c_1]
    exact W.zret hx hb hr (by decide) (fun t2 ht2 hW => ⟨by rw [hsp], ht2⟩) (fun q hq => by cases hq) dX9_isHolders_19 hlocks
  · refine lv_aload_n hx hb dX9_isHolders_7 rfl (lv_at hl 0 rfl) ?_
    refine va_get (D := D) (ci := 8) (v := .int (v 7)) (C := RX9) (T := TX9) (N := 19) hx hb hts hX9 hown hK.1 hP 0 rfl rfl 5 (by decide) (hts (.fieldLink RX9 52 "PledgeHouse$Ticket" "forfeited" "Z") (by decide +kernel)) (fun _ h9 => h9) rfl dX9_isHolders_8 ?_
    refine lv_if_ne (tgt := 18) hx hb dX9_isHolders_11 (by decide) (fun c_2 => ?_) (fun c_2 => ?_)
    · refine lv_iconst (v := 0) hx hb dX9_isHolders_18 (by decide) ?_
      have hsp : sc_X9_isHolders nm v = 0 := by unfold sc_X9_isHolders; rw [if_neg c_1, if_neg c_2]
      exact W.zret hx hb hr (by decide) (fun t2 ht2 hW => ⟨by rw [hsp], ht2⟩) (fun q hq => by cases hq) dX9_isHolders_19 hlocks
    · refine lv_iconst (v := 1) hx hb dX9_isHolders_14 (by decide) ?_
      refine lv_goto (tgt := 19) hx hb dX9_isHolders_15 (by decide) ?_
      have hsp : sc_X9_isHolders nm v = 1 := by unfold sc_X9_isHolders; rw [if_neg c_1, if_pos c_2]
      exact W.zret hx hb hr (by decide) (fun t2 ht2 hW => ⟨by rw [hsp], ht2⟩) (fun q hq => by cases hq) dX9_isHolders_19 hlocks
def sc_X9_isForSale (nm : Int32) (v : Nat → Int32) : Int32 :=
  if (sc_X9_isOpen nm v) = 0 then
    0
  else
    if (v 7) = 0 then
      0
    else
      1
set_option maxHeartbeats 4000000 in
set_option maxRecDepth 100000 in
theorem cC_X9_isForSale (l : Launch) (D : va_G) (cs : Nat → ClassId) (b : Nat → Nat) (nm : Int32) (v : Nat → Int32) (sz : Nat) : Met l yX9_isForSale wsX9_isForSale ({ frames := 1, cells := 0, slots := 0, locals := 20 }) (cPc [.ref (b 0)] D cs (wT b nm v) sz) (k2_QcV (.int (sc_X9_isForSale nm v))) 0 0 (fun _ => False) := by
  refine c_in (P := pT b) (cc := cX9_isForSale) (maxL := 1) (ret := (some .boolean)) (lv := [(0, .ref (b 0))]) (by decide) rfl (Nat.le_of_ble_eq_true rfl) rfl ?_
  intro p e s m below meth c ls S hr hlocks hin hsz hP hK hl hS
  subst hsz
  obtain ⟨hx, hb, hml, hown, hts⟩ := id S
  have hX9 : ∀ w ∈ wsX90, w ∈ wsX9_isForSale := by decide +kernel
  refine lv_aload_n hx hb dX9_isForSale_0 rfl (lv_at hl 0 rfl) ?_
  refine c_rd S hK (hP) (va_recv hK.1 hP (ci := 8) (q0 := 0) rfl rfl) (As := []) (rest := []) (cC_X9_isOpen l D cs b nm v _   ) (cwV 0 hts gX9_isForSale_X9_isOpen rfl rfl rfl (by decide +kernel) ⟨Nat.le_of_ble_eq_true rfl, Nat.le_of_ble_eq_true rfl⟩) rfl hl.1 rfl (Nat.le_of_ble_eq_true rfl) dX9_isForSale_1 ⟨Nat.zero_le _, Nat.zero_le _⟩ ?_
  refine lv_if_eq (tgt := 18) hx hb dX9_isForSale_4 (by decide) (fun c_1 => ?_) (fun c_1 => ?_)
  · refine lv_iconst (v := 0) hx hb dX9_isForSale_18 (by decide) ?_
    have hsp : sc_X9_isForSale nm v = 0 := by unfold sc_X9_isForSale; rw [if_pos c_1]
    exact W.zret hx hb hr (by decide) (fun t2 ht2 hW => ⟨by rw [hsp], ht2⟩) (fun q hq => by cases hq) dX9_isForSale_19 hlocks
  · refine lv_aload_n hx hb dX9_isForSale_7 rfl (lv_at hl 0 rfl) ?_
    refine va_get (D := D) (ci := 8) (v := .int (v 7)) (C := RX9) (T := TX9) (N := 19) hx hb hts hX9 hown hK.1 hP 0 rfl rfl 5 (by decide) (hts (.fieldLink RX9 52 "PledgeHouse$Ticket" "forfeited" "Z") (by decide +kernel)) (fun _ h9 => h9) rfl dX9_isForSale_8 ?_
    refine lv_if_eq (tgt := 18) hx hb dX9_isForSale_11 (by decide) (fun c_2 => ?_) (fun c_2 => ?_)
    · refine lv_iconst (v := 0) hx hb dX9_isForSale_18 (by decide) ?_
      have hsp : sc_X9_isForSale nm v = 0 := by unfold sc_X9_isForSale; rw [if_neg c_1, if_pos c_2]
      exact W.zret hx hb hr (by decide) (fun t2 ht2 hW => ⟨by rw [hsp], ht2⟩) (fun q hq => by cases hq) dX9_isForSale_19 hlocks
    · refine lv_iconst (v := 1) hx hb dX9_isForSale_14 (by decide) ?_
      refine lv_goto (tgt := 19) hx hb dX9_isForSale_15 (by decide) ?_
      have hsp : sc_X9_isForSale nm v = 1 := by unfold sc_X9_isForSale; rw [if_neg c_1, if_neg c_2]
      exact W.zret hx hb hr (by decide) (fun t2 ht2 hW => ⟨by rw [hsp], ht2⟩) (fun q hq => by cases hq) dX9_isForSale_19 hlocks
def sc_X9_isClaimed (nm : Int32) (v : Nat → Int32) : Int32 :=
  if (v 8) = (-1) then
    0
  else
    1
set_option maxHeartbeats 4000000 in
set_option maxRecDepth 100000 in
theorem cC_X9_isClaimed (l : Launch) (D : va_G) (cs : Nat → ClassId) (b : Nat → Nat) (nm : Int32) (v : Nat → Int32) (sz : Nat) : Met l yX9_isClaimed wsX9_isClaimed ({ frames := 0, cells := 0, slots := 0, locals := 0 }) (cPc [.ref (b 0)] D cs (wT b nm v) sz) (k2_QcV (.int (sc_X9_isClaimed nm v))) 0 0 (fun _ => False) := by
  refine c_in (P := pT b) (cc := cX9_isClaimed) (maxL := 1) (ret := (some .boolean)) (lv := [(0, .ref (b 0))]) (by decide) rfl (Nat.le_of_ble_eq_true rfl) rfl ?_
  intro p e s m below meth c ls S hr hlocks hin hsz hP hK hl hS
  subst hsz
  obtain ⟨hx, hb, hml, hown, hts⟩ := id S
  have hX9 : ∀ w ∈ wsX90, w ∈ wsX9_isClaimed := by decide +kernel
  refine lv_aload_n hx hb dX9_isClaimed_0 rfl (lv_at hl 0 rfl) ?_
  refine va_get (D := D) (ci := 8) (v := .int (v 8)) (C := RX9) (T := TX9) (N := 19) hx hb hts hX9 hown hK.1 hP 0 rfl rfl 12 (by decide) (hts (.fieldLink RX9 28 "PledgeHouse$Ticket" "claimDay" "I") (by decide +kernel)) (fun _ h9 => h9) rfl dX9_isClaimed_1 ?_
  refine lv_iconst (v := (-1)) hx hb dX9_isClaimed_4 (by decide) ?_
  refine lv_icmp_eq (tgt := 12) hx hb dX9_isClaimed_5 (by decide) (fun c_1 => ?_) (fun c_1 => ?_)
  · refine lv_iconst (v := 0) hx hb dX9_isClaimed_12 (by decide) ?_
    have hsp : sc_X9_isClaimed nm v = 0 := by unfold sc_X9_isClaimed; rw [if_pos c_1]
    exact W.zret hx hb hr (by decide) (fun t2 ht2 hW => ⟨by rw [hsp], ht2⟩) (fun q hq => by cases hq) dX9_isClaimed_13 hlocks
  · refine lv_iconst (v := 1) hx hb dX9_isClaimed_8 (by decide) ?_
    refine lv_goto (tgt := 13) hx hb dX9_isClaimed_9 (by decide) ?_
    have hsp : sc_X9_isClaimed nm v = 1 := by unfold sc_X9_isClaimed; rw [if_neg c_1]
    exact W.zret hx hb hr (by decide) (fun t2 ht2 hW => ⟨by rw [hsp], ht2⟩) (fun q hq => by cases hq) dX9_isClaimed_13 hlocks
def sc_X9_isTorn (nm : Int32) (v : Nat → Int32) : Int32 :=
  if (v 28) = 0 then
    0
  else
    1
set_option maxHeartbeats 4000000 in
set_option maxRecDepth 100000 in
theorem cC_X9_isTorn (l : Launch) (D : va_G) (cs : Nat → ClassId) (b : Nat → Nat) (nm : Int32) (v : Nat → Int32) (sz : Nat) : Met l yX9_isTorn wsX9_isTorn ({ frames := 0, cells := 0, slots := 0, locals := 0 }) (cPc [.ref (b 0)] D cs (wT b nm v) sz) (k2_QcV (.int (sc_X9_isTorn nm v))) 0 0 (fun _ => False) := by
  refine c_in (P := pT b) (cc := cX9_isTorn) (maxL := 1) (ret := (some .boolean)) (lv := [(0, .ref (b 0))]) (by decide) rfl (Nat.le_of_ble_eq_true rfl) rfl ?_
  intro p e s m below meth c ls S hr hlocks hin hsz hP hK hl hS
  subst hsz
  obtain ⟨hx, hb, hml, hown, hts⟩ := id S
  have hX9 : ∀ w ∈ wsX90, w ∈ wsX9_isTorn := by decide +kernel
  refine lv_aload_n hx hb dX9_isTorn_0 rfl (lv_at hl 0 rfl) ?_
  refine va_get (D := D) (ci := 8) (v := .int (v 28)) (C := RX9) (T := TX9) (N := 19) hx hb hts hX9 hown hK.1 hP 0 rfl rfl 10 (by decide) (hts (.fieldLink RX9 63 "PledgeHouse$Ticket" "houseHalf" "I") (by decide +kernel)) (fun _ h9 => h9) rfl dX9_isTorn_1 ?_
  refine lv_if_eq (tgt := 11) hx hb dX9_isTorn_4 (by decide) (fun c_1 => ?_) (fun c_1 => ?_)
  · refine lv_iconst (v := 0) hx hb dX9_isTorn_11 (by decide) ?_
    have hsp : sc_X9_isTorn nm v = 0 := by unfold sc_X9_isTorn; rw [if_pos c_1]
    exact W.zret hx hb hr (by decide) (fun t2 ht2 hW => ⟨by rw [hsp], ht2⟩) (fun q hq => by cases hq) dX9_isTorn_12 hlocks
  · refine lv_iconst (v := 1) hx hb dX9_isTorn_7 (by decide) ?_
    refine lv_goto (tgt := 12) hx hb dX9_isTorn_8 (by decide) ?_
    have hsp : sc_X9_isTorn nm v = 1 := by unfold sc_X9_isTorn; rw [if_neg c_1]
    exact W.zret hx hb hr (by decide) (fun t2 ht2 hW => ⟨by rw [hsp], ht2⟩) (fun q hq => by cases hq) dX9_isTorn_12 hlocks
def sc_X9_numberInHouseHalf (nm : Int32) (v : Nat → Int32) : Int32 :=
  if (v 28) = 2 then
    (-1)
  else
    nm
set_option maxHeartbeats 4000000 in
set_option maxRecDepth 100000 in
theorem cC_X9_numberInHouseHalf (l : Launch) (D : va_G) (cs : Nat → ClassId) (b : Nat → Nat) (nm : Int32) (v : Nat → Int32) (sz : Nat) : Met l yX9_numberInHouseHalf wsX9_numberInHouseHalf ({ frames := 0, cells := 0, slots := 0, locals := 0 }) (cPc [.ref (b 0)] D cs (wT b nm v) sz) (k2_QcV (.int (sc_X9_numberInHouseHalf nm v))) 0 0 (fun _ => False) := by
  refine c_in (P := pT b) (cc := cX9_numberInHouseHalf) (maxL := 1) (ret := (some .int)) (lv := [(0, .ref (b 0))]) (by decide) rfl (Nat.le_of_ble_eq_true rfl) rfl ?_
  intro p e s m below meth c ls S hr hlocks hin hsz hP hK hl hS
  subst hsz
  obtain ⟨hx, hb, hml, hown, hts⟩ := id S
  have hX9 : ∀ w ∈ wsX90, w ∈ wsX9_numberInHouseHalf := by decide +kernel
  refine lv_aload_n hx hb dX9_numberInHouseHalf_0 rfl (lv_at hl 0 rfl) ?_
  refine va_get (D := D) (ci := 8) (v := .int (v 28)) (C := RX9) (T := TX9) (N := 19) hx hb hts hX9 hown hK.1 hP 0 rfl rfl 10 (by decide) (hts (.fieldLink RX9 63 "PledgeHouse$Ticket" "houseHalf" "I") (by decide +kernel)) (fun _ h9 => h9) rfl dX9_numberInHouseHalf_1 ?_
  refine lv_iconst (v := 2) hx hb dX9_numberInHouseHalf_4 (by decide) ?_
  refine lv_icmp_ne (tgt := 12) hx hb dX9_numberInHouseHalf_5 (by decide) (fun c_1 => ?_) (fun c_1 => ?_)
  · refine lv_aload_n hx hb dX9_numberInHouseHalf_12 rfl (lv_at hl 0 rfl) ?_
    refine va_get (D := D) (ci := 8) (v := .int nm) (C := RX9) (T := TX9) (N := 19) hx hb hts hX9 hown hK.1 hP 0 rfl rfl 0 (by decide) (hts (.fieldLink RX9 37 "PledgeHouse$Ticket" "number" "I") (by decide +kernel)) (fun _ h9 => h9) rfl dX9_numberInHouseHalf_13 ?_
    have hsp : sc_X9_numberInHouseHalf nm v = nm := by unfold sc_X9_numberInHouseHalf; rw [if_neg c_1]
    exact W.iret hx hb hr (fun t2 ht2 hW => ⟨by rw [hsp], ht2⟩) (fun q hq => by cases hq) dX9_numberInHouseHalf_16 hlocks
  · refine lv_iconst (v := (-1)) hx hb dX9_numberInHouseHalf_8 (by decide) ?_
    refine lv_goto (tgt := 16) hx hb dX9_numberInHouseHalf_9 (by decide) ?_
    have hsp : sc_X9_numberInHouseHalf nm v = (-1) := by unfold sc_X9_numberInHouseHalf; rw [if_pos c_1]
    exact W.iret hx hb hr (fun t2 ht2 hW => ⟨by rw [hsp], ht2⟩) (fun q hq => by cases hq) dX9_numberInHouseHalf_16 hlocks
def sc_X9_halfInHouseHalf (nm : Int32) (v : Nat → Int32) : Int32 :=
  if (sc_X9_isTorn nm v) = 0 then
    v 17
  else
    (-1)
set_option maxHeartbeats 4000000 in
set_option maxRecDepth 100000 in
theorem cC_X9_halfInHouseHalf (l : Launch) (D : va_G) (cs : Nat → ClassId) (b : Nat → Nat) (nm : Int32) (v : Nat → Int32) (sz : Nat) : Met l yX9_halfInHouseHalf wsX9_halfInHouseHalf ({ frames := 1, cells := 0, slots := 0, locals := 20 }) (cPc [.ref (b 0)] D cs (wT b nm v) sz) (k2_QcV (.int (sc_X9_halfInHouseHalf nm v))) 0 0 (fun _ => False) := by
  refine c_in (P := pT b) (cc := cX9_halfInHouseHalf) (maxL := 1) (ret := (some .int)) (lv := [(0, .ref (b 0))]) (by decide) rfl (Nat.le_of_ble_eq_true rfl) rfl ?_
  intro p e s m below meth c ls S hr hlocks hin hsz hP hK hl hS
  subst hsz
  obtain ⟨hx, hb, hml, hown, hts⟩ := id S
  have hX9 : ∀ w ∈ wsX90, w ∈ wsX9_halfInHouseHalf := by decide +kernel
  refine lv_aload_n hx hb dX9_halfInHouseHalf_0 rfl (lv_at hl 0 rfl) ?_
  refine c_rd S hK (hP) (va_recv hK.1 hP (ci := 8) (q0 := 0) rfl rfl) (As := []) (rest := []) (cC_X9_isTorn l D cs b nm v _   ) (cwV 0 hts gX9_halfInHouseHalf_X9_isTorn rfl rfl rfl (by decide +kernel) ⟨Nat.le_of_ble_eq_true rfl, Nat.le_of_ble_eq_true rfl⟩) rfl hl.1 rfl (Nat.le_of_ble_eq_true rfl) dX9_halfInHouseHalf_1 ⟨Nat.zero_le _, Nat.zero_le _⟩ ?_
  refine lv_if_eq (tgt := 11) hx hb dX9_halfInHouseHalf_4 (by decide) (fun c_1 => ?_) (fun c_1 => ?_)
  · refine lv_aload_n hx hb dX9_halfInHouseHalf_11 rfl (lv_at hl 0 rfl) ?_
    refine va_get (D := D) (ci := 8) (v := .int (v 17)) (C := RX9) (T := TX9) (N := 19) hx hb hts hX9 hown hK.1 hP 0 rfl rfl 9 (by decide) (hts (.fieldLink RX9 60 "PledgeHouse$Ticket" "holderHalf" "I") (by decide +kernel)) (fun _ h9 => h9) rfl dX9_halfInHouseHalf_12 ?_
    have hsp : sc_X9_halfInHouseHalf nm v = v 17 := by unfold sc_X9_halfInHouseHalf; rw [if_pos c_1]
    exact W.iret hx hb hr (fun t2 ht2 hW => ⟨by rw [hsp], ht2⟩) (fun q hq => by cases hq) dX9_halfInHouseHalf_15 hlocks
  · refine lv_iconst (v := (-1)) hx hb dX9_halfInHouseHalf_7 (by decide) ?_
    refine lv_goto (tgt := 15) hx hb dX9_halfInHouseHalf_8 (by decide) ?_
    have hsp : sc_X9_halfInHouseHalf nm v = (-1) := by unfold sc_X9_halfInHouseHalf; rw [if_neg c_1]
    exact W.iret hx hb hr (fun t2 ht2 hW => ⟨by rw [hsp], ht2⟩) (fun q hq => by cases hq) dX9_halfInHouseHalf_15 hlocks
def sc_X9_owed (nm : Int32) (v : Nat → Int32) : Int32 :=
  (v 1) + (v 2)
set_option maxHeartbeats 4000000 in
set_option maxRecDepth 100000 in
theorem cC_X9_owed (l : Launch) (D : va_G) (cs : Nat → ClassId) (b : Nat → Nat) (nm : Int32) (v : Nat → Int32) (sz : Nat) : Met l yX9_owed wsX9_owed ({ frames := 0, cells := 0, slots := 0, locals := 0 }) (cPc [.ref (b 0)] D cs (wT b nm v) sz) (k2_QcV (.int (sc_X9_owed nm v))) 0 0 (fun _ => False) := by
  refine c_in (P := pT b) (cc := cX9_owed) (maxL := 1) (ret := (some .int)) (lv := [(0, .ref (b 0))]) (by decide) rfl (Nat.le_of_ble_eq_true rfl) rfl ?_
  intro p e s m below meth c ls S hr hlocks hin hsz hP hK hl hS
  subst hsz
  obtain ⟨hx, hb, hml, hown, hts⟩ := id S
  have hX7 : ∀ w ∈ wsX70, w ∈ wsX9_owed := by decide +kernel
  have hX9 : ∀ w ∈ wsX90, w ∈ wsX9_owed := by decide +kernel
  refine lv_aload_n hx hb dX9_owed_0 rfl (lv_at hl 0 rfl) ?_
  refine va_get (D := D) (ci := 8) (v := .int (v 1)) (C := RX9) (T := TX9) (N := 19) hx hb hts hX9 hown hK.1 hP 0 rfl rfl 4 (by decide) (hts (.fieldLink RX9 49 "PledgeHouse$Ticket" "principal" "I") (by decide +kernel)) (fun _ h9 => h9) rfl dX9_owed_1 ?_
  refine lv_aload_n hx hb dX9_owed_4 rfl (lv_at hl 0 rfl) ?_
  refine va_get (D := D) (ci := 8) (v := .ref (b 1)) (C := RX9) (T := TX9) (N := 19) hx hb hts hX9 hown hK.1 hP 0 rfl rfl 6 (by decide) (hts (.fieldLink RX9 12 "PledgeHouse$Ticket" "term" "LPledgeHouse$Term;") (by decide +kernel)) (fun _ h9 => h9) rfl dX9_owed_5 ?_
  refine va_get (D := D) (ci := 6) (v := .int (v 2)) (C := RX7) (T := TX7) (N := 6) hx hb hts hX7 hown hK.1 hP 1 rfl rfl 4 (by decide) (hts (.fieldLink RX9 85 "PledgeHouse$Term" "interest" "I") (by decide +kernel)) (fun _ h9 => h9) rfl dX9_owed_8 ?_
  refine lv_iadd hx hb dX9_owed_11 ?_
  have hsp : sc_X9_owed nm v = (v 1) + (v 2) := rfl
  exact W.iret hx hb hr (fun t2 ht2 hW => ⟨by rw [hsp], ht2⟩) (fun q hq => by cases hq) dX9_owed_12 hlocks
def sc_X9_tearAll (nm : Int32) (v : Nat → Int32) : (Nat → Int32) :=
  upd v 28 2
set_option maxHeartbeats 4000000 in
set_option maxRecDepth 100000 in
theorem cC_X9_tearAll (l : Launch) (D : va_G) (cs : Nat → ClassId) (b : Nat → Nat) (nm : Int32) (v : Nat → Int32) (sz : Nat) (ib : iT b) : Met l yX9_tearAll wsX9_tearAll ({ frames := 0, cells := 0, slots := 0, locals := 0 }) (cPc [.ref (b 0)] D cs (wT b nm v) sz) (cQ D none (wT b nm (sc_X9_tearAll nm v)) (adA (pT b) sz)) 0 0 (adA (pT b) sz) := by
  refine c_in (P := pT b) (cc := cX9_tearAll) (maxL := 1) (ret := none) (lv := [(0, .ref (b 0))]) (by decide) rfl (Nat.le_of_ble_eq_true rfl) rfl ?_
  intro p e s m below meth c ls S hr hlocks hin hsz hP hK hl hS
  subst hsz
  obtain ⟨hx, hb, hml, hown, hts⟩ := id S
  have hX9 : ∀ w ∈ wsX90, w ∈ wsX9_tearAll := by decide +kernel
  refine lv_aload_n hx hb dX9_tearAll_0 rfl (lv_at hl 0 rfl) ?_
  refine lv_iconst (v := 2) hx hb dX9_tearAll_1 (by decide) ?_
  refine va_put (D := D) (ci := 8) (v := .int 2) (ty := .int) (C := RX9) (T := TX9) (N := 19) hx hb hts hX9 tyX9 tyX9_ok nmX9 hown hK.1 hP (wT_D ib s.heap.size _ _) hS 0 rfl rfl 10 (by decide) (hts (.fieldLink RX9 63 "PledgeHouse$Ticket" "houseHalf" "I") (by decide +kernel)) (fun _ h9 => h9) rfl (by decide +kernel) rfl rfl (Nat.le_of_ble_eq_true rfl) dX9_tearAll_2 (fun H locs hP _ hS => ?_)
  have hP : va_P D vwCl (wT b nm (upd v 28 2)) H := hP
  have hsp : sc_X9_tearAll nm v = upd v 28 2 := rfl
  exact W.vret hx hb hr (fun t2 ht2 hW => by rw [hsp]; exact ⟨rfl, by rw [ht2]; exact hP, hS.F ht2⟩) hS.2.2 dX9_tearAll_5 hlocks
def sc_X9_tearAllButNumber (nm : Int32) (v : Nat → Int32) : (Nat → Int32) :=
  upd v 28 1
set_option maxHeartbeats 4000000 in
set_option maxRecDepth 100000 in
theorem cC_X9_tearAllButNumber (l : Launch) (D : va_G) (cs : Nat → ClassId) (b : Nat → Nat) (nm : Int32) (v : Nat → Int32) (sz : Nat) (ib : iT b) : Met l yX9_tearAllButNumber wsX9_tearAllButNumber ({ frames := 0, cells := 0, slots := 0, locals := 0 }) (cPc [.ref (b 0)] D cs (wT b nm v) sz) (cQ D none (wT b nm (sc_X9_tearAllButNumber nm v)) (adA (pT b) sz)) 0 0 (adA (pT b) sz) := by
  refine c_in (P := pT b) (cc := cX9_tearAllButNumber) (maxL := 1) (ret := none) (lv := [(0, .ref (b 0))]) (by decide) rfl (Nat.le_of_ble_eq_true rfl) rfl ?_
  intro p e s m below meth c ls S hr hlocks hin hsz hP hK hl hS
  subst hsz
  obtain ⟨hx, hb, hml, hown, hts⟩ := id S
  have hX9 : ∀ w ∈ wsX90, w ∈ wsX9_tearAllButNumber := by decide +kernel
  refine lv_aload_n hx hb dX9_tearAllButNumber_0 rfl (lv_at hl 0 rfl) ?_
  refine lv_iconst (v := 1) hx hb dX9_tearAllButNumber_1 (by decide) ?_
  refine va_put (D := D) (ci := 8) (v := .int 1) (ty := .int) (C := RX9) (T := TX9) (N := 19) hx hb hts hX9 tyX9 tyX9_ok nmX9 hown hK.1 hP (wT_D ib s.heap.size _ _) hS 0 rfl rfl 10 (by decide) (hts (.fieldLink RX9 63 "PledgeHouse$Ticket" "houseHalf" "I") (by decide +kernel)) (fun _ h9 => h9) rfl (by decide +kernel) rfl rfl (Nat.le_of_ble_eq_true rfl) dX9_tearAllButNumber_2 (fun H locs hP _ hS => ?_)
  have hP : va_P D vwCl (wT b nm (upd v 28 1)) H := hP
  have hsp : sc_X9_tearAllButNumber nm v = upd v 28 1 := rfl
  exact W.vret hx hb hr (fun t2 ht2 hW => by rw [hsp]; exact ⟨rfl, by rw [ht2]; exact hP, hS.F ht2⟩) hS.2.2 dX9_tearAllButNumber_5 hlocks
def sc_X9_isRight (nm : Int32) (v : Nat → Int32) (half : Int32) (today : Int32) : Int32 :=
  if half = 0 then
    if (v 18) = (-1) then
      0
    else
      if (today - (v 18)) < 14 then
        0
      else
        1
  else
    if (sc_X9_isTorn nm v) = 0 then
      if half = (v 17) then
        1
      else
        0
    else
      if half < (1000 * nm) then
        0
      else
        if ((1000 * nm) + 999) < half then
          0
        else
          1
set_option maxHeartbeats 4000000 in
set_option maxRecDepth 100000 in
theorem cC_X9_isRight (l : Launch) (D : va_G) (cs : Nat → ClassId) (b : Nat → Nat) (nm : Int32) (v : Nat → Int32) (sz : Nat) (half : Int32) (today : Int32) : Met l yX9_isRight wsX9_isRight ({ frames := 1, cells := 0, slots := 0, locals := 20 }) (cPc [.ref (b 0), .int half, .int today] D cs (wT b nm v) sz) (k2_QcV (.int (sc_X9_isRight nm v half today))) 0 0 (fun _ => False) := by
  refine c_in (P := pT b) (cc := cX9_isRight) (maxL := 3) (ret := (some .boolean)) (lv := [(0, .ref (b 0)), (1, .int half), (2, .int today)]) (by decide) rfl (Nat.le_of_ble_eq_true rfl) rfl ?_
  intro p e s m below meth c ls S hr hlocks hin hsz hP hK hl hS
  subst hsz
  obtain ⟨hx, hb, hml, hown, hts⟩ := id S
  have hX9 : ∀ w ∈ wsX90, w ∈ wsX9_isRight := by decide +kernel
  refine lv_iload_n hx hb dX9_isRight_0 rfl (lv_at hl 1 rfl) ?_
  refine lv_if_ne (tgt := 29) hx hb dX9_isRight_1 (by decide) (fun c_1 => ?_) (fun c_1 => ?_)
  · refine lv_aload_n hx hb dX9_isRight_29 rfl (lv_at hl 0 rfl) ?_
    refine c_rd S hK (hP) (va_recv hK.1 hP (ci := 8) (q0 := 0) rfl rfl) (As := []) (rest := []) (cC_X9_isTorn l D cs b nm v _   ) (cwV 0 hts gX9_isRight_X9_isTorn rfl rfl rfl (by decide +kernel) ⟨Nat.le_of_ble_eq_true rfl, Nat.le_of_ble_eq_true rfl⟩) rfl hl.1 rfl (Nat.le_of_ble_eq_true rfl) dX9_isRight_30 ⟨Nat.zero_le _, Nat.zero_le _⟩ ?_
    refine lv_if_eq (tgt := 70) hx hb dX9_isRight_33 (by decide) (fun c_2 => ?_) (fun c_2 => ?_)
    · refine lv_iload_n hx hb dX9_isRight_70 rfl (lv_at hl 1 rfl) ?_
      refine lv_aload_n hx hb dX9_isRight_71 rfl (lv_at hl 0 rfl) ?_
      refine va_get (D := D) (ci := 8) (v := .int (v 17)) (C := RX9) (T := TX9) (N := 19) hx hb hts hX9 hown hK.1 hP 0 rfl rfl 9 (by decide) (hts (.fieldLink RX9 60 "PledgeHouse$Ticket" "holderHalf" "I") (by decide +kernel)) (fun _ h9 => h9) rfl dX9_isRight_72 ?_
      refine lv_icmp_ne (tgt := 82) hx hb dX9_isRight_75 (by decide) (fun c_3 => ?_) (fun c_3 => ?_)
      · refine lv_iconst (v := 0) hx hb dX9_isRight_82 (by decide) ?_
        have hsp : sc_X9_isRight nm v half today = 0 := by unfold sc_X9_isRight; rw [if_neg c_1, if_pos c_2, if_neg c_3]
        exact W.zret hx hb hr (by decide) (fun t2 ht2 hW => ⟨by rw [hsp], ht2⟩) (fun q hq => by cases hq) dX9_isRight_83 hlocks
      · refine lv_iconst (v := 1) hx hb dX9_isRight_78 (by decide) ?_
        refine lv_goto (tgt := 83) hx hb dX9_isRight_79 (by decide) ?_
        have hsp : sc_X9_isRight nm v half today = 1 := by unfold sc_X9_isRight; rw [if_neg c_1, if_pos c_2, if_pos c_3]
        exact W.zret hx hb hr (by decide) (fun t2 ht2 hW => ⟨by rw [hsp], ht2⟩) (fun q hq => by cases hq) dX9_isRight_83 hlocks
    · refine lv_iload_n hx hb dX9_isRight_36 rfl (lv_at hl 1 rfl) ?_
      refine lv_sipush (v := 1000) hx hb dX9_isRight_37 (by decide) ?_
      refine lv_aload_n hx hb dX9_isRight_40 rfl (lv_at hl 0 rfl) ?_
      refine va_get (D := D) (ci := 8) (v := .int nm) (C := RX9) (T := TX9) (N := 19) hx hb hts hX9 hown hK.1 hP 0 rfl rfl 0 (by decide) (hts (.fieldLink RX9 37 "PledgeHouse$Ticket" "number" "I") (by decide +kernel)) (fun _ h9 => h9) rfl dX9_isRight_41 ?_
      refine lv_imul hx hb dX9_isRight_44 ?_
      refine lv_icmp_lt (tgt := 68) hx hb dX9_isRight_45 (by decide) (fun c_4 => ?_) (fun c_4 => ?_)
      · refine lv_iconst (v := 0) hx hb dX9_isRight_68 (by decide) ?_
        have hsp : sc_X9_isRight nm v half today = 0 := by unfold sc_X9_isRight; rw [if_neg c_1, if_neg c_2, if_pos c_4]
        exact W.zret hx hb hr (by decide) (fun t2 ht2 hW => ⟨by rw [hsp], ht2⟩) (fun q hq => by cases hq) dX9_isRight_69 hlocks
      · refine lv_iload_n hx hb dX9_isRight_48 rfl (lv_at hl 1 rfl) ?_
        refine lv_sipush (v := 1000) hx hb dX9_isRight_49 (by decide) ?_
        refine lv_aload_n hx hb dX9_isRight_52 rfl (lv_at hl 0 rfl) ?_
        refine va_get (D := D) (ci := 8) (v := .int nm) (C := RX9) (T := TX9) (N := 19) hx hb hts hX9 hown hK.1 hP 0 rfl rfl 0 (by decide) (hts (.fieldLink RX9 37 "PledgeHouse$Ticket" "number" "I") (by decide +kernel)) (fun _ h9 => h9) rfl dX9_isRight_53 ?_
        refine lv_imul hx hb dX9_isRight_56 ?_
        refine lv_sipush (v := 999) hx hb dX9_isRight_57 (by decide) ?_
        refine lv_iadd hx hb dX9_isRight_60 ?_
        refine lv_icmp_gt (tgt := 68) hx hb dX9_isRight_61 (by decide) (fun c_5 => ?_) (fun c_5 => ?_)
        · refine lv_iconst (v := 0) hx hb dX9_isRight_68 (by decide) ?_
          have hsp : sc_X9_isRight nm v half today = 0 := by unfold sc_X9_isRight; rw [if_neg c_1, if_neg c_2, if_neg c_4, if_pos c_5]
          exact W.zret hx hb hr (by decide) (fun t2 ht2 hW => ⟨by rw [hsp], ht2⟩) (fun q hq => by cases hq) dX9_isRight_69 hlocks
        · refine lv_iconst (v := 1) hx hb dX9_isRight_64 (by decide) ?_
          refine lv_goto (tgt := 69) hx hb dX9_isRight_65 (by decide) ?_
          have hsp : sc_X9_isRight nm v half today = 1 := by unfold sc_X9_isRight; rw [if_neg c_1, if_neg c_2, if_neg c_4, if_neg c_5]
          exact W.zret hx hb hr (by decide) (fun t2 ht2 hW => ⟨by rw [hsp], ht2⟩) (fun q hq => by cases hq) dX9_isRight_69 hlocks
  · refine lv_aload_n hx hb dX9_isRight_4 rfl (lv_at hl 0 rfl) ?_
    refine va_get (D := D) (ci := 8) (v := .int (v 18)) (C := RX9) (T := TX9) (N := 19) hx hb hts hX9 hown hK.1 hP 0 rfl rfl 11 (by decide) (hts (.fieldLink RX9 25 "PledgeHouse$Ticket" "oathDay" "I") (by decide +kernel)) (fun _ h9 => h9) rfl dX9_isRight_5 ?_
    refine lv_iconst (v := (-1)) hx hb dX9_isRight_8 (by decide) ?_
    refine lv_icmp_eq (tgt := 27) hx hb dX9_isRight_9 (by decide) (fun c_6 => ?_) (fun c_6 => ?_)
    · refine lv_iconst (v := 0) hx hb dX9_isRight_27 (by decide) ?_
      have hsp : sc_X9_isRight nm v half today = 0 := by unfold sc_X9_isRight; rw [if_pos c_1, if_pos c_6]
      exact W.zret hx hb hr (by decide) (fun t2 ht2 hW => ⟨by rw [hsp], ht2⟩) (fun q hq => by cases hq) dX9_isRight_28 hlocks
    · refine lv_iload_n hx hb dX9_isRight_12 rfl (lv_at hl 2 rfl) ?_
      refine lv_aload_n hx hb dX9_isRight_13 rfl (lv_at hl 0 rfl) ?_
      refine va_get (D := D) (ci := 8) (v := .int (v 18)) (C := RX9) (T := TX9) (N := 19) hx hb hts hX9 hown hK.1 hP 0 rfl rfl 11 (by decide) (hts (.fieldLink RX9 25 "PledgeHouse$Ticket" "oathDay" "I") (by decide +kernel)) (fun _ h9 => h9) rfl dX9_isRight_14 ?_
      refine lv_isub hx hb dX9_isRight_17 ?_
      refine lv_bipush (v := 14) hx hb dX9_isRight_18 (by decide) ?_
      refine lv_icmp_lt (tgt := 27) hx hb dX9_isRight_20 (by decide) (fun c_7 => ?_) (fun c_7 => ?_)
      · refine lv_iconst (v := 0) hx hb dX9_isRight_27 (by decide) ?_
        have hsp : sc_X9_isRight nm v half today = 0 := by unfold sc_X9_isRight; rw [if_pos c_1, if_neg c_6, if_pos c_7]
        exact W.zret hx hb hr (by decide) (fun t2 ht2 hW => ⟨by rw [hsp], ht2⟩) (fun q hq => by cases hq) dX9_isRight_28 hlocks
      · refine lv_iconst (v := 1) hx hb dX9_isRight_23 (by decide) ?_
        refine lv_goto (tgt := 28) hx hb dX9_isRight_24 (by decide) ?_
        have hsp : sc_X9_isRight nm v half today = 1 := by unfold sc_X9_isRight; rw [if_pos c_1, if_neg c_6, if_neg c_7]
        exact W.zret hx hb hr (by decide) (fun t2 ht2 hW => ⟨by rw [hsp], ht2⟩) (fun q hq => by cases hq) dX9_isRight_28 hlocks
def sc_X9_endOathBy (nm : Int32) (v : Nat → Int32) (half : Int32) : (Nat → Int32) :=
  if half = 0 then
    v
  else
    upd v 18 (-1)
set_option maxHeartbeats 4000000 in
set_option maxRecDepth 100000 in
theorem cC_X9_endOathBy (l : Launch) (D : va_G) (cs : Nat → ClassId) (b : Nat → Nat) (nm : Int32) (v : Nat → Int32) (sz : Nat) (ib : iT b) (half : Int32) : Met l yX9_endOathBy wsX9_endOathBy ({ frames := 0, cells := 0, slots := 0, locals := 0 }) (cPc [.ref (b 0), .int half] D cs (wT b nm v) sz) (cQ D none (wT b nm (sc_X9_endOathBy nm v half)) (adA (pT b) sz)) 0 0 (adA (pT b) sz) := by
  refine c_in (P := pT b) (cc := cX9_endOathBy) (maxL := 2) (ret := none) (lv := [(0, .ref (b 0)), (1, .int half)]) (by decide) rfl (Nat.le_of_ble_eq_true rfl) rfl ?_
  intro p e s m below meth c ls S hr hlocks hin hsz hP hK hl hS
  subst hsz
  obtain ⟨hx, hb, hml, hown, hts⟩ := id S
  have hX9 : ∀ w ∈ wsX90, w ∈ wsX9_endOathBy := by decide +kernel
  refine lv_iload_n hx hb dX9_endOathBy_0 rfl (lv_at hl 1 rfl) ?_
  refine lv_if_eq (tgt := 9) hx hb dX9_endOathBy_1 (by decide) (fun c_1 => ?_) (fun c_1 => ?_)
  · have hsp : sc_X9_endOathBy nm v half = v := by unfold sc_X9_endOathBy; rw [if_pos c_1]
    exact W.vret hx hb hr (fun t2 ht2 hW => by rw [hsp]; exact ⟨rfl, by rw [ht2]; exact hP, hS.F ht2⟩) hS.2.2 dX9_endOathBy_9 hlocks
  · refine lv_aload_n hx hb dX9_endOathBy_4 rfl (lv_at hl 0 rfl) ?_
    refine lv_iconst (v := (-1)) hx hb dX9_endOathBy_5 (by decide) ?_
    refine va_put (D := D) (ci := 8) (v := .int (-1)) (ty := .int) (C := RX9) (T := TX9) (N := 19) hx hb hts hX9 tyX9 tyX9_ok nmX9 hown hK.1 hP (wT_D ib s.heap.size _ _) hS 0 rfl rfl 11 (by decide) (hts (.fieldLink RX9 25 "PledgeHouse$Ticket" "oathDay" "I") (by decide +kernel)) (fun _ h9 => h9) rfl (by decide +kernel) rfl rfl (Nat.le_of_ble_eq_true rfl) dX9_endOathBy_6 (fun H locs hP _ hS => ?_)
    have hP : va_P D vwCl (wT b nm (upd v 18 (-1))) H := hP
    have hsp : sc_X9_endOathBy nm v half = upd v 18 (-1) := by unfold sc_X9_endOathBy; rw [if_neg c_1]
    exact W.vret hx hb hr (fun t2 ht2 hW => by rw [hsp]; exact ⟨rfl, by rw [ht2]; exact hP, hS.F ht2⟩) hS.2.2 dX9_endOathBy_9 hlocks
def sc_X9_claimedDaysIfDropped (nm : Int32) (v : Nat → Int32) (today : Int32) : Int32 :=
  if (sc_X9_isClaimed nm v) = 0 then
    v 9
  else
    (v 9) + (sc_X7_daysOfClaim nm v (v 8) today)
set_option maxHeartbeats 4000000 in
set_option maxRecDepth 100000 in
theorem cC_X9_claimedDaysIfDropped (l : Launch) (D : va_G) (cs : Nat → ClassId) (b : Nat → Nat) (nm : Int32) (v : Nat → Int32) (sz : Nat) (today : Int32) : Met l yX9_claimedDaysIfDropped wsX9_claimedDaysIfDropped ({ frames := 2, cells := 0, slots := 0, locals := 43 }) (cPc [.ref (b 0), .int today] D cs (wT b nm v) sz) (k2_QcV (.int (sc_X9_claimedDaysIfDropped nm v today))) 0 0 (fun _ => False) := by
  refine c_in (P := pT b) (cc := cX9_claimedDaysIfDropped) (maxL := 2) (ret := (some .int)) (lv := [(0, .ref (b 0)), (1, .int today)]) (by decide) rfl (Nat.le_of_ble_eq_true rfl) rfl ?_
  intro p e s m below meth c ls S hr hlocks hin hsz hP hK hl hS
  subst hsz
  obtain ⟨hx, hb, hml, hown, hts⟩ := id S
  have hX7 : ∀ w ∈ wsX70, w ∈ wsX9_claimedDaysIfDropped := by decide +kernel
  have hX9 : ∀ w ∈ wsX90, w ∈ wsX9_claimedDaysIfDropped := by decide +kernel
  refine lv_aload_n hx hb dX9_claimedDaysIfDropped_0 rfl (lv_at hl 0 rfl) ?_
  refine c_rd S hK (hP) (va_recv hK.1 hP (ci := 8) (q0 := 0) rfl rfl) (As := []) (rest := []) (cC_X9_isClaimed l D cs b nm v _   ) (cwV 0 hts gX9_claimedDaysIfDropped_X9_isClaimed rfl rfl rfl (by decide +kernel) ⟨Nat.le_of_ble_eq_true rfl, Nat.le_of_ble_eq_true rfl⟩) rfl hl.1 rfl (Nat.le_of_ble_eq_true rfl) dX9_claimedDaysIfDropped_1 ⟨Nat.zero_le _, Nat.zero_le _⟩ ?_
  refine lv_if_eq (tgt := 30) hx hb dX9_claimedDaysIfDropped_4 (by decide) (fun c_1 => ?_) (fun c_1 => ?_)
  · refine lv_aload_n hx hb dX9_claimedDaysIfDropped_30 rfl (lv_at hl 0 rfl) ?_
    refine va_get (D := D) (ci := 8) (v := .ref (b 1)) (C := RX9) (T := TX9) (N := 19) hx hb hts hX9 hown hK.1 hP 0 rfl rfl 6 (by decide) (hts (.fieldLink RX9 12 "PledgeHouse$Ticket" "term" "LPledgeHouse$Term;") (by decide +kernel)) (fun _ h9 => h9) rfl dX9_claimedDaysIfDropped_31 ?_
    refine va_get (D := D) (ci := 6) (v := .int (v 9)) (C := RX7) (T := TX7) (N := 6) hx hb hts hX7 hown hK.1 hP 1 rfl rfl 5 (by decide) (hts (.fieldLink RX9 91 "PledgeHouse$Term" "claimedDays" "I") (by decide +kernel)) (fun _ h9 => h9) rfl dX9_claimedDaysIfDropped_34 ?_
    have hsp : sc_X9_claimedDaysIfDropped nm v today = v 9 := by unfold sc_X9_claimedDaysIfDropped; rw [if_pos c_1]
    exact W.iret hx hb hr (fun t2 ht2 hW => ⟨by rw [hsp], ht2⟩) (fun q hq => by cases hq) dX9_claimedDaysIfDropped_37 hlocks
  · refine lv_aload_n hx hb dX9_claimedDaysIfDropped_7 rfl (lv_at hl 0 rfl) ?_
    refine va_get (D := D) (ci := 8) (v := .ref (b 1)) (C := RX9) (T := TX9) (N := 19) hx hb hts hX9 hown hK.1 hP 0 rfl rfl 6 (by decide) (hts (.fieldLink RX9 12 "PledgeHouse$Ticket" "term" "LPledgeHouse$Term;") (by decide +kernel)) (fun _ h9 => h9) rfl dX9_claimedDaysIfDropped_8 ?_
    refine va_get (D := D) (ci := 6) (v := .int (v 9)) (C := RX7) (T := TX7) (N := 6) hx hb hts hX7 hown hK.1 hP 1 rfl rfl 5 (by decide) (hts (.fieldLink RX9 91 "PledgeHouse$Term" "claimedDays" "I") (by decide +kernel)) (fun _ h9 => h9) rfl dX9_claimedDaysIfDropped_11 ?_
    refine lv_aload_n hx hb dX9_claimedDaysIfDropped_14 rfl (lv_at hl 0 rfl) ?_
    refine va_get (D := D) (ci := 8) (v := .ref (b 1)) (C := RX9) (T := TX9) (N := 19) hx hb hts hX9 hown hK.1 hP 0 rfl rfl 6 (by decide) (hts (.fieldLink RX9 12 "PledgeHouse$Ticket" "term" "LPledgeHouse$Term;") (by decide +kernel)) (fun _ h9 => h9) rfl dX9_claimedDaysIfDropped_15 ?_
    refine lv_aload_n hx hb dX9_claimedDaysIfDropped_18 rfl (lv_at hl 0 rfl) ?_
    refine va_get (D := D) (ci := 8) (v := .int (v 8)) (C := RX9) (T := TX9) (N := 19) hx hb hts hX9 hown hK.1 hP 0 rfl rfl 12 (by decide) (hts (.fieldLink RX9 28 "PledgeHouse$Ticket" "claimDay" "I") (by decide +kernel)) (fun _ h9 => h9) rfl dX9_claimedDaysIfDropped_19 ?_
    refine lv_iload_n hx hb dX9_claimedDaysIfDropped_22 rfl (lv_at hl 1 rfl) ?_
    refine c_rd S hK (hP) (va_recv hK.1 hP (ci := 6) (q0 := 1) rfl rfl) (As := [.int (v 8), .int today]) (rest := [.int (v 9)]) (cC_X7_daysOfClaim l D cs b nm v _  (v 8) today ) (cwV 2 hts gX9_claimedDaysIfDropped_X7_daysOfClaim rfl rfl rfl (by decide +kernel) ⟨Nat.le_of_ble_eq_true rfl, Nat.le_of_ble_eq_true rfl⟩) rfl hl.1 rfl (Nat.le_of_ble_eq_true rfl) dX9_claimedDaysIfDropped_23 ⟨Nat.zero_le _, Nat.zero_le _⟩ ?_
    refine lv_iadd hx hb dX9_claimedDaysIfDropped_26 ?_
    refine lv_goto (tgt := 37) hx hb dX9_claimedDaysIfDropped_27 (by decide) ?_
    have hsp : sc_X9_claimedDaysIfDropped nm v today = (v 9) + (sc_X7_daysOfClaim nm v (v 8) today) := by unfold sc_X9_claimedDaysIfDropped; rw [if_neg c_1]
    exact W.iret hx hb hr (fun t2 ht2 hW => ⟨by rw [hsp], ht2⟩) (fun q hq => by cases hq) dX9_claimedDaysIfDropped_37 hlocks
def sc_X9_endClaim (nm : Int32) (v : Nat → Int32) (today : Int32) : (Nat → Int32) :=
  upd (upd v 9 (sc_X9_claimedDaysIfDropped nm v today)) 8 (-1)
set_option maxHeartbeats 4000000 in
set_option maxRecDepth 100000 in
theorem cC_X9_endClaim (l : Launch) (D : va_G) (cs : Nat → ClassId) (b : Nat → Nat) (nm : Int32) (v : Nat → Int32) (sz : Nat) (ib : iT b) (today : Int32) : Met l yX9_endClaim wsX9_endClaim ({ frames := 3, cells := 0, slots := 0, locals := 64 }) (cPc [.ref (b 0), .int today] D cs (wT b nm v) sz) (cQ D none (wT b nm (sc_X9_endClaim nm v today)) (adA (pT b) sz)) 0 0 (adA (pT b) sz) := by
  refine c_in (P := pT b) (cc := cX9_endClaim) (maxL := 2) (ret := none) (lv := [(0, .ref (b 0)), (1, .int today)]) (by decide) rfl (Nat.le_of_ble_eq_true rfl) rfl ?_
  intro p e s m below meth c ls S hr hlocks hin hsz hP hK hl hS
  subst hsz
  obtain ⟨hx, hb, hml, hown, hts⟩ := id S
  have hX7 : ∀ w ∈ wsX70, w ∈ wsX9_endClaim := by decide +kernel
  have hX9 : ∀ w ∈ wsX90, w ∈ wsX9_endClaim := by decide +kernel
  refine lv_aload_n hx hb dX9_endClaim_0 rfl (lv_at hl 0 rfl) ?_
  refine va_get (D := D) (ci := 8) (v := .ref (b 1)) (C := RX9) (T := TX9) (N := 19) hx hb hts hX9 hown hK.1 hP 0 rfl rfl 6 (by decide) (hts (.fieldLink RX9 12 "PledgeHouse$Ticket" "term" "LPledgeHouse$Term;") (by decide +kernel)) (fun _ h9 => h9) rfl dX9_endClaim_1 ?_
  refine lv_aload_n hx hb dX9_endClaim_4 rfl (lv_at hl 0 rfl) ?_
  refine lv_iload_n hx hb dX9_endClaim_5 rfl (lv_at hl 1 rfl) ?_
  refine c_rd S hK (hP) (va_recv hK.1 hP (ci := 8) (q0 := 0) rfl rfl) (As := [.int today]) (rest := [.ref (b 1)]) (cC_X9_claimedDaysIfDropped l D cs b nm v _  today ) (cwV 1 hts gX9_endClaim_X9_claimedDaysIfDropped rfl rfl rfl (by decide +kernel) ⟨Nat.le_of_ble_eq_true rfl, Nat.le_of_ble_eq_true rfl⟩) rfl hl.1 rfl (Nat.le_of_ble_eq_true rfl) dX9_endClaim_6 ⟨Nat.zero_le _, Nat.zero_le _⟩ ?_
  refine va_put (D := D) (ci := 6) (v := .int (sc_X9_claimedDaysIfDropped nm v today)) (ty := .int) (C := RX7) (T := TX7) (N := 6) hx hb hts hX7 tyX7 tyX7_ok nmX7 hown hK.1 hP (wT_D ib s.heap.size _ _) hS 1 rfl rfl 5 (by decide) (hts (.fieldLink RX9 91 "PledgeHouse$Term" "claimedDays" "I") (by decide +kernel)) (fun _ h9 => h9) rfl (by decide +kernel) rfl rfl (Nat.le_of_ble_eq_true rfl) dX9_endClaim_9 (fun H locs hP _ hS => ?_)
  have hP : va_P D vwCl (wT b nm (upd v 9 (sc_X9_claimedDaysIfDropped nm v today))) H := hP
  refine lv_aload_n hx hb dX9_endClaim_12 rfl (lv_at hl 0 rfl) ?_
  refine lv_iconst (v := (-1)) hx hb dX9_endClaim_13 (by decide) ?_
  refine va_put (D := D) (ci := 8) (v := .int (-1)) (ty := .int) (C := RX9) (T := TX9) (N := 19) hx hb hts hX9 tyX9 tyX9_ok nmX9 hown hK.1 hP (wT_D ib s.heap.size _ _) hS 0 rfl rfl 12 (by decide) (hts (.fieldLink RX9 28 "PledgeHouse$Ticket" "claimDay" "I") (by decide +kernel)) (fun _ h9 => h9) rfl (by decide +kernel) rfl rfl (Nat.le_of_ble_eq_true rfl) dX9_endClaim_14 (fun H locs hP _ hS => ?_)
  have hP : va_P D vwCl (wT b nm (upd (upd v 9 (sc_X9_claimedDaysIfDropped nm v today)) 8 (-1))) H := hP
  have hsp : sc_X9_endClaim nm v today = upd (upd v 9 (sc_X9_claimedDaysIfDropped nm v today)) 8 (-1) := rfl
  exact W.vret hx hb hr (fun t2 ht2 hW => by rw [hsp]; exact ⟨rfl, by rw [ht2]; exact hP, hS.F ht2⟩) hS.2.2 dX9_endClaim_17 hlocks
def sc_X9_forfeitDay (nm : Int32) (v : Nat → Int32) (today : Int32) (grace : Int32) : Int32 :=
  ((sc_X7_lastDay nm v) + grace) + (sc_X9_claimedDaysIfDropped nm v today)
set_option maxHeartbeats 4000000 in
set_option maxRecDepth 100000 in
theorem cC_X9_forfeitDay (l : Launch) (D : va_G) (cs : Nat → ClassId) (b : Nat → Nat) (nm : Int32) (v : Nat → Int32) (sz : Nat) (today : Int32) (grace : Int32) : Met l yX9_forfeitDay wsX9_forfeitDay ({ frames := 3, cells := 0, slots := 0, locals := 64 }) (cPc [.ref (b 0), .int today, .int grace] D cs (wT b nm v) sz) (k2_QcV (.int (sc_X9_forfeitDay nm v today grace))) 0 0 (fun _ => False) := by
  refine c_in (P := pT b) (cc := cX9_forfeitDay) (maxL := 3) (ret := (some .int)) (lv := [(0, .ref (b 0)), (1, .int today), (2, .int grace)]) (by decide) rfl (Nat.le_of_ble_eq_true rfl) rfl ?_
  intro p e s m below meth c ls S hr hlocks hin hsz hP hK hl hS
  subst hsz
  obtain ⟨hx, hb, hml, hown, hts⟩ := id S
  have hX9 : ∀ w ∈ wsX90, w ∈ wsX9_forfeitDay := by decide +kernel
  refine lv_aload_n hx hb dX9_forfeitDay_0 rfl (lv_at hl 0 rfl) ?_
  refine va_get (D := D) (ci := 8) (v := .ref (b 1)) (C := RX9) (T := TX9) (N := 19) hx hb hts hX9 hown hK.1 hP 0 rfl rfl 6 (by decide) (hts (.fieldLink RX9 12 "PledgeHouse$Ticket" "term" "LPledgeHouse$Term;") (by decide +kernel)) (fun _ h9 => h9) rfl dX9_forfeitDay_1 ?_
  refine c_rd S hK (hP) (va_recv hK.1 hP (ci := 6) (q0 := 1) rfl rfl) (As := []) (rest := []) (cC_X7_lastDay l D cs b nm v _   ) (cwV 0 hts gX9_forfeitDay_X7_lastDay rfl rfl rfl (by decide +kernel) ⟨Nat.le_of_ble_eq_true rfl, Nat.le_of_ble_eq_true rfl⟩) rfl hl.1 rfl (Nat.le_of_ble_eq_true rfl) dX9_forfeitDay_4 ⟨Nat.zero_le _, Nat.zero_le _⟩ ?_
  refine lv_iload_n hx hb dX9_forfeitDay_7 rfl (lv_at hl 2 rfl) ?_
  refine lv_iadd hx hb dX9_forfeitDay_8 ?_
  refine lv_aload_n hx hb dX9_forfeitDay_9 rfl (lv_at hl 0 rfl) ?_
  refine lv_iload_n hx hb dX9_forfeitDay_10 rfl (lv_at hl 1 rfl) ?_
  refine c_rd S hK (hP) (va_recv hK.1 hP (ci := 8) (q0 := 0) rfl rfl) (As := [.int today]) (rest := [.int ((sc_X7_lastDay nm v) + grace)]) (cC_X9_claimedDaysIfDropped l D cs b nm v _  today ) (cwV 1 hts gX9_forfeitDay_X9_claimedDaysIfDropped rfl rfl rfl (by decide +kernel) ⟨Nat.le_of_ble_eq_true rfl, Nat.le_of_ble_eq_true rfl⟩) rfl hl.1 rfl (Nat.le_of_ble_eq_true rfl) dX9_forfeitDay_11 ⟨Nat.zero_le _, Nat.zero_le _⟩ ?_
  refine lv_iadd hx hb dX9_forfeitDay_14 ?_
  have hsp : sc_X9_forfeitDay nm v today grace = ((sc_X7_lastDay nm v) + grace) + (sc_X9_claimedDaysIfDropped nm v today) := rfl
  exact W.iret hx hb hr (fun t2 ht2 hW => ⟨by rw [hsp], ht2⟩) (fun q hq => by cases hq) dX9_forfeitDay_15 hlocks
def sc_X9_hasOverOn (nm : Int32) (v : Nat → Int32) (day : Int32) : Int32 :=
  if (v 12) ≤ 0 then
    0
  else
    if day < (v 30) then
      0
    else
      if (v 31) = (-1) then
        1
      else
        if (v 31) ≤ day then
          0
        else
          1
set_option maxHeartbeats 4000000 in
set_option maxRecDepth 100000 in
theorem cC_X9_hasOverOn (l : Launch) (D : va_G) (cs : Nat → ClassId) (b : Nat → Nat) (nm : Int32) (v : Nat → Int32) (sz : Nat) (day : Int32) : Met l yX9_hasOverOn wsX9_hasOverOn ({ frames := 0, cells := 0, slots := 0, locals := 0 }) (cPc [.ref (b 0), .int day] D cs (wT b nm v) sz) (k2_QcV (.int (sc_X9_hasOverOn nm v day))) 0 0 (fun _ => False) := by
  refine c_in (P := pT b) (cc := cX9_hasOverOn) (maxL := 2) (ret := (some .boolean)) (lv := [(0, .ref (b 0)), (1, .int day)]) (by decide) rfl (Nat.le_of_ble_eq_true rfl) rfl ?_
  intro p e s m below meth c ls S hr hlocks hin hsz hP hK hl hS
  subst hsz
  obtain ⟨hx, hb, hml, hown, hts⟩ := id S
  have hX9 : ∀ w ∈ wsX90, w ∈ wsX9_hasOverOn := by decide +kernel
  refine lv_aload_n hx hb dX9_hasOverOn_0 rfl (lv_at hl 0 rfl) ?_
  refine va_get (D := D) (ci := 8) (v := .int (v 12)) (C := RX9) (T := TX9) (N := 19) hx hb hts hX9 hown hK.1 hP 0 rfl rfl 15 (by decide) (hts (.fieldLink RX9 72 "PledgeHouse$Ticket" "over" "I") (by decide +kernel)) (fun _ h9 => h9) rfl dX9_hasOverOn_1 ?_
  refine lv_if_le (tgt := 35) hx hb dX9_hasOverOn_4 (by decide) (fun c_1 => ?_) (fun c_1 => ?_)
  · refine lv_iconst (v := 0) hx hb dX9_hasOverOn_35 (by decide) ?_
    have hsp : sc_X9_hasOverOn nm v day = 0 := by unfold sc_X9_hasOverOn; rw [if_pos c_1]
    exact W.zret hx hb hr (by decide) (fun t2 ht2 hW => ⟨by rw [hsp], ht2⟩) (fun q hq => by cases hq) dX9_hasOverOn_36 hlocks
  · refine lv_aload_n hx hb dX9_hasOverOn_7 rfl (lv_at hl 0 rfl) ?_
    refine va_get (D := D) (ci := 8) (v := .int (v 30)) (C := RX9) (T := TX9) (N := 19) hx hb hts hX9 hown hK.1 hP 0 rfl rfl 16 (by decide) (hts (.fieldLink RX9 31 "PledgeHouse$Ticket" "soldOn" "I") (by decide +kernel)) (fun _ h9 => h9) rfl dX9_hasOverOn_8 ?_
    refine lv_iload_n hx hb dX9_hasOverOn_11 rfl (lv_at hl 1 rfl) ?_
    refine lv_icmp_gt (tgt := 35) hx hb dX9_hasOverOn_12 (by decide) (fun c_2 => ?_) (fun c_2 => ?_)
    · refine lv_iconst (v := 0) hx hb dX9_hasOverOn_35 (by decide) ?_
      have hsp : sc_X9_hasOverOn nm v day = 0 := by unfold sc_X9_hasOverOn; rw [if_neg c_1, if_pos c_2]
      exact W.zret hx hb hr (by decide) (fun t2 ht2 hW => ⟨by rw [hsp], ht2⟩) (fun q hq => by cases hq) dX9_hasOverOn_36 hlocks
    · refine lv_aload_n hx hb dX9_hasOverOn_15 rfl (lv_at hl 0 rfl) ?_
      refine va_get (D := D) (ci := 8) (v := .int (v 31)) (C := RX9) (T := TX9) (N := 19) hx hb hts hX9 hown hK.1 hP 0 rfl rfl 18 (by decide) (hts (.fieldLink RX9 34 "PledgeHouse$Ticket" "fetchedOn" "I") (by decide +kernel)) (fun _ h9 => h9) rfl dX9_hasOverOn_16 ?_
      refine lv_iconst (v := (-1)) hx hb dX9_hasOverOn_19 (by decide) ?_
      refine lv_icmp_eq (tgt := 31) hx hb dX9_hasOverOn_20 (by decide) (fun c_3 => ?_) (fun c_3 => ?_)
      · refine lv_iconst (v := 1) hx hb dX9_hasOverOn_31 (by decide) ?_
        refine lv_goto (tgt := 36) hx hb dX9_hasOverOn_32 (by decide) ?_
        have hsp : sc_X9_hasOverOn nm v day = 1 := by unfold sc_X9_hasOverOn; rw [if_neg c_1, if_neg c_2, if_pos c_3]
        exact W.zret hx hb hr (by decide) (fun t2 ht2 hW => ⟨by rw [hsp], ht2⟩) (fun q hq => by cases hq) dX9_hasOverOn_36 hlocks
      · refine lv_aload_n hx hb dX9_hasOverOn_23 rfl (lv_at hl 0 rfl) ?_
        refine va_get (D := D) (ci := 8) (v := .int (v 31)) (C := RX9) (T := TX9) (N := 19) hx hb hts hX9 hown hK.1 hP 0 rfl rfl 18 (by decide) (hts (.fieldLink RX9 34 "PledgeHouse$Ticket" "fetchedOn" "I") (by decide +kernel)) (fun _ h9 => h9) rfl dX9_hasOverOn_24 ?_
        refine lv_iload_n hx hb dX9_hasOverOn_27 rfl (lv_at hl 1 rfl) ?_
        refine lv_icmp_le (tgt := 35) hx hb dX9_hasOverOn_28 (by decide) (fun c_4 => ?_) (fun c_4 => ?_)
        · refine lv_iconst (v := 0) hx hb dX9_hasOverOn_35 (by decide) ?_
          have hsp : sc_X9_hasOverOn nm v day = 0 := by unfold sc_X9_hasOverOn; rw [if_neg c_1, if_neg c_2, if_neg c_3, if_pos c_4]
          exact W.zret hx hb hr (by decide) (fun t2 ht2 hW => ⟨by rw [hsp], ht2⟩) (fun q hq => by cases hq) dX9_hasOverOn_36 hlocks
        · refine lv_iconst (v := 1) hx hb dX9_hasOverOn_31 (by decide) ?_
          refine lv_goto (tgt := 36) hx hb dX9_hasOverOn_32 (by decide) ?_
          have hsp : sc_X9_hasOverOn nm v day = 1 := by unfold sc_X9_hasOverOn; rw [if_neg c_1, if_neg c_2, if_neg c_3, if_neg c_4]
          exact W.zret hx hb hr (by decide) (fun t2 ht2 hW => ⟨by rw [hsp], ht2⟩) (fun q hq => by cases hq) dX9_hasOverOn_36 hlocks
def sc_X9_isKeptOver (nm : Int32) (v : Nat → Int32) (day : Int32) : Int32 :=
  if (sc_X9_hasOverOn nm v day) = 0 then
    0
  else
    if (v 14) < day then
      0
    else
      1
set_option maxHeartbeats 4000000 in
set_option maxRecDepth 100000 in
theorem cC_X9_isKeptOver (l : Launch) (D : va_G) (cs : Nat → ClassId) (b : Nat → Nat) (nm : Int32) (v : Nat → Int32) (sz : Nat) (day : Int32) : Met l yX9_isKeptOver wsX9_isKeptOver ({ frames := 1, cells := 0, slots := 0, locals := 21 }) (cPc [.ref (b 0), .int day] D cs (wT b nm v) sz) (k2_QcV (.int (sc_X9_isKeptOver nm v day))) 0 0 (fun _ => False) := by
  refine c_in (P := pT b) (cc := cX9_isKeptOver) (maxL := 2) (ret := (some .boolean)) (lv := [(0, .ref (b 0)), (1, .int day)]) (by decide) rfl (Nat.le_of_ble_eq_true rfl) rfl ?_
  intro p e s m below meth c ls S hr hlocks hin hsz hP hK hl hS
  subst hsz
  obtain ⟨hx, hb, hml, hown, hts⟩ := id S
  have hX9 : ∀ w ∈ wsX90, w ∈ wsX9_isKeptOver := by decide +kernel
  refine lv_aload_n hx hb dX9_isKeptOver_0 rfl (lv_at hl 0 rfl) ?_
  refine lv_iload_n hx hb dX9_isKeptOver_1 rfl (lv_at hl 1 rfl) ?_
  refine c_rd S hK (hP) (va_recv hK.1 hP (ci := 8) (q0 := 0) rfl rfl) (As := [.int day]) (rest := []) (cC_X9_hasOverOn l D cs b nm v _  day ) (cwV 1 hts gX9_isKeptOver_X9_hasOverOn rfl rfl rfl (by decide +kernel) ⟨Nat.le_of_ble_eq_true rfl, Nat.le_of_ble_eq_true rfl⟩) rfl hl.1 rfl (Nat.le_of_ble_eq_true rfl) dX9_isKeptOver_2 ⟨Nat.zero_le _, Nat.zero_le _⟩ ?_
  refine lv_if_eq (tgt := 20) hx hb dX9_isKeptOver_5 (by decide) (fun c_1 => ?_) (fun c_1 => ?_)
  · refine lv_iconst (v := 0) hx hb dX9_isKeptOver_20 (by decide) ?_
    have hsp : sc_X9_isKeptOver nm v day = 0 := by unfold sc_X9_isKeptOver; rw [if_pos c_1]
    exact W.zret hx hb hr (by decide) (fun t2 ht2 hW => ⟨by rw [hsp], ht2⟩) (fun q hq => by cases hq) dX9_isKeptOver_21 hlocks
  · refine lv_iload_n hx hb dX9_isKeptOver_8 rfl (lv_at hl 1 rfl) ?_
    refine lv_aload_n hx hb dX9_isKeptOver_9 rfl (lv_at hl 0 rfl) ?_
    refine va_get (D := D) (ci := 8) (v := .int (v 14)) (C := RX9) (T := TX9) (N := 19) hx hb hts hX9 hown hK.1 hP 0 rfl rfl 17 (by decide) (hts (.fieldLink RX9 75 "PledgeHouse$Ticket" "keptUpTo" "I") (by decide +kernel)) (fun _ h9 => h9) rfl dX9_isKeptOver_10 ?_
    refine lv_icmp_gt (tgt := 20) hx hb dX9_isKeptOver_13 (by decide) (fun c_2 => ?_) (fun c_2 => ?_)
    · refine lv_iconst (v := 0) hx hb dX9_isKeptOver_20 (by decide) ?_
      have hsp : sc_X9_isKeptOver nm v day = 0 := by unfold sc_X9_isKeptOver; rw [if_neg c_1, if_pos c_2]
      exact W.zret hx hb hr (by decide) (fun t2 ht2 hW => ⟨by rw [hsp], ht2⟩) (fun q hq => by cases hq) dX9_isKeptOver_21 hlocks
    · refine lv_iconst (v := 1) hx hb dX9_isKeptOver_16 (by decide) ?_
      refine lv_goto (tgt := 21) hx hb dX9_isKeptOver_17 (by decide) ?_
      have hsp : sc_X9_isKeptOver nm v day = 1 := by unfold sc_X9_isKeptOver; rw [if_neg c_1, if_neg c_2]
      exact W.zret hx hb hr (by decide) (fun t2 ht2 hW => ⟨by rw [hsp], ht2⟩) (fun q hq => by cases hq) dX9_isKeptOver_21 hlocks
def sc_X9_isHousesOver (nm : Int32) (v : Nat → Int32) (day : Int32) : Int32 :=
  if (sc_X9_hasOverOn nm v day) = 0 then
    0
  else
    if day ≤ (v 14) then
      0
    else
      1
set_option maxHeartbeats 4000000 in
set_option maxRecDepth 100000 in
theorem cC_X9_isHousesOver (l : Launch) (D : va_G) (cs : Nat → ClassId) (b : Nat → Nat) (nm : Int32) (v : Nat → Int32) (sz : Nat) (day : Int32) : Met l yX9_isHousesOver wsX9_isHousesOver ({ frames := 1, cells := 0, slots := 0, locals := 21 }) (cPc [.ref (b 0), .int day] D cs (wT b nm v) sz) (k2_QcV (.int (sc_X9_isHousesOver nm v day))) 0 0 (fun _ => False) := by
  refine c_in (P := pT b) (cc := cX9_isHousesOver) (maxL := 2) (ret := (some .boolean)) (lv := [(0, .ref (b 0)), (1, .int day)]) (by decide) rfl (Nat.le_of_ble_eq_true rfl) rfl ?_
  intro p e s m below meth c ls S hr hlocks hin hsz hP hK hl hS
  subst hsz
  obtain ⟨hx, hb, hml, hown, hts⟩ := id S
  have hX9 : ∀ w ∈ wsX90, w ∈ wsX9_isHousesOver := by decide +kernel
  refine lv_aload_n hx hb dX9_isHousesOver_0 rfl (lv_at hl 0 rfl) ?_
  refine lv_iload_n hx hb dX9_isHousesOver_1 rfl (lv_at hl 1 rfl) ?_
  refine c_rd S hK (hP) (va_recv hK.1 hP (ci := 8) (q0 := 0) rfl rfl) (As := [.int day]) (rest := []) (cC_X9_hasOverOn l D cs b nm v _  day ) (cwV 1 hts gX9_isHousesOver_X9_hasOverOn rfl rfl rfl (by decide +kernel) ⟨Nat.le_of_ble_eq_true rfl, Nat.le_of_ble_eq_true rfl⟩) rfl hl.1 rfl (Nat.le_of_ble_eq_true rfl) dX9_isHousesOver_2 ⟨Nat.zero_le _, Nat.zero_le _⟩ ?_
  refine lv_if_eq (tgt := 20) hx hb dX9_isHousesOver_5 (by decide) (fun c_1 => ?_) (fun c_1 => ?_)
  · refine lv_iconst (v := 0) hx hb dX9_isHousesOver_20 (by decide) ?_
    have hsp : sc_X9_isHousesOver nm v day = 0 := by unfold sc_X9_isHousesOver; rw [if_pos c_1]
    exact W.zret hx hb hr (by decide) (fun t2 ht2 hW => ⟨by rw [hsp], ht2⟩) (fun q hq => by cases hq) dX9_isHousesOver_21 hlocks
  · refine lv_iload_n hx hb dX9_isHousesOver_8 rfl (lv_at hl 1 rfl) ?_
    refine lv_aload_n hx hb dX9_isHousesOver_9 rfl (lv_at hl 0 rfl) ?_
    refine va_get (D := D) (ci := 8) (v := .int (v 14)) (C := RX9) (T := TX9) (N := 19) hx hb hts hX9 hown hK.1 hP 0 rfl rfl 17 (by decide) (hts (.fieldLink RX9 75 "PledgeHouse$Ticket" "keptUpTo" "I") (by decide +kernel)) (fun _ h9 => h9) rfl dX9_isHousesOver_10 ?_
    refine lv_icmp_le (tgt := 20) hx hb dX9_isHousesOver_13 (by decide) (fun c_2 => ?_) (fun c_2 => ?_)
    · refine lv_iconst (v := 0) hx hb dX9_isHousesOver_20 (by decide) ?_
      have hsp : sc_X9_isHousesOver nm v day = 0 := by unfold sc_X9_isHousesOver; rw [if_neg c_1, if_pos c_2]
      exact W.zret hx hb hr (by decide) (fun t2 ht2 hW => ⟨by rw [hsp], ht2⟩) (fun q hq => by cases hq) dX9_isHousesOver_21 hlocks
    · refine lv_iconst (v := 1) hx hb dX9_isHousesOver_16 (by decide) ?_
      refine lv_goto (tgt := 21) hx hb dX9_isHousesOver_17 (by decide) ?_
      have hsp : sc_X9_isHousesOver nm v day = 1 := by unfold sc_X9_isHousesOver; rw [if_neg c_1, if_neg c_2]
      exact W.zret hx hb hr (by decide) (fun t2 ht2 hW => ⟨by rw [hsp], ht2⟩) (fun q hq => by cases hq) dX9_isHousesOver_21 hlocks
def sc_X9_overState (nm : Int32) (v : Nat → Int32) (today : Int32) : Int32 :=
  if (v 31) = (-1) then
    if (sc_X9_isHousesOver nm v today) = 0 then
      0
    else
      2
  else
    1
set_option maxHeartbeats 4000000 in
set_option maxRecDepth 100000 in
theorem cC_X9_overState (l : Launch) (D : va_G) (cs : Nat → ClassId) (b : Nat → Nat) (nm : Int32) (v : Nat → Int32) (sz : Nat) (today : Int32) : Met l yX9_overState wsX9_overState ({ frames := 2, cells := 0, slots := 0, locals := 42 }) (cPc [.ref (b 0), .int today] D cs (wT b nm v) sz) (k2_QcV (.int (sc_X9_overState nm v today))) 0 0 (fun _ => False) := by
  refine c_in (P := pT b) (cc := cX9_overState) (maxL := 2) (ret := (some .int)) (lv := [(0, .ref (b 0)), (1, .int today)]) (by decide) rfl (Nat.le_of_ble_eq_true rfl) rfl ?_
  intro p e s m below meth c ls S hr hlocks hin hsz hP hK hl hS
  subst hsz
  obtain ⟨hx, hb, hml, hown, hts⟩ := id S
  have hX9 : ∀ w ∈ wsX90, w ∈ wsX9_overState := by decide +kernel
  refine lv_aload_n hx hb dX9_overState_0 rfl (lv_at hl 0 rfl) ?_
  refine va_get (D := D) (ci := 8) (v := .int (v 31)) (C := RX9) (T := TX9) (N := 19) hx hb hts hX9 hown hK.1 hP 0 rfl rfl 18 (by decide) (hts (.fieldLink RX9 34 "PledgeHouse$Ticket" "fetchedOn" "I") (by decide +kernel)) (fun _ h9 => h9) rfl dX9_overState_1 ?_
  refine lv_iconst (v := (-1)) hx hb dX9_overState_4 (by decide) ?_
  refine lv_icmp_eq (tgt := 10) hx hb dX9_overState_5 (by decide) (fun c_1 => ?_) (fun c_1 => ?_)
  · refine lv_aload_n hx hb dX9_overState_10 rfl (lv_at hl 0 rfl) ?_
    refine lv_iload_n hx hb dX9_overState_11 rfl (lv_at hl 1 rfl) ?_
    refine c_rd S hK (hP) (va_recv hK.1 hP (ci := 8) (q0 := 0) rfl rfl) (As := [.int today]) (rest := []) (cC_X9_isHousesOver l D cs b nm v _  today ) (cwV 1 hts gX9_overState_X9_isHousesOver rfl rfl rfl (by decide +kernel) ⟨Nat.le_of_ble_eq_true rfl, Nat.le_of_ble_eq_true rfl⟩) rfl hl.1 rfl (Nat.le_of_ble_eq_true rfl) dX9_overState_12 ⟨Nat.zero_le _, Nat.zero_le _⟩ ?_
    refine lv_if_eq (tgt := 22) hx hb dX9_overState_15 (by decide) (fun c_2 => ?_) (fun c_2 => ?_)
    · refine lv_iconst (v := 0) hx hb dX9_overState_22 (by decide) ?_
      have hsp : sc_X9_overState nm v today = 0 := by unfold sc_X9_overState; rw [if_pos c_1, if_pos c_2]
      exact W.iret hx hb hr (fun t2 ht2 hW => ⟨by rw [hsp], ht2⟩) (fun q hq => by cases hq) dX9_overState_23 hlocks
    · refine lv_iconst (v := 2) hx hb dX9_overState_18 (by decide) ?_
      refine lv_goto (tgt := 23) hx hb dX9_overState_19 (by decide) ?_
      have hsp : sc_X9_overState nm v today = 2 := by unfold sc_X9_overState; rw [if_pos c_1, if_neg c_2]
      exact W.iret hx hb hr (fun t2 ht2 hW => ⟨by rw [hsp], ht2⟩) (fun q hq => by cases hq) dX9_overState_23 hlocks
  · refine lv_iconst (v := 1) hx hb dX9_overState_8 (by decide) ?_
    have hsp : sc_X9_overState nm v today = 1 := by unfold sc_X9_overState; rw [if_neg c_1]
    exact W.iret hx hb hr (fun t2 ht2 hW => ⟨by rw [hsp], ht2⟩) (fun q hq => by cases hq) dX9_overState_9 hlocks
