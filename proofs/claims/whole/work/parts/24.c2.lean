/-! the class: the books (by cwalk.py) -/
def sc_X0_countBehind (RW : Nat → Nat → Int64) (count : Int32) : Int32 :=
  if 513 < (count + 1) then 513 else (count + 1)
set_option maxHeartbeats 4000000 in
set_option maxRecDepth 100000 in
theorem cC_X0_countBehind (l : Launch) (D : va_G) (cs : Nat → ClassId) (k : Nat → Nat) (r : Nat → Nat) (RW : Nat → Nat → Int64) (sz : Nat) (count : Int32) : Met l yX0_countBehind wsX0_countBehind ({ frames := 1, cells := 0, slots := 0, locals := 21 }) (cPc [.ref (k 0), .int count] D cs ([] ++ wB k r cs RW) sz) (k2_QcV (.int (sc_X0_countBehind RW count))) 0 0 (fun _ => False) := by
  refine c_in (P := pB k r) (cc := cX0_countBehind) (maxL := 2) (ret := (some .int)) (lv := [(0, .ref (k 0)), (1, .int count)]) (by decide) rfl (Nat.le_of_ble_eq_true rfl) rfl ?_
  intro p e s m below meth c ls S hr hlocks hin hsz hP hK hl hS
  subst hsz
  obtain ⟨hx, hb, hml, hown, hts⟩ := id S
  refine lv_iload_n hx hb dX0_countBehind_0 rfl (lv_at hl 1 rfl) ?_
  refine lv_iconst (v := 1) hx hb dX0_countBehind_1 (by decide) ?_
  refine lv_iadd hx hb dX0_countBehind_2 ?_
  refine lv_sipush (v := 513) hx hb dX0_countBehind_3 (by decide) ?_
  refine va_mmin hx hb (hml.trans hl.1.symm) hown (hts (.methodLink RX0 14 Lib.Math.min.name) (by decide +kernel)) (hts (.static Lib.Math.min.name) (by decide +kernel)) (hts (.initialized "java/lang/Math") (by decide +kernel)) (hts (.code Lib.Math.min.name Lib.Math.min.code 2 (some .int)) (by decide +kernel)) (Nat.le_of_ble_eq_true rfl) (Nat.le_of_ble_eq_true rfl) (Nat.zero_le _) (Nat.zero_le _) dX0_countBehind_6 ?_
  have hsp : sc_X0_countBehind RW count = if 513 < (count + 1) then 513 else (count + 1) := rfl
  exact W.iret hx hb hr (fun t2 ht2 hW => ⟨by rw [hsp], ht2⟩) (fun q hq => by cases hq) dX0_countBehind_9 hlocks
def sc_X0_total (RW : Nat → Nat → Int64) (what : Int32) (upTo : Int32) : Int64 :=
  if upTo < 1 then
    0
  else
    if 513 < upTo then
      0
    else
      if what < 0 then
        0
      else
        if what < 14 then
          RW (tN upTo - 1) (tN what)
        else
          0
set_option maxHeartbeats 4000000 in
set_option maxRecDepth 100000 in
theorem cC_X0_total (l : Launch) (D : va_G) (cs : Nat → ClassId) (k : Nat → Nat) (r : Nat → Nat) (RW : Nat → Nat → Int64) (sz : Nat) (what : Int32) (upTo : Int32) : Met l yX0_total wsX0_total ({ frames := 0, cells := 0, slots := 0, locals := 0 }) (cPc [.ref (k 0), .int what, .int upTo] D cs ([] ++ wB k r cs RW) sz) (k2_QcV (.long (sc_X0_total RW what upTo))) 0 0 (fun _ => False) := by
  refine c_in (P := pB k r) (cc := cX0_total) (maxL := 3) (ret := (some .long)) (lv := [(0, .ref (k 0)), (1, .int what), (2, .int upTo)]) (by decide) rfl (Nat.le_of_ble_eq_true rfl) rfl ?_
  intro p e s m below meth c ls S hr hlocks hin hsz hP hK hl hS
  subst hsz
  obtain ⟨hx, hb, hml, hown, hts⟩ := id S
  have hX0 : ∀ w ∈ wsX00, w ∈ wsX0_total := by decide +kernel
  refine lv_iload_n hx hb dX0_total_0 rfl (lv_at hl 2 rfl) ?_
  refine lv_iconst (v := 1) hx hb dX0_total_1 (by decide) ?_
  refine lv_icmp_lt (tgt := 22) hx hb dX0_total_2 (by decide) (fun c_1 => ?_) (fun c_1 => ?_)
  · refine lv_lconst (v := 0) hx hb dX0_total_22 (by decide) ?_
    have hsp : sc_X0_total RW what upTo = 0 := by unfold sc_X0_total; rw [if_pos c_1]
    exact W.lret hx hb hr (fun t2 ht2 hW => ⟨by rw [hsp], ht2⟩) (fun q hq => by cases hq) dX0_total_23 hlocks
  · refine lv_iload_n hx hb dX0_total_5 rfl (lv_at hl 2 rfl) ?_
    refine lv_sipush (v := 513) hx hb dX0_total_6 (by decide) ?_
    refine lv_icmp_gt (tgt := 22) hx hb dX0_total_9 (by decide) (fun c_2 => ?_) (fun c_2 => ?_)
    · refine lv_lconst (v := 0) hx hb dX0_total_22 (by decide) ?_
      have hsp : sc_X0_total RW what upTo = 0 := by unfold sc_X0_total; rw [if_neg c_1, if_pos c_2]
      exact W.lret hx hb hr (fun t2 ht2 hW => ⟨by rw [hsp], ht2⟩) (fun q hq => by cases hq) dX0_total_23 hlocks
    · refine lv_iload_n hx hb dX0_total_12 rfl (lv_at hl 1 rfl) ?_
      refine lv_if_lt (tgt := 22) hx hb dX0_total_13 (by decide) (fun c_3 => ?_) (fun c_3 => ?_)
      · refine lv_lconst (v := 0) hx hb dX0_total_22 (by decide) ?_
        have hsp : sc_X0_total RW what upTo = 0 := by unfold sc_X0_total; rw [if_neg c_1, if_neg c_2, if_pos c_3]
        exact W.lret hx hb hr (fun t2 ht2 hW => ⟨by rw [hsp], ht2⟩) (fun q hq => by cases hq) dX0_total_23 hlocks
      · refine lv_iload_n hx hb dX0_total_16 rfl (lv_at hl 1 rfl) ?_
        refine lv_bipush (v := 14) hx hb dX0_total_17 (by decide) ?_
        refine lv_icmp_lt (tgt := 24) hx hb dX0_total_19 (by decide) (fun c_4 => ?_) (fun c_4 => ?_)
        · refine lv_aload_n hx hb dX0_total_24 rfl (lv_at hl 0 rfl) ?_
          refine va_get (D := D) (ci := 0) (v := .ref (k 1)) (C := RX0) (T := TX0) (N := 1) hx hb hts hX0 hown hK.1 (vaR hP) 0 rfl rfl 0 (by decide) (hts (.fieldLink RX0 11 "PledgeHouse$Books" "rows" "[[J") (by decide +kernel)) (fun _ h9 => h9) rfl dX0_total_25 ?_
          refine lv_iload_n hx hb dX0_total_28 rfl (lv_at hl 2 rfl) ?_
          refine lv_iconst (v := 1) hx hb dX0_total_29 (by decide) ?_
          refine lv_isub hx hb dX0_total_30 ?_
          refine b_aald hx hb hK.1 hP (tN upTo - 1) (ix_pred c_1 c_2).1 (ix_pred c_1 c_2).2 dX0_total_31 ?_
          refine lv_iload_n hx hb dX0_total_32 rfl (lv_at hl 1 rfl) ?_
          refine b_lald hx hb hK.1 hP (tN upTo - 1) (tN what) (ix_pred c_1 c_2).2 (ix_lt (n := 14) rfl (by decide) c_3 (Int32.not_le.mpr c_4)).1 (Nat.lt_trans (ix_lt (n := 14) rfl (by decide) c_3 (Int32.not_le.mpr c_4)).2 (by decide)) (v := RW (tN upTo - 1) (tN what)) rfl dX0_total_33 ?_
          have hsp : sc_X0_total RW what upTo = RW (tN upTo - 1) (tN what) := by unfold sc_X0_total; rw [if_neg c_1, if_neg c_2, if_neg c_3, if_pos c_4]
          exact W.lret hx hb hr (fun t2 ht2 hW => ⟨by rw [hsp], ht2⟩) (fun q hq => by cases hq) dX0_total_34 hlocks
        · refine lv_lconst (v := 0) hx hb dX0_total_22 (by decide) ?_
          have hsp : sc_X0_total RW what upTo = 0 := by unfold sc_X0_total; rw [if_neg c_1, if_neg c_2, if_neg c_3, if_neg c_4]
          exact W.lret hx hb hr (fun t2 ht2 hW => ⟨by rw [hsp], ht2⟩) (fun q hq => by cases hq) dX0_total_23 hlocks
def sc_X0_grown (RW : Nat → Nat → Int64) (i : Nat) (o : Nat) (day : Int32) : Int64 :=
  (RW i (o + 2)) + ((RW i (o + 1)) * ((sc_X7_begunUpTo (RW i (o + 0)) day.toInt64).toInt64))
set_option maxHeartbeats 4000000 in
set_option maxRecDepth 100000 in
theorem cC_X0_grown (l : Launch) (D : va_G) (cs : Nat → ClassId) (k : Nat → Nat) (r : Nat → Nat) (RW : Nat → Nat → Int64) (sz : Nat) (i : Nat) (o : Nat) (day : Int32) (hi : i < 513) (ho : o ≤ 18) : Met l yX0_grown wsX0_grown ({ frames := 1, cells := 0, slots := 0, locals := 23 }) (cPc [.ref (r i), .int (nI o), .int day] D cs ([] ++ wB k r cs RW) sz) (k2_QcV (.long (sc_X0_grown RW i o day))) 0 0 (fun _ => False) := by
  refine c_in (P := pB k r) (cc := cX0_grown) (maxL := 3) (ret := (some .long)) (lv := [(0, .ref (r i)), (1, .int (nI o)), (2, .int day)]) (by decide) rfl (Nat.le_of_ble_eq_true rfl) rfl ?_
  intro p e s m below meth c ls S hr hlocks hin hsz hP hK hl hS
  subst hsz
  obtain ⟨hx, hb, hml, hown, hts⟩ := id S
  refine lv_aload_n hx hb dX0_grown_0 rfl (lv_at hl 0 rfl) ?_
  refine lv_iload_n hx hb dX0_grown_1 rfl (lv_at hl 1 rfl) ?_
  refine lv_iconst (v := 2) hx hb dX0_grown_2 (by decide) ?_
  refine lv_iadd hx hb dX0_grown_3 ?_
  refine b_lald hx hb hK.1 hP i (o + 2) hi (ix_add rfl rfl) (by omega) (v := RW i (o + 2)) rfl dX0_grown_4 ?_
  refine lv_aload_n hx hb dX0_grown_5 rfl (lv_at hl 0 rfl) ?_
  refine lv_iload_n hx hb dX0_grown_6 rfl (lv_at hl 1 rfl) ?_
  refine lv_iconst (v := 1) hx hb dX0_grown_7 (by decide) ?_
  refine lv_iadd hx hb dX0_grown_8 ?_
  refine b_lald hx hb hK.1 hP i (o + 1) hi (ix_add rfl rfl) (by omega) (v := RW i (o + 1)) rfl dX0_grown_9 ?_
  refine lv_aload_n hx hb dX0_grown_10 rfl (lv_at hl 0 rfl) ?_
  refine lv_iload_n hx hb dX0_grown_11 rfl (lv_at hl 1 rfl) ?_
  refine lv_iconst (v := 0) hx hb dX0_grown_12 (by decide) ?_
  refine lv_iadd hx hb dX0_grown_13 ?_
  refine b_lald hx hb hK.1 hP i (o + 0) hi (ix_add rfl rfl) (by omega) (v := RW i (o + 0)) rfl dX0_grown_14 ?_
  refine lv_iload_n hx hb dX0_grown_15 rfl (lv_at hl 2 rfl) ?_
  refine lv_i2l (v := day.toInt64) hx hb dX0_grown_16 rfl ?_
  refine m_st S (As := [.long (RW i (o + 0)), .long day.toInt64]) (rest := [.long (RW i (o + 1)), .long (RW i (o + 2))]) (cC_X7_begunUpTo l (RW i (o + 0)) day.toInt64) (va_cwS 2 hts gX0_grown_X7_begunUpTo rfl rfl rfl (by decide +kernel) ⟨Nat.le_of_ble_eq_true rfl, Nat.le_of_ble_eq_true rfl⟩) rfl hl.1 rfl (Nat.le_of_ble_eq_true rfl) dX0_grown_17 ⟨Nat.zero_le _, Nat.zero_le _⟩ ?_
  refine lv_i2l (v := (sc_X7_begunUpTo (RW i (o + 0)) day.toInt64).toInt64) hx hb dX0_grown_20 rfl ?_
  refine lv_lmul hx hb dX0_grown_21 ?_
  refine lv_ladd hx hb dX0_grown_22 ?_
  have hsp : sc_X0_grown RW i o day = (RW i (o + 2)) + ((RW i (o + 1)) * ((sc_X7_begunUpTo (RW i (o + 0)) day.toInt64).toInt64)) := rfl
  exact W.lret hx hb hr (fun t2 ht2 hW => ⟨by rw [hsp], ht2⟩) (fun q hq => by cases hq) dX0_grown_23 hlocks
def sc_X0_writeGrowing (nm : Int32) (v : Nat → Int32) (RW : Nat → Nat → Int64) (i : Nat) (o : Nat) : (Nat → Int32) × (Nat → Nat → Int64) :=
  (v, rwp (rwp (rwp RW i (o + 0) ((v 4).toInt64)) i (o + 1) ((sc_X7_growth nm v (v 1)).toInt64)) i (o + 2) (((v 2).toInt64) - (((sc_X7_growth nm v (v 1)).toInt64) * ((v 3).toInt64))))
set_option maxHeartbeats 4000000 in
set_option maxRecDepth 100000 in
theorem cC_X0_writeGrowing (l : Launch) (D : va_G) (cs : Nat → ClassId) (b : Nat → Nat) (nm : Int32) (v : Nat → Int32) (k : Nat → Nat) (r : Nat → Nat) (RW : Nat → Nat → Int64) (sz : Nat) (ib : iT b) (ik : iB k r) (d : dTB b k r) (i : Nat) (o : Nat) (hi : i < 513) (ho : o ≤ 18) : Met l yX0_writeGrowing wsX0_writeGrowing ({ frames := 2, cells := 0, slots := 0, locals := 42 }) (cPc [.ref (r i), .int (nI o), .ref (b 0)] D cs (wT b nm v ++ wB k r cs RW) sz) (cQ D none (wT b nm ((sc_X0_writeGrowing nm v RW i o).1) ++ wB k r cs ((sc_X0_writeGrowing nm v RW i o).2)) (adA (pOr (pT b) (pB k r)) sz)) 0 0 (adA (pOr (pT b) (pB k r)) sz) := by
  refine c_in (P := pOr (pT b) (pB k r)) (cc := cX0_writeGrowing) (maxL := 5) (ret := none) (lv := [(0, .ref (r i)), (1, .int (nI o)), (2, .ref (b 0))]) (by decide) rfl (Nat.le_of_ble_eq_true rfl) rfl ?_
  intro p e s m below meth c ls S hr hlocks hin hsz hP hK hl hS
  subst hsz
  obtain ⟨hx, hb, hml, hown, hts⟩ := id S
  have hX7 : ∀ w ∈ wsX70, w ∈ wsX0_writeGrowing := by decide +kernel
  have hX9 : ∀ w ∈ wsX90, w ∈ wsX0_writeGrowing := by decide +kernel
  refine lv_aload_n hx hb dX0_writeGrowing_0 rfl (lv_at hl 2 rfl) ?_
  refine va_get (D := D) (ci := 8) (v := .ref (b 1)) (C := RX9) (T := TX9) (N := 19) hx hb hts hX9 hown hK.1 hP 0 rfl rfl 6 (by decide) (hts (.fieldLink RX0 23 "PledgeHouse$Ticket" "term" "LPledgeHouse$Term;") (by decide +kernel)) (fun _ h9 => h9) rfl dX0_writeGrowing_1 ?_
  refine lv_aload_n hx hb dX0_writeGrowing_4 rfl (lv_at hl 2 rfl) ?_
  refine va_get (D := D) (ci := 8) (v := .int (v 1)) (C := RX9) (T := TX9) (N := 19) hx hb hts hX9 hown hK.1 hP 0 rfl rfl 4 (by decide) (hts (.fieldLink RX0 29 "PledgeHouse$Ticket" "principal" "I") (by decide +kernel)) (fun _ h9 => h9) rfl dX0_writeGrowing_5 ?_
  refine c_rd S hK (show va_P D vwCl (wT b nm v) _ from vaL hP) (va_recv hK.1 hP (ci := 6) (q0 := 1) rfl rfl) (As := [.int (v 1)]) (rest := []) (cC_X7_growth l D cs b nm v _  (v 1) ) (cwV 1 hts gX0_writeGrowing_X7_growth rfl rfl rfl (by decide +kernel) ⟨Nat.le_of_ble_eq_true rfl, Nat.le_of_ble_eq_true rfl⟩) rfl hl.1 rfl (Nat.le_of_ble_eq_true rfl) dX0_writeGrowing_8 ⟨Nat.zero_le _, Nat.zero_le _⟩ ?_
  refine lv_i2l (v := (sc_X7_growth nm v (v 1)).toInt64) hx hb dX0_writeGrowing_11 rfl ?_
  refine lv_lstore_n (lv' := [(3, .long ((sc_X7_growth nm v (v 1)).toInt64)), (0, .ref (r i)), (1, .int (nI o)), (2, .ref (b 0))]) hx hb dX0_writeGrowing_12 rfl hl (by decide) rfl (fun ls hl => ?_)
  refine lv_aload_n hx hb dX0_writeGrowing_13 rfl (lv_at hl 1 rfl) ?_
  refine lv_iload_n hx hb dX0_writeGrowing_14 rfl (lv_at hl 2 rfl) ?_
  refine lv_iconst (v := 0) hx hb dX0_writeGrowing_15 (by decide) ?_
  refine lv_iadd hx hb dX0_writeGrowing_16 ?_
  refine lv_aload_n hx hb dX0_writeGrowing_17 rfl (lv_at hl 3 rfl) ?_
  refine va_get (D := D) (ci := 8) (v := .ref (b 1)) (C := RX9) (T := TX9) (N := 19) hx hb hts hX9 hown hK.1 hP 0 rfl rfl 6 (by decide) (hts (.fieldLink RX0 23 "PledgeHouse$Ticket" "term" "LPledgeHouse$Term;") (by decide +kernel)) (fun _ h9 => h9) rfl dX0_writeGrowing_18 ?_
  refine va_get (D := D) (ci := 6) (v := .int (v 4)) (C := RX7) (T := TX7) (N := 6) hx hb hts hX7 hown hK.1 hP 1 rfl rfl 0 (by decide) (hts (.fieldLink RX0 39 "PledgeHouse$Term" "start" "I") (by decide +kernel)) (fun _ h9 => h9) rfl dX0_writeGrowing_21 ?_
  refine lv_i2l (v := (v 4).toInt64) hx hb dX0_writeGrowing_24 rfl ?_
  refine b_last hx hb hK.1 hP (wTB_D ib ik d s.heap.size) hS i (o + 0) hi (ix_add rfl rfl) (by omega) dX0_writeGrowing_25 (fun H locs hP hS => ?_)
  refine lv_aload_n hx hb dX0_writeGrowing_26 rfl (lv_at hl 1 rfl) ?_
  refine lv_iload_n hx hb dX0_writeGrowing_27 rfl (lv_at hl 2 rfl) ?_
  refine lv_iconst (v := 1) hx hb dX0_writeGrowing_28 (by decide) ?_
  refine lv_iadd hx hb dX0_writeGrowing_29 ?_
  refine lv_lload_n hx hb dX0_writeGrowing_30 rfl (lv_at hl 0 rfl) ?_
  refine b_last hx hb hK.1 hP (wTB_D ib ik d s.heap.size) hS i (o + 1) hi (ix_add rfl rfl) (by omega) dX0_writeGrowing_31 (fun H locs hP hS => ?_)
  refine lv_aload_n hx hb dX0_writeGrowing_32 rfl (lv_at hl 1 rfl) ?_
  refine lv_iload_n hx hb dX0_writeGrowing_33 rfl (lv_at hl 2 rfl) ?_
  refine lv_iconst (v := 2) hx hb dX0_writeGrowing_34 (by decide) ?_
  refine lv_iadd hx hb dX0_writeGrowing_35 ?_
  refine lv_aload_n hx hb dX0_writeGrowing_36 rfl (lv_at hl 3 rfl) ?_
  refine va_get (D := D) (ci := 8) (v := .ref (b 1)) (C := RX9) (T := TX9) (N := 19) hx hb hts hX9 hown hK.1 hP 0 rfl rfl 6 (by decide) (hts (.fieldLink RX0 23 "PledgeHouse$Ticket" "term" "LPledgeHouse$Term;") (by decide +kernel)) (fun _ h9 => h9) rfl dX0_writeGrowing_37 ?_
  refine va_get (D := D) (ci := 6) (v := .int (v 2)) (C := RX7) (T := TX7) (N := 6) hx hb hts hX7 hown hK.1 hP 1 rfl rfl 4 (by decide) (hts (.fieldLink RX0 42 "PledgeHouse$Term" "interest" "I") (by decide +kernel)) (fun _ h9 => h9) rfl dX0_writeGrowing_40 ?_
  refine lv_i2l (v := (v 2).toInt64) hx hb dX0_writeGrowing_43 rfl ?_
  refine lv_lload_n hx hb dX0_writeGrowing_44 rfl (lv_at hl 0 rfl) ?_
  refine lv_aload_n hx hb dX0_writeGrowing_45 rfl (lv_at hl 3 rfl) ?_
  refine va_get (D := D) (ci := 8) (v := .ref (b 1)) (C := RX9) (T := TX9) (N := 19) hx hb hts hX9 hown hK.1 hP 0 rfl rfl 6 (by decide) (hts (.fieldLink RX0 23 "PledgeHouse$Ticket" "term" "LPledgeHouse$Term;") (by decide +kernel)) (fun _ h9 => h9) rfl dX0_writeGrowing_46 ?_
  refine va_get (D := D) (ci := 6) (v := .int (v 3)) (C := RX7) (T := TX7) (N := 6) hx hb hts hX7 hown hK.1 hP 1 rfl rfl 3 (by decide) (hts (.fieldLink RX0 45 "PledgeHouse$Term" "begun" "I") (by decide +kernel)) (fun _ h9 => h9) rfl dX0_writeGrowing_49 ?_
  refine lv_i2l (v := (v 3).toInt64) hx hb dX0_writeGrowing_52 rfl ?_
  refine lv_lmul hx hb dX0_writeGrowing_53 ?_
  refine lv_lsub hx hb dX0_writeGrowing_54 ?_
  refine b_last hx hb hK.1 hP (wTB_D ib ik d s.heap.size) hS i (o + 2) hi (ix_add rfl rfl) (by omega) dX0_writeGrowing_55 (fun H locs hP hS => ?_)
  have hsp : sc_X0_writeGrowing nm v RW i o = (v, rwp (rwp (rwp RW i (o + 0) ((v 4).toInt64)) i (o + 1) ((sc_X7_growth nm v (v 1)).toInt64)) i (o + 2) (((v 2).toInt64) - (((sc_X7_growth nm v (v 1)).toInt64) * ((v 3).toInt64)))) := rfl
  exact W.vret hx hb hr (fun t2 ht2 hW => by rw [hsp]; exact ⟨rfl, by rw [ht2]; exact hP, hS.F ht2⟩) hS.2.2 dX0_writeGrowing_56 hlocks
theorem tN_lim {c : Int32} {x : Int32} {n : Nat} (hc : c = nI n) (hn : n < 2 ^ 31) (h : ¬ c < x) (h0 : ¬ x < 0) : tN x ≤ n := by
  obtain ⟨j, hj, rfl⟩ := nI_of (x := x) h0
  rw [tN_n hj]
  rw [hc] at h
  exact Nat.not_lt.mp (fun z => h ((nI_ltI hn hj).mpr z))
theorem mn_nI {x y : Nat} (hx : x < 2 ^ 31) (hy : y < 2 ^ 31) : (if nI y < nI x then nI y else nI x) = nI (min x y) := by
  by_cases h : y < x
  · rw [if_pos ((nI_ltI hy hx).mpr h), Nat.min_eq_right (Nat.le_of_lt h)]
  · rw [if_neg (fun z => h ((nI_ltI hy hx).mp z)), Nat.min_eq_left (Nat.le_of_not_lt h)]
theorem rb_at {rc : Nat} (h : rc ≤ 512) : (if (0 : Int32) < (if (512 : Int32) < (nI rc) then (512 : Int32) else (nI rc)) then (if (512 : Int32) < (nI rc) then (512 : Int32) else (nI rc)) else 0) = nI rc := by
  have e : (if (512 : Int32) < (nI rc) then (512 : Int32) else (nI rc)) = nI rc := by
    rw [show (512 : Int32) = nI 512 from rfl, mn_nI (by omega) (by omega), Nat.min_eq_left h]
  rw [e]
  by_cases h0 : 0 < rc
  · exact if_pos ((nI_ltI (a := 0) (b := rc) (by omega) (by omega)).mpr h0)
  · obtain rfl : rc = 0 := by omega
    rfl
/-- a new row: the totals of the one before, and nothing else -/
def rowF (RW : Nat → Nat → Int64) (rc : Nat) : Nat → Int64 := fun j => if 0 < rc then (if j < 14 then RW (rc - 1) j else 0) else 0
def rowN (RW : Nat → Nat → Int64) (rc n : Nat) : Nat → Nat → Int64 := updR RW rc (mix (rowF RW rc) (RW rc) n)
theorem rowN_0 (RW : Nat → Nat → Int64) (rc : Nat) : rowN RW rc 0 = RW := by
  unfold rowN
  rw [mix_0]
  funext j
  unfold updR
  by_cases h : j = rc
  · rw [if_pos h, h]
  · rw [if_neg h]
theorem rowN_s {RW : Nat → Nat → Int64} {rc n : Nat} {x : Int64} (h : rowF RW rc n = x) : rwp (rowN RW rc n) rc n x = rowN RW rc (n + 1) := by
  unfold rwp rowN
  rw [← h, show updR RW rc (mix (rowF RW rc) (RW rc) n) rc = mix (rowF RW rc) (RW rc) n from if_pos rfl, mix_l]
  funext j
  unfold updR
  by_cases h : j = rc
  · rw [if_pos h, if_pos h]
  · rw [if_neg h, if_neg h, if_neg h]
theorem rowN_ne {RW : Nat → Nat → Int64} {rc n j i : Nat} (h : 0 < rc) (hj : j = rc - 1) : rowN RW rc n j i = RW (rc - 1) i := by
  unfold rowN updR
  rw [hj, if_neg (by omega)]
def sc_X0_rowBehind (RW : Nat → Nat → Int64) (rc : Nat) (today : Int32) : Nat → Nat → Int64 := rwp (rowN RW rc 21) rc 20 today.toInt64
/-- how many of the rows are of no later day -/
def upN (RW : Nat → Nat → Int64) (day : Int32) : Nat → Nat
  | 0 => 0
  | n + 1 => if RW n 20 ≤ day.toInt64 then n + 1 else upN RW day n
theorem upN_le (RW : Nat → Nat → Int64) (day : Int32) : ∀ n, upN RW day n ≤ n
  | 0 => Nat.le_refl _
  | n + 1 => by
    unfold upN
    split
    · exact Nat.le_refl _
    · exact Nat.le_succ_of_le (upN_le RW day n)
/-- the interest of the first rows -/
def inN (RW : Nat → Nat → Int64) (day : Int32) : Nat → Int64
  | 0 => 0
  | i + 1 => inN RW day i + (sc_X0_grown RW i 17 day - sc_X0_grown RW i 14 day)
-- rowBehind above
set_option maxHeartbeats 4000000 in
set_option maxRecDepth 100000 in
theorem cC_X0_rowBehind (l : Launch) (D : va_G) (cs : Nat → ClassId) (k : Nat → Nat) (r : Nat → Nat) (RW : Nat → Nat → Int64) (sz : Nat) (ik : iB k r) (rc : Nat) (today : Int32) (hrc : rc ≤ 512) : Met l yX0_rowBehind wsX0_rowBehind ({ frames := 1, cells := 0, slots := 0, locals := 21 }) (cPc [.ref (k 0), .int (nI rc), .int today] D cs ([] ++ wB k r cs RW) sz) (cQ D (some (.ref (r rc))) ([] ++ wB k r cs (sc_X0_rowBehind RW rc today)) (adA (pB k r) sz)) 0 0 (adA (pB k r) sz) := by
  refine c_in (P := pB k r) (cc := cX0_rowBehind) (maxL := 6) (ret := (some (.array .long))) (lv := [(0, .ref (k 0)), (1, .int (nI rc)), (2, .int today)]) (by decide) rfl (Nat.le_of_ble_eq_true rfl) rfl ?_
  intro p e s m below meth c ls S hr hlocks hin hsz hP hK hl hS
  subst hsz
  obtain ⟨hx, hb, hml, hown, hts⟩ := id S
  have hX0 : ∀ w ∈ wsX00, w ∈ wsX0_rowBehind := by decide +kernel
  have loop : ∀ (n i : Nat) (H : Heap) (locs : List Loc) (ls : Array Slot), i + n = 21 → va_P D vwCl ([] ++ wB k r cs (rowN RW rc i)) H → va_S (adA (pB k r) s.heap.size) s.heap H locs → lv_has ls 6 [(0, .ref (k 0)), (1, .int (nI rc)), (2, .int today), (3, .int (nI rc)), (4, .ref (r rc)), (5, .int (nI i))] → W p l e ({ frames := 1, cells := 0, slots := 0, locals := 21 }) s m [.ref (k 0), .int (nI rc), .int today].toArray below meth c H locs 0 0 (MQ below (cQ D (some (.ref (r rc))) ([] ++ wB k r cs (sc_X0_rowBehind RW rc today)) (adA (pB k r) s.heap.size)) [.ref (k 0), .int (nI rc), .int today].toArray s 0 0 (adA (pB k r) s.heap.size)) (F0 m 23 ls []) := by
    intro n
    induction n with
    | zero =>
      intro i H locs ls hn hP hS hl
      obtain rfl : 21 = i := by omega
      refine lv_iload hx hb dX0_rowBehind_23 (lv_at hl 5 rfl) ?_
      refine lv_bipush (v := 21) hx hb dX0_rowBehind_25 (by decide) ?_
      refine lv_icmp_ge (tgt := 67) hx hb dX0_rowBehind_27 (by decide) (fun c_1 => ?_) (fun c_1 => ?_)
      · refine lv_aload hx hb dX0_rowBehind_67 (lv_at hl 4 rfl) ?_
        refine lv_bipush (v := 20) hx hb dX0_rowBehind_69 (by decide) ?_
        refine lv_iload_n hx hb dX0_rowBehind_71 rfl (lv_at hl 2 rfl) ?_
        refine lv_i2l (v := today.toInt64) hx hb dX0_rowBehind_72 rfl ?_
        refine b_last hx hb hK.1 hP (wB_D ik s.heap.size) hS rc 20 (by omega) rfl (by decide) dX0_rowBehind_73 (fun H locs hP hS => ?_)
        refine lv_aload hx hb dX0_rowBehind_74 (lv_at hl 4 rfl) ?_
        have hsp : sc_X0_rowBehind RW rc today = rwp (rowN RW rc 21) rc 20 today.toInt64 := rfl
        exact W.aret hx hb hr (Or.inr ⟨_, rfl⟩) (Or.inr ⟨_, rfl⟩) (fun t2 ht2 hW => by rw [hsp]; exact ⟨rfl, by rw [ht2]; exact hP, hS.F ht2⟩) hS.2.2 dX0_rowBehind_76 hlocks
      · exact absurd (by decide) c_1
    | succ n ih =>
      intro i H locs ls hn hP hS hl
      refine lv_iload hx hb dX0_rowBehind_23 (lv_at hl 5 rfl) ?_
      refine lv_bipush (v := 21) hx hb dX0_rowBehind_25 (by decide) ?_
      refine lv_icmp_ge (tgt := 67) hx hb dX0_rowBehind_27 (by decide) (fun c_2 => ?_) (fun c_2 => ?_)
      · exact absurd ((nI_leI (a := 21) (b := i) (by omega) (by omega)).mp c_2) (by omega)
      · refine lv_aload hx hb dX0_rowBehind_30 (lv_at hl 4 rfl) ?_
        refine lv_iload hx hb dX0_rowBehind_32 (lv_at hl 5 rfl) ?_
        refine lv_iload_n hx hb dX0_rowBehind_34 rfl (lv_at hl 3 rfl) ?_
        refine lv_if_le (tgt := 59) hx hb dX0_rowBehind_35 (by decide) (fun c_3 => ?_) (fun c_3 => ?_)
        · refine lv_lconst (v := 0) hx hb dX0_rowBehind_59 (by decide) ?_
          refine b_last hx hb hK.1 hP (wB_D ik s.heap.size) hS rc i (by omega) rfl (by omega) dX0_rowBehind_60 (fun H locs hP hS => ?_)
          refine lv_iinc (v := (nI i) + 1) (lv' := [(5, .int ((nI i) + 1)), (0, .ref (k 0)), (1, .int (nI rc)), (2, .int today), (3, .int (nI rc)), (4, .ref (r rc))]) hx hb dX0_rowBehind_61 hl (k := 5) rfl rfl (by decide) rfl (fun ls hl => ?_)
          refine lv_goto (tgt := 23) hx hb dX0_rowBehind_64 (by decide) ?_
          rw [nI_1] at hl
          rw [rowN_s (RW := RW) (rc := rc) (n := i) (by first | (unfold rowF; rw [if_neg (nI_nposN (by omega) c_3)]))] at hP
          exact ih (i + 1) H locs ls (by omega) hP hS (lv_sub hl [1, 2, 3, 4, 5, 0] rfl)
        · refine lv_iload hx hb dX0_rowBehind_38 (lv_at hl 5 rfl) ?_
          refine lv_bipush (v := 14) hx hb dX0_rowBehind_40 (by decide) ?_
          refine lv_icmp_ge (tgt := 59) hx hb dX0_rowBehind_42 (by decide) (fun c_4 => ?_) (fun c_4 => ?_)
          · refine lv_lconst (v := 0) hx hb dX0_rowBehind_59 (by decide) ?_
            refine b_last hx hb hK.1 hP (wB_D ik s.heap.size) hS rc i (by omega) rfl (by omega) dX0_rowBehind_60 (fun H locs hP hS => ?_)
            refine lv_iinc (v := (nI i) + 1) (lv' := [(5, .int ((nI i) + 1)), (0, .ref (k 0)), (1, .int (nI rc)), (2, .int today), (3, .int (nI rc)), (4, .ref (r rc))]) hx hb dX0_rowBehind_61 hl (k := 5) rfl rfl (by decide) rfl (fun ls hl => ?_)
            refine lv_goto (tgt := 23) hx hb dX0_rowBehind_64 (by decide) ?_
            rw [nI_1] at hl
            rw [rowN_s (RW := RW) (rc := rc) (n := i) (by first | (unfold rowF; rw [if_pos (nI_posN (by omega) c_3), if_neg (fun z => absurd ((nI_leI (a := 14) (b := i) (by omega) (by omega)).mp c_4) (by omega))]))] at hP
            exact ih (i + 1) H locs ls (by omega) hP hS (lv_sub hl [1, 2, 3, 4, 5, 0] rfl)
          · refine lv_aload_n hx hb dX0_rowBehind_45 rfl (lv_at hl 0 rfl) ?_
            refine va_get (D := D) (ci := 0) (v := .ref (k 1)) (C := RX0) (T := TX0) (N := 1) hx hb hts hX0 hown hK.1 (vaR hP) 0 rfl rfl 0 (by decide) (hts (.fieldLink RX0 11 "PledgeHouse$Books" "rows" "[[J") (by decide +kernel)) (fun _ h9 => h9) rfl dX0_rowBehind_46 ?_
            refine lv_iload_n hx hb dX0_rowBehind_49 rfl (lv_at hl 3 rfl) ?_
            refine lv_iconst (v := 1) hx hb dX0_rowBehind_50 (by decide) ?_
            refine lv_isub hx hb dX0_rowBehind_51 ?_
            refine b_aald hx hb hK.1 hP (rc - 1) (ix_sub1 (nI_posN (by omega) c_3)) (by omega) dX0_rowBehind_52 ?_
            refine lv_iload hx hb dX0_rowBehind_53 (lv_at hl 5 rfl) ?_
            refine b_lald hx hb hK.1 hP (rc - 1) i (by omega) rfl (by omega) (v := (rowN RW rc i) (rc - 1) i) rfl dX0_rowBehind_55 ?_
            refine lv_goto (tgt := 60) hx hb dX0_rowBehind_56 (by decide) ?_
            refine b_last hx hb hK.1 hP (wB_D ik s.heap.size) hS rc i (by omega) rfl (by omega) dX0_rowBehind_60 (fun H locs hP hS => ?_)
            refine lv_iinc (v := (nI i) + 1) (lv' := [(5, .int ((nI i) + 1)), (0, .ref (k 0)), (1, .int (nI rc)), (2, .int today), (3, .int (nI rc)), (4, .ref (r rc))]) hx hb dX0_rowBehind_61 hl (k := 5) rfl rfl (by decide) rfl (fun ls hl => ?_)
            refine lv_goto (tgt := 23) hx hb dX0_rowBehind_64 (by decide) ?_
            rw [nI_1] at hl
            rw [rowN_s (RW := RW) (rc := rc) (n := i) (by first | (unfold rowF; rw [if_pos (nI_posN (by omega) c_3), if_pos (Nat.not_le.mp (fun z => c_4 ((nI_leI (a := 14) (b := i) (by omega) (by omega)).mpr z)))]; exact (rowN_ne (nI_posN (by omega) c_3) rfl).symm))] at hP
            exact ih (i + 1) H locs ls (by omega) hP hS (lv_sub hl [1, 2, 3, 4, 5, 0] rfl)
  refine lv_iconst (v := 0) hx hb dX0_rowBehind_0 (by decide) ?_
  refine lv_iload_n hx hb dX0_rowBehind_1 rfl (lv_at hl 1 rfl) ?_
  refine lv_sipush (v := 512) hx hb dX0_rowBehind_2 (by decide) ?_
  refine va_mmin hx hb (hml.trans hl.1.symm) hown (hts (.methodLink RX0 14 Lib.Math.min.name) (by decide +kernel)) (hts (.static Lib.Math.min.name) (by decide +kernel)) (hts (.initialized "java/lang/Math") (by decide +kernel)) (hts (.code Lib.Math.min.name Lib.Math.min.code 2 (some .int)) (by decide +kernel)) (Nat.le_of_ble_eq_true rfl) (Nat.le_of_ble_eq_true rfl) (Nat.zero_le _) (Nat.zero_le _) dX0_rowBehind_5 ?_
  refine va_mmax hx hb (hml.trans hl.1.symm) hown (hts (.methodLink RX0 20 Lib.Math.max.name) (by decide +kernel)) (hts (.static Lib.Math.max.name) (by decide +kernel)) (hts (.initialized "java/lang/Math") (by decide +kernel)) (hts (.code Lib.Math.max.name Lib.Math.max.code 2 (some .int)) (by decide +kernel)) (Nat.le_of_ble_eq_true rfl) (Nat.le_of_ble_eq_true rfl) (Nat.zero_le _) (Nat.zero_le _) dX0_rowBehind_8 ?_
  refine wtop (congrArg Value.int (show (if 0 < (if 512 < (nI rc) then 512 else (nI rc)) then (if 512 < (nI rc) then 512 else (nI rc)) else 0 : Int32) = nI rc from rb_at hrc)) ?_
  refine lv_istore_n (lv' := [(3, .int (nI rc)), (0, .ref (k 0)), (1, .int (nI rc)), (2, .int today)]) hx hb dX0_rowBehind_11 rfl hl (by decide) rfl (fun ls hl => ?_)
  refine lv_aload_n hx hb dX0_rowBehind_12 rfl (lv_at hl 1 rfl) ?_
  refine va_get (D := D) (ci := 0) (v := .ref (k 1)) (C := RX0) (T := TX0) (N := 1) hx hb hts hX0 hown hK.1 (vaR hP) 0 rfl rfl 0 (by decide) (hts (.fieldLink RX0 11 "PledgeHouse$Books" "rows" "[[J") (by decide +kernel)) (fun _ h9 => h9) rfl dX0_rowBehind_13 ?_
  refine lv_iload_n hx hb dX0_rowBehind_16 rfl (lv_at hl 0 rfl) ?_
  refine b_aald hx hb hK.1 hP rc rfl (by omega) dX0_rowBehind_17 ?_
  refine lv_astore (lv' := [(4, .ref (r rc)), (3, .int (nI rc)), (0, .ref (k 0)), (1, .int (nI rc)), (2, .int today)]) hx hb dX0_rowBehind_18 hl (by decide) rfl (fun ls hl => ?_)
  refine lv_iconst (v := 0) hx hb dX0_rowBehind_20 (by decide) ?_
  refine lv_istore (lv' := [(5, .int 0), (4, .ref (r rc)), (3, .int (nI rc)), (0, .ref (k 0)), (1, .int (nI rc)), (2, .int today)]) hx hb dX0_rowBehind_21 hl (by decide) rfl (fun ls hl => ?_)
  exact loop 21 0 s.heap [] ls (by omega) (by rw [rowN_0]; exact hP) hS (lv_sub hl [3, 4, 5, 2, 1, 0] rfl)
theorem ru_at {rc : Nat} (h : rc ≤ 513) : (if (513 : Int32) < (nI rc) then (513 : Int32) else (nI rc)) = nI rc := by
  rw [show (513 : Int32) = nI 513 from rfl, mn_nI (by omega) (by omega), Nat.min_eq_left h]
theorem nI_m1 {n : Nat} : nI (n + 1) + (-1) = nI n := by
  have e := nI_1 (a := n)
  rw [← e]
  rw [Int32.add_assoc]
  exact Int32.add_zero _
def sc_X0_rowsUpTo (RW : Nat → Nat → Int64) (day : Int32) (rc : Nat) : Int32 := nI (upN RW day rc)
def sc_X0_interestOn (RW : Nat → Nat → Int64) (day : Int32) (un : Nat) : Int64 := inN RW day un
-- above
set_option maxHeartbeats 4000000 in
set_option maxRecDepth 100000 in
theorem cC_X0_rowsUpTo (l : Launch) (D : va_G) (cs : Nat → ClassId) (k : Nat → Nat) (r : Nat → Nat) (RW : Nat → Nat → Int64) (sz : Nat) (day : Int32) (rc : Nat) (hrc : rc ≤ 513) : Met l yX0_rowsUpTo wsX0_rowsUpTo ({ frames := 1, cells := 0, slots := 0, locals := 21 }) (cPc [.ref (k 0), .int day, .int (nI rc)] D cs ([] ++ wB k r cs RW) sz) (k2_QcV (.int (sc_X0_rowsUpTo RW day rc))) 0 0 (fun _ => False) := by
  refine c_in (P := pB k r) (cc := cX0_rowsUpTo) (maxL := 4) (ret := (some .int)) (lv := [(0, .ref (k 0)), (1, .int day), (2, .int (nI rc))]) (by decide) rfl (Nat.le_of_ble_eq_true rfl) rfl ?_
  intro p e s m below meth c ls S hr hlocks hin hsz hP hK hl hS
  subst hsz
  obtain ⟨hx, hb, hml, hown, hts⟩ := id S
  have hX0 : ∀ w ∈ wsX00, w ∈ wsX0_rowsUpTo := by decide +kernel
  have loop : ∀ (n : Nat) (ls : Array Slot), n ≤ 513 → upN RW day rc = upN RW day n → lv_has ls 4 [(0, .ref (k 0)), (1, .int day), (2, .int (nI rc)), (3, .int (nI n))] → W p l e ({ frames := 1, cells := 0, slots := 0, locals := 21 }) s m [.ref (k 0), .int day, .int (nI rc)].toArray below meth c s.heap [] 0 0 (MQ below (k2_QcV (.int (sc_X0_rowsUpTo RW day rc))) [.ref (k 0), .int day, .int (nI rc)].toArray s 0 0 (fun _ => False)) (F0 m 8 ls []) := by
    intro n
    induction n with
    | zero =>
      intro ls hn he hl
      refine lv_iload_n hx hb dX0_rowsUpTo_8 rfl (lv_at hl 3 rfl) ?_
      refine lv_if_le (tgt := 35) hx hb dX0_rowsUpTo_9 (by decide) (fun c_1 => ?_) (fun c_1 => ?_)
      · refine lv_iload_n hx hb dX0_rowsUpTo_35 rfl (lv_at hl 3 rfl) ?_
        have hsp : sc_X0_rowsUpTo RW day rc = nI 0 := by unfold sc_X0_rowsUpTo; rw [he]; rfl
        exact W.iret hx hb hr (fun t2 ht2 hW => ⟨by rw [hsp], ht2⟩) (fun q hq => by cases hq) dX0_rowsUpTo_36 hlocks
      · exact absurd (by decide) c_1
    | succ n ih =>
      intro ls hn he hl
      refine lv_iload_n hx hb dX0_rowsUpTo_8 rfl (lv_at hl 3 rfl) ?_
      refine lv_if_le (tgt := 35) hx hb dX0_rowsUpTo_9 (by decide) (fun c_2 => ?_) (fun c_2 => ?_)
      · exact absurd c_2 (fun z => absurd (nI_nposN (by omega) z) (by omega))
      · refine lv_aload_n hx hb dX0_rowsUpTo_12 rfl (lv_at hl 0 rfl) ?_
        refine va_get (D := D) (ci := 0) (v := .ref (k 1)) (C := RX0) (T := TX0) (N := 1) hx hb hts hX0 hown hK.1 (vaR hP) 0 rfl rfl 0 (by decide) (hts (.fieldLink RX0 11 "PledgeHouse$Books" "rows" "[[J") (by decide +kernel)) (fun _ h9 => h9) rfl dX0_rowsUpTo_13 ?_
        refine lv_iload_n hx hb dX0_rowsUpTo_16 rfl (lv_at hl 3 rfl) ?_
        refine lv_iconst (v := 1) hx hb dX0_rowsUpTo_17 (by decide) ?_
        refine lv_isub hx hb dX0_rowsUpTo_18 ?_
        refine b_aald hx hb hK.1 hP n (ix_sub1 (n := n + 1) (by omega)) (by omega) dX0_rowsUpTo_19 ?_
        refine lv_bipush (v := 20) hx hb dX0_rowsUpTo_20 (by decide) ?_
        refine b_lald hx hb hK.1 hP n 20 (by omega) rfl (by decide) (v := RW n 20) rfl dX0_rowsUpTo_22 ?_
        refine lv_iload_n hx hb dX0_rowsUpTo_23 rfl (lv_at hl 1 rfl) ?_
        refine lv_i2l (v := day.toInt64) hx hb dX0_rowsUpTo_24 rfl ?_
        refine W.lcmp hx hb dX0_rowsUpTo_25 ?_
        refine lv_if_le (tgt := 35) hx hb dX0_rowsUpTo_26 (by decide) (fun c_3 => ?_) (fun c_3 => ?_)
        · have c_3 := (lg_cmp_le _ _).mp c_3
          refine lv_iload_n hx hb dX0_rowsUpTo_35 rfl (lv_at hl 3 rfl) ?_
          have hsp : sc_X0_rowsUpTo RW day rc = nI (n + 1) := by unfold sc_X0_rowsUpTo; rw [he]; unfold upN; rw [if_pos c_3]
          exact W.iret hx hb hr (fun t2 ht2 hW => ⟨by rw [hsp], ht2⟩) (fun q hq => by cases hq) dX0_rowsUpTo_36 hlocks
        · have c_3 : ¬ (RW n 20) ≤ day.toInt64 := fun h => c_3 ((lg_cmp_le _ _).mpr h)
          refine lv_iinc (v := (nI (n + 1)) + (-1)) (lv' := [(3, .int ((nI (n + 1)) + (-1))), (0, .ref (k 0)), (1, .int day), (2, .int (nI rc))]) hx hb dX0_rowsUpTo_29 hl (k := 3) rfl rfl (by decide) rfl (fun ls hl => ?_)
          refine lv_goto (tgt := 8) hx hb dX0_rowsUpTo_32 (by decide) ?_
          rw [show nI (n + 1) + (-1) = nI n from nI_m1] at hl
          exact ih ls (by omega) (by rw [he]; conv => lhs; unfold upN; rw [if_neg c_3]) (lv_sub hl [1, 2, 3, 0] rfl)
  refine lv_iload_n hx hb dX0_rowsUpTo_0 rfl (lv_at hl 2 rfl) ?_
  refine lv_sipush (v := 513) hx hb dX0_rowsUpTo_1 (by decide) ?_
  refine va_mmin hx hb (hml.trans hl.1.symm) hown (hts (.methodLink RX0 14 Lib.Math.min.name) (by decide +kernel)) (hts (.static Lib.Math.min.name) (by decide +kernel)) (hts (.initialized "java/lang/Math") (by decide +kernel)) (hts (.code Lib.Math.min.name Lib.Math.min.code 2 (some .int)) (by decide +kernel)) (Nat.le_of_ble_eq_true rfl) (Nat.le_of_ble_eq_true rfl) (Nat.zero_le _) (Nat.zero_le _) dX0_rowsUpTo_4 ?_
  refine wtop (congrArg Value.int (show (if 513 < (nI rc) then 513 else (nI rc) : Int32) = nI rc from ru_at hrc)) ?_
  refine lv_istore_n (lv' := [(3, .int (nI rc)), (0, .ref (k 0)), (1, .int day), (2, .int (nI rc))]) hx hb dX0_rowsUpTo_7 rfl hl (by decide) rfl (fun ls hl => ?_)
  exact loop rc ls hrc rfl (lv_sub hl [1, 2, 3, 0] rfl)
-- above
set_option maxHeartbeats 4000000 in
set_option maxRecDepth 100000 in
theorem cC_X0_interestOn (l : Launch) (D : va_G) (cs : Nat → ClassId) (k : Nat → Nat) (r : Nat → Nat) (RW : Nat → Nat → Int64) (sz : Nat) (day : Int32) (un : Nat) (hun : un ≤ 513) : Met l yX0_interestOn wsX0_interestOn ({ frames := 2, cells := 0, slots := 0, locals := 45 }) (cPc [.ref (k 0), .int day, .int (nI un)] D cs ([] ++ wB k r cs RW) sz) (k2_QcV (.long (sc_X0_interestOn RW day un))) 0 0 (fun _ => False) := by
  refine c_in (P := pB k r) (cc := cX0_interestOn) (maxL := 6) (ret := (some .long)) (lv := [(0, .ref (k 0)), (1, .int day), (2, .int (nI un))]) (by decide) rfl (Nat.le_of_ble_eq_true rfl) rfl ?_
  intro p e s m below meth c ls S hr hlocks hin hsz hP hK hl hS
  subst hsz
  obtain ⟨hx, hb, hml, hown, hts⟩ := id S
  have hX0 : ∀ w ∈ wsX00, w ∈ wsX0_interestOn := by decide +kernel
  have loop : ∀ (n i : Nat) (ls : Array Slot), i + n = un → lv_has ls 6 [(0, .ref (k 0)), (1, .int day), (2, .int (nI un)), (3, .long (inN RW day i)), (5, .int (nI i))] → W p l e ({ frames := 2, cells := 0, slots := 0, locals := 45 }) s m [.ref (k 0), .int day, .int (nI un)].toArray below meth c s.heap [] 0 0 (MQ below (k2_QcV (.long (sc_X0_interestOn RW day un))) [.ref (k 0), .int day, .int (nI un)].toArray s 0 0 (fun _ => False)) (F0 m 5 ls []) := by
    intro n
    induction n with
    | zero =>
      intro i ls hn hl
      obtain rfl : un = i := by omega
      refine lv_iload hx hb dX0_interestOn_5 (lv_at hl 4 rfl) ?_
      refine lv_iload_n hx hb dX0_interestOn_7 rfl (lv_at hl 2 rfl) ?_
      refine lv_icmp_ge (tgt := 55) hx hb dX0_interestOn_8 (by decide) (fun c_1 => ?_) (fun c_1 => ?_)
      · refine lv_lload_n hx hb dX0_interestOn_55 rfl (lv_at hl 3 rfl) ?_
        have hsp : sc_X0_interestOn RW day un = inN RW day un := rfl
        exact W.lret hx hb hr (fun t2 ht2 hW => ⟨by rw [hsp], ht2⟩) (fun q hq => by cases hq) dX0_interestOn_56 hlocks
      · exact absurd (Int32.le_refl _) c_1
    | succ n ih =>
      intro i ls hn hl
      refine lv_iload hx hb dX0_interestOn_5 (lv_at hl 4 rfl) ?_
      refine lv_iload_n hx hb dX0_interestOn_7 rfl (lv_at hl 2 rfl) ?_
      refine lv_icmp_ge (tgt := 55) hx hb dX0_interestOn_8 (by decide) (fun c_2 => ?_) (fun c_2 => ?_)
      · exact absurd ((nI_leI (a := un) (b := i) (by omega) (by omega)).mp c_2) (by omega)
      · refine lv_iload hx hb dX0_interestOn_11 (lv_at hl 4 rfl) ?_
        refine lv_sipush (v := 513) hx hb dX0_interestOn_13 (by decide) ?_
        refine lv_icmp_ge (tgt := 55) hx hb dX0_interestOn_16 (by decide) (fun c_3 => ?_) (fun c_3 => ?_)
        · exact absurd ((nI_leI (a := 513) (b := i) (by omega) (by omega)).mp c_3) (by omega)
        · refine lv_lload_n hx hb dX0_interestOn_19 rfl (lv_at hl 3 rfl) ?_
          refine lv_aload_n hx hb dX0_interestOn_20 rfl (lv_at hl 0 rfl) ?_
          refine va_get (D := D) (ci := 0) (v := .ref (k 1)) (C := RX0) (T := TX0) (N := 1) hx hb hts hX0 hown hK.1 (vaR hP) 0 rfl rfl 0 (by decide) (hts (.fieldLink RX0 11 "PledgeHouse$Books" "rows" "[[J") (by decide +kernel)) (fun _ h9 => h9) rfl dX0_interestOn_21 ?_
          refine lv_iload hx hb dX0_interestOn_24 (lv_at hl 4 rfl) ?_
          refine b_aald hx hb hK.1 hP i rfl (by omega) dX0_interestOn_26 ?_
          refine lv_bipush (v := 17) hx hb dX0_interestOn_27 (by decide) ?_
          refine lv_iload_n hx hb dX0_interestOn_29 rfl (lv_at hl 1 rfl) ?_
          refine c_rdS S hK (hP) (As := [.ref (r i), .int 17, .int day]) (rest := [.long (inN RW day i)]) (cC_X0_grown l D cs k r RW _  i 17 day (by omega) (by omega)) (cwS 3 hts gX0_interestOn_X0_grown rfl rfl rfl (by decide +kernel) ⟨Nat.le_of_ble_eq_true rfl, Nat.le_of_ble_eq_true rfl⟩) rfl hl.1 rfl (Nat.le_of_ble_eq_true rfl) dX0_interestOn_30 ⟨Nat.zero_le _, Nat.zero_le _⟩ ?_
          refine lv_aload_n hx hb dX0_interestOn_33 rfl (lv_at hl 0 rfl) ?_
          refine va_get (D := D) (ci := 0) (v := .ref (k 1)) (C := RX0) (T := TX0) (N := 1) hx hb hts hX0 hown hK.1 (vaR hP) 0 rfl rfl 0 (by decide) (hts (.fieldLink RX0 11 "PledgeHouse$Books" "rows" "[[J") (by decide +kernel)) (fun _ h9 => h9) rfl dX0_interestOn_34 ?_
          refine lv_iload hx hb dX0_interestOn_37 (lv_at hl 4 rfl) ?_
          refine b_aald hx hb hK.1 hP i rfl (by omega) dX0_interestOn_39 ?_
          refine lv_bipush (v := 14) hx hb dX0_interestOn_40 (by decide) ?_
          refine lv_iload_n hx hb dX0_interestOn_42 rfl (lv_at hl 1 rfl) ?_
          refine c_rdS S hK (hP) (As := [.ref (r i), .int 14, .int day]) (rest := [.long (sc_X0_grown RW i 17 day), .long (inN RW day i)]) (cC_X0_grown l D cs k r RW _  i 14 day (by omega) (by omega)) (cwS 3 hts gX0_interestOn_X0_grown rfl rfl rfl (by decide +kernel) ⟨Nat.le_of_ble_eq_true rfl, Nat.le_of_ble_eq_true rfl⟩) rfl hl.1 rfl (Nat.le_of_ble_eq_true rfl) dX0_interestOn_43 ⟨Nat.zero_le _, Nat.zero_le _⟩ ?_
          refine lv_lsub hx hb dX0_interestOn_46 ?_
          refine lv_ladd hx hb dX0_interestOn_47 ?_
          refine lv_lstore_n (lv' := [(3, .long ((inN RW day i) + ((sc_X0_grown RW i 17 day) - (sc_X0_grown RW i 14 day)))), (0, .ref (k 0)), (1, .int day), (2, .int (nI un)), (5, .int (nI i))]) hx hb dX0_interestOn_48 rfl hl (by decide) rfl (fun ls hl => ?_)
          refine lv_iinc (v := (nI i) + 1) (lv' := [(5, .int ((nI i) + 1)), (3, .long ((inN RW day i) + ((sc_X0_grown RW i 17 day) - (sc_X0_grown RW i 14 day)))), (0, .ref (k 0)), (1, .int day), (2, .int (nI un))]) hx hb dX0_interestOn_49 hl (k := 4) rfl rfl (by decide) rfl (fun ls hl => ?_)
          refine lv_goto (tgt := 5) hx hb dX0_interestOn_52 (by decide) ?_
          rw [nI_1] at hl
          exact ih (i + 1) ls (by omega) (lv_sub hl [2, 3, 4, 1, 0] rfl)
  refine lv_lconst (v := 0) hx hb dX0_interestOn_0 (by decide) ?_
  refine lv_lstore_n (lv' := [(3, .long 0), (0, .ref (k 0)), (1, .int day), (2, .int (nI un))]) hx hb dX0_interestOn_1 rfl hl (by decide) rfl (fun ls hl => ?_)
  refine lv_iconst (v := 0) hx hb dX0_interestOn_2 (by decide) ?_
  refine lv_istore (lv' := [(5, .int 0), (3, .long 0), (0, .ref (k 0)), (1, .int day), (2, .int (nI un))]) hx hb dX0_interestOn_3 hl (by decide) rfl (fun ls hl => ?_)
  exact loop un 0 ls (by omega) (lv_sub hl [2, 3, 4, 1, 0] rfl)
