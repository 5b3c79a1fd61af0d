/-! the house: looking at places (by cwalk.py) -/
def sc_X3_worthOf (pl : pZ) (Z : hZ) : Int32 :=
  sc_worth pl (gh Z 0) (gr Z 3)
set_option maxHeartbeats 4000000 in
set_option maxRecDepth 100000 in
theorem cC_X3_worthOf (l : Launch) (D : va_G) (cs : Nat → ClassId) (q : Nat → Nat) (pl : pZ) (k : Nat → Nat) (a : Nat → Nat) (Z : hZ) (sz : Nat) : Met l yX3_worthOf wsX3_worthOf ({ frames := 2, cells := 0, slots := 0, locals := 43 }) (cPc [.ref (a 0), .ref (q 0)] D cs ((wP q cs pl ++ wH a (k 0) cs Z) ++ []) sz) (k2_QcV (.int (sc_X3_worthOf pl Z))) 0 0 (fun _ => False) := by
  refine c_in (P := pH a) (cc := cX3_worthOf) (maxL := 2) (ret := (some .int)) (lv := [(0, .ref (a 0)), (1, .ref (q 0))]) (by decide) rfl (Nat.le_of_ble_eq_true rfl) rfl ?_
  intro p e s m below meth c ls S hr hlocks hin hsz hP hK hl hS
  subst hsz
  obtain ⟨hx, hb, hml, hown, hts⟩ := id S
  have hX3 : ∀ w ∈ wsX30, w ∈ wsX3_worthOf := by decide +kernel
  refine lv_aload_n hx hb dX3_worthOf_0 rfl (lv_at hl 1 rfl) ?_
  refine lv_aload_n hx hb dX3_worthOf_1 rfl (lv_at hl 0 rfl) ?_
  refine hx_get hx hb hts hX3 hown hK.1 hP 2 (by decide) (hts (.fieldLink RX3 50 "PledgeHouse$House" "today" "I") (by decide +kernel)) rfl (v := .int (gh Z 0)) rfl dX3_worthOf_2 ?_
  refine lv_aload_n hx hb dX3_worthOf_5 rfl (lv_at hl 0 rfl) ?_
  refine hx_get hx hb hts hX3 hown hK.1 hP 3 (by decide) (hts (.fieldLink RX3 18 "PledgeHouse$House" "rules" "[I") (by decide +kernel)) rfl (v := .ref (a 1)) rfl dX3_worthOf_6 ?_
  refine lv_iconst (v := 3) hx hb dX3_worthOf_9 (by decide) ?_
  refine hx_rld hx hb hK.1 hP 3 rfl (by decide) (v := gr Z 3) rfl dX3_worthOf_10 ?_
  refine vc_worth (gh Z 0) (gr Z 3) S hK (vaL (vaL hP)) (va_cwA 2 hts gX3_worthOf_X8_worth_u192X8 rfl rfl rfl (hK.2.2.2.2.2.2.2 _ (by decide)) (by decide +kernel) ⟨Nat.le_of_ble_eq_true rfl, Nat.le_of_ble_eq_true rfl⟩) (va_cwA 2 hts gX3_worthOf_X2_worth_u192X2 rfl rfl rfl (hK.2.2.2.2.2.2.2 _ (by decide)) (by decide +kernel) ⟨Nat.le_of_ble_eq_true rfl, Nat.le_of_ble_eq_true rfl⟩) (va_cwA 2 hts gX3_worthOf_X4_worth_u192X4 rfl rfl rfl (hK.2.2.2.2.2.2.2 _ (by decide)) (by decide +kernel) ⟨Nat.le_of_ble_eq_true rfl, Nat.le_of_ble_eq_true rfl⟩) (va_cwA 2 hts gX3_worthOf_X1_worth_u192X1 rfl rfl rfl (hK.2.2.2.2.2.2.2 _ (by decide)) (by decide +kernel) ⟨Nat.le_of_ble_eq_true rfl, Nat.le_of_ble_eq_true rfl⟩) (va_cwA 2 hts gX3_worthOf_X6_worth_u192X6 rfl rfl rfl (hK.2.2.2.2.2.2.2 _ (by decide)) (by decide +kernel) ⟨Nat.le_of_ble_eq_true rfl, Nat.le_of_ble_eq_true rfl⟩) hl.1 rfl (Nat.le_of_ble_eq_true rfl) dX3_worthOf_11 ⟨Nat.zero_le _, Nat.zero_le _⟩ ?_
  have hsp : sc_X3_worthOf pl Z = sc_worth pl (gh Z 0) (gr Z 3) := rfl
  exact W.iret hx hb hr (fun t2 ht2 hW => ⟨by rw [hsp], ht2⟩) (fun q hq => by cases hq) dX3_worthOf_14 hlocks
def sc_X3_lookAtPlace (pl : pZ) (Z : hZ) (place : Int32) (what : Int32) : Int64 :=
  if (sc_X3_isPlace place) = 0 then
    (-1)
  else
    if what < 0 then
      (-1)
    else
      if what ≤ 6 then
        if what = 0 then
          (sc_kind pl).toInt64
        else
          if what = 1 then
            (sc_X3_worthOf pl Z).toInt64
          else
            if what = 2 then
              (go Z (tN place)).toInt64
            else
              if what = 3 then
                (sc_hundredths pl).toInt64
              else
                if what = 4 then
                  (sc_leftOver pl).toInt64
                else
                  if what = 5 then
                    (sc_itemCount pl).toInt64
                  else
                    (sc_tellers pl).toInt64
      else
        (-1)
set_option maxHeartbeats 4000000 in
set_option maxRecDepth 100000 in
theorem cC_X3_lookAtPlace (l : Launch) (D : va_G) (cs : Nat → ClassId) (q : Nat → Nat) (pl : pZ) (k : Nat → Nat) (a : Nat → Nat) (Z : hZ) (sz : Nat) (place : Int32) (what : Int32) (hpq : gp Z (tN place) = some (q 0)) : Met l yX3_lookAtPlace wsX3_lookAtPlace ({ frames := 3, cells := 0, slots := 0, locals := 64 }) (cPc [.ref (a 0), .int place, .int what] D cs ((wP q cs pl ++ wH a (k 0) cs Z) ++ []) sz) (k2_QcV (.long (sc_X3_lookAtPlace pl Z place what))) 0 0 (fun _ => False) := by
  refine c_in (P := pH a) (cc := cX3_lookAtPlace) (maxL := 4) (ret := (some .long)) (lv := [(0, .ref (a 0)), (1, .int place), (2, .int what)]) (by decide) rfl (Nat.le_of_ble_eq_true rfl) rfl ?_
  intro p e s m below meth c ls S hr hlocks hin hsz hP hK hl hS
  subst hsz
  obtain ⟨hx, hb, hml, hown, hts⟩ := id S
  have hX3 : ∀ w ∈ wsX30, w ∈ wsX3_lookAtPlace := by decide +kernel
  refine lv_iload_n hx hb dX3_lookAtPlace_0 rfl (lv_at hl 1 rfl) ?_
  refine m_st S (As := [.int place]) (rest := []) (cC_X3_isPlace l place) (cwS 1 hts gX3_lookAtPlace_X3_isPlace rfl rfl rfl (by decide +kernel) ⟨Nat.le_of_ble_eq_true rfl, Nat.le_of_ble_eq_true rfl⟩) rfl hl.1 rfl (Nat.le_of_ble_eq_true rfl) dX3_lookAtPlace_1 ⟨Nat.zero_le _, Nat.zero_le _⟩ ?_
  refine lv_if_eq (tgt := 17) hx hb dX3_lookAtPlace_4 (by decide) (fun c_1 => ?_) (fun c_1 => ?_)
  · refine lv_ldc2 (v := (-1)) hx hb hown (hts (.constantLong RX3 362 (-1)) (by decide +kernel)) dX3_lookAtPlace_17 ?_
    have hsp : sc_X3_lookAtPlace pl Z place what = (-1) := by unfold sc_X3_lookAtPlace; rw [if_pos c_1]
    exact W.lret hx hb hr (fun t2 ht2 hW => ⟨by rw [hsp], ht2⟩) (fun q hq => by cases hq) dX3_lookAtPlace_20 hlocks
  · refine lv_iload_n hx hb dX3_lookAtPlace_7 rfl (lv_at hl 2 rfl) ?_
    refine lv_if_lt (tgt := 17) hx hb dX3_lookAtPlace_8 (by decide) (fun c_2 => ?_) (fun c_2 => ?_)
    · refine lv_ldc2 (v := (-1)) hx hb hown (hts (.constantLong RX3 362 (-1)) (by decide +kernel)) dX3_lookAtPlace_17 ?_
      have hsp : sc_X3_lookAtPlace pl Z place what = (-1) := by unfold sc_X3_lookAtPlace; rw [if_neg c_1, if_pos c_2]
      exact W.lret hx hb hr (fun t2 ht2 hW => ⟨by rw [hsp], ht2⟩) (fun q hq => by cases hq) dX3_lookAtPlace_20 hlocks
    · refine lv_iload_n hx hb dX3_lookAtPlace_11 rfl (lv_at hl 2 rfl) ?_
      refine lv_bipush (v := 6) hx hb dX3_lookAtPlace_12 (by decide) ?_
      refine lv_icmp_le (tgt := 21) hx hb dX3_lookAtPlace_14 (by decide) (fun c_3 => ?_) (fun c_3 => ?_)
      · refine lv_aload_n hx hb dX3_lookAtPlace_21 rfl (lv_at hl 0 rfl) ?_
        refine hx_get hx hb hts hX3 hown hK.1 hP 4 (by decide) (hts (.fieldLink RX3 25 "PledgeHouse$House" "pledges" "[LPledgeHouse$Pledge;") (by decide +kernel)) rfl (v := .ref (a 2)) rfl dX3_lookAtPlace_22 ?_
        refine lv_iload_n hx hb dX3_lookAtPlace_25 rfl (lv_at hl 1 rfl) ?_
        refine hx_pld hx hb hK.1 hP (tN place) (pl_of c_1).1 (pl_of c_1).2 (v := .ref (q 0)) ((congrArg va_rf hpq)) dX3_lookAtPlace_26 ?_
        refine lv_astore_n (lv' := [(3, .ref (q 0)), (0, .ref (a 0)), (1, .int place), (2, .int what)]) hx hb dX3_lookAtPlace_27 rfl hl (by decide) rfl (fun ls hl => ?_)
        refine lv_aload_n hx hb dX3_lookAtPlace_28 rfl (lv_at hl 0 rfl) ?_
        refine lv_ifnonnull (tgt := 47) hx hb dX3_lookAtPlace_29 (by decide) ?_
        refine lv_iload_n hx hb dX3_lookAtPlace_47 rfl (lv_at hl 3 rfl) ?_
        by_cases c_4 : what = 0
        · refine lv_tableIn (off := 40) (tgt := 88) hx hb dX3_lookAtPlace_48 (by rw [c_4]; decide) (by rw [c_4]; decide) (by rw [c_4]; rfl) (by decide) ?_
          refine lv_aload_n hx hb dX3_lookAtPlace_88 rfl (lv_at hl 0 rfl) ?_
          refine vc_kind S hK (vaL (vaL hP)) (va_cwA 0 hts gX3_lookAtPlace_X8_kind_u198X8 rfl rfl rfl (hK.2.2.2.2.2.2.2 _ (by decide)) (by decide +kernel) ⟨Nat.le_of_ble_eq_true rfl, Nat.le_of_ble_eq_true rfl⟩) (va_cwA 0 hts gX3_lookAtPlace_X2_kind_u198X2 rfl rfl rfl (hK.2.2.2.2.2.2.2 _ (by decide)) (by decide +kernel) ⟨Nat.le_of_ble_eq_true rfl, Nat.le_of_ble_eq_true rfl⟩) (va_cwA 0 hts gX3_lookAtPlace_X4_kind_u198X4 rfl rfl rfl (hK.2.2.2.2.2.2.2 _ (by decide)) (by decide +kernel) ⟨Nat.le_of_ble_eq_true rfl, Nat.le_of_ble_eq_true rfl⟩) (va_cwA 0 hts gX3_lookAtPlace_X1_kind_u198X1 rfl rfl rfl (hK.2.2.2.2.2.2.2 _ (by decide)) (by decide +kernel) ⟨Nat.le_of_ble_eq_true rfl, Nat.le_of_ble_eq_true rfl⟩) (va_cwA 0 hts gX3_lookAtPlace_X6_kind_u198X6 rfl rfl rfl (hK.2.2.2.2.2.2.2 _ (by decide)) (by decide +kernel) ⟨Nat.le_of_ble_eq_true rfl, Nat.le_of_ble_eq_true rfl⟩) hl.1 rfl (Nat.le_of_ble_eq_true rfl) dX3_lookAtPlace_89 ⟨Nat.zero_le _, Nat.zero_le _⟩ ?_
          refine lv_i2l (v := (sc_kind pl).toInt64) hx hb dX3_lookAtPlace_92 rfl ?_
          have hsp : sc_X3_lookAtPlace pl Z place what = (sc_kind pl).toInt64 := by unfold sc_X3_lookAtPlace; rw [if_neg c_1, if_neg c_2, if_pos c_3, if_pos c_4]
          exact W.lret hx hb hr (fun t2 ht2 hW => ⟨by rw [hsp], ht2⟩) (fun q hq => by cases hq) dX3_lookAtPlace_93 hlocks
        by_cases c_5 : what = 1
        · refine lv_tableIn (off := 46) (tgt := 94) hx hb dX3_lookAtPlace_48 (by rw [c_5]; decide) (by rw [c_5]; decide) (by rw [c_5]; rfl) (by decide) ?_
          refine lv_aload_n hx hb dX3_lookAtPlace_94 rfl (lv_at hl 1 rfl) ?_
          refine lv_aload_n hx hb dX3_lookAtPlace_95 rfl (lv_at hl 0 rfl) ?_
          refine c_rd S hK (hP) (va_recv hK.1 hP (ci := 3) (q0 := _ + 0) rfl (get3 rfl)) (As := [.ref (q 0)]) (rest := []) (cC_X3_worthOf l D cs q pl k a Z _   ) (cwV 1 hts gX3_lookAtPlace_X3_worthOf rfl rfl rfl (by decide +kernel) ⟨Nat.le_of_ble_eq_true rfl, Nat.le_of_ble_eq_true rfl⟩) rfl hl.1 rfl (Nat.le_of_ble_eq_true rfl) dX3_lookAtPlace_96 ⟨Nat.zero_le _, Nat.zero_le _⟩ ?_
          refine lv_i2l (v := (sc_X3_worthOf pl Z).toInt64) hx hb dX3_lookAtPlace_99 rfl ?_
          have hsp : sc_X3_lookAtPlace pl Z place what = (sc_X3_worthOf pl Z).toInt64 := by unfold sc_X3_lookAtPlace; rw [if_neg c_1, if_neg c_2, if_pos c_3, if_neg c_4, if_pos c_5]
          exact W.lret hx hb hr (fun t2 ht2 hW => ⟨by rw [hsp], ht2⟩) (fun q hq => by cases hq) dX3_lookAtPlace_100 hlocks
        by_cases c_6 : what = 2
        · refine lv_tableIn (off := 53) (tgt := 101) hx hb dX3_lookAtPlace_48 (by rw [c_6]; decide) (by rw [c_6]; decide) (by rw [c_6]; rfl) (by decide) ?_
          refine lv_aload_n hx hb dX3_lookAtPlace_101 rfl (lv_at hl 1 rfl) ?_
          refine hx_get hx hb hts hX3 hown hK.1 hP 6 (by decide) (hts (.fieldLink RX3 33 "PledgeHouse$House" "ticketOn" "[I") (by decide +kernel)) rfl (v := .ref (a 4)) rfl dX3_lookAtPlace_102 ?_
          refine lv_iload_n hx hb dX3_lookAtPlace_105 rfl (lv_at hl 2 rfl) ?_
          refine hx_old hx hb hK.1 hP (tN place) (pl_of c_1).1 (pl_of c_1).2 (v := go Z (tN place)) rfl dX3_lookAtPlace_106 ?_
          refine lv_i2l (v := (go Z (tN place)).toInt64) hx hb dX3_lookAtPlace_107 rfl ?_
          have hsp : sc_X3_lookAtPlace pl Z place what = (go Z (tN place)).toInt64 := by unfold sc_X3_lookAtPlace; rw [if_neg c_1, if_neg c_2, if_pos c_3, if_neg c_4, if_neg c_5, if_pos c_6]
          exact W.lret hx hb hr (fun t2 ht2 hW => ⟨by rw [hsp], ht2⟩) (fun q hq => by cases hq) dX3_lookAtPlace_108 hlocks
        by_cases c_7 : what = 3
        · refine lv_tableIn (off := 61) (tgt := 109) hx hb dX3_lookAtPlace_48 (by rw [c_7]; decide) (by rw [c_7]; decide) (by rw [c_7]; rfl) (by decide) ?_
          refine lv_aload_n hx hb dX3_lookAtPlace_109 rfl (lv_at hl 0 rfl) ?_
          refine vc_hundredths S hK (vaL (vaL hP)) (va_cwU 0 hts gX3_lookAtPlace_X5_hundredths_u367X8 rfl rfl rfl rfl (by decide +kernel) ⟨Nat.le_of_ble_eq_true rfl, Nat.le_of_ble_eq_true rfl⟩) (va_cwO 0 hts gX3_lookAtPlace_X10_hundredths_u367X2 rfl rfl rfl (b0 := cX5_hundredths) (m0 := 1) (r0 := some .int) (by decide +kernel) (by decide +kernel) ⟨Nat.le_of_ble_eq_true rfl, Nat.le_of_ble_eq_true rfl⟩) (va_cwU 0 hts gX3_lookAtPlace_X5_hundredths_u367X4 rfl rfl rfl rfl (by decide +kernel) ⟨Nat.le_of_ble_eq_true rfl, Nat.le_of_ble_eq_true rfl⟩) (va_cwU 0 hts gX3_lookAtPlace_X5_hundredths_u367X1 rfl rfl rfl rfl (by decide +kernel) ⟨Nat.le_of_ble_eq_true rfl, Nat.le_of_ble_eq_true rfl⟩) (va_cwO 0 hts gX3_lookAtPlace_X10_hundredths_u367X6 rfl rfl rfl (b0 := cX5_hundredths) (m0 := 1) (r0 := some .int) (by decide +kernel) (by decide +kernel) ⟨Nat.le_of_ble_eq_true rfl, Nat.le_of_ble_eq_true rfl⟩) hl.1 rfl (Nat.le_of_ble_eq_true rfl) dX3_lookAtPlace_110 ⟨Nat.zero_le _, Nat.zero_le _⟩ ?_
          refine lv_i2l (v := (sc_hundredths pl).toInt64) hx hb dX3_lookAtPlace_113 rfl ?_
          have hsp : sc_X3_lookAtPlace pl Z place what = (sc_hundredths pl).toInt64 := by unfold sc_X3_lookAtPlace; rw [if_neg c_1, if_neg c_2, if_pos c_3, if_neg c_4, if_neg c_5, if_neg c_6, if_pos c_7]
          exact W.lret hx hb hr (fun t2 ht2 hW => ⟨by rw [hsp], ht2⟩) (fun q hq => by cases hq) dX3_lookAtPlace_114 hlocks
        by_cases c_8 : what = 4
        · refine lv_tableIn (off := 67) (tgt := 115) hx hb dX3_lookAtPlace_48 (by rw [c_8]; decide) (by rw [c_8]; decide) (by rw [c_8]; rfl) (by decide) ?_
          refine lv_aload_n hx hb dX3_lookAtPlace_115 rfl (lv_at hl 0 rfl) ?_
          refine vc_leftOver S hK (vaL (vaL hP)) (va_cwU 0 hts gX3_lookAtPlace_X5_leftOver_u368X8 rfl rfl rfl rfl (by decide +kernel) ⟨Nat.le_of_ble_eq_true rfl, Nat.le_of_ble_eq_true rfl⟩) (va_cwO 0 hts gX3_lookAtPlace_X10_leftOver_u368X2 rfl rfl rfl (b0 := cX5_leftOver) (m0 := 1) (r0 := some .int) (by decide +kernel) (by decide +kernel) ⟨Nat.le_of_ble_eq_true rfl, Nat.le_of_ble_eq_true rfl⟩) (va_cwU 0 hts gX3_lookAtPlace_X5_leftOver_u368X4 rfl rfl rfl rfl (by decide +kernel) ⟨Nat.le_of_ble_eq_true rfl, Nat.le_of_ble_eq_true rfl⟩) (va_cwU 0 hts gX3_lookAtPlace_X5_leftOver_u368X1 rfl rfl rfl rfl (by decide +kernel) ⟨Nat.le_of_ble_eq_true rfl, Nat.le_of_ble_eq_true rfl⟩) (va_cwO 0 hts gX3_lookAtPlace_X10_leftOver_u368X6 rfl rfl rfl (b0 := cX5_leftOver) (m0 := 1) (r0 := some .int) (by decide +kernel) (by decide +kernel) ⟨Nat.le_of_ble_eq_true rfl, Nat.le_of_ble_eq_true rfl⟩) hl.1 rfl (Nat.le_of_ble_eq_true rfl) dX3_lookAtPlace_116 ⟨Nat.zero_le _, Nat.zero_le _⟩ ?_
          refine lv_i2l (v := (sc_leftOver pl).toInt64) hx hb dX3_lookAtPlace_119 rfl ?_
          have hsp : sc_X3_lookAtPlace pl Z place what = (sc_leftOver pl).toInt64 := by unfold sc_X3_lookAtPlace; rw [if_neg c_1, if_neg c_2, if_pos c_3, if_neg c_4, if_neg c_5, if_neg c_6, if_neg c_7, if_pos c_8]
          exact W.lret hx hb hr (fun t2 ht2 hW => ⟨by rw [hsp], ht2⟩) (fun q hq => by cases hq) dX3_lookAtPlace_120 hlocks
        by_cases c_9 : what = 5
        · refine lv_tableIn (off := 73) (tgt := 121) hx hb dX3_lookAtPlace_48 (by rw [c_9]; decide) (by rw [c_9]; decide) (by rw [c_9]; rfl) (by decide) ?_
          refine lv_aload_n hx hb dX3_lookAtPlace_121 rfl (lv_at hl 0 rfl) ?_
          refine vc_itemCount S hK (vaL (vaL hP)) (va_cwU 0 hts gX3_lookAtPlace_X5_itemCount_u371X8 rfl rfl rfl rfl (by decide +kernel) ⟨Nat.le_of_ble_eq_true rfl, Nat.le_of_ble_eq_true rfl⟩) (va_cwU 0 hts gX3_lookAtPlace_X5_itemCount_u371X2 rfl rfl rfl rfl (by decide +kernel) ⟨Nat.le_of_ble_eq_true rfl, Nat.le_of_ble_eq_true rfl⟩) (va_cwO 0 hts gX3_lookAtPlace_X4_itemCount_u371X4 rfl rfl rfl (b0 := cX5_itemCount) (m0 := 1) (r0 := some .int) (by decide +kernel) (by decide +kernel) ⟨Nat.le_of_ble_eq_true rfl, Nat.le_of_ble_eq_true rfl⟩) (va_cwU 0 hts gX3_lookAtPlace_X5_itemCount_u371X1 rfl rfl rfl rfl (by decide +kernel) ⟨Nat.le_of_ble_eq_true rfl, Nat.le_of_ble_eq_true rfl⟩) (va_cwU 0 hts gX3_lookAtPlace_X5_itemCount_u371X6 rfl rfl rfl rfl (by decide +kernel) ⟨Nat.le_of_ble_eq_true rfl, Nat.le_of_ble_eq_true rfl⟩) hl.1 rfl (Nat.le_of_ble_eq_true rfl) dX3_lookAtPlace_122 ⟨Nat.zero_le _, Nat.zero_le _⟩ ?_
          refine lv_i2l (v := (sc_itemCount pl).toInt64) hx hb dX3_lookAtPlace_125 rfl ?_
          have hsp : sc_X3_lookAtPlace pl Z place what = (sc_itemCount pl).toInt64 := by unfold sc_X3_lookAtPlace; rw [if_neg c_1, if_neg c_2, if_pos c_3, if_neg c_4, if_neg c_5, if_neg c_6, if_neg c_7, if_neg c_8, if_pos c_9]
          exact W.lret hx hb hr (fun t2 ht2 hW => ⟨by rw [hsp], ht2⟩) (fun q hq => by cases hq) dX3_lookAtPlace_126 hlocks
        have q_0 : ¬ (what).toInt = 0 := fun h => c_4 (sw_eq (v := 0) (by decide) h)
        have q_1 : ¬ (what).toInt = 1 := fun h => c_5 (sw_eq (v := 1) (by decide) h)
        have q_2 : ¬ (what).toInt = 2 := fun h => c_6 (sw_eq (v := 2) (by decide) h)
        have q_3 : ¬ (what).toInt = 3 := fun h => c_7 (sw_eq (v := 3) (by decide) h)
        have q_4 : ¬ (what).toInt = 4 := fun h => c_8 (sw_eq (v := 4) (by decide) h)
        have q_5 : ¬ (what).toInt = 5 := fun h => c_9 (sw_eq (v := 5) (by decide) h)
        refine lv_tableOut (tgt := 127) hx hb dX3_lookAtPlace_48 (by omega) (by decide) ?_
        refine lv_aload_n hx hb dX3_lookAtPlace_127 rfl (lv_at hl 0 rfl) ?_
        refine vc_tellers S hK (vaL (vaL hP)) (va_cwU 0 hts gX3_lookAtPlace_X5_tellers_u372X8 rfl rfl rfl rfl (by decide +kernel) ⟨Nat.le_of_ble_eq_true rfl, Nat.le_of_ble_eq_true rfl⟩) (va_cwU 0 hts gX3_lookAtPlace_X5_tellers_u372X2 rfl rfl rfl rfl (by decide +kernel) ⟨Nat.le_of_ble_eq_true rfl, Nat.le_of_ble_eq_true rfl⟩) (va_cwU 0 hts gX3_lookAtPlace_X5_tellers_u372X4 rfl rfl rfl rfl (by decide +kernel) ⟨Nat.le_of_ble_eq_true rfl, Nat.le_of_ble_eq_true rfl⟩) (va_cwU 0 hts gX3_lookAtPlace_X5_tellers_u372X1 rfl rfl rfl rfl (by decide +kernel) ⟨Nat.le_of_ble_eq_true rfl, Nat.le_of_ble_eq_true rfl⟩) (va_cwO 0 hts gX3_lookAtPlace_X6_tellers_u372X6 rfl rfl rfl (b0 := cX5_tellers) (m0 := 1) (r0 := some .int) (by decide +kernel) (by decide +kernel) ⟨Nat.le_of_ble_eq_true rfl, Nat.le_of_ble_eq_true rfl⟩) hl.1 rfl (Nat.le_of_ble_eq_true rfl) dX3_lookAtPlace_128 ⟨Nat.zero_le _, Nat.zero_le _⟩ ?_
        refine lv_i2l (v := (sc_tellers pl).toInt64) hx hb dX3_lookAtPlace_131 rfl ?_
        have hsp : sc_X3_lookAtPlace pl Z place what = (sc_tellers pl).toInt64 := by unfold sc_X3_lookAtPlace; rw [if_neg c_1, if_neg c_2, if_pos c_3, if_neg c_4, if_neg c_5, if_neg c_6, if_neg c_7, if_neg c_8, if_neg c_9]
        exact W.lret hx hb hr (fun t2 ht2 hW => ⟨by rw [hsp], ht2⟩) (fun q hq => by cases hq) dX3_lookAtPlace_132 hlocks
      · refine lv_ldc2 (v := (-1)) hx hb hown (hts (.constantLong RX3 362 (-1)) (by decide +kernel)) dX3_lookAtPlace_17 ?_
        have hsp : sc_X3_lookAtPlace pl Z place what = (-1) := by unfold sc_X3_lookAtPlace; rw [if_neg c_1, if_neg c_2, if_neg c_3]
        exact W.lret hx hb hr (fun t2 ht2 hW => ⟨by rw [hsp], ht2⟩) (fun q hq => by cases hq) dX3_lookAtPlace_20 hlocks
def sc_X3_lookAtPlace_n (Z : hZ) (place : Int32) (what : Int32) : Int64 :=
  if (sc_X3_isPlace place) = 0 then
    (-1)
  else
    if what < 0 then
      (-1)
    else
      if what ≤ 6 then
        if what = 0 then
          (sc_X3_boxOrNothing Z place).toInt64
        else
          0
      else
        (-1)
set_option maxHeartbeats 4000000 in
set_option maxRecDepth 100000 in
theorem cC_X3_lookAtPlace_n (l : Launch) (D : va_G) (cs : Nat → ClassId) (k : Nat → Nat) (a : Nat → Nat) (Z : hZ) (sz : Nat) (place : Int32) (what : Int32) (hpq : gp Z (tN place) = none) : Met l yX3_lookAtPlace wsX3_lookAtPlace ({ frames := 1, cells := 0, slots := 0, locals := 21 }) (cPc [.ref (a 0), .int place, .int what] D cs (([] ++ wH a (k 0) cs Z) ++ []) sz) (k2_QcV (.long (sc_X3_lookAtPlace_n Z place what))) 0 0 (fun _ => False) := by
  refine c_in (P := pH a) (cc := cX3_lookAtPlace) (maxL := 4) (ret := (some .long)) (lv := [(0, .ref (a 0)), (1, .int place), (2, .int what)]) (by decide) rfl (Nat.le_of_ble_eq_true rfl) rfl ?_
  intro p e s m below meth c ls S hr hlocks hin hsz hP hK hl hS
  subst hsz
  obtain ⟨hx, hb, hml, hown, hts⟩ := id S
  have hX3 : ∀ w ∈ wsX30, w ∈ wsX3_lookAtPlace := by decide +kernel
  refine lv_iload_n hx hb dX3_lookAtPlace_0 rfl (lv_at hl 1 rfl) ?_
  refine m_st S (As := [.int place]) (rest := []) (cC_X3_isPlace l place) (cwS 1 hts gX3_lookAtPlace_X3_isPlace rfl rfl rfl (by decide +kernel) ⟨Nat.le_of_ble_eq_true rfl, Nat.le_of_ble_eq_true rfl⟩) rfl hl.1 rfl (Nat.le_of_ble_eq_true rfl) dX3_lookAtPlace_1 ⟨Nat.zero_le _, Nat.zero_le _⟩ ?_
  refine lv_if_eq (tgt := 17) hx hb dX3_lookAtPlace_4 (by decide) (fun c_1 => ?_) (fun c_1 => ?_)
  · refine lv_ldc2 (v := (-1)) hx hb hown (hts (.constantLong RX3 362 (-1)) (by decide +kernel)) dX3_lookAtPlace_17 ?_
    have hsp : sc_X3_lookAtPlace_n Z place what = (-1) := by unfold sc_X3_lookAtPlace_n; rw [if_pos c_1]
    exact W.lret hx hb hr (fun t2 ht2 hW => ⟨by rw [hsp], ht2⟩) (fun q hq => by cases hq) dX3_lookAtPlace_20 hlocks
  · refine lv_iload_n hx hb dX3_lookAtPlace_7 rfl (lv_at hl 2 rfl) ?_
    refine lv_if_lt (tgt := 17) hx hb dX3_lookAtPlace_8 (by decide) (fun c_2 => ?_) (fun c_2 => ?_)
    · refine lv_ldc2 (v := (-1)) hx hb hown (hts (.constantLong RX3 362 (-1)) (by decide +kernel)) dX3_lookAtPlace_17 ?_
      have hsp : sc_X3_lookAtPlace_n Z place what = (-1) := by unfold sc_X3_lookAtPlace_n; rw [if_neg c_1, if_pos c_2]
      exact W.lret hx hb hr (fun t2 ht2 hW => ⟨by rw [hsp], ht2⟩) (fun q hq => by cases hq) dX3_lookAtPlace_20 hlocks
    · refine lv_iload_n hx hb dX3_lookAtPlace_11 rfl (lv_at hl 2 rfl) ?_
      refine lv_bipush (v := 6) hx hb dX3_lookAtPlace_12 (by decide) ?_
      refine lv_icmp_le (tgt := 21) hx hb dX3_lookAtPlace_14 (by decide) (fun c_3 => ?_) (fun c_3 => ?_)
      · refine lv_aload_n hx hb dX3_lookAtPlace_21 rfl (lv_at hl 0 rfl) ?_
        refine hx_get hx hb hts hX3 hown hK.1 hP 4 (by decide) (hts (.fieldLink RX3 25 "PledgeHouse$House" "pledges" "[LPledgeHouse$Pledge;") (by decide +kernel)) rfl (v := .ref (a 2)) rfl dX3_lookAtPlace_22 ?_
        refine lv_iload_n hx hb dX3_lookAtPlace_25 rfl (lv_at hl 1 rfl) ?_
        refine hx_pld hx hb hK.1 hP (tN place) (pl_of c_1).1 (pl_of c_1).2 (v := .null) ((congrArg va_rf hpq)) dX3_lookAtPlace_26 ?_
        refine lv_astore_nN (lv' := [(3, .null), (0, .ref (a 0)), (1, .int place), (2, .int what)]) hx hb dX3_lookAtPlace_27 rfl hl (by decide) rfl (fun ls hl => ?_)
        refine lv_aload_nN hx hb dX3_lookAtPlace_28 rfl (lv_at hl 0 rfl) ?_
        refine lv_ifnonnullN hx hb dX3_lookAtPlace_29 ?_
        refine lv_iload_n hx hb dX3_lookAtPlace_32 rfl (lv_at hl 3 rfl) ?_
        refine lv_if_ne (tgt := 45) hx hb dX3_lookAtPlace_33 (by decide) (fun c_4 => ?_) (fun c_4 => ?_)
        · refine lv_lconst (v := 0) hx hb dX3_lookAtPlace_45 (by decide) ?_
          have hsp : sc_X3_lookAtPlace_n Z place what = 0 := by unfold sc_X3_lookAtPlace_n; rw [if_neg c_1, if_neg c_2, if_pos c_3, if_neg c_4]
          exact W.lret hx hb hr (fun t2 ht2 hW => ⟨by rw [hsp], ht2⟩) (fun q hq => by cases hq) dX3_lookAtPlace_46 hlocks
        · refine lv_aload_n hx hb dX3_lookAtPlace_36 rfl (lv_at hl 1 rfl) ?_
          refine lv_iload_n hx hb dX3_lookAtPlace_37 rfl (lv_at hl 2 rfl) ?_
          refine c_rd S hK (hP) (va_recv hK.1 hP (ci := 3) (q0 := _ + 0) rfl (get3 rfl)) (As := [.int place]) (rest := []) (cC_X3_boxOrNothing l D cs k a Z _  place ⟨(pl_of c_1).1, (pl_of c_1).2⟩) (cwV 1 hts gX3_lookAtPlace_X3_boxOrNothing rfl rfl rfl (by decide +kernel) ⟨Nat.le_of_ble_eq_true rfl, Nat.le_of_ble_eq_true rfl⟩) rfl hl.1 rfl (Nat.le_of_ble_eq_true rfl) dX3_lookAtPlace_38 ⟨Nat.zero_le _, Nat.zero_le _⟩ ?_
          refine lv_i2l (v := (sc_X3_boxOrNothing Z place).toInt64) hx hb dX3_lookAtPlace_41 rfl ?_
          refine lv_goto (tgt := 46) hx hb dX3_lookAtPlace_42 (by decide) ?_
          have hsp : sc_X3_lookAtPlace_n Z place what = (sc_X3_boxOrNothing Z place).toInt64 := by unfold sc_X3_lookAtPlace_n; rw [if_neg c_1, if_neg c_2, if_pos c_3, if_pos c_4]
          exact W.lret hx hb hr (fun t2 ht2 hW => ⟨by rw [hsp], ht2⟩) (fun q hq => by cases hq) dX3_lookAtPlace_46 hlocks
      · refine lv_ldc2 (v := (-1)) hx hb hown (hts (.constantLong RX3 362 (-1)) (by decide +kernel)) dX3_lookAtPlace_17 ?_
        have hsp : sc_X3_lookAtPlace_n Z place what = (-1) := by unfold sc_X3_lookAtPlace_n; rw [if_neg c_1, if_neg c_2, if_neg c_3]
        exact W.lret hx hb hr (fun t2 ht2 hW => ⟨by rw [hsp], ht2⟩) (fun q hq => by cases hq) dX3_lookAtPlace_20 hlocks
def sc_X3_lotUnder (nm : Int32) (v : Nat → Int32) (q : Nat → Nat) (pl : pZ) (Z : hZ) : Option Nat :=
  if (sc_X9_isHolders nm v) = 0 then
    none
  else
    if (sc_X3_isPlace (v 15)) = 0 then
      none
    else
      if pl.1 = 2 then
        some (q 0)
      else
        none
set_option maxHeartbeats 4000000 in
set_option maxRecDepth 100000 in
theorem cC_X3_lotUnder (l : Launch) (D : va_G) (cs : Nat → ClassId) (b : Nat → Nat) (nm : Int32) (v : Nat → Int32) (q : Nat → Nat) (pl : pZ) (k : Nat → Nat) (a : Nat → Nat) (Z : hZ) (sz : Nat) (hpq : gp Z (tN (v 15)) = some (q 0)) : Met l yX3_lotUnder wsX3_lotUnder ({ frames := 2, cells := 0, slots := 0, locals := 40 }) (cPc [.ref (a 0), .ref (b 0)] D cs (((wT b nm v ++ wP q cs pl) ++ wH a (k 0) cs Z) ++ []) sz) (k2_QcV (va_rf (sc_X3_lotUnder nm v q pl Z))) 0 0 (fun _ => False) := by
  refine c_in (P := pOr (pT b) (pH a)) (cc := cX3_lotUnder) (maxL := 4) (ret := (some (.object "PledgeHouse$Lot"))) (lv := [(0, .ref (a 0)), (1, .ref (b 0))]) (by decide) rfl (Nat.le_of_ble_eq_true rfl) rfl ?_
  intro p e s m below meth c ls S hr hlocks hin hsz hP hK hl hS
  subst hsz
  obtain ⟨hx, hb, hml, hown, hts⟩ := id S
  have hX3 : ∀ w ∈ wsX30, w ∈ wsX3_lotUnder := by decide +kernel
  have hX9 : ∀ w ∈ wsX90, w ∈ wsX3_lotUnder := by decide +kernel
  refine lv_aload_n hx hb dX3_lotUnder_0 rfl (lv_at hl 1 rfl) ?_
  refine c_rd S hK (show va_P D vwCl (wT b nm v) _ from vaL (vaL (vaL hP))) (va_recv hK.1 hP (ci := 8) (q0 := 0) rfl rfl) (As := []) (rest := []) (cC_X9_isHolders l D cs b nm v _   ) (cwV 0 hts gX3_lotUnder_X9_isHolders rfl rfl rfl (by decide +kernel) ⟨Nat.le_of_ble_eq_true rfl, Nat.le_of_ble_eq_true rfl⟩) rfl hl.1 rfl (Nat.le_of_ble_eq_true rfl) dX3_lotUnder_1 ⟨Nat.zero_le _, Nat.zero_le _⟩ ?_
  refine lv_if_eq (tgt := 41) hx hb dX3_lotUnder_4 (by decide) (fun c_1 => ?_) (fun c_1 => ?_)
  · refine lv_null hx hb dX3_lotUnder_41 ?_
    have hsp : sc_X3_lotUnder nm v q pl Z = none := by unfold sc_X3_lotUnder; rw [if_pos c_1]
    exact W.aret hx hb hr (Or.inl ⟨_, rfl⟩) (Or.inl rfl) (fun t2 ht2 hW => ⟨by rw [hsp]; rfl, ht2⟩) (fun q hq => by cases hq) dX3_lotUnder_42 hlocks
  · refine lv_aload_n hx hb dX3_lotUnder_7 rfl (lv_at hl 1 rfl) ?_
    refine va_get (D := D) (ci := 8) (v := .int (v 15)) (C := RX9) (T := TX9) (N := 19) hx hb hts hX9 hown hK.1 hP 0 rfl rfl 1 (by decide) (hts (.fieldLink RX3 212 "PledgeHouse$Ticket" "place" "I") (by decide +kernel)) (fun _ h9 => h9) rfl dX3_lotUnder_8 ?_
    refine m_st S (As := [.int (v 15)]) (rest := []) (cC_X3_isPlace l (v 15)) (cwS 1 hts gX3_lotUnder_X3_isPlace rfl rfl rfl (by decide +kernel) ⟨Nat.le_of_ble_eq_true rfl, Nat.le_of_ble_eq_true rfl⟩) rfl hl.1 rfl (Nat.le_of_ble_eq_true rfl) dX3_lotUnder_11 ⟨Nat.zero_le _, Nat.zero_le _⟩ ?_
    refine lv_if_eq (tgt := 41) hx hb dX3_lotUnder_14 (by decide) (fun c_2 => ?_) (fun c_2 => ?_)
    · refine lv_null hx hb dX3_lotUnder_41 ?_
      have hsp : sc_X3_lotUnder nm v q pl Z = none := by unfold sc_X3_lotUnder; rw [if_neg c_1, if_pos c_2]
      exact W.aret hx hb hr (Or.inl ⟨_, rfl⟩) (Or.inl rfl) (fun t2 ht2 hW => ⟨by rw [hsp]; rfl, ht2⟩) (fun q hq => by cases hq) dX3_lotUnder_42 hlocks
    · refine lv_aload_n hx hb dX3_lotUnder_17 rfl (lv_at hl 0 rfl) ?_
      refine hx_get hx hb hts hX3 hown hK.1 hP 4 (by decide) (hts (.fieldLink RX3 25 "PledgeHouse$House" "pledges" "[LPledgeHouse$Pledge;") (by decide +kernel)) rfl (v := .ref (a 2)) rfl dX3_lotUnder_18 ?_
      refine lv_aload_n hx hb dX3_lotUnder_21 rfl (lv_at hl 1 rfl) ?_
      refine va_get (D := D) (ci := 8) (v := .int (v 15)) (C := RX9) (T := TX9) (N := 19) hx hb hts hX9 hown hK.1 hP 0 rfl rfl 1 (by decide) (hts (.fieldLink RX3 212 "PledgeHouse$Ticket" "place" "I") (by decide +kernel)) (fun _ h9 => h9) rfl dX3_lotUnder_22 ?_
      refine hx_pld hx hb hK.1 hP (tN (v 15)) (pl_of c_2).1 (pl_of c_2).2 (v := .ref (q 0)) ((congrArg va_rf hpq)) dX3_lotUnder_25 ?_
      refine lv_astore_n (lv' := [(3, .ref (q 0)), (0, .ref (a 0)), (1, .ref (b 0))]) hx hb dX3_lotUnder_26 rfl hl (by decide) rfl (fun ls hl => ?_)
      refine lv_aload_n hx hb dX3_lotUnder_27 rfl (lv_at hl 0 rfl) ?_
      by_cases c_3 : pl.1 = 2
      · refine il_yes rfl hx hb hown (hts (.classLink RX3 170 "PledgeHouse$Lot") (by decide +kernel)) hK (vaR (vaL (vaL hP))) c_3 dX3_lotUnder_28 ?_
        refine lv_if_eq (tgt := 41) hx hb dX3_lotUnder_31 (by decide) (fun c_4 => ?_) (fun c_4 => ?_)
        · exact absurd c_4 (by decide)
        · refine lv_aload_n hx hb dX3_lotUnder_34 rfl (lv_at hl 0 rfl) ?_
          refine ic_yes rfl hx hb hown (hts (.classLink RX3 170 "PledgeHouse$Lot") (by decide +kernel)) hK (vaR (vaL (vaL hP))) c_3 dX3_lotUnder_35 ?_
          refine lv_astore_n (lv' := [(2, .ref (q 0)), (3, .ref (q 0)), (0, .ref (a 0)), (1, .ref (b 0))]) hx hb dX3_lotUnder_38 rfl hl (by decide) rfl (fun ls hl => ?_)
          refine lv_aload_n hx hb dX3_lotUnder_39 rfl (lv_at hl 0 rfl) ?_
          have hsp : sc_X3_lotUnder nm v q pl Z = some (q 0) := by unfold sc_X3_lotUnder; rw [if_neg c_1, if_neg c_2, if_pos c_3]
          exact W.aret hx hb hr (Or.inl ⟨_, rfl⟩) (Or.inr ⟨_, rfl⟩) (fun t2 ht2 hW => ⟨by rw [hsp]; rfl, ht2⟩) (fun q hq => by cases hq) dX3_lotUnder_40 hlocks
      · refine il_no rfl hx hb hown (hts (.classLink RX3 170 "PledgeHouse$Lot") (by decide +kernel)) hK (vaR (vaL (vaL hP))) c_3 dX3_lotUnder_28 ?_
        refine lv_if_eq (tgt := 41) hx hb dX3_lotUnder_31 (by decide) (fun c_5 => ?_) (fun c_5 => ?_)
        · refine lv_null hx hb dX3_lotUnder_41 ?_
          have hsp : sc_X3_lotUnder nm v q pl Z = none := by unfold sc_X3_lotUnder; rw [if_neg c_1, if_neg c_2, if_neg c_3]
          exact W.aret hx hb hr (Or.inl ⟨_, rfl⟩) (Or.inl rfl) (fun t2 ht2 hW => ⟨by rw [hsp]; rfl, ht2⟩) (fun q hq => by cases hq) dX3_lotUnder_42 hlocks
        · exact absurd c_5 (by decide)
def sc_X3_lotUnder_n (nm : Int32) (v : Nat → Int32) (Z : hZ) : Option Nat :=
  if (sc_X9_isHolders nm v) = 0 then
    none
  else
    if (sc_X3_isPlace (v 15)) = 0 then
      none
    else
      none
set_option maxHeartbeats 4000000 in
set_option maxRecDepth 100000 in
theorem cC_X3_lotUnder_n (l : Launch) (D : va_G) (cs : Nat → ClassId) (b : Nat → Nat) (nm : Int32) (v : Nat → Int32) (k : Nat → Nat) (a : Nat → Nat) (Z : hZ) (sz : Nat) (hpq : gp Z (tN (v 15)) = none) : Met l yX3_lotUnder wsX3_lotUnder ({ frames := 2, cells := 0, slots := 0, locals := 40 }) (cPc [.ref (a 0), .ref (b 0)] D cs ((wT b nm v ++ wH a (k 0) cs Z) ++ []) sz) (k2_QcV (va_rf (sc_X3_lotUnder_n nm v Z))) 0 0 (fun _ => False) := by
  refine c_in (P := pOr (pT b) (pH a)) (cc := cX3_lotUnder) (maxL := 4) (ret := (some (.object "PledgeHouse$Lot"))) (lv := [(0, .ref (a 0)), (1, .ref (b 0))]) (by decide) rfl (Nat.le_of_ble_eq_true rfl) rfl ?_
  intro p e s m below meth c ls S hr hlocks hin hsz hP hK hl hS
  subst hsz
  obtain ⟨hx, hb, hml, hown, hts⟩ := id S
  have hX3 : ∀ w ∈ wsX30, w ∈ wsX3_lotUnder := by decide +kernel
  have hX9 : ∀ w ∈ wsX90, w ∈ wsX3_lotUnder := by decide +kernel
  refine lv_aload_n hx hb dX3_lotUnder_0 rfl (lv_at hl 1 rfl) ?_
  refine c_rd S hK (show va_P D vwCl (wT b nm v) _ from vaL (vaL hP)) (va_recv hK.1 hP (ci := 8) (q0 := 0) rfl rfl) (As := []) (rest := []) (cC_X9_isHolders l D cs b nm v _   ) (cwV 0 hts gX3_lotUnder_X9_isHolders rfl rfl rfl (by decide +kernel) ⟨Nat.le_of_ble_eq_true rfl, Nat.le_of_ble_eq_true rfl⟩) rfl hl.1 rfl (Nat.le_of_ble_eq_true rfl) dX3_lotUnder_1 ⟨Nat.zero_le _, Nat.zero_le _⟩ ?_
  refine lv_if_eq (tgt := 41) hx hb dX3_lotUnder_4 (by decide) (fun c_1 => ?_) (fun c_1 => ?_)
  · refine lv_null hx hb dX3_lotUnder_41 ?_
    have hsp : sc_X3_lotUnder_n nm v Z = none := by unfold sc_X3_lotUnder_n; rw [if_pos c_1]
    exact W.aret hx hb hr (Or.inl ⟨_, rfl⟩) (Or.inl rfl) (fun t2 ht2 hW => ⟨by rw [hsp]; rfl, ht2⟩) (fun q hq => by cases hq) dX3_lotUnder_42 hlocks
  · refine lv_aload_n hx hb dX3_lotUnder_7 rfl (lv_at hl 1 rfl) ?_
    refine va_get (D := D) (ci := 8) (v := .int (v 15)) (C := RX9) (T := TX9) (N := 19) hx hb hts hX9 hown hK.1 hP 0 rfl rfl 1 (by decide) (hts (.fieldLink RX3 212 "PledgeHouse$Ticket" "place" "I") (by decide +kernel)) (fun _ h9 => h9) rfl dX3_lotUnder_8 ?_
    refine m_st S (As := [.int (v 15)]) (rest := []) (cC_X3_isPlace l (v 15)) (cwS 1 hts gX3_lotUnder_X3_isPlace rfl rfl rfl (by decide +kernel) ⟨Nat.le_of_ble_eq_true rfl, Nat.le_of_ble_eq_true rfl⟩) rfl hl.1 rfl (Nat.le_of_ble_eq_true rfl) dX3_lotUnder_11 ⟨Nat.zero_le _, Nat.zero_le _⟩ ?_
    refine lv_if_eq (tgt := 41) hx hb dX3_lotUnder_14 (by decide) (fun c_2 => ?_) (fun c_2 => ?_)
    · refine lv_null hx hb dX3_lotUnder_41 ?_
      have hsp : sc_X3_lotUnder_n nm v Z = none := by unfold sc_X3_lotUnder_n; rw [if_neg c_1, if_pos c_2]
      exact W.aret hx hb hr (Or.inl ⟨_, rfl⟩) (Or.inl rfl) (fun t2 ht2 hW => ⟨by rw [hsp]; rfl, ht2⟩) (fun q hq => by cases hq) dX3_lotUnder_42 hlocks
    · refine lv_aload_n hx hb dX3_lotUnder_17 rfl (lv_at hl 0 rfl) ?_
      refine hx_get hx hb hts hX3 hown hK.1 hP 4 (by decide) (hts (.fieldLink RX3 25 "PledgeHouse$House" "pledges" "[LPledgeHouse$Pledge;") (by decide +kernel)) rfl (v := .ref (a 2)) rfl dX3_lotUnder_18 ?_
      refine lv_aload_n hx hb dX3_lotUnder_21 rfl (lv_at hl 1 rfl) ?_
      refine va_get (D := D) (ci := 8) (v := .int (v 15)) (C := RX9) (T := TX9) (N := 19) hx hb hts hX9 hown hK.1 hP 0 rfl rfl 1 (by decide) (hts (.fieldLink RX3 212 "PledgeHouse$Ticket" "place" "I") (by decide +kernel)) (fun _ h9 => h9) rfl dX3_lotUnder_22 ?_
      refine hx_pld hx hb hK.1 hP (tN (v 15)) (pl_of c_2).1 (pl_of c_2).2 (v := .null) ((congrArg va_rf hpq)) dX3_lotUnder_25 ?_
      refine lv_astore_nN (lv' := [(3, .null), (0, .ref (a 0)), (1, .ref (b 0))]) hx hb dX3_lotUnder_26 rfl hl (by decide) rfl (fun ls hl => ?_)
      refine lv_aload_nN hx hb dX3_lotUnder_27 rfl (lv_at hl 0 rfl) ?_
      refine lv_instN hx hb dX3_lotUnder_28 ?_
      refine lv_if_eq (tgt := 41) hx hb dX3_lotUnder_31 (by decide) (fun c_3 => ?_) (fun c_3 => ?_)
      · refine lv_null hx hb dX3_lotUnder_41 ?_
        have hsp : sc_X3_lotUnder_n nm v Z = none := by unfold sc_X3_lotUnder_n; rw [if_neg c_1, if_neg c_2]
        exact W.aret hx hb hr (Or.inl ⟨_, rfl⟩) (Or.inl rfl) (fun t2 ht2 hW => ⟨by rw [hsp]; rfl, ht2⟩) (fun q hq => by cases hq) dX3_lotUnder_42 hlocks
      · exact absurd c_3 (by decide)
