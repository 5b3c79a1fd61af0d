/-! the reference's methods with floats, lending, books of a day (by gen_model.py) -/
def wAll (w : UInt32) : UInt32 := FP.fmul w 1120403456
def wOver (w : UInt32) : UInt32 := FP.fmul (FP.fsub (wAll w) (FP.i2f (FP.f2i (wAll w)))) 1148846080
/-- none of the numbers that a weighing makes is a NaN -/
def WOK (w : UInt32) : Prop := vf_n32 (wAll w) ∧ vf_n32 (FP.fsub (wAll w) (FP.i2f (FP.f2i (wAll w)))) ∧ vf_n32 (wOver w)
theorem tok_inc {Z : mZ} (h : cok Z) (h5 : ¬ zh Z 1 = 511) : tok (zh Z 1 + 1) := by
  obtain ⟨n, hn, e⟩ := h
  rw [e] at h5 ⊢
  have : n ≠ 511 := fun q => h5 (by rw [q]; rfl)
  exact ⟨n + 1, by omega, nI_1 n⟩
/-- the day is one -/
def dok (Z : mZ) : Prop := ∃ n : Nat, n ≤ 7300 ∧ zh Z 0 = nI n
theorem as_ix {Z : mZ} {day what : Int32} (hd : dok Z) (h1 : ¬ what < 0) (h2 : what < 13) (h3 : ¬ day < 0) (h4 : day ≤ zh Z 0) : 13 * day + what = nI (13 * tN day + tN what) ∧ 13 * tN day + tN what < 94913 := by
  obtain ⟨d, hd1, hd2⟩ := hd
  obtain ⟨a, ha, rfl⟩ := nI_of (x := day) h3
  obtain ⟨b, hb, rfl⟩ := nI_of (x := what) h1
  rw [hd2] at h4
  have q1 := (nI_leI ha (by omega)).mp h4
  have q2 := (nI_ltI (a := b) (b := 13) hb (by omega)).mp h2
  rw [tN_n ha, tN_n hb, show (13 : Int32) = nI 13 from rfl, pk_mul, nI_add]
  exact ⟨rfl, by omega⟩

def sp_isWeight (w : UInt32) : Int32 :=
  if (Op.cmpValue (FP.fcmp w FP.fconst0) .l) < 0 then
    0
  else
    if 0 < (Op.cmpValue (FP.fcmp w 1176256512) .g) then
      0
    else
      1
set_option maxHeartbeats 4000000 in
set_option maxRecDepth 100000 in
theorem cM_isWeight (l : Launch) (w : UInt32) : Met l yX13_isWeight wsX13_isWeight ({ frames := 0, cells := 0, slots := 0, locals := 0 }) (fun v9 _ => v9 = [.float w].toArray) (k2_QcV (.int (sp_isWeight w))) 0 0 (fun _ => False) := by
  refine s_in (cc := cX13_isWeight) (maxL := 1) (ret := (some .boolean)) (lv := [(0, .float w)]) (by decide) rfl (Nat.le_of_ble_eq_true rfl) rfl ?_
  intro p e s m below meth c ls S hr hlocks hl
  obtain ⟨hx, hb, hml, hown, hts⟩ := id S
  refine lv_fload_n hx hb dX13_isWeight_0 rfl (lv_at hl 0 rfl) ?_
  refine lv_fconst0 hx hb dX13_isWeight_1 ?_
  refine lv_fcmp hx hb dX13_isWeight_2 ?_
  refine lv_if_lt (tgt := 17) hx hb dX13_isWeight_3 (by decide) (fun c_1 => ?_) (fun c_1 => ?_)
  · refine lv_iconst (v := 0) hx hb dX13_isWeight_17 (by decide) ?_
    have hsp : sp_isWeight w = 0 := by unfold sp_isWeight; rw [if_pos c_1]
    exact W.zret hx hb hr (by decide) (fun t2 ht2 hW => ⟨by rw [hsp], ht2⟩) (fun q hq => by cases hq) dX13_isWeight_18 hlocks
  · refine lv_fload_n hx hb dX13_isWeight_6 rfl (lv_at hl 0 rfl) ?_
    refine lv_ldcf (v := 1176256512) hx hb hown (hts (.constantFloat RX13 106 (1176256512)) (by decide +kernel)) dX13_isWeight_7 ?_
    refine lv_fcmp hx hb dX13_isWeight_9 ?_
    refine lv_if_gt (tgt := 17) hx hb dX13_isWeight_10 (by decide) (fun c_2 => ?_) (fun c_2 => ?_)
    · refine lv_iconst (v := 0) hx hb dX13_isWeight_17 (by decide) ?_
      have hsp : sp_isWeight w = 0 := by unfold sp_isWeight; rw [if_neg c_1, if_pos c_2]
      exact W.zret hx hb hr (by decide) (fun t2 ht2 hW => ⟨by rw [hsp], ht2⟩) (fun q hq => by cases hq) dX13_isWeight_18 hlocks
    · refine lv_iconst (v := 1) hx hb dX13_isWeight_13 (by decide) ?_
      refine lv_goto (tgt := 18) hx hb dX13_isWeight_14 (by decide) ?_
      have hsp : sp_isWeight w = 1 := by unfold sp_isWeight; rw [if_neg c_1, if_neg c_2]
      exact W.zret hx hb hr (by decide) (fun t2 ht2 hW => ⟨by rw [hsp], ht2⟩) (fun q hq => by cases hq) dX13_isWeight_18 hlocks
def sp_weighs (Z : mZ) (place : Int32) (weight : UInt32) : mZ :=
  shp (shp Z (tN place) 6 (FP.f2i (FP.fmul weight 1120403456))) (tN place) 7 (FP.f2i (FP.fmul (FP.fsub (FP.fmul weight 1120403456) (FP.i2f (FP.f2i (FP.fmul weight 1120403456)))) 1148846080))
set_option maxHeartbeats 4000000 in
set_option maxRecDepth 100000 in
theorem cM_weighs (l : Launch) (D : va_G) (cI cJ : ClassId) (ad : Nat → Nat) (Z : mZ) (sz : Nat) (hi : mI ad) (place : Int32) (weight : UInt32) (hplace : pok place) (hw : WOK weight) : Met l yX13_weighs wsX13_weighs ({ frames := 1, cells := 0, slots := 0, locals := 23 }) (mPc [.ref (ad 0), .int place, .float weight] D cI cJ ad Z sz) (mQ D cI cJ ad none (sp_weighs Z place weight) sz) 0 0 (mA ad sz) := by
  refine m_in (cc := cX13_weighs) (maxL := 5) (ret := none) (lv := [(0, .ref (ad 0)), (1, .int place), (2, .float weight)]) (by decide) rfl (Nat.le_of_ble_eq_true rfl) rfl ?_
  intro p e s m below meth c ls S hr hlocks hin hsz hP hK hl hS
  subst hsz
  obtain ⟨hx, hb, hml, hown, hts⟩ := id S
  refine lv_fload_n hx hb dX13_weighs_0 rfl (lv_at hl 2 rfl) ?_
  refine lv_ldcf (v := 1120403456) hx hb hown (hts (.constantFloat RX13 107 (1120403456)) (by decide +kernel)) dX13_weighs_1 ?_
  refine lv_fmul hx hb dX13_weighs_3 hw.1 ?_
  refine lv_fstore_n (lv' := [(3, .float (FP.fmul weight 1120403456)), (0, .ref (ad 0)), (1, .int place), (2, .float weight)]) hx hb dX13_weighs_4 rfl hl (by decide) rfl (fun ls hl => ?_)
  refine lv_fload_n hx hb dX13_weighs_5 rfl (lv_at hl 0 rfl) ?_
  refine lv_f2i hx hb dX13_weighs_6 ?_
  refine lv_istore (lv' := [(4, .int (FP.f2i (FP.fmul weight 1120403456))), (3, .float (FP.fmul weight 1120403456)), (0, .ref (ad 0)), (1, .int place), (2, .float weight)]) hx hb dX13_weighs_7 hl (by decide) rfl (fun ls hl => ?_)
  refine lv_aload_n hx hb dX13_weighs_9 rfl (lv_at hl 2 rfl) ?_
  refine lv_iload_n hx hb dX13_weighs_10 rfl (lv_at hl 3 rfl) ?_
  refine lv_bipush (v := 6) hx hb dX13_weighs_11 (by decide) ?_
  refine lv_iload hx hb dX13_weighs_13 (lv_at hl 0 rfl) ?_
  refine m_wv S hK hP hS (As := [.int place, .int 6, .int (FP.f2i (FP.fmul weight 1120403456))]) (rest := []) (cM_set l D cI cJ ad Z _ hi place 6 (FP.f2i (FP.fmul weight 1120403456)) hplace 6 rfl (by decide)) (cwV 3 hts gX13_weighs_X13_set rfl rfl rfl (by decide +kernel) ⟨Nat.le_of_ble_eq_true rfl, Nat.le_of_ble_eq_true rfl⟩) rfl hl.1 rfl (Nat.le_of_ble_eq_true rfl) dX13_weighs_15 ⟨Nat.zero_le _, Nat.zero_le _⟩ (fun H locs hP hS => ?_)
  refine lv_aload_n hx hb dX13_weighs_18 rfl (lv_at hl 2 rfl) ?_
  refine lv_iload_n hx hb dX13_weighs_19 rfl (lv_at hl 3 rfl) ?_
  refine lv_bipush (v := 7) hx hb dX13_weighs_20 (by decide) ?_
  refine lv_fload_n hx hb dX13_weighs_22 rfl (lv_at hl 1 rfl) ?_
  refine lv_iload hx hb dX13_weighs_23 (lv_at hl 0 rfl) ?_
  refine lv_i2f hx hb dX13_weighs_25 ?_
  refine lv_fsub hx hb dX13_weighs_26 hw.2.1 ?_
  refine lv_ldcf (v := 1148846080) hx hb hown (hts (.constantFloat RX13 108 (1148846080)) (by decide +kernel)) dX13_weighs_27 ?_
  refine lv_fmul hx hb dX13_weighs_29 hw.2.2 ?_
  refine lv_f2i hx hb dX13_weighs_30 ?_
  refine m_wv S hK hP hS (As := [.int place, .int 7, .int (FP.f2i (FP.fmul (FP.fsub (FP.fmul weight 1120403456) (FP.i2f (FP.f2i (FP.fmul weight 1120403456)))) 1148846080))]) (rest := []) (cM_set l D cI cJ ad (shp Z (tN place) 6 (FP.f2i (FP.fmul weight 1120403456))) _ hi place 7 (FP.f2i (FP.fmul (FP.fsub (FP.fmul weight 1120403456) (FP.i2f (FP.f2i (FP.fmul weight 1120403456)))) 1148846080)) hplace 7 rfl (by decide)) (cwV 3 hts gX13_weighs_X13_set rfl rfl rfl (by decide +kernel) ⟨Nat.le_of_ble_eq_true rfl, Nat.le_of_ble_eq_true rfl⟩) rfl hl.1 rfl (Nat.le_of_ble_eq_true rfl) dX13_weighs_31 ⟨Nat.zero_le _, Nat.zero_le _⟩ (fun H locs hP hS => ?_)
  have hsp : sp_weighs Z place weight = shp (shp Z (tN place) 6 (FP.f2i (FP.fmul weight 1120403456))) (tN place) 7 (FP.f2i (FP.fmul (FP.fsub (FP.fmul weight 1120403456) (FP.i2f (FP.f2i (FP.fmul weight 1120403456)))) 1148846080)) := rfl
  exact W.vret hx hb hr (fun t2 ht2 hW => by rw [hsp]; exact ⟨rfl, by rw [ht2]; exact hP, hS.F ht2⟩) hS.2.2 dX13_weighs_34 hlocks
theorem sh_weighs6 {Z : mZ} {p : Int32} {w : UInt32} {n : Nat} (hn : n = tN p) : sh (sp_weighs Z p w) n 6 = FP.f2i (FP.fmul w 1120403456) := by
  subst hn
  exact (sh_ne (by decide)).trans sh_eq
def sp_gold (Z : mZ) (place : Int32) (weight : UInt32) (fineness : Int32) : Int32 × mZ :=
  if 0 ≤ (sp_bare Z place) then
    if (sp_isWeight weight) = 0 then
      ((-6), zR Z (-6))
    else
      if fineness < 1 then
        ((-6), zR Z (-6))
      else
        if fineness ≤ 1000 then
          (FP.f2i (FP.fmul weight 1120403456), zR (shp (sp_weighs (sp_comes Z place 1) place weight) (tN place) 4 fineness) (FP.f2i (FP.fmul weight 1120403456)))
        else
          ((-6), zR Z (-6))
  else
    (sp_bare Z place, zR Z (sp_bare Z place))
set_option maxHeartbeats 4000000 in
set_option maxRecDepth 100000 in
theorem cM_gold (l : Launch) (D : va_G) (cI cJ : ClassId) (ad : Nat → Nat) (Z : mZ) (sz : Nat) (hi : mI ad) (place : Int32) (weight : UInt32) (fineness : Int32) (hw : ¬ sp_isWeight weight = 0 → WOK weight) : Met l yX13_gold wsX13_gold ({ frames := 2, cells := 0, slots := 0, locals := 47 }) (mPc [.ref (ad 0), .int place, .float weight, .int fineness] D cI cJ ad Z sz) (mQ D cI cJ ad (some (.int (sp_gold Z place weight fineness).1)) (sp_gold Z place weight fineness).2 sz) 0 0 (mA ad sz) := by
  refine m_in (cc := cX13_gold) (maxL := 5) (ret := (some .int)) (lv := [(0, .ref (ad 0)), (1, .int place), (2, .float weight), (3, .int fineness)]) (by decide) rfl (Nat.le_of_ble_eq_true rfl) rfl ?_
  intro p e s m below meth c ls S hr hlocks hin hsz hP hK hl hS
  subst hsz
  obtain ⟨hx, hb, hml, hown, hts⟩ := id S
  refine lv_aload_n hx hb dX13_gold_0 rfl (lv_at hl 0 rfl) ?_
  refine lv_iload_n hx hb dX13_gold_1 rfl (lv_at hl 1 rfl) ?_
  refine m_rd S hK hP (As := [.int place]) (rest := []) (cM_bare l D cI cJ ad Z _ place ) (cwV 1 hts gX13_gold_X13_bare rfl rfl rfl (by decide +kernel) ⟨Nat.le_of_ble_eq_true rfl, Nat.le_of_ble_eq_true rfl⟩) rfl hl.1 rfl (Nat.le_of_ble_eq_true rfl) dX13_gold_2 ⟨Nat.zero_le _, Nat.zero_le _⟩ ?_
  refine lv_istore (lv' := [(4, .int (sp_bare Z place)), (0, .ref (ad 0)), (1, .int place), (2, .float weight), (3, .int fineness)]) hx hb dX13_gold_5 hl (by decide) rfl (fun ls hl => ?_)
  refine lv_iload hx hb dX13_gold_7 (lv_at hl 0 rfl) ?_
  refine lv_if_ge (tgt := 19) hx hb dX13_gold_9 (by decide) (fun c_1 => ?_) (fun c_1 => ?_)
  · refine lv_fload_n hx hb dX13_gold_19 rfl (lv_at hl 3 rfl) ?_
    refine m_st S (As := [.float weight]) (rest := []) (cM_isWeight l weight ) (cwS 1 hts gX13_gold_X13_isWeight rfl rfl rfl (by decide +kernel) ⟨Nat.le_of_ble_eq_true rfl, Nat.le_of_ble_eq_true rfl⟩) rfl hl.1 rfl (Nat.le_of_ble_eq_true rfl) dX13_gold_20 ⟨Nat.zero_le _, Nat.zero_le _⟩ ?_
    refine lv_if_eq (tgt := 38) hx hb dX13_gold_23 (by decide) (fun c_2 => ?_) (fun c_2 => ?_)
    · refine lv_aload_n hx hb dX13_gold_38 rfl (lv_at hl 1 rfl) ?_
      refine lv_bipush (v := (-6)) hx hb dX13_gold_39 (by decide) ?_
      refine m_wr S hK hP hS (As := [.int (-6)]) (rest := []) (cM_says l D cI cJ ad Z _ hi (-6)) (cwV 1 hts gX13_gold_X13_says rfl rfl rfl (by decide +kernel) ⟨Nat.le_of_ble_eq_true rfl, Nat.le_of_ble_eq_true rfl⟩) rfl hl.1 rfl (Nat.le_of_ble_eq_true rfl) dX13_gold_41 ⟨Nat.zero_le _, Nat.zero_le _⟩ (fun H locs hP hS => ?_)
      have hsp : sp_gold Z place weight fineness = ((-6), zR Z (-6)) := by unfold sp_gold; rw [if_pos c_1, if_pos c_2]
      exact W.iret hx hb hr (fun t2 ht2 hW => by rw [hsp]; exact ⟨rfl, by rw [ht2]; exact hP, hS.F ht2⟩) hS.2.2 dX13_gold_44 hlocks
    · refine lv_iload_n hx hb dX13_gold_26 rfl (lv_at hl 4 rfl) ?_
      refine lv_iconst (v := 1) hx hb dX13_gold_27 (by decide) ?_
      refine lv_icmp_lt (tgt := 38) hx hb dX13_gold_28 (by decide) (fun c_3 => ?_) (fun c_3 => ?_)
      · refine lv_aload_n hx hb dX13_gold_38 rfl (lv_at hl 1 rfl) ?_
        refine lv_bipush (v := (-6)) hx hb dX13_gold_39 (by decide) ?_
        refine m_wr S hK hP hS (As := [.int (-6)]) (rest := []) (cM_says l D cI cJ ad Z _ hi (-6)) (cwV 1 hts gX13_gold_X13_says rfl rfl rfl (by decide +kernel) ⟨Nat.le_of_ble_eq_true rfl, Nat.le_of_ble_eq_true rfl⟩) rfl hl.1 rfl (Nat.le_of_ble_eq_true rfl) dX13_gold_41 ⟨Nat.zero_le _, Nat.zero_le _⟩ (fun H locs hP hS => ?_)
        have hsp : sp_gold Z place weight fineness = ((-6), zR Z (-6)) := by unfold sp_gold; rw [if_pos c_1, if_neg c_2, if_pos c_3]
        exact W.iret hx hb hr (fun t2 ht2 hW => by rw [hsp]; exact ⟨rfl, by rw [ht2]; exact hP, hS.F ht2⟩) hS.2.2 dX13_gold_44 hlocks
      · refine lv_iload_n hx hb dX13_gold_31 rfl (lv_at hl 4 rfl) ?_
        refine lv_sipush (v := 1000) hx hb dX13_gold_32 (by decide) ?_
        refine lv_icmp_le (tgt := 45) hx hb dX13_gold_35 (by decide) (fun c_4 => ?_) (fun c_4 => ?_)
        · refine lv_aload_n hx hb dX13_gold_45 rfl (lv_at hl 1 rfl) ?_
          refine lv_iload_n hx hb dX13_gold_46 rfl (lv_at hl 2 rfl) ?_
          refine lv_iconst (v := 1) hx hb dX13_gold_47 (by decide) ?_
          refine m_wv S hK hP hS (As := [.int place, .int 1]) (rest := []) (cM_comes l D cI cJ ad Z _ hi place 1 (pok_bare c_1)) (cwV 2 hts gX13_gold_X13_comes rfl rfl rfl (by decide +kernel) ⟨Nat.le_of_ble_eq_true rfl, Nat.le_of_ble_eq_true rfl⟩) rfl hl.1 rfl (Nat.le_of_ble_eq_true rfl) dX13_gold_48 ⟨Nat.zero_le _, Nat.zero_le _⟩ (fun H locs hP hS => ?_)
          refine lv_aload_n hx hb dX13_gold_51 rfl (lv_at hl 1 rfl) ?_
          refine lv_iload_n hx hb dX13_gold_52 rfl (lv_at hl 2 rfl) ?_
          refine lv_fload_n hx hb dX13_gold_53 rfl (lv_at hl 3 rfl) ?_
          refine m_wv S hK hP hS (As := [.int place, .float weight]) (rest := []) (cM_weighs l D cI cJ ad (sp_comes Z place 1) _ hi place weight (pok_bare c_1) (hw c_2)) (cwV 2 hts gX13_gold_X13_weighs rfl rfl rfl (by decide +kernel) ⟨Nat.le_of_ble_eq_true rfl, Nat.le_of_ble_eq_true rfl⟩) rfl hl.1 rfl (Nat.le_of_ble_eq_true rfl) dX13_gold_54 ⟨Nat.zero_le _, Nat.zero_le _⟩ (fun H locs hP hS => ?_)
          refine lv_aload_n hx hb dX13_gold_57 rfl (lv_at hl 1 rfl) ?_
          refine lv_iload_n hx hb dX13_gold_58 rfl (lv_at hl 2 rfl) ?_
          refine lv_iconst (v := 4) hx hb dX13_gold_59 (by decide) ?_
          refine lv_iload_n hx hb dX13_gold_60 rfl (lv_at hl 4 rfl) ?_
          refine m_wv S hK hP hS (As := [.int place, .int 4, .int fineness]) (rest := []) (cM_set l D cI cJ ad (sp_weighs (sp_comes Z place 1) place weight) _ hi place 4 fineness (pok_bare c_1) 4 rfl (by decide)) (cwV 3 hts gX13_gold_X13_set rfl rfl rfl (by decide +kernel) ⟨Nat.le_of_ble_eq_true rfl, Nat.le_of_ble_eq_true rfl⟩) rfl hl.1 rfl (Nat.le_of_ble_eq_true rfl) dX13_gold_61 ⟨Nat.zero_le _, Nat.zero_le _⟩ (fun H locs hP hS => ?_)
          refine lv_aload_n hx hb dX13_gold_64 rfl (lv_at hl 1 rfl) ?_
          refine lv_aload_n hx hb dX13_gold_65 rfl (lv_at hl 1 rfl) ?_
          refine lv_iload_n hx hb dX13_gold_66 rfl (lv_at hl 2 rfl) ?_
          refine lv_bipush (v := 6) hx hb dX13_gold_67 (by decide) ?_
          refine m_rd S hK hP (As := [.int place, .int 6]) (rest := [.ref (ad 0)]) (met_r (show sh (shp (sp_weighs (sp_comes Z place 1) place weight) (tN place) 4 fineness) (tN place) 6 = FP.f2i (FP.fmul weight 1120403456) from ((sh_ne (by decide)).trans (sh_weighs6 rfl))) (cM_at l D cI cJ ad (shp (sp_weighs (sp_comes Z place 1) place weight) (tN place) 4 fineness) _ place 6 (pok_bare c_1) 6 rfl (by decide))) (cwV 2 hts gX13_gold_X13_at rfl rfl rfl (by decide +kernel) ⟨Nat.le_of_ble_eq_true rfl, Nat.le_of_ble_eq_true rfl⟩) rfl hl.1 rfl (Nat.le_of_ble_eq_true rfl) dX13_gold_69 ⟨Nat.zero_le _, Nat.zero_le _⟩ ?_
          refine m_wr S hK hP hS (As := [.int (FP.f2i (FP.fmul weight 1120403456))]) (rest := []) (cM_says l D cI cJ ad (shp (sp_weighs (sp_comes Z place 1) place weight) (tN place) 4 fineness) _ hi (FP.f2i (FP.fmul weight 1120403456))) (cwV 1 hts gX13_gold_X13_says rfl rfl rfl (by decide +kernel) ⟨Nat.le_of_ble_eq_true rfl, Nat.le_of_ble_eq_true rfl⟩) rfl hl.1 rfl (Nat.le_of_ble_eq_true rfl) dX13_gold_72 ⟨Nat.zero_le _, Nat.zero_le _⟩ (fun H locs hP hS => ?_)
          have hsp : sp_gold Z place weight fineness = (FP.f2i (FP.fmul weight 1120403456), zR (shp (sp_weighs (sp_comes Z place 1) place weight) (tN place) 4 fineness) (FP.f2i (FP.fmul weight 1120403456))) := by unfold sp_gold; rw [if_pos c_1, if_neg c_2, if_neg c_3, if_pos c_4]
          exact W.iret hx hb hr (fun t2 ht2 hW => by rw [hsp]; exact ⟨rfl, by rw [ht2]; exact hP, hS.F ht2⟩) hS.2.2 dX13_gold_75 hlocks
        · refine lv_aload_n hx hb dX13_gold_38 rfl (lv_at hl 1 rfl) ?_
          refine lv_bipush (v := (-6)) hx hb dX13_gold_39 (by decide) ?_
          refine m_wr S hK hP hS (As := [.int (-6)]) (rest := []) (cM_says l D cI cJ ad Z _ hi (-6)) (cwV 1 hts gX13_gold_X13_says rfl rfl rfl (by decide +kernel) ⟨Nat.le_of_ble_eq_true rfl, Nat.le_of_ble_eq_true rfl⟩) rfl hl.1 rfl (Nat.le_of_ble_eq_true rfl) dX13_gold_41 ⟨Nat.zero_le _, Nat.zero_le _⟩ (fun H locs hP hS => ?_)
          have hsp : sp_gold Z place weight fineness = ((-6), zR Z (-6)) := by unfold sp_gold; rw [if_pos c_1, if_neg c_2, if_neg c_3, if_neg c_4]
          exact W.iret hx hb hr (fun t2 ht2 hW => by rw [hsp]; exact ⟨rfl, by rw [ht2]; exact hP, hS.F ht2⟩) hS.2.2 dX13_gold_44 hlocks
  · refine lv_aload_n hx hb dX13_gold_12 rfl (lv_at hl 1 rfl) ?_
    refine lv_iload hx hb dX13_gold_13 (lv_at hl 0 rfl) ?_
    refine m_wr S hK hP hS (As := [.int (sp_bare Z place)]) (rest := []) (cM_says l D cI cJ ad Z _ hi (sp_bare Z place)) (cwV 1 hts gX13_gold_X13_says rfl rfl rfl (by decide +kernel) ⟨Nat.le_of_ble_eq_true rfl, Nat.le_of_ble_eq_true rfl⟩) rfl hl.1 rfl (Nat.le_of_ble_eq_true rfl) dX13_gold_15 ⟨Nat.zero_le _, Nat.zero_le _⟩ (fun H locs hP hS => ?_)
    have hsp : sp_gold Z place weight fineness = (sp_bare Z place, zR Z (sp_bare Z place)) := by unfold sp_gold; rw [if_neg c_1]
    exact W.iret hx hb hr (fun t2 ht2 hW => by rw [hsp]; exact ⟨rfl, by rw [ht2]; exact hP, hS.F ht2⟩) hS.2.2 dX13_gold_18 hlocks
def sp_rare (Z : mZ) (place : Int32) (weight : UInt32) : Int32 × mZ :=
  if 0 ≤ (sp_bare Z place) then
    if (sp_isWeight weight) = 0 then
      ((-6), zR Z (-6))
    else
      (FP.f2i (FP.fmul weight 1120403456), zR (sp_weighs (sp_comes Z place 4) place weight) (FP.f2i (FP.fmul weight 1120403456)))
  else
    (sp_bare Z place, zR Z (sp_bare Z place))
set_option maxHeartbeats 4000000 in
set_option maxRecDepth 100000 in
theorem cM_rare (l : Launch) (D : va_G) (cI cJ : ClassId) (ad : Nat → Nat) (Z : mZ) (sz : Nat) (hi : mI ad) (place : Int32) (weight : UInt32) (hw : ¬ sp_isWeight weight = 0 → WOK weight) : Met l yX13_rare wsX13_rare ({ frames := 2, cells := 0, slots := 0, locals := 47 }) (mPc [.ref (ad 0), .int place, .float weight] D cI cJ ad Z sz) (mQ D cI cJ ad (some (.int (sp_rare Z place weight).1)) (sp_rare Z place weight).2 sz) 0 0 (mA ad sz) := by
  refine m_in (cc := cX13_rare) (maxL := 4) (ret := (some .int)) (lv := [(0, .ref (ad 0)), (1, .int place), (2, .float weight)]) (by decide) rfl (Nat.le_of_ble_eq_true rfl) rfl ?_
  intro p e s m below meth c ls S hr hlocks hin hsz hP hK hl hS
  subst hsz
  obtain ⟨hx, hb, hml, hown, hts⟩ := id S
  refine lv_aload_n hx hb dX13_rare_0 rfl (lv_at hl 0 rfl) ?_
  refine lv_iload_n hx hb dX13_rare_1 rfl (lv_at hl 1 rfl) ?_
  refine m_rd S hK hP (As := [.int place]) (rest := []) (cM_bare l D cI cJ ad Z _ place ) (cwV 1 hts gX13_rare_X13_bare rfl rfl rfl (by decide +kernel) ⟨Nat.le_of_ble_eq_true rfl, Nat.le_of_ble_eq_true rfl⟩) rfl hl.1 rfl (Nat.le_of_ble_eq_true rfl) dX13_rare_2 ⟨Nat.zero_le _, Nat.zero_le _⟩ ?_
  refine lv_istore_n (lv' := [(3, .int (sp_bare Z place)), (0, .ref (ad 0)), (1, .int place), (2, .float weight)]) hx hb dX13_rare_5 rfl hl (by decide) rfl (fun ls hl => ?_)
  refine lv_iload_n hx hb dX13_rare_6 rfl (lv_at hl 0 rfl) ?_
  refine lv_if_ge (tgt := 16) hx hb dX13_rare_7 (by decide) (fun c_1 => ?_) (fun c_1 => ?_)
  · refine lv_fload_n hx hb dX13_rare_16 rfl (lv_at hl 3 rfl) ?_
    refine m_st S (As := [.float weight]) (rest := []) (cM_isWeight l weight ) (cwS 1 hts gX13_rare_X13_isWeight rfl rfl rfl (by decide +kernel) ⟨Nat.le_of_ble_eq_true rfl, Nat.le_of_ble_eq_true rfl⟩) rfl hl.1 rfl (Nat.le_of_ble_eq_true rfl) dX13_rare_17 ⟨Nat.zero_le _, Nat.zero_le _⟩ ?_
    refine lv_if_ne (tgt := 30) hx hb dX13_rare_20 (by decide) (fun c_2 => ?_) (fun c_2 => ?_)
    · refine lv_aload_n hx hb dX13_rare_30 rfl (lv_at hl 1 rfl) ?_
      refine lv_iload_n hx hb dX13_rare_31 rfl (lv_at hl 2 rfl) ?_
      refine lv_iconst (v := 4) hx hb dX13_rare_32 (by decide) ?_
      refine m_wv S hK hP hS (As := [.int place, .int 4]) (rest := []) (cM_comes l D cI cJ ad Z _ hi place 4 (pok_bare c_1)) (cwV 2 hts gX13_rare_X13_comes rfl rfl rfl (by decide +kernel) ⟨Nat.le_of_ble_eq_true rfl, Nat.le_of_ble_eq_true rfl⟩) rfl hl.1 rfl (Nat.le_of_ble_eq_true rfl) dX13_rare_33 ⟨Nat.zero_le _, Nat.zero_le _⟩ (fun H locs hP hS => ?_)
      refine lv_aload_n hx hb dX13_rare_36 rfl (lv_at hl 1 rfl) ?_
      refine lv_iload_n hx hb dX13_rare_37 rfl (lv_at hl 2 rfl) ?_
      refine lv_fload_n hx hb dX13_rare_38 rfl (lv_at hl 3 rfl) ?_
      refine m_wv S hK hP hS (As := [.int place, .float weight]) (rest := []) (cM_weighs l D cI cJ ad (sp_comes Z place 4) _ hi place weight (pok_bare c_1) (hw c_2)) (cwV 2 hts gX13_rare_X13_weighs rfl rfl rfl (by decide +kernel) ⟨Nat.le_of_ble_eq_true rfl, Nat.le_of_ble_eq_true rfl⟩) rfl hl.1 rfl (Nat.le_of_ble_eq_true rfl) dX13_rare_39 ⟨Nat.zero_le _, Nat.zero_le _⟩ (fun H locs hP hS => ?_)
      refine lv_aload_n hx hb dX13_rare_42 rfl (lv_at hl 1 rfl) ?_
      refine lv_aload_n hx hb dX13_rare_43 rfl (lv_at hl 1 rfl) ?_
      refine lv_iload_n hx hb dX13_rare_44 rfl (lv_at hl 2 rfl) ?_
      refine lv_bipush (v := 6) hx hb dX13_rare_45 (by decide) ?_
      refine m_rd S hK hP (As := [.int place, .int 6]) (rest := [.ref (ad 0)]) (met_r (show sh (sp_weighs (sp_comes Z place 4) place weight) (tN place) 6 = FP.f2i (FP.fmul weight 1120403456) from (sh_weighs6 rfl)) (cM_at l D cI cJ ad (sp_weighs (sp_comes Z place 4) place weight) _ place 6 (pok_bare c_1) 6 rfl (by decide))) (cwV 2 hts gX13_rare_X13_at rfl rfl rfl (by decide +kernel) ⟨Nat.le_of_ble_eq_true rfl, Nat.le_of_ble_eq_true rfl⟩) rfl hl.1 rfl (Nat.le_of_ble_eq_true rfl) dX13_rare_47 ⟨Nat.zero_le _, Nat.zero_le _⟩ ?_
      refine m_wr S hK hP hS (As := [.int (FP.f2i (FP.fmul weight 1120403456))]) (rest := []) (cM_says l D cI cJ ad (sp_weighs (sp_comes Z place 4) place weight) _ hi (FP.f2i (FP.fmul weight 1120403456))) (cwV 1 hts gX13_rare_X13_says rfl rfl rfl (by decide +kernel) ⟨Nat.le_of_ble_eq_true rfl, Nat.le_of_ble_eq_true rfl⟩) rfl hl.1 rfl (Nat.le_of_ble_eq_true rfl) dX13_rare_50 ⟨Nat.zero_le _, Nat.zero_le _⟩ (fun H locs hP hS => ?_)
      have hsp : sp_rare Z place weight = (FP.f2i (FP.fmul weight 1120403456), zR (sp_weighs (sp_comes Z place 4) place weight) (FP.f2i (FP.fmul weight 1120403456))) := by unfold sp_rare; rw [if_pos c_1, if_neg c_2]
      exact W.iret hx hb hr (fun t2 ht2 hW => by rw [hsp]; exact ⟨rfl, by rw [ht2]; exact hP, hS.F ht2⟩) hS.2.2 dX13_rare_53 hlocks
    · refine lv_aload_n hx hb dX13_rare_23 rfl (lv_at hl 1 rfl) ?_
      refine lv_bipush (v := (-6)) hx hb dX13_rare_24 (by decide) ?_
      refine m_wr S hK hP hS (As := [.int (-6)]) (rest := []) (cM_says l D cI cJ ad Z _ hi (-6)) (cwV 1 hts gX13_rare_X13_says rfl rfl rfl (by decide +kernel) ⟨Nat.le_of_ble_eq_true rfl, Nat.le_of_ble_eq_true rfl⟩) rfl hl.1 rfl (Nat.le_of_ble_eq_true rfl) dX13_rare_26 ⟨Nat.zero_le _, Nat.zero_le _⟩ (fun H locs hP hS => ?_)
      have hsp : sp_rare Z place weight = ((-6), zR Z (-6)) := by unfold sp_rare; rw [if_pos c_1, if_pos c_2]
      exact W.iret hx hb hr (fun t2 ht2 hW => by rw [hsp]; exact ⟨rfl, by rw [ht2]; exact hP, hS.F ht2⟩) hS.2.2 dX13_rare_29 hlocks
  · refine lv_aload_n hx hb dX13_rare_10 rfl (lv_at hl 1 rfl) ?_
    refine lv_iload_n hx hb dX13_rare_11 rfl (lv_at hl 0 rfl) ?_
    refine m_wr S hK hP hS (As := [.int (sp_bare Z place)]) (rest := []) (cM_says l D cI cJ ad Z _ hi (sp_bare Z place)) (cwV 1 hts gX13_rare_X13_says rfl rfl rfl (by decide +kernel) ⟨Nat.le_of_ble_eq_true rfl, Nat.le_of_ble_eq_true rfl⟩) rfl hl.1 rfl (Nat.le_of_ble_eq_true rfl) dX13_rare_12 ⟨Nat.zero_le _, Nat.zero_le _⟩ (fun H locs hP hS => ?_)
    have hsp : sp_rare Z place weight = (sp_bare Z place, zR Z (sp_bare Z place)) := by unfold sp_rare; rw [if_neg c_1]
    exact W.iret hx hb hr (fun t2 ht2 hW => by rw [hsp]; exact ⟨rfl, by rw [ht2]; exact hP, hS.F ht2⟩) hS.2.2 dX13_rare_15 hlocks
def sp_lend (Z : mZ) (place : Int32) (amount : Int32) (months : Int32) : Int32 × mZ :=
  if (sp_isPlace place) = 0 then
    ((-1), zR Z (-1))
  else
    if (sp_isPledge Z place) = 0 then
      ((-2), zR Z (-2))
    else
      if (sh Z (tN place) 1) ≤ 0 then
        if months < 1 then
          ((-6), zR Z (-6))
        else
          if 12 < months then
            ((-6), zR Z (-6))
          else
            if amount < 1 then
              ((-6), zR Z (-6))
            else
              if amount.toInt64 ≤ (((sp_worth Z place) * ((zh Z (3 + (9 + tN (sh Z (tN place) 0)))).toInt64)) / 1000) then
                if (zh Z 1) = 511 then
                  ((-7), zR Z (-7))
                else
                  ((zh Z 1) + 1, zR (sp_begins (zcp (zhp (shp (tkp (tkp (tkp (tkp (tkp (tkp (tkp (tkp (tkp (tkp (tkp (zhp Z 1 ((zh Z 1) + 1)) (tN ((zh Z 1) + 1)) 1 amount) (tN ((zh Z 1) + 1)) 4 (zh Z 0)) (tN ((zh Z 1) + 1)) 5 months) (tN ((zh Z 1) + 1)) 6 (zh (zhp Z 1 ((zh Z 1) + 1)) (3 + (4 + tN (sh Z (tN place) 0))))) (tN ((zh Z 1) + 1)) 8 (-1)) (tN ((zh Z 1) + 1)) 15 place) (tN ((zh Z 1) + 1)) 16 (-1)) (tN ((zh Z 1) + 1)) 17 ((1000 * ((zh Z 1) + 1)) + ((((7 * amount.toInt64) + (13 * ((zh Z 0).toInt64))) - ((7 * amount.toInt64) + (13 * ((zh Z 0).toInt64))) / 1000 * 1000).toInt32))) (tN ((zh Z 1) + 1)) 18 (-1)) (tN ((zh Z 1) + 1)) 19 (sh Z (tN place) 0)) (tN ((zh Z 1) + 1)) 20 (-1)) (tN place) 1 ((zh Z 1) + 1)) 2 ((1000 * ((zh Z 1) + 1)) + ((((7 * amount.toInt64) + (13 * ((zh Z 0).toInt64))) - ((7 * amount.toInt64) + (13 * ((zh Z 0).toInt64))) / 1000 * 1000).toInt32))) 0 ((zc Z 0) + amount.toInt64)) ((zh Z 1) + 1)) ((zh Z 1) + 1))
              else
                ((-6), zR Z (-6))
      else
        ((-2), zR Z (-2))
set_option maxHeartbeats 4000000 in
set_option maxRecDepth 100000 in
theorem cM_lend (l : Launch) (D : va_G) (cI cJ : ClassId) (ad : Nat → Nat) (Z : mZ) (sz : Nat) (hi : mI ad) (place : Int32) (amount : Int32) (months : Int32) (hC : cok Z) (hone : ¬ zh Z 1 = 511 → (zh Z 0) < ((zh Z 0) + (30 * ((tk Z (tN ((zh Z 1) + 1)) 3) + 1)))) : Met l yX13_lend wsX13_lend ({ frames := 2, cells := 0, slots := 0, locals := 46 }) (mPc [.ref (ad 0), .int place, .int amount, .int months] D cI cJ ad Z sz) (mQ D cI cJ ad (some (.int (sp_lend Z place amount months).1)) (sp_lend Z place amount months).2 sz) 0 0 (mA ad sz) := by
  refine m_in (cc := cX13_lend) (maxL := 6) (ret := (some .int)) (lv := [(0, .ref (ad 0)), (1, .int place), (2, .int amount), (3, .int months)]) (by decide) rfl (Nat.le_of_ble_eq_true rfl) rfl ?_
  intro p e s m below meth c ls S hr hlocks hin hsz hP hK hl hS
  subst hsz
  obtain ⟨hx, hb, hml, hown, hts⟩ := id S
  have hX12 : ∀ w ∈ wsX120, w ∈ wsX13_lend := by decide +kernel
  have hX13 : ∀ w ∈ wsX130, w ∈ wsX13_lend := by decide +kernel
  refine lv_iload_n hx hb dX13_lend_0 rfl (lv_at hl 1 rfl) ?_
  refine m_st S (As := [.int place]) (rest := []) (cM_isPlace l place ) (cwS 1 hts gX13_lend_X13_isPlace rfl rfl rfl (by decide +kernel) ⟨Nat.le_of_ble_eq_true rfl, Nat.le_of_ble_eq_true rfl⟩) rfl hl.1 rfl (Nat.le_of_ble_eq_true rfl) dX13_lend_1 ⟨Nat.zero_le _, Nat.zero_le _⟩ ?_
  refine lv_if_ne (tgt := 13) hx hb dX13_lend_4 (by decide) (fun c_1 => ?_) (fun c_1 => ?_)
  · refine lv_aload_n hx hb dX13_lend_13 rfl (lv_at hl 0 rfl) ?_
    refine lv_iload_n hx hb dX13_lend_14 rfl (lv_at hl 1 rfl) ?_
    refine m_rd S hK hP (As := [.int place]) (rest := []) (cM_isPledge l D cI cJ ad Z _ place (pok_of c_1)) (cwV 1 hts gX13_lend_X13_isPledge rfl rfl rfl (by decide +kernel) ⟨Nat.le_of_ble_eq_true rfl, Nat.le_of_ble_eq_true rfl⟩) rfl hl.1 rfl (Nat.le_of_ble_eq_true rfl) dX13_lend_15 ⟨Nat.zero_le _, Nat.zero_le _⟩ ?_
    refine lv_if_eq (tgt := 30) hx hb dX13_lend_18 (by decide) (fun c_2 => ?_) (fun c_2 => ?_)
    · refine lv_aload_n hx hb dX13_lend_30 rfl (lv_at hl 0 rfl) ?_
      refine lv_bipush (v := (-2)) hx hb dX13_lend_31 (by decide) ?_
      refine m_wr S hK hP hS (As := [.int (-2)]) (rest := []) (cM_says l D cI cJ ad Z _ hi (-2)) (cwV 1 hts gX13_lend_X13_says rfl rfl rfl (by decide +kernel) ⟨Nat.le_of_ble_eq_true rfl, Nat.le_of_ble_eq_true rfl⟩) rfl hl.1 rfl (Nat.le_of_ble_eq_true rfl) dX13_lend_33 ⟨Nat.zero_le _, Nat.zero_le _⟩ (fun H locs hP hS => ?_)
      have hsp : sp_lend Z place amount months = ((-2), zR Z (-2)) := by unfold sp_lend; rw [if_neg c_1, if_pos c_2]
      exact W.iret hx hb hr (fun t2 ht2 hW => by rw [hsp]; exact ⟨rfl, by rw [ht2]; exact hP, hS.F ht2⟩) hS.2.2 dX13_lend_36 hlocks
    · refine lv_aload_n hx hb dX13_lend_21 rfl (lv_at hl 0 rfl) ?_
      refine lv_iload_n hx hb dX13_lend_22 rfl (lv_at hl 1 rfl) ?_
      refine lv_iconst (v := 1) hx hb dX13_lend_23 (by decide) ?_
      refine m_rd S hK hP (As := [.int place, .int 1]) (rest := []) (cM_at l D cI cJ ad Z _ place 1 (pok_of c_1) 1 rfl (by decide)) (cwV 2 hts gX13_lend_X13_at rfl rfl rfl (by decide +kernel) ⟨Nat.le_of_ble_eq_true rfl, Nat.le_of_ble_eq_true rfl⟩) rfl hl.1 rfl (Nat.le_of_ble_eq_true rfl) dX13_lend_24 ⟨Nat.zero_le _, Nat.zero_le _⟩ ?_
      refine lv_if_le (tgt := 37) hx hb dX13_lend_27 (by decide) (fun c_3 => ?_) (fun c_3 => ?_)
      · refine lv_aload_n hx hb dX13_lend_37 rfl (lv_at hl 0 rfl) ?_
        refine lv_iload_n hx hb dX13_lend_38 rfl (lv_at hl 1 rfl) ?_
        refine lv_iconst (v := 0) hx hb dX13_lend_39 (by decide) ?_
        refine m_rd S hK hP (As := [.int place, .int 0]) (rest := []) (cM_at l D cI cJ ad Z _ place 0 (pok_of c_1) 0 rfl (by decide)) (cwV 2 hts gX13_lend_X13_at rfl rfl rfl (by decide +kernel) ⟨Nat.le_of_ble_eq_true rfl, Nat.le_of_ble_eq_true rfl⟩) rfl hl.1 rfl (Nat.le_of_ble_eq_true rfl) dX13_lend_40 ⟨Nat.zero_le _, Nat.zero_le _⟩ ?_
        refine lv_istore (lv' := [(4, .int (sh Z (tN place) 0)), (0, .ref (ad 0)), (1, .int place), (2, .int amount), (3, .int months)]) hx hb dX13_lend_43 hl (by decide) rfl (fun ls hl => ?_)
        refine lv_iload_n hx hb dX13_lend_45 rfl (lv_at hl 4 rfl) ?_
        refine lv_iconst (v := 1) hx hb dX13_lend_46 (by decide) ?_
        refine lv_icmp_lt (tgt := 87) hx hb dX13_lend_47 (by decide) (fun c_4 => ?_) (fun c_4 => ?_)
        · refine lv_aload_n hx hb dX13_lend_87 rfl (lv_at hl 1 rfl) ?_
          refine lv_bipush (v := (-6)) hx hb dX13_lend_88 (by decide) ?_
          refine m_wr S hK hP hS (As := [.int (-6)]) (rest := []) (cM_says l D cI cJ ad Z _ hi (-6)) (cwV 1 hts gX13_lend_X13_says rfl rfl rfl (by decide +kernel) ⟨Nat.le_of_ble_eq_true rfl, Nat.le_of_ble_eq_true rfl⟩) rfl hl.1 rfl (Nat.le_of_ble_eq_true rfl) dX13_lend_90 ⟨Nat.zero_le _, Nat.zero_le _⟩ (fun H locs hP hS => ?_)
          have hsp : sp_lend Z place amount months = ((-6), zR Z (-6)) := by unfold sp_lend; rw [if_neg c_1, if_neg c_2, if_pos c_3, if_pos c_4]
          exact W.iret hx hb hr (fun t2 ht2 hW => by rw [hsp]; exact ⟨rfl, by rw [ht2]; exact hP, hS.F ht2⟩) hS.2.2 dX13_lend_93 hlocks
        · refine lv_iload_n hx hb dX13_lend_50 rfl (lv_at hl 4 rfl) ?_
          refine lv_bipush (v := 12) hx hb dX13_lend_51 (by decide) ?_
          refine lv_icmp_gt (tgt := 87) hx hb dX13_lend_53 (by decide) (fun c_5 => ?_) (fun c_5 => ?_)
          · refine lv_aload_n hx hb dX13_lend_87 rfl (lv_at hl 1 rfl) ?_
            refine lv_bipush (v := (-6)) hx hb dX13_lend_88 (by decide) ?_
            refine m_wr S hK hP hS (As := [.int (-6)]) (rest := []) (cM_says l D cI cJ ad Z _ hi (-6)) (cwV 1 hts gX13_lend_X13_says rfl rfl rfl (by decide +kernel) ⟨Nat.le_of_ble_eq_true rfl, Nat.le_of_ble_eq_true rfl⟩) rfl hl.1 rfl (Nat.le_of_ble_eq_true rfl) dX13_lend_90 ⟨Nat.zero_le _, Nat.zero_le _⟩ (fun H locs hP hS => ?_)
            have hsp : sp_lend Z place amount months = ((-6), zR Z (-6)) := by unfold sp_lend; rw [if_neg c_1, if_neg c_2, if_pos c_3, if_neg c_4, if_pos c_5]
            exact W.iret hx hb hr (fun t2 ht2 hW => by rw [hsp]; exact ⟨rfl, by rw [ht2]; exact hP, hS.F ht2⟩) hS.2.2 dX13_lend_93 hlocks
          · refine lv_iload_n hx hb dX13_lend_56 rfl (lv_at hl 3 rfl) ?_
            refine lv_iconst (v := 1) hx hb dX13_lend_57 (by decide) ?_
            refine lv_icmp_lt (tgt := 87) hx hb dX13_lend_58 (by decide) (fun c_6 => ?_) (fun c_6 => ?_)
            · refine lv_aload_n hx hb dX13_lend_87 rfl (lv_at hl 1 rfl) ?_
              refine lv_bipush (v := (-6)) hx hb dX13_lend_88 (by decide) ?_
              refine m_wr S hK hP hS (As := [.int (-6)]) (rest := []) (cM_says l D cI cJ ad Z _ hi (-6)) (cwV 1 hts gX13_lend_X13_says rfl rfl rfl (by decide +kernel) ⟨Nat.le_of_ble_eq_true rfl, Nat.le_of_ble_eq_true rfl⟩) rfl hl.1 rfl (Nat.le_of_ble_eq_true rfl) dX13_lend_90 ⟨Nat.zero_le _, Nat.zero_le _⟩ (fun H locs hP hS => ?_)
              have hsp : sp_lend Z place amount months = ((-6), zR Z (-6)) := by unfold sp_lend; rw [if_neg c_1, if_neg c_2, if_pos c_3, if_neg c_4, if_neg c_5, if_pos c_6]
              exact W.iret hx hb hr (fun t2 ht2 hW => by rw [hsp]; exact ⟨rfl, by rw [ht2]; exact hP, hS.F ht2⟩) hS.2.2 dX13_lend_93 hlocks
            · refine lv_iload_n hx hb dX13_lend_61 rfl (lv_at hl 3 rfl) ?_
              refine lv_i2l (v := amount.toInt64) hx hb dX13_lend_62 rfl ?_
              refine lv_aload_n hx hb dX13_lend_63 rfl (lv_at hl 1 rfl) ?_
              refine lv_iload_n hx hb dX13_lend_64 rfl (lv_at hl 2 rfl) ?_
              refine m_rd S hK hP (As := [.int place]) (rest := [.long amount.toInt64]) (cM_worth l D cI cJ ad Z _ place (pok_of c_1)) (cwV 1 hts gX13_lend_X13_worth rfl rfl rfl (by decide +kernel) ⟨Nat.le_of_ble_eq_true rfl, Nat.le_of_ble_eq_true rfl⟩) rfl hl.1 rfl (Nat.le_of_ble_eq_true rfl) dX13_lend_65 ⟨Nat.zero_le _, Nat.zero_le _⟩ ?_
              refine lv_aload_n hx hb dX13_lend_68 rfl (lv_at hl 1 rfl) ?_
              refine lv_bipush (v := 9) hx hb dX13_lend_69 (by decide) ?_
              refine lv_iload hx hb dX13_lend_71 (lv_at hl 0 rfl) ?_
              refine lv_iadd hx hb dX13_lend_73 ?_
              refine m_rd S hK hP (As := [.int (9 + (sh Z (tN place) 0))]) (rest := [.long (sp_worth Z place), .long amount.toInt64]) (cM_ruleOf l D cI cJ ad Z _ (9 + (sh Z (tN place) 0)) (9 + tN (sh Z (tN place) 0)) (kok_ix 9 rfl (kok_pledge c_2)) (by have := kok_lt (kok_pledge c_2); omega)) (cwV 1 hts gX13_lend_X13_ruleOf rfl rfl rfl (by decide +kernel) ⟨Nat.le_of_ble_eq_true rfl, Nat.le_of_ble_eq_true rfl⟩) rfl hl.1 rfl (Nat.le_of_ble_eq_true rfl) dX13_lend_74 ⟨Nat.zero_le _, Nat.zero_le _⟩ ?_
              refine lv_i2l (v := (zh Z (3 + (9 + tN (sh Z (tN place) 0)))).toInt64) hx hb dX13_lend_77 rfl ?_
              refine lv_lmul hx hb dX13_lend_78 ?_
              refine lv_ldc2 (v := 1000) hx hb hown (hts (.constantLong RX13 61 (1000)) (by decide +kernel)) dX13_lend_79 ?_
              refine lv_ldiv hx hb dX13_lend_82 (by decide) ?_
              refine W.lcmp hx hb dX13_lend_83 ?_
              refine lv_if_le (tgt := 94) hx hb dX13_lend_84 (by decide) (fun c_7 => ?_) (fun c_7 => ?_)
              · have c_7 := (lg_cmp_le _ _).mp c_7
                refine lv_aload_n hx hb dX13_lend_94 rfl (lv_at hl 1 rfl) ?_
                refine va_get (D := D) (ci := 11) (v := .ref (ad 1)) (C := RX13) (T := TX13) (N := 6) hx hb hts hX13 hown hK.1 hP 0 rfl rfl 0 (by decide) (hts (.fieldLink RX13 10 "PledgeHouseModel" "now" "LPledgeHouseModel$State;") (by decide +kernel)) (fun _ h9 => h9) rfl dX13_lend_95 ?_
                refine va_getN (D := D) (ci := 10) (v := .ref (ad 3)) (C := RX12) (T := TX12) (N := 4) hx hb hts hX12 hown hK.1 hP 1 rfl rfl 0 (by decide) (va_Nw.use rfl hK.2.1) (fun _ h9 => h9) rfl dX13_lend_98 ?_
                refine lv_iconst (v := 1) hx hb dX13_lend_101 (by decide) ?_
                refine mx_hld hx hb hK.1 hP 1 rfl (by decide) (v := zh Z 1) rfl dX13_lend_102 ?_
                refine lv_sipush (v := 511) hx hb dX13_lend_103 (by decide) ?_
                refine lv_icmp_ne (tgt := 116) hx hb dX13_lend_106 (by decide) (fun c_8 => ?_) (fun c_8 => ?_)
                · refine lv_aload_n hx hb dX13_lend_116 rfl (lv_at hl 1 rfl) ?_
                  refine va_get (D := D) (ci := 11) (v := .ref (ad 1)) (C := RX13) (T := TX13) (N := 6) hx hb hts hX13 hown hK.1 hP 0 rfl rfl 0 (by decide) (hts (.fieldLink RX13 10 "PledgeHouseModel" "now" "LPledgeHouseModel$State;") (by decide +kernel)) (fun _ h9 => h9) rfl dX13_lend_117 ?_
                  refine va_getN (D := D) (ci := 10) (v := .ref (ad 3)) (C := RX12) (T := TX12) (N := 4) hx hb hts hX12 hown hK.1 hP 1 rfl rfl 0 (by decide) (va_Nw.use rfl hK.2.1) (fun _ h9 => h9) rfl dX13_lend_120 ?_
                  refine lv_iconst (v := 1) hx hb dX13_lend_123 (by decide) ?_
                  refine lv_dup2_11 hx hb dX13_lend_124 rfl rfl ?_
                  refine mx_hld hx hb hK.1 hP 1 rfl (by decide) (v := zh Z 1) rfl dX13_lend_125 ?_
                  refine lv_iconst (v := 1) hx hb dX13_lend_126 (by decide) ?_
                  refine lv_iadd hx hb dX13_lend_127 ?_
                  refine mx_hst hx hb hK.1 hP (wM_D hi s.heap.size _) hS 1 rfl (by decide) dX13_lend_128 (fun H locs hP hS => ?_)
                  refine lv_aload_n hx hb dX13_lend_129 rfl (lv_at hl 1 rfl) ?_
                  refine va_get (D := D) (ci := 11) (v := .ref (ad 1)) (C := RX13) (T := TX13) (N := 6) hx hb hts hX13 hown hK.1 hP 0 rfl rfl 0 (by decide) (hts (.fieldLink RX13 10 "PledgeHouseModel" "now" "LPledgeHouseModel$State;") (by decide +kernel)) (fun _ h9 => h9) rfl dX13_lend_130 ?_
                  refine va_getN (D := D) (ci := 10) (v := .ref (ad 3)) (C := RX12) (T := TX12) (N := 4) hx hb hts hX12 hown hK.1 hP 1 rfl rfl 0 (by decide) (va_Nw.use rfl hK.2.1) (fun _ h9 => h9) rfl dX13_lend_133 ?_
                  refine lv_iconst (v := 1) hx hb dX13_lend_136 (by decide) ?_
                  refine mx_hld hx hb hK.1 hP 1 rfl (by decide) (v := (zh Z 1) + 1) zh_zhp_eq dX13_lend_137 ?_
                  refine lv_istore (lv' := [(5, .int ((zh Z 1) + 1)), (4, .int (sh Z (tN place) 0)), (0, .ref (ad 0)), (1, .int place), (2, .int amount), (3, .int months)]) hx hb dX13_lend_138 hl (by decide) rfl (fun ls hl => ?_)
                  refine lv_aload_n hx hb dX13_lend_140 rfl (lv_at hl 2 rfl) ?_
                  refine lv_iload hx hb dX13_lend_141 (lv_at hl 0 rfl) ?_
                  refine lv_iconst (v := 1) hx hb dX13_lend_143 (by decide) ?_
                  refine lv_iload_n hx hb dX13_lend_144 rfl (lv_at hl 4 rfl) ?_
                  refine m_wv S hK hP hS (As := [.int ((zh Z 1) + 1), .int 1, .int amount]) (rest := []) (cM_put l D cI cJ ad (zhp Z 1 ((zh Z 1) + 1)) _ hi ((zh Z 1) + 1) 1 amount (tok_inc hC c_8) 1 rfl (by decide)) (cwV 3 hts gX13_lend_X13_put rfl rfl rfl (by decide +kernel) ⟨Nat.le_of_ble_eq_true rfl, Nat.le_of_ble_eq_true rfl⟩) rfl hl.1 rfl (Nat.le_of_ble_eq_true rfl) dX13_lend_145 ⟨Nat.zero_le _, Nat.zero_le _⟩ (fun H locs hP hS => ?_)
                  refine lv_aload_n hx hb dX13_lend_148 rfl (lv_at hl 2 rfl) ?_
                  refine lv_iload hx hb dX13_lend_149 (lv_at hl 0 rfl) ?_
                  refine lv_iconst (v := 4) hx hb dX13_lend_151 (by decide) ?_
                  refine lv_aload_n hx hb dX13_lend_152 rfl (lv_at hl 2 rfl) ?_
                  refine m_rd S hK hP (As := []) (rest := [.int 4, .int ((zh Z 1) + 1), .ref (ad 0)]) (met_r (show zh (tkp (zhp Z 1 ((zh Z 1) + 1)) (tN ((zh Z 1) + 1)) 1 amount) 0 = zh Z 0 from ((zh_tkp).trans (zh_zhp_ne (by decide)))) (cM_today l D cI cJ ad (tkp (zhp Z 1 ((zh Z 1) + 1)) (tN ((zh Z 1) + 1)) 1 amount) _)) (cwV 0 hts gX13_lend_X13_today rfl rfl rfl (by decide +kernel) ⟨Nat.le_of_ble_eq_true rfl, Nat.le_of_ble_eq_true rfl⟩) rfl hl.1 rfl (Nat.le_of_ble_eq_true rfl) dX13_lend_153 ⟨Nat.zero_le _, Nat.zero_le _⟩ ?_
                  refine m_wv S hK hP hS (As := [.int ((zh Z 1) + 1), .int 4, .int (zh Z 0)]) (rest := []) (cM_put l D cI cJ ad (tkp (zhp Z 1 ((zh Z 1) + 1)) (tN ((zh Z 1) + 1)) 1 amount) _ hi ((zh Z 1) + 1) 4 (zh Z 0) (tok_inc hC c_8) 4 rfl (by decide)) (cwV 3 hts gX13_lend_X13_put rfl rfl rfl (by decide +kernel) ⟨Nat.le_of_ble_eq_true rfl, Nat.le_of_ble_eq_true rfl⟩) rfl hl.1 rfl (Nat.le_of_ble_eq_true rfl) dX13_lend_156 ⟨Nat.zero_le _, Nat.zero_le _⟩ (fun H locs hP hS => ?_)
                  refine lv_aload_n hx hb dX13_lend_159 rfl (lv_at hl 2 rfl) ?_
                  refine lv_iload hx hb dX13_lend_160 (lv_at hl 0 rfl) ?_
                  refine lv_iconst (v := 5) hx hb dX13_lend_162 (by decide) ?_
                  refine lv_iload_n hx hb dX13_lend_163 rfl (lv_at hl 5 rfl) ?_
                  refine m_wv S hK hP hS (As := [.int ((zh Z 1) + 1), .int 5, .int months]) (rest := []) (cM_put l D cI cJ ad (tkp (tkp (zhp Z 1 ((zh Z 1) + 1)) (tN ((zh Z 1) + 1)) 1 amount) (tN ((zh Z 1) + 1)) 4 (zh Z 0)) _ hi ((zh Z 1) + 1) 5 months (tok_inc hC c_8) 5 rfl (by decide)) (cwV 3 hts gX13_lend_X13_put rfl rfl rfl (by decide +kernel) ⟨Nat.le_of_ble_eq_true rfl, Nat.le_of_ble_eq_true rfl⟩) rfl hl.1 rfl (Nat.le_of_ble_eq_true rfl) dX13_lend_164 ⟨Nat.zero_le _, Nat.zero_le _⟩ (fun H locs hP hS => ?_)
                  refine lv_aload_n hx hb dX13_lend_167 rfl (lv_at hl 2 rfl) ?_
                  refine lv_iload hx hb dX13_lend_168 (lv_at hl 0 rfl) ?_
                  refine lv_bipush (v := 6) hx hb dX13_lend_170 (by decide) ?_
                  refine lv_aload_n hx hb dX13_lend_172 rfl (lv_at hl 2 rfl) ?_
                  refine lv_iconst (v := 4) hx hb dX13_lend_173 (by decide) ?_
                  refine lv_iload hx hb dX13_lend_174 (lv_at hl 1 rfl) ?_
                  refine lv_iadd hx hb dX13_lend_176 ?_
                  refine m_rd S hK hP (As := [.int (4 + (sh Z (tN place) 0))]) (rest := [.int 6, .int ((zh Z 1) + 1), .ref (ad 0)]) (met_r (show zh (tkp (tkp (tkp (zhp Z 1 ((zh Z 1) + 1)) (tN ((zh Z 1) + 1)) 1 amount) (tN ((zh Z 1) + 1)) 4 (zh Z 0)) (tN ((zh Z 1) + 1)) 5 months) (3 + (4 + tN (sh Z (tN place) 0))) = zh (zhp Z 1 ((zh Z 1) + 1)) (3 + (4 + tN (sh Z (tN place) 0))) from ((zh_tkp).trans ((zh_tkp).trans zh_tkp))) (cM_ruleOf l D cI cJ ad (tkp (tkp (tkp (zhp Z 1 ((zh Z 1) + 1)) (tN ((zh Z 1) + 1)) 1 amount) (tN ((zh Z 1) + 1)) 4 (zh Z 0)) (tN ((zh Z 1) + 1)) 5 months) _ (4 + (sh Z (tN place) 0)) (4 + tN (sh Z (tN place) 0)) (kok_ix 4 rfl (kok_pledge c_2)) (by have := kok_lt (kok_pledge c_2); omega))) (cwV 1 hts gX13_lend_X13_ruleOf rfl rfl rfl (by decide +kernel) ⟨Nat.le_of_ble_eq_true rfl, Nat.le_of_ble_eq_true rfl⟩) rfl hl.1 rfl (Nat.le_of_ble_eq_true rfl) dX13_lend_177 ⟨Nat.zero_le _, Nat.zero_le _⟩ ?_
                  refine m_wv S hK hP hS (As := [.int ((zh Z 1) + 1), .int 6, .int (zh (zhp Z 1 ((zh Z 1) + 1)) (3 + (4 + tN (sh Z (tN place) 0))))]) (rest := []) (cM_put l D cI cJ ad (tkp (tkp (tkp (zhp Z 1 ((zh Z 1) + 1)) (tN ((zh Z 1) + 1)) 1 amount) (tN ((zh Z 1) + 1)) 4 (zh Z 0)) (tN ((zh Z 1) + 1)) 5 months) _ hi ((zh Z 1) + 1) 6 (zh (zhp Z 1 ((zh Z 1) + 1)) (3 + (4 + tN (sh Z (tN place) 0)))) (tok_inc hC c_8) 6 rfl (by decide)) (cwV 3 hts gX13_lend_X13_put rfl rfl rfl (by decide +kernel) ⟨Nat.le_of_ble_eq_true rfl, Nat.le_of_ble_eq_true rfl⟩) rfl hl.1 rfl (Nat.le_of_ble_eq_true rfl) dX13_lend_180 ⟨Nat.zero_le _, Nat.zero_le _⟩ (fun H locs hP hS => ?_)
                  refine lv_aload_n hx hb dX13_lend_183 rfl (lv_at hl 2 rfl) ?_
                  refine lv_iload hx hb dX13_lend_184 (lv_at hl 0 rfl) ?_
                  refine lv_bipush (v := 8) hx hb dX13_lend_186 (by decide) ?_
                  refine lv_iconst (v := (-1)) hx hb dX13_lend_188 (by decide) ?_
                  refine m_wv S hK hP hS (As := [.int ((zh Z 1) + 1), .int 8, .int (-1)]) (rest := []) (cM_put l D cI cJ ad (tkp (tkp (tkp (tkp (zhp Z 1 ((zh Z 1) + 1)) (tN ((zh Z 1) + 1)) 1 amount) (tN ((zh Z 1) + 1)) 4 (zh Z 0)) (tN ((zh Z 1) + 1)) 5 months) (tN ((zh Z 1) + 1)) 6 (zh (zhp Z 1 ((zh Z 1) + 1)) (3 + (4 + tN (sh Z (tN place) 0))))) _ hi ((zh Z 1) + 1) 8 (-1) (tok_inc hC c_8) 8 rfl (by decide)) (cwV 3 hts gX13_lend_X13_put rfl rfl rfl (by decide +kernel) ⟨Nat.le_of_ble_eq_true rfl, Nat.le_of_ble_eq_true rfl⟩) rfl hl.1 rfl (Nat.le_of_ble_eq_true rfl) dX13_lend_189 ⟨Nat.zero_le _, Nat.zero_le _⟩ (fun H locs hP hS => ?_)
                  refine lv_aload_n hx hb dX13_lend_192 rfl (lv_at hl 2 rfl) ?_
                  refine lv_iload hx hb dX13_lend_193 (lv_at hl 0 rfl) ?_
                  refine lv_bipush (v := 15) hx hb dX13_lend_195 (by decide) ?_
                  refine lv_iload_n hx hb dX13_lend_197 rfl (lv_at hl 3 rfl) ?_
                  refine m_wv S hK hP hS (As := [.int ((zh Z 1) + 1), .int 15, .int place]) (rest := []) (cM_put l D cI cJ ad (tkp (tkp (tkp (tkp (tkp (zhp Z 1 ((zh Z 1) + 1)) (tN ((zh Z 1) + 1)) 1 amount) (tN ((zh Z 1) + 1)) 4 (zh Z 0)) (tN ((zh Z 1) + 1)) 5 months) (tN ((zh Z 1) + 1)) 6 (zh (zhp Z 1 ((zh Z 1) + 1)) (3 + (4 + tN (sh Z (tN place) 0))))) (tN ((zh Z 1) + 1)) 8 (-1)) _ hi ((zh Z 1) + 1) 15 place (tok_inc hC c_8) 15 rfl (by decide)) (cwV 3 hts gX13_lend_X13_put rfl rfl rfl (by decide +kernel) ⟨Nat.le_of_ble_eq_true rfl, Nat.le_of_ble_eq_true rfl⟩) rfl hl.1 rfl (Nat.le_of_ble_eq_true rfl) dX13_lend_198 ⟨Nat.zero_le _, Nat.zero_le _⟩ (fun H locs hP hS => ?_)
                  refine lv_aload_n hx hb dX13_lend_201 rfl (lv_at hl 2 rfl) ?_
                  refine lv_iload hx hb dX13_lend_202 (lv_at hl 0 rfl) ?_
                  refine lv_bipush (v := 16) hx hb dX13_lend_204 (by decide) ?_
                  refine lv_iconst (v := (-1)) hx hb dX13_lend_206 (by decide) ?_
                  refine m_wv S hK hP hS (As := [.int ((zh Z 1) + 1), .int 16, .int (-1)]) (rest := []) (cM_put l D cI cJ ad (tkp (tkp (tkp (tkp (tkp (tkp (zhp Z 1 ((zh Z 1) + 1)) (tN ((zh Z 1) + 1)) 1 amount) (tN ((zh Z 1) + 1)) 4 (zh Z 0)) (tN ((zh Z 1) + 1)) 5 months) (tN ((zh Z 1) + 1)) 6 (zh (zhp Z 1 ((zh Z 1) + 1)) (3 + (4 + tN (sh Z (tN place) 0))))) (tN ((zh Z 1) + 1)) 8 (-1)) (tN ((zh Z 1) + 1)) 15 place) _ hi ((zh Z 1) + 1) 16 (-1) (tok_inc hC c_8) 16 rfl (by decide)) (cwV 3 hts gX13_lend_X13_put rfl rfl rfl (by decide +kernel) ⟨Nat.le_of_ble_eq_true rfl, Nat.le_of_ble_eq_true rfl⟩) rfl hl.1 rfl (Nat.le_of_ble_eq_true rfl) dX13_lend_207 ⟨Nat.zero_le _, Nat.zero_le _⟩ (fun H locs hP hS => ?_)
                  refine lv_aload_n hx hb dX13_lend_210 rfl (lv_at hl 2 rfl) ?_
                  refine lv_iload hx hb dX13_lend_211 (lv_at hl 0 rfl) ?_
                  refine lv_bipush (v := 17) hx hb dX13_lend_213 (by decide) ?_
                  refine lv_sipush (v := 1000) hx hb dX13_lend_215 (by decide) ?_
                  refine lv_iload hx hb dX13_lend_218 (lv_at hl 0 rfl) ?_
                  refine lv_imul hx hb dX13_lend_220 ?_
                  refine lv_ldc2 (v := 7) hx hb hown (hts (.constantLong RX13 136 (7)) (by decide +kernel)) dX13_lend_221 ?_
                  refine lv_iload_n hx hb dX13_lend_224 rfl (lv_at hl 4 rfl) ?_
                  refine lv_i2l (v := amount.toInt64) hx hb dX13_lend_225 rfl ?_
                  refine lv_lmul hx hb dX13_lend_226 ?_
                  refine lv_ldc2 (v := 13) hx hb hown (hts (.constantLong RX13 138 (13)) (by decide +kernel)) dX13_lend_227 ?_
                  refine lv_aload_n hx hb dX13_lend_230 rfl (lv_at hl 2 rfl) ?_
                  refine m_rd S hK hP (As := []) (rest := [.long 13, .long (7 * amount.toInt64), .int (1000 * ((zh Z 1) + 1)), .int 17, .int ((zh Z 1) + 1), .ref (ad 0)]) (met_r (show zh (tkp (tkp (tkp (tkp (tkp (tkp (tkp (zhp Z 1 ((zh Z 1) + 1)) (tN ((zh Z 1) + 1)) 1 amount) (tN ((zh Z 1) + 1)) 4 (zh Z 0)) (tN ((zh Z 1) + 1)) 5 months) (tN ((zh Z 1) + 1)) 6 (zh (zhp Z 1 ((zh Z 1) + 1)) (3 + (4 + tN (sh Z (tN place) 0))))) (tN ((zh Z 1) + 1)) 8 (-1)) (tN ((zh Z 1) + 1)) 15 place) (tN ((zh Z 1) + 1)) 16 (-1)) 0 = zh Z 0 from ((zh_tkp).trans ((zh_tkp).trans ((zh_tkp).trans ((zh_tkp).trans ((zh_tkp).trans ((zh_tkp).trans ((zh_tkp).trans (zh_zhp_ne (by decide)))))))))) (cM_today l D cI cJ ad (tkp (tkp (tkp (tkp (tkp (tkp (tkp (zhp Z 1 ((zh Z 1) + 1)) (tN ((zh Z 1) + 1)) 1 amount) (tN ((zh Z 1) + 1)) 4 (zh Z 0)) (tN ((zh Z 1) + 1)) 5 months) (tN ((zh Z 1) + 1)) 6 (zh (zhp Z 1 ((zh Z 1) + 1)) (3 + (4 + tN (sh Z (tN place) 0))))) (tN ((zh Z 1) + 1)) 8 (-1)) (tN ((zh Z 1) + 1)) 15 place) (tN ((zh Z 1) + 1)) 16 (-1)) _)) (cwV 0 hts gX13_lend_X13_today rfl rfl rfl (by decide +kernel) ⟨Nat.le_of_ble_eq_true rfl, Nat.le_of_ble_eq_true rfl⟩) rfl hl.1 rfl (Nat.le_of_ble_eq_true rfl) dX13_lend_231 ⟨Nat.zero_le _, Nat.zero_le _⟩ ?_
                  refine lv_i2l (v := (zh Z 0).toInt64) hx hb dX13_lend_234 rfl ?_
                  refine lv_lmul hx hb dX13_lend_235 ?_
                  refine lv_ladd hx hb dX13_lend_236 ?_
                  refine lv_ldc2 (v := 1000) hx hb hown (hts (.constantLong RX13 61 (1000)) (by decide +kernel)) dX13_lend_237 ?_
                  refine lv_lrem hx hb dX13_lend_240 (by decide) ?_
                  refine lv_l2i (v := (((7 * amount.toInt64) + (13 * ((zh Z 0).toInt64))) - ((7 * amount.toInt64) + (13 * ((zh Z 0).toInt64))) / 1000 * 1000).toInt32) hx hb dX13_lend_241 rfl ?_
                  refine lv_iadd hx hb dX13_lend_242 ?_
                  refine m_wv S hK hP hS (As := [.int ((zh Z 1) + 1), .int 17, .int ((1000 * ((zh Z 1) + 1)) + ((((7 * amount.toInt64) + (13 * ((zh Z 0).toInt64))) - ((7 * amount.toInt64) + (13 * ((zh Z 0).toInt64))) / 1000 * 1000).toInt32))]) (rest := []) (cM_put l D cI cJ ad (tkp (tkp (tkp (tkp (tkp (tkp (tkp (zhp Z 1 ((zh Z 1) + 1)) (tN ((zh Z 1) + 1)) 1 amount) (tN ((zh Z 1) + 1)) 4 (zh Z 0)) (tN ((zh Z 1) + 1)) 5 months) (tN ((zh Z 1) + 1)) 6 (zh (zhp Z 1 ((zh Z 1) + 1)) (3 + (4 + tN (sh Z (tN place) 0))))) (tN ((zh Z 1) + 1)) 8 (-1)) (tN ((zh Z 1) + 1)) 15 place) (tN ((zh Z 1) + 1)) 16 (-1)) _ hi ((zh Z 1) + 1) 17 ((1000 * ((zh Z 1) + 1)) + ((((7 * amount.toInt64) + (13 * ((zh Z 0).toInt64))) - ((7 * amount.toInt64) + (13 * ((zh Z 0).toInt64))) / 1000 * 1000).toInt32)) (tok_inc hC c_8) 17 rfl (by decide)) (cwV 3 hts gX13_lend_X13_put rfl rfl rfl (by decide +kernel) ⟨Nat.le_of_ble_eq_true rfl, Nat.le_of_ble_eq_true rfl⟩) rfl hl.1 rfl (Nat.le_of_ble_eq_true rfl) dX13_lend_243 ⟨Nat.zero_le _, Nat.zero_le _⟩ (fun H locs hP hS => ?_)
                  refine lv_aload_n hx hb dX13_lend_246 rfl (lv_at hl 2 rfl) ?_
                  refine lv_iload hx hb dX13_lend_247 (lv_at hl 0 rfl) ?_
                  refine lv_bipush (v := 18) hx hb dX13_lend_249 (by decide) ?_
                  refine lv_iconst (v := (-1)) hx hb dX13_lend_251 (by decide) ?_
                  refine m_wv S hK hP hS (As := [.int ((zh Z 1) + 1), .int 18, .int (-1)]) (rest := []) (cM_put l D cI cJ ad (tkp (tkp (tkp (tkp (tkp (tkp (tkp (tkp (zhp Z 1 ((zh Z 1) + 1)) (tN ((zh Z 1) + 1)) 1 amount) (tN ((zh Z 1) + 1)) 4 (zh Z 0)) (tN ((zh Z 1) + 1)) 5 months) (tN ((zh Z 1) + 1)) 6 (zh (zhp Z 1 ((zh Z 1) + 1)) (3 + (4 + tN (sh Z (tN place) 0))))) (tN ((zh Z 1) + 1)) 8 (-1)) (tN ((zh Z 1) + 1)) 15 place) (tN ((zh Z 1) + 1)) 16 (-1)) (tN ((zh Z 1) + 1)) 17 ((1000 * ((zh Z 1) + 1)) + ((((7 * amount.toInt64) + (13 * ((zh Z 0).toInt64))) - ((7 * amount.toInt64) + (13 * ((zh Z 0).toInt64))) / 1000 * 1000).toInt32))) _ hi ((zh Z 1) + 1) 18 (-1) (tok_inc hC c_8) 18 rfl (by decide)) (cwV 3 hts gX13_lend_X13_put rfl rfl rfl (by decide +kernel) ⟨Nat.le_of_ble_eq_true rfl, Nat.le_of_ble_eq_true rfl⟩) rfl hl.1 rfl (Nat.le_of_ble_eq_true rfl) dX13_lend_252 ⟨Nat.zero_le _, Nat.zero_le _⟩ (fun H locs hP hS => ?_)
                  refine lv_aload_n hx hb dX13_lend_255 rfl (lv_at hl 2 rfl) ?_
                  refine lv_iload hx hb dX13_lend_256 (lv_at hl 0 rfl) ?_
                  refine lv_bipush (v := 19) hx hb dX13_lend_258 (by decide) ?_
                  refine lv_iload hx hb dX13_lend_260 (lv_at hl 1 rfl) ?_
                  refine m_wv S hK hP hS (As := [.int ((zh Z 1) + 1), .int 19, .int (sh Z (tN place) 0)]) (rest := []) (cM_put l D cI cJ ad (tkp (tkp (tkp (tkp (tkp (tkp (tkp (tkp (tkp (zhp Z 1 ((zh Z 1) + 1)) (tN ((zh Z 1) + 1)) 1 amount) (tN ((zh Z 1) + 1)) 4 (zh Z 0)) (tN ((zh Z 1) + 1)) 5 months) (tN ((zh Z 1) + 1)) 6 (zh (zhp Z 1 ((zh Z 1) + 1)) (3 + (4 + tN (sh Z (tN place) 0))))) (tN ((zh Z 1) + 1)) 8 (-1)) (tN ((zh Z 1) + 1)) 15 place) (tN ((zh Z 1) + 1)) 16 (-1)) (tN ((zh Z 1) + 1)) 17 ((1000 * ((zh Z 1) + 1)) + ((((7 * amount.toInt64) + (13 * ((zh Z 0).toInt64))) - ((7 * amount.toInt64) + (13 * ((zh Z 0).toInt64))) / 1000 * 1000).toInt32))) (tN ((zh Z 1) + 1)) 18 (-1)) _ hi ((zh Z 1) + 1) 19 (sh Z (tN place) 0) (tok_inc hC c_8) 19 rfl (by decide)) (cwV 3 hts gX13_lend_X13_put rfl rfl rfl (by decide +kernel) ⟨Nat.le_of_ble_eq_true rfl, Nat.le_of_ble_eq_true rfl⟩) rfl hl.1 rfl (Nat.le_of_ble_eq_true rfl) dX13_lend_262 ⟨Nat.zero_le _, Nat.zero_le _⟩ (fun H locs hP hS => ?_)
                  refine lv_aload_n hx hb dX13_lend_265 rfl (lv_at hl 2 rfl) ?_
                  refine lv_iload hx hb dX13_lend_266 (lv_at hl 0 rfl) ?_
                  refine lv_bipush (v := 20) hx hb dX13_lend_268 (by decide) ?_
                  refine lv_iconst (v := (-1)) hx hb dX13_lend_270 (by decide) ?_
                  refine m_wv S hK hP hS (As := [.int ((zh Z 1) + 1), .int 20, .int (-1)]) (rest := []) (cM_put l D cI cJ ad (tkp (tkp (tkp (tkp (tkp (tkp (tkp (tkp (tkp (tkp (zhp Z 1 ((zh Z 1) + 1)) (tN ((zh Z 1) + 1)) 1 amount) (tN ((zh Z 1) + 1)) 4 (zh Z 0)) (tN ((zh Z 1) + 1)) 5 months) (tN ((zh Z 1) + 1)) 6 (zh (zhp Z 1 ((zh Z 1) + 1)) (3 + (4 + tN (sh Z (tN place) 0))))) (tN ((zh Z 1) + 1)) 8 (-1)) (tN ((zh Z 1) + 1)) 15 place) (tN ((zh Z 1) + 1)) 16 (-1)) (tN ((zh Z 1) + 1)) 17 ((1000 * ((zh Z 1) + 1)) + ((((7 * amount.toInt64) + (13 * ((zh Z 0).toInt64))) - ((7 * amount.toInt64) + (13 * ((zh Z 0).toInt64))) / 1000 * 1000).toInt32))) (tN ((zh Z 1) + 1)) 18 (-1)) (tN ((zh Z 1) + 1)) 19 (sh Z (tN place) 0)) _ hi ((zh Z 1) + 1) 20 (-1) (tok_inc hC c_8) 20 rfl (by decide)) (cwV 3 hts gX13_lend_X13_put rfl rfl rfl (by decide +kernel) ⟨Nat.le_of_ble_eq_true rfl, Nat.le_of_ble_eq_true rfl⟩) rfl hl.1 rfl (Nat.le_of_ble_eq_true rfl) dX13_lend_271 ⟨Nat.zero_le _, Nat.zero_le _⟩ (fun H locs hP hS => ?_)
                  refine lv_aload_n hx hb dX13_lend_274 rfl (lv_at hl 2 rfl) ?_
                  refine lv_iload_n hx hb dX13_lend_275 rfl (lv_at hl 3 rfl) ?_
                  refine lv_iconst (v := 1) hx hb dX13_lend_276 (by decide) ?_
                  refine lv_iload hx hb dX13_lend_277 (lv_at hl 0 rfl) ?_
                  refine m_wv S hK hP hS (As := [.int place, .int 1, .int ((zh Z 1) + 1)]) (rest := []) (cM_set l D cI cJ ad (tkp (tkp (tkp (tkp (tkp (tkp (tkp (tkp (tkp (tkp (tkp (zhp Z 1 ((zh Z 1) + 1)) (tN ((zh Z 1) + 1)) 1 amount) (tN ((zh Z 1) + 1)) 4 (zh Z 0)) (tN ((zh Z 1) + 1)) 5 months) (tN ((zh Z 1) + 1)) 6 (zh (zhp Z 1 ((zh Z 1) + 1)) (3 + (4 + tN (sh Z (tN place) 0))))) (tN ((zh Z 1) + 1)) 8 (-1)) (tN ((zh Z 1) + 1)) 15 place) (tN ((zh Z 1) + 1)) 16 (-1)) (tN ((zh Z 1) + 1)) 17 ((1000 * ((zh Z 1) + 1)) + ((((7 * amount.toInt64) + (13 * ((zh Z 0).toInt64))) - ((7 * amount.toInt64) + (13 * ((zh Z 0).toInt64))) / 1000 * 1000).toInt32))) (tN ((zh Z 1) + 1)) 18 (-1)) (tN ((zh Z 1) + 1)) 19 (sh Z (tN place) 0)) (tN ((zh Z 1) + 1)) 20 (-1)) _ hi place 1 ((zh Z 1) + 1) (pok_of c_1) 1 rfl (by decide)) (cwV 3 hts gX13_lend_X13_set rfl rfl rfl (by decide +kernel) ⟨Nat.le_of_ble_eq_true rfl, Nat.le_of_ble_eq_true rfl⟩) rfl hl.1 rfl (Nat.le_of_ble_eq_true rfl) dX13_lend_279 ⟨Nat.zero_le _, Nat.zero_le _⟩ (fun H locs hP hS => ?_)
                  refine lv_aload_n hx hb dX13_lend_282 rfl (lv_at hl 2 rfl) ?_
                  refine va_get (D := D) (ci := 11) (v := .ref (ad 1)) (C := RX13) (T := TX13) (N := 6) hx hb hts hX13 hown hK.1 hP 0 rfl rfl 0 (by decide) (hts (.fieldLink RX13 10 "PledgeHouseModel" "now" "LPledgeHouseModel$State;") (by decide +kernel)) (fun _ h9 => h9) rfl dX13_lend_283 ?_
                  refine va_getN (D := D) (ci := 10) (v := .ref (ad 3)) (C := RX12) (T := TX12) (N := 4) hx hb hts hX12 hown hK.1 hP 1 rfl rfl 0 (by decide) (va_Nw.use rfl hK.2.1) (fun _ h9 => h9) rfl dX13_lend_286 ?_
                  refine lv_iconst (v := 2) hx hb dX13_lend_289 (by decide) ?_
                  refine lv_aload_n hx hb dX13_lend_290 rfl (lv_at hl 2 rfl) ?_
                  refine lv_iload hx hb dX13_lend_291 (lv_at hl 0 rfl) ?_
                  refine lv_bipush (v := 17) hx hb dX13_lend_293 (by decide) ?_
                  refine m_rd S hK hP (As := [.int ((zh Z 1) + 1), .int 17]) (rest := [.int 2, .ref (ad 3)]) (met_r (show tk (shp (tkp (tkp (tkp (tkp (tkp (tkp (tkp (tkp (tkp (tkp (tkp (zhp Z 1 ((zh Z 1) + 1)) (tN ((zh Z 1) + 1)) 1 amount) (tN ((zh Z 1) + 1)) 4 (zh Z 0)) (tN ((zh Z 1) + 1)) 5 months) (tN ((zh Z 1) + 1)) 6 (zh (zhp Z 1 ((zh Z 1) + 1)) (3 + (4 + tN (sh Z (tN place) 0))))) (tN ((zh Z 1) + 1)) 8 (-1)) (tN ((zh Z 1) + 1)) 15 place) (tN ((zh Z 1) + 1)) 16 (-1)) (tN ((zh Z 1) + 1)) 17 ((1000 * ((zh Z 1) + 1)) + ((((7 * amount.toInt64) + (13 * ((zh Z 0).toInt64))) - ((7 * amount.toInt64) + (13 * ((zh Z 0).toInt64))) / 1000 * 1000).toInt32))) (tN ((zh Z 1) + 1)) 18 (-1)) (tN ((zh Z 1) + 1)) 19 (sh Z (tN place) 0)) (tN ((zh Z 1) + 1)) 20 (-1)) (tN place) 1 ((zh Z 1) + 1)) (tN ((zh Z 1) + 1)) 17 = (1000 * ((zh Z 1) + 1)) + ((((7 * amount.toInt64) + (13 * ((zh Z 0).toInt64))) - ((7 * amount.toInt64) + (13 * ((zh Z 0).toInt64))) / 1000 * 1000).toInt32) from ((tk_shp).trans ((tk_ne (by decide)).trans ((tk_ne (by decide)).trans ((tk_ne (by decide)).trans tk_eq))))) (cM_of l D cI cJ ad (shp (tkp (tkp (tkp (tkp (tkp (tkp (tkp (tkp (tkp (tkp (tkp (zhp Z 1 ((zh Z 1) + 1)) (tN ((zh Z 1) + 1)) 1 amount) (tN ((zh Z 1) + 1)) 4 (zh Z 0)) (tN ((zh Z 1) + 1)) 5 months) (tN ((zh Z 1) + 1)) 6 (zh (zhp Z 1 ((zh Z 1) + 1)) (3 + (4 + tN (sh Z (tN place) 0))))) (tN ((zh Z 1) + 1)) 8 (-1)) (tN ((zh Z 1) + 1)) 15 place) (tN ((zh Z 1) + 1)) 16 (-1)) (tN ((zh Z 1) + 1)) 17 ((1000 * ((zh Z 1) + 1)) + ((((7 * amount.toInt64) + (13 * ((zh Z 0).toInt64))) - ((7 * amount.toInt64) + (13 * ((zh Z 0).toInt64))) / 1000 * 1000).toInt32))) (tN ((zh Z 1) + 1)) 18 (-1)) (tN ((zh Z 1) + 1)) 19 (sh Z (tN place) 0)) (tN ((zh Z 1) + 1)) 20 (-1)) (tN place) 1 ((zh Z 1) + 1)) _ ((zh Z 1) + 1) 17 (tok_inc hC c_8) 17 rfl (by decide))) (cwV 2 hts gX13_lend_X13_of rfl rfl rfl (by decide +kernel) ⟨Nat.le_of_ble_eq_true rfl, Nat.le_of_ble_eq_true rfl⟩) rfl hl.1 rfl (Nat.le_of_ble_eq_true rfl) dX13_lend_295 ⟨Nat.zero_le _, Nat.zero_le _⟩ ?_
                  refine mx_hst hx hb hK.1 hP (wM_D hi s.heap.size _) hS 2 rfl (by decide) dX13_lend_298 (fun H locs hP hS => ?_)
                  refine lv_aload_n hx hb dX13_lend_299 rfl (lv_at hl 2 rfl) ?_
                  refine va_get (D := D) (ci := 11) (v := .ref (ad 1)) (C := RX13) (T := TX13) (N := 6) hx hb hts hX13 hown hK.1 hP 0 rfl rfl 0 (by decide) (hts (.fieldLink RX13 10 "PledgeHouseModel" "now" "LPledgeHouseModel$State;") (by decide +kernel)) (fun _ h9 => h9) rfl dX13_lend_300 ?_
                  refine va_getN (D := D) (ci := 10) (v := .ref (ad 6)) (C := RX12) (T := TX12) (N := 4) hx hb hts hX12 hown hK.1 hP 1 rfl rfl 3 (by decide) (va_Nw.use rfl hK.2.2.2.2) (fun _ h9 => h9) rfl dX13_lend_303 ?_
                  refine lv_iconst (v := 0) hx hb dX13_lend_306 (by decide) ?_
                  refine lv_dup2_11 hx hb dX13_lend_307 rfl rfl ?_
                  refine mx_cld hx hb hK.1 hP 0 rfl (by decide) (v := zc Z 0) ((zc_zhp).trans ((zc_shp).trans ((zc_tkp).trans ((zc_tkp).trans ((zc_tkp).trans ((zc_tkp).trans ((zc_tkp).trans ((zc_tkp).trans ((zc_tkp).trans ((zc_tkp).trans ((zc_tkp).trans ((zc_tkp).trans ((zc_tkp).trans zc_zhp))))))))))))) dX13_lend_308 ?_
                  refine lv_iload_n hx hb dX13_lend_309 rfl (lv_at hl 4 rfl) ?_
                  refine lv_i2l (v := amount.toInt64) hx hb dX13_lend_310 rfl ?_
                  refine lv_ladd hx hb dX13_lend_311 ?_
                  refine mx_cst hx hb hK.1 hP (wM_D hi s.heap.size _) hS 0 rfl (by decide) dX13_lend_312 (fun H locs hP hS => ?_)
                  refine lv_aload_n hx hb dX13_lend_313 rfl (lv_at hl 2 rfl) ?_
                  refine lv_iload hx hb dX13_lend_314 (lv_at hl 0 rfl) ?_
                  refine m_wv S hK hP hS (As := [.int ((zh Z 1) + 1)]) (rest := []) (cM_begins l D cI cJ ad (zcp (zhp (shp (tkp (tkp (tkp (tkp (tkp (tkp (tkp (tkp (tkp (tkp (tkp (zhp Z 1 ((zh Z 1) + 1)) (tN ((zh Z 1) + 1)) 1 amount) (tN ((zh Z 1) + 1)) 4 (zh Z 0)) (tN ((zh Z 1) + 1)) 5 months) (tN ((zh Z 1) + 1)) 6 (zh (zhp Z 1 ((zh Z 1) + 1)) (3 + (4 + tN (sh Z (tN place) 0))))) (tN ((zh Z 1) + 1)) 8 (-1)) (tN ((zh Z 1) + 1)) 15 place) (tN ((zh Z 1) + 1)) 16 (-1)) (tN ((zh Z 1) + 1)) 17 ((1000 * ((zh Z 1) + 1)) + ((((7 * amount.toInt64) + (13 * ((zh Z 0).toInt64))) - ((7 * amount.toInt64) + (13 * ((zh Z 0).toInt64))) / 1000 * 1000).toInt32))) (tN ((zh Z 1) + 1)) 18 (-1)) (tN ((zh Z 1) + 1)) 19 (sh Z (tN place) 0)) (tN ((zh Z 1) + 1)) 20 (-1)) (tN place) 1 ((zh Z 1) + 1)) 2 ((1000 * ((zh Z 1) + 1)) + ((((7 * amount.toInt64) + (13 * ((zh Z 0).toInt64))) - ((7 * amount.toInt64) + (13 * ((zh Z 0).toInt64))) / 1000 * 1000).toInt32))) 0 ((zc Z 0) + amount.toInt64)) _ hi ((zh Z 1) + 1) (tok_inc hC c_8) (show (zh (zcp (zhp (shp (tkp (tkp (tkp (tkp (tkp (tkp (tkp (tkp (tkp (tkp (tkp (zhp Z 1 ((zh Z 1) + 1)) (tN ((zh Z 1) + 1)) 1 amount) (tN ((zh Z 1) + 1)) 4 (zh Z 0)) (tN ((zh Z 1) + 1)) 5 months) (tN ((zh Z 1) + 1)) 6 (zh (zhp Z 1 ((zh Z 1) + 1)) (3 + (4 + tN (sh Z (tN place) 0))))) (tN ((zh Z 1) + 1)) 8 (-1)) (tN ((zh Z 1) + 1)) 15 place) (tN ((zh Z 1) + 1)) 16 (-1)) (tN ((zh Z 1) + 1)) 17 ((1000 * ((zh Z 1) + 1)) + ((((7 * amount.toInt64) + (13 * ((zh Z 0).toInt64))) - ((7 * amount.toInt64) + (13 * ((zh Z 0).toInt64))) / 1000 * 1000).toInt32))) (tN ((zh Z 1) + 1)) 18 (-1)) (tN ((zh Z 1) + 1)) 19 (sh Z (tN place) 0)) (tN ((zh Z 1) + 1)) 20 (-1)) (tN place) 1 ((zh Z 1) + 1)) 2 ((1000 * ((zh Z 1) + 1)) + ((((7 * amount.toInt64) + (13 * ((zh Z 0).toInt64))) - ((7 * amount.toInt64) + (13 * ((zh Z 0).toInt64))) / 1000 * 1000).toInt32))) 0 ((zc Z 0) + amount.toInt64)) 0) < ((tk (zcp (zhp (shp (tkp (tkp (tkp (tkp (tkp (tkp (tkp (tkp (tkp (tkp (tkp (zhp Z 1 ((zh Z 1) + 1)) (tN ((zh Z 1) + 1)) 1 amount) (tN ((zh Z 1) + 1)) 4 (zh Z 0)) (tN ((zh Z 1) + 1)) 5 months) (tN ((zh Z 1) + 1)) 6 (zh (zhp Z 1 ((zh Z 1) + 1)) (3 + (4 + tN (sh Z (tN place) 0))))) (tN ((zh Z 1) + 1)) 8 (-1)) (tN ((zh Z 1) + 1)) 15 place) (tN ((zh Z 1) + 1)) 16 (-1)) (tN ((zh Z 1) + 1)) 17 ((1000 * ((zh Z 1) + 1)) + ((((7 * amount.toInt64) + (13 * ((zh Z 0).toInt64))) - ((7 * amount.toInt64) + (13 * ((zh Z 0).toInt64))) / 1000 * 1000).toInt32))) (tN ((zh Z 1) + 1)) 18 (-1)) (tN ((zh Z 1) + 1)) 19 (sh Z (tN place) 0)) (tN ((zh Z 1) + 1)) 20 (-1)) (tN place) 1 ((zh Z 1) + 1)) 2 ((1000 * ((zh Z 1) + 1)) + ((((7 * amount.toInt64) + (13 * ((zh Z 0).toInt64))) - ((7 * amount.toInt64) + (13 * ((zh Z 0).toInt64))) / 1000 * 1000).toInt32))) 0 ((zc Z 0) + amount.toInt64)) (tN ((zh Z 1) + 1)) 4) + (30 * ((tk (zcp (zhp (shp (tkp (tkp (tkp (tkp (tkp (tkp (tkp (tkp (tkp (tkp (tkp (zhp Z 1 ((zh Z 1) + 1)) (tN ((zh Z 1) + 1)) 1 amount) (tN ((zh Z 1) + 1)) 4 (zh Z 0)) (tN ((zh Z 1) + 1)) 5 months) (tN ((zh Z 1) + 1)) 6 (zh (zhp Z 1 ((zh Z 1) + 1)) (3 + (4 + tN (sh Z (tN place) 0))))) (tN ((zh Z 1) + 1)) 8 (-1)) (tN ((zh Z 1) + 1)) 15 place) (tN ((zh Z 1) + 1)) 16 (-1)) (tN ((zh Z 1) + 1)) 17 ((1000 * ((zh Z 1) + 1)) + ((((7 * amount.toInt64) + (13 * ((zh Z 0).toInt64))) - ((7 * amount.toInt64) + (13 * ((zh Z 0).toInt64))) / 1000 * 1000).toInt32))) (tN ((zh Z 1) + 1)) 18 (-1)) (tN ((zh Z 1) + 1)) 19 (sh Z (tN place) 0)) (tN ((zh Z 1) + 1)) 20 (-1)) (tN place) 1 ((zh Z 1) + 1)) 2 ((1000 * ((zh Z 1) + 1)) + ((((7 * amount.toInt64) + (13 * ((zh Z 0).toInt64))) - ((7 * amount.toInt64) + (13 * ((zh Z 0).toInt64))) / 1000 * 1000).toInt32))) 0 ((zc Z 0) + amount.toInt64)) (tN ((zh Z 1) + 1)) 3) + 1))) from by rw [show tk (zcp (zhp (shp (tkp (tkp (tkp (tkp (tkp (tkp (tkp (tkp (tkp (tkp (tkp (zhp Z 1 ((zh Z 1) + 1)) (tN ((zh Z 1) + 1)) 1 amount) (tN ((zh Z 1) + 1)) 4 (zh Z 0)) (tN ((zh Z 1) + 1)) 5 months) (tN ((zh Z 1) + 1)) 6 (zh (zhp Z 1 ((zh Z 1) + 1)) (3 + (4 + tN (sh Z (tN place) 0))))) (tN ((zh Z 1) + 1)) 8 (-1)) (tN ((zh Z 1) + 1)) 15 place) (tN ((zh Z 1) + 1)) 16 (-1)) (tN ((zh Z 1) + 1)) 17 ((1000 * ((zh Z 1) + 1)) + ((((7 * amount.toInt64) + (13 * ((zh Z 0).toInt64))) - ((7 * amount.toInt64) + (13 * ((zh Z 0).toInt64))) / 1000 * 1000).toInt32))) (tN ((zh Z 1) + 1)) 18 (-1)) (tN ((zh Z 1) + 1)) 19 (sh Z (tN place) 0)) (tN ((zh Z 1) + 1)) 20 (-1)) (tN place) 1 ((zh Z 1) + 1)) 2 ((1000 * ((zh Z 1) + 1)) + ((((7 * amount.toInt64) + (13 * ((zh Z 0).toInt64))) - ((7 * amount.toInt64) + (13 * ((zh Z 0).toInt64))) / 1000 * 1000).toInt32))) 0 ((zc Z 0) + amount.toInt64)) (tN ((zh Z 1) + 1)) 4 = zh Z 0 from ((tk_zcp).trans ((tk_zhp).trans ((tk_shp).trans ((tk_ne (by decide)).trans ((tk_ne (by decide)).trans ((tk_ne (by decide)).trans ((tk_ne (by decide)).trans ((tk_ne (by decide)).trans ((tk_ne (by decide)).trans ((tk_ne (by decide)).trans ((tk_ne (by decide)).trans ((tk_ne (by decide)).trans tk_eq)))))))))))), show tk (zcp (zhp (shp (tkp (tkp (tkp (tkp (tkp (tkp (tkp (tkp (tkp (tkp (tkp (zhp Z 1 ((zh Z 1) + 1)) (tN ((zh Z 1) + 1)) 1 amount) (tN ((zh Z 1) + 1)) 4 (zh Z 0)) (tN ((zh Z 1) + 1)) 5 months) (tN ((zh Z 1) + 1)) 6 (zh (zhp Z 1 ((zh Z 1) + 1)) (3 + (4 + tN (sh Z (tN place) 0))))) (tN ((zh Z 1) + 1)) 8 (-1)) (tN ((zh Z 1) + 1)) 15 place) (tN ((zh Z 1) + 1)) 16 (-1)) (tN ((zh Z 1) + 1)) 17 ((1000 * ((zh Z 1) + 1)) + ((((7 * amount.toInt64) + (13 * ((zh Z 0).toInt64))) - ((7 * amount.toInt64) + (13 * ((zh Z 0).toInt64))) / 1000 * 1000).toInt32))) (tN ((zh Z 1) + 1)) 18 (-1)) (tN ((zh Z 1) + 1)) 19 (sh Z (tN place) 0)) (tN ((zh Z 1) + 1)) 20 (-1)) (tN place) 1 ((zh Z 1) + 1)) 2 ((1000 * ((zh Z 1) + 1)) + ((((7 * amount.toInt64) + (13 * ((zh Z 0).toInt64))) - ((7 * amount.toInt64) + (13 * ((zh Z 0).toInt64))) / 1000 * 1000).toInt32))) 0 ((zc Z 0) + amount.toInt64)) (tN ((zh Z 1) + 1)) 3 = tk Z (tN ((zh Z 1) + 1)) 3 from ((tk_zcp).trans ((tk_zhp).trans ((tk_shp).trans ((tk_ne (by decide)).trans ((tk_ne (by decide)).trans ((tk_ne (by decide)).trans ((tk_ne (by decide)).trans ((tk_ne (by decide)).trans ((tk_ne (by decide)).trans ((tk_ne (by decide)).trans ((tk_ne (by decide)).trans ((tk_ne (by decide)).trans ((tk_ne (by decide)).trans ((tk_ne (by decide)).trans tk_zhp))))))))))))))]; exact hone c_8)) (cwV 1 hts gX13_lend_X13_begins rfl rfl rfl (by decide +kernel) ⟨Nat.le_of_ble_eq_true rfl, Nat.le_of_ble_eq_true rfl⟩) rfl hl.1 rfl (Nat.le_of_ble_eq_true rfl) dX13_lend_316 ⟨Nat.zero_le _, Nat.zero_le _⟩ (fun H locs hP hS => ?_)
                  refine lv_aload_n hx hb dX13_lend_319 rfl (lv_at hl 2 rfl) ?_
                  refine lv_iload hx hb dX13_lend_320 (lv_at hl 0 rfl) ?_
                  refine m_wr S hK hP hS (As := [.int ((zh Z 1) + 1)]) (rest := []) (cM_says l D cI cJ ad (sp_begins (zcp (zhp (shp (tkp (tkp (tkp (tkp (tkp (tkp (tkp (tkp (tkp (tkp (tkp (zhp Z 1 ((zh Z 1) + 1)) (tN ((zh Z 1) + 1)) 1 amount) (tN ((zh Z 1) + 1)) 4 (zh Z 0)) (tN ((zh Z 1) + 1)) 5 months) (tN ((zh Z 1) + 1)) 6 (zh (zhp Z 1 ((zh Z 1) + 1)) (3 + (4 + tN (sh Z (tN place) 0))))) (tN ((zh Z 1) + 1)) 8 (-1)) (tN ((zh Z 1) + 1)) 15 place) (tN ((zh Z 1) + 1)) 16 (-1)) (tN ((zh Z 1) + 1)) 17 ((1000 * ((zh Z 1) + 1)) + ((((7 * amount.toInt64) + (13 * ((zh Z 0).toInt64))) - ((7 * amount.toInt64) + (13 * ((zh Z 0).toInt64))) / 1000 * 1000).toInt32))) (tN ((zh Z 1) + 1)) 18 (-1)) (tN ((zh Z 1) + 1)) 19 (sh Z (tN place) 0)) (tN ((zh Z 1) + 1)) 20 (-1)) (tN place) 1 ((zh Z 1) + 1)) 2 ((1000 * ((zh Z 1) + 1)) + ((((7 * amount.toInt64) + (13 * ((zh Z 0).toInt64))) - ((7 * amount.toInt64) + (13 * ((zh Z 0).toInt64))) / 1000 * 1000).toInt32))) 0 ((zc Z 0) + amount.toInt64)) ((zh Z 1) + 1)) _ hi ((zh Z 1) + 1)) (cwV 1 hts gX13_lend_X13_says rfl rfl rfl (by decide +kernel) ⟨Nat.le_of_ble_eq_true rfl, Nat.le_of_ble_eq_true rfl⟩) rfl hl.1 rfl (Nat.le_of_ble_eq_true rfl) dX13_lend_322 ⟨Nat.zero_le _, Nat.zero_le _⟩ (fun H locs hP hS => ?_)
                  have hsp : sp_lend Z place amount months = ((zh Z 1) + 1, zR (sp_begins (zcp (zhp (shp (tkp (tkp (tkp (tkp (tkp (tkp (tkp (tkp (tkp (tkp (tkp (zhp Z 1 ((zh Z 1) + 1)) (tN ((zh Z 1) + 1)) 1 amount) (tN ((zh Z 1) + 1)) 4 (zh Z 0)) (tN ((zh Z 1) + 1)) 5 months) (tN ((zh Z 1) + 1)) 6 (zh (zhp Z 1 ((zh Z 1) + 1)) (3 + (4 + tN (sh Z (tN place) 0))))) (tN ((zh Z 1) + 1)) 8 (-1)) (tN ((zh Z 1) + 1)) 15 place) (tN ((zh Z 1) + 1)) 16 (-1)) (tN ((zh Z 1) + 1)) 17 ((1000 * ((zh Z 1) + 1)) + ((((7 * amount.toInt64) + (13 * ((zh Z 0).toInt64))) - ((7 * amount.toInt64) + (13 * ((zh Z 0).toInt64))) / 1000 * 1000).toInt32))) (tN ((zh Z 1) + 1)) 18 (-1)) (tN ((zh Z 1) + 1)) 19 (sh Z (tN place) 0)) (tN ((zh Z 1) + 1)) 20 (-1)) (tN place) 1 ((zh Z 1) + 1)) 2 ((1000 * ((zh Z 1) + 1)) + ((((7 * amount.toInt64) + (13 * ((zh Z 0).toInt64))) - ((7 * amount.toInt64) + (13 * ((zh Z 0).toInt64))) / 1000 * 1000).toInt32))) 0 ((zc Z 0) + amount.toInt64)) ((zh Z 1) + 1)) ((zh Z 1) + 1)) := by unfold sp_lend; rw [if_neg c_1, if_neg c_2, if_pos c_3, if_neg c_4, if_neg c_5, if_neg c_6, if_pos c_7, if_neg c_8]
                  exact W.iret hx hb hr (fun t2 ht2 hW => by rw [hsp]; exact ⟨rfl, by rw [ht2]; exact hP, hS.F ht2⟩) hS.2.2 dX13_lend_325 hlocks
                · refine lv_aload_n hx hb dX13_lend_109 rfl (lv_at hl 1 rfl) ?_
                  refine lv_bipush (v := (-7)) hx hb dX13_lend_110 (by decide) ?_
                  refine m_wr S hK hP hS (As := [.int (-7)]) (rest := []) (cM_says l D cI cJ ad Z _ hi (-7)) (cwV 1 hts gX13_lend_X13_says rfl rfl rfl (by decide +kernel) ⟨Nat.le_of_ble_eq_true rfl, Nat.le_of_ble_eq_true rfl⟩) rfl hl.1 rfl (Nat.le_of_ble_eq_true rfl) dX13_lend_112 ⟨Nat.zero_le _, Nat.zero_le _⟩ (fun H locs hP hS => ?_)
                  have hsp : sp_lend Z place amount months = ((-7), zR Z (-7)) := by unfold sp_lend; rw [if_neg c_1, if_neg c_2, if_pos c_3, if_neg c_4, if_neg c_5, if_neg c_6, if_pos c_7, if_pos c_8]
                  exact W.iret hx hb hr (fun t2 ht2 hW => by rw [hsp]; exact ⟨rfl, by rw [ht2]; exact hP, hS.F ht2⟩) hS.2.2 dX13_lend_115 hlocks
              · have c_7 : ¬ amount.toInt64 ≤ (((sp_worth Z place) * ((zh Z (3 + (9 + tN (sh Z (tN place) 0)))).toInt64)) / 1000) := fun h => c_7 ((lg_cmp_le _ _).mpr h)
                refine lv_aload_n hx hb dX13_lend_87 rfl (lv_at hl 1 rfl) ?_
                refine lv_bipush (v := (-6)) hx hb dX13_lend_88 (by decide) ?_
                refine m_wr S hK hP hS (As := [.int (-6)]) (rest := []) (cM_says l D cI cJ ad Z _ hi (-6)) (cwV 1 hts gX13_lend_X13_says rfl rfl rfl (by decide +kernel) ⟨Nat.le_of_ble_eq_true rfl, Nat.le_of_ble_eq_true rfl⟩) rfl hl.1 rfl (Nat.le_of_ble_eq_true rfl) dX13_lend_90 ⟨Nat.zero_le _, Nat.zero_le _⟩ (fun H locs hP hS => ?_)
                have hsp : sp_lend Z place amount months = ((-6), zR Z (-6)) := by unfold sp_lend; rw [if_neg c_1, if_neg c_2, if_pos c_3, if_neg c_4, if_neg c_5, if_neg c_6, if_neg c_7]
                exact W.iret hx hb hr (fun t2 ht2 hW => by rw [hsp]; exact ⟨rfl, by rw [ht2]; exact hP, hS.F ht2⟩) hS.2.2 dX13_lend_93 hlocks
      · refine lv_aload_n hx hb dX13_lend_30 rfl (lv_at hl 0 rfl) ?_
        refine lv_bipush (v := (-2)) hx hb dX13_lend_31 (by decide) ?_
        refine m_wr S hK hP hS (As := [.int (-2)]) (rest := []) (cM_says l D cI cJ ad Z _ hi (-2)) (cwV 1 hts gX13_lend_X13_says rfl rfl rfl (by decide +kernel) ⟨Nat.le_of_ble_eq_true rfl, Nat.le_of_ble_eq_true rfl⟩) rfl hl.1 rfl (Nat.le_of_ble_eq_true rfl) dX13_lend_33 ⟨Nat.zero_le _, Nat.zero_le _⟩ (fun H locs hP hS => ?_)
        have hsp : sp_lend Z place amount months = ((-2), zR Z (-2)) := by unfold sp_lend; rw [if_neg c_1, if_neg c_2, if_neg c_3]
        exact W.iret hx hb hr (fun t2 ht2 hW => by rw [hsp]; exact ⟨rfl, by rw [ht2]; exact hP, hS.F ht2⟩) hS.2.2 dX13_lend_36 hlocks
  · refine lv_aload_n hx hb dX13_lend_7 rfl (lv_at hl 0 rfl) ?_
    refine lv_iconst (v := (-1)) hx hb dX13_lend_8 (by decide) ?_
    refine m_wr S hK hP hS (As := [.int (-1)]) (rest := []) (cM_says l D cI cJ ad Z _ hi (-1)) (cwV 1 hts gX13_lend_X13_says rfl rfl rfl (by decide +kernel) ⟨Nat.le_of_ble_eq_true rfl, Nat.le_of_ble_eq_true rfl⟩) rfl hl.1 rfl (Nat.le_of_ble_eq_true rfl) dX13_lend_9 ⟨Nat.zero_le _, Nat.zero_le _⟩ (fun H locs hP hS => ?_)
    have hsp : sp_lend Z place amount months = ((-1), zR Z (-1)) := by unfold sp_lend; rw [if_pos c_1]
    exact W.iret hx hb hr (fun t2 ht2 hW => by rw [hsp]; exact ⟨rfl, by rw [ht2]; exact hP, hS.F ht2⟩) hS.2.2 dX13_lend_12 hlocks
def sp_as (Z : mZ) (day : Int32) (what : Int32) : Int64 :=
  if what < 0 then
    (-1)
  else
    if 13 ≤ what then
      (-1)
    else
      if day < 0 then
        (-1)
      else
        if day ≤ (zh Z 0) then
          if day = (zh Z 0) then
            sp_summed Z what
          else
            ze Z (13 * tN day + tN what)
        else
          (-1)
set_option maxHeartbeats 4000000 in
set_option maxRecDepth 100000 in
theorem cM_as (l : Launch) (D : va_G) (cI cJ : ClassId) (ad : Nat → Nat) (Z : mZ) (sz : Nat) (hi : mI ad) (day : Int32) (what : Int32) (hC : cok Z) (hd : dok Z) : Met l yX13_as wsX13_as ({ frames := 3, cells := 0, slots := 0, locals := 71 }) (mPc [.ref (ad 0), .int day, .int what] D cI cJ ad Z sz) (mQ D cI cJ ad (some (.long (sp_as Z day what))) Z sz) 0 0 (mA ad sz) := by
  refine m_in (cc := cX13_as) (maxL := 3) (ret := (some .long)) (lv := [(0, .ref (ad 0)), (1, .int day), (2, .int what)]) (by decide) rfl (Nat.le_of_ble_eq_true rfl) rfl ?_
  intro p e s m below meth c ls S hr hlocks hin hsz hP hK hl hS
  subst hsz
  obtain ⟨hx, hb, hml, hown, hts⟩ := id S
  have hX13 : ∀ w ∈ wsX130, w ∈ wsX13_as := by decide +kernel
  refine lv_aload_n hx hb dX13_as_0 rfl (lv_at hl 0 rfl) ?_
  refine lv_iconst (v := 0) hx hb dX13_as_1 (by decide) ?_
  refine va_put (D := D) (ci := 11) (v := .int 0) (ty := .int) (C := RX13) (T := TX13) (N := 6) hx hb hts hX13 tyX13 tyX13_ok nmX13 hown hK.1 hP (wM_D hi s.heap.size _) hS 0 rfl rfl 4 (by decide) (hts (.fieldLink RX13 34 "PledgeHouseModel" "thrown" "I") (by decide +kernel)) (fun _ h9 => h9) rfl (by decide +kernel) rfl rfl (Nat.le_of_ble_eq_true rfl) dX13_as_2 (fun H locs hP _ hS => ?_)
  have hP : va_P D vwCl (wM ad cI cJ Z) H := hP
  refine lv_iload_n hx hb dX13_as_5 rfl (lv_at hl 2 rfl) ?_
  refine lv_if_lt (tgt := 27) hx hb dX13_as_6 (by decide) (fun c_1 => ?_) (fun c_1 => ?_)
  · refine lv_ldc2 (v := (-1)) hx hb hown (hts (.constantLong RX13 195 (-1)) (by decide +kernel)) dX13_as_27 ?_
    have hsp : sp_as Z day what = (-1) := by unfold sp_as; rw [if_pos c_1]
    exact W.lret hx hb hr (fun t2 ht2 hW => by rw [hsp]; exact ⟨rfl, by rw [ht2]; exact hP, hS.F ht2⟩) hS.2.2 dX13_as_30 hlocks
  · refine lv_iload_n hx hb dX13_as_9 rfl (lv_at hl 2 rfl) ?_
    refine lv_bipush (v := 13) hx hb dX13_as_10 (by decide) ?_
    refine lv_icmp_ge (tgt := 27) hx hb dX13_as_12 (by decide) (fun c_2 => ?_) (fun c_2 => ?_)
    · refine lv_ldc2 (v := (-1)) hx hb hown (hts (.constantLong RX13 195 (-1)) (by decide +kernel)) dX13_as_27 ?_
      have hsp : sp_as Z day what = (-1) := by unfold sp_as; rw [if_neg c_1, if_pos c_2]
      exact W.lret hx hb hr (fun t2 ht2 hW => by rw [hsp]; exact ⟨rfl, by rw [ht2]; exact hP, hS.F ht2⟩) hS.2.2 dX13_as_30 hlocks
    · refine lv_iload_n hx hb dX13_as_15 rfl (lv_at hl 1 rfl) ?_
      refine lv_if_lt (tgt := 27) hx hb dX13_as_16 (by decide) (fun c_3 => ?_) (fun c_3 => ?_)
      · refine lv_ldc2 (v := (-1)) hx hb hown (hts (.constantLong RX13 195 (-1)) (by decide +kernel)) dX13_as_27 ?_
        have hsp : sp_as Z day what = (-1) := by unfold sp_as; rw [if_neg c_1, if_neg c_2, if_pos c_3]
        exact W.lret hx hb hr (fun t2 ht2 hW => by rw [hsp]; exact ⟨rfl, by rw [ht2]; exact hP, hS.F ht2⟩) hS.2.2 dX13_as_30 hlocks
      · refine lv_iload_n hx hb dX13_as_19 rfl (lv_at hl 1 rfl) ?_
        refine lv_aload_n hx hb dX13_as_20 rfl (lv_at hl 0 rfl) ?_
        refine m_rd S hK hP (As := []) (rest := [.int day]) (cM_today l D cI cJ ad Z _) (cwV 0 hts gX13_as_X13_today rfl rfl rfl (by decide +kernel) ⟨Nat.le_of_ble_eq_true rfl, Nat.le_of_ble_eq_true rfl⟩) rfl hl.1 rfl (Nat.le_of_ble_eq_true rfl) dX13_as_21 ⟨Nat.zero_le _, Nat.zero_le _⟩ ?_
        refine lv_icmp_le (tgt := 31) hx hb dX13_as_24 (by decide) (fun c_4 => ?_) (fun c_4 => ?_)
        · refine lv_iload_n hx hb dX13_as_31 rfl (lv_at hl 1 rfl) ?_
          refine lv_aload_n hx hb dX13_as_32 rfl (lv_at hl 0 rfl) ?_
          refine m_rd S hK hP (As := []) (rest := [.int day]) (cM_today l D cI cJ ad Z _) (cwV 0 hts gX13_as_X13_today rfl rfl rfl (by decide +kernel) ⟨Nat.le_of_ble_eq_true rfl, Nat.le_of_ble_eq_true rfl⟩) rfl hl.1 rfl (Nat.le_of_ble_eq_true rfl) dX13_as_33 ⟨Nat.zero_le _, Nat.zero_le _⟩ ?_
          refine lv_icmp_ne (tgt := 47) hx hb dX13_as_36 (by decide) (fun c_5 => ?_) (fun c_5 => ?_)
          · refine lv_aload_n hx hb dX13_as_47 rfl (lv_at hl 0 rfl) ?_
            refine va_get (D := D) (ci := 11) (v := .ref (ad 11)) (C := RX13) (T := TX13) (N := 6) hx hb hts hX13 hown hK.1 hP 0 rfl rfl 2 (by decide) (hts (.fieldLink RX13 20 "PledgeHouseModel" "ended" "[J") (by decide +kernel)) (fun _ h9 => h9) rfl dX13_as_48 ?_
            refine lv_bipush (v := 13) hx hb dX13_as_51 (by decide) ?_
            refine lv_iload_n hx hb dX13_as_53 rfl (lv_at hl 1 rfl) ?_
            refine lv_imul hx hb dX13_as_54 ?_
            refine lv_iload_n hx hb dX13_as_55 rfl (lv_at hl 2 rfl) ?_
            refine lv_iadd hx hb dX13_as_56 ?_
            refine mx_eld hx hb hK.1 hP (13 * tN day + tN what) (as_ix hd c_1 (Int32.not_le.mp c_2) c_3 c_4).1 (as_ix hd c_1 (Int32.not_le.mp c_2) c_3 c_4).2 (v := ze Z (13 * tN day + tN what)) rfl dX13_as_57 ?_
            have hsp : sp_as Z day what = ze Z (13 * tN day + tN what) := by unfold sp_as; rw [if_neg c_1, if_neg c_2, if_neg c_3, if_pos c_4, if_neg c_5]
            exact W.lret hx hb hr (fun t2 ht2 hW => by rw [hsp]; exact ⟨rfl, by rw [ht2]; exact hP, hS.F ht2⟩) hS.2.2 dX13_as_58 hlocks
          · refine lv_aload_n hx hb dX13_as_39 rfl (lv_at hl 0 rfl) ?_
            refine lv_iload_n hx hb dX13_as_40 rfl (lv_at hl 2 rfl) ?_
            refine m_rd S hK hP (As := [.int what]) (rest := []) (cM_summed l D cI cJ ad Z _ what hC) (cwV 1 hts gX13_as_X13_summed rfl rfl rfl (by decide +kernel) ⟨Nat.le_of_ble_eq_true rfl, Nat.le_of_ble_eq_true rfl⟩) rfl hl.1 rfl (Nat.le_of_ble_eq_true rfl) dX13_as_41 ⟨Nat.zero_le _, Nat.zero_le _⟩ ?_
            refine lv_goto (tgt := 58) hx hb dX13_as_44 (by decide) ?_
            have hsp : sp_as Z day what = sp_summed Z what := by unfold sp_as; rw [if_neg c_1, if_neg c_2, if_neg c_3, if_pos c_4, if_pos c_5]
            exact W.lret hx hb hr (fun t2 ht2 hW => by rw [hsp]; exact ⟨rfl, by rw [ht2]; exact hP, hS.F ht2⟩) hS.2.2 dX13_as_58 hlocks
        · refine lv_ldc2 (v := (-1)) hx hb hown (hts (.constantLong RX13 195 (-1)) (by decide +kernel)) dX13_as_27 ?_
          have hsp : sp_as Z day what = (-1) := by unfold sp_as; rw [if_neg c_1, if_neg c_2, if_neg c_3, if_neg c_4]
          exact W.lret hx hb hr (fun t2 ht2 hW => by rw [hsp]; exact ⟨rfl, by rw [ht2]; exact hP, hS.F ht2⟩) hS.2.2 dX13_as_30 hlocks
