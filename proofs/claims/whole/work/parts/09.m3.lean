/-! the reference's methods: part 3: overs, summed, begins (by gen_model.py) -/
def ov (Z : mZ) (house : Int32) : Nat → Int64
  | 0 => 0
  | i + 1 =>
    if (zh Z 0) ≤ (tk Z (tN (nI (i + 1))) 14) then
      if (tk Z (tN (nI (i + 1))) 13) = 0 then
        if 0 = house then
          (ov Z house i) + ((tk Z (tN (nI (i + 1))) 12).toInt64)
        else
          ov Z house i
      else
        ov Z house i
    else
      if (tk Z (tN (nI (i + 1))) 13) = 0 then
        if 1 = house then
          (ov Z house i) + ((tk Z (tN (nI (i + 1))) 12).toInt64)
        else
          ov Z house i
      else
        ov Z house i
def sp_overs (Z : mZ) (house : Int32) : Int64 :=
  ov Z house (tN (zh Z 1))
set_option maxHeartbeats 4000000 in
set_option maxRecDepth 100000 in
theorem cM_overs (l : Launch) (D : va_G) (cI cJ : ClassId) (ad : Nat → Nat) (Z : mZ) (sz : Nat) (house : Int32) (hC : cok Z) : Met l yX13_overs wsX13_overs ({ frames := 1, cells := 0, slots := 0, locals := 22 }) (mPc [.ref (ad 0), .int house] D cI cJ ad Z sz) (k2_QcV (.long (sp_overs Z house))) 0 0 (fun _ => False) := by
  refine m_in (cc := cX13_overs) (maxL := 6) (ret := (some .long)) (lv := [(0, .ref (ad 0)), (1, .int house)]) (by decide) rfl (Nat.le_of_ble_eq_true rfl) rfl ?_
  intro p e s m below meth c ls S hr hlocks hin hsz hP hK hl hS
  subst hsz
  obtain ⟨hx, hb, hml, hown, hts⟩ := id S
  have hX12 : ∀ w ∈ wsX120, w ∈ wsX13_overs := by decide +kernel
  have hX13 : ∀ w ∈ wsX130, w ∈ wsX13_overs := by decide +kernel
  obtain ⟨cn, hcn, hc⟩ := id hC
  have loop : ∀ (n i : Nat) (ls : Array Slot), i + n = cn → lv_has ls 6 [(4, .int (nI (i + 1))), (2, .long (ov Z house i)), (0, .ref (ad 0)), (1, .int house)] → W p l e ({ frames := 1, cells := 0, slots := 0, locals := 22 }) s m [.ref (ad 0), .int house].toArray below meth c s.heap [] 0 0 (MQ below (k2_QcV (.long (sp_overs Z house))) [.ref (ad 0), .int house].toArray s 0 0 (fun _ => False)) (F0 m 5 ls []) := by
    intro n
    induction n with
    | zero =>
      intro i ls hn hl
      obtain rfl : cn = i := by omega
      refine lv_iload hx hb dX13_overs_5 (lv_at hl 0 rfl) ?_
      refine lv_aload_n hx hb dX13_overs_7 rfl (lv_at hl 2 rfl) ?_
      refine va_get (D := D) (ci := 11) (v := .ref (ad 1)) (C := RX13) (T := TX13) (N := 6) hx hb hts hX13 hown hK.1 hP 0 rfl rfl 0 (by decide) (hts (.fieldLink RX13 10 "PledgeHouseModel" "now" "LPledgeHouseModel$State;") (by decide +kernel)) (fun _ h9 => h9) rfl dX13_overs_8 ?_
      refine va_getN (D := D) (ci := 10) (v := .ref (ad 3)) (C := RX12) (T := TX12) (N := 4) hx hb hts hX12 hown hK.1 hP 1 rfl rfl 0 (by decide) (va_Nw.use rfl hK.2.1) (fun _ h9 => h9) rfl dX13_overs_11 ?_
      refine lv_iconst (v := 1) hx hb dX13_overs_14 (by decide) ?_
      refine mx_hld hx hb hK.1 hP 1 rfl (by decide) (v := zh Z 1) rfl dX13_overs_15 ?_
      refine lv_icmp_gt (tgt := 76) hx hb dX13_overs_16 (by decide) (fun c_1 => ?_) (fun c_1 => ?_)
      · refine lv_lload_n hx hb dX13_overs_76 rfl (lv_at hl 1 rfl) ?_
        have hsp : sp_overs Z house = ov Z house cn := by unfold sp_overs; rw [hc, tN_n (by omega)]
        exact W.lret hx hb hr (fun t2 ht2 hW => ⟨by rw [hsp], ht2⟩) (fun q hq => by cases hq) dX13_overs_77 hlocks
      · exact absurd (show zh Z 1 < nI (cn + 1) by rw [hc]; exact (nI_ltI (by omega) (by omega)).mpr (by omega)) c_1
    | succ n ih =>
      intro i ls hn hl
      refine lv_iload hx hb dX13_overs_5 (lv_at hl 0 rfl) ?_
      refine lv_aload_n hx hb dX13_overs_7 rfl (lv_at hl 2 rfl) ?_
      refine va_get (D := D) (ci := 11) (v := .ref (ad 1)) (C := RX13) (T := TX13) (N := 6) hx hb hts hX13 hown hK.1 hP 0 rfl rfl 0 (by decide) (hts (.fieldLink RX13 10 "PledgeHouseModel" "now" "LPledgeHouseModel$State;") (by decide +kernel)) (fun _ h9 => h9) rfl dX13_overs_8 ?_
      refine va_getN (D := D) (ci := 10) (v := .ref (ad 3)) (C := RX12) (T := TX12) (N := 4) hx hb hts hX12 hown hK.1 hP 1 rfl rfl 0 (by decide) (va_Nw.use rfl hK.2.1) (fun _ h9 => h9) rfl dX13_overs_11 ?_
      refine lv_iconst (v := 1) hx hb dX13_overs_14 (by decide) ?_
      refine mx_hld hx hb hK.1 hP 1 rfl (by decide) (v := zh Z 1) rfl dX13_overs_15 ?_
      refine lv_icmp_gt (tgt := 76) hx hb dX13_overs_16 (by decide) (fun c_2 => ?_) (fun c_2 => ?_)
      · exact absurd ((nI_ltI (a := cn) (b := i + 1) (by omega) (by omega)).mp (by rw [← hc]; exact c_2)) (by omega)
      · refine lv_aload_n hx hb dX13_overs_19 rfl (lv_at hl 2 rfl) ?_
        refine m_rd S hK hP (As := []) (rest := []) (cM_today l D cI cJ ad Z _) (cwV 0 hts gX13_overs_X13_today rfl rfl rfl (by decide +kernel) ⟨Nat.le_of_ble_eq_true rfl, Nat.le_of_ble_eq_true rfl⟩) rfl hl.1 rfl (Nat.le_of_ble_eq_true rfl) dX13_overs_20 ⟨Nat.zero_le _, Nat.zero_le _⟩ ?_
        refine lv_aload_n hx hb dX13_overs_23 rfl (lv_at hl 2 rfl) ?_
        refine lv_iload hx hb dX13_overs_24 (lv_at hl 0 rfl) ?_
        refine lv_bipush (v := 14) hx hb dX13_overs_26 (by decide) ?_
        refine m_rd S hK hP (As := [.int (nI (i + 1)), .int 14]) (rest := [.int (zh Z 0)]) (cM_of l D cI cJ ad Z _ (nI (i + 1)) 14 ⟨i + 1, by omega, rfl⟩ 14 rfl (by decide)) (cwV 2 hts gX13_overs_X13_of rfl rfl rfl (by decide +kernel) ⟨Nat.le_of_ble_eq_true rfl, Nat.le_of_ble_eq_true rfl⟩) rfl hl.1 rfl (Nat.le_of_ble_eq_true rfl) dX13_overs_28 ⟨Nat.zero_le _, Nat.zero_le _⟩ ?_
        refine lv_icmp_le (tgt := 38) hx hb dX13_overs_31 (by decide) (fun c_3 => ?_) (fun c_3 => ?_)
        · refine lv_iconst (v := 0) hx hb dX13_overs_38 (by decide) ?_
          refine lv_istore (lv' := [(5, .int 0), (4, .int (nI (i + 1))), (2, .long (ov Z house i)), (0, .ref (ad 0)), (1, .int house)]) hx hb dX13_overs_39 hl (by decide) rfl (fun ls hl => ?_)
          refine lv_aload_n hx hb dX13_overs_41 rfl (lv_at hl 3 rfl) ?_
          refine lv_iload hx hb dX13_overs_42 (lv_at hl 1 rfl) ?_
          refine lv_bipush (v := 13) hx hb dX13_overs_44 (by decide) ?_
          refine m_rd S hK hP (As := [.int (nI (i + 1)), .int 13]) (rest := []) (cM_of l D cI cJ ad Z _ (nI (i + 1)) 13 ⟨i + 1, by omega, rfl⟩ 13 rfl (by decide)) (cwV 2 hts gX13_overs_X13_of rfl rfl rfl (by decide +kernel) ⟨Nat.le_of_ble_eq_true rfl, Nat.le_of_ble_eq_true rfl⟩) rfl hl.1 rfl (Nat.le_of_ble_eq_true rfl) dX13_overs_46 ⟨Nat.zero_le _, Nat.zero_le _⟩ ?_
          refine lv_if_ne (tgt := 70) hx hb dX13_overs_49 (by decide) (fun c_4 => ?_) (fun c_4 => ?_)
          · refine lv_iinc (v := (nI (i + 1)) + 1) (lv' := [(4, .int ((nI (i + 1)) + 1)), (5, .int 0), (2, .long (ov Z house i)), (0, .ref (ad 0)), (1, .int house)]) hx hb dX13_overs_70 hl (k := 1) rfl rfl (by decide) rfl (fun ls hl => ?_)
            refine lv_goto (tgt := 5) hx hb dX13_overs_73 (by decide) ?_
            rw [nI_1] at hl
            have e2 : ov Z house (i + 1) = ov Z house i := by rw [ov, if_pos c_3, if_neg c_4]
            exact ih (i + 1) ls (by omega) (by rw [e2]; exact lv_sub hl [0, 2, 3, 4] rfl)
          · refine lv_iload hx hb dX13_overs_52 (lv_at hl 0 rfl) ?_
            refine lv_iload_n hx hb dX13_overs_54 rfl (lv_at hl 4 rfl) ?_
            refine lv_icmp_ne (tgt := 70) hx hb dX13_overs_55 (by decide) (fun c_5 => ?_) (fun c_5 => ?_)
            · refine lv_iinc (v := (nI (i + 1)) + 1) (lv' := [(4, .int ((nI (i + 1)) + 1)), (5, .int 0), (2, .long (ov Z house i)), (0, .ref (ad 0)), (1, .int house)]) hx hb dX13_overs_70 hl (k := 1) rfl rfl (by decide) rfl (fun ls hl => ?_)
              refine lv_goto (tgt := 5) hx hb dX13_overs_73 (by decide) ?_
              rw [nI_1] at hl
              have e2 : ov Z house (i + 1) = ov Z house i := by rw [ov, if_pos c_3, if_pos c_4, if_neg c_5]
              exact ih (i + 1) ls (by omega) (by rw [e2]; exact lv_sub hl [0, 2, 3, 4] rfl)
            · refine lv_lload_n hx hb dX13_overs_58 rfl (lv_at hl 2 rfl) ?_
              refine lv_aload_n hx hb dX13_overs_59 rfl (lv_at hl 3 rfl) ?_
              refine lv_iload hx hb dX13_overs_60 (lv_at hl 1 rfl) ?_
              refine lv_bipush (v := 12) hx hb dX13_overs_62 (by decide) ?_
              refine m_rd S hK hP (As := [.int (nI (i + 1)), .int 12]) (rest := [.long (ov Z house i)]) (cM_of l D cI cJ ad Z _ (nI (i + 1)) 12 ⟨i + 1, by omega, rfl⟩ 12 rfl (by decide)) (cwV 2 hts gX13_overs_X13_of rfl rfl rfl (by decide +kernel) ⟨Nat.le_of_ble_eq_true rfl, Nat.le_of_ble_eq_true rfl⟩) rfl hl.1 rfl (Nat.le_of_ble_eq_true rfl) dX13_overs_64 ⟨Nat.zero_le _, Nat.zero_le _⟩ ?_
              refine lv_i2l (v := (tk Z (tN (nI (i + 1))) 12).toInt64) hx hb dX13_overs_67 rfl ?_
              refine lv_ladd hx hb dX13_overs_68 ?_
              refine lv_lstore_n (lv' := [(2, .long ((ov Z house i) + ((tk Z (tN (nI (i + 1))) 12).toInt64))), (5, .int 0), (4, .int (nI (i + 1))), (0, .ref (ad 0)), (1, .int house)]) hx hb dX13_overs_69 rfl hl (by decide) rfl (fun ls hl => ?_)
              refine lv_iinc (v := (nI (i + 1)) + 1) (lv' := [(4, .int ((nI (i + 1)) + 1)), (2, .long ((ov Z house i) + ((tk Z (tN (nI (i + 1))) 12).toInt64))), (5, .int 0), (0, .ref (ad 0)), (1, .int house)]) hx hb dX13_overs_70 hl (k := 2) rfl rfl (by decide) rfl (fun ls hl => ?_)
              refine lv_goto (tgt := 5) hx hb dX13_overs_73 (by decide) ?_
              rw [nI_1] at hl
              have e2 : ov Z house (i + 1) = (ov Z house i) + ((tk Z (tN (nI (i + 1))) 12).toInt64) := by rw [ov, if_pos c_3, if_pos c_4, if_pos c_5]
              exact ih (i + 1) ls (by omega) (by rw [e2]; exact lv_sub hl [0, 1, 3, 4] rfl)
        · refine lv_iconst (v := 1) hx hb dX13_overs_34 (by decide) ?_
          refine lv_goto (tgt := 39) hx hb dX13_overs_35 (by decide) ?_
          refine lv_istore (lv' := [(5, .int 1), (4, .int (nI (i + 1))), (2, .long (ov Z house i)), (0, .ref (ad 0)), (1, .int house)]) hx hb dX13_overs_39 hl (by decide) rfl (fun ls hl => ?_)
          refine lv_aload_n hx hb dX13_overs_41 rfl (lv_at hl 3 rfl) ?_
          refine lv_iload hx hb dX13_overs_42 (lv_at hl 1 rfl) ?_
          refine lv_bipush (v := 13) hx hb dX13_overs_44 (by decide) ?_
          refine m_rd S hK hP (As := [.int (nI (i + 1)), .int 13]) (rest := []) (cM_of l D cI cJ ad Z _ (nI (i + 1)) 13 ⟨i + 1, by omega, rfl⟩ 13 rfl (by decide)) (cwV 2 hts gX13_overs_X13_of rfl rfl rfl (by decide +kernel) ⟨Nat.le_of_ble_eq_true rfl, Nat.le_of_ble_eq_true rfl⟩) rfl hl.1 rfl (Nat.le_of_ble_eq_true rfl) dX13_overs_46 ⟨Nat.zero_le _, Nat.zero_le _⟩ ?_
          refine lv_if_ne (tgt := 70) hx hb dX13_overs_49 (by decide) (fun c_6 => ?_) (fun c_6 => ?_)
          · refine lv_iinc (v := (nI (i + 1)) + 1) (lv' := [(4, .int ((nI (i + 1)) + 1)), (5, .int 1), (2, .long (ov Z house i)), (0, .ref (ad 0)), (1, .int house)]) hx hb dX13_overs_70 hl (k := 1) rfl rfl (by decide) rfl (fun ls hl => ?_)
            refine lv_goto (tgt := 5) hx hb dX13_overs_73 (by decide) ?_
            rw [nI_1] at hl
            have e2 : ov Z house (i + 1) = ov Z house i := by rw [ov, if_neg c_3, if_neg c_6]
            exact ih (i + 1) ls (by omega) (by rw [e2]; exact lv_sub hl [0, 2, 3, 4] rfl)
          · refine lv_iload hx hb dX13_overs_52 (lv_at hl 0 rfl) ?_
            refine lv_iload_n hx hb dX13_overs_54 rfl (lv_at hl 4 rfl) ?_
            refine lv_icmp_ne (tgt := 70) hx hb dX13_overs_55 (by decide) (fun c_7 => ?_) (fun c_7 => ?_)
            · refine lv_iinc (v := (nI (i + 1)) + 1) (lv' := [(4, .int ((nI (i + 1)) + 1)), (5, .int 1), (2, .long (ov Z house i)), (0, .ref (ad 0)), (1, .int house)]) hx hb dX13_overs_70 hl (k := 1) rfl rfl (by decide) rfl (fun ls hl => ?_)
              refine lv_goto (tgt := 5) hx hb dX13_overs_73 (by decide) ?_
              rw [nI_1] at hl
              have e2 : ov Z house (i + 1) = ov Z house i := by rw [ov, if_neg c_3, if_pos c_6, if_neg c_7]
              exact ih (i + 1) ls (by omega) (by rw [e2]; exact lv_sub hl [0, 2, 3, 4] rfl)
            · refine lv_lload_n hx hb dX13_overs_58 rfl (lv_at hl 2 rfl) ?_
              refine lv_aload_n hx hb dX13_overs_59 rfl (lv_at hl 3 rfl) ?_
              refine lv_iload hx hb dX13_overs_60 (lv_at hl 1 rfl) ?_
              refine lv_bipush (v := 12) hx hb dX13_overs_62 (by decide) ?_
              refine m_rd S hK hP (As := [.int (nI (i + 1)), .int 12]) (rest := [.long (ov Z house i)]) (cM_of l D cI cJ ad Z _ (nI (i + 1)) 12 ⟨i + 1, by omega, rfl⟩ 12 rfl (by decide)) (cwV 2 hts gX13_overs_X13_of rfl rfl rfl (by decide +kernel) ⟨Nat.le_of_ble_eq_true rfl, Nat.le_of_ble_eq_true rfl⟩) rfl hl.1 rfl (Nat.le_of_ble_eq_true rfl) dX13_overs_64 ⟨Nat.zero_le _, Nat.zero_le _⟩ ?_
              refine lv_i2l (v := (tk Z (tN (nI (i + 1))) 12).toInt64) hx hb dX13_overs_67 rfl ?_
              refine lv_ladd hx hb dX13_overs_68 ?_
              refine lv_lstore_n (lv' := [(2, .long ((ov Z house i) + ((tk Z (tN (nI (i + 1))) 12).toInt64))), (5, .int 1), (4, .int (nI (i + 1))), (0, .ref (ad 0)), (1, .int house)]) hx hb dX13_overs_69 rfl hl (by decide) rfl (fun ls hl => ?_)
              refine lv_iinc (v := (nI (i + 1)) + 1) (lv' := [(4, .int ((nI (i + 1)) + 1)), (2, .long ((ov Z house i) + ((tk Z (tN (nI (i + 1))) 12).toInt64))), (5, .int 1), (0, .ref (ad 0)), (1, .int house)]) hx hb dX13_overs_70 hl (k := 2) rfl rfl (by decide) rfl (fun ls hl => ?_)
              refine lv_goto (tgt := 5) hx hb dX13_overs_73 (by decide) ?_
              rw [nI_1] at hl
              have e2 : ov Z house (i + 1) = (ov Z house i) + ((tk Z (tN (nI (i + 1))) 12).toInt64) := by rw [ov, if_neg c_3, if_pos c_6, if_pos c_7]
              exact ih (i + 1) ls (by omega) (by rw [e2]; exact lv_sub hl [0, 1, 3, 4] rfl)
  refine lv_lconst (v := 0) hx hb dX13_overs_0 (by decide) ?_
  refine lv_lstore_n (lv' := [(2, .long 0), (0, .ref (ad 0)), (1, .int house)]) hx hb dX13_overs_1 rfl hl (by decide) rfl (fun ls hl => ?_)
  refine lv_iconst (v := 1) hx hb dX13_overs_2 (by decide) ?_
  refine lv_istore (lv' := [(4, .int 1), (2, .long 0), (0, .ref (ad 0)), (1, .int house)]) hx hb dX13_overs_3 hl (by decide) rfl (fun ls hl => ?_)
  exact loop cn 0 ls (by omega) (lv_sub hl [0, 1, 2, 3] rfl)
def sm (Z : mZ) (what : Int32) : Nat → Int64
  | 0 => 0
  | i + 1 =>
    if (sp_isOpen Z (nI (i + 1))) = 0 then
      sm Z what i
    else
      if what = 8 then
        (sm Z what i) + ((tk Z (tN (nI (i + 1))) 1).toInt64)
      else
        if what = 9 then
          (sm Z what i) + ((tk Z (tN (nI (i + 1))) 2).toInt64)
        else
          (sm Z what i) + 1
def pg (Z : mZ) : Nat → Int64
  | 0 => 0
  | i + 1 =>
    if (sp_isPledge Z (nI i)) = 0 then
      (pg Z i) + 0
    else
      (pg Z i) + 1
def sp_summed (Z : mZ) (what : Int32) : Int64 :=
  if what = 0 then
    zc Z 0
  else
    if what = 1 then
      zc Z 1
    else
      if what = 2 then
        zc Z 2
      else
        if what = 3 then
          zc Z 3
        else
          if what = 4 then
            sp_overs Z 0
          else
            if what = 5 then
              zc Z 4
            else
              if what = 6 then
                sp_overs Z 1
              else
                if what = 7 then
                  zc Z 5
                else
                  if what = 8 then
                    sm Z what (tN (zh Z 1))
                  else
                    if what = 9 then
                      sm Z what (tN (zh Z 1))
                    else
                      if what = 10 then
                        sm Z what (tN (zh Z 1))
                      else
                        if what = 11 then
                          pg Z 40
                        else
                          (zh Z 1).toInt64
set_option maxHeartbeats 4000000 in
set_option maxRecDepth 100000 in
theorem cM_summed (l : Launch) (D : va_G) (cI cJ : ClassId) (ad : Nat → Nat) (Z : mZ) (sz : Nat) (what : Int32) (hC : cok Z) : Met l yX13_summed wsX13_summed ({ frames := 2, cells := 0, slots := 0, locals := 47 }) (mPc [.ref (ad 0), .int what] D cI cJ ad Z sz) (k2_QcV (.long (sp_summed Z what))) 0 0 (fun _ => False) := by
  refine m_in (cc := cX13_summed) (maxL := 5) (ret := (some .long)) (lv := [(0, .ref (ad 0)), (1, .int what)]) (by decide) rfl (Nat.le_of_ble_eq_true rfl) rfl ?_
  intro p e s m below meth c ls S hr hlocks hin hsz hP hK hl hS
  subst hsz
  obtain ⟨hx, hb, hml, hown, hts⟩ := id S
  have hX12 : ∀ w ∈ wsX120, w ∈ wsX13_summed := by decide +kernel
  have hX13 : ∀ w ∈ wsX130, w ∈ wsX13_summed := by decide +kernel
  obtain ⟨cn, hcn, hc⟩ := id hC
  have loop1 : ∀ (n i : Nat) (ls : Array Slot), i + n = cn → sp_summed Z what = sm Z what cn → lv_has ls 5 [(4, .int (nI (i + 1))), (2, .long (sm Z what i)), (0, .ref (ad 0)), (1, .int what)] → W p l e ({ frames := 2, cells := 0, slots := 0, locals := 47 }) s m [.ref (ad 0), .int what].toArray below meth c s.heap [] 0 0 (MQ below (k2_QcV (.long (sp_summed Z what))) [.ref (ad 0), .int what].toArray s 0 0 (fun _ => False)) (F0 m 139 ls []) := by
    intro n
    induction n with
    | zero =>
      intro i ls hn hy hl
      obtain rfl : cn = i := by omega
      refine lv_iload hx hb dX13_summed_139 (lv_at hl 0 rfl) ?_
      refine lv_aload_n hx hb dX13_summed_141 rfl (lv_at hl 2 rfl) ?_
      refine va_get (D := D) (ci := 11) (v := .ref (ad 1)) (C := RX13) (T := TX13) (N := 6) hx hb hts hX13 hown hK.1 hP 0 rfl rfl 0 (by decide) (hts (.fieldLink RX13 10 "PledgeHouseModel" "now" "LPledgeHouseModel$State;") (by decide +kernel)) (fun _ h9 => h9) rfl dX13_summed_142 ?_
      refine va_getN (D := D) (ci := 10) (v := .ref (ad 3)) (C := RX12) (T := TX12) (N := 4) hx hb hts hX12 hown hK.1 hP 1 rfl rfl 0 (by decide) (va_Nw.use rfl hK.2.1) (fun _ h9 => h9) rfl dX13_summed_145 ?_
      refine lv_iconst (v := 1) hx hb dX13_summed_148 (by decide) ?_
      refine mx_hld hx hb hK.1 hP 1 rfl (by decide) (v := zh Z 1) rfl dX13_summed_149 ?_
      refine lv_icmp_gt (tgt := 206) hx hb dX13_summed_150 (by decide) (fun c_1 => ?_) (fun c_1 => ?_)
      · refine lv_lload_n hx hb dX13_summed_206 rfl (lv_at hl 1 rfl) ?_
        have hsp : sp_summed Z what = sm Z what cn := hy
        exact W.lret hx hb hr (fun t2 ht2 hW => ⟨by rw [hsp], ht2⟩) (fun q hq => by cases hq) dX13_summed_207 hlocks
      · exact absurd (show zh Z 1 < nI (cn + 1) by rw [hc]; exact (nI_ltI (by omega) (by omega)).mpr (by omega)) c_1
    | succ n ih =>
      intro i ls hn hy hl
      refine lv_iload hx hb dX13_summed_139 (lv_at hl 0 rfl) ?_
      refine lv_aload_n hx hb dX13_summed_141 rfl (lv_at hl 2 rfl) ?_
      refine va_get (D := D) (ci := 11) (v := .ref (ad 1)) (C := RX13) (T := TX13) (N := 6) hx hb hts hX13 hown hK.1 hP 0 rfl rfl 0 (by decide) (hts (.fieldLink RX13 10 "PledgeHouseModel" "now" "LPledgeHouseModel$State;") (by decide +kernel)) (fun _ h9 => h9) rfl dX13_summed_142 ?_
      refine va_getN (D := D) (ci := 10) (v := .ref (ad 3)) (C := RX12) (T := TX12) (N := 4) hx hb hts hX12 hown hK.1 hP 1 rfl rfl 0 (by decide) (va_Nw.use rfl hK.2.1) (fun _ h9 => h9) rfl dX13_summed_145 ?_
      refine lv_iconst (v := 1) hx hb dX13_summed_148 (by decide) ?_
      refine mx_hld hx hb hK.1 hP 1 rfl (by decide) (v := zh Z 1) rfl dX13_summed_149 ?_
      refine lv_icmp_gt (tgt := 206) hx hb dX13_summed_150 (by decide) (fun c_2 => ?_) (fun c_2 => ?_)
      · exact absurd ((nI_ltI (a := cn) (b := i + 1) (by omega) (by omega)).mp (by rw [← hc]; exact c_2)) (by omega)
      · refine lv_aload_n hx hb dX13_summed_153 rfl (lv_at hl 2 rfl) ?_
        refine lv_iload hx hb dX13_summed_154 (lv_at hl 0 rfl) ?_
        refine m_rd S hK hP (As := [.int (nI (i + 1))]) (rest := []) (cM_isOpen l D cI cJ ad Z _ (nI (i + 1)) ⟨i + 1, by omega, rfl⟩) (cwV 1 hts gX13_summed_X13_isOpen rfl rfl rfl (by decide +kernel) ⟨Nat.le_of_ble_eq_true rfl, Nat.le_of_ble_eq_true rfl⟩) rfl hl.1 rfl (Nat.le_of_ble_eq_true rfl) dX13_summed_156 ⟨Nat.zero_le _, Nat.zero_le _⟩ ?_
        refine lv_if_eq (tgt := 200) hx hb dX13_summed_159 (by decide) (fun c_3 => ?_) (fun c_3 => ?_)
        · refine lv_iinc (v := (nI (i + 1)) + 1) (lv' := [(4, .int ((nI (i + 1)) + 1)), (2, .long (sm Z what i)), (0, .ref (ad 0)), (1, .int what)]) hx hb dX13_summed_200 hl (k := 0) rfl rfl (by decide) rfl (fun ls hl => ?_)
          refine lv_goto (tgt := 139) hx hb dX13_summed_203 (by decide) ?_
          rw [nI_1] at hl
          have e2 : sm Z what (i + 1) = sm Z what i := by rw [sm, if_pos c_3]
          exact ih (i + 1) ls (by omega) hy (by rw [e2]; exact lv_sub hl [0, 1, 2, 3] rfl)
        · refine lv_lload_n hx hb dX13_summed_162 rfl (lv_at hl 1 rfl) ?_
          refine lv_iload_n hx hb dX13_summed_163 rfl (lv_at hl 3 rfl) ?_
          refine lv_bipush (v := 8) hx hb dX13_summed_164 (by decide) ?_
          refine lv_icmp_ne (tgt := 180) hx hb dX13_summed_166 (by decide) (fun c_4 => ?_) (fun c_4 => ?_)
          · refine lv_iload_n hx hb dX13_summed_180 rfl (lv_at hl 3 rfl) ?_
            refine lv_bipush (v := 9) hx hb dX13_summed_181 (by decide) ?_
            refine lv_icmp_ne (tgt := 197) hx hb dX13_summed_183 (by decide) (fun c_5 => ?_) (fun c_5 => ?_)
            · refine lv_lconst (v := 1) hx hb dX13_summed_197 (by decide) ?_
              refine lv_ladd hx hb dX13_summed_198 ?_
              refine lv_lstore_n (lv' := [(2, .long ((sm Z what i) + 1)), (4, .int (nI (i + 1))), (0, .ref (ad 0)), (1, .int what)]) hx hb dX13_summed_199 rfl hl (by decide) rfl (fun ls hl => ?_)
              refine lv_iinc (v := (nI (i + 1)) + 1) (lv' := [(4, .int ((nI (i + 1)) + 1)), (2, .long ((sm Z what i) + 1)), (0, .ref (ad 0)), (1, .int what)]) hx hb dX13_summed_200 hl (k := 1) rfl rfl (by decide) rfl (fun ls hl => ?_)
              refine lv_goto (tgt := 139) hx hb dX13_summed_203 (by decide) ?_
              rw [nI_1] at hl
              have e2 : sm Z what (i + 1) = (sm Z what i) + 1 := by rw [sm, if_neg c_3, if_neg c_4, if_neg c_5]
              exact ih (i + 1) ls (by omega) hy (by rw [e2]; exact lv_sub hl [0, 1, 2, 3] rfl)
            · refine lv_aload_n hx hb dX13_summed_186 rfl (lv_at hl 2 rfl) ?_
              refine lv_iload hx hb dX13_summed_187 (lv_at hl 0 rfl) ?_
              refine lv_iconst (v := 2) hx hb dX13_summed_189 (by decide) ?_
              refine m_rd S hK hP (As := [.int (nI (i + 1)), .int 2]) (rest := [.long (sm Z what i)]) (cM_of l D cI cJ ad Z _ (nI (i + 1)) 2 ⟨i + 1, by omega, rfl⟩ 2 rfl (by decide)) (cwV 2 hts gX13_summed_X13_of rfl rfl rfl (by decide +kernel) ⟨Nat.le_of_ble_eq_true rfl, Nat.le_of_ble_eq_true rfl⟩) rfl hl.1 rfl (Nat.le_of_ble_eq_true rfl) dX13_summed_190 ⟨Nat.zero_le _, Nat.zero_le _⟩ ?_
              refine lv_i2l (v := (tk Z (tN (nI (i + 1))) 2).toInt64) hx hb dX13_summed_193 rfl ?_
              refine lv_goto (tgt := 198) hx hb dX13_summed_194 (by decide) ?_
              refine lv_ladd hx hb dX13_summed_198 ?_
              refine lv_lstore_n (lv' := [(2, .long ((sm Z what i) + ((tk Z (tN (nI (i + 1))) 2).toInt64))), (4, .int (nI (i + 1))), (0, .ref (ad 0)), (1, .int what)]) hx hb dX13_summed_199 rfl hl (by decide) rfl (fun ls hl => ?_)
              refine lv_iinc (v := (nI (i + 1)) + 1) (lv' := [(4, .int ((nI (i + 1)) + 1)), (2, .long ((sm Z what i) + ((tk Z (tN (nI (i + 1))) 2).toInt64))), (0, .ref (ad 0)), (1, .int what)]) hx hb dX13_summed_200 hl (k := 1) rfl rfl (by decide) rfl (fun ls hl => ?_)
              refine lv_goto (tgt := 139) hx hb dX13_summed_203 (by decide) ?_
              rw [nI_1] at hl
              have e2 : sm Z what (i + 1) = (sm Z what i) + ((tk Z (tN (nI (i + 1))) 2).toInt64) := by rw [sm, if_neg c_3, if_neg c_4, if_pos c_5]
              exact ih (i + 1) ls (by omega) hy (by rw [e2]; exact lv_sub hl [0, 1, 2, 3] rfl)
          · refine lv_aload_n hx hb dX13_summed_169 rfl (lv_at hl 2 rfl) ?_
            refine lv_iload hx hb dX13_summed_170 (lv_at hl 0 rfl) ?_
            refine lv_iconst (v := 1) hx hb dX13_summed_172 (by decide) ?_
            refine m_rd S hK hP (As := [.int (nI (i + 1)), .int 1]) (rest := [.long (sm Z what i)]) (cM_of l D cI cJ ad Z _ (nI (i + 1)) 1 ⟨i + 1, by omega, rfl⟩ 1 rfl (by decide)) (cwV 2 hts gX13_summed_X13_of rfl rfl rfl (by decide +kernel) ⟨Nat.le_of_ble_eq_true rfl, Nat.le_of_ble_eq_true rfl⟩) rfl hl.1 rfl (Nat.le_of_ble_eq_true rfl) dX13_summed_173 ⟨Nat.zero_le _, Nat.zero_le _⟩ ?_
            refine lv_i2l (v := (tk Z (tN (nI (i + 1))) 1).toInt64) hx hb dX13_summed_176 rfl ?_
            refine lv_goto (tgt := 198) hx hb dX13_summed_177 (by decide) ?_
            refine lv_ladd hx hb dX13_summed_198 ?_
            refine lv_lstore_n (lv' := [(2, .long ((sm Z what i) + ((tk Z (tN (nI (i + 1))) 1).toInt64))), (4, .int (nI (i + 1))), (0, .ref (ad 0)), (1, .int what)]) hx hb dX13_summed_199 rfl hl (by decide) rfl (fun ls hl => ?_)
            refine lv_iinc (v := (nI (i + 1)) + 1) (lv' := [(4, .int ((nI (i + 1)) + 1)), (2, .long ((sm Z what i) + ((tk Z (tN (nI (i + 1))) 1).toInt64))), (0, .ref (ad 0)), (1, .int what)]) hx hb dX13_summed_200 hl (k := 1) rfl rfl (by decide) rfl (fun ls hl => ?_)
            refine lv_goto (tgt := 139) hx hb dX13_summed_203 (by decide) ?_
            rw [nI_1] at hl
            have e2 : sm Z what (i + 1) = (sm Z what i) + ((tk Z (tN (nI (i + 1))) 1).toInt64) := by rw [sm, if_neg c_3, if_pos c_4]
            exact ih (i + 1) ls (by omega) hy (by rw [e2]; exact lv_sub hl [0, 1, 2, 3] rfl)
  have loop2 : ∀ (n i : Nat) (ls : Array Slot), i + n = 40 → sp_summed Z what = pg Z 40 → lv_has ls 5 [(4, .int (nI i)), (2, .long (pg Z i)), (0, .ref (ad 0)), (1, .int what)] → W p l e ({ frames := 2, cells := 0, slots := 0, locals := 47 }) s m [.ref (ad 0), .int what].toArray below meth c s.heap [] 0 0 (MQ below (k2_QcV (.long (sp_summed Z what))) [.ref (ad 0), .int what].toArray s 0 0 (fun _ => False)) (F0 m 211 ls []) := by
    intro n
    induction n with
    | zero =>
      intro i ls hn hy hl
      obtain rfl : 40 = i := by omega
      refine lv_iload hx hb dX13_summed_211 (lv_at hl 0 rfl) ?_
      refine lv_bipush (v := 40) hx hb dX13_summed_213 (by decide) ?_
      refine lv_icmp_ge (tgt := 241) hx hb dX13_summed_215 (by decide) (fun c_6 => ?_) (fun c_6 => ?_)
      · refine lv_lload_n hx hb dX13_summed_241 rfl (lv_at hl 1 rfl) ?_
        have hsp : sp_summed Z what = pg Z 40 := hy
        exact W.lret hx hb hr (fun t2 ht2 hW => ⟨by rw [hsp], ht2⟩) (fun q hq => by cases hq) dX13_summed_242 hlocks
      · exact absurd (show (40 : Int32) ≤ nI 40 by decide) c_6
    | succ n ih =>
      intro i ls hn hy hl
      refine lv_iload hx hb dX13_summed_211 (lv_at hl 0 rfl) ?_
      refine lv_bipush (v := 40) hx hb dX13_summed_213 (by decide) ?_
      refine lv_icmp_ge (tgt := 241) hx hb dX13_summed_215 (by decide) (fun c_7 => ?_) (fun c_7 => ?_)
      · exact absurd ((nI_leI (a := 40) (b := i) (by omega) (by omega)).mp c_7) (by omega)
      · refine lv_lload_n hx hb dX13_summed_218 rfl (lv_at hl 1 rfl) ?_
        refine lv_aload_n hx hb dX13_summed_219 rfl (lv_at hl 2 rfl) ?_
        refine lv_iload hx hb dX13_summed_220 (lv_at hl 0 rfl) ?_
        refine m_rd S hK hP (As := [.int (nI i)]) (rest := [.long (pg Z i)]) (cM_isPledge l D cI cJ ad Z _ (nI i) ⟨i, by omega, rfl⟩) (cwV 1 hts gX13_summed_X13_isPledge rfl rfl rfl (by decide +kernel) ⟨Nat.le_of_ble_eq_true rfl, Nat.le_of_ble_eq_true rfl⟩) rfl hl.1 rfl (Nat.le_of_ble_eq_true rfl) dX13_summed_222 ⟨Nat.zero_le _, Nat.zero_le _⟩ ?_
        refine lv_if_eq (tgt := 232) hx hb dX13_summed_225 (by decide) (fun c_8 => ?_) (fun c_8 => ?_)
        · refine lv_lconst (v := 0) hx hb dX13_summed_232 (by decide) ?_
          refine lv_ladd hx hb dX13_summed_233 ?_
          refine lv_lstore_n (lv' := [(2, .long ((pg Z i) + 0)), (4, .int (nI i)), (0, .ref (ad 0)), (1, .int what)]) hx hb dX13_summed_234 rfl hl (by decide) rfl (fun ls hl => ?_)
          refine lv_iinc (v := (nI i) + 1) (lv' := [(4, .int ((nI i) + 1)), (2, .long ((pg Z i) + 0)), (0, .ref (ad 0)), (1, .int what)]) hx hb dX13_summed_235 hl (k := 1) rfl rfl (by decide) rfl (fun ls hl => ?_)
          refine lv_goto (tgt := 211) hx hb dX13_summed_238 (by decide) ?_
          rw [nI_1] at hl
          have e2 : pg Z (i + 1) = (pg Z i) + 0 := by rw [pg, if_pos c_8]
          exact ih (i + 1) ls (by omega) hy (by rw [e2]; exact lv_sub hl [0, 1, 2, 3] rfl)
        · refine lv_lconst (v := 1) hx hb dX13_summed_228 (by decide) ?_
          refine lv_goto (tgt := 233) hx hb dX13_summed_229 (by decide) ?_
          refine lv_ladd hx hb dX13_summed_233 ?_
          refine lv_lstore_n (lv' := [(2, .long ((pg Z i) + 1)), (4, .int (nI i)), (0, .ref (ad 0)), (1, .int what)]) hx hb dX13_summed_234 rfl hl (by decide) rfl (fun ls hl => ?_)
          refine lv_iinc (v := (nI i) + 1) (lv' := [(4, .int ((nI i) + 1)), (2, .long ((pg Z i) + 1)), (0, .ref (ad 0)), (1, .int what)]) hx hb dX13_summed_235 hl (k := 1) rfl rfl (by decide) rfl (fun ls hl => ?_)
          refine lv_goto (tgt := 211) hx hb dX13_summed_238 (by decide) ?_
          rw [nI_1] at hl
          have e2 : pg Z (i + 1) = (pg Z i) + 1 := by rw [pg, if_neg c_8]
          exact ih (i + 1) ls (by omega) hy (by rw [e2]; exact lv_sub hl [0, 1, 2, 3] rfl)
  refine lv_lconst (v := 0) hx hb dX13_summed_0 (by decide) ?_
  refine lv_lstore_n (lv' := [(2, .long 0), (0, .ref (ad 0)), (1, .int what)]) hx hb dX13_summed_1 rfl hl (by decide) rfl (fun ls hl => ?_)
  refine lv_iload_n hx hb dX13_summed_2 rfl (lv_at hl 2 rfl) ?_
  by_cases c_9 : what = 0
  · refine lv_tableIn (off := 61) (tgt := 64) hx hb dX13_summed_3 (by rw [c_9]; decide) (by rw [c_9]; decide) (by rw [c_9]; rfl) (by decide) ?_
    refine lv_aload_n hx hb dX13_summed_64 rfl (lv_at hl 1 rfl) ?_
    refine va_get (D := D) (ci := 11) (v := .ref (ad 1)) (C := RX13) (T := TX13) (N := 6) hx hb hts hX13 hown hK.1 hP 0 rfl rfl 0 (by decide) (hts (.fieldLink RX13 10 "PledgeHouseModel" "now" "LPledgeHouseModel$State;") (by decide +kernel)) (fun _ h9 => h9) rfl dX13_summed_65 ?_
    refine va_getN (D := D) (ci := 10) (v := .ref (ad 6)) (C := RX12) (T := TX12) (N := 4) hx hb hts hX12 hown hK.1 hP 1 rfl rfl 3 (by decide) (va_Nw.use rfl hK.2.2.2.2) (fun _ h9 => h9) rfl dX13_summed_68 ?_
    refine lv_iconst (v := 0) hx hb dX13_summed_71 (by decide) ?_
    refine mx_cld hx hb hK.1 hP 0 rfl (by decide) (v := zc Z 0) rfl dX13_summed_72 ?_
    have hsp : sp_summed Z what = zc Z 0 := by unfold sp_summed; rw [if_pos c_9]
    exact W.lret hx hb hr (fun t2 ht2 hW => ⟨by rw [hsp], ht2⟩) (fun q hq => by cases hq) dX13_summed_73 hlocks
  by_cases c_10 : what = 1
  · refine lv_tableIn (off := 71) (tgt := 74) hx hb dX13_summed_3 (by rw [c_10]; decide) (by rw [c_10]; decide) (by rw [c_10]; rfl) (by decide) ?_
    refine lv_aload_n hx hb dX13_summed_74 rfl (lv_at hl 1 rfl) ?_
    refine va_get (D := D) (ci := 11) (v := .ref (ad 1)) (C := RX13) (T := TX13) (N := 6) hx hb hts hX13 hown hK.1 hP 0 rfl rfl 0 (by decide) (hts (.fieldLink RX13 10 "PledgeHouseModel" "now" "LPledgeHouseModel$State;") (by decide +kernel)) (fun _ h9 => h9) rfl dX13_summed_75 ?_
    refine va_getN (D := D) (ci := 10) (v := .ref (ad 6)) (C := RX12) (T := TX12) (N := 4) hx hb hts hX12 hown hK.1 hP 1 rfl rfl 3 (by decide) (va_Nw.use rfl hK.2.2.2.2) (fun _ h9 => h9) rfl dX13_summed_78 ?_
    refine lv_iconst (v := 1) hx hb dX13_summed_81 (by decide) ?_
    refine mx_cld hx hb hK.1 hP 1 rfl (by decide) (v := zc Z 1) rfl dX13_summed_82 ?_
    have hsp : sp_summed Z what = zc Z 1 := by unfold sp_summed; rw [if_neg c_9, if_pos c_10]
    exact W.lret hx hb hr (fun t2 ht2 hW => ⟨by rw [hsp], ht2⟩) (fun q hq => by cases hq) dX13_summed_83 hlocks
  by_cases c_11 : what = 2
  · refine lv_tableIn (off := 81) (tgt := 84) hx hb dX13_summed_3 (by rw [c_11]; decide) (by rw [c_11]; decide) (by rw [c_11]; rfl) (by decide) ?_
    refine lv_aload_n hx hb dX13_summed_84 rfl (lv_at hl 1 rfl) ?_
    refine va_get (D := D) (ci := 11) (v := .ref (ad 1)) (C := RX13) (T := TX13) (N := 6) hx hb hts hX13 hown hK.1 hP 0 rfl rfl 0 (by decide) (hts (.fieldLink RX13 10 "PledgeHouseModel" "now" "LPledgeHouseModel$State;") (by decide +kernel)) (fun _ h9 => h9) rfl dX13_summed_85 ?_
    refine va_getN (D := D) (ci := 10) (v := .ref (ad 6)) (C := RX12) (T := TX12) (N := 4) hx hb hts hX12 hown hK.1 hP 1 rfl rfl 3 (by decide) (va_Nw.use rfl hK.2.2.2.2) (fun _ h9 => h9) rfl dX13_summed_88 ?_
    refine lv_iconst (v := 2) hx hb dX13_summed_91 (by decide) ?_
    refine mx_cld hx hb hK.1 hP 2 rfl (by decide) (v := zc Z 2) rfl dX13_summed_92 ?_
    have hsp : sp_summed Z what = zc Z 2 := by unfold sp_summed; rw [if_neg c_9, if_neg c_10, if_pos c_11]
    exact W.lret hx hb hr (fun t2 ht2 hW => ⟨by rw [hsp], ht2⟩) (fun q hq => by cases hq) dX13_summed_93 hlocks
  by_cases c_12 : what = 3
  · refine lv_tableIn (off := 91) (tgt := 94) hx hb dX13_summed_3 (by rw [c_12]; decide) (by rw [c_12]; decide) (by rw [c_12]; rfl) (by decide) ?_
    refine lv_aload_n hx hb dX13_summed_94 rfl (lv_at hl 1 rfl) ?_
    refine va_get (D := D) (ci := 11) (v := .ref (ad 1)) (C := RX13) (T := TX13) (N := 6) hx hb hts hX13 hown hK.1 hP 0 rfl rfl 0 (by decide) (hts (.fieldLink RX13 10 "PledgeHouseModel" "now" "LPledgeHouseModel$State;") (by decide +kernel)) (fun _ h9 => h9) rfl dX13_summed_95 ?_
    refine va_getN (D := D) (ci := 10) (v := .ref (ad 6)) (C := RX12) (T := TX12) (N := 4) hx hb hts hX12 hown hK.1 hP 1 rfl rfl 3 (by decide) (va_Nw.use rfl hK.2.2.2.2) (fun _ h9 => h9) rfl dX13_summed_98 ?_
    refine lv_iconst (v := 3) hx hb dX13_summed_101 (by decide) ?_
    refine mx_cld hx hb hK.1 hP 3 rfl (by decide) (v := zc Z 3) rfl dX13_summed_102 ?_
    have hsp : sp_summed Z what = zc Z 3 := by unfold sp_summed; rw [if_neg c_9, if_neg c_10, if_neg c_11, if_pos c_12]
    exact W.lret hx hb hr (fun t2 ht2 hW => ⟨by rw [hsp], ht2⟩) (fun q hq => by cases hq) dX13_summed_103 hlocks
  by_cases c_13 : what = 4
  · refine lv_tableIn (off := 101) (tgt := 104) hx hb dX13_summed_3 (by rw [c_13]; decide) (by rw [c_13]; decide) (by rw [c_13]; rfl) (by decide) ?_
    refine lv_aload_n hx hb dX13_summed_104 rfl (lv_at hl 1 rfl) ?_
    refine lv_iconst (v := 0) hx hb dX13_summed_105 (by decide) ?_
    refine m_rd S hK hP (As := [.int 0]) (rest := []) (cM_overs l D cI cJ ad Z _ 0 hC) (cwV 1 hts gX13_summed_X13_overs rfl rfl rfl (by decide +kernel) ⟨Nat.le_of_ble_eq_true rfl, Nat.le_of_ble_eq_true rfl⟩) rfl hl.1 rfl (Nat.le_of_ble_eq_true rfl) dX13_summed_106 ⟨Nat.zero_le _, Nat.zero_le _⟩ ?_
    have hsp : sp_summed Z what = sp_overs Z 0 := by unfold sp_summed; rw [if_neg c_9, if_neg c_10, if_neg c_11, if_neg c_12, if_pos c_13]
    exact W.lret hx hb hr (fun t2 ht2 hW => ⟨by rw [hsp], ht2⟩) (fun q hq => by cases hq) dX13_summed_109 hlocks
  by_cases c_14 : what = 5
  · refine lv_tableIn (off := 107) (tgt := 110) hx hb dX13_summed_3 (by rw [c_14]; decide) (by rw [c_14]; decide) (by rw [c_14]; rfl) (by decide) ?_
    refine lv_aload_n hx hb dX13_summed_110 rfl (lv_at hl 1 rfl) ?_
    refine va_get (D := D) (ci := 11) (v := .ref (ad 1)) (C := RX13) (T := TX13) (N := 6) hx hb hts hX13 hown hK.1 hP 0 rfl rfl 0 (by decide) (hts (.fieldLink RX13 10 "PledgeHouseModel" "now" "LPledgeHouseModel$State;") (by decide +kernel)) (fun _ h9 => h9) rfl dX13_summed_111 ?_
    refine va_getN (D := D) (ci := 10) (v := .ref (ad 6)) (C := RX12) (T := TX12) (N := 4) hx hb hts hX12 hown hK.1 hP 1 rfl rfl 3 (by decide) (va_Nw.use rfl hK.2.2.2.2) (fun _ h9 => h9) rfl dX13_summed_114 ?_
    refine lv_iconst (v := 4) hx hb dX13_summed_117 (by decide) ?_
    refine mx_cld hx hb hK.1 hP 4 rfl (by decide) (v := zc Z 4) rfl dX13_summed_118 ?_
    have hsp : sp_summed Z what = zc Z 4 := by unfold sp_summed; rw [if_neg c_9, if_neg c_10, if_neg c_11, if_neg c_12, if_neg c_13, if_pos c_14]
    exact W.lret hx hb hr (fun t2 ht2 hW => ⟨by rw [hsp], ht2⟩) (fun q hq => by cases hq) dX13_summed_119 hlocks
  by_cases c_15 : what = 6
  · refine lv_tableIn (off := 117) (tgt := 120) hx hb dX13_summed_3 (by rw [c_15]; decide) (by rw [c_15]; decide) (by rw [c_15]; rfl) (by decide) ?_
    refine lv_aload_n hx hb dX13_summed_120 rfl (lv_at hl 1 rfl) ?_
    refine lv_iconst (v := 1) hx hb dX13_summed_121 (by decide) ?_
    refine m_rd S hK hP (As := [.int 1]) (rest := []) (cM_overs l D cI cJ ad Z _ 1 hC) (cwV 1 hts gX13_summed_X13_overs rfl rfl rfl (by decide +kernel) ⟨Nat.le_of_ble_eq_true rfl, Nat.le_of_ble_eq_true rfl⟩) rfl hl.1 rfl (Nat.le_of_ble_eq_true rfl) dX13_summed_122 ⟨Nat.zero_le _, Nat.zero_le _⟩ ?_
    have hsp : sp_summed Z what = sp_overs Z 1 := by unfold sp_summed; rw [if_neg c_9, if_neg c_10, if_neg c_11, if_neg c_12, if_neg c_13, if_neg c_14, if_pos c_15]
    exact W.lret hx hb hr (fun t2 ht2 hW => ⟨by rw [hsp], ht2⟩) (fun q hq => by cases hq) dX13_summed_125 hlocks
  by_cases c_16 : what = 7
  · refine lv_tableIn (off := 123) (tgt := 126) hx hb dX13_summed_3 (by rw [c_16]; decide) (by rw [c_16]; decide) (by rw [c_16]; rfl) (by decide) ?_
    refine lv_aload_n hx hb dX13_summed_126 rfl (lv_at hl 1 rfl) ?_
    refine va_get (D := D) (ci := 11) (v := .ref (ad 1)) (C := RX13) (T := TX13) (N := 6) hx hb hts hX13 hown hK.1 hP 0 rfl rfl 0 (by decide) (hts (.fieldLink RX13 10 "PledgeHouseModel" "now" "LPledgeHouseModel$State;") (by decide +kernel)) (fun _ h9 => h9) rfl dX13_summed_127 ?_
    refine va_getN (D := D) (ci := 10) (v := .ref (ad 6)) (C := RX12) (T := TX12) (N := 4) hx hb hts hX12 hown hK.1 hP 1 rfl rfl 3 (by decide) (va_Nw.use rfl hK.2.2.2.2) (fun _ h9 => h9) rfl dX13_summed_130 ?_
    refine lv_iconst (v := 5) hx hb dX13_summed_133 (by decide) ?_
    refine mx_cld hx hb hK.1 hP 5 rfl (by decide) (v := zc Z 5) rfl dX13_summed_134 ?_
    have hsp : sp_summed Z what = zc Z 5 := by unfold sp_summed; rw [if_neg c_9, if_neg c_10, if_neg c_11, if_neg c_12, if_neg c_13, if_neg c_14, if_neg c_15, if_pos c_16]
    exact W.lret hx hb hr (fun t2 ht2 hW => ⟨by rw [hsp], ht2⟩) (fun q hq => by cases hq) dX13_summed_135 hlocks
  by_cases c_17 : what = 8
  · refine lv_tableIn (off := 133) (tgt := 136) hx hb dX13_summed_3 (by rw [c_17]; decide) (by rw [c_17]; decide) (by rw [c_17]; rfl) (by decide) ?_
    refine lv_iconst (v := 1) hx hb dX13_summed_136 (by decide) ?_
    refine lv_istore (lv' := [(4, .int 1), (2, .long 0), (0, .ref (ad 0)), (1, .int what)]) hx hb dX13_summed_137 hl (by decide) rfl (fun ls hl => ?_)
    exact loop1 cn 0 ls (by omega) (by unfold sp_summed; rw [if_neg c_9, if_neg c_10, if_neg c_11, if_neg c_12, if_neg c_13, if_neg c_14, if_neg c_15, if_neg c_16, if_pos c_17, hc, tN_n (by omega)]) (lv_sub hl [0, 1, 2, 3] rfl)
  by_cases c_18 : what = 9
  · refine lv_tableIn (off := 133) (tgt := 136) hx hb dX13_summed_3 (by rw [c_18]; decide) (by rw [c_18]; decide) (by rw [c_18]; rfl) (by decide) ?_
    refine lv_iconst (v := 1) hx hb dX13_summed_136 (by decide) ?_
    refine lv_istore (lv' := [(4, .int 1), (2, .long 0), (0, .ref (ad 0)), (1, .int what)]) hx hb dX13_summed_137 hl (by decide) rfl (fun ls hl => ?_)
    exact loop1 cn 0 ls (by omega) (by unfold sp_summed; rw [if_neg c_9, if_neg c_10, if_neg c_11, if_neg c_12, if_neg c_13, if_neg c_14, if_neg c_15, if_neg c_16, if_neg c_17, if_pos c_18, hc, tN_n (by omega)]) (lv_sub hl [0, 1, 2, 3] rfl)
  by_cases c_19 : what = 10
  · refine lv_tableIn (off := 133) (tgt := 136) hx hb dX13_summed_3 (by rw [c_19]; decide) (by rw [c_19]; decide) (by rw [c_19]; rfl) (by decide) ?_
    refine lv_iconst (v := 1) hx hb dX13_summed_136 (by decide) ?_
    refine lv_istore (lv' := [(4, .int 1), (2, .long 0), (0, .ref (ad 0)), (1, .int what)]) hx hb dX13_summed_137 hl (by decide) rfl (fun ls hl => ?_)
    exact loop1 cn 0 ls (by omega) (by unfold sp_summed; rw [if_neg c_9, if_neg c_10, if_neg c_11, if_neg c_12, if_neg c_13, if_neg c_14, if_neg c_15, if_neg c_16, if_neg c_17, if_neg c_18, if_pos c_19, hc, tN_n (by omega)]) (lv_sub hl [0, 1, 2, 3] rfl)
  by_cases c_20 : what = 11
  · refine lv_tableIn (off := 205) (tgt := 208) hx hb dX13_summed_3 (by rw [c_20]; decide) (by rw [c_20]; decide) (by rw [c_20]; rfl) (by decide) ?_
    refine lv_iconst (v := 0) hx hb dX13_summed_208 (by decide) ?_
    refine lv_istore (lv' := [(4, .int 0), (2, .long 0), (0, .ref (ad 0)), (1, .int what)]) hx hb dX13_summed_209 hl (by decide) rfl (fun ls hl => ?_)
    exact loop2 40 0 ls (by omega) (by unfold sp_summed; rw [if_neg c_9, if_neg c_10, if_neg c_11, if_neg c_12, if_neg c_13, if_neg c_14, if_neg c_15, if_neg c_16, if_neg c_17, if_neg c_18, if_neg c_19, if_pos c_20]) (lv_sub hl [0, 1, 2, 3] rfl)
  have q_0 : ¬ (what).toInt = 0 := fun h => c_9 (sw_eq (v := 0) (by decide) h)
  have q_1 : ¬ (what).toInt = 1 := fun h => c_10 (sw_eq (v := 1) (by decide) h)
  have q_2 : ¬ (what).toInt = 2 := fun h => c_11 (sw_eq (v := 2) (by decide) h)
  have q_3 : ¬ (what).toInt = 3 := fun h => c_12 (sw_eq (v := 3) (by decide) h)
  have q_4 : ¬ (what).toInt = 4 := fun h => c_13 (sw_eq (v := 4) (by decide) h)
  have q_5 : ¬ (what).toInt = 5 := fun h => c_14 (sw_eq (v := 5) (by decide) h)
  have q_6 : ¬ (what).toInt = 6 := fun h => c_15 (sw_eq (v := 6) (by decide) h)
  have q_7 : ¬ (what).toInt = 7 := fun h => c_16 (sw_eq (v := 7) (by decide) h)
  have q_8 : ¬ (what).toInt = 8 := fun h => c_17 (sw_eq (v := 8) (by decide) h)
  have q_9 : ¬ (what).toInt = 9 := fun h => c_18 (sw_eq (v := 9) (by decide) h)
  have q_10 : ¬ (what).toInt = 10 := fun h => c_19 (sw_eq (v := 10) (by decide) h)
  have q_11 : ¬ (what).toInt = 11 := fun h => c_20 (sw_eq (v := 11) (by decide) h)
  refine lv_tableOut (tgt := 243) hx hb dX13_summed_3 (by omega) (by decide) ?_
  refine lv_aload_n hx hb dX13_summed_243 rfl (lv_at hl 1 rfl) ?_
  refine va_get (D := D) (ci := 11) (v := .ref (ad 1)) (C := RX13) (T := TX13) (N := 6) hx hb hts hX13 hown hK.1 hP 0 rfl rfl 0 (by decide) (hts (.fieldLink RX13 10 "PledgeHouseModel" "now" "LPledgeHouseModel$State;") (by decide +kernel)) (fun _ h9 => h9) rfl dX13_summed_244 ?_
  refine va_getN (D := D) (ci := 10) (v := .ref (ad 3)) (C := RX12) (T := TX12) (N := 4) hx hb hts hX12 hown hK.1 hP 1 rfl rfl 0 (by decide) (va_Nw.use rfl hK.2.1) (fun _ h9 => h9) rfl dX13_summed_247 ?_
  refine lv_iconst (v := 1) hx hb dX13_summed_250 (by decide) ?_
  refine mx_hld hx hb hK.1 hP 1 rfl (by decide) (v := zh Z 1) rfl dX13_summed_251 ?_
  refine lv_i2l (v := (zh Z 1).toInt64) hx hb dX13_summed_252 rfl ?_
  have hsp : sp_summed Z what = (zh Z 1).toInt64 := by unfold sp_summed; rw [if_neg c_9, if_neg c_10, if_neg c_11, if_neg c_12, if_neg c_13, if_neg c_14, if_neg c_15, if_neg c_16, if_neg c_17, if_neg c_18, if_neg c_19, if_neg c_20]
  exact W.lret hx hb hr (fun t2 ht2 hW => ⟨by rw [hsp], ht2⟩) (fun q hq => by cases hq) dX13_summed_253 hlocks
def sp_begins (Z : mZ) (t : Int32) : mZ :=
  if (zh Z 0) < ((tk Z (tN t) 4) + (30 * (tk Z (tN t) 3))) then
    Z
  else
    tkp (tkp Z (tN t) 3 ((tk Z (tN t) 3) + 1)) (tN t) 2 ((tk Z (tN t) 2) + (sp_cutUp (((tk Z (tN t) 1).toInt64) * ((tk Z (tN t) 6).toInt64)) 1000))
set_option maxHeartbeats 4000000 in
set_option maxRecDepth 100000 in
theorem cM_begins (l : Launch) (D : va_G) (cI cJ : ClassId) (ad : Nat → Nat) (Z : mZ) (sz : Nat) (hi : mI ad) (t : Int32) (ht : tok t) (hone : (zh Z 0) < ((tk Z (tN t) 4) + (30 * ((tk Z (tN t) 3) + 1)))) : Met l yX13_begins wsX13_begins ({ frames := 1, cells := 0, slots := 0, locals := 23 }) (mPc [.ref (ad 0), .int t] D cI cJ ad Z sz) (mQ D cI cJ ad none (sp_begins Z t) sz) 0 0 (mA ad sz) := by
  refine m_in (cc := cX13_begins) (maxL := 2) (ret := none) (lv := [(0, .ref (ad 0)), (1, .int t)]) (by decide) rfl (Nat.le_of_ble_eq_true rfl) rfl ?_
  intro p e s m below meth c ls S hr hlocks hin hsz hP hK hl hS
  subst hsz
  obtain ⟨hx, hb, hml, hown, hts⟩ := id S
  refine lv_aload_n hx hb dX13_begins_0 rfl (lv_at hl 0 rfl) ?_
  refine lv_iload_n hx hb dX13_begins_1 rfl (lv_at hl 1 rfl) ?_
  refine lv_iconst (v := 4) hx hb dX13_begins_2 (by decide) ?_
  refine m_rd S hK hP (As := [.int t, .int 4]) (rest := []) (cM_of l D cI cJ ad Z _ t 4 ht 4 rfl (by decide)) (cwV 2 hts gX13_begins_X13_of rfl rfl rfl (by decide +kernel) ⟨Nat.le_of_ble_eq_true rfl, Nat.le_of_ble_eq_true rfl⟩) rfl hl.1 rfl (Nat.le_of_ble_eq_true rfl) dX13_begins_3 ⟨Nat.zero_le _, Nat.zero_le _⟩ ?_
  refine lv_bipush (v := 30) hx hb dX13_begins_6 (by decide) ?_
  refine lv_aload_n hx hb dX13_begins_8 rfl (lv_at hl 0 rfl) ?_
  refine lv_iload_n hx hb dX13_begins_9 rfl (lv_at hl 1 rfl) ?_
  refine lv_iconst (v := 3) hx hb dX13_begins_10 (by decide) ?_
  refine m_rd S hK hP (As := [.int t, .int 3]) (rest := [.int 30, .int (tk Z (tN t) 4)]) (cM_of l D cI cJ ad Z _ t 3 ht 3 rfl (by decide)) (cwV 2 hts gX13_begins_X13_of rfl rfl rfl (by decide +kernel) ⟨Nat.le_of_ble_eq_true rfl, Nat.le_of_ble_eq_true rfl⟩) rfl hl.1 rfl (Nat.le_of_ble_eq_true rfl) dX13_begins_11 ⟨Nat.zero_le _, Nat.zero_le _⟩ ?_
  refine lv_imul hx hb dX13_begins_14 ?_
  refine lv_iadd hx hb dX13_begins_15 ?_
  refine lv_aload_n hx hb dX13_begins_16 rfl (lv_at hl 0 rfl) ?_
  refine m_rd S hK hP (As := []) (rest := [.int ((tk Z (tN t) 4) + (30 * (tk Z (tN t) 3)))]) (cM_today l D cI cJ ad Z _) (cwV 0 hts gX13_begins_X13_today rfl rfl rfl (by decide +kernel) ⟨Nat.le_of_ble_eq_true rfl, Nat.le_of_ble_eq_true rfl⟩) rfl hl.1 rfl (Nat.le_of_ble_eq_true rfl) dX13_begins_17 ⟨Nat.zero_le _, Nat.zero_le _⟩ ?_
  refine lv_icmp_gt (tgt := 75) hx hb dX13_begins_20 (by decide) (fun c_1 => ?_) (fun c_1 => ?_)
  · have hsp : sp_begins Z t = Z := by unfold sp_begins; rw [if_pos c_1]
    exact W.vret hx hb hr (fun t2 ht2 hW => by rw [hsp]; exact ⟨rfl, by rw [ht2]; exact hP, hS.F ht2⟩) hS.2.2 dX13_begins_75 hlocks
  · refine lv_aload_n hx hb dX13_begins_23 rfl (lv_at hl 0 rfl) ?_
    refine lv_iload_n hx hb dX13_begins_24 rfl (lv_at hl 1 rfl) ?_
    refine lv_iconst (v := 3) hx hb dX13_begins_25 (by decide) ?_
    refine lv_aload_n hx hb dX13_begins_26 rfl (lv_at hl 0 rfl) ?_
    refine lv_iload_n hx hb dX13_begins_27 rfl (lv_at hl 1 rfl) ?_
    refine lv_iconst (v := 3) hx hb dX13_begins_28 (by decide) ?_
    refine m_rd S hK hP (As := [.int t, .int 3]) (rest := [.int 3, .int t, .ref (ad 0)]) (cM_of l D cI cJ ad Z _ t 3 ht 3 rfl (by decide)) (cwV 2 hts gX13_begins_X13_of rfl rfl rfl (by decide +kernel) ⟨Nat.le_of_ble_eq_true rfl, Nat.le_of_ble_eq_true rfl⟩) rfl hl.1 rfl (Nat.le_of_ble_eq_true rfl) dX13_begins_29 ⟨Nat.zero_le _, Nat.zero_le _⟩ ?_
    refine lv_iconst (v := 1) hx hb dX13_begins_32 (by decide) ?_
    refine lv_iadd hx hb dX13_begins_33 ?_
    refine m_wv S hK hP hS (As := [.int t, .int 3, .int ((tk Z (tN t) 3) + 1)]) (rest := []) (cM_put l D cI cJ ad Z _ hi t 3 ((tk Z (tN t) 3) + 1) ht 3 rfl (by decide)) (cwV 3 hts gX13_begins_X13_put rfl rfl rfl (by decide +kernel) ⟨Nat.le_of_ble_eq_true rfl, Nat.le_of_ble_eq_true rfl⟩) rfl hl.1 rfl (Nat.le_of_ble_eq_true rfl) dX13_begins_34 ⟨Nat.zero_le _, Nat.zero_le _⟩ (fun H locs hP hS => ?_)
    refine lv_aload_n hx hb dX13_begins_37 rfl (lv_at hl 0 rfl) ?_
    refine lv_iload_n hx hb dX13_begins_38 rfl (lv_at hl 1 rfl) ?_
    refine lv_iconst (v := 2) hx hb dX13_begins_39 (by decide) ?_
    refine lv_aload_n hx hb dX13_begins_40 rfl (lv_at hl 0 rfl) ?_
    refine lv_iload_n hx hb dX13_begins_41 rfl (lv_at hl 1 rfl) ?_
    refine lv_iconst (v := 2) hx hb dX13_begins_42 (by decide) ?_
    refine m_rd S hK hP (As := [.int t, .int 2]) (rest := [.int 2, .int t, .ref (ad 0)]) (met_r (show tk (tkp Z (tN t) 3 ((tk Z (tN t) 3) + 1)) (tN t) 2 = tk Z (tN t) 2 from (tk_ne (by decide))) (cM_of l D cI cJ ad (tkp Z (tN t) 3 ((tk Z (tN t) 3) + 1)) _ t 2 ht 2 rfl (by decide))) (cwV 2 hts gX13_begins_X13_of rfl rfl rfl (by decide +kernel) ⟨Nat.le_of_ble_eq_true rfl, Nat.le_of_ble_eq_true rfl⟩) rfl hl.1 rfl (Nat.le_of_ble_eq_true rfl) dX13_begins_43 ⟨Nat.zero_le _, Nat.zero_le _⟩ ?_
    refine lv_aload_n hx hb dX13_begins_46 rfl (lv_at hl 0 rfl) ?_
    refine lv_iload_n hx hb dX13_begins_47 rfl (lv_at hl 1 rfl) ?_
    refine lv_iconst (v := 1) hx hb dX13_begins_48 (by decide) ?_
    refine m_rd S hK hP (As := [.int t, .int 1]) (rest := [.int (tk Z (tN t) 2), .int 2, .int t, .ref (ad 0)]) (met_r (show tk (tkp Z (tN t) 3 ((tk Z (tN t) 3) + 1)) (tN t) 1 = tk Z (tN t) 1 from (tk_ne (by decide))) (cM_of l D cI cJ ad (tkp Z (tN t) 3 ((tk Z (tN t) 3) + 1)) _ t 1 ht 1 rfl (by decide))) (cwV 2 hts gX13_begins_X13_of rfl rfl rfl (by decide +kernel) ⟨Nat.le_of_ble_eq_true rfl, Nat.le_of_ble_eq_true rfl⟩) rfl hl.1 rfl (Nat.le_of_ble_eq_true rfl) dX13_begins_49 ⟨Nat.zero_le _, Nat.zero_le _⟩ ?_
    refine lv_i2l (v := (tk Z (tN t) 1).toInt64) hx hb dX13_begins_52 rfl ?_
    refine lv_aload_n hx hb dX13_begins_53 rfl (lv_at hl 0 rfl) ?_
    refine lv_iload_n hx hb dX13_begins_54 rfl (lv_at hl 1 rfl) ?_
    refine lv_bipush (v := 6) hx hb dX13_begins_55 (by decide) ?_
    refine m_rd S hK hP (As := [.int t, .int 6]) (rest := [.long ((tk Z (tN t) 1).toInt64), .int (tk Z (tN t) 2), .int 2, .int t, .ref (ad 0)]) (met_r (show tk (tkp Z (tN t) 3 ((tk Z (tN t) 3) + 1)) (tN t) 6 = tk Z (tN t) 6 from (tk_ne (by decide))) (cM_of l D cI cJ ad (tkp Z (tN t) 3 ((tk Z (tN t) 3) + 1)) _ t 6 ht 6 rfl (by decide))) (cwV 2 hts gX13_begins_X13_of rfl rfl rfl (by decide +kernel) ⟨Nat.le_of_ble_eq_true rfl, Nat.le_of_ble_eq_true rfl⟩) rfl hl.1 rfl (Nat.le_of_ble_eq_true rfl) dX13_begins_57 ⟨Nat.zero_le _, Nat.zero_le _⟩ ?_
    refine lv_i2l (v := (tk Z (tN t) 6).toInt64) hx hb dX13_begins_60 rfl ?_
    refine lv_lmul hx hb dX13_begins_61 ?_
    refine lv_ldc2 (v := 1000) hx hb hown (hts (.constantLong RX13 61 (1000)) (by decide +kernel)) dX13_begins_62 ?_
    refine m_st S (As := [.long (((tk Z (tN t) 1).toInt64) * ((tk Z (tN t) 6).toInt64)), .long 1000]) (rest := [.int (tk Z (tN t) 2), .int 2, .int t, .ref (ad 0)]) (cM_cutUp l (((tk Z (tN t) 1).toInt64) * ((tk Z (tN t) 6).toInt64)) 1000 (by decide)) (cwS 2 hts gX13_begins_X13_cutUp rfl rfl rfl (by decide +kernel) ⟨Nat.le_of_ble_eq_true rfl, Nat.le_of_ble_eq_true rfl⟩) rfl hl.1 rfl (Nat.le_of_ble_eq_true rfl) dX13_begins_65 ⟨Nat.zero_le _, Nat.zero_le _⟩ ?_
    refine lv_iadd hx hb dX13_begins_68 ?_
    refine m_wv S hK hP hS (As := [.int t, .int 2, .int ((tk Z (tN t) 2) + (sp_cutUp (((tk Z (tN t) 1).toInt64) * ((tk Z (tN t) 6).toInt64)) 1000))]) (rest := []) (cM_put l D cI cJ ad (tkp Z (tN t) 3 ((tk Z (tN t) 3) + 1)) _ hi t 2 ((tk Z (tN t) 2) + (sp_cutUp (((tk Z (tN t) 1).toInt64) * ((tk Z (tN t) 6).toInt64)) 1000)) ht 2 rfl (by decide)) (cwV 3 hts gX13_begins_X13_put rfl rfl rfl (by decide +kernel) ⟨Nat.le_of_ble_eq_true rfl, Nat.le_of_ble_eq_true rfl⟩) rfl hl.1 rfl (Nat.le_of_ble_eq_true rfl) dX13_begins_69 ⟨Nat.zero_le _, Nat.zero_le _⟩ (fun H locs hP hS => ?_)
    refine lv_goto (tgt := 0) hx hb dX13_begins_72 (by decide) ?_
    refine lv_aload_n hx hb dX13_begins_0 rfl (lv_at hl 0 rfl) ?_
    refine lv_iload_n hx hb dX13_begins_1 rfl (lv_at hl 1 rfl) ?_
    refine lv_iconst (v := 4) hx hb dX13_begins_2 (by decide) ?_
    refine m_rd S hK hP (As := [.int t, .int 4]) (rest := []) (met_r (show tk (tkp (tkp Z (tN t) 3 ((tk Z (tN t) 3) + 1)) (tN t) 2 ((tk Z (tN t) 2) + (sp_cutUp (((tk Z (tN t) 1).toInt64) * ((tk Z (tN t) 6).toInt64)) 1000))) (tN t) 4 = tk Z (tN t) 4 from ((tk_ne (by decide)).trans (tk_ne (by decide)))) (cM_of l D cI cJ ad (tkp (tkp Z (tN t) 3 ((tk Z (tN t) 3) + 1)) (tN t) 2 ((tk Z (tN t) 2) + (sp_cutUp (((tk Z (tN t) 1).toInt64) * ((tk Z (tN t) 6).toInt64)) 1000))) _ t 4 ht 4 rfl (by decide))) (cwV 2 hts gX13_begins_X13_of rfl rfl rfl (by decide +kernel) ⟨Nat.le_of_ble_eq_true rfl, Nat.le_of_ble_eq_true rfl⟩) rfl hl.1 rfl (Nat.le_of_ble_eq_true rfl) dX13_begins_3 ⟨Nat.zero_le _, Nat.zero_le _⟩ ?_
    refine lv_bipush (v := 30) hx hb dX13_begins_6 (by decide) ?_
    refine lv_aload_n hx hb dX13_begins_8 rfl (lv_at hl 0 rfl) ?_
    refine lv_iload_n hx hb dX13_begins_9 rfl (lv_at hl 1 rfl) ?_
    refine lv_iconst (v := 3) hx hb dX13_begins_10 (by decide) ?_
    refine m_rd S hK hP (As := [.int t, .int 3]) (rest := [.int 30, .int (tk Z (tN t) 4)]) (met_r (show tk (tkp (tkp Z (tN t) 3 ((tk Z (tN t) 3) + 1)) (tN t) 2 ((tk Z (tN t) 2) + (sp_cutUp (((tk Z (tN t) 1).toInt64) * ((tk Z (tN t) 6).toInt64)) 1000))) (tN t) 3 = (tk Z (tN t) 3) + 1 from ((tk_ne (by decide)).trans tk_eq)) (cM_of l D cI cJ ad (tkp (tkp Z (tN t) 3 ((tk Z (tN t) 3) + 1)) (tN t) 2 ((tk Z (tN t) 2) + (sp_cutUp (((tk Z (tN t) 1).toInt64) * ((tk Z (tN t) 6).toInt64)) 1000))) _ t 3 ht 3 rfl (by decide))) (cwV 2 hts gX13_begins_X13_of rfl rfl rfl (by decide +kernel) ⟨Nat.le_of_ble_eq_true rfl, Nat.le_of_ble_eq_true rfl⟩) rfl hl.1 rfl (Nat.le_of_ble_eq_true rfl) dX13_begins_11 ⟨Nat.zero_le _, Nat.zero_le _⟩ ?_
    refine lv_imul hx hb dX13_begins_14 ?_
    refine lv_iadd hx hb dX13_begins_15 ?_
    refine lv_aload_n hx hb dX13_begins_16 rfl (lv_at hl 0 rfl) ?_
    refine m_rd S hK hP (As := []) (rest := [.int ((tk Z (tN t) 4) + (30 * ((tk Z (tN t) 3) + 1)))]) (met_r (show zh (tkp (tkp Z (tN t) 3 ((tk Z (tN t) 3) + 1)) (tN t) 2 ((tk Z (tN t) 2) + (sp_cutUp (((tk Z (tN t) 1).toInt64) * ((tk Z (tN t) 6).toInt64)) 1000))) 0 = zh Z 0 from ((zh_tkp).trans zh_tkp)) (cM_today l D cI cJ ad (tkp (tkp Z (tN t) 3 ((tk Z (tN t) 3) + 1)) (tN t) 2 ((tk Z (tN t) 2) + (sp_cutUp (((tk Z (tN t) 1).toInt64) * ((tk Z (tN t) 6).toInt64)) 1000))) _)) (cwV 0 hts gX13_begins_X13_today rfl rfl rfl (by decide +kernel) ⟨Nat.le_of_ble_eq_true rfl, Nat.le_of_ble_eq_true rfl⟩) rfl hl.1 rfl (Nat.le_of_ble_eq_true rfl) dX13_begins_17 ⟨Nat.zero_le _, Nat.zero_le _⟩ ?_
    refine lv_icmp_gt (tgt := 75) hx hb dX13_begins_20 (by decide) (fun c_2 => ?_) (fun c_2 => ?_)
    · have hsp : sp_begins Z t = tkp (tkp Z (tN t) 3 ((tk Z (tN t) 3) + 1)) (tN t) 2 ((tk Z (tN t) 2) + (sp_cutUp (((tk Z (tN t) 1).toInt64) * ((tk Z (tN t) 6).toInt64)) 1000)) := by unfold sp_begins; rw [if_neg c_1]
      exact W.vret hx hb hr (fun t2 ht2 hW => by rw [hsp]; exact ⟨rfl, by rw [ht2]; exact hP, hS.F ht2⟩) hS.2.2 dX13_begins_75 hlocks
    · exact absurd hone c_2
