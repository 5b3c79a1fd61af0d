/-! the class: the house, without loops and pledges (by cwalk.py) -/
def sc_X3_isFree (Z : hZ) (place : Int32) : Int32 :=
  if (gp Z (tN place)) = none then
    if (gb Z (tN place)) = 0 then
      1
    else
      0
  else
    0
set_option maxHeartbeats 4000000 in
set_option maxRecDepth 100000 in
theorem cC_X3_isFree (l : Launch) (D : va_G) (cs : Nat → ClassId) (k : Nat → Nat) (a : Nat → Nat) (Z : hZ) (sz : Nat) (place : Int32) (hpl : place = nI (tN place) ∧ tN place < 40) : Met l yX3_isFree wsX3_isFree ({ frames := 0, cells := 0, slots := 0, locals := 0 }) (cPc [.ref (a 0), .int place] D cs (([] ++ wH a (k 0) cs Z) ++ []) sz) (k2_QcV (.int (sc_X3_isFree Z place))) 0 0 (fun _ => False) := by
  refine c_in (P := pH a) (cc := cX3_isFree) (maxL := 2) (ret := (some .boolean)) (lv := [(0, .ref (a 0)), (1, .int place)]) (by decide) rfl (Nat.le_of_ble_eq_true rfl) rfl ?_
  intro p e s m below meth c ls S hr hlocks hin hsz hP hK hl hS
  subst hsz
  obtain ⟨hx, hb, hml, hown, hts⟩ := id S
  have hX3 : ∀ w ∈ wsX30, w ∈ wsX3_isFree := by decide +kernel
  refine lv_aload_n hx hb dX3_isFree_0 rfl (lv_at hl 0 rfl) ?_
  refine hx_get hx hb hts hX3 hown hK.1 hP 4 (by decide) (hts (.fieldLink RX3 25 "PledgeHouse$House" "pledges" "[LPledgeHouse$Pledge;") (by decide +kernel)) rfl (v := .ref (a 2)) rfl dX3_isFree_1 ?_
  refine lv_iload_n hx hb dX3_isFree_4 rfl (lv_at hl 1 rfl) ?_
  refine hx_pld hx hb hK.1 hP (tN place) hpl.1 hpl.2 (v := va_rf (gp Z (tN place))) (rfl) dX3_isFree_5 ?_
  refine lv_ifnonnullO (tgt := 22) hx hb dX3_isFree_6 (by decide) (fun c_1 => ?_) (fun c_1 => ?_)
  · refine lv_iconst (v := 0) hx hb dX3_isFree_22 (by decide) ?_
    have hsp : sc_X3_isFree Z place = 0 := by unfold sc_X3_isFree; rw [if_neg c_1]
    exact W.zret hx hb hr (by decide) (fun t2 ht2 hW => ⟨by rw [hsp], ht2⟩) (fun q hq => by cases hq) dX3_isFree_23 hlocks
  · refine lv_aload_n hx hb dX3_isFree_9 rfl (lv_at hl 0 rfl) ?_
    refine hx_get hx hb hts hX3 hown hK.1 hP 5 (by decide) (hts (.fieldLink RX3 29 "PledgeHouse$House" "boxes" "[Z") (by decide +kernel)) rfl (v := .ref (a 3)) rfl dX3_isFree_10 ?_
    refine lv_iload_n hx hb dX3_isFree_13 rfl (lv_at hl 1 rfl) ?_
    refine hx_bld hx hb hK.1 hP (tN place) hpl.1 hpl.2 (v := gb Z (tN place)) rfl dX3_isFree_14 ?_
    refine lv_if_ne (tgt := 22) hx hb dX3_isFree_15 (by decide) (fun c_2 => ?_) (fun c_2 => ?_)
    · refine lv_iconst (v := 0) hx hb dX3_isFree_22 (by decide) ?_
      have hsp : sc_X3_isFree Z place = 0 := by unfold sc_X3_isFree; rw [if_pos c_1, if_neg c_2]
      exact W.zret hx hb hr (by decide) (fun t2 ht2 hW => ⟨by rw [hsp], ht2⟩) (fun q hq => by cases hq) dX3_isFree_23 hlocks
    · refine lv_iconst (v := 1) hx hb dX3_isFree_18 (by decide) ?_
      refine lv_goto (tgt := 23) hx hb dX3_isFree_19 (by decide) ?_
      have hsp : sc_X3_isFree Z place = 1 := by unfold sc_X3_isFree; rw [if_pos c_1, if_pos c_2]
      exact W.zret hx hb hr (by decide) (fun t2 ht2 hW => ⟨by rw [hsp], ht2⟩) (fun q hq => by cases hq) dX3_isFree_23 hlocks
def sc_X3_whyNotTo (Z : hZ) (place : Int32) : Int32 :=
  if (sc_X3_isPlace place) = 0 then
    (-1)
  else
    if (sc_X3_isFree Z place) = 0 then
      (-2)
    else
      0
set_option maxHeartbeats 4000000 in
set_option maxRecDepth 100000 in
theorem cC_X3_whyNotTo (l : Launch) (D : va_G) (cs : Nat → ClassId) (k : Nat → Nat) (a : Nat → Nat) (Z : hZ) (sz : Nat) (place : Int32) : Met l yX3_whyNotTo wsX3_whyNotTo ({ frames := 1, cells := 0, slots := 0, locals := 21 }) (cPc [.ref (a 0), .int place] D cs (([] ++ wH a (k 0) cs Z) ++ []) sz) (k2_QcV (.int (sc_X3_whyNotTo Z place))) 0 0 (fun _ => False) := by
  refine c_in (P := pH a) (cc := cX3_whyNotTo) (maxL := 2) (ret := (some .int)) (lv := [(0, .ref (a 0)), (1, .int place)]) (by decide) rfl (Nat.le_of_ble_eq_true rfl) rfl ?_
  intro p e s m below meth c ls S hr hlocks hin hsz hP hK hl hS
  subst hsz
  obtain ⟨hx, hb, hml, hown, hts⟩ := id S
  refine lv_iload_n hx hb dX3_whyNotTo_0 rfl (lv_at hl 1 rfl) ?_
  refine m_st S (As := [.int place]) (rest := []) (cC_X3_isPlace l place) (cwS 1 hts gX3_whyNotTo_X3_isPlace rfl rfl rfl (by decide +kernel) ⟨Nat.le_of_ble_eq_true rfl, Nat.le_of_ble_eq_true rfl⟩) rfl hl.1 rfl (Nat.le_of_ble_eq_true rfl) dX3_whyNotTo_1 ⟨Nat.zero_le _, Nat.zero_le _⟩ ?_
  refine lv_if_ne (tgt := 9) hx hb dX3_whyNotTo_4 (by decide) (fun c_1 => ?_) (fun c_1 => ?_)
  · refine lv_aload_n hx hb dX3_whyNotTo_9 rfl (lv_at hl 0 rfl) ?_
    refine lv_iload_n hx hb dX3_whyNotTo_10 rfl (lv_at hl 1 rfl) ?_
    refine c_rd S hK (hP) (va_recv hK.1 hP (ci := 3) (q0 := _ + 0) rfl (get3 rfl)) (As := [.int place]) (rest := []) (cC_X3_isFree l D cs k a Z _  place ⟨(pl_of c_1).1, (pl_of c_1).2⟩) (cwV 1 hts gX3_whyNotTo_X3_isFree rfl rfl rfl (by decide +kernel) ⟨Nat.le_of_ble_eq_true rfl, Nat.le_of_ble_eq_true rfl⟩) rfl hl.1 rfl (Nat.le_of_ble_eq_true rfl) dX3_whyNotTo_11 ⟨Nat.zero_le _, Nat.zero_le _⟩ ?_
    refine lv_if_eq (tgt := 21) hx hb dX3_whyNotTo_14 (by decide) (fun c_2 => ?_) (fun c_2 => ?_)
    · refine lv_bipush (v := (-2)) hx hb dX3_whyNotTo_21 (by decide) ?_
      have hsp : sc_X3_whyNotTo Z place = (-2) := by unfold sc_X3_whyNotTo; rw [if_neg c_1, if_pos c_2]
      exact W.iret hx hb hr (fun t2 ht2 hW => ⟨by rw [hsp], ht2⟩) (fun q hq => by cases hq) dX3_whyNotTo_23 hlocks
    · refine lv_iconst (v := 0) hx hb dX3_whyNotTo_17 (by decide) ?_
      refine lv_goto (tgt := 23) hx hb dX3_whyNotTo_18 (by decide) ?_
      have hsp : sc_X3_whyNotTo Z place = 0 := by unfold sc_X3_whyNotTo; rw [if_neg c_1, if_neg c_2]
      exact W.iret hx hb hr (fun t2 ht2 hW => ⟨by rw [hsp], ht2⟩) (fun q hq => by cases hq) dX3_whyNotTo_23 hlocks
  · refine lv_iconst (v := (-1)) hx hb dX3_whyNotTo_7 (by decide) ?_
    have hsp : sc_X3_whyNotTo Z place = (-1) := by unfold sc_X3_whyNotTo; rw [if_pos c_1]
    exact W.iret hx hb hr (fun t2 ht2 hW => ⟨by rw [hsp], ht2⟩) (fun q hq => by cases hq) dX3_whyNotTo_8 hlocks
def sc_X3_whyNotFreeOn (Z : hZ) (place : Int32) : Int32 :=
  if (sc_X3_isPlace place) = 0 then
    (-1)
  else
    if (gp Z (tN place)) = none then
      (-2)
    else
      if (go Z (tN place)) = 0 then
        0
      else
        (-2)
set_option maxHeartbeats 4000000 in
set_option maxRecDepth 100000 in
theorem cC_X3_whyNotFreeOn (l : Launch) (D : va_G) (cs : Nat → ClassId) (k : Nat → Nat) (a : Nat → Nat) (Z : hZ) (sz : Nat) (place : Int32) : Met l yX3_whyNotFreeOn wsX3_whyNotFreeOn ({ frames := 1, cells := 0, slots := 0, locals := 20 }) (cPc [.ref (a 0), .int place] D cs (([] ++ wH a (k 0) cs Z) ++ []) sz) (k2_QcV (.int (sc_X3_whyNotFreeOn Z place))) 0 0 (fun _ => False) := by
  refine c_in (P := pH a) (cc := cX3_whyNotFreeOn) (maxL := 2) (ret := (some .int)) (lv := [(0, .ref (a 0)), (1, .int place)]) (by decide) rfl (Nat.le_of_ble_eq_true rfl) rfl ?_
  intro p e s m below meth c ls S hr hlocks hin hsz hP hK hl hS
  subst hsz
  obtain ⟨hx, hb, hml, hown, hts⟩ := id S
  have hX3 : ∀ w ∈ wsX30, w ∈ wsX3_whyNotFreeOn := by decide +kernel
  refine lv_iload_n hx hb dX3_whyNotFreeOn_0 rfl (lv_at hl 1 rfl) ?_
  refine m_st S (As := [.int place]) (rest := []) (cC_X3_isPlace l place) (cwS 1 hts gX3_whyNotFreeOn_X3_isPlace rfl rfl rfl (by decide +kernel) ⟨Nat.le_of_ble_eq_true rfl, Nat.le_of_ble_eq_true rfl⟩) rfl hl.1 rfl (Nat.le_of_ble_eq_true rfl) dX3_whyNotFreeOn_1 ⟨Nat.zero_le _, Nat.zero_le _⟩ ?_
  refine lv_if_ne (tgt := 9) hx hb dX3_whyNotFreeOn_4 (by decide) (fun c_1 => ?_) (fun c_1 => ?_)
  · refine lv_aload_n hx hb dX3_whyNotFreeOn_9 rfl (lv_at hl 0 rfl) ?_
    refine hx_get hx hb hts hX3 hown hK.1 hP 4 (by decide) (hts (.fieldLink RX3 25 "PledgeHouse$House" "pledges" "[LPledgeHouse$Pledge;") (by decide +kernel)) rfl (v := .ref (a 2)) rfl dX3_whyNotFreeOn_10 ?_
    refine lv_iload_n hx hb dX3_whyNotFreeOn_13 rfl (lv_at hl 1 rfl) ?_
    refine hx_pld hx hb hK.1 hP (tN place) (pl_of c_1).1 (pl_of c_1).2 (v := va_rf (gp Z (tN place))) (rfl) dX3_whyNotFreeOn_14 ?_
    refine lv_ifnullO (tgt := 27) hx hb dX3_whyNotFreeOn_15 (by decide) (fun c_2 => ?_) (fun c_2 => ?_)
    · refine lv_bipush (v := (-2)) hx hb dX3_whyNotFreeOn_27 (by decide) ?_
      refine lv_goto (tgt := 33) hx hb dX3_whyNotFreeOn_29 (by decide) ?_
      have hsp : sc_X3_whyNotFreeOn Z place = (-2) := by unfold sc_X3_whyNotFreeOn; rw [if_neg c_1, if_pos c_2]
      exact W.iret hx hb hr (fun t2 ht2 hW => ⟨by rw [hsp], ht2⟩) (fun q hq => by cases hq) dX3_whyNotFreeOn_33 hlocks
    · refine lv_aload_n hx hb dX3_whyNotFreeOn_18 rfl (lv_at hl 0 rfl) ?_
      refine hx_get hx hb hts hX3 hown hK.1 hP 6 (by decide) (hts (.fieldLink RX3 33 "PledgeHouse$House" "ticketOn" "[I") (by decide +kernel)) rfl (v := .ref (a 4)) rfl dX3_whyNotFreeOn_19 ?_
      refine lv_iload_n hx hb dX3_whyNotFreeOn_22 rfl (lv_at hl 1 rfl) ?_
      refine hx_old hx hb hK.1 hP (tN place) (pl_of c_1).1 (pl_of c_1).2 (v := go Z (tN place)) rfl dX3_whyNotFreeOn_23 ?_
      refine lv_if_eq (tgt := 32) hx hb dX3_whyNotFreeOn_24 (by decide) (fun c_3 => ?_) (fun c_3 => ?_)
      · refine lv_iconst (v := 0) hx hb dX3_whyNotFreeOn_32 (by decide) ?_
        have hsp : sc_X3_whyNotFreeOn Z place = 0 := by unfold sc_X3_whyNotFreeOn; rw [if_neg c_1, if_neg c_2, if_pos c_3]
        exact W.iret hx hb hr (fun t2 ht2 hW => ⟨by rw [hsp], ht2⟩) (fun q hq => by cases hq) dX3_whyNotFreeOn_33 hlocks
      · refine lv_bipush (v := (-2)) hx hb dX3_whyNotFreeOn_27 (by decide) ?_
        refine lv_goto (tgt := 33) hx hb dX3_whyNotFreeOn_29 (by decide) ?_
        have hsp : sc_X3_whyNotFreeOn Z place = (-2) := by unfold sc_X3_whyNotFreeOn; rw [if_neg c_1, if_neg c_2, if_neg c_3]
        exact W.iret hx hb hr (fun t2 ht2 hW => ⟨by rw [hsp], ht2⟩) (fun q hq => by cases hq) dX3_whyNotFreeOn_33 hlocks
  · refine lv_iconst (v := (-1)) hx hb dX3_whyNotFreeOn_7 (by decide) ?_
    have hsp : sc_X3_whyNotFreeOn Z place = (-1) := by unfold sc_X3_whyNotFreeOn; rw [if_pos c_1]
    exact W.iret hx hb hr (fun t2 ht2 hW => ⟨by rw [hsp], ht2⟩) (fun q hq => by cases hq) dX3_whyNotFreeOn_8 hlocks
theorem wt_of {Z : hZ} {x : Int32} (h : sc_X3_whyNotTo Z x = 0) : x = nI (tN x) ∧ tN x < 40 := by
  by_cases h0 : sc_X3_isPlace x = 0
  · unfold sc_X3_whyNotTo at h; rw [if_pos h0] at h; exact absurd h (by decide)
  · exact pl_of h0
theorem wf_of {Z : hZ} {x : Int32} (h : sc_X3_whyNotFreeOn Z x = 0) : x = nI (tN x) ∧ tN x < 40 := by
  by_cases h0 : sc_X3_isPlace x = 0
  · unfold sc_X3_whyNotFreeOn at h; rw [if_pos h0] at h; exact absurd h (by decide)
  · exact pl_of h0
def sc_X3_rateOf (Z : hZ) (kind : Int32) : Int32 :=
  if (4 + kind) < 4 then
    0
  else
    if 9 ≤ (4 + kind) then
      0
    else
      gr Z (tN (4 + kind))
set_option maxHeartbeats 4000000 in
set_option maxRecDepth 100000 in
theorem cC_X3_rateOf (l : Launch) (D : va_G) (cs : Nat → ClassId) (k : Nat → Nat) (a : Nat → Nat) (Z : hZ) (sz : Nat) (kind : Int32) : Met l yX3_rateOf wsX3_rateOf ({ frames := 0, cells := 0, slots := 0, locals := 0 }) (cPc [.ref (a 0), .int kind] D cs (([] ++ wH a (k 0) cs Z) ++ []) sz) (k2_QcV (.int (sc_X3_rateOf Z kind))) 0 0 (fun _ => False) := by
  refine c_in (P := pH a) (cc := cX3_rateOf) (maxL := 3) (ret := (some .int)) (lv := [(0, .ref (a 0)), (1, .int kind)]) (by decide) rfl (Nat.le_of_ble_eq_true rfl) rfl ?_
  intro p e s m below meth c ls S hr hlocks hin hsz hP hK hl hS
  subst hsz
  obtain ⟨hx, hb, hml, hown, hts⟩ := id S
  have hX3 : ∀ w ∈ wsX30, w ∈ wsX3_rateOf := by decide +kernel
  refine lv_iconst (v := 4) hx hb dX3_rateOf_0 (by decide) ?_
  refine lv_iload_n hx hb dX3_rateOf_1 rfl (lv_at hl 1 rfl) ?_
  refine lv_iadd hx hb dX3_rateOf_2 ?_
  refine lv_istore_n (lv' := [(2, .int (4 + kind)), (0, .ref (a 0)), (1, .int kind)]) hx hb dX3_rateOf_3 rfl hl (by decide) rfl (fun ls hl => ?_)
  refine lv_iload_n hx hb dX3_rateOf_4 rfl (lv_at hl 0 rfl) ?_
  refine lv_iconst (v := 4) hx hb dX3_rateOf_5 (by decide) ?_
  refine lv_icmp_lt (tgt := 24) hx hb dX3_rateOf_6 (by decide) (fun c_1 => ?_) (fun c_1 => ?_)
  · refine lv_iconst (v := 0) hx hb dX3_rateOf_24 (by decide) ?_
    have hsp : sc_X3_rateOf Z kind = 0 := by unfold sc_X3_rateOf; rw [if_pos c_1]
    exact W.iret hx hb hr (fun t2 ht2 hW => ⟨by rw [hsp], ht2⟩) (fun q hq => by cases hq) dX3_rateOf_25 hlocks
  · refine lv_iload_n hx hb dX3_rateOf_9 rfl (lv_at hl 0 rfl) ?_
    refine lv_bipush (v := 9) hx hb dX3_rateOf_10 (by decide) ?_
    refine lv_icmp_ge (tgt := 24) hx hb dX3_rateOf_12 (by decide) (fun c_2 => ?_) (fun c_2 => ?_)
    · refine lv_iconst (v := 0) hx hb dX3_rateOf_24 (by decide) ?_
      have hsp : sc_X3_rateOf Z kind = 0 := by unfold sc_X3_rateOf; rw [if_neg c_1, if_pos c_2]
      exact W.iret hx hb hr (fun t2 ht2 hW => ⟨by rw [hsp], ht2⟩) (fun q hq => by cases hq) dX3_rateOf_25 hlocks
    · refine lv_aload_n hx hb dX3_rateOf_15 rfl (lv_at hl 1 rfl) ?_
      refine hx_get hx hb hts hX3 hown hK.1 hP 3 (by decide) (hts (.fieldLink RX3 18 "PledgeHouse$House" "rules" "[I") (by decide +kernel)) rfl (v := .ref (a 1)) rfl dX3_rateOf_16 ?_
      refine lv_iload_n hx hb dX3_rateOf_19 rfl (lv_at hl 0 rfl) ?_
      refine hx_rld hx hb hK.1 hP (tN (4 + kind)) (ix_ge (d := 4) (c := 9) rfl (by decide) rfl (by decide) c_1 c_2).1 (Nat.lt_trans (ix_ge (d := 4) (c := 9) rfl (by decide) rfl (by decide) c_1 c_2).2 (by decide)) (v := gr Z (tN (4 + kind))) rfl dX3_rateOf_20 ?_
      refine lv_goto (tgt := 25) hx hb dX3_rateOf_21 (by decide) ?_
      have hsp : sc_X3_rateOf Z kind = gr Z (tN (4 + kind)) := by unfold sc_X3_rateOf; rw [if_neg c_1, if_neg c_2]
      exact W.iret hx hb hr (fun t2 ht2 hW => ⟨by rw [hsp], ht2⟩) (fun q hq => by cases hq) dX3_rateOf_25 hlocks
def sc_X3_partOf (Z : hZ) (kind : Int32) (worth : Int32) : Int32 :=
  if (9 + kind) < 9 then
    0
  else
    if 14 ≤ (9 + kind) then
      0
    else
      ((worth.toInt64 * ((gr Z (tN (9 + kind))).toInt64)) / 1000).toInt32
set_option maxHeartbeats 4000000 in
set_option maxRecDepth 100000 in
theorem cC_X3_partOf (l : Launch) (D : va_G) (cs : Nat → ClassId) (k : Nat → Nat) (a : Nat → Nat) (Z : hZ) (sz : Nat) (kind : Int32) (worth : Int32) : Met l yX3_partOf wsX3_partOf ({ frames := 0, cells := 0, slots := 0, locals := 0 }) (cPc [.ref (a 0), .int kind, .int worth] D cs (([] ++ wH a (k 0) cs Z) ++ []) sz) (k2_QcV (.int (sc_X3_partOf Z kind worth))) 0 0 (fun _ => False) := by
  refine c_in (P := pH a) (cc := cX3_partOf) (maxL := 4) (ret := (some .int)) (lv := [(0, .ref (a 0)), (1, .int kind), (2, .int worth)]) (by decide) rfl (Nat.le_of_ble_eq_true rfl) rfl ?_
  intro p e s m below meth c ls S hr hlocks hin hsz hP hK hl hS
  subst hsz
  obtain ⟨hx, hb, hml, hown, hts⟩ := id S
  have hX3 : ∀ w ∈ wsX30, w ∈ wsX3_partOf := by decide +kernel
  refine lv_bipush (v := 9) hx hb dX3_partOf_0 (by decide) ?_
  refine lv_iload_n hx hb dX3_partOf_2 rfl (lv_at hl 1 rfl) ?_
  refine lv_iadd hx hb dX3_partOf_3 ?_
  refine lv_istore_n (lv' := [(3, .int (9 + kind)), (0, .ref (a 0)), (1, .int kind), (2, .int worth)]) hx hb dX3_partOf_4 rfl hl (by decide) rfl (fun ls hl => ?_)
  refine lv_iload_n hx hb dX3_partOf_5 rfl (lv_at hl 0 rfl) ?_
  refine lv_bipush (v := 9) hx hb dX3_partOf_6 (by decide) ?_
  refine lv_icmp_lt (tgt := 38) hx hb dX3_partOf_8 (by decide) (fun c_1 => ?_) (fun c_1 => ?_)
  · refine lv_iconst (v := 0) hx hb dX3_partOf_38 (by decide) ?_
    have hsp : sc_X3_partOf Z kind worth = 0 := by unfold sc_X3_partOf; rw [if_pos c_1]
    exact W.iret hx hb hr (fun t2 ht2 hW => ⟨by rw [hsp], ht2⟩) (fun q hq => by cases hq) dX3_partOf_39 hlocks
  · refine lv_iload_n hx hb dX3_partOf_11 rfl (lv_at hl 0 rfl) ?_
    refine lv_aload_n hx hb dX3_partOf_12 rfl (lv_at hl 1 rfl) ?_
    refine hx_get hx hb hts hX3 hown hK.1 hP 3 (by decide) (hts (.fieldLink RX3 18 "PledgeHouse$House" "rules" "[I") (by decide +kernel)) rfl (v := .ref (a 1)) rfl dX3_partOf_13 ?_
    refine va_alen hx hb hK.1 hP (_ + 1) 0 (get3 rfl) rfl (v := 14) rfl dX3_partOf_16 ?_
    refine lv_icmp_ge (tgt := 38) hx hb dX3_partOf_17 (by decide) (fun c_2 => ?_) (fun c_2 => ?_)
    · refine lv_iconst (v := 0) hx hb dX3_partOf_38 (by decide) ?_
      have hsp : sc_X3_partOf Z kind worth = 0 := by unfold sc_X3_partOf; rw [if_neg c_1, if_pos c_2]
      exact W.iret hx hb hr (fun t2 ht2 hW => ⟨by rw [hsp], ht2⟩) (fun q hq => by cases hq) dX3_partOf_39 hlocks
    · refine lv_iload_n hx hb dX3_partOf_20 rfl (lv_at hl 3 rfl) ?_
      refine lv_i2l (v := worth.toInt64) hx hb dX3_partOf_21 rfl ?_
      refine lv_aload_n hx hb dX3_partOf_22 rfl (lv_at hl 1 rfl) ?_
      refine hx_get hx hb hts hX3 hown hK.1 hP 3 (by decide) (hts (.fieldLink RX3 18 "PledgeHouse$House" "rules" "[I") (by decide +kernel)) rfl (v := .ref (a 1)) rfl dX3_partOf_23 ?_
      refine lv_iload_n hx hb dX3_partOf_26 rfl (lv_at hl 0 rfl) ?_
      refine hx_rld hx hb hK.1 hP (tN (9 + kind)) (ix_ge (d := 9) (c := 14) rfl (by decide) rfl (by decide) c_1 c_2).1 (ix_ge (d := 9) (c := 14) rfl (by decide) rfl (by decide) c_1 c_2).2 (v := gr Z (tN (9 + kind))) rfl dX3_partOf_27 ?_
      refine lv_i2l (v := (gr Z (tN (9 + kind))).toInt64) hx hb dX3_partOf_28 rfl ?_
      refine lv_lmul hx hb dX3_partOf_29 ?_
      refine lv_ldc2 (v := 1000) hx hb hown (hts (.constantLong RX3 190 (1000)) (by decide +kernel)) dX3_partOf_30 ?_
      refine lv_ldiv hx hb dX3_partOf_33 (by decide) ?_
      refine lv_l2i (v := ((worth.toInt64 * ((gr Z (tN (9 + kind))).toInt64)) / 1000).toInt32) hx hb dX3_partOf_34 rfl ?_
      refine lv_goto (tgt := 39) hx hb dX3_partOf_35 (by decide) ?_
      have hsp : sc_X3_partOf Z kind worth = ((worth.toInt64 * ((gr Z (tN (9 + kind))).toInt64)) / 1000).toInt32 := by unfold sc_X3_partOf; rw [if_neg c_1, if_neg c_2]
      exact W.iret hx hb hr (fun t2 ht2 hW => ⟨by rw [hsp], ht2⟩) (fun q hq => by cases hq) dX3_partOf_39 hlocks
def sc_X3_boxOrNothing (Z : hZ) (place : Int32) : Int32 :=
  if (gb Z (tN place)) = 0 then
    (-1)
  else
    5
set_option maxHeartbeats 4000000 in
set_option maxRecDepth 100000 in
theorem cC_X3_boxOrNothing (l : Launch) (D : va_G) (cs : Nat → ClassId) (k : Nat → Nat) (a : Nat → Nat) (Z : hZ) (sz : Nat) (place : Int32) (hpl : place = nI (tN place) ∧ tN place < 40) : Met l yX3_boxOrNothing wsX3_boxOrNothing ({ frames := 0, cells := 0, slots := 0, locals := 0 }) (cPc [.ref (a 0), .int place] D cs (([] ++ wH a (k 0) cs Z) ++ []) sz) (k2_QcV (.int (sc_X3_boxOrNothing Z place))) 0 0 (fun _ => False) := by
  refine c_in (P := pH a) (cc := cX3_boxOrNothing) (maxL := 2) (ret := (some .int)) (lv := [(0, .ref (a 0)), (1, .int place)]) (by decide) rfl (Nat.le_of_ble_eq_true rfl) rfl ?_
  intro p e s m below meth c ls S hr hlocks hin hsz hP hK hl hS
  subst hsz
  obtain ⟨hx, hb, hml, hown, hts⟩ := id S
  have hX3 : ∀ w ∈ wsX30, w ∈ wsX3_boxOrNothing := by decide +kernel
  refine lv_aload_n hx hb dX3_boxOrNothing_0 rfl (lv_at hl 0 rfl) ?_
  refine hx_get hx hb hts hX3 hown hK.1 hP 5 (by decide) (hts (.fieldLink RX3 29 "PledgeHouse$House" "boxes" "[Z") (by decide +kernel)) rfl (v := .ref (a 3)) rfl dX3_boxOrNothing_1 ?_
  refine lv_iload_n hx hb dX3_boxOrNothing_4 rfl (lv_at hl 1 rfl) ?_
  refine hx_bld hx hb hK.1 hP (tN place) hpl.1 hpl.2 (v := gb Z (tN place)) rfl dX3_boxOrNothing_5 ?_
  refine lv_if_eq (tgt := 13) hx hb dX3_boxOrNothing_6 (by decide) (fun c_1 => ?_) (fun c_1 => ?_)
  · refine lv_iconst (v := (-1)) hx hb dX3_boxOrNothing_13 (by decide) ?_
    have hsp : sc_X3_boxOrNothing Z place = (-1) := by unfold sc_X3_boxOrNothing; rw [if_pos c_1]
    exact W.iret hx hb hr (fun t2 ht2 hW => ⟨by rw [hsp], ht2⟩) (fun q hq => by cases hq) dX3_boxOrNothing_14 hlocks
  · refine lv_iconst (v := 5) hx hb dX3_boxOrNothing_9 (by decide) ?_
    refine lv_goto (tgt := 14) hx hb dX3_boxOrNothing_10 (by decide) ?_
    have hsp : sc_X3_boxOrNothing Z place = 5 := by unfold sc_X3_boxOrNothing; rw [if_neg c_1]
    exact W.iret hx hb hr (fun t2 ht2 hW => ⟨by rw [hsp], ht2⟩) (fun q hq => by cases hq) dX3_boxOrNothing_14 hlocks
def sc_X3_findTicket (Z : hZ) (n : Int32) : Option Nat :=
  if n < 1 then
    none
  else
    if (gh Z 1) < n then
      none
    else
      gt Z (tN n - 1)
set_option maxHeartbeats 4000000 in
set_option maxRecDepth 100000 in
theorem cC_X3_findTicket (l : Launch) (D : va_G) (cs : Nat → ClassId) (k : Nat → Nat) (a : Nat → Nat) (Z : hZ) (sz : Nat) (n : Int32) (hc : gh Z 1 ≤ 511) : Met l yX3_findTicket wsX3_findTicket ({ frames := 0, cells := 0, slots := 0, locals := 0 }) (cPc [.ref (a 0), .int n] D cs (([] ++ wH a (k 0) cs Z) ++ []) sz) (k2_QcV (va_rf (sc_X3_findTicket Z n))) 0 0 (fun _ => False) := by
  refine c_in (P := pH a) (cc := cX3_findTicket) (maxL := 2) (ret := (some (.object "PledgeHouse$Ticket"))) (lv := [(0, .ref (a 0)), (1, .int n)]) (by decide) rfl (Nat.le_of_ble_eq_true rfl) rfl ?_
  intro p e s m below meth c ls S hr hlocks hin hsz hP hK hl hS
  subst hsz
  obtain ⟨hx, hb, hml, hown, hts⟩ := id S
  have hX3 : ∀ w ∈ wsX30, w ∈ wsX3_findTicket := by decide +kernel
  refine lv_iload_n hx hb dX3_findTicket_0 rfl (lv_at hl 1 rfl) ?_
  refine lv_iconst (v := 1) hx hb dX3_findTicket_1 (by decide) ?_
  refine lv_icmp_lt (tgt := 24) hx hb dX3_findTicket_2 (by decide) (fun c_1 => ?_) (fun c_1 => ?_)
  · refine lv_null hx hb dX3_findTicket_24 ?_
    have hsp : sc_X3_findTicket Z n = none := by unfold sc_X3_findTicket; rw [if_pos c_1]
    exact W.aret hx hb hr (Or.inl ⟨_, rfl⟩) (Or.inl rfl) (fun t2 ht2 hW => ⟨by rw [hsp]; rfl, ht2⟩) (fun q hq => by cases hq) dX3_findTicket_25 hlocks
  · refine lv_iload_n hx hb dX3_findTicket_5 rfl (lv_at hl 1 rfl) ?_
    refine lv_aload_n hx hb dX3_findTicket_6 rfl (lv_at hl 0 rfl) ?_
    refine hx_get hx hb hts hX3 hown hK.1 hP 8 (by decide) (hts (.fieldLink RX3 59 "PledgeHouse$House" "ticketCount" "I") (by decide +kernel)) rfl (v := .int (gh Z 1)) rfl dX3_findTicket_7 ?_
    refine lv_icmp_gt (tgt := 24) hx hb dX3_findTicket_10 (by decide) (fun c_2 => ?_) (fun c_2 => ?_)
    · refine lv_null hx hb dX3_findTicket_24 ?_
      have hsp : sc_X3_findTicket Z n = none := by unfold sc_X3_findTicket; rw [if_neg c_1, if_pos c_2]
      exact W.aret hx hb hr (Or.inl ⟨_, rfl⟩) (Or.inl rfl) (fun t2 ht2 hW => ⟨by rw [hsp]; rfl, ht2⟩) (fun q hq => by cases hq) dX3_findTicket_25 hlocks
    · refine lv_aload_n hx hb dX3_findTicket_13 rfl (lv_at hl 0 rfl) ?_
      refine hx_get hx hb hts hX3 hown hK.1 hP 7 (by decide) (hts (.fieldLink RX3 38 "PledgeHouse$House" "tickets" "[LPledgeHouse$Ticket;") (by decide +kernel)) rfl (v := .ref (a 5)) rfl dX3_findTicket_14 ?_
      refine lv_iload_n hx hb dX3_findTicket_17 rfl (lv_at hl 1 rfl) ?_
      refine lv_iconst (v := 1) hx hb dX3_findTicket_18 (by decide) ?_
      refine lv_isub hx hb dX3_findTicket_19 ?_
      refine hx_tld hx hb hK.1 hP (tN n - 1) (ix_tk hc c_1 c_2).1 (ix_tk hc c_1 c_2).2 (v := va_rf (gt Z (tN n - 1))) (rfl) dX3_findTicket_20 ?_
      refine lv_goto (tgt := 25) hx hb dX3_findTicket_21 (by decide) ?_
      have hsp : sc_X3_findTicket Z n = gt Z (tN n - 1) := by unfold sc_X3_findTicket; rw [if_neg c_1, if_neg c_2]
      exact W.aret hx hb hr (Or.inl ⟨_, rfl⟩) (va_rf_orc _) (fun t2 ht2 hW => ⟨by rw [hsp], ht2⟩) (fun q hq => by cases hq) dX3_findTicket_25 hlocks
def sc_X3_addRow (Z : hZ) (RW : Nat → Nat → Int64) (rc : Nat) : (hZ) × (Nat → Nat → Int64) :=
  (ghp Z 2 (sc_X0_countBehind (sc_X0_rowBehind RW rc (gh Z 0)) (nI rc)), (sc_X0_rowBehind RW rc (gh Z 0)))
set_option maxHeartbeats 4000000 in
set_option maxRecDepth 100000 in
theorem cC_X3_addRow (l : Launch) (D : va_G) (cs : Nat → ClassId) (k : Nat → Nat) (a : Nat → Nat) (Z : hZ) (r : Nat → Nat) (RW : Nat → Nat → Int64) (sz : Nat) (ia : iH a) (ik : iB k r) (d : dHB a k r) (rc : Nat) (hrc : gh Z 2 = nI rc) (hrl : rc ≤ 511) : Met l yX3_addRow wsX3_addRow ({ frames := 2, cells := 0, slots := 0, locals := 46 }) (cPc [.ref (a 0)] D cs (([] ++ wH a (k 0) cs Z) ++ wB k r cs RW) sz) (cQ D (some (.ref (r rc))) (([] ++ wH a (k 0) cs ((sc_X3_addRow Z RW rc).1)) ++ wB k r cs ((sc_X3_addRow Z RW rc).2)) (adA (pOr (pH a) (pB k r)) sz)) 0 0 (adA (pOr (pH a) (pB k r)) sz) := by
  refine c_in (P := pOr (pH a) (pB k r)) (cc := cX3_addRow) (maxL := 2) (ret := (some (.array .long))) (lv := [(0, .ref (a 0))]) (by decide) rfl (Nat.le_of_ble_eq_true rfl) rfl ?_
  intro p e s m below meth c ls S hr hlocks hin hsz hP hK hl hS
  subst hsz
  obtain ⟨hx, hb, hml, hown, hts⟩ := id S
  have hX3 : ∀ w ∈ wsX30, w ∈ wsX3_addRow := by decide +kernel
  refine lv_aload_n hx hb dX3_addRow_0 rfl (lv_at hl 0 rfl) ?_
  refine hx_get hx hb hts hX3 hown hK.1 hP 0 (by decide) (hts (.fieldLink RX3 42 "PledgeHouse$House" "books" "LPledgeHouse$Books;") (by decide +kernel)) rfl (v := .ref (k 0)) rfl dX3_addRow_1 ?_
  refine lv_aload_n hx hb dX3_addRow_4 rfl (lv_at hl 0 rfl) ?_
  refine hx_get hx hb hts hX3 hown hK.1 hP 1 (by decide) (hts (.fieldLink RX3 46 "PledgeHouse$House" "rowCount" "I") (by decide +kernel)) rfl (v := .int (gh Z 2)) rfl dX3_addRow_5 ?_
  refine wtop (congrArg Value.int (show (gh Z 2 : Int32) = nI rc from hrc)) ?_
  refine lv_aload_n hx hb dX3_addRow_8 rfl (lv_at hl 0 rfl) ?_
  refine hx_get hx hb hts hX3 hown hK.1 hP 2 (by decide) (hts (.fieldLink RX3 50 "PledgeHouse$House" "today" "I") (by decide +kernel)) rfl (v := .int (gh Z 0)) rfl dX3_addRow_9 ?_
  refine c_wr (WS' := ([] ++ wH a (k 0) cs Z) ++ wB k r cs (sc_X0_rowBehind RW rc (gh Z 0))) S hK (show va_P D vwCl ([] ++ wB k r cs RW) _ from vaR hP) (va_recv hK.1 (vaR hP) (ci := 0) (q0 := 0) rfl rfl) hS (As := [.int (nI rc), .int (gh Z 0)]) (rest := []) (cC_X0_rowBehind l D cs k r RW _ ik rc (gh Z 0) (Nat.le_trans hrl (by decide))) (cwV 2 hts gX3_addRow_X0_rowBehind rfl rfl rfl (by decide +kernel) ⟨Nat.le_of_ble_eq_true rfl, Nat.le_of_ble_eq_true rfl⟩) rfl hl.1 rfl (Nat.le_of_ble_eq_true rfl) dX3_addRow_12 ⟨Nat.zero_le _, Nat.zero_le _⟩ (fun q h => adA_le hS.1 q (h.elim (fun t => Or.inl (Or.inr t)) Or.inr)) (fun H1 _ hk h => (va_P.app (keepP (vaL hP) wH_p (fun q h1 h2 => d q h1 h2) hk) h)) (fun H locs hP hS => ?_)
  refine lv_astore_n (lv' := [(1, .ref (r rc)), (0, .ref (a 0))]) hx hb dX3_addRow_15 rfl hl (by decide) rfl (fun ls hl => ?_)
  refine lv_aload_n hx hb dX3_addRow_16 rfl (lv_at hl 1 rfl) ?_
  refine lv_aload_n hx hb dX3_addRow_17 rfl (lv_at hl 1 rfl) ?_
  refine hx_get hx hb hts hX3 hown hK.1 hP 0 (by decide) (hts (.fieldLink RX3 42 "PledgeHouse$House" "books" "LPledgeHouse$Books;") (by decide +kernel)) rfl (v := .ref (k 0)) rfl dX3_addRow_18 ?_
  refine lv_aload_n hx hb dX3_addRow_21 rfl (lv_at hl 1 rfl) ?_
  refine hx_get hx hb hts hX3 hown hK.1 hP 1 (by decide) (hts (.fieldLink RX3 46 "PledgeHouse$House" "rowCount" "I") (by decide +kernel)) rfl (v := .int (gh Z 2)) rfl dX3_addRow_22 ?_
  refine wtop (congrArg Value.int (show (gh Z 2 : Int32) = nI rc from hrc)) ?_
  refine c_rd S hK (show va_P D vwCl ([] ++ wB k r cs (sc_X0_rowBehind RW rc (gh Z 0))) _ from vaR hP) (va_recv hK.1 (vaR hP) (ci := 0) (q0 := 0) rfl rfl) (As := [.int (nI rc)]) (rest := [.ref (a 0)]) (cC_X0_countBehind l D cs k r (sc_X0_rowBehind RW rc (gh Z 0)) _  (nI rc) ) (cwV 1 hts gX3_addRow_X0_countBehind rfl rfl rfl (by decide +kernel) ⟨Nat.le_of_ble_eq_true rfl, Nat.le_of_ble_eq_true rfl⟩) rfl hl.1 rfl (Nat.le_of_ble_eq_true rfl) dX3_addRow_25 ⟨Nat.zero_le _, Nat.zero_le _⟩ ?_
  refine hx_put hx hb hts hX3 hown hK.1 hP (wHB_D ia ik d s.heap.size) hS 1 2 (by decide) (hts (.fieldLink RX3 46 "PledgeHouse$House" "rowCount" "I") (by decide +kernel)) dX3_addRow_28 (fun H locs hP hS => ?_)
  refine lv_aload_n hx hb dX3_addRow_31 rfl (lv_at hl 0 rfl) ?_
  have hsp : sc_X3_addRow Z RW rc = (ghp Z 2 (sc_X0_countBehind (sc_X0_rowBehind RW rc (gh Z 0)) (nI rc)), (sc_X0_rowBehind RW rc (gh Z 0))) := rfl
  exact W.aret hx hb hr (Or.inr ⟨_, rfl⟩) (Or.inr ⟨_, rfl⟩) (fun t2 ht2 hW => by rw [hsp]; exact ⟨rfl, by rw [ht2]; exact hP, hS.F ht2⟩) hS.2.2 dX3_addRow_32 hlocks
def sc_X3_takeAway (Z : hZ) (RW : Nat → Nat → Int64) (rc : Nat) (place : Int32) : Int32 × (hZ) × (Nat → Nat → Int64) :=
  if (sc_X3_whyNotFreeOn Z place) = 0 then
    (0, (sc_X3_addRow (gpp Z (tN place) none) RW rc).1, rwp ((sc_X3_addRow (gpp Z (tN place) none) RW rc).2) rc 11 ((((sc_X3_addRow (gpp Z (tN place) none) RW rc).2) rc 11) - 1))
  else
    (sc_X3_whyNotFreeOn Z place, Z, RW)
set_option maxHeartbeats 4000000 in
set_option maxRecDepth 100000 in
theorem cC_X3_takeAway (l : Launch) (D : va_G) (cs : Nat → ClassId) (k : Nat → Nat) (a : Nat → Nat) (Z : hZ) (r : Nat → Nat) (RW : Nat → Nat → Int64) (sz : Nat) (ia : iH a) (ik : iB k r) (d : dHB a k r) (rc : Nat) (place : Int32) (hrc : gh Z 2 = nI rc) (hrl : rc ≤ 511) : Met l yX3_takeAway wsX3_takeAway ({ frames := 3, cells := 0, slots := 0, locals := 67 }) (cPc [.ref (a 0), .int place] D cs (([] ++ wH a (k 0) cs Z) ++ wB k r cs RW) sz) (cQ D (some (.int (sc_X3_takeAway Z RW rc place).1)) (([] ++ wH a (k 0) cs ((sc_X3_takeAway Z RW rc place).2.1)) ++ wB k r cs ((sc_X3_takeAway Z RW rc place).2.2)) (adA (pOr (pH a) (pB k r)) sz)) 0 0 (adA (pOr (pH a) (pB k r)) sz) := by
  refine c_in (P := pOr (pH a) (pB k r)) (cc := cX3_takeAway) (maxL := 3) (ret := (some .int)) (lv := [(0, .ref (a 0)), (1, .int place)]) (by decide) rfl (Nat.le_of_ble_eq_true rfl) rfl ?_
  intro p e s m below meth c ls S hr hlocks hin hsz hP hK hl hS
  subst hsz
  obtain ⟨hx, hb, hml, hown, hts⟩ := id S
  have hX3 : ∀ w ∈ wsX30, w ∈ wsX3_takeAway := by decide +kernel
  refine lv_aload_n hx hb dX3_takeAway_0 rfl (lv_at hl 0 rfl) ?_
  refine lv_iload_n hx hb dX3_takeAway_1 rfl (lv_at hl 1 rfl) ?_
  refine c_rd S hK (show va_P D vwCl (([] ++ wH a (k 0) cs Z) ++ []) _ from vaL hP) (va_recv hK.1 hP (ci := 3) (q0 := _ + 0) rfl (get3 rfl)) (As := [.int place]) (rest := []) (cC_X3_whyNotFreeOn l D cs k a Z _  place ) (cwV 1 hts gX3_takeAway_X3_whyNotFreeOn rfl rfl rfl (by decide +kernel) ⟨Nat.le_of_ble_eq_true rfl, Nat.le_of_ble_eq_true rfl⟩) rfl hl.1 rfl (Nat.le_of_ble_eq_true rfl) dX3_takeAway_2 ⟨Nat.zero_le _, Nat.zero_le _⟩ ?_
  refine lv_istore_n (lv' := [(2, .int (sc_X3_whyNotFreeOn Z place)), (0, .ref (a 0)), (1, .int place)]) hx hb dX3_takeAway_5 rfl hl (by decide) rfl (fun ls hl => ?_)
  refine lv_iload_n hx hb dX3_takeAway_6 rfl (lv_at hl 0 rfl) ?_
  refine lv_if_eq (tgt := 12) hx hb dX3_takeAway_7 (by decide) (fun c_1 => ?_) (fun c_1 => ?_)
  · refine lv_aload_n hx hb dX3_takeAway_12 rfl (lv_at hl 1 rfl) ?_
    refine hx_get hx hb hts hX3 hown hK.1 hP 4 (by decide) (hts (.fieldLink RX3 25 "PledgeHouse$House" "pledges" "[LPledgeHouse$Pledge;") (by decide +kernel)) rfl (v := .ref (a 2)) rfl dX3_takeAway_13 ?_
    refine lv_iload_n hx hb dX3_takeAway_16 rfl (lv_at hl 2 rfl) ?_
    refine lv_null hx hb dX3_takeAway_17 ?_
    refine hx_pstN hx hb hK.1 hP (wHB_D ia ik d s.heap.size) hS (tN place) (wf_of c_1).1 (wf_of c_1).2 dX3_takeAway_18 (fun H locs hP hS => ?_)
    refine lv_aload_n hx hb dX3_takeAway_19 rfl (lv_at hl 1 rfl) ?_
    refine c_wr (WS' := ([] ++ wH a (k 0) cs ((sc_X3_addRow (gpp Z (tN place) none) RW rc).1)) ++ wB k r cs ((sc_X3_addRow (gpp Z (tN place) none) RW rc).2)) S hK (hP) (va_recv hK.1 hP (ci := 3) (q0 := _ + 0) rfl (get3 rfl)) hS (As := []) (rest := []) (cC_X3_addRow l D cs k a (gpp Z (tN place) none) r RW _ ia ik d rc ((show gh (gpp Z (tN place) none) 2 = gh Z 2 from gh_gpp).trans hrc) hrl) (cwV 0 hts gX3_takeAway_X3_addRow rfl rfl rfl (by decide +kernel) ⟨Nat.le_of_ble_eq_true rfl, Nat.le_of_ble_eq_true rfl⟩) rfl hl.1 rfl (Nat.le_of_ble_eq_true rfl) dX3_takeAway_20 ⟨Nat.zero_le _, Nat.zero_le _⟩ (adA_le hS.1) (fun _ _ _ h => h) (fun H locs hP hS => ?_)
    refine lv_bipush (v := 11) hx hb dX3_takeAway_23 (by decide) ?_
    refine lv_dup2_11 hx hb dX3_takeAway_25 rfl rfl ?_
    refine b_lald hx hb hK.1 hP rc 11 (Nat.lt_of_le_of_lt hrl (by decide)) rfl (by decide) (v := ((sc_X3_addRow (gpp Z (tN place) none) RW rc).2) rc 11) rfl dX3_takeAway_26 ?_
    refine lv_lconst (v := 1) hx hb dX3_takeAway_27 (by decide) ?_
    refine lv_lsub hx hb dX3_takeAway_28 ?_
    refine b_last hx hb hK.1 hP (wHB_D ia ik d s.heap.size) hS rc 11 (Nat.lt_of_le_of_lt hrl (by decide)) rfl (by decide) dX3_takeAway_29 (fun H locs hP hS => ?_)
    refine lv_iconst (v := 0) hx hb dX3_takeAway_30 (by decide) ?_
    have hsp : sc_X3_takeAway Z RW rc place = (0, (sc_X3_addRow (gpp Z (tN place) none) RW rc).1, rwp ((sc_X3_addRow (gpp Z (tN place) none) RW rc).2) rc 11 ((((sc_X3_addRow (gpp Z (tN place) none) RW rc).2) rc 11) - 1)) := by unfold sc_X3_takeAway; rw [if_pos c_1]
    exact W.iret hx hb hr (fun t2 ht2 hW => by rw [hsp]; exact ⟨rfl, by rw [ht2]; exact hP, hS.F ht2⟩) hS.2.2 dX3_takeAway_31 hlocks
  · refine lv_iload_n hx hb dX3_takeAway_10 rfl (lv_at hl 0 rfl) ?_
    have hsp : sc_X3_takeAway Z RW rc place = (sc_X3_whyNotFreeOn Z place, Z, RW) := by unfold sc_X3_takeAway; rw [if_neg c_1]
    exact W.iret hx hb hr (fun t2 ht2 hW => by rw [hsp]; exact ⟨rfl, by rw [ht2]; exact hP, hS.F ht2⟩) hS.2.2 dX3_takeAway_11 hlocks
def sc_X3_moveBox (Z : hZ) (place : Int32) : Int32 × (hZ) :=
  if (sc_X3_isPlace place) = 0 then
    ((-1), Z)
  else
    if (gp Z (tN place)) = none then
      if (gb Z (tN place)) = 0 then
        (1, gbp Z (tN place) 1)
      else
        (0, gbp Z (tN place) 0)
    else
      ((-2), Z)
set_option maxHeartbeats 4000000 in
set_option maxRecDepth 100000 in
theorem cC_X3_moveBox (l : Launch) (D : va_G) (cs : Nat → ClassId) (k : Nat → Nat) (a : Nat → Nat) (Z : hZ) (sz : Nat) (ia : iH a) (place : Int32) : Met l yX3_moveBox wsX3_moveBox ({ frames := 1, cells := 0, slots := 0, locals := 20 }) (cPc [.ref (a 0), .int place] D cs (([] ++ wH a (k 0) cs Z) ++ []) sz) (cQ D (some (.int (sc_X3_moveBox Z place).1)) (([] ++ wH a (k 0) cs ((sc_X3_moveBox Z place).2)) ++ []) (adA (pH a) sz)) 0 0 (adA (pH a) sz) := by
  refine c_in (P := pH a) (cc := cX3_moveBox) (maxL := 2) (ret := (some .int)) (lv := [(0, .ref (a 0)), (1, .int place)]) (by decide) rfl (Nat.le_of_ble_eq_true rfl) rfl ?_
  intro p e s m below meth c ls S hr hlocks hin hsz hP hK hl hS
  subst hsz
  obtain ⟨hx, hb, hml, hown, hts⟩ := id S
  have hX3 : ∀ w ∈ wsX30, w ∈ wsX3_moveBox := by decide +kernel
  refine lv_iload_n hx hb dX3_moveBox_0 rfl (lv_at hl 1 rfl) ?_
  refine m_st S (As := [.int place]) (rest := []) (cC_X3_isPlace l place) (cwS 1 hts gX3_moveBox_X3_isPlace rfl rfl rfl (by decide +kernel) ⟨Nat.le_of_ble_eq_true rfl, Nat.le_of_ble_eq_true rfl⟩) rfl hl.1 rfl (Nat.le_of_ble_eq_true rfl) dX3_moveBox_1 ⟨Nat.zero_le _, Nat.zero_le _⟩ ?_
  refine lv_if_ne (tgt := 9) hx hb dX3_moveBox_4 (by decide) (fun c_1 => ?_) (fun c_1 => ?_)
  · refine lv_aload_n hx hb dX3_moveBox_9 rfl (lv_at hl 0 rfl) ?_
    refine hx_get hx hb hts hX3 hown hK.1 hP 4 (by decide) (hts (.fieldLink RX3 25 "PledgeHouse$House" "pledges" "[LPledgeHouse$Pledge;") (by decide +kernel)) rfl (v := .ref (a 2)) rfl dX3_moveBox_10 ?_
    refine lv_iload_n hx hb dX3_moveBox_13 rfl (lv_at hl 1 rfl) ?_
    refine hx_pld hx hb hK.1 hP (tN place) (pl_of c_1).1 (pl_of c_1).2 (v := va_rf (gp Z (tN place))) (rfl) dX3_moveBox_14 ?_
    refine lv_ifnullO (tgt := 21) hx hb dX3_moveBox_15 (by decide) (fun c_2 => ?_) (fun c_2 => ?_)
    · refine lv_aload_n hx hb dX3_moveBox_21 rfl (lv_at hl 0 rfl) ?_
      refine hx_get hx hb hts hX3 hown hK.1 hP 5 (by decide) (hts (.fieldLink RX3 29 "PledgeHouse$House" "boxes" "[Z") (by decide +kernel)) rfl (v := .ref (a 3)) rfl dX3_moveBox_22 ?_
      refine lv_iload_n hx hb dX3_moveBox_25 rfl (lv_at hl 1 rfl) ?_
      refine lv_aload_n hx hb dX3_moveBox_26 rfl (lv_at hl 0 rfl) ?_
      refine hx_get hx hb hts hX3 hown hK.1 hP 5 (by decide) (hts (.fieldLink RX3 29 "PledgeHouse$House" "boxes" "[Z") (by decide +kernel)) rfl (v := .ref (a 3)) rfl dX3_moveBox_27 ?_
      refine lv_iload_n hx hb dX3_moveBox_30 rfl (lv_at hl 1 rfl) ?_
      refine hx_bld hx hb hK.1 hP (tN place) (pl_of c_1).1 (pl_of c_1).2 (v := gb Z (tN place)) rfl dX3_moveBox_31 ?_
      refine lv_if_ne (tgt := 39) hx hb dX3_moveBox_32 (by decide) (fun c_3 => ?_) (fun c_3 => ?_)
      · refine lv_iconst (v := 0) hx hb dX3_moveBox_39 (by decide) ?_
        refine hx_bst hx hb hK.1 hP (wH_D ia s.heap.size) hS (tN place) (pl_of c_1).1 (pl_of c_1).2 rfl dX3_moveBox_40 (fun H locs hP hS => ?_)
        refine lv_aload_n hx hb dX3_moveBox_41 rfl (lv_at hl 0 rfl) ?_
        refine hx_get hx hb hts hX3 hown hK.1 hP 5 (by decide) (hts (.fieldLink RX3 29 "PledgeHouse$House" "boxes" "[Z") (by decide +kernel)) rfl (v := .ref (a 3)) rfl dX3_moveBox_42 ?_
        refine lv_iload_n hx hb dX3_moveBox_45 rfl (lv_at hl 1 rfl) ?_
        refine hx_bld hx hb hK.1 hP (tN place) (pl_of c_1).1 (pl_of c_1).2 (v := 0) gb_gbp_eq dX3_moveBox_46 ?_
        refine lv_if_eq (tgt := 54) hx hb dX3_moveBox_47 (by decide) (fun c_4 => ?_) (fun c_4 => ?_)
        · refine lv_iconst (v := 0) hx hb dX3_moveBox_54 (by decide) ?_
          have hsp : sc_X3_moveBox Z place = (0, gbp Z (tN place) 0) := by unfold sc_X3_moveBox; rw [if_neg c_1, if_pos c_2, if_neg c_3]
          exact W.iret hx hb hr (fun t2 ht2 hW => by rw [hsp]; exact ⟨rfl, by rw [ht2]; exact hP, hS.F ht2⟩) hS.2.2 dX3_moveBox_55 hlocks
        · exact absurd c_4 (by decide)
      · refine lv_iconst (v := 1) hx hb dX3_moveBox_35 (by decide) ?_
        refine lv_goto (tgt := 40) hx hb dX3_moveBox_36 (by decide) ?_
        refine hx_bst hx hb hK.1 hP (wH_D ia s.heap.size) hS (tN place) (pl_of c_1).1 (pl_of c_1).2 rfl dX3_moveBox_40 (fun H locs hP hS => ?_)
        refine lv_aload_n hx hb dX3_moveBox_41 rfl (lv_at hl 0 rfl) ?_
        refine hx_get hx hb hts hX3 hown hK.1 hP 5 (by decide) (hts (.fieldLink RX3 29 "PledgeHouse$House" "boxes" "[Z") (by decide +kernel)) rfl (v := .ref (a 3)) rfl dX3_moveBox_42 ?_
        refine lv_iload_n hx hb dX3_moveBox_45 rfl (lv_at hl 1 rfl) ?_
        refine hx_bld hx hb hK.1 hP (tN place) (pl_of c_1).1 (pl_of c_1).2 (v := 1) gb_gbp_eq dX3_moveBox_46 ?_
        refine lv_if_eq (tgt := 54) hx hb dX3_moveBox_47 (by decide) (fun c_5 => ?_) (fun c_5 => ?_)
        · exact absurd c_5 (by decide)
        · refine lv_iconst (v := 1) hx hb dX3_moveBox_50 (by decide) ?_
          refine lv_goto (tgt := 55) hx hb dX3_moveBox_51 (by decide) ?_
          have hsp : sc_X3_moveBox Z place = (1, gbp Z (tN place) 1) := by unfold sc_X3_moveBox; rw [if_neg c_1, if_pos c_2, if_pos c_3]
          exact W.iret hx hb hr (fun t2 ht2 hW => by rw [hsp]; exact ⟨rfl, by rw [ht2]; exact hP, hS.F ht2⟩) hS.2.2 dX3_moveBox_55 hlocks
    · refine lv_bipush (v := (-2)) hx hb dX3_moveBox_18 (by decide) ?_
      have hsp : sc_X3_moveBox Z place = ((-2), Z) := by unfold sc_X3_moveBox; rw [if_neg c_1, if_neg c_2]
      exact W.iret hx hb hr (fun t2 ht2 hW => by rw [hsp]; exact ⟨rfl, by rw [ht2]; exact hP, hS.F ht2⟩) hS.2.2 dX3_moveBox_20 hlocks
  · refine lv_iconst (v := (-1)) hx hb dX3_moveBox_7 (by decide) ?_
    have hsp : sc_X3_moveBox Z place = ((-1), Z) := by unfold sc_X3_moveBox; rw [if_pos c_1]
    exact W.iret hx hb hr (fun t2 ht2 hW => by rw [hsp]; exact ⟨rfl, by rw [ht2]; exact hP, hS.F ht2⟩) hS.2.2 dX3_moveBox_8 hlocks
def sc_X3_tearHalf (nm : Int32) (v : Nat → Int32) (Z : hZ) (how : Int32) : Int32 × (Nat → Int32) × (hZ) :=
  if (sc_X9_isTorn nm v) = 0 then
    if how = 0 then
      (0, (sc_X9_tearAll nm v), Z)
    else
      if how = 1 then
        (0, (sc_X9_tearAllButNumber nm v), Z)
      else
        ((-6), v, Z)
  else
    ((-2), v, Z)
set_option maxHeartbeats 4000000 in
set_option maxRecDepth 100000 in
theorem cC_X3_tearHalf (l : Launch) (D : va_G) (cs : Nat → ClassId) (b : Nat → Nat) (nm : Int32) (v : Nat → Int32) (k : Nat → Nat) (a : Nat → Nat) (Z : hZ) (sz : Nat) (ib : iT b) (ia : iH a) (d : dTH b a) (how : Int32) : Met l yX3_tearHalf wsX3_tearHalf ({ frames := 1, cells := 0, slots := 0, locals := 20 }) (cPc [.ref (a 0), .ref (b 0), .int how] D cs ((wT b nm v ++ wH a (k 0) cs Z) ++ []) sz) (cQ D (some (.int (sc_X3_tearHalf nm v Z how).1)) ((wT b nm ((sc_X3_tearHalf nm v Z how).2.1) ++ wH a (k 0) cs ((sc_X3_tearHalf nm v Z how).2.2)) ++ []) (adA (pOr (pT b) (pH a)) sz)) 0 0 (adA (pOr (pT b) (pH a)) sz) := by
  refine c_in (P := pOr (pT b) (pH a)) (cc := cX3_tearHalf) (maxL := 3) (ret := (some .int)) (lv := [(0, .ref (a 0)), (1, .ref (b 0)), (2, .int how)]) (by decide) rfl (Nat.le_of_ble_eq_true rfl) rfl ?_
  intro p e s m below meth c ls S hr hlocks hin hsz hP hK hl hS
  subst hsz
  obtain ⟨hx, hb, hml, hown, hts⟩ := id S
  refine lv_aload_n hx hb dX3_tearHalf_0 rfl (lv_at hl 1 rfl) ?_
  refine lv_ifnonnull (tgt := 6) hx hb dX3_tearHalf_1 (by decide) ?_
  refine lv_aload_n hx hb dX3_tearHalf_6 rfl (lv_at hl 1 rfl) ?_
  refine c_rd S hK (show va_P D vwCl (wT b nm v) _ from vaL (vaL hP)) (va_recv hK.1 hP (ci := 8) (q0 := 0) rfl rfl) (As := []) (rest := []) (cC_X9_isTorn l D cs b nm v _   ) (cwV 0 hts gX3_tearHalf_X9_isTorn rfl rfl rfl (by decide +kernel) ⟨Nat.le_of_ble_eq_true rfl, Nat.le_of_ble_eq_true rfl⟩) rfl hl.1 rfl (Nat.le_of_ble_eq_true rfl) dX3_tearHalf_7 ⟨Nat.zero_le _, Nat.zero_le _⟩ ?_
  refine lv_if_eq (tgt := 16) hx hb dX3_tearHalf_10 (by decide) (fun c_1 => ?_) (fun c_1 => ?_)
  · refine lv_iload_n hx hb dX3_tearHalf_16 rfl (lv_at hl 2 rfl) ?_
    refine lv_if_ne (tgt := 26) hx hb dX3_tearHalf_17 (by decide) (fun c_2 => ?_) (fun c_2 => ?_)
    · refine lv_iload_n hx hb dX3_tearHalf_26 rfl (lv_at hl 2 rfl) ?_
      refine lv_iconst (v := 1) hx hb dX3_tearHalf_27 (by decide) ?_
      refine lv_icmp_ne (tgt := 37) hx hb dX3_tearHalf_28 (by decide) (fun c_3 => ?_) (fun c_3 => ?_)
      · refine lv_bipush (v := (-6)) hx hb dX3_tearHalf_37 (by decide) ?_
        have hsp : sc_X3_tearHalf nm v Z how = ((-6), v, Z) := by unfold sc_X3_tearHalf; rw [if_pos c_1, if_neg c_2, if_neg c_3]
        exact W.iret hx hb hr (fun t2 ht2 hW => by rw [hsp]; exact ⟨rfl, by rw [ht2]; exact hP, hS.F ht2⟩) hS.2.2 dX3_tearHalf_39 hlocks
      · refine lv_aload_n hx hb dX3_tearHalf_31 rfl (lv_at hl 1 rfl) ?_
        refine c_wr (WS' := (wT b nm (sc_X9_tearAllButNumber nm v) ++ wH a (k 0) cs Z) ++ []) S hK (show va_P D vwCl (wT b nm v) _ from vaL (vaL hP)) (va_recv hK.1 hP (ci := 8) (q0 := 0) rfl rfl) hS (As := []) (rest := []) (cC_X9_tearAllButNumber l D cs b nm v _ ib  ) (cwV 0 hts gX3_tearHalf_X9_tearAllButNumber rfl rfl rfl (by decide +kernel) ⟨Nat.le_of_ble_eq_true rfl, Nat.le_of_ble_eq_true rfl⟩) rfl hl.1 rfl (Nat.le_of_ble_eq_true rfl) dX3_tearHalf_32 ⟨Nat.zero_le _, Nat.zero_le _⟩ (fun q h => adA_le hS.1 q (h.elim (fun t => Or.inl (Or.inl t)) Or.inr)) (fun H1 _ hk h => (va_P.app (va_P.app h (keepP (vaR (vaL hP)) wH_p (fun q h1 h2 => d q h2 h1) hk)) nilP)) (fun H locs hP hS => ?_)
        refine lv_iconst (v := 0) hx hb dX3_tearHalf_35 (by decide) ?_
        have hsp : sc_X3_tearHalf nm v Z how = (0, (sc_X9_tearAllButNumber nm v), Z) := by unfold sc_X3_tearHalf; rw [if_pos c_1, if_neg c_2, if_pos c_3]
        exact W.iret hx hb hr (fun t2 ht2 hW => by rw [hsp]; exact ⟨rfl, by rw [ht2]; exact hP, hS.F ht2⟩) hS.2.2 dX3_tearHalf_36 hlocks
    · refine lv_aload_n hx hb dX3_tearHalf_20 rfl (lv_at hl 1 rfl) ?_
      refine c_wr (WS' := (wT b nm (sc_X9_tearAll nm v) ++ wH a (k 0) cs Z) ++ []) S hK (show va_P D vwCl (wT b nm v) _ from vaL (vaL hP)) (va_recv hK.1 hP (ci := 8) (q0 := 0) rfl rfl) hS (As := []) (rest := []) (cC_X9_tearAll l D cs b nm v _ ib  ) (cwV 0 hts gX3_tearHalf_X9_tearAll rfl rfl rfl (by decide +kernel) ⟨Nat.le_of_ble_eq_true rfl, Nat.le_of_ble_eq_true rfl⟩) rfl hl.1 rfl (Nat.le_of_ble_eq_true rfl) dX3_tearHalf_21 ⟨Nat.zero_le _, Nat.zero_le _⟩ (fun q h => adA_le hS.1 q (h.elim (fun t => Or.inl (Or.inl t)) Or.inr)) (fun H1 _ hk h => (va_P.app (va_P.app h (keepP (vaR (vaL hP)) wH_p (fun q h1 h2 => d q h2 h1) hk)) nilP)) (fun H locs hP hS => ?_)
      refine lv_iconst (v := 0) hx hb dX3_tearHalf_24 (by decide) ?_
      have hsp : sc_X3_tearHalf nm v Z how = (0, (sc_X9_tearAll nm v), Z) := by unfold sc_X3_tearHalf; rw [if_pos c_1, if_pos c_2]
      exact W.iret hx hb hr (fun t2 ht2 hW => by rw [hsp]; exact ⟨rfl, by rw [ht2]; exact hP, hS.F ht2⟩) hS.2.2 dX3_tearHalf_25 hlocks
  · refine lv_bipush (v := (-2)) hx hb dX3_tearHalf_13 (by decide) ?_
    have hsp : sc_X3_tearHalf nm v Z how = ((-2), v, Z) := by unfold sc_X3_tearHalf; rw [if_neg c_1]
    exact W.iret hx hb hr (fun t2 ht2 hW => by rw [hsp]; exact ⟨rfl, by rw [ht2]; exact hP, hS.F ht2⟩) hS.2.2 dX3_tearHalf_15 hlocks
def sc_X3_hearOath (nm : Int32) (v : Nat → Int32) (Z : hZ) : Int32 × (Nat → Int32) × (hZ) :=
  if (sc_X9_isOpen nm v) = 0 then
    ((-2), v, Z)
  else
    (0, upd v 18 (gh Z 0), Z)
set_option maxHeartbeats 4000000 in
set_option maxRecDepth 100000 in
theorem cC_X3_hearOath (l : Launch) (D : va_G) (cs : Nat → ClassId) (b : Nat → Nat) (nm : Int32) (v : Nat → Int32) (k : Nat → Nat) (a : Nat → Nat) (Z : hZ) (sz : Nat) (ib : iT b) (ia : iH a) (d : dTH b a) : Met l yX3_hearOath wsX3_hearOath ({ frames := 1, cells := 0, slots := 0, locals := 20 }) (cPc [.ref (a 0), .ref (b 0)] D cs ((wT b nm v ++ wH a (k 0) cs Z) ++ []) sz) (cQ D (some (.int (sc_X3_hearOath nm v Z).1)) ((wT b nm ((sc_X3_hearOath nm v Z).2.1) ++ wH a (k 0) cs ((sc_X3_hearOath nm v Z).2.2)) ++ []) (adA (pOr (pT b) (pH a)) sz)) 0 0 (adA (pOr (pT b) (pH a)) sz) := by
  refine c_in (P := pOr (pT b) (pH a)) (cc := cX3_hearOath) (maxL := 2) (ret := (some .int)) (lv := [(0, .ref (a 0)), (1, .ref (b 0))]) (by decide) rfl (Nat.le_of_ble_eq_true rfl) rfl ?_
  intro p e s m below meth c ls S hr hlocks hin hsz hP hK hl hS
  subst hsz
  obtain ⟨hx, hb, hml, hown, hts⟩ := id S
  have hX3 : ∀ w ∈ wsX30, w ∈ wsX3_hearOath := by decide +kernel
  have hX9 : ∀ w ∈ wsX90, w ∈ wsX3_hearOath := by decide +kernel
  refine lv_aload_n hx hb dX3_hearOath_0 rfl (lv_at hl 1 rfl) ?_
  refine lv_ifnonnull (tgt := 6) hx hb dX3_hearOath_1 (by decide) ?_
  refine lv_aload_n hx hb dX3_hearOath_6 rfl (lv_at hl 1 rfl) ?_
  refine c_rd S hK (show va_P D vwCl (wT b nm v) _ from vaL (vaL hP)) (va_recv hK.1 hP (ci := 8) (q0 := 0) rfl rfl) (As := []) (rest := []) (cC_X9_isOpen l D cs b nm v _   ) (cwV 0 hts gX3_hearOath_X9_isOpen rfl rfl rfl (by decide +kernel) ⟨Nat.le_of_ble_eq_true rfl, Nat.le_of_ble_eq_true rfl⟩) rfl hl.1 rfl (Nat.le_of_ble_eq_true rfl) dX3_hearOath_7 ⟨Nat.zero_le _, Nat.zero_le _⟩ ?_
  refine lv_if_ne (tgt := 16) hx hb dX3_hearOath_10 (by decide) (fun c_1 => ?_) (fun c_1 => ?_)
  · refine lv_aload_n hx hb dX3_hearOath_16 rfl (lv_at hl 1 rfl) ?_
    refine lv_aload_n hx hb dX3_hearOath_17 rfl (lv_at hl 0 rfl) ?_
    refine hx_get hx hb hts hX3 hown hK.1 hP 2 (by decide) (hts (.fieldLink RX3 50 "PledgeHouse$House" "today" "I") (by decide +kernel)) rfl (v := .int (gh Z 0)) rfl dX3_hearOath_18 ?_
    refine va_put (D := D) (ci := 8) (v := .int (gh Z 0)) (ty := .int) (C := RX9) (T := TX9) (N := 19) hx hb hts hX9 tyX9 tyX9_ok nmX9 hown hK.1 hP (wTH_D ib ia d s.heap.size) hS 0 rfl rfl 11 (by decide) (hts (.fieldLink RX3 248 "PledgeHouse$Ticket" "oathDay" "I") (by decide +kernel)) (fun _ h9 => h9) rfl (by decide +kernel) rfl rfl (Nat.le_of_ble_eq_true rfl) dX3_hearOath_21 (fun H locs hP _ hS => ?_)
    have hP : va_P D vwCl ((wT b nm (upd v 18 (gh Z 0)) ++ wH a (k 0) cs Z) ++ []) H := hP
    refine lv_iconst (v := 0) hx hb dX3_hearOath_24 (by decide) ?_
    have hsp : sc_X3_hearOath nm v Z = (0, upd v 18 (gh Z 0), Z) := by unfold sc_X3_hearOath; rw [if_neg c_1]
    exact W.iret hx hb hr (fun t2 ht2 hW => by rw [hsp]; exact ⟨rfl, by rw [ht2]; exact hP, hS.F ht2⟩) hS.2.2 dX3_hearOath_25 hlocks
  · refine lv_bipush (v := (-2)) hx hb dX3_hearOath_13 (by decide) ?_
    have hsp : sc_X3_hearOath nm v Z = ((-2), v, Z) := by unfold sc_X3_hearOath; rw [if_pos c_1]
    exact W.iret hx hb hr (fun t2 ht2 hW => by rw [hsp]; exact ⟨rfl, by rw [ht2]; exact hP, hS.F ht2⟩) hS.2.2 dX3_hearOath_15 hlocks
def sc_X3_whyNotHolders (nm : Int32) (v : Nat → Int32) (Z : hZ) (half : Int32) : Int32 :=
  if (sc_X9_isHolders nm v) = 0 then
    (-2)
  else
    if (sc_X9_isClaimed nm v) = 0 then
      if (sc_X9_isRight nm v half (gh Z 0)) = 0 then
        (-4)
      else
        0
    else
      (-3)
set_option maxHeartbeats 4000000 in
set_option maxRecDepth 100000 in
theorem cC_X3_whyNotHolders (l : Launch) (D : va_G) (cs : Nat → ClassId) (b : Nat → Nat) (nm : Int32) (v : Nat → Int32) (k : Nat → Nat) (a : Nat → Nat) (Z : hZ) (sz : Nat) (half : Int32) : Met l yX3_whyNotHolders wsX3_whyNotHolders ({ frames := 2, cells := 0, slots := 0, locals := 42 }) (cPc [.ref (a 0), .ref (b 0), .int half] D cs ((wT b nm v ++ wH a (k 0) cs Z) ++ []) sz) (k2_QcV (.int (sc_X3_whyNotHolders nm v Z half))) 0 0 (fun _ => False) := by
  refine c_in (P := pOr (pT b) (pH a)) (cc := cX3_whyNotHolders) (maxL := 3) (ret := (some .int)) (lv := [(0, .ref (a 0)), (1, .ref (b 0)), (2, .int half)]) (by decide) rfl (Nat.le_of_ble_eq_true rfl) rfl ?_
  intro p e s m below meth c ls S hr hlocks hin hsz hP hK hl hS
  subst hsz
  obtain ⟨hx, hb, hml, hown, hts⟩ := id S
  have hX3 : ∀ w ∈ wsX30, w ∈ wsX3_whyNotHolders := by decide +kernel
  refine lv_aload_n hx hb dX3_whyNotHolders_0 rfl (lv_at hl 1 rfl) ?_
  refine lv_ifnonnull (tgt := 6) hx hb dX3_whyNotHolders_1 (by decide) ?_
  refine lv_aload_n hx hb dX3_whyNotHolders_6 rfl (lv_at hl 1 rfl) ?_
  refine c_rd S hK (show va_P D vwCl (wT b nm v) _ from vaL (vaL hP)) (va_recv hK.1 hP (ci := 8) (q0 := 0) rfl rfl) (As := []) (rest := []) (cC_X9_isHolders l D cs b nm v _   ) (cwV 0 hts gX3_whyNotHolders_X9_isHolders rfl rfl rfl (by decide +kernel) ⟨Nat.le_of_ble_eq_true rfl, Nat.le_of_ble_eq_true rfl⟩) rfl hl.1 rfl (Nat.le_of_ble_eq_true rfl) dX3_whyNotHolders_7 ⟨Nat.zero_le _, Nat.zero_le _⟩ ?_
  refine lv_if_ne (tgt := 16) hx hb dX3_whyNotHolders_10 (by decide) (fun c_1 => ?_) (fun c_1 => ?_)
  · refine lv_aload_n hx hb dX3_whyNotHolders_16 rfl (lv_at hl 1 rfl) ?_
    refine c_rd S hK (show va_P D vwCl (wT b nm v) _ from vaL (vaL hP)) (va_recv hK.1 hP (ci := 8) (q0 := 0) rfl rfl) (As := []) (rest := []) (cC_X9_isClaimed l D cs b nm v _   ) (cwV 0 hts gX3_whyNotHolders_X9_isClaimed rfl rfl rfl (by decide +kernel) ⟨Nat.le_of_ble_eq_true rfl, Nat.le_of_ble_eq_true rfl⟩) rfl hl.1 rfl (Nat.le_of_ble_eq_true rfl) dX3_whyNotHolders_17 ⟨Nat.zero_le _, Nat.zero_le _⟩ ?_
    refine lv_if_eq (tgt := 26) hx hb dX3_whyNotHolders_20 (by decide) (fun c_2 => ?_) (fun c_2 => ?_)
    · refine lv_aload_n hx hb dX3_whyNotHolders_26 rfl (lv_at hl 1 rfl) ?_
      refine lv_iload_n hx hb dX3_whyNotHolders_27 rfl (lv_at hl 2 rfl) ?_
      refine lv_aload_n hx hb dX3_whyNotHolders_28 rfl (lv_at hl 0 rfl) ?_
      refine hx_get hx hb hts hX3 hown hK.1 hP 2 (by decide) (hts (.fieldLink RX3 50 "PledgeHouse$House" "today" "I") (by decide +kernel)) rfl (v := .int (gh Z 0)) rfl dX3_whyNotHolders_29 ?_
      refine c_rd S hK (show va_P D vwCl (wT b nm v) _ from vaL (vaL hP)) (va_recv hK.1 hP (ci := 8) (q0 := 0) rfl rfl) (As := [.int half, .int (gh Z 0)]) (rest := []) (cC_X9_isRight l D cs b nm v _  half (gh Z 0) ) (cwV 2 hts gX3_whyNotHolders_X9_isRight rfl rfl rfl (by decide +kernel) ⟨Nat.le_of_ble_eq_true rfl, Nat.le_of_ble_eq_true rfl⟩) rfl hl.1 rfl (Nat.le_of_ble_eq_true rfl) dX3_whyNotHolders_32 ⟨Nat.zero_le _, Nat.zero_le _⟩ ?_
      refine lv_if_eq (tgt := 42) hx hb dX3_whyNotHolders_35 (by decide) (fun c_3 => ?_) (fun c_3 => ?_)
      · refine lv_bipush (v := (-4)) hx hb dX3_whyNotHolders_42 (by decide) ?_
        have hsp : sc_X3_whyNotHolders nm v Z half = (-4) := by unfold sc_X3_whyNotHolders; rw [if_neg c_1, if_pos c_2, if_pos c_3]
        exact W.iret hx hb hr (fun t2 ht2 hW => ⟨by rw [hsp], ht2⟩) (fun q hq => by cases hq) dX3_whyNotHolders_44 hlocks
      · refine lv_iconst (v := 0) hx hb dX3_whyNotHolders_38 (by decide) ?_
        refine lv_goto (tgt := 44) hx hb dX3_whyNotHolders_39 (by decide) ?_
        have hsp : sc_X3_whyNotHolders nm v Z half = 0 := by unfold sc_X3_whyNotHolders; rw [if_neg c_1, if_pos c_2, if_neg c_3]
        exact W.iret hx hb hr (fun t2 ht2 hW => ⟨by rw [hsp], ht2⟩) (fun q hq => by cases hq) dX3_whyNotHolders_44 hlocks
    · refine lv_bipush (v := (-3)) hx hb dX3_whyNotHolders_23 (by decide) ?_
      have hsp : sc_X3_whyNotHolders nm v Z half = (-3) := by unfold sc_X3_whyNotHolders; rw [if_neg c_1, if_neg c_2]
      exact W.iret hx hb hr (fun t2 ht2 hW => ⟨by rw [hsp], ht2⟩) (fun q hq => by cases hq) dX3_whyNotHolders_25 hlocks
  · refine lv_bipush (v := (-2)) hx hb dX3_whyNotHolders_13 (by decide) ?_
    have hsp : sc_X3_whyNotHolders nm v Z half = (-2) := by unfold sc_X3_whyNotHolders; rw [if_pos c_1]
    exact W.iret hx hb hr (fun t2 ht2 hW => ⟨by rw [hsp], ht2⟩) (fun q hq => by cases hq) dX3_whyNotHolders_15 hlocks
def sc_X3_makeForfeit (nm : Int32) (v : Nat → Int32) (Z : hZ) : Int32 × (Nat → Int32) × (hZ) :=
  if (sc_X9_isHolders nm v) = 0 then
    ((-2), v, Z)
  else
    if (sc_X9_isClaimed nm v) = 0 then
      if (sc_X9_forfeitDay nm v (gh Z 0) (gr Z 0)) ≤ (gh Z 0) then
        (sc_X9_owed nm (upd v 7 1), upd v 7 1, Z)
      else
        ((-5), v, Z)
    else
      ((-3), v, Z)
set_option maxHeartbeats 4000000 in
set_option maxRecDepth 100000 in
theorem cC_X3_makeForfeit (l : Launch) (D : va_G) (cs : Nat → ClassId) (b : Nat → Nat) (nm : Int32) (v : Nat → Int32) (k : Nat → Nat) (a : Nat → Nat) (Z : hZ) (sz : Nat) (ib : iT b) (ia : iH a) (d : dTH b a) : Met l yX3_makeForfeit wsX3_makeForfeit ({ frames := 4, cells := 0, slots := 0, locals := 86 }) (cPc [.ref (a 0), .ref (b 0)] D cs ((wT b nm v ++ wH a (k 0) cs Z) ++ []) sz) (cQ D (some (.int (sc_X3_makeForfeit nm v Z).1)) ((wT b nm ((sc_X3_makeForfeit nm v Z).2.1) ++ wH a (k 0) cs ((sc_X3_makeForfeit nm v Z).2.2)) ++ []) (adA (pOr (pT b) (pH a)) sz)) 0 0 (adA (pOr (pT b) (pH a)) sz) := by
  refine c_in (P := pOr (pT b) (pH a)) (cc := cX3_makeForfeit) (maxL := 2) (ret := (some .int)) (lv := [(0, .ref (a 0)), (1, .ref (b 0))]) (by decide) rfl (Nat.le_of_ble_eq_true rfl) rfl ?_
  intro p e s m below meth c ls S hr hlocks hin hsz hP hK hl hS
  subst hsz
  obtain ⟨hx, hb, hml, hown, hts⟩ := id S
  have hX3 : ∀ w ∈ wsX30, w ∈ wsX3_makeForfeit := by decide +kernel
  have hX9 : ∀ w ∈ wsX90, w ∈ wsX3_makeForfeit := by decide +kernel
  refine lv_aload_n hx hb dX3_makeForfeit_0 rfl (lv_at hl 1 rfl) ?_
  refine lv_ifnonnull (tgt := 6) hx hb dX3_makeForfeit_1 (by decide) ?_
  refine lv_aload_n hx hb dX3_makeForfeit_6 rfl (lv_at hl 1 rfl) ?_
  refine c_rd S hK (show va_P D vwCl (wT b nm v) _ from vaL (vaL hP)) (va_recv hK.1 hP (ci := 8) (q0 := 0) rfl rfl) (As := []) (rest := []) (cC_X9_isHolders l D cs b nm v _   ) (cwV 0 hts gX3_makeForfeit_X9_isHolders rfl rfl rfl (by decide +kernel) ⟨Nat.le_of_ble_eq_true rfl, Nat.le_of_ble_eq_true rfl⟩) rfl hl.1 rfl (Nat.le_of_ble_eq_true rfl) dX3_makeForfeit_7 ⟨Nat.zero_le _, Nat.zero_le _⟩ ?_
  refine lv_if_ne (tgt := 16) hx hb dX3_makeForfeit_10 (by decide) (fun c_1 => ?_) (fun c_1 => ?_)
  · refine lv_aload_n hx hb dX3_makeForfeit_16 rfl (lv_at hl 1 rfl) ?_
    refine c_rd S hK (show va_P D vwCl (wT b nm v) _ from vaL (vaL hP)) (va_recv hK.1 hP (ci := 8) (q0 := 0) rfl rfl) (As := []) (rest := []) (cC_X9_isClaimed l D cs b nm v _   ) (cwV 0 hts gX3_makeForfeit_X9_isClaimed rfl rfl rfl (by decide +kernel) ⟨Nat.le_of_ble_eq_true rfl, Nat.le_of_ble_eq_true rfl⟩) rfl hl.1 rfl (Nat.le_of_ble_eq_true rfl) dX3_makeForfeit_17 ⟨Nat.zero_le _, Nat.zero_le _⟩ ?_
    refine lv_if_eq (tgt := 26) hx hb dX3_makeForfeit_20 (by decide) (fun c_2 => ?_) (fun c_2 => ?_)
    · refine lv_aload_n hx hb dX3_makeForfeit_26 rfl (lv_at hl 0 rfl) ?_
      refine hx_get hx hb hts hX3 hown hK.1 hP 2 (by decide) (hts (.fieldLink RX3 50 "PledgeHouse$House" "today" "I") (by decide +kernel)) rfl (v := .int (gh Z 0)) rfl dX3_makeForfeit_27 ?_
      refine lv_aload_n hx hb dX3_makeForfeit_30 rfl (lv_at hl 1 rfl) ?_
      refine lv_aload_n hx hb dX3_makeForfeit_31 rfl (lv_at hl 0 rfl) ?_
      refine hx_get hx hb hts hX3 hown hK.1 hP 2 (by decide) (hts (.fieldLink RX3 50 "PledgeHouse$House" "today" "I") (by decide +kernel)) rfl (v := .int (gh Z 0)) rfl dX3_makeForfeit_32 ?_
      refine lv_aload_n hx hb dX3_makeForfeit_35 rfl (lv_at hl 0 rfl) ?_
      refine hx_get hx hb hts hX3 hown hK.1 hP 3 (by decide) (hts (.fieldLink RX3 18 "PledgeHouse$House" "rules" "[I") (by decide +kernel)) rfl (v := .ref (a 1)) rfl dX3_makeForfeit_36 ?_
      refine lv_iconst (v := 0) hx hb dX3_makeForfeit_39 (by decide) ?_
      refine hx_rld hx hb hK.1 hP 0 rfl (by decide) (v := gr Z 0) rfl dX3_makeForfeit_40 ?_
      refine c_rd S hK (show va_P D vwCl (wT b nm v) _ from vaL (vaL hP)) (va_recv hK.1 hP (ci := 8) (q0 := 0) rfl rfl) (As := [.int (gh Z 0), .int (gr Z 0)]) (rest := [.int (gh Z 0)]) (cC_X9_forfeitDay l D cs b nm v _  (gh Z 0) (gr Z 0) ) (cwV 2 hts gX3_makeForfeit_X9_forfeitDay rfl rfl rfl (by decide +kernel) ⟨Nat.le_of_ble_eq_true rfl, Nat.le_of_ble_eq_true rfl⟩) rfl hl.1 rfl (Nat.le_of_ble_eq_true rfl) dX3_makeForfeit_41 ⟨Nat.zero_le _, Nat.zero_le _⟩ ?_
      refine lv_icmp_ge (tgt := 50) hx hb dX3_makeForfeit_44 (by decide) (fun c_3 => ?_) (fun c_3 => ?_)
      · refine lv_aload_n hx hb dX3_makeForfeit_50 rfl (lv_at hl 1 rfl) ?_
        refine lv_iconst (v := 1) hx hb dX3_makeForfeit_51 (by decide) ?_
        refine va_put (D := D) (ci := 8) (v := .int 1) (ty := .boolean) (C := RX9) (T := TX9) (N := 19) hx hb hts hX9 tyX9 tyX9_ok nmX9 hown hK.1 hP (wTH_D ib ia d s.heap.size) hS 0 rfl rfl 5 (by decide) (hts (.fieldLink RX3 314 "PledgeHouse$Ticket" "forfeited" "Z") (by decide +kernel)) (fun _ h9 => h9) rfl (by decide +kernel) rfl rfl (Nat.le_of_ble_eq_true rfl) dX3_makeForfeit_52 (fun H locs hP _ hS => ?_)
        have hP : va_P D vwCl ((wT b nm (upd v 7 1) ++ wH a (k 0) cs Z) ++ []) H := hP
        refine lv_aload_n hx hb dX3_makeForfeit_55 rfl (lv_at hl 1 rfl) ?_
        refine c_rd S hK (show va_P D vwCl (wT b nm (upd v 7 1)) _ from vaL (vaL hP)) (va_recv hK.1 hP (ci := 8) (q0 := 0) rfl rfl) (As := []) (rest := []) (cC_X9_owed l D cs b nm (upd v 7 1) _   ) (cwV 0 hts gX3_makeForfeit_X9_owed rfl rfl rfl (by decide +kernel) ⟨Nat.le_of_ble_eq_true rfl, Nat.le_of_ble_eq_true rfl⟩) rfl hl.1 rfl (Nat.le_of_ble_eq_true rfl) dX3_makeForfeit_56 ⟨Nat.zero_le _, Nat.zero_le _⟩ ?_
        have hsp : sc_X3_makeForfeit nm v Z = (sc_X9_owed nm (upd v 7 1), upd v 7 1, Z) := by unfold sc_X3_makeForfeit; rw [if_neg c_1, if_pos c_2, if_pos c_3]
        exact W.iret hx hb hr (fun t2 ht2 hW => by rw [hsp]; exact ⟨rfl, by rw [ht2]; exact hP, hS.F ht2⟩) hS.2.2 dX3_makeForfeit_59 hlocks
      · refine lv_bipush (v := (-5)) hx hb dX3_makeForfeit_47 (by decide) ?_
        have hsp : sc_X3_makeForfeit nm v Z = ((-5), v, Z) := by unfold sc_X3_makeForfeit; rw [if_neg c_1, if_pos c_2, if_neg c_3]
        exact W.iret hx hb hr (fun t2 ht2 hW => by rw [hsp]; exact ⟨rfl, by rw [ht2]; exact hP, hS.F ht2⟩) hS.2.2 dX3_makeForfeit_49 hlocks
    · refine lv_bipush (v := (-3)) hx hb dX3_makeForfeit_23 (by decide) ?_
      have hsp : sc_X3_makeForfeit nm v Z = ((-3), v, Z) := by unfold sc_X3_makeForfeit; rw [if_neg c_1, if_neg c_2]
      exact W.iret hx hb hr (fun t2 ht2 hW => by rw [hsp]; exact ⟨rfl, by rw [ht2]; exact hP, hS.F ht2⟩) hS.2.2 dX3_makeForfeit_25 hlocks
  · refine lv_bipush (v := (-2)) hx hb dX3_makeForfeit_13 (by decide) ?_
    have hsp : sc_X3_makeForfeit nm v Z = ((-2), v, Z) := by unfold sc_X3_makeForfeit; rw [if_pos c_1]
    exact W.iret hx hb hr (fun t2 ht2 hW => by rw [hsp]; exact ⟨rfl, by rw [ht2]; exact hP, hS.F ht2⟩) hS.2.2 dX3_makeForfeit_15 hlocks
def sc_X3_hearBid (nm : Int32) (v : Nat → Int32) (Z : hZ) (coins : Int32) : Int32 × (Nat → Int32) × (hZ) :=
  if (sc_X9_isForSale nm v) = 0 then
    ((-2), v, Z)
  else
    if coins < 1 then
      ((-6), v, Z)
    else
      if coins ≤ 10000000 then
        ((v 11) + 1, upd (upd v 11 ((v 11) + 1)) 10 (if (v 10) < coins then coins else (v 10)), Z)
      else
        ((-6), v, Z)
set_option maxHeartbeats 4000000 in
set_option maxRecDepth 100000 in
theorem cC_X3_hearBid (l : Launch) (D : va_G) (cs : Nat → ClassId) (b : Nat → Nat) (nm : Int32) (v : Nat → Int32) (k : Nat → Nat) (a : Nat → Nat) (Z : hZ) (sz : Nat) (ib : iT b) (ia : iH a) (d : dTH b a) (coins : Int32) : Met l yX3_hearBid wsX3_hearBid ({ frames := 2, cells := 0, slots := 0, locals := 40 }) (cPc [.ref (a 0), .ref (b 0), .int coins] D cs ((wT b nm v ++ wH a (k 0) cs Z) ++ []) sz) (cQ D (some (.int (sc_X3_hearBid nm v Z coins).1)) ((wT b nm ((sc_X3_hearBid nm v Z coins).2.1) ++ wH a (k 0) cs ((sc_X3_hearBid nm v Z coins).2.2)) ++ []) (adA (pOr (pT b) (pH a)) sz)) 0 0 (adA (pOr (pT b) (pH a)) sz) := by
  refine c_in (P := pOr (pT b) (pH a)) (cc := cX3_hearBid) (maxL := 3) (ret := (some .int)) (lv := [(0, .ref (a 0)), (1, .ref (b 0)), (2, .int coins)]) (by decide) rfl (Nat.le_of_ble_eq_true rfl) rfl ?_
  intro p e s m below meth c ls S hr hlocks hin hsz hP hK hl hS
  subst hsz
  obtain ⟨hx, hb, hml, hown, hts⟩ := id S
  have hX9 : ∀ w ∈ wsX90, w ∈ wsX3_hearBid := by decide +kernel
  refine lv_aload_n hx hb dX3_hearBid_0 rfl (lv_at hl 1 rfl) ?_
  refine lv_ifnonnull (tgt := 6) hx hb dX3_hearBid_1 (by decide) ?_
  refine lv_aload_n hx hb dX3_hearBid_6 rfl (lv_at hl 1 rfl) ?_
  refine c_rd S hK (show va_P D vwCl (wT b nm v) _ from vaL (vaL hP)) (va_recv hK.1 hP (ci := 8) (q0 := 0) rfl rfl) (As := []) (rest := []) (cC_X9_isForSale l D cs b nm v _   ) (cwV 0 hts gX3_hearBid_X9_isForSale rfl rfl rfl (by decide +kernel) ⟨Nat.le_of_ble_eq_true rfl, Nat.le_of_ble_eq_true rfl⟩) rfl hl.1 rfl (Nat.le_of_ble_eq_true rfl) dX3_hearBid_7 ⟨Nat.zero_le _, Nat.zero_le _⟩ ?_
  refine lv_if_ne (tgt := 16) hx hb dX3_hearBid_10 (by decide) (fun c_1 => ?_) (fun c_1 => ?_)
  · refine lv_iload_n hx hb dX3_hearBid_16 rfl (lv_at hl 2 rfl) ?_
    refine lv_iconst (v := 1) hx hb dX3_hearBid_17 (by decide) ?_
    refine lv_icmp_lt (tgt := 28) hx hb dX3_hearBid_18 (by decide) (fun c_2 => ?_) (fun c_2 => ?_)
    · refine lv_bipush (v := (-6)) hx hb dX3_hearBid_28 (by decide) ?_
      have hsp : sc_X3_hearBid nm v Z coins = ((-6), v, Z) := by unfold sc_X3_hearBid; rw [if_neg c_1, if_pos c_2]
      exact W.iret hx hb hr (fun t2 ht2 hW => by rw [hsp]; exact ⟨rfl, by rw [ht2]; exact hP, hS.F ht2⟩) hS.2.2 dX3_hearBid_30 hlocks
    · refine lv_iload_n hx hb dX3_hearBid_21 rfl (lv_at hl 2 rfl) ?_
      refine lv_ldcw (v := 10000000) hx hb hown (hts (.constant RX3 321 (10000000)) (by decide +kernel)) dX3_hearBid_22 ?_
      refine lv_icmp_le (tgt := 31) hx hb dX3_hearBid_25 (by decide) (fun c_3 => ?_) (fun c_3 => ?_)
      · refine lv_aload_n hx hb dX3_hearBid_31 rfl (lv_at hl 1 rfl) ?_
        refine lv_dup hx hb dX3_hearBid_32 rfl ?_
        refine va_get (D := D) (ci := 8) (v := .int (v 11)) (C := RX9) (T := TX9) (N := 19) hx hb hts hX9 hown hK.1 hP 0 rfl rfl 13 (by decide) (hts (.fieldLink RX3 322 "PledgeHouse$Ticket" "bids" "I") (by decide +kernel)) (fun _ h9 => h9) rfl dX3_hearBid_33 ?_
        refine lv_iconst (v := 1) hx hb dX3_hearBid_36 (by decide) ?_
        refine lv_iadd hx hb dX3_hearBid_37 ?_
        refine va_put (D := D) (ci := 8) (v := .int ((v 11) + 1)) (ty := .int) (C := RX9) (T := TX9) (N := 19) hx hb hts hX9 tyX9 tyX9_ok nmX9 hown hK.1 hP (wTH_D ib ia d s.heap.size) hS 0 rfl rfl 13 (by decide) (hts (.fieldLink RX3 322 "PledgeHouse$Ticket" "bids" "I") (by decide +kernel)) (fun _ h9 => h9) rfl (by decide +kernel) rfl rfl (Nat.le_of_ble_eq_true rfl) dX3_hearBid_38 (fun H locs hP _ hS => ?_)
        have hP : va_P D vwCl ((wT b nm (upd v 11 ((v 11) + 1)) ++ wH a (k 0) cs Z) ++ []) H := hP
        refine lv_aload_n hx hb dX3_hearBid_41 rfl (lv_at hl 1 rfl) ?_
        refine lv_aload_n hx hb dX3_hearBid_42 rfl (lv_at hl 1 rfl) ?_
        refine va_get (D := D) (ci := 8) (v := .int ((upd v 11 ((v 11) + 1)) 10)) (C := RX9) (T := TX9) (N := 19) hx hb hts hX9 hown hK.1 hP 0 rfl rfl 14 (by decide) (hts (.fieldLink RX3 325 "PledgeHouse$Ticket" "highestBid" "I") (by decide +kernel)) (fun _ h9 => h9) rfl dX3_hearBid_43 ?_
        refine wtop (congrArg Value.int (show (upd v 11 ((v 11) + 1)) 10 = v 10 from (pk_un (by decide)))) ?_
        refine lv_iload_n hx hb dX3_hearBid_46 rfl (lv_at hl 2 rfl) ?_
        refine va_mmax hx hb (hml.trans hl.1.symm) hown (hts (.methodLink RX3 328 Lib.Math.max.name) (by decide +kernel)) (hts (.static Lib.Math.max.name) (by decide +kernel)) (hts (.initialized "java/lang/Math") (by decide +kernel)) (hts (.code Lib.Math.max.name Lib.Math.max.code 2 (some .int)) (by decide +kernel)) (Nat.le_of_ble_eq_true rfl) (Nat.le_of_ble_eq_true rfl) (Nat.zero_le _) (Nat.zero_le _) dX3_hearBid_47 ?_
        refine va_put (D := D) (ci := 8) (v := .int (if (v 10) < coins then coins else (v 10))) (ty := .int) (C := RX9) (T := TX9) (N := 19) hx hb hts hX9 tyX9 tyX9_ok nmX9 hown hK.1 hP (wTH_D ib ia d s.heap.size) hS 0 rfl rfl 14 (by decide) (hts (.fieldLink RX3 325 "PledgeHouse$Ticket" "highestBid" "I") (by decide +kernel)) (fun _ h9 => h9) rfl (by decide +kernel) rfl rfl (Nat.le_of_ble_eq_true rfl) dX3_hearBid_50 (fun H locs hP _ hS => ?_)
        have hP : va_P D vwCl ((wT b nm (upd (upd v 11 ((v 11) + 1)) 10 (if (v 10) < coins then coins else (v 10))) ++ wH a (k 0) cs Z) ++ []) H := hP
        refine lv_aload_n hx hb dX3_hearBid_53 rfl (lv_at hl 1 rfl) ?_
        refine va_get (D := D) (ci := 8) (v := .int ((upd (upd v 11 ((v 11) + 1)) 10 (if (v 10) < coins then coins else (v 10))) 11)) (C := RX9) (T := TX9) (N := 19) hx hb hts hX9 hown hK.1 hP 0 rfl rfl 13 (by decide) (hts (.fieldLink RX3 322 "PledgeHouse$Ticket" "bids" "I") (by decide +kernel)) (fun _ h9 => h9) rfl dX3_hearBid_54 ?_
        refine wtop (congrArg Value.int (show (upd (upd v 11 ((v 11) + 1)) 10 (if (v 10) < coins then coins else (v 10))) 11 = (v 11) + 1 from ((pk_un (by decide)).trans pk_us))) ?_
        have hsp : sc_X3_hearBid nm v Z coins = ((v 11) + 1, upd (upd v 11 ((v 11) + 1)) 10 (if (v 10) < coins then coins else (v 10)), Z) := by unfold sc_X3_hearBid; rw [if_neg c_1, if_neg c_2, if_pos c_3]
        exact W.iret hx hb hr (fun t2 ht2 hW => by rw [hsp]; exact ⟨rfl, by rw [ht2]; exact hP, hS.F ht2⟩) hS.2.2 dX3_hearBid_57 hlocks
      · refine lv_bipush (v := (-6)) hx hb dX3_hearBid_28 (by decide) ?_
        have hsp : sc_X3_hearBid nm v Z coins = ((-6), v, Z) := by unfold sc_X3_hearBid; rw [if_neg c_1, if_neg c_2, if_neg c_3]
        exact W.iret hx hb hr (fun t2 ht2 hW => by rw [hsp]; exact ⟨rfl, by rw [ht2]; exact hP, hS.F ht2⟩) hS.2.2 dX3_hearBid_30 hlocks
  · refine lv_bipush (v := (-2)) hx hb dX3_hearBid_13 (by decide) ?_
    have hsp : sc_X3_hearBid nm v Z coins = ((-2), v, Z) := by unfold sc_X3_hearBid; rw [if_pos c_1]
    exact W.iret hx hb hr (fun t2 ht2 hW => by rw [hsp]; exact ⟨rfl, by rw [ht2]; exact hP, hS.F ht2⟩) hS.2.2 dX3_hearBid_15 hlocks
def sc_X3_raiseClaim (nm : Int32) (v : Nat → Int32) (Z : hZ) : Int32 × (Nat → Int32) × (hZ) :=
  if (sc_X9_isOpen nm v) = 0 then
    ((-2), v, Z)
  else
    if (sc_X9_isClaimed nm v) = 0 then
      (0, upd (upd v 8 (gh Z 0)) 20 (-1), Z)
    else
      ((-3), v, Z)
set_option maxHeartbeats 4000000 in
set_option maxRecDepth 100000 in
theorem cC_X3_raiseClaim (l : Launch) (D : va_G) (cs : Nat → ClassId) (b : Nat → Nat) (nm : Int32) (v : Nat → Int32) (k : Nat → Nat) (a : Nat → Nat) (Z : hZ) (sz : Nat) (ib : iT b) (ia : iH a) (d : dTH b a) : Met l yX3_raiseClaim wsX3_raiseClaim ({ frames := 1, cells := 0, slots := 0, locals := 20 }) (cPc [.ref (a 0), .ref (b 0)] D cs ((wT b nm v ++ wH a (k 0) cs Z) ++ []) sz) (cQ D (some (.int (sc_X3_raiseClaim nm v Z).1)) ((wT b nm ((sc_X3_raiseClaim nm v Z).2.1) ++ wH a (k 0) cs ((sc_X3_raiseClaim nm v Z).2.2)) ++ []) (adA (pOr (pT b) (pH a)) sz)) 0 0 (adA (pOr (pT b) (pH a)) sz) := by
  refine c_in (P := pOr (pT b) (pH a)) (cc := cX3_raiseClaim) (maxL := 2) (ret := (some .int)) (lv := [(0, .ref (a 0)), (1, .ref (b 0))]) (by decide) rfl (Nat.le_of_ble_eq_true rfl) rfl ?_
  intro p e s m below meth c ls S hr hlocks hin hsz hP hK hl hS
  subst hsz
  obtain ⟨hx, hb, hml, hown, hts⟩ := id S
  have hX3 : ∀ w ∈ wsX30, w ∈ wsX3_raiseClaim := by decide +kernel
  have hX9 : ∀ w ∈ wsX90, w ∈ wsX3_raiseClaim := by decide +kernel
  refine lv_aload_n hx hb dX3_raiseClaim_0 rfl (lv_at hl 1 rfl) ?_
  refine lv_ifnonnull (tgt := 6) hx hb dX3_raiseClaim_1 (by decide) ?_
  refine lv_aload_n hx hb dX3_raiseClaim_6 rfl (lv_at hl 1 rfl) ?_
  refine c_rd S hK (show va_P D vwCl (wT b nm v) _ from vaL (vaL hP)) (va_recv hK.1 hP (ci := 8) (q0 := 0) rfl rfl) (As := []) (rest := []) (cC_X9_isOpen l D cs b nm v _   ) (cwV 0 hts gX3_raiseClaim_X9_isOpen rfl rfl rfl (by decide +kernel) ⟨Nat.le_of_ble_eq_true rfl, Nat.le_of_ble_eq_true rfl⟩) rfl hl.1 rfl (Nat.le_of_ble_eq_true rfl) dX3_raiseClaim_7 ⟨Nat.zero_le _, Nat.zero_le _⟩ ?_
  refine lv_if_ne (tgt := 16) hx hb dX3_raiseClaim_10 (by decide) (fun c_1 => ?_) (fun c_1 => ?_)
  · refine lv_aload_n hx hb dX3_raiseClaim_16 rfl (lv_at hl 1 rfl) ?_
    refine c_rd S hK (show va_P D vwCl (wT b nm v) _ from vaL (vaL hP)) (va_recv hK.1 hP (ci := 8) (q0 := 0) rfl rfl) (As := []) (rest := []) (cC_X9_isClaimed l D cs b nm v _   ) (cwV 0 hts gX3_raiseClaim_X9_isClaimed rfl rfl rfl (by decide +kernel) ⟨Nat.le_of_ble_eq_true rfl, Nat.le_of_ble_eq_true rfl⟩) rfl hl.1 rfl (Nat.le_of_ble_eq_true rfl) dX3_raiseClaim_17 ⟨Nat.zero_le _, Nat.zero_le _⟩ ?_
    refine lv_if_eq (tgt := 26) hx hb dX3_raiseClaim_20 (by decide) (fun c_2 => ?_) (fun c_2 => ?_)
    · refine lv_aload_n hx hb dX3_raiseClaim_26 rfl (lv_at hl 1 rfl) ?_
      refine lv_aload_n hx hb dX3_raiseClaim_27 rfl (lv_at hl 0 rfl) ?_
      refine hx_get hx hb hts hX3 hown hK.1 hP 2 (by decide) (hts (.fieldLink RX3 50 "PledgeHouse$House" "today" "I") (by decide +kernel)) rfl (v := .int (gh Z 0)) rfl dX3_raiseClaim_28 ?_
      refine va_put (D := D) (ci := 8) (v := .int (gh Z 0)) (ty := .int) (C := RX9) (T := TX9) (N := 19) hx hb hts hX9 tyX9 tyX9_ok nmX9 hown hK.1 hP (wTH_D ib ia d s.heap.size) hS 0 rfl rfl 12 (by decide) (hts (.fieldLink RX3 349 "PledgeHouse$Ticket" "claimDay" "I") (by decide +kernel)) (fun _ h9 => h9) rfl (by decide +kernel) rfl rfl (Nat.le_of_ble_eq_true rfl) dX3_raiseClaim_31 (fun H locs hP _ hS => ?_)
      have hP : va_P D vwCl ((wT b nm (upd v 8 (gh Z 0)) ++ wH a (k 0) cs Z) ++ []) H := hP
      refine lv_aload_n hx hb dX3_raiseClaim_34 rfl (lv_at hl 1 rfl) ?_
      refine lv_iconst (v := (-1)) hx hb dX3_raiseClaim_35 (by decide) ?_
      refine va_put (D := D) (ci := 8) (v := .int (-1)) (ty := .int) (C := RX9) (T := TX9) (N := 19) hx hb hts hX9 tyX9 tyX9_ok nmX9 hown hK.1 hP (wTH_D ib ia d s.heap.size) hS 0 rfl rfl 8 (by decide) (hts (.fieldLink RX3 269 "PledgeHouse$Ticket" "renewedOn" "I") (by decide +kernel)) (fun _ h9 => h9) rfl (by decide +kernel) rfl rfl (Nat.le_of_ble_eq_true rfl) dX3_raiseClaim_36 (fun H locs hP _ hS => ?_)
      have hP : va_P D vwCl ((wT b nm (upd (upd v 8 (gh Z 0)) 20 (-1)) ++ wH a (k 0) cs Z) ++ []) H := hP
      refine lv_iconst (v := 0) hx hb dX3_raiseClaim_39 (by decide) ?_
      have hsp : sc_X3_raiseClaim nm v Z = (0, upd (upd v 8 (gh Z 0)) 20 (-1), Z) := by unfold sc_X3_raiseClaim; rw [if_neg c_1, if_pos c_2]
      exact W.iret hx hb hr (fun t2 ht2 hW => by rw [hsp]; exact ⟨rfl, by rw [ht2]; exact hP, hS.F ht2⟩) hS.2.2 dX3_raiseClaim_40 hlocks
    · refine lv_bipush (v := (-3)) hx hb dX3_raiseClaim_23 (by decide) ?_
      have hsp : sc_X3_raiseClaim nm v Z = ((-3), v, Z) := by unfold sc_X3_raiseClaim; rw [if_neg c_1, if_neg c_2]
      exact W.iret hx hb hr (fun t2 ht2 hW => by rw [hsp]; exact ⟨rfl, by rw [ht2]; exact hP, hS.F ht2⟩) hS.2.2 dX3_raiseClaim_25 hlocks
  · refine lv_bipush (v := (-2)) hx hb dX3_raiseClaim_13 (by decide) ?_
    have hsp : sc_X3_raiseClaim nm v Z = ((-2), v, Z) := by unfold sc_X3_raiseClaim; rw [if_pos c_1]
    exact W.iret hx hb hr (fun t2 ht2 hW => by rw [hsp]; exact ⟨rfl, by rw [ht2]; exact hP, hS.F ht2⟩) hS.2.2 dX3_raiseClaim_15 hlocks
def sc_X3_whyNotClaimed (nm : Int32) (v : Nat → Int32) : Int32 :=
  if (sc_X9_isOpen nm v) = 0 then
    (-2)
  else
    if (sc_X9_isClaimed nm v) = 0 then
      (-3)
    else
      0
set_option maxHeartbeats 4000000 in
set_option maxRecDepth 100000 in
theorem cC_X3_whyNotClaimed (l : Launch) (D : va_G) (cs : Nat → ClassId) (b : Nat → Nat) (nm : Int32) (v : Nat → Int32) (sz : Nat) : Met l yX3_whyNotClaimed wsX3_whyNotClaimed ({ frames := 1, cells := 0, slots := 0, locals := 20 }) (cPc [.ref (b 0)] D cs (wT b nm v) sz) (k2_QcV (.int (sc_X3_whyNotClaimed nm v))) 0 0 (fun _ => False) := by
  refine c_in (P := pT b) (cc := cX3_whyNotClaimed) (maxL := 1) (ret := (some .int)) (lv := [(0, .ref (b 0))]) (by decide) rfl (Nat.le_of_ble_eq_true rfl) rfl ?_
  intro p e s m below meth c ls S hr hlocks hin hsz hP hK hl hS
  subst hsz
  obtain ⟨hx, hb, hml, hown, hts⟩ := id S
  refine lv_aload_n hx hb dX3_whyNotClaimed_0 rfl (lv_at hl 0 rfl) ?_
  refine lv_ifnonnull (tgt := 6) hx hb dX3_whyNotClaimed_1 (by decide) ?_
  refine lv_aload_n hx hb dX3_whyNotClaimed_6 rfl (lv_at hl 0 rfl) ?_
  refine c_rd S hK (hP) (va_recv hK.1 hP (ci := 8) (q0 := 0) rfl rfl) (As := []) (rest := []) (cC_X9_isOpen l D cs b nm v _   ) (cwV 0 hts gX3_whyNotClaimed_X9_isOpen rfl rfl rfl (by decide +kernel) ⟨Nat.le_of_ble_eq_true rfl, Nat.le_of_ble_eq_true rfl⟩) rfl hl.1 rfl (Nat.le_of_ble_eq_true rfl) dX3_whyNotClaimed_7 ⟨Nat.zero_le _, Nat.zero_le _⟩ ?_
  refine lv_if_ne (tgt := 16) hx hb dX3_whyNotClaimed_10 (by decide) (fun c_1 => ?_) (fun c_1 => ?_)
  · refine lv_aload_n hx hb dX3_whyNotClaimed_16 rfl (lv_at hl 0 rfl) ?_
    refine c_rd S hK (hP) (va_recv hK.1 hP (ci := 8) (q0 := 0) rfl rfl) (As := []) (rest := []) (cC_X9_isClaimed l D cs b nm v _   ) (cwV 0 hts gX3_whyNotClaimed_X9_isClaimed rfl rfl rfl (by decide +kernel) ⟨Nat.le_of_ble_eq_true rfl, Nat.le_of_ble_eq_true rfl⟩) rfl hl.1 rfl (Nat.le_of_ble_eq_true rfl) dX3_whyNotClaimed_17 ⟨Nat.zero_le _, Nat.zero_le _⟩ ?_
    refine lv_if_eq (tgt := 27) hx hb dX3_whyNotClaimed_20 (by decide) (fun c_2 => ?_) (fun c_2 => ?_)
    · refine lv_bipush (v := (-3)) hx hb dX3_whyNotClaimed_27 (by decide) ?_
      have hsp : sc_X3_whyNotClaimed nm v = (-3) := by unfold sc_X3_whyNotClaimed; rw [if_neg c_1, if_pos c_2]
      exact W.iret hx hb hr (fun t2 ht2 hW => ⟨by rw [hsp], ht2⟩) (fun q hq => by cases hq) dX3_whyNotClaimed_29 hlocks
    · refine lv_iconst (v := 0) hx hb dX3_whyNotClaimed_23 (by decide) ?_
      refine lv_goto (tgt := 29) hx hb dX3_whyNotClaimed_24 (by decide) ?_
      have hsp : sc_X3_whyNotClaimed nm v = 0 := by unfold sc_X3_whyNotClaimed; rw [if_neg c_1, if_neg c_2]
      exact W.iret hx hb hr (fun t2 ht2 hW => ⟨by rw [hsp], ht2⟩) (fun q hq => by cases hq) dX3_whyNotClaimed_29 hlocks
  · refine lv_bipush (v := (-2)) hx hb dX3_whyNotClaimed_13 (by decide) ?_
    have hsp : sc_X3_whyNotClaimed nm v = (-2) := by unfold sc_X3_whyNotClaimed; rw [if_pos c_1]
    exact W.iret hx hb hr (fun t2 ht2 hW => ⟨by rw [hsp], ht2⟩) (fun q hq => by cases hq) dX3_whyNotClaimed_15 hlocks
def sc_X3_dropClaim (nm : Int32) (v : Nat → Int32) (Z : hZ) : Int32 × (Nat → Int32) × (hZ) :=
  if (sc_X3_whyNotClaimed nm v) = 0 then
    ((sc_X9_endClaim nm v (gh Z 0)) 9, (sc_X9_endClaim nm v (gh Z 0)), Z)
  else
    (sc_X3_whyNotClaimed nm v, v, Z)
set_option maxHeartbeats 4000000 in
set_option maxRecDepth 100000 in
theorem cC_X3_dropClaim (l : Launch) (D : va_G) (cs : Nat → ClassId) (b : Nat → Nat) (nm : Int32) (v : Nat → Int32) (k : Nat → Nat) (a : Nat → Nat) (Z : hZ) (sz : Nat) (ib : iT b) (ia : iH a) (d : dTH b a) : Met l yX3_dropClaim wsX3_dropClaim ({ frames := 4, cells := 0, slots := 0, locals := 85 }) (cPc [.ref (a 0), .ref (b 0)] D cs ((wT b nm v ++ wH a (k 0) cs Z) ++ []) sz) (cQ D (some (.int (sc_X3_dropClaim nm v Z).1)) ((wT b nm ((sc_X3_dropClaim nm v Z).2.1) ++ wH a (k 0) cs ((sc_X3_dropClaim nm v Z).2.2)) ++ []) (adA (pOr (pT b) (pH a)) sz)) 0 0 (adA (pOr (pT b) (pH a)) sz) := by
  refine c_in (P := pOr (pT b) (pH a)) (cc := cX3_dropClaim) (maxL := 3) (ret := (some .int)) (lv := [(0, .ref (a 0)), (1, .ref (b 0))]) (by decide) rfl (Nat.le_of_ble_eq_true rfl) rfl ?_
  intro p e s m below meth c ls S hr hlocks hin hsz hP hK hl hS
  subst hsz
  obtain ⟨hx, hb, hml, hown, hts⟩ := id S
  have hX3 : ∀ w ∈ wsX30, w ∈ wsX3_dropClaim := by decide +kernel
  have hX7 : ∀ w ∈ wsX70, w ∈ wsX3_dropClaim := by decide +kernel
  have hX9 : ∀ w ∈ wsX90, w ∈ wsX3_dropClaim := by decide +kernel
  refine lv_aload_n hx hb dX3_dropClaim_0 rfl (lv_at hl 1 rfl) ?_
  refine c_rdS S hK (show va_P D vwCl (wT b nm v) _ from vaL (vaL hP)) (As := [.ref (b 0)]) (rest := []) (cC_X3_whyNotClaimed l D cs b nm v _   ) (cwS 1 hts gX3_dropClaim_X3_whyNotClaimed rfl rfl rfl (by decide +kernel) ⟨Nat.le_of_ble_eq_true rfl, Nat.le_of_ble_eq_true rfl⟩) rfl hl.1 rfl (Nat.le_of_ble_eq_true rfl) dX3_dropClaim_1 ⟨Nat.zero_le _, Nat.zero_le _⟩ ?_
  refine lv_istore_n (lv' := [(2, .int (sc_X3_whyNotClaimed nm v)), (0, .ref (a 0)), (1, .ref (b 0))]) hx hb dX3_dropClaim_4 rfl hl (by decide) rfl (fun ls hl => ?_)
  refine lv_iload_n hx hb dX3_dropClaim_5 rfl (lv_at hl 0 rfl) ?_
  refine lv_if_eq (tgt := 11) hx hb dX3_dropClaim_6 (by decide) (fun c_1 => ?_) (fun c_1 => ?_)
  · refine lv_aload_n hx hb dX3_dropClaim_11 rfl (lv_at hl 2 rfl) ?_
    refine lv_aload_n hx hb dX3_dropClaim_12 rfl (lv_at hl 1 rfl) ?_
    refine hx_get hx hb hts hX3 hown hK.1 hP 2 (by decide) (hts (.fieldLink RX3 50 "PledgeHouse$House" "today" "I") (by decide +kernel)) rfl (v := .int (gh Z 0)) rfl dX3_dropClaim_13 ?_
    refine c_wr (WS' := (wT b nm (sc_X9_endClaim nm v (gh Z 0)) ++ wH a (k 0) cs Z) ++ []) S hK (show va_P D vwCl (wT b nm v) _ from vaL (vaL hP)) (va_recv hK.1 hP (ci := 8) (q0 := 0) rfl rfl) hS (As := [.int (gh Z 0)]) (rest := []) (cC_X9_endClaim l D cs b nm v _ ib (gh Z 0) ) (cwV 1 hts gX3_dropClaim_X9_endClaim rfl rfl rfl (by decide +kernel) ⟨Nat.le_of_ble_eq_true rfl, Nat.le_of_ble_eq_true rfl⟩) rfl hl.1 rfl (Nat.le_of_ble_eq_true rfl) dX3_dropClaim_16 ⟨Nat.zero_le _, Nat.zero_le _⟩ (fun q h => adA_le hS.1 q (h.elim (fun t => Or.inl (Or.inl t)) Or.inr)) (fun H1 _ hk h => (va_P.app (va_P.app h (keepP (vaR (vaL hP)) wH_p (fun q h1 h2 => d q h2 h1) hk)) nilP)) (fun H locs hP hS => ?_)
    refine lv_aload_n hx hb dX3_dropClaim_19 rfl (lv_at hl 2 rfl) ?_
    refine va_get (D := D) (ci := 8) (v := .ref (b 1)) (C := RX9) (T := TX9) (N := 19) hx hb hts hX9 hown hK.1 hP 0 rfl rfl 6 (by decide) (hts (.fieldLink RX3 77 "PledgeHouse$Ticket" "term" "LPledgeHouse$Term;") (by decide +kernel)) (fun _ h9 => h9) rfl dX3_dropClaim_20 ?_
    refine va_get (D := D) (ci := 6) (v := .int ((sc_X9_endClaim nm v (gh Z 0)) 9)) (C := RX7) (T := TX7) (N := 6) hx hb hts hX7 hown hK.1 hP 1 rfl rfl 5 (by decide) (hts (.fieldLink RX3 359 "PledgeHouse$Term" "claimedDays" "I") (by decide +kernel)) (fun _ h9 => h9) rfl dX3_dropClaim_23 ?_
    have hsp : sc_X3_dropClaim nm v Z = ((sc_X9_endClaim nm v (gh Z 0)) 9, (sc_X9_endClaim nm v (gh Z 0)), Z) := by unfold sc_X3_dropClaim; rw [if_pos c_1]
    exact W.iret hx hb hr (fun t2 ht2 hW => by rw [hsp]; exact ⟨rfl, by rw [ht2]; exact hP, hS.F ht2⟩) hS.2.2 dX3_dropClaim_26 hlocks
  · refine lv_iload_n hx hb dX3_dropClaim_9 rfl (lv_at hl 0 rfl) ?_
    have hsp : sc_X3_dropClaim nm v Z = (sc_X3_whyNotClaimed nm v, v, Z) := by unfold sc_X3_dropClaim; rw [if_neg c_1]
    exact W.iret hx hb hr (fun t2 ht2 hW => by rw [hsp]; exact ⟨rfl, by rw [ht2]; exact hP, hS.F ht2⟩) hS.2.2 dX3_dropClaim_10 hlocks
def sc_X3_lookAtTicket (nm : Int32) (v : Nat → Int32) (Z : hZ) (what : Int32) : Int32 :=
  if what = 0 then
    v 0
  else
    if what = 1 then
      v 1
    else
      if what = 2 then
        v 2
      else
        if what = 3 then
          v 3
        else
          if what = 4 then
            v 4
          else
            if what = 5 then
              v 5
            else
              if what = 6 then
                v 6
              else
                if what = 7 then
                  if (v 7) = 0 then
                    0
                  else
                    1
                else
                  if what = 8 then
                    sc_X9_forfeitDay nm v (gh Z 0) (gr Z 0)
                  else
                    if what = 9 then
                      if (sc_X9_isClaimed nm v) = 0 then
                        0
                      else
                        1
                    else
                      if what = 10 then
                        v 9
                      else
                        if what = 11 then
                          v 10
                        else
                          if what = 12 then
                            v 12
                          else
                            if what = 13 then
                              sc_X9_overState nm v (gh Z 0)
                            else
                              if what = 14 then
                                v 15
                              else
                                if what = 15 then
                                  sc_X9_numberInHouseHalf nm v
                                else
                                  if what = 16 then
                                    sc_X9_halfInHouseHalf nm v
                                  else
                                    if what = 17 then
                                      v 18
                                    else
                                      (-1)
set_option maxHeartbeats 4000000 in
set_option maxRecDepth 100000 in
theorem cC_X3_lookAtTicket (l : Launch) (D : va_G) (cs : Nat → ClassId) (b : Nat → Nat) (nm : Int32) (v : Nat → Int32) (k : Nat → Nat) (a : Nat → Nat) (Z : hZ) (sz : Nat) (what : Int32) : Met l yX3_lookAtTicket wsX3_lookAtTicket ({ frames := 4, cells := 0, slots := 0, locals := 86 }) (cPc [.ref (a 0), .ref (b 0), .int what] D cs ((wT b nm v ++ wH a (k 0) cs Z) ++ []) sz) (k2_QcV (.int (sc_X3_lookAtTicket nm v Z what))) 0 0 (fun _ => False) := by
  refine c_in (P := pOr (pT b) (pH a)) (cc := cX3_lookAtTicket) (maxL := 3) (ret := (some .int)) (lv := [(0, .ref (a 0)), (1, .ref (b 0)), (2, .int what)]) (by decide) rfl (Nat.le_of_ble_eq_true rfl) rfl ?_
  intro p e s m below meth c ls S hr hlocks hin hsz hP hK hl hS
  subst hsz
  obtain ⟨hx, hb, hml, hown, hts⟩ := id S
  have hX3 : ∀ w ∈ wsX30, w ∈ wsX3_lookAtTicket := by decide +kernel
  have hX7 : ∀ w ∈ wsX70, w ∈ wsX3_lookAtTicket := by decide +kernel
  have hX9 : ∀ w ∈ wsX90, w ∈ wsX3_lookAtTicket := by decide +kernel
  refine lv_aload_n hx hb dX3_lookAtTicket_0 rfl (lv_at hl 1 rfl) ?_
  refine lv_ifnonnull (tgt := 6) hx hb dX3_lookAtTicket_1 (by decide) ?_
  refine lv_iload_n hx hb dX3_lookAtTicket_6 rfl (lv_at hl 2 rfl) ?_
  by_cases c_1 : what = 0
  · refine lv_tableIn (off := 85) (tgt := 92) hx hb dX3_lookAtTicket_7 (by rw [c_1]; decide) (by rw [c_1]; decide) (by rw [c_1]; rfl) (by decide) ?_
    refine lv_aload_n hx hb dX3_lookAtTicket_92 rfl (lv_at hl 1 rfl) ?_
    refine va_get (D := D) (ci := 8) (v := .int (v 0)) (C := RX9) (T := TX9) (N := 19) hx hb hts hX9 hown hK.1 hP 0 rfl rfl 3 (by decide) (hts (.fieldLink RX3 295 "PledgeHouse$Ticket" "standing" "I") (by decide +kernel)) (fun _ h9 => h9) rfl dX3_lookAtTicket_93 ?_
    have hsp : sc_X3_lookAtTicket nm v Z what = v 0 := by unfold sc_X3_lookAtTicket; rw [if_pos c_1]
    exact W.iret hx hb hr (fun t2 ht2 hW => ⟨by rw [hsp], ht2⟩) (fun q hq => by cases hq) dX3_lookAtTicket_96 hlocks
  by_cases c_2 : what = 1
  · refine lv_tableIn (off := 90) (tgt := 97) hx hb dX3_lookAtTicket_7 (by rw [c_2]; decide) (by rw [c_2]; decide) (by rw [c_2]; rfl) (by decide) ?_
    refine lv_aload_n hx hb dX3_lookAtTicket_97 rfl (lv_at hl 1 rfl) ?_
    refine va_get (D := D) (ci := 8) (v := .int (v 1)) (C := RX9) (T := TX9) (N := 19) hx hb hts hX9 hown hK.1 hP 0 rfl rfl 4 (by decide) (hts (.fieldLink RX3 81 "PledgeHouse$Ticket" "principal" "I") (by decide +kernel)) (fun _ h9 => h9) rfl dX3_lookAtTicket_98 ?_
    have hsp : sc_X3_lookAtTicket nm v Z what = v 1 := by unfold sc_X3_lookAtTicket; rw [if_neg c_1, if_pos c_2]
    exact W.iret hx hb hr (fun t2 ht2 hW => ⟨by rw [hsp], ht2⟩) (fun q hq => by cases hq) dX3_lookAtTicket_101 hlocks
  by_cases c_3 : what = 2
  · refine lv_tableIn (off := 95) (tgt := 102) hx hb dX3_lookAtTicket_7 (by rw [c_3]; decide) (by rw [c_3]; decide) (by rw [c_3]; rfl) (by decide) ?_
    refine lv_aload_n hx hb dX3_lookAtTicket_102 rfl (lv_at hl 1 rfl) ?_
    refine va_get (D := D) (ci := 8) (v := .ref (b 1)) (C := RX9) (T := TX9) (N := 19) hx hb hts hX9 hown hK.1 hP 0 rfl rfl 6 (by decide) (hts (.fieldLink RX3 77 "PledgeHouse$Ticket" "term" "LPledgeHouse$Term;") (by decide +kernel)) (fun _ h9 => h9) rfl dX3_lookAtTicket_103 ?_
    refine va_get (D := D) (ci := 6) (v := .int (v 2)) (C := RX7) (T := TX7) (N := 6) hx hb hts hX7 hown hK.1 hP 1 rfl rfl 4 (by decide) (hts (.fieldLink RX3 261 "PledgeHouse$Term" "interest" "I") (by decide +kernel)) (fun _ h9 => h9) rfl dX3_lookAtTicket_106 ?_
    have hsp : sc_X3_lookAtTicket nm v Z what = v 2 := by unfold sc_X3_lookAtTicket; rw [if_neg c_1, if_neg c_2, if_pos c_3]
    exact W.iret hx hb hr (fun t2 ht2 hW => ⟨by rw [hsp], ht2⟩) (fun q hq => by cases hq) dX3_lookAtTicket_109 hlocks
  by_cases c_4 : what = 3
  · refine lv_tableIn (off := 103) (tgt := 110) hx hb dX3_lookAtTicket_7 (by rw [c_4]; decide) (by rw [c_4]; decide) (by rw [c_4]; rfl) (by decide) ?_
    refine lv_aload_n hx hb dX3_lookAtTicket_110 rfl (lv_at hl 1 rfl) ?_
    refine va_get (D := D) (ci := 8) (v := .ref (b 1)) (C := RX9) (T := TX9) (N := 19) hx hb hts hX9 hown hK.1 hP 0 rfl rfl 6 (by decide) (hts (.fieldLink RX3 77 "PledgeHouse$Ticket" "term" "LPledgeHouse$Term;") (by decide +kernel)) (fun _ h9 => h9) rfl dX3_lookAtTicket_111 ?_
    refine va_get (D := D) (ci := 6) (v := .int (v 3)) (C := RX7) (T := TX7) (N := 6) hx hb hts hX7 hown hK.1 hP 1 rfl rfl 3 (by decide) (hts (.fieldLink RX3 373 "PledgeHouse$Term" "begun" "I") (by decide +kernel)) (fun _ h9 => h9) rfl dX3_lookAtTicket_114 ?_
    have hsp : sc_X3_lookAtTicket nm v Z what = v 3 := by unfold sc_X3_lookAtTicket; rw [if_neg c_1, if_neg c_2, if_neg c_3, if_pos c_4]
    exact W.iret hx hb hr (fun t2 ht2 hW => ⟨by rw [hsp], ht2⟩) (fun q hq => by cases hq) dX3_lookAtTicket_117 hlocks
  by_cases c_5 : what = 4
  · refine lv_tableIn (off := 111) (tgt := 118) hx hb dX3_lookAtTicket_7 (by rw [c_5]; decide) (by rw [c_5]; decide) (by rw [c_5]; rfl) (by decide) ?_
    refine lv_aload_n hx hb dX3_lookAtTicket_118 rfl (lv_at hl 1 rfl) ?_
    refine va_get (D := D) (ci := 8) (v := .ref (b 1)) (C := RX9) (T := TX9) (N := 19) hx hb hts hX9 hown hK.1 hP 0 rfl rfl 6 (by decide) (hts (.fieldLink RX3 77 "PledgeHouse$Ticket" "term" "LPledgeHouse$Term;") (by decide +kernel)) (fun _ h9 => h9) rfl dX3_lookAtTicket_119 ?_
    refine va_get (D := D) (ci := 6) (v := .int (v 4)) (C := RX7) (T := TX7) (N := 6) hx hb hts hX7 hown hK.1 hP 1 rfl rfl 0 (by decide) (hts (.fieldLink RX3 376 "PledgeHouse$Term" "start" "I") (by decide +kernel)) (fun _ h9 => h9) rfl dX3_lookAtTicket_122 ?_
    have hsp : sc_X3_lookAtTicket nm v Z what = v 4 := by unfold sc_X3_lookAtTicket; rw [if_neg c_1, if_neg c_2, if_neg c_3, if_neg c_4, if_pos c_5]
    exact W.iret hx hb hr (fun t2 ht2 hW => ⟨by rw [hsp], ht2⟩) (fun q hq => by cases hq) dX3_lookAtTicket_125 hlocks
  by_cases c_6 : what = 5
  · refine lv_tableIn (off := 119) (tgt := 126) hx hb dX3_lookAtTicket_7 (by rw [c_6]; decide) (by rw [c_6]; decide) (by rw [c_6]; rfl) (by decide) ?_
    refine lv_aload_n hx hb dX3_lookAtTicket_126 rfl (lv_at hl 1 rfl) ?_
    refine va_get (D := D) (ci := 8) (v := .ref (b 1)) (C := RX9) (T := TX9) (N := 19) hx hb hts hX9 hown hK.1 hP 0 rfl rfl 6 (by decide) (hts (.fieldLink RX3 77 "PledgeHouse$Ticket" "term" "LPledgeHouse$Term;") (by decide +kernel)) (fun _ h9 => h9) rfl dX3_lookAtTicket_127 ?_
    refine va_get (D := D) (ci := 6) (v := .int (v 5)) (C := RX7) (T := TX7) (N := 6) hx hb hts hX7 hown hK.1 hP 1 rfl rfl 1 (by decide) (hts (.fieldLink RX3 379 "PledgeHouse$Term" "months" "I") (by decide +kernel)) (fun _ h9 => h9) rfl dX3_lookAtTicket_130 ?_
    have hsp : sc_X3_lookAtTicket nm v Z what = v 5 := by unfold sc_X3_lookAtTicket; rw [if_neg c_1, if_neg c_2, if_neg c_3, if_neg c_4, if_neg c_5, if_pos c_6]
    exact W.iret hx hb hr (fun t2 ht2 hW => ⟨by rw [hsp], ht2⟩) (fun q hq => by cases hq) dX3_lookAtTicket_133 hlocks
  by_cases c_7 : what = 6
  · refine lv_tableIn (off := 127) (tgt := 134) hx hb dX3_lookAtTicket_7 (by rw [c_7]; decide) (by rw [c_7]; decide) (by rw [c_7]; rfl) (by decide) ?_
    refine lv_aload_n hx hb dX3_lookAtTicket_134 rfl (lv_at hl 1 rfl) ?_
    refine va_get (D := D) (ci := 8) (v := .ref (b 1)) (C := RX9) (T := TX9) (N := 19) hx hb hts hX9 hown hK.1 hP 0 rfl rfl 6 (by decide) (hts (.fieldLink RX3 77 "PledgeHouse$Ticket" "term" "LPledgeHouse$Term;") (by decide +kernel)) (fun _ h9 => h9) rfl dX3_lookAtTicket_135 ?_
    refine va_get (D := D) (ci := 6) (v := .int (v 6)) (C := RX7) (T := TX7) (N := 6) hx hb hts hX7 hown hK.1 hP 1 rfl rfl 2 (by decide) (hts (.fieldLink RX3 382 "PledgeHouse$Term" "rate" "I") (by decide +kernel)) (fun _ h9 => h9) rfl dX3_lookAtTicket_138 ?_
    have hsp : sc_X3_lookAtTicket nm v Z what = v 6 := by unfold sc_X3_lookAtTicket; rw [if_neg c_1, if_neg c_2, if_neg c_3, if_neg c_4, if_neg c_5, if_neg c_6, if_pos c_7]
    exact W.iret hx hb hr (fun t2 ht2 hW => ⟨by rw [hsp], ht2⟩) (fun q hq => by cases hq) dX3_lookAtTicket_141 hlocks
  by_cases c_8 : what = 7
  · refine lv_tableIn (off := 135) (tgt := 142) hx hb dX3_lookAtTicket_7 (by rw [c_8]; decide) (by rw [c_8]; decide) (by rw [c_8]; rfl) (by decide) ?_
    refine lv_aload_n hx hb dX3_lookAtTicket_142 rfl (lv_at hl 1 rfl) ?_
    refine va_get (D := D) (ci := 8) (v := .int (v 7)) (C := RX9) (T := TX9) (N := 19) hx hb hts hX9 hown hK.1 hP 0 rfl rfl 5 (by decide) (hts (.fieldLink RX3 314 "PledgeHouse$Ticket" "forfeited" "Z") (by decide +kernel)) (fun _ h9 => h9) rfl dX3_lookAtTicket_143 ?_
    refine lv_if_eq (tgt := 153) hx hb dX3_lookAtTicket_146 (by decide) (fun c_9 => ?_) (fun c_9 => ?_)
    · refine lv_iconst (v := 0) hx hb dX3_lookAtTicket_153 (by decide) ?_
      have hsp : sc_X3_lookAtTicket nm v Z what = 0 := by unfold sc_X3_lookAtTicket; rw [if_neg c_1, if_neg c_2, if_neg c_3, if_neg c_4, if_neg c_5, if_neg c_6, if_neg c_7, if_pos c_8, if_pos c_9]
      exact W.iret hx hb hr (fun t2 ht2 hW => ⟨by rw [hsp], ht2⟩) (fun q hq => by cases hq) dX3_lookAtTicket_154 hlocks
    · refine lv_iconst (v := 1) hx hb dX3_lookAtTicket_149 (by decide) ?_
      refine lv_goto (tgt := 154) hx hb dX3_lookAtTicket_150 (by decide) ?_
      have hsp : sc_X3_lookAtTicket nm v Z what = 1 := by unfold sc_X3_lookAtTicket; rw [if_neg c_1, if_neg c_2, if_neg c_3, if_neg c_4, if_neg c_5, if_neg c_6, if_neg c_7, if_pos c_8, if_neg c_9]
      exact W.iret hx hb hr (fun t2 ht2 hW => ⟨by rw [hsp], ht2⟩) (fun q hq => by cases hq) dX3_lookAtTicket_154 hlocks
  by_cases c_10 : what = 8
  · refine lv_tableIn (off := 148) (tgt := 155) hx hb dX3_lookAtTicket_7 (by rw [c_10]; decide) (by rw [c_10]; decide) (by rw [c_10]; rfl) (by decide) ?_
    refine lv_aload_n hx hb dX3_lookAtTicket_155 rfl (lv_at hl 1 rfl) ?_
    refine lv_aload_n hx hb dX3_lookAtTicket_156 rfl (lv_at hl 0 rfl) ?_
    refine hx_get hx hb hts hX3 hown hK.1 hP 2 (by decide) (hts (.fieldLink RX3 50 "PledgeHouse$House" "today" "I") (by decide +kernel)) rfl (v := .int (gh Z 0)) rfl dX3_lookAtTicket_157 ?_
    refine lv_aload_n hx hb dX3_lookAtTicket_160 rfl (lv_at hl 0 rfl) ?_
    refine hx_get hx hb hts hX3 hown hK.1 hP 3 (by decide) (hts (.fieldLink RX3 18 "PledgeHouse$House" "rules" "[I") (by decide +kernel)) rfl (v := .ref (a 1)) rfl dX3_lookAtTicket_161 ?_
    refine lv_iconst (v := 0) hx hb dX3_lookAtTicket_164 (by decide) ?_
    refine hx_rld hx hb hK.1 hP 0 rfl (by decide) (v := gr Z 0) rfl dX3_lookAtTicket_165 ?_
    refine c_rd S hK (show va_P D vwCl (wT b nm v) _ from vaL (vaL hP)) (va_recv hK.1 hP (ci := 8) (q0 := 0) rfl rfl) (As := [.int (gh Z 0), .int (gr Z 0)]) (rest := []) (cC_X9_forfeitDay l D cs b nm v _  (gh Z 0) (gr Z 0) ) (cwV 2 hts gX3_lookAtTicket_X9_forfeitDay rfl rfl rfl (by decide +kernel) ⟨Nat.le_of_ble_eq_true rfl, Nat.le_of_ble_eq_true rfl⟩) rfl hl.1 rfl (Nat.le_of_ble_eq_true rfl) dX3_lookAtTicket_166 ⟨Nat.zero_le _, Nat.zero_le _⟩ ?_
    have hsp : sc_X3_lookAtTicket nm v Z what = sc_X9_forfeitDay nm v (gh Z 0) (gr Z 0) := by unfold sc_X3_lookAtTicket; rw [if_neg c_1, if_neg c_2, if_neg c_3, if_neg c_4, if_neg c_5, if_neg c_6, if_neg c_7, if_neg c_8, if_pos c_10]
    exact W.iret hx hb hr (fun t2 ht2 hW => ⟨by rw [hsp], ht2⟩) (fun q hq => by cases hq) dX3_lookAtTicket_169 hlocks
  by_cases c_11 : what = 9
  · refine lv_tableIn (off := 163) (tgt := 170) hx hb dX3_lookAtTicket_7 (by rw [c_11]; decide) (by rw [c_11]; decide) (by rw [c_11]; rfl) (by decide) ?_
    refine lv_aload_n hx hb dX3_lookAtTicket_170 rfl (lv_at hl 1 rfl) ?_
    refine c_rd S hK (show va_P D vwCl (wT b nm v) _ from vaL (vaL hP)) (va_recv hK.1 hP (ci := 8) (q0 := 0) rfl rfl) (As := []) (rest := []) (cC_X9_isClaimed l D cs b nm v _   ) (cwV 0 hts gX3_lookAtTicket_X9_isClaimed rfl rfl rfl (by decide +kernel) ⟨Nat.le_of_ble_eq_true rfl, Nat.le_of_ble_eq_true rfl⟩) rfl hl.1 rfl (Nat.le_of_ble_eq_true rfl) dX3_lookAtTicket_171 ⟨Nat.zero_le _, Nat.zero_le _⟩ ?_
    refine lv_if_eq (tgt := 181) hx hb dX3_lookAtTicket_174 (by decide) (fun c_12 => ?_) (fun c_12 => ?_)
    · refine lv_iconst (v := 0) hx hb dX3_lookAtTicket_181 (by decide) ?_
      have hsp : sc_X3_lookAtTicket nm v Z what = 0 := by unfold sc_X3_lookAtTicket; rw [if_neg c_1, if_neg c_2, if_neg c_3, if_neg c_4, if_neg c_5, if_neg c_6, if_neg c_7, if_neg c_8, if_neg c_10, if_pos c_11, if_pos c_12]
      exact W.iret hx hb hr (fun t2 ht2 hW => ⟨by rw [hsp], ht2⟩) (fun q hq => by cases hq) dX3_lookAtTicket_182 hlocks
    · refine lv_iconst (v := 1) hx hb dX3_lookAtTicket_177 (by decide) ?_
      refine lv_goto (tgt := 182) hx hb dX3_lookAtTicket_178 (by decide) ?_
      have hsp : sc_X3_lookAtTicket nm v Z what = 1 := by unfold sc_X3_lookAtTicket; rw [if_neg c_1, if_neg c_2, if_neg c_3, if_neg c_4, if_neg c_5, if_neg c_6, if_neg c_7, if_neg c_8, if_neg c_10, if_pos c_11, if_neg c_12]
      exact W.iret hx hb hr (fun t2 ht2 hW => ⟨by rw [hsp], ht2⟩) (fun q hq => by cases hq) dX3_lookAtTicket_182 hlocks
  by_cases c_13 : what = 10
  · refine lv_tableIn (off := 176) (tgt := 183) hx hb dX3_lookAtTicket_7 (by rw [c_13]; decide) (by rw [c_13]; decide) (by rw [c_13]; rfl) (by decide) ?_
    refine lv_aload_n hx hb dX3_lookAtTicket_183 rfl (lv_at hl 1 rfl) ?_
    refine va_get (D := D) (ci := 8) (v := .ref (b 1)) (C := RX9) (T := TX9) (N := 19) hx hb hts hX9 hown hK.1 hP 0 rfl rfl 6 (by decide) (hts (.fieldLink RX3 77 "PledgeHouse$Ticket" "term" "LPledgeHouse$Term;") (by decide +kernel)) (fun _ h9 => h9) rfl dX3_lookAtTicket_184 ?_
    refine va_get (D := D) (ci := 6) (v := .int (v 9)) (C := RX7) (T := TX7) (N := 6) hx hb hts hX7 hown hK.1 hP 1 rfl rfl 5 (by decide) (hts (.fieldLink RX3 359 "PledgeHouse$Term" "claimedDays" "I") (by decide +kernel)) (fun _ h9 => h9) rfl dX3_lookAtTicket_187 ?_
    have hsp : sc_X3_lookAtTicket nm v Z what = v 9 := by unfold sc_X3_lookAtTicket; rw [if_neg c_1, if_neg c_2, if_neg c_3, if_neg c_4, if_neg c_5, if_neg c_6, if_neg c_7, if_neg c_8, if_neg c_10, if_neg c_11, if_pos c_13]
    exact W.iret hx hb hr (fun t2 ht2 hW => ⟨by rw [hsp], ht2⟩) (fun q hq => by cases hq) dX3_lookAtTicket_190 hlocks
  by_cases c_14 : what = 11
  · refine lv_tableIn (off := 184) (tgt := 191) hx hb dX3_lookAtTicket_7 (by rw [c_14]; decide) (by rw [c_14]; decide) (by rw [c_14]; rfl) (by decide) ?_
    refine lv_aload_n hx hb dX3_lookAtTicket_191 rfl (lv_at hl 1 rfl) ?_
    refine va_get (D := D) (ci := 8) (v := .int (v 10)) (C := RX9) (T := TX9) (N := 19) hx hb hts hX9 hown hK.1 hP 0 rfl rfl 14 (by decide) (hts (.fieldLink RX3 325 "PledgeHouse$Ticket" "highestBid" "I") (by decide +kernel)) (fun _ h9 => h9) rfl dX3_lookAtTicket_192 ?_
    have hsp : sc_X3_lookAtTicket nm v Z what = v 10 := by unfold sc_X3_lookAtTicket; rw [if_neg c_1, if_neg c_2, if_neg c_3, if_neg c_4, if_neg c_5, if_neg c_6, if_neg c_7, if_neg c_8, if_neg c_10, if_neg c_11, if_neg c_13, if_pos c_14]
    exact W.iret hx hb hr (fun t2 ht2 hW => ⟨by rw [hsp], ht2⟩) (fun q hq => by cases hq) dX3_lookAtTicket_195 hlocks
  by_cases c_15 : what = 12
  · refine lv_tableIn (off := 189) (tgt := 196) hx hb dX3_lookAtTicket_7 (by rw [c_15]; decide) (by rw [c_15]; decide) (by rw [c_15]; rfl) (by decide) ?_
    refine lv_aload_n hx hb dX3_lookAtTicket_196 rfl (lv_at hl 1 rfl) ?_
    refine va_get (D := D) (ci := 8) (v := .int (v 12)) (C := RX9) (T := TX9) (N := 19) hx hb hts hX9 hown hK.1 hP 0 rfl rfl 15 (by decide) (hts (.fieldLink RX3 334 "PledgeHouse$Ticket" "over" "I") (by decide +kernel)) (fun _ h9 => h9) rfl dX3_lookAtTicket_197 ?_
    have hsp : sc_X3_lookAtTicket nm v Z what = v 12 := by unfold sc_X3_lookAtTicket; rw [if_neg c_1, if_neg c_2, if_neg c_3, if_neg c_4, if_neg c_5, if_neg c_6, if_neg c_7, if_neg c_8, if_neg c_10, if_neg c_11, if_neg c_13, if_neg c_14, if_pos c_15]
    exact W.iret hx hb hr (fun t2 ht2 hW => ⟨by rw [hsp], ht2⟩) (fun q hq => by cases hq) dX3_lookAtTicket_200 hlocks
  by_cases c_16 : what = 13
  · refine lv_tableIn (off := 194) (tgt := 201) hx hb dX3_lookAtTicket_7 (by rw [c_16]; decide) (by rw [c_16]; decide) (by rw [c_16]; rfl) (by decide) ?_
    refine lv_aload_n hx hb dX3_lookAtTicket_201 rfl (lv_at hl 1 rfl) ?_
    refine lv_aload_n hx hb dX3_lookAtTicket_202 rfl (lv_at hl 0 rfl) ?_
    refine hx_get hx hb hts hX3 hown hK.1 hP 2 (by decide) (hts (.fieldLink RX3 50 "PledgeHouse$House" "today" "I") (by decide +kernel)) rfl (v := .int (gh Z 0)) rfl dX3_lookAtTicket_203 ?_
    refine c_rd S hK (show va_P D vwCl (wT b nm v) _ from vaL (vaL hP)) (va_recv hK.1 hP (ci := 8) (q0 := 0) rfl rfl) (As := [.int (gh Z 0)]) (rest := []) (cC_X9_overState l D cs b nm v _  (gh Z 0) ) (cwV 1 hts gX3_lookAtTicket_X9_overState rfl rfl rfl (by decide +kernel) ⟨Nat.le_of_ble_eq_true rfl, Nat.le_of_ble_eq_true rfl⟩) rfl hl.1 rfl (Nat.le_of_ble_eq_true rfl) dX3_lookAtTicket_206 ⟨Nat.zero_le _, Nat.zero_le _⟩ ?_
    have hsp : sc_X3_lookAtTicket nm v Z what = sc_X9_overState nm v (gh Z 0) := by unfold sc_X3_lookAtTicket; rw [if_neg c_1, if_neg c_2, if_neg c_3, if_neg c_4, if_neg c_5, if_neg c_6, if_neg c_7, if_neg c_8, if_neg c_10, if_neg c_11, if_neg c_13, if_neg c_14, if_neg c_15, if_pos c_16]
    exact W.iret hx hb hr (fun t2 ht2 hW => ⟨by rw [hsp], ht2⟩) (fun q hq => by cases hq) dX3_lookAtTicket_209 hlocks
  by_cases c_17 : what = 14
  · refine lv_tableIn (off := 203) (tgt := 210) hx hb dX3_lookAtTicket_7 (by rw [c_17]; decide) (by rw [c_17]; decide) (by rw [c_17]; rfl) (by decide) ?_
    refine lv_aload_n hx hb dX3_lookAtTicket_210 rfl (lv_at hl 1 rfl) ?_
    refine va_get (D := D) (ci := 8) (v := .int (v 15)) (C := RX9) (T := TX9) (N := 19) hx hb hts hX9 hown hK.1 hP 0 rfl rfl 1 (by decide) (hts (.fieldLink RX3 212 "PledgeHouse$Ticket" "place" "I") (by decide +kernel)) (fun _ h9 => h9) rfl dX3_lookAtTicket_211 ?_
    have hsp : sc_X3_lookAtTicket nm v Z what = v 15 := by unfold sc_X3_lookAtTicket; rw [if_neg c_1, if_neg c_2, if_neg c_3, if_neg c_4, if_neg c_5, if_neg c_6, if_neg c_7, if_neg c_8, if_neg c_10, if_neg c_11, if_neg c_13, if_neg c_14, if_neg c_15, if_neg c_16, if_pos c_17]
    exact W.iret hx hb hr (fun t2 ht2 hW => ⟨by rw [hsp], ht2⟩) (fun q hq => by cases hq) dX3_lookAtTicket_214 hlocks
  by_cases c_18 : what = 15
  · refine lv_tableIn (off := 208) (tgt := 215) hx hb dX3_lookAtTicket_7 (by rw [c_18]; decide) (by rw [c_18]; decide) (by rw [c_18]; rfl) (by decide) ?_
    refine lv_aload_n hx hb dX3_lookAtTicket_215 rfl (lv_at hl 1 rfl) ?_
    refine c_rd S hK (show va_P D vwCl (wT b nm v) _ from vaL (vaL hP)) (va_recv hK.1 hP (ci := 8) (q0 := 0) rfl rfl) (As := []) (rest := []) (cC_X9_numberInHouseHalf l D cs b nm v _   ) (cwV 0 hts gX3_lookAtTicket_X9_numberInHouseHalf rfl rfl rfl (by decide +kernel) ⟨Nat.le_of_ble_eq_true rfl, Nat.le_of_ble_eq_true rfl⟩) rfl hl.1 rfl (Nat.le_of_ble_eq_true rfl) dX3_lookAtTicket_216 ⟨Nat.zero_le _, Nat.zero_le _⟩ ?_
    have hsp : sc_X3_lookAtTicket nm v Z what = sc_X9_numberInHouseHalf nm v := by unfold sc_X3_lookAtTicket; rw [if_neg c_1, if_neg c_2, if_neg c_3, if_neg c_4, if_neg c_5, if_neg c_6, if_neg c_7, if_neg c_8, if_neg c_10, if_neg c_11, if_neg c_13, if_neg c_14, if_neg c_15, if_neg c_16, if_neg c_17, if_pos c_18]
    exact W.iret hx hb hr (fun t2 ht2 hW => ⟨by rw [hsp], ht2⟩) (fun q hq => by cases hq) dX3_lookAtTicket_219 hlocks
  by_cases c_19 : what = 16
  · refine lv_tableIn (off := 213) (tgt := 220) hx hb dX3_lookAtTicket_7 (by rw [c_19]; decide) (by rw [c_19]; decide) (by rw [c_19]; rfl) (by decide) ?_
    refine lv_aload_n hx hb dX3_lookAtTicket_220 rfl (lv_at hl 1 rfl) ?_
    refine c_rd S hK (show va_P D vwCl (wT b nm v) _ from vaL (vaL hP)) (va_recv hK.1 hP (ci := 8) (q0 := 0) rfl rfl) (As := []) (rest := []) (cC_X9_halfInHouseHalf l D cs b nm v _   ) (cwV 0 hts gX3_lookAtTicket_X9_halfInHouseHalf rfl rfl rfl (by decide +kernel) ⟨Nat.le_of_ble_eq_true rfl, Nat.le_of_ble_eq_true rfl⟩) rfl hl.1 rfl (Nat.le_of_ble_eq_true rfl) dX3_lookAtTicket_221 ⟨Nat.zero_le _, Nat.zero_le _⟩ ?_
    have hsp : sc_X3_lookAtTicket nm v Z what = sc_X9_halfInHouseHalf nm v := by unfold sc_X3_lookAtTicket; rw [if_neg c_1, if_neg c_2, if_neg c_3, if_neg c_4, if_neg c_5, if_neg c_6, if_neg c_7, if_neg c_8, if_neg c_10, if_neg c_11, if_neg c_13, if_neg c_14, if_neg c_15, if_neg c_16, if_neg c_17, if_neg c_18, if_pos c_19]
    exact W.iret hx hb hr (fun t2 ht2 hW => ⟨by rw [hsp], ht2⟩) (fun q hq => by cases hq) dX3_lookAtTicket_224 hlocks
  by_cases c_20 : what = 17
  · refine lv_tableIn (off := 218) (tgt := 225) hx hb dX3_lookAtTicket_7 (by rw [c_20]; decide) (by rw [c_20]; decide) (by rw [c_20]; rfl) (by decide) ?_
    refine lv_aload_n hx hb dX3_lookAtTicket_225 rfl (lv_at hl 1 rfl) ?_
    refine va_get (D := D) (ci := 8) (v := .int (v 18)) (C := RX9) (T := TX9) (N := 19) hx hb hts hX9 hown hK.1 hP 0 rfl rfl 11 (by decide) (hts (.fieldLink RX3 248 "PledgeHouse$Ticket" "oathDay" "I") (by decide +kernel)) (fun _ h9 => h9) rfl dX3_lookAtTicket_226 ?_
    have hsp : sc_X3_lookAtTicket nm v Z what = v 18 := by unfold sc_X3_lookAtTicket; rw [if_neg c_1, if_neg c_2, if_neg c_3, if_neg c_4, if_neg c_5, if_neg c_6, if_neg c_7, if_neg c_8, if_neg c_10, if_neg c_11, if_neg c_13, if_neg c_14, if_neg c_15, if_neg c_16, if_neg c_17, if_neg c_18, if_neg c_19, if_pos c_20]
    exact W.iret hx hb hr (fun t2 ht2 hW => ⟨by rw [hsp], ht2⟩) (fun q hq => by cases hq) dX3_lookAtTicket_229 hlocks
  have q_0 : ¬ (what).toInt = 0 := fun h => c_1 (sw_eq (v := 0) (by decide) h)
  have q_1 : ¬ (what).toInt = 1 := fun h => c_2 (sw_eq (v := 1) (by decide) h)
  have q_2 : ¬ (what).toInt = 2 := fun h => c_3 (sw_eq (v := 2) (by decide) h)
  have q_3 : ¬ (what).toInt = 3 := fun h => c_4 (sw_eq (v := 3) (by decide) h)
  have q_4 : ¬ (what).toInt = 4 := fun h => c_5 (sw_eq (v := 4) (by decide) h)
  have q_5 : ¬ (what).toInt = 5 := fun h => c_6 (sw_eq (v := 5) (by decide) h)
  have q_6 : ¬ (what).toInt = 6 := fun h => c_7 (sw_eq (v := 6) (by decide) h)
  have q_7 : ¬ (what).toInt = 7 := fun h => c_8 (sw_eq (v := 7) (by decide) h)
  have q_8 : ¬ (what).toInt = 8 := fun h => c_10 (sw_eq (v := 8) (by decide) h)
  have q_9 : ¬ (what).toInt = 9 := fun h => c_11 (sw_eq (v := 9) (by decide) h)
  have q_10 : ¬ (what).toInt = 10 := fun h => c_13 (sw_eq (v := 10) (by decide) h)
  have q_11 : ¬ (what).toInt = 11 := fun h => c_14 (sw_eq (v := 11) (by decide) h)
  have q_12 : ¬ (what).toInt = 12 := fun h => c_15 (sw_eq (v := 12) (by decide) h)
  have q_13 : ¬ (what).toInt = 13 := fun h => c_16 (sw_eq (v := 13) (by decide) h)
  have q_14 : ¬ (what).toInt = 14 := fun h => c_17 (sw_eq (v := 14) (by decide) h)
  have q_15 : ¬ (what).toInt = 15 := fun h => c_18 (sw_eq (v := 15) (by decide) h)
  have q_16 : ¬ (what).toInt = 16 := fun h => c_19 (sw_eq (v := 16) (by decide) h)
  have q_17 : ¬ (what).toInt = 17 := fun h => c_20 (sw_eq (v := 17) (by decide) h)
  refine lv_tableOut (tgt := 230) hx hb dX3_lookAtTicket_7 (by omega) (by decide) ?_
  refine lv_iconst (v := (-1)) hx hb dX3_lookAtTicket_230 (by decide) ?_
  have hsp : sc_X3_lookAtTicket nm v Z what = (-1) := by unfold sc_X3_lookAtTicket; rw [if_neg c_1, if_neg c_2, if_neg c_3, if_neg c_4, if_neg c_5, if_neg c_6, if_neg c_7, if_neg c_8, if_neg c_10, if_neg c_11, if_neg c_13, if_neg c_14, if_neg c_15, if_neg c_16, if_neg c_17, if_neg c_18, if_neg c_19, if_neg c_20]
  exact W.iret hx hb hr (fun t2 ht2 hW => ⟨by rw [hsp], ht2⟩) (fun q hq => by cases hq) dX3_lookAtTicket_231 hlocks
def sc_X3_payPart (nm : Int32) (v : Nat → Int32) (Z : hZ) (RW : Nat → Nat → Int64) (rc : Nat) (half : Int32) (coins : Int32) : Int32 × (Nat → Int32) × (hZ) × (Nat → Nat → Int64) :=
  if (sc_X9_isHolders nm v) = 0 then
    ((-2), v, Z, RW)
  else
    if (sc_X9_isRight nm v half (gh Z 0)) = 0 then
      ((-4), v, Z, RW)
    else
      if coins < 1 then
        ((-6), v, Z, RW)
      else
        if coins < (sc_X9_owed nm v) then
          (sc_X9_owed nm ((sc_X0_writeGrowing nm (sc_X9_endOathBy nm (upd (upd (upd ((sc_X0_writeGrowing nm v ((sc_X3_addRow Z RW rc).2) rc 14).1) 2 ((((sc_X0_writeGrowing nm v ((sc_X3_addRow Z RW rc).2) rc 14).1) 2) - (if (v 2) < coins then (v 2) else coins))) 1 ((((sc_X0_writeGrowing nm v ((sc_X3_addRow Z RW rc).2) rc 14).1) 1) - (coins - (if (v 2) < coins then (v 2) else coins)))) 20 (-1)) half) ((sc_X0_writeGrowing nm v ((sc_X3_addRow Z RW rc).2) rc 14).2) rc 17).1), (sc_X0_writeGrowing nm (sc_X9_endOathBy nm (upd (upd (upd ((sc_X0_writeGrowing nm v ((sc_X3_addRow Z RW rc).2) rc 14).1) 2 ((((sc_X0_writeGrowing nm v ((sc_X3_addRow Z RW rc).2) rc 14).1) 2) - (if (v 2) < coins then (v 2) else coins))) 1 ((((sc_X0_writeGrowing nm v ((sc_X3_addRow Z RW rc).2) rc 14).1) 1) - (coins - (if (v 2) < coins then (v 2) else coins)))) 20 (-1)) half) ((sc_X0_writeGrowing nm v ((sc_X3_addRow Z RW rc).2) rc 14).2) rc 17).1, (sc_X3_addRow Z RW rc).1, rwp (rwp (rwp ((sc_X0_writeGrowing nm (sc_X9_endOathBy nm (upd (upd (upd ((sc_X0_writeGrowing nm v ((sc_X3_addRow Z RW rc).2) rc 14).1) 2 ((((sc_X0_writeGrowing nm v ((sc_X3_addRow Z RW rc).2) rc 14).1) 2) - (if (v 2) < coins then (v 2) else coins))) 1 ((((sc_X0_writeGrowing nm v ((sc_X3_addRow Z RW rc).2) rc 14).1) 1) - (coins - (if (v 2) < coins then (v 2) else coins)))) 20 (-1)) half) ((sc_X0_writeGrowing nm v ((sc_X3_addRow Z RW rc).2) rc 14).2) rc 17).2) rc 1 ((((sc_X0_writeGrowing nm (sc_X9_endOathBy nm (upd (upd (upd ((sc_X0_writeGrowing nm v ((sc_X3_addRow Z RW rc).2) rc 14).1) 2 ((((sc_X0_writeGrowing nm v ((sc_X3_addRow Z RW rc).2) rc 14).1) 2) - (if (v 2) < coins then (v 2) else coins))) 1 ((((sc_X0_writeGrowing nm v ((sc_X3_addRow Z RW rc).2) rc 14).1) 1) - (coins - (if (v 2) < coins then (v 2) else coins)))) 20 (-1)) half) ((sc_X0_writeGrowing nm v ((sc_X3_addRow Z RW rc).2) rc 14).2) rc 17).2) rc 1) + ((if (v 2) < coins then (v 2) else coins).toInt64))) rc 2 ((((sc_X0_writeGrowing nm (sc_X9_endOathBy nm (upd (upd (upd ((sc_X0_writeGrowing nm v ((sc_X3_addRow Z RW rc).2) rc 14).1) 2 ((((sc_X0_writeGrowing nm v ((sc_X3_addRow Z RW rc).2) rc 14).1) 2) - (if (v 2) < coins then (v 2) else coins))) 1 ((((sc_X0_writeGrowing nm v ((sc_X3_addRow Z RW rc).2) rc 14).1) 1) - (coins - (if (v 2) < coins then (v 2) else coins)))) 20 (-1)) half) ((sc_X0_writeGrowing nm v ((sc_X3_addRow Z RW rc).2) rc 14).2) rc 17).2) rc 2) + ((coins - (if (v 2) < coins then (v 2) else coins)).toInt64))) rc 8 ((((sc_X0_writeGrowing nm (sc_X9_endOathBy nm (upd (upd (upd ((sc_X0_writeGrowing nm v ((sc_X3_addRow Z RW rc).2) rc 14).1) 2 ((((sc_X0_writeGrowing nm v ((sc_X3_addRow Z RW rc).2) rc 14).1) 2) - (if (v 2) < coins then (v 2) else coins))) 1 ((((sc_X0_writeGrowing nm v ((sc_X3_addRow Z RW rc).2) rc 14).1) 1) - (coins - (if (v 2) < coins then (v 2) else coins)))) 20 (-1)) half) ((sc_X0_writeGrowing nm v ((sc_X3_addRow Z RW rc).2) rc 14).2) rc 17).2) rc 8) - ((coins - (if (v 2) < coins then (v 2) else coins)).toInt64)))
        else
          ((-6), v, Z, RW)
set_option maxHeartbeats 4000000 in
set_option maxRecDepth 100000 in
theorem cC_X3_payPart (l : Launch) (D : va_G) (cs : Nat → ClassId) (b : Nat → Nat) (nm : Int32) (v : Nat → Int32) (k : Nat → Nat) (a : Nat → Nat) (Z : hZ) (r : Nat → Nat) (RW : Nat → Nat → Int64) (sz : Nat) (ib : iT b) (ia : iH a) (ik : iB k r) (d : dTHB b a k r) (rc : Nat) (half : Int32) (coins : Int32) (hrc : gh Z 2 = nI rc) (hrl : rc ≤ 511) : Met l yX3_payPart wsX3_payPart ({ frames := 3, cells := 0, slots := 0, locals := 67 }) (cPc [.ref (a 0), .ref (b 0), .int half, .int coins] D cs ((wT b nm v ++ wH a (k 0) cs Z) ++ wB k r cs RW) sz) (cQ D (some (.int (sc_X3_payPart nm v Z RW rc half coins).1)) ((wT b nm ((sc_X3_payPart nm v Z RW rc half coins).2.1) ++ wH a (k 0) cs ((sc_X3_payPart nm v Z RW rc half coins).2.2.1)) ++ wB k r cs ((sc_X3_payPart nm v Z RW rc half coins).2.2.2)) (adA (pOr (pOr (pT b) (pH a)) (pB k r)) sz)) 0 0 (adA (pOr (pOr (pT b) (pH a)) (pB k r)) sz) := by
  refine c_in (P := pOr (pOr (pT b) (pH a)) (pB k r)) (cc := cX3_payPart) (maxL := 7) (ret := (some .int)) (lv := [(0, .ref (a 0)), (1, .ref (b 0)), (2, .int half), (3, .int coins)]) (by decide) rfl (Nat.le_of_ble_eq_true rfl) rfl ?_
  intro p e s m below meth c ls S hr hlocks hin hsz hP hK hl hS
  subst hsz
  obtain ⟨hx, hb, hml, hown, hts⟩ := id S
  have hX3 : ∀ w ∈ wsX30, w ∈ wsX3_payPart := by decide +kernel
  have hX7 : ∀ w ∈ wsX70, w ∈ wsX3_payPart := by decide +kernel
  have hX9 : ∀ w ∈ wsX90, w ∈ wsX3_payPart := by decide +kernel
  refine lv_aload_n hx hb dX3_payPart_0 rfl (lv_at hl 1 rfl) ?_
  refine lv_ifnonnull (tgt := 6) hx hb dX3_payPart_1 (by decide) ?_
  refine lv_aload_n hx hb dX3_payPart_6 rfl (lv_at hl 1 rfl) ?_
  refine c_rd S hK (show va_P D vwCl (wT b nm v) _ from vaL (vaL hP)) (va_recv hK.1 hP (ci := 8) (q0 := 0) rfl rfl) (As := []) (rest := []) (cC_X9_isHolders l D cs b nm v _   ) (cwV 0 hts gX3_payPart_X9_isHolders rfl rfl rfl (by decide +kernel) ⟨Nat.le_of_ble_eq_true rfl, Nat.le_of_ble_eq_true rfl⟩) rfl hl.1 rfl (Nat.le_of_ble_eq_true rfl) dX3_payPart_7 ⟨Nat.zero_le _, Nat.zero_le _⟩ ?_
  refine lv_if_ne (tgt := 16) hx hb dX3_payPart_10 (by decide) (fun c_1 => ?_) (fun c_1 => ?_)
  · refine lv_aload_n hx hb dX3_payPart_16 rfl (lv_at hl 1 rfl) ?_
    refine lv_iload_n hx hb dX3_payPart_17 rfl (lv_at hl 2 rfl) ?_
    refine lv_aload_n hx hb dX3_payPart_18 rfl (lv_at hl 0 rfl) ?_
    refine hx_get hx hb hts hX3 hown hK.1 hP 2 (by decide) (hts (.fieldLink RX3 50 "PledgeHouse$House" "today" "I") (by decide +kernel)) rfl (v := .int (gh Z 0)) rfl dX3_payPart_19 ?_
    refine c_rd S hK (show va_P D vwCl (wT b nm v) _ from vaL (vaL hP)) (va_recv hK.1 hP (ci := 8) (q0 := 0) rfl rfl) (As := [.int half, .int (gh Z 0)]) (rest := []) (cC_X9_isRight l D cs b nm v _  half (gh Z 0) ) (cwV 2 hts gX3_payPart_X9_isRight rfl rfl rfl (by decide +kernel) ⟨Nat.le_of_ble_eq_true rfl, Nat.le_of_ble_eq_true rfl⟩) rfl hl.1 rfl (Nat.le_of_ble_eq_true rfl) dX3_payPart_22 ⟨Nat.zero_le _, Nat.zero_le _⟩ ?_
    refine lv_if_ne (tgt := 31) hx hb dX3_payPart_25 (by decide) (fun c_2 => ?_) (fun c_2 => ?_)
    · refine lv_iload_n hx hb dX3_payPart_31 rfl (lv_at hl 3 rfl) ?_
      refine lv_iconst (v := 1) hx hb dX3_payPart_32 (by decide) ?_
      refine lv_icmp_lt (tgt := 44) hx hb dX3_payPart_33 (by decide) (fun c_3 => ?_) (fun c_3 => ?_)
      · refine lv_bipush (v := (-6)) hx hb dX3_payPart_44 (by decide) ?_
        have hsp : sc_X3_payPart nm v Z RW rc half coins = ((-6), v, Z, RW) := by unfold sc_X3_payPart; rw [if_neg c_1, if_neg c_2, if_pos c_3]
        exact W.iret hx hb hr (fun t2 ht2 hW => by rw [hsp]; exact ⟨rfl, by rw [ht2]; exact hP, hS.F ht2⟩) hS.2.2 dX3_payPart_46 hlocks
      · refine lv_iload_n hx hb dX3_payPart_36 rfl (lv_at hl 3 rfl) ?_
        refine lv_aload_n hx hb dX3_payPart_37 rfl (lv_at hl 1 rfl) ?_
        refine c_rd S hK (show va_P D vwCl (wT b nm v) _ from vaL (vaL hP)) (va_recv hK.1 hP (ci := 8) (q0 := 0) rfl rfl) (As := []) (rest := [.int coins]) (cC_X9_owed l D cs b nm v _   ) (cwV 0 hts gX3_payPart_X9_owed rfl rfl rfl (by decide +kernel) ⟨Nat.le_of_ble_eq_true rfl, Nat.le_of_ble_eq_true rfl⟩) rfl hl.1 rfl (Nat.le_of_ble_eq_true rfl) dX3_payPart_38 ⟨Nat.zero_le _, Nat.zero_le _⟩ ?_
        refine lv_icmp_lt (tgt := 47) hx hb dX3_payPart_41 (by decide) (fun c_4 => ?_) (fun c_4 => ?_)
        · refine lv_iload_n hx hb dX3_payPart_47 rfl (lv_at hl 3 rfl) ?_
          refine lv_aload_n hx hb dX3_payPart_48 rfl (lv_at hl 1 rfl) ?_
          refine va_get (D := D) (ci := 8) (v := .ref (b 1)) (C := RX9) (T := TX9) (N := 19) hx hb hts hX9 hown hK.1 hP 0 rfl rfl 6 (by decide) (hts (.fieldLink RX3 77 "PledgeHouse$Ticket" "term" "LPledgeHouse$Term;") (by decide +kernel)) (fun _ h9 => h9) rfl dX3_payPart_49 ?_
          refine va_get (D := D) (ci := 6) (v := .int (v 2)) (C := RX7) (T := TX7) (N := 6) hx hb hts hX7 hown hK.1 hP 1 rfl rfl 4 (by decide) (hts (.fieldLink RX3 261 "PledgeHouse$Term" "interest" "I") (by decide +kernel)) (fun _ h9 => h9) rfl dX3_payPart_52 ?_
          refine va_mmin hx hb (hml.trans hl.1.symm) hown (hts (.methodLink RX3 264 Lib.Math.min.name) (by decide +kernel)) (hts (.static Lib.Math.min.name) (by decide +kernel)) (hts (.initialized "java/lang/Math") (by decide +kernel)) (hts (.code Lib.Math.min.name Lib.Math.min.code 2 (some .int)) (by decide +kernel)) (Nat.le_of_ble_eq_true rfl) (Nat.le_of_ble_eq_true rfl) (Nat.zero_le _) (Nat.zero_le _) dX3_payPart_55 ?_
          refine lv_istore (lv' := [(4, .int (if (v 2) < coins then (v 2) else coins)), (0, .ref (a 0)), (1, .ref (b 0)), (2, .int half), (3, .int coins)]) hx hb dX3_payPart_58 hl (by decide) rfl (fun ls hl => ?_)
          refine lv_iload_n hx hb dX3_payPart_60 rfl (lv_at hl 4 rfl) ?_
          refine lv_iload hx hb dX3_payPart_61 (lv_at hl 0 rfl) ?_
          refine lv_isub hx hb dX3_payPart_63 ?_
          refine lv_istore (lv' := [(5, .int (coins - (if (v 2) < coins then (v 2) else coins))), (4, .int (if (v 2) < coins then (v 2) else coins)), (0, .ref (a 0)), (1, .ref (b 0)), (2, .int half), (3, .int coins)]) hx hb dX3_payPart_64 hl (by decide) rfl (fun ls hl => ?_)
          refine lv_aload_n hx hb dX3_payPart_66 rfl (lv_at hl 2 rfl) ?_
          refine c_wr (WS' := (wT b nm v ++ wH a (k 0) cs ((sc_X3_addRow Z RW rc).1)) ++ wB k r cs ((sc_X3_addRow Z RW rc).2)) S hK (show va_P D vwCl (([] ++ wH a (k 0) cs Z) ++ wB k r cs RW) _ from va_P.app (vaR (vaL hP)) (vaR hP)) (va_recv hK.1 hP (ci := 3) (q0 := _ + 0) rfl (get3 rfl)) hS (As := []) (rest := []) (cC_X3_addRow l D cs k a Z r RW _ ia ik d.2.2 rc hrc hrl) (cwV 0 hts gX3_payPart_X3_addRow rfl rfl rfl (by decide +kernel) ⟨Nat.le_of_ble_eq_true rfl, Nat.le_of_ble_eq_true rfl⟩) rfl hl.1 rfl (Nat.le_of_ble_eq_true rfl) dX3_payPart_67 ⟨Nat.zero_le _, Nat.zero_le _⟩ (fun q h => adA_le hS.1 q (h.elim (fun t => Or.inl (t.elim (fun t => Or.inl (Or.inr t)) (fun t => Or.inr t))) Or.inr)) (fun H1 _ hk h => (va_P.app (va_P.app (keepP (vaL (vaL hP)) wT_p (fun q h1 h2 => h2.elim (fun t => d.1 q h1 t) (fun t => d.2.1 q h1 t)) hk) (vaL h)) (vaR h))) (fun H locs hP hS => ?_)
          refine lv_astore (lv' := [(6, .ref (r rc)), (5, .int (coins - (if (v 2) < coins then (v 2) else coins))), (4, .int (if (v 2) < coins then (v 2) else coins)), (0, .ref (a 0)), (1, .ref (b 0)), (2, .int half), (3, .int coins)]) hx hb dX3_payPart_70 hl (by decide) rfl (fun ls hl => ?_)
          refine lv_aload hx hb dX3_payPart_72 (lv_at hl 0 rfl) ?_
          refine lv_bipush (v := 14) hx hb dX3_payPart_74 (by decide) ?_
          refine lv_aload_n hx hb dX3_payPart_76 rfl (lv_at hl 4 rfl) ?_
          refine c_wrS (WS' := (wT b nm ((sc_X0_writeGrowing nm v ((sc_X3_addRow Z RW rc).2) rc 14).1) ++ wH a (k 0) cs ((sc_X3_addRow Z RW rc).1)) ++ wB k r cs ((sc_X0_writeGrowing nm v ((sc_X3_addRow Z RW rc).2) rc 14).2)) S hK (show va_P D vwCl (wT b nm v ++ wB k r cs ((sc_X3_addRow Z RW rc).2)) _ from va_P.app (vaL (vaL hP)) (vaR hP)) hS (As := [.ref (r rc), .int 14, .ref (b 0)]) (rest := []) (cC_X0_writeGrowing l D cs b nm v k r ((sc_X3_addRow Z RW rc).2) _ ib ik d.2.1 rc 14 (Nat.lt_of_le_of_lt hrl (by decide)) (by decide)) (va_cwS 3 hts gX3_payPart_X0_writeGrowing rfl rfl rfl (by decide +kernel) ⟨Nat.le_of_ble_eq_true rfl, Nat.le_of_ble_eq_true rfl⟩) rfl hl.1 rfl (Nat.le_of_ble_eq_true rfl) dX3_payPart_77 ⟨Nat.zero_le _, Nat.zero_le _⟩ (fun q h => adA_le hS.1 q (h.elim (fun t => Or.inl (t.elim (fun t => Or.inl (Or.inl t)) (fun t => Or.inr t))) Or.inr)) (fun H1 _ hk h => (va_P.app (va_P.app (vaL h) (keepP (vaR (vaL hP)) wH_p (fun q h1 h2 => h2.elim (fun t => d.1 q t h1) (fun t => d.2.2 q h1 t)) hk)) (vaR h))) (fun H locs hP hS => ?_)
          refine lv_aload_n hx hb dX3_payPart_80 rfl (lv_at hl 4 rfl) ?_
          refine va_get (D := D) (ci := 8) (v := .ref (b 1)) (C := RX9) (T := TX9) (N := 19) hx hb hts hX9 hown hK.1 hP 0 rfl rfl 6 (by decide) (hts (.fieldLink RX3 77 "PledgeHouse$Ticket" "term" "LPledgeHouse$Term;") (by decide +kernel)) (fun _ h9 => h9) rfl dX3_payPart_81 ?_
          refine lv_dup hx hb dX3_payPart_84 rfl ?_
          refine va_get (D := D) (ci := 6) (v := .int (((sc_X0_writeGrowing nm v ((sc_X3_addRow Z RW rc).2) rc 14).1) 2)) (C := RX7) (T := TX7) (N := 6) hx hb hts hX7 hown hK.1 hP 1 rfl rfl 4 (by decide) (hts (.fieldLink RX3 261 "PledgeHouse$Term" "interest" "I") (by decide +kernel)) (fun _ h9 => h9) rfl dX3_payPart_85 ?_
          refine lv_iload hx hb dX3_payPart_88 (lv_at hl 2 rfl) ?_
          refine lv_isub hx hb dX3_payPart_90 ?_
          refine va_put (D := D) (ci := 6) (v := .int ((((sc_X0_writeGrowing nm v ((sc_X3_addRow Z RW rc).2) rc 14).1) 2) - (if (v 2) < coins then (v 2) else coins))) (ty := .int) (C := RX7) (T := TX7) (N := 6) hx hb hts hX7 tyX7 tyX7_ok nmX7 hown hK.1 hP (wTHB_D ib ia ik d s.heap.size) hS 1 rfl rfl 4 (by decide) (hts (.fieldLink RX3 261 "PledgeHouse$Term" "interest" "I") (by decide +kernel)) (fun _ h9 => h9) rfl (by decide +kernel) rfl rfl (Nat.le_of_ble_eq_true rfl) dX3_payPart_91 (fun H locs hP _ hS => ?_)
          have hP : va_P D vwCl ((wT b nm (upd ((sc_X0_writeGrowing nm v ((sc_X3_addRow Z RW rc).2) rc 14).1) 2 ((((sc_X0_writeGrowing nm v ((sc_X3_addRow Z RW rc).2) rc 14).1) 2) - (if (v 2) < coins then (v 2) else coins))) ++ wH a (k 0) cs ((sc_X3_addRow Z RW rc).1)) ++ wB k r cs ((sc_X0_writeGrowing nm v ((sc_X3_addRow Z RW rc).2) rc 14).2)) H := hP
          refine lv_aload_n hx hb dX3_payPart_94 rfl (lv_at hl 4 rfl) ?_
          refine lv_dup hx hb dX3_payPart_95 rfl ?_
          refine va_get (D := D) (ci := 8) (v := .int ((upd ((sc_X0_writeGrowing nm v ((sc_X3_addRow Z RW rc).2) rc 14).1) 2 ((((sc_X0_writeGrowing nm v ((sc_X3_addRow Z RW rc).2) rc 14).1) 2) - (if (v 2) < coins then (v 2) else coins))) 1)) (C := RX9) (T := TX9) (N := 19) hx hb hts hX9 hown hK.1 hP 0 rfl rfl 4 (by decide) (hts (.fieldLink RX3 81 "PledgeHouse$Ticket" "principal" "I") (by decide +kernel)) (fun _ h9 => h9) rfl dX3_payPart_96 ?_
          refine wtop (congrArg Value.int (show (upd ((sc_X0_writeGrowing nm v ((sc_X3_addRow Z RW rc).2) rc 14).1) 2 ((((sc_X0_writeGrowing nm v ((sc_X3_addRow Z RW rc).2) rc 14).1) 2) - (if (v 2) < coins then (v 2) else coins))) 1 = ((sc_X0_writeGrowing nm v ((sc_X3_addRow Z RW rc).2) rc 14).1) 1 from (pk_un (by decide)))) ?_
          refine lv_iload hx hb dX3_payPart_99 (lv_at hl 1 rfl) ?_
          refine lv_isub hx hb dX3_payPart_101 ?_
          refine va_put (D := D) (ci := 8) (v := .int ((((sc_X0_writeGrowing nm v ((sc_X3_addRow Z RW rc).2) rc 14).1) 1) - (coins - (if (v 2) < coins then (v 2) else coins)))) (ty := .int) (C := RX9) (T := TX9) (N := 19) hx hb hts hX9 tyX9 tyX9_ok nmX9 hown hK.1 hP (wTHB_D ib ia ik d s.heap.size) hS 0 rfl rfl 4 (by decide) (hts (.fieldLink RX3 81 "PledgeHouse$Ticket" "principal" "I") (by decide +kernel)) (fun _ h9 => h9) rfl (by decide +kernel) rfl rfl (Nat.le_of_ble_eq_true rfl) dX3_payPart_102 (fun H locs hP _ hS => ?_)
          have hP : va_P D vwCl ((wT b nm (upd (upd ((sc_X0_writeGrowing nm v ((sc_X3_addRow Z RW rc).2) rc 14).1) 2 ((((sc_X0_writeGrowing nm v ((sc_X3_addRow Z RW rc).2) rc 14).1) 2) - (if (v 2) < coins then (v 2) else coins))) 1 ((((sc_X0_writeGrowing nm v ((sc_X3_addRow Z RW rc).2) rc 14).1) 1) - (coins - (if (v 2) < coins then (v 2) else coins)))) ++ wH a (k 0) cs ((sc_X3_addRow Z RW rc).1)) ++ wB k r cs ((sc_X0_writeGrowing nm v ((sc_X3_addRow Z RW rc).2) rc 14).2)) H := hP
          refine lv_aload_n hx hb dX3_payPart_105 rfl (lv_at hl 4 rfl) ?_
          refine lv_iconst (v := (-1)) hx hb dX3_payPart_106 (by decide) ?_
          refine va_put (D := D) (ci := 8) (v := .int (-1)) (ty := .int) (C := RX9) (T := TX9) (N := 19) hx hb hts hX9 tyX9 tyX9_ok nmX9 hown hK.1 hP (wTHB_D ib ia ik d s.heap.size) hS 0 rfl rfl 8 (by decide) (hts (.fieldLink RX3 269 "PledgeHouse$Ticket" "renewedOn" "I") (by decide +kernel)) (fun _ h9 => h9) rfl (by decide +kernel) rfl rfl (Nat.le_of_ble_eq_true rfl) dX3_payPart_107 (fun H locs hP _ hS => ?_)
          have hP : va_P D vwCl ((wT b nm (upd (upd (upd ((sc_X0_writeGrowing nm v ((sc_X3_addRow Z RW rc).2) rc 14).1) 2 ((((sc_X0_writeGrowing nm v ((sc_X3_addRow Z RW rc).2) rc 14).1) 2) - (if (v 2) < coins then (v 2) else coins))) 1 ((((sc_X0_writeGrowing nm v ((sc_X3_addRow Z RW rc).2) rc 14).1) 1) - (coins - (if (v 2) < coins then (v 2) else coins)))) 20 (-1)) ++ wH a (k 0) cs ((sc_X3_addRow Z RW rc).1)) ++ wB k r cs ((sc_X0_writeGrowing nm v ((sc_X3_addRow Z RW rc).2) rc 14).2)) H := hP
          refine lv_aload_n hx hb dX3_payPart_110 rfl (lv_at hl 4 rfl) ?_
          refine lv_iload_n hx hb dX3_payPart_111 rfl (lv_at hl 5 rfl) ?_
          refine c_wr (WS' := (wT b nm (sc_X9_endOathBy nm (upd (upd (upd ((sc_X0_writeGrowing nm v ((sc_X3_addRow Z RW rc).2) rc 14).1) 2 ((((sc_X0_writeGrowing nm v ((sc_X3_addRow Z RW rc).2) rc 14).1) 2) - (if (v 2) < coins then (v 2) else coins))) 1 ((((sc_X0_writeGrowing nm v ((sc_X3_addRow Z RW rc).2) rc 14).1) 1) - (coins - (if (v 2) < coins then (v 2) else coins)))) 20 (-1)) half) ++ wH a (k 0) cs ((sc_X3_addRow Z RW rc).1)) ++ wB k r cs ((sc_X0_writeGrowing nm v ((sc_X3_addRow Z RW rc).2) rc 14).2)) S hK (show va_P D vwCl (wT b nm (upd (upd (upd ((sc_X0_writeGrowing nm v ((sc_X3_addRow Z RW rc).2) rc 14).1) 2 ((((sc_X0_writeGrowing nm v ((sc_X3_addRow Z RW rc).2) rc 14).1) 2) - (if (v 2) < coins then (v 2) else coins))) 1 ((((sc_X0_writeGrowing nm v ((sc_X3_addRow Z RW rc).2) rc 14).1) 1) - (coins - (if (v 2) < coins then (v 2) else coins)))) 20 (-1))) _ from vaL (vaL hP)) (va_recv hK.1 hP (ci := 8) (q0 := 0) rfl rfl) hS (As := [.int half]) (rest := []) (cC_X9_endOathBy l D cs b nm (upd (upd (upd ((sc_X0_writeGrowing nm v ((sc_X3_addRow Z RW rc).2) rc 14).1) 2 ((((sc_X0_writeGrowing nm v ((sc_X3_addRow Z RW rc).2) rc 14).1) 2) - (if (v 2) < coins then (v 2) else coins))) 1 ((((sc_X0_writeGrowing nm v ((sc_X3_addRow Z RW rc).2) rc 14).1) 1) - (coins - (if (v 2) < coins then (v 2) else coins)))) 20 (-1)) _ ib half ) (cwV 1 hts gX3_payPart_X9_endOathBy rfl rfl rfl (by decide +kernel) ⟨Nat.le_of_ble_eq_true rfl, Nat.le_of_ble_eq_true rfl⟩) rfl hl.1 rfl (Nat.le_of_ble_eq_true rfl) dX3_payPart_112 ⟨Nat.zero_le _, Nat.zero_le _⟩ (fun q h => adA_le hS.1 q (h.elim (fun t => Or.inl (Or.inl (Or.inl t))) Or.inr)) (fun H1 _ hk h => (va_P.app (va_P.app h (keepP (vaR (vaL hP)) wH_p (fun q h1 h2 => d.1 q h2 h1) hk)) (keepP (vaR hP) wB_p (fun q h1 h2 => d.2.1 q h2 h1) hk))) (fun H locs hP hS => ?_)
          refine lv_aload hx hb dX3_payPart_115 (lv_at hl 0 rfl) ?_
          refine lv_bipush (v := 17) hx hb dX3_payPart_117 (by decide) ?_
          refine lv_aload_n hx hb dX3_payPart_119 rfl (lv_at hl 4 rfl) ?_
          refine c_wrS (WS' := (wT b nm ((sc_X0_writeGrowing nm (sc_X9_endOathBy nm (upd (upd (upd ((sc_X0_writeGrowing nm v ((sc_X3_addRow Z RW rc).2) rc 14).1) 2 ((((sc_X0_writeGrowing nm v ((sc_X3_addRow Z RW rc).2) rc 14).1) 2) - (if (v 2) < coins then (v 2) else coins))) 1 ((((sc_X0_writeGrowing nm v ((sc_X3_addRow Z RW rc).2) rc 14).1) 1) - (coins - (if (v 2) < coins then (v 2) else coins)))) 20 (-1)) half) ((sc_X0_writeGrowing nm v ((sc_X3_addRow Z RW rc).2) rc 14).2) rc 17).1) ++ wH a (k 0) cs ((sc_X3_addRow Z RW rc).1)) ++ wB k r cs ((sc_X0_writeGrowing nm (sc_X9_endOathBy nm (upd (upd (upd ((sc_X0_writeGrowing nm v ((sc_X3_addRow Z RW rc).2) rc 14).1) 2 ((((sc_X0_writeGrowing nm v ((sc_X3_addRow Z RW rc).2) rc 14).1) 2) - (if (v 2) < coins then (v 2) else coins))) 1 ((((sc_X0_writeGrowing nm v ((sc_X3_addRow Z RW rc).2) rc 14).1) 1) - (coins - (if (v 2) < coins then (v 2) else coins)))) 20 (-1)) half) ((sc_X0_writeGrowing nm v ((sc_X3_addRow Z RW rc).2) rc 14).2) rc 17).2)) S hK (show va_P D vwCl (wT b nm (sc_X9_endOathBy nm (upd (upd (upd ((sc_X0_writeGrowing nm v ((sc_X3_addRow Z RW rc).2) rc 14).1) 2 ((((sc_X0_writeGrowing nm v ((sc_X3_addRow Z RW rc).2) rc 14).1) 2) - (if (v 2) < coins then (v 2) else coins))) 1 ((((sc_X0_writeGrowing nm v ((sc_X3_addRow Z RW rc).2) rc 14).1) 1) - (coins - (if (v 2) < coins then (v 2) else coins)))) 20 (-1)) half) ++ wB k r cs ((sc_X0_writeGrowing nm v ((sc_X3_addRow Z RW rc).2) rc 14).2)) _ from va_P.app (vaL (vaL hP)) (vaR hP)) hS (As := [.ref (r rc), .int 17, .ref (b 0)]) (rest := []) (cC_X0_writeGrowing l D cs b nm (sc_X9_endOathBy nm (upd (upd (upd ((sc_X0_writeGrowing nm v ((sc_X3_addRow Z RW rc).2) rc 14).1) 2 ((((sc_X0_writeGrowing nm v ((sc_X3_addRow Z RW rc).2) rc 14).1) 2) - (if (v 2) < coins then (v 2) else coins))) 1 ((((sc_X0_writeGrowing nm v ((sc_X3_addRow Z RW rc).2) rc 14).1) 1) - (coins - (if (v 2) < coins then (v 2) else coins)))) 20 (-1)) half) k r ((sc_X0_writeGrowing nm v ((sc_X3_addRow Z RW rc).2) rc 14).2) _ ib ik d.2.1 rc 17 (Nat.lt_of_le_of_lt hrl (by decide)) (by decide)) (va_cwS 3 hts gX3_payPart_X0_writeGrowing rfl rfl rfl (by decide +kernel) ⟨Nat.le_of_ble_eq_true rfl, Nat.le_of_ble_eq_true rfl⟩) rfl hl.1 rfl (Nat.le_of_ble_eq_true rfl) dX3_payPart_120 ⟨Nat.zero_le _, Nat.zero_le _⟩ (fun q h => adA_le hS.1 q (h.elim (fun t => Or.inl (t.elim (fun t => Or.inl (Or.inl t)) (fun t => Or.inr t))) Or.inr)) (fun H1 _ hk h => (va_P.app (va_P.app (vaL h) (keepP (vaR (vaL hP)) wH_p (fun q h1 h2 => h2.elim (fun t => d.1 q t h1) (fun t => d.2.2 q h1 t)) hk)) (vaR h))) (fun H locs hP hS => ?_)
          refine lv_aload hx hb dX3_payPart_123 (lv_at hl 0 rfl) ?_
          refine lv_iconst (v := 1) hx hb dX3_payPart_125 (by decide) ?_
          refine lv_dup2_11 hx hb dX3_payPart_126 rfl rfl ?_
          refine b_lald hx hb hK.1 hP rc 1 (Nat.lt_of_le_of_lt hrl (by decide)) rfl (by decide) (v := ((sc_X0_writeGrowing nm (sc_X9_endOathBy nm (upd (upd (upd ((sc_X0_writeGrowing nm v ((sc_X3_addRow Z RW rc).2) rc 14).1) 2 ((((sc_X0_writeGrowing nm v ((sc_X3_addRow Z RW rc).2) rc 14).1) 2) - (if (v 2) < coins then (v 2) else coins))) 1 ((((sc_X0_writeGrowing nm v ((sc_X3_addRow Z RW rc).2) rc 14).1) 1) - (coins - (if (v 2) < coins then (v 2) else coins)))) 20 (-1)) half) ((sc_X0_writeGrowing nm v ((sc_X3_addRow Z RW rc).2) rc 14).2) rc 17).2) rc 1) rfl dX3_payPart_127 ?_
          refine lv_iload hx hb dX3_payPart_128 (lv_at hl 2 rfl) ?_
          refine lv_i2l (v := (if (v 2) < coins then (v 2) else coins).toInt64) hx hb dX3_payPart_130 rfl ?_
          refine lv_ladd hx hb dX3_payPart_131 ?_
          refine b_last hx hb hK.1 hP (wTHB_D ib ia ik d s.heap.size) hS rc 1 (Nat.lt_of_le_of_lt hrl (by decide)) rfl (by decide) dX3_payPart_132 (fun H locs hP hS => ?_)
          refine lv_aload hx hb dX3_payPart_133 (lv_at hl 0 rfl) ?_
          refine lv_iconst (v := 2) hx hb dX3_payPart_135 (by decide) ?_
          refine lv_dup2_11 hx hb dX3_payPart_136 rfl rfl ?_
          refine b_lald hx hb hK.1 hP rc 2 (Nat.lt_of_le_of_lt hrl (by decide)) rfl (by decide) (v := ((sc_X0_writeGrowing nm (sc_X9_endOathBy nm (upd (upd (upd ((sc_X0_writeGrowing nm v ((sc_X3_addRow Z RW rc).2) rc 14).1) 2 ((((sc_X0_writeGrowing nm v ((sc_X3_addRow Z RW rc).2) rc 14).1) 2) - (if (v 2) < coins then (v 2) else coins))) 1 ((((sc_X0_writeGrowing nm v ((sc_X3_addRow Z RW rc).2) rc 14).1) 1) - (coins - (if (v 2) < coins then (v 2) else coins)))) 20 (-1)) half) ((sc_X0_writeGrowing nm v ((sc_X3_addRow Z RW rc).2) rc 14).2) rc 17).2) rc 2) (rwp_ne (by decide)) dX3_payPart_137 ?_
          refine lv_iload hx hb dX3_payPart_138 (lv_at hl 1 rfl) ?_
          refine lv_i2l (v := (coins - (if (v 2) < coins then (v 2) else coins)).toInt64) hx hb dX3_payPart_140 rfl ?_
          refine lv_ladd hx hb dX3_payPart_141 ?_
          refine b_last hx hb hK.1 hP (wTHB_D ib ia ik d s.heap.size) hS rc 2 (Nat.lt_of_le_of_lt hrl (by decide)) rfl (by decide) dX3_payPart_142 (fun H locs hP hS => ?_)
          refine lv_aload hx hb dX3_payPart_143 (lv_at hl 0 rfl) ?_
          refine lv_bipush (v := 8) hx hb dX3_payPart_145 (by decide) ?_
          refine lv_dup2_11 hx hb dX3_payPart_147 rfl rfl ?_
          refine b_lald hx hb hK.1 hP rc 8 (Nat.lt_of_le_of_lt hrl (by decide)) rfl (by decide) (v := ((sc_X0_writeGrowing nm (sc_X9_endOathBy nm (upd (upd (upd ((sc_X0_writeGrowing nm v ((sc_X3_addRow Z RW rc).2) rc 14).1) 2 ((((sc_X0_writeGrowing nm v ((sc_X3_addRow Z RW rc).2) rc 14).1) 2) - (if (v 2) < coins then (v 2) else coins))) 1 ((((sc_X0_writeGrowing nm v ((sc_X3_addRow Z RW rc).2) rc 14).1) 1) - (coins - (if (v 2) < coins then (v 2) else coins)))) 20 (-1)) half) ((sc_X0_writeGrowing nm v ((sc_X3_addRow Z RW rc).2) rc 14).2) rc 17).2) rc 8) ((rwp_ne (by decide)).trans (rwp_ne (by decide))) dX3_payPart_148 ?_
          refine lv_iload hx hb dX3_payPart_149 (lv_at hl 1 rfl) ?_
          refine lv_i2l (v := (coins - (if (v 2) < coins then (v 2) else coins)).toInt64) hx hb dX3_payPart_151 rfl ?_
          refine lv_lsub hx hb dX3_payPart_152 ?_
          refine b_last hx hb hK.1 hP (wTHB_D ib ia ik d s.heap.size) hS rc 8 (Nat.lt_of_le_of_lt hrl (by decide)) rfl (by decide) dX3_payPart_153 (fun H locs hP hS => ?_)
          refine lv_aload_n hx hb dX3_payPart_154 rfl (lv_at hl 4 rfl) ?_
          refine c_rd S hK (show va_P D vwCl (wT b nm ((sc_X0_writeGrowing nm (sc_X9_endOathBy nm (upd (upd (upd ((sc_X0_writeGrowing nm v ((sc_X3_addRow Z RW rc).2) rc 14).1) 2 ((((sc_X0_writeGrowing nm v ((sc_X3_addRow Z RW rc).2) rc 14).1) 2) - (if (v 2) < coins then (v 2) else coins))) 1 ((((sc_X0_writeGrowing nm v ((sc_X3_addRow Z RW rc).2) rc 14).1) 1) - (coins - (if (v 2) < coins then (v 2) else coins)))) 20 (-1)) half) ((sc_X0_writeGrowing nm v ((sc_X3_addRow Z RW rc).2) rc 14).2) rc 17).1)) _ from vaL (vaL hP)) (va_recv hK.1 hP (ci := 8) (q0 := 0) rfl rfl) (As := []) (rest := []) (cC_X9_owed l D cs b nm ((sc_X0_writeGrowing nm (sc_X9_endOathBy nm (upd (upd (upd ((sc_X0_writeGrowing nm v ((sc_X3_addRow Z RW rc).2) rc 14).1) 2 ((((sc_X0_writeGrowing nm v ((sc_X3_addRow Z RW rc).2) rc 14).1) 2) - (if (v 2) < coins then (v 2) else coins))) 1 ((((sc_X0_writeGrowing nm v ((sc_X3_addRow Z RW rc).2) rc 14).1) 1) - (coins - (if (v 2) < coins then (v 2) else coins)))) 20 (-1)) half) ((sc_X0_writeGrowing nm v ((sc_X3_addRow Z RW rc).2) rc 14).2) rc 17).1) _   ) (cwV 0 hts gX3_payPart_X9_owed rfl rfl rfl (by decide +kernel) ⟨Nat.le_of_ble_eq_true rfl, Nat.le_of_ble_eq_true rfl⟩) rfl hl.1 rfl (Nat.le_of_ble_eq_true rfl) dX3_payPart_155 ⟨Nat.zero_le _, Nat.zero_le _⟩ ?_
          have hsp : sc_X3_payPart nm v Z RW rc half coins = (sc_X9_owed nm ((sc_X0_writeGrowing nm (sc_X9_endOathBy nm (upd (upd (upd ((sc_X0_writeGrowing nm v ((sc_X3_addRow Z RW rc).2) rc 14).1) 2 ((((sc_X0_writeGrowing nm v ((sc_X3_addRow Z RW rc).2) rc 14).1) 2) - (if (v 2) < coins then (v 2) else coins))) 1 ((((sc_X0_writeGrowing nm v ((sc_X3_addRow Z RW rc).2) rc 14).1) 1) - (coins - (if (v 2) < coins then (v 2) else coins)))) 20 (-1)) half) ((sc_X0_writeGrowing nm v ((sc_X3_addRow Z RW rc).2) rc 14).2) rc 17).1), (sc_X0_writeGrowing nm (sc_X9_endOathBy nm (upd (upd (upd ((sc_X0_writeGrowing nm v ((sc_X3_addRow Z RW rc).2) rc 14).1) 2 ((((sc_X0_writeGrowing nm v ((sc_X3_addRow Z RW rc).2) rc 14).1) 2) - (if (v 2) < coins then (v 2) else coins))) 1 ((((sc_X0_writeGrowing nm v ((sc_X3_addRow Z RW rc).2) rc 14).1) 1) - (coins - (if (v 2) < coins then (v 2) else coins)))) 20 (-1)) half) ((sc_X0_writeGrowing nm v ((sc_X3_addRow Z RW rc).2) rc 14).2) rc 17).1, (sc_X3_addRow Z RW rc).1, rwp (rwp (rwp ((sc_X0_writeGrowing nm (sc_X9_endOathBy nm (upd (upd (upd ((sc_X0_writeGrowing nm v ((sc_X3_addRow Z RW rc).2) rc 14).1) 2 ((((sc_X0_writeGrowing nm v ((sc_X3_addRow Z RW rc).2) rc 14).1) 2) - (if (v 2) < coins then (v 2) else coins))) 1 ((((sc_X0_writeGrowing nm v ((sc_X3_addRow Z RW rc).2) rc 14).1) 1) - (coins - (if (v 2) < coins then (v 2) else coins)))) 20 (-1)) half) ((sc_X0_writeGrowing nm v ((sc_X3_addRow Z RW rc).2) rc 14).2) rc 17).2) rc 1 ((((sc_X0_writeGrowing nm (sc_X9_endOathBy nm (upd (upd (upd ((sc_X0_writeGrowing nm v ((sc_X3_addRow Z RW rc).2) rc 14).1) 2 ((((sc_X0_writeGrowing nm v ((sc_X3_addRow Z RW rc).2) rc 14).1) 2) - (if (v 2) < coins then (v 2) else coins))) 1 ((((sc_X0_writeGrowing nm v ((sc_X3_addRow Z RW rc).2) rc 14).1) 1) - (coins - (if (v 2) < coins then (v 2) else coins)))) 20 (-1)) half) ((sc_X0_writeGrowing nm v ((sc_X3_addRow Z RW rc).2) rc 14).2) rc 17).2) rc 1) + ((if (v 2) < coins then (v 2) else coins).toInt64))) rc 2 ((((sc_X0_writeGrowing nm (sc_X9_endOathBy nm (upd (upd (upd ((sc_X0_writeGrowing nm v ((sc_X3_addRow Z RW rc).2) rc 14).1) 2 ((((sc_X0_writeGrowing nm v ((sc_X3_addRow Z RW rc).2) rc 14).1) 2) - (if (v 2) < coins then (v 2) else coins))) 1 ((((sc_X0_writeGrowing nm v ((sc_X3_addRow Z RW rc).2) rc 14).1) 1) - (coins - (if (v 2) < coins then (v 2) else coins)))) 20 (-1)) half) ((sc_X0_writeGrowing nm v ((sc_X3_addRow Z RW rc).2) rc 14).2) rc 17).2) rc 2) + ((coins - (if (v 2) < coins then (v 2) else coins)).toInt64))) rc 8 ((((sc_X0_writeGrowing nm (sc_X9_endOathBy nm (upd (upd (upd ((sc_X0_writeGrowing nm v ((sc_X3_addRow Z RW rc).2) rc 14).1) 2 ((((sc_X0_writeGrowing nm v ((sc_X3_addRow Z RW rc).2) rc 14).1) 2) - (if (v 2) < coins then (v 2) else coins))) 1 ((((sc_X0_writeGrowing nm v ((sc_X3_addRow Z RW rc).2) rc 14).1) 1) - (coins - (if (v 2) < coins then (v 2) else coins)))) 20 (-1)) half) ((sc_X0_writeGrowing nm v ((sc_X3_addRow Z RW rc).2) rc 14).2) rc 17).2) rc 8) - ((coins - (if (v 2) < coins then (v 2) else coins)).toInt64))) := by unfold sc_X3_payPart; rw [if_neg c_1, if_neg c_2, if_neg c_3, if_pos c_4]
          exact W.iret hx hb hr (fun t2 ht2 hW => by rw [hsp]; exact ⟨rfl, by rw [ht2]; exact hP, hS.F ht2⟩) hS.2.2 dX3_payPart_158 hlocks
        · refine lv_bipush (v := (-6)) hx hb dX3_payPart_44 (by decide) ?_
          have hsp : sc_X3_payPart nm v Z RW rc half coins = ((-6), v, Z, RW) := by unfold sc_X3_payPart; rw [if_neg c_1, if_neg c_2, if_neg c_3, if_neg c_4]
          exact W.iret hx hb hr (fun t2 ht2 hW => by rw [hsp]; exact ⟨rfl, by rw [ht2]; exact hP, hS.F ht2⟩) hS.2.2 dX3_payPart_46 hlocks
    · refine lv_bipush (v := (-4)) hx hb dX3_payPart_28 (by decide) ?_
      have hsp : sc_X3_payPart nm v Z RW rc half coins = ((-4), v, Z, RW) := by unfold sc_X3_payPart; rw [if_neg c_1, if_pos c_2]
      exact W.iret hx hb hr (fun t2 ht2 hW => by rw [hsp]; exact ⟨rfl, by rw [ht2]; exact hP, hS.F ht2⟩) hS.2.2 dX3_payPart_30 hlocks
  · refine lv_bipush (v := (-2)) hx hb dX3_payPart_13 (by decide) ?_
    have hsp : sc_X3_payPart nm v Z RW rc half coins = ((-2), v, Z, RW) := by unfold sc_X3_payPart; rw [if_pos c_1]
    exact W.iret hx hb hr (fun t2 ht2 hW => by rw [hsp]; exact ⟨rfl, by rw [ht2]; exact hP, hS.F ht2⟩) hS.2.2 dX3_payPart_15 hlocks
def sc_X3_renewTerm (nm : Int32) (v : Nat → Int32) (Z : hZ) (RW : Nat → Nat → Int64) (rc : Nat) (half : Int32) (months : Int32) : Int32 × (Nat → Int32) × (hZ) × (Nat → Nat → Int64) :=
  if (sc_X3_whyNotHolders nm v Z half) = 0 then
    if (sc_X3_isTerm months) = 0 then
      ((-6), v, Z, RW)
    else
      (v 2, (sc_X0_writeGrowing nm (sc_X9_endOathBy nm (upd (sc_X7_beginAnew nm (sc_X7_become_e nm ((sc_X0_writeGrowing nm v ((sc_X3_addRow Z RW rc).2) rc 14).1)) (sc_X7_nextBeginning nm (sc_X7_become_e nm ((sc_X0_writeGrowing nm v ((sc_X3_addRow Z RW rc).2) rc 14).1))) months (sc_X3_rateOf ((sc_X3_addRow Z RW rc).1) ((sc_X7_become_e nm ((sc_X0_writeGrowing nm v ((sc_X3_addRow Z RW rc).2) rc 14).1)) 19))) 20 (gh ((sc_X3_addRow Z RW rc).1) 0)) half) ((sc_X0_writeGrowing nm v ((sc_X3_addRow Z RW rc).2) rc 14).2) rc 17).1, (sc_X3_addRow Z RW rc).1, rwp ((sc_X0_writeGrowing nm (sc_X9_endOathBy nm (upd (sc_X7_beginAnew nm (sc_X7_become_e nm ((sc_X0_writeGrowing nm v ((sc_X3_addRow Z RW rc).2) rc 14).1)) (sc_X7_nextBeginning nm (sc_X7_become_e nm ((sc_X0_writeGrowing nm v ((sc_X3_addRow Z RW rc).2) rc 14).1))) months (sc_X3_rateOf ((sc_X3_addRow Z RW rc).1) ((sc_X7_become_e nm ((sc_X0_writeGrowing nm v ((sc_X3_addRow Z RW rc).2) rc 14).1)) 19))) 20 (gh ((sc_X3_addRow Z RW rc).1) 0)) half) ((sc_X0_writeGrowing nm v ((sc_X3_addRow Z RW rc).2) rc 14).2) rc 17).2) rc 1 ((((sc_X0_writeGrowing nm (sc_X9_endOathBy nm (upd (sc_X7_beginAnew nm (sc_X7_become_e nm ((sc_X0_writeGrowing nm v ((sc_X3_addRow Z RW rc).2) rc 14).1)) (sc_X7_nextBeginning nm (sc_X7_become_e nm ((sc_X0_writeGrowing nm v ((sc_X3_addRow Z RW rc).2) rc 14).1))) months (sc_X3_rateOf ((sc_X3_addRow Z RW rc).1) ((sc_X7_become_e nm ((sc_X0_writeGrowing nm v ((sc_X3_addRow Z RW rc).2) rc 14).1)) 19))) 20 (gh ((sc_X3_addRow Z RW rc).1) 0)) half) ((sc_X0_writeGrowing nm v ((sc_X3_addRow Z RW rc).2) rc 14).2) rc 17).2) rc 1) + ((v 2).toInt64)))
  else
    (sc_X3_whyNotHolders nm v Z half, v, Z, RW)
set_option maxHeartbeats 4000000 in
set_option maxRecDepth 100000 in
theorem cC_X3_renewTerm (l : Launch) (D : va_G) (cs : Nat → ClassId) (b : Nat → Nat) (nm : Int32) (v : Nat → Int32) (k : Nat → Nat) (a : Nat → Nat) (Z : hZ) (r : Nat → Nat) (RW : Nat → Nat → Int64) (sz : Nat) (ib : iT b) (ia : iH a) (ik : iB k r) (d : dTHB b a k r) (rc : Nat) (half : Int32) (months : Int32) (hrc : gh Z 2 = nI rc) (hrl : rc ≤ 511) : Met l yX3_renewTerm wsX3_renewTerm ({ frames := 3, cells := 0, slots := 0, locals := 67 }) (cPc [.ref (a 0), .ref (b 0), .int half, .int months] D cs ((wT b nm v ++ wH a (k 0) cs Z) ++ wB k r cs RW) sz) (cQ D (some (.int (sc_X3_renewTerm nm v Z RW rc half months).1)) ((wT b nm ((sc_X3_renewTerm nm v Z RW rc half months).2.1) ++ wH a (k 0) cs ((sc_X3_renewTerm nm v Z RW rc half months).2.2.1)) ++ wB k r cs ((sc_X3_renewTerm nm v Z RW rc half months).2.2.2)) (adA (pOr (pOr (pT b) (pH a)) (pB k r)) sz)) 0 0 (adA (pOr (pOr (pT b) (pH a)) (pB k r)) sz) := by
  refine c_in (P := pOr (pOr (pT b) (pH a)) (pB k r)) (cc := cX3_renewTerm) (maxL := 7) (ret := (some .int)) (lv := [(0, .ref (a 0)), (1, .ref (b 0)), (2, .int half), (3, .int months)]) (by decide) rfl (Nat.le_of_ble_eq_true rfl) rfl ?_
  intro p e s m below meth c ls S hr hlocks hin hsz hP hK hl hS
  subst hsz
  obtain ⟨hx, hb, hml, hown, hts⟩ := id S
  have hX3 : ∀ w ∈ wsX30, w ∈ wsX3_renewTerm := by decide +kernel
  have hX7 : ∀ w ∈ wsX70, w ∈ wsX3_renewTerm := by decide +kernel
  have hX9 : ∀ w ∈ wsX90, w ∈ wsX3_renewTerm := by decide +kernel
  refine lv_aload_n hx hb dX3_renewTerm_0 rfl (lv_at hl 0 rfl) ?_
  refine lv_aload_n hx hb dX3_renewTerm_1 rfl (lv_at hl 1 rfl) ?_
  refine lv_iload_n hx hb dX3_renewTerm_2 rfl (lv_at hl 2 rfl) ?_
  refine c_rd S hK (show va_P D vwCl ((wT b nm v ++ wH a (k 0) cs Z) ++ []) _ from va_P.app (vaL hP) nilP) (va_recv hK.1 hP (ci := 3) (q0 := _ + 0) rfl (get3 rfl)) (As := [.ref (b 0), .int half]) (rest := []) (cC_X3_whyNotHolders l D cs b nm v k a Z _  half ) (cwV 2 hts gX3_renewTerm_X3_whyNotHolders rfl rfl rfl (by decide +kernel) ⟨Nat.le_of_ble_eq_true rfl, Nat.le_of_ble_eq_true rfl⟩) rfl hl.1 rfl (Nat.le_of_ble_eq_true rfl) dX3_renewTerm_3 ⟨Nat.zero_le _, Nat.zero_le _⟩ ?_
  refine lv_istore (lv' := [(4, .int (sc_X3_whyNotHolders nm v Z half)), (0, .ref (a 0)), (1, .ref (b 0)), (2, .int half), (3, .int months)]) hx hb dX3_renewTerm_6 hl (by decide) rfl (fun ls hl => ?_)
  refine lv_iload hx hb dX3_renewTerm_8 (lv_at hl 0 rfl) ?_
  refine lv_if_eq (tgt := 16) hx hb dX3_renewTerm_10 (by decide) (fun c_1 => ?_) (fun c_1 => ?_)
  · refine lv_iload_n hx hb dX3_renewTerm_16 rfl (lv_at hl 4 rfl) ?_
    refine m_st S (As := [.int months]) (rest := []) (cC_X3_isTerm l months) (cwS 1 hts gX3_renewTerm_X3_isTerm rfl rfl rfl (by decide +kernel) ⟨Nat.le_of_ble_eq_true rfl, Nat.le_of_ble_eq_true rfl⟩) rfl hl.1 rfl (Nat.le_of_ble_eq_true rfl) dX3_renewTerm_17 ⟨Nat.zero_le _, Nat.zero_le _⟩ ?_
    refine lv_if_ne (tgt := 26) hx hb dX3_renewTerm_20 (by decide) (fun c_2 => ?_) (fun c_2 => ?_)
    · refine lv_aload_n hx hb dX3_renewTerm_26 rfl (lv_at hl 2 rfl) ?_
      refine va_get (D := D) (ci := 8) (v := .ref (b 1)) (C := RX9) (T := TX9) (N := 19) hx hb hts hX9 hown hK.1 hP 0 rfl rfl 6 (by decide) (hts (.fieldLink RX3 77 "PledgeHouse$Ticket" "term" "LPledgeHouse$Term;") (by decide +kernel)) (fun _ h9 => h9) rfl dX3_renewTerm_27 ?_
      refine va_get (D := D) (ci := 6) (v := .int (v 2)) (C := RX7) (T := TX7) (N := 6) hx hb hts hX7 hown hK.1 hP 1 rfl rfl 4 (by decide) (hts (.fieldLink RX3 261 "PledgeHouse$Term" "interest" "I") (by decide +kernel)) (fun _ h9 => h9) rfl dX3_renewTerm_30 ?_
      refine lv_istore (lv' := [(5, .int (v 2)), (4, .int (sc_X3_whyNotHolders nm v Z half)), (0, .ref (a 0)), (1, .ref (b 0)), (2, .int half), (3, .int months)]) hx hb dX3_renewTerm_33 hl (by decide) rfl (fun ls hl => ?_)
      refine lv_aload_n hx hb dX3_renewTerm_35 rfl (lv_at hl 2 rfl) ?_
      refine c_wr (WS' := (wT b nm v ++ wH a (k 0) cs ((sc_X3_addRow Z RW rc).1)) ++ wB k r cs ((sc_X3_addRow Z RW rc).2)) S hK (show va_P D vwCl (([] ++ wH a (k 0) cs Z) ++ wB k r cs RW) _ from va_P.app (vaR (vaL hP)) (vaR hP)) (va_recv hK.1 hP (ci := 3) (q0 := _ + 0) rfl (get3 rfl)) hS (As := []) (rest := []) (cC_X3_addRow l D cs k a Z r RW _ ia ik d.2.2 rc hrc hrl) (cwV 0 hts gX3_renewTerm_X3_addRow rfl rfl rfl (by decide +kernel) ⟨Nat.le_of_ble_eq_true rfl, Nat.le_of_ble_eq_true rfl⟩) rfl hl.1 rfl (Nat.le_of_ble_eq_true rfl) dX3_renewTerm_36 ⟨Nat.zero_le _, Nat.zero_le _⟩ (fun q h => adA_le hS.1 q (h.elim (fun t => Or.inl (t.elim (fun t => Or.inl (Or.inr t)) (fun t => Or.inr t))) Or.inr)) (fun H1 _ hk h => (va_P.app (va_P.app (keepP (vaL (vaL hP)) wT_p (fun q h1 h2 => h2.elim (fun t => d.1 q h1 t) (fun t => d.2.1 q h1 t)) hk) (vaL h)) (vaR h))) (fun H locs hP hS => ?_)
      refine lv_astore (lv' := [(6, .ref (r rc)), (5, .int (v 2)), (4, .int (sc_X3_whyNotHolders nm v Z half)), (0, .ref (a 0)), (1, .ref (b 0)), (2, .int half), (3, .int months)]) hx hb dX3_renewTerm_39 hl (by decide) rfl (fun ls hl => ?_)
      refine lv_aload hx hb dX3_renewTerm_41 (lv_at hl 0 rfl) ?_
      refine lv_bipush (v := 14) hx hb dX3_renewTerm_43 (by decide) ?_
      refine lv_aload_n hx hb dX3_renewTerm_45 rfl (lv_at hl 4 rfl) ?_
      refine c_wrS (WS' := (wT b nm ((sc_X0_writeGrowing nm v ((sc_X3_addRow Z RW rc).2) rc 14).1) ++ wH a (k 0) cs ((sc_X3_addRow Z RW rc).1)) ++ wB k r cs ((sc_X0_writeGrowing nm v ((sc_X3_addRow Z RW rc).2) rc 14).2)) S hK (show va_P D vwCl (wT b nm v ++ wB k r cs ((sc_X3_addRow Z RW rc).2)) _ from va_P.app (vaL (vaL hP)) (vaR hP)) hS (As := [.ref (r rc), .int 14, .ref (b 0)]) (rest := []) (cC_X0_writeGrowing l D cs b nm v k r ((sc_X3_addRow Z RW rc).2) _ ib ik d.2.1 rc 14 (Nat.lt_of_le_of_lt hrl (by decide)) (by decide)) (va_cwS 3 hts gX3_renewTerm_X0_writeGrowing rfl rfl rfl (by decide +kernel) ⟨Nat.le_of_ble_eq_true rfl, Nat.le_of_ble_eq_true rfl⟩) rfl hl.1 rfl (Nat.le_of_ble_eq_true rfl) dX3_renewTerm_46 ⟨Nat.zero_le _, Nat.zero_le _⟩ (fun q h => adA_le hS.1 q (h.elim (fun t => Or.inl (t.elim (fun t => Or.inl (Or.inl t)) (fun t => Or.inr t))) Or.inr)) (fun H1 _ hk h => (va_P.app (va_P.app (vaL h) (keepP (vaR (vaL hP)) wH_p (fun q h1 h2 => h2.elim (fun t => d.1 q t h1) (fun t => d.2.2 q h1 t)) hk)) (vaR h))) (fun H locs hP hS => ?_)
      refine lv_aload_n hx hb dX3_renewTerm_49 rfl (lv_at hl 4 rfl) ?_
      refine va_get (D := D) (ci := 8) (v := .ref (b 2)) (C := RX9) (T := TX9) (N := 19) hx hb hts hX9 hown hK.1 hP 0 rfl rfl 7 (by decide) (hts (.fieldLink RX3 282 "PledgeHouse$Ticket" "earlier" "LPledgeHouse$Term;") (by decide +kernel)) (fun _ h9 => h9) rfl dX3_renewTerm_50 ?_
      refine lv_aload_n hx hb dX3_renewTerm_53 rfl (lv_at hl 4 rfl) ?_
      refine va_get (D := D) (ci := 8) (v := .ref (b 1)) (C := RX9) (T := TX9) (N := 19) hx hb hts hX9 hown hK.1 hP 0 rfl rfl 6 (by decide) (hts (.fieldLink RX3 77 "PledgeHouse$Ticket" "term" "LPledgeHouse$Term;") (by decide +kernel)) (fun _ h9 => h9) rfl dX3_renewTerm_54 ?_
      refine c_wr (WS' := (wT b nm (sc_X7_become_e nm ((sc_X0_writeGrowing nm v ((sc_X3_addRow Z RW rc).2) rc 14).1)) ++ wH a (k 0) cs ((sc_X3_addRow Z RW rc).1)) ++ wB k r cs ((sc_X0_writeGrowing nm v ((sc_X3_addRow Z RW rc).2) rc 14).2)) S hK (show va_P D vwCl (wT b nm ((sc_X0_writeGrowing nm v ((sc_X3_addRow Z RW rc).2) rc 14).1)) _ from vaL (vaL hP)) (va_recv hK.1 hP (ci := 6) (q0 := 2) rfl rfl) hS (As := [.ref (b 1)]) (rest := []) (cC_X7_become_e l D cs b nm ((sc_X0_writeGrowing nm v ((sc_X3_addRow Z RW rc).2) rc 14).1) _ ib  ) (cwV 1 hts gX3_renewTerm_X7_become rfl rfl rfl (by decide +kernel) ⟨Nat.le_of_ble_eq_true rfl, Nat.le_of_ble_eq_true rfl⟩) rfl hl.1 rfl (Nat.le_of_ble_eq_true rfl) dX3_renewTerm_57 ⟨Nat.zero_le _, Nat.zero_le _⟩ (fun q h => adA_le hS.1 q (h.elim (fun t => Or.inl (Or.inl (Or.inl t))) Or.inr)) (fun H1 _ hk h => (va_P.app (va_P.app h (keepP (vaR (vaL hP)) wH_p (fun q h1 h2 => d.1 q h2 h1) hk)) (keepP (vaR hP) wB_p (fun q h1 h2 => d.2.1 q h2 h1) hk))) (fun H locs hP hS => ?_)
      refine lv_aload_n hx hb dX3_renewTerm_60 rfl (lv_at hl 4 rfl) ?_
      refine va_get (D := D) (ci := 8) (v := .ref (b 1)) (C := RX9) (T := TX9) (N := 19) hx hb hts hX9 hown hK.1 hP 0 rfl rfl 6 (by decide) (hts (.fieldLink RX3 77 "PledgeHouse$Ticket" "term" "LPledgeHouse$Term;") (by decide +kernel)) (fun _ h9 => h9) rfl dX3_renewTerm_61 ?_
      refine lv_aload_n hx hb dX3_renewTerm_64 rfl (lv_at hl 4 rfl) ?_
      refine va_get (D := D) (ci := 8) (v := .ref (b 1)) (C := RX9) (T := TX9) (N := 19) hx hb hts hX9 hown hK.1 hP 0 rfl rfl 6 (by decide) (hts (.fieldLink RX3 77 "PledgeHouse$Ticket" "term" "LPledgeHouse$Term;") (by decide +kernel)) (fun _ h9 => h9) rfl dX3_renewTerm_65 ?_
      refine c_rd S hK (show va_P D vwCl (wT b nm (sc_X7_become_e nm ((sc_X0_writeGrowing nm v ((sc_X3_addRow Z RW rc).2) rc 14).1))) _ from vaL (vaL hP)) (va_recv hK.1 hP (ci := 6) (q0 := 1) rfl rfl) (As := []) (rest := [.ref (b 1)]) (cC_X7_nextBeginning l D cs b nm (sc_X7_become_e nm ((sc_X0_writeGrowing nm v ((sc_X3_addRow Z RW rc).2) rc 14).1)) _   ) (cwV 0 hts gX3_renewTerm_X7_nextBeginning rfl rfl rfl (by decide +kernel) ⟨Nat.le_of_ble_eq_true rfl, Nat.le_of_ble_eq_true rfl⟩) rfl hl.1 rfl (Nat.le_of_ble_eq_true rfl) dX3_renewTerm_68 ⟨Nat.zero_le _, Nat.zero_le _⟩ ?_
      refine lv_iload_n hx hb dX3_renewTerm_71 rfl (lv_at hl 6 rfl) ?_
      refine lv_aload_n hx hb dX3_renewTerm_72 rfl (lv_at hl 3 rfl) ?_
      refine lv_aload_n hx hb dX3_renewTerm_73 rfl (lv_at hl 4 rfl) ?_
      refine va_get (D := D) (ci := 8) (v := .int ((sc_X7_become_e nm ((sc_X0_writeGrowing nm v ((sc_X3_addRow Z RW rc).2) rc 14).1)) 19)) (C := RX9) (T := TX9) (N := 19) hx hb hts hX9 hown hK.1 hP 0 rfl rfl 2 (by decide) (hts (.fieldLink RX3 222 "PledgeHouse$Ticket" "kind" "I") (by decide +kernel)) (fun _ h9 => h9) rfl dX3_renewTerm_74 ?_
      refine c_rd S hK (show va_P D vwCl (([] ++ wH a (k 0) cs ((sc_X3_addRow Z RW rc).1)) ++ []) _ from vaR (vaL hP)) (va_recv hK.1 hP (ci := 3) (q0 := _ + 0) rfl (get3 rfl)) (As := [.int ((sc_X7_become_e nm ((sc_X0_writeGrowing nm v ((sc_X3_addRow Z RW rc).2) rc 14).1)) 19)]) (rest := [.int months, .int (sc_X7_nextBeginning nm (sc_X7_become_e nm ((sc_X0_writeGrowing nm v ((sc_X3_addRow Z RW rc).2) rc 14).1))), .ref (b 1)]) (cC_X3_rateOf l D cs k a ((sc_X3_addRow Z RW rc).1) _  ((sc_X7_become_e nm ((sc_X0_writeGrowing nm v ((sc_X3_addRow Z RW rc).2) rc 14).1)) 19) ) (cwV 1 hts gX3_renewTerm_X3_rateOf rfl rfl rfl (by decide +kernel) ⟨Nat.le_of_ble_eq_true rfl, Nat.le_of_ble_eq_true rfl⟩) rfl hl.1 rfl (Nat.le_of_ble_eq_true rfl) dX3_renewTerm_77 ⟨Nat.zero_le _, Nat.zero_le _⟩ ?_
      refine c_wr (WS' := (wT b nm (sc_X7_beginAnew nm (sc_X7_become_e nm ((sc_X0_writeGrowing nm v ((sc_X3_addRow Z RW rc).2) rc 14).1)) (sc_X7_nextBeginning nm (sc_X7_become_e nm ((sc_X0_writeGrowing nm v ((sc_X3_addRow Z RW rc).2) rc 14).1))) months (sc_X3_rateOf ((sc_X3_addRow Z RW rc).1) ((sc_X7_become_e nm ((sc_X0_writeGrowing nm v ((sc_X3_addRow Z RW rc).2) rc 14).1)) 19))) ++ wH a (k 0) cs ((sc_X3_addRow Z RW rc).1)) ++ wB k r cs ((sc_X0_writeGrowing nm v ((sc_X3_addRow Z RW rc).2) rc 14).2)) S hK (show va_P D vwCl (wT b nm (sc_X7_become_e nm ((sc_X0_writeGrowing nm v ((sc_X3_addRow Z RW rc).2) rc 14).1))) _ from vaL (vaL hP)) (va_recv hK.1 hP (ci := 6) (q0 := 1) rfl rfl) hS (As := [.int (sc_X7_nextBeginning nm (sc_X7_become_e nm ((sc_X0_writeGrowing nm v ((sc_X3_addRow Z RW rc).2) rc 14).1))), .int months, .int (sc_X3_rateOf ((sc_X3_addRow Z RW rc).1) ((sc_X7_become_e nm ((sc_X0_writeGrowing nm v ((sc_X3_addRow Z RW rc).2) rc 14).1)) 19))]) (rest := []) (cC_X7_beginAnew l D cs b nm (sc_X7_become_e nm ((sc_X0_writeGrowing nm v ((sc_X3_addRow Z RW rc).2) rc 14).1)) _ ib (sc_X7_nextBeginning nm (sc_X7_become_e nm ((sc_X0_writeGrowing nm v ((sc_X3_addRow Z RW rc).2) rc 14).1))) months (sc_X3_rateOf ((sc_X3_addRow Z RW rc).1) ((sc_X7_become_e nm ((sc_X0_writeGrowing nm v ((sc_X3_addRow Z RW rc).2) rc 14).1)) 19)) ) (cwV 3 hts gX3_renewTerm_X7_beginAnew rfl rfl rfl (by decide +kernel) ⟨Nat.le_of_ble_eq_true rfl, Nat.le_of_ble_eq_true rfl⟩) rfl hl.1 rfl (Nat.le_of_ble_eq_true rfl) dX3_renewTerm_80 ⟨Nat.zero_le _, Nat.zero_le _⟩ (fun q h => adA_le hS.1 q (h.elim (fun t => Or.inl (Or.inl (Or.inl t))) Or.inr)) (fun H1 _ hk h => (va_P.app (va_P.app h (keepP (vaR (vaL hP)) wH_p (fun q h1 h2 => d.1 q h2 h1) hk)) (keepP (vaR hP) wB_p (fun q h1 h2 => d.2.1 q h2 h1) hk))) (fun H locs hP hS => ?_)
      refine lv_aload_n hx hb dX3_renewTerm_83 rfl (lv_at hl 4 rfl) ?_
      refine lv_aload_n hx hb dX3_renewTerm_84 rfl (lv_at hl 3 rfl) ?_
      refine hx_get hx hb hts hX3 hown hK.1 hP 2 (by decide) (hts (.fieldLink RX3 50 "PledgeHouse$House" "today" "I") (by decide +kernel)) rfl (v := .int (gh ((sc_X3_addRow Z RW rc).1) 0)) rfl dX3_renewTerm_85 ?_
      refine va_put (D := D) (ci := 8) (v := .int (gh ((sc_X3_addRow Z RW rc).1) 0)) (ty := .int) (C := RX9) (T := TX9) (N := 19) hx hb hts hX9 tyX9 tyX9_ok nmX9 hown hK.1 hP (wTHB_D ib ia ik d s.heap.size) hS 0 rfl rfl 8 (by decide) (hts (.fieldLink RX3 269 "PledgeHouse$Ticket" "renewedOn" "I") (by decide +kernel)) (fun _ h9 => h9) rfl (by decide +kernel) rfl rfl (Nat.le_of_ble_eq_true rfl) dX3_renewTerm_88 (fun H locs hP _ hS => ?_)
      have hP : va_P D vwCl ((wT b nm (upd (sc_X7_beginAnew nm (sc_X7_become_e nm ((sc_X0_writeGrowing nm v ((sc_X3_addRow Z RW rc).2) rc 14).1)) (sc_X7_nextBeginning nm (sc_X7_become_e nm ((sc_X0_writeGrowing nm v ((sc_X3_addRow Z RW rc).2) rc 14).1))) months (sc_X3_rateOf ((sc_X3_addRow Z RW rc).1) ((sc_X7_become_e nm ((sc_X0_writeGrowing nm v ((sc_X3_addRow Z RW rc).2) rc 14).1)) 19))) 20 (gh ((sc_X3_addRow Z RW rc).1) 0)) ++ wH a (k 0) cs ((sc_X3_addRow Z RW rc).1)) ++ wB k r cs ((sc_X0_writeGrowing nm v ((sc_X3_addRow Z RW rc).2) rc 14).2)) H := hP
      refine lv_aload_n hx hb dX3_renewTerm_91 rfl (lv_at hl 4 rfl) ?_
      refine lv_iload_n hx hb dX3_renewTerm_92 rfl (lv_at hl 5 rfl) ?_
      refine c_wr (WS' := (wT b nm (sc_X9_endOathBy nm (upd (sc_X7_beginAnew nm (sc_X7_become_e nm ((sc_X0_writeGrowing nm v ((sc_X3_addRow Z RW rc).2) rc 14).1)) (sc_X7_nextBeginning nm (sc_X7_become_e nm ((sc_X0_writeGrowing nm v ((sc_X3_addRow Z RW rc).2) rc 14).1))) months (sc_X3_rateOf ((sc_X3_addRow Z RW rc).1) ((sc_X7_become_e nm ((sc_X0_writeGrowing nm v ((sc_X3_addRow Z RW rc).2) rc 14).1)) 19))) 20 (gh ((sc_X3_addRow Z RW rc).1) 0)) half) ++ wH a (k 0) cs ((sc_X3_addRow Z RW rc).1)) ++ wB k r cs ((sc_X0_writeGrowing nm v ((sc_X3_addRow Z RW rc).2) rc 14).2)) S hK (show va_P D vwCl (wT b nm (upd (sc_X7_beginAnew nm (sc_X7_become_e nm ((sc_X0_writeGrowing nm v ((sc_X3_addRow Z RW rc).2) rc 14).1)) (sc_X7_nextBeginning nm (sc_X7_become_e nm ((sc_X0_writeGrowing nm v ((sc_X3_addRow Z RW rc).2) rc 14).1))) months (sc_X3_rateOf ((sc_X3_addRow Z RW rc).1) ((sc_X7_become_e nm ((sc_X0_writeGrowing nm v ((sc_X3_addRow Z RW rc).2) rc 14).1)) 19))) 20 (gh ((sc_X3_addRow Z RW rc).1) 0))) _ from vaL (vaL hP)) (va_recv hK.1 hP (ci := 8) (q0 := 0) rfl rfl) hS (As := [.int half]) (rest := []) (cC_X9_endOathBy l D cs b nm (upd (sc_X7_beginAnew nm (sc_X7_become_e nm ((sc_X0_writeGrowing nm v ((sc_X3_addRow Z RW rc).2) rc 14).1)) (sc_X7_nextBeginning nm (sc_X7_become_e nm ((sc_X0_writeGrowing nm v ((sc_X3_addRow Z RW rc).2) rc 14).1))) months (sc_X3_rateOf ((sc_X3_addRow Z RW rc).1) ((sc_X7_become_e nm ((sc_X0_writeGrowing nm v ((sc_X3_addRow Z RW rc).2) rc 14).1)) 19))) 20 (gh ((sc_X3_addRow Z RW rc).1) 0)) _ ib half ) (cwV 1 hts gX3_renewTerm_X9_endOathBy rfl rfl rfl (by decide +kernel) ⟨Nat.le_of_ble_eq_true rfl, Nat.le_of_ble_eq_true rfl⟩) rfl hl.1 rfl (Nat.le_of_ble_eq_true rfl) dX3_renewTerm_93 ⟨Nat.zero_le _, Nat.zero_le _⟩ (fun q h => adA_le hS.1 q (h.elim (fun t => Or.inl (Or.inl (Or.inl t))) Or.inr)) (fun H1 _ hk h => (va_P.app (va_P.app h (keepP (vaR (vaL hP)) wH_p (fun q h1 h2 => d.1 q h2 h1) hk)) (keepP (vaR hP) wB_p (fun q h1 h2 => d.2.1 q h2 h1) hk))) (fun H locs hP hS => ?_)
      refine lv_aload hx hb dX3_renewTerm_96 (lv_at hl 0 rfl) ?_
      refine lv_bipush (v := 17) hx hb dX3_renewTerm_98 (by decide) ?_
      refine lv_aload_n hx hb dX3_renewTerm_100 rfl (lv_at hl 4 rfl) ?_
      refine c_wrS (WS' := (wT b nm ((sc_X0_writeGrowing nm (sc_X9_endOathBy nm (upd (sc_X7_beginAnew nm (sc_X7_become_e nm ((sc_X0_writeGrowing nm v ((sc_X3_addRow Z RW rc).2) rc 14).1)) (sc_X7_nextBeginning nm (sc_X7_become_e nm ((sc_X0_writeGrowing nm v ((sc_X3_addRow Z RW rc).2) rc 14).1))) months (sc_X3_rateOf ((sc_X3_addRow Z RW rc).1) ((sc_X7_become_e nm ((sc_X0_writeGrowing nm v ((sc_X3_addRow Z RW rc).2) rc 14).1)) 19))) 20 (gh ((sc_X3_addRow Z RW rc).1) 0)) half) ((sc_X0_writeGrowing nm v ((sc_X3_addRow Z RW rc).2) rc 14).2) rc 17).1) ++ wH a (k 0) cs ((sc_X3_addRow Z RW rc).1)) ++ wB k r cs ((sc_X0_writeGrowing nm (sc_X9_endOathBy nm (upd (sc_X7_beginAnew nm (sc_X7_become_e nm ((sc_X0_writeGrowing nm v ((sc_X3_addRow Z RW rc).2) rc 14).1)) (sc_X7_nextBeginning nm (sc_X7_become_e nm ((sc_X0_writeGrowing nm v ((sc_X3_addRow Z RW rc).2) rc 14).1))) months (sc_X3_rateOf ((sc_X3_addRow Z RW rc).1) ((sc_X7_become_e nm ((sc_X0_writeGrowing nm v ((sc_X3_addRow Z RW rc).2) rc 14).1)) 19))) 20 (gh ((sc_X3_addRow Z RW rc).1) 0)) half) ((sc_X0_writeGrowing nm v ((sc_X3_addRow Z RW rc).2) rc 14).2) rc 17).2)) S hK (show va_P D vwCl (wT b nm (sc_X9_endOathBy nm (upd (sc_X7_beginAnew nm (sc_X7_become_e nm ((sc_X0_writeGrowing nm v ((sc_X3_addRow Z RW rc).2) rc 14).1)) (sc_X7_nextBeginning nm (sc_X7_become_e nm ((sc_X0_writeGrowing nm v ((sc_X3_addRow Z RW rc).2) rc 14).1))) months (sc_X3_rateOf ((sc_X3_addRow Z RW rc).1) ((sc_X7_become_e nm ((sc_X0_writeGrowing nm v ((sc_X3_addRow Z RW rc).2) rc 14).1)) 19))) 20 (gh ((sc_X3_addRow Z RW rc).1) 0)) half) ++ wB k r cs ((sc_X0_writeGrowing nm v ((sc_X3_addRow Z RW rc).2) rc 14).2)) _ from va_P.app (vaL (vaL hP)) (vaR hP)) hS (As := [.ref (r rc), .int 17, .ref (b 0)]) (rest := []) (cC_X0_writeGrowing l D cs b nm (sc_X9_endOathBy nm (upd (sc_X7_beginAnew nm (sc_X7_become_e nm ((sc_X0_writeGrowing nm v ((sc_X3_addRow Z RW rc).2) rc 14).1)) (sc_X7_nextBeginning nm (sc_X7_become_e nm ((sc_X0_writeGrowing nm v ((sc_X3_addRow Z RW rc).2) rc 14).1))) months (sc_X3_rateOf ((sc_X3_addRow Z RW rc).1) ((sc_X7_become_e nm ((sc_X0_writeGrowing nm v ((sc_X3_addRow Z RW rc).2) rc 14).1)) 19))) 20 (gh ((sc_X3_addRow Z RW rc).1) 0)) half) k r ((sc_X0_writeGrowing nm v ((sc_X3_addRow Z RW rc).2) rc 14).2) _ ib ik d.2.1 rc 17 (Nat.lt_of_le_of_lt hrl (by decide)) (by decide)) (va_cwS 3 hts gX3_renewTerm_X0_writeGrowing rfl rfl rfl (by decide +kernel) ⟨Nat.le_of_ble_eq_true rfl, Nat.le_of_ble_eq_true rfl⟩) rfl hl.1 rfl (Nat.le_of_ble_eq_true rfl) dX3_renewTerm_101 ⟨Nat.zero_le _, Nat.zero_le _⟩ (fun q h => adA_le hS.1 q (h.elim (fun t => Or.inl (t.elim (fun t => Or.inl (Or.inl t)) (fun t => Or.inr t))) Or.inr)) (fun H1 _ hk h => (va_P.app (va_P.app (vaL h) (keepP (vaR (vaL hP)) wH_p (fun q h1 h2 => h2.elim (fun t => d.1 q t h1) (fun t => d.2.2 q h1 t)) hk)) (vaR h))) (fun H locs hP hS => ?_)
      refine lv_aload hx hb dX3_renewTerm_104 (lv_at hl 0 rfl) ?_
      refine lv_iconst (v := 1) hx hb dX3_renewTerm_106 (by decide) ?_
      refine lv_dup2_11 hx hb dX3_renewTerm_107 rfl rfl ?_
      refine b_lald hx hb hK.1 hP rc 1 (Nat.lt_of_le_of_lt hrl (by decide)) rfl (by decide) (v := ((sc_X0_writeGrowing nm (sc_X9_endOathBy nm (upd (sc_X7_beginAnew nm (sc_X7_become_e nm ((sc_X0_writeGrowing nm v ((sc_X3_addRow Z RW rc).2) rc 14).1)) (sc_X7_nextBeginning nm (sc_X7_become_e nm ((sc_X0_writeGrowing nm v ((sc_X3_addRow Z RW rc).2) rc 14).1))) months (sc_X3_rateOf ((sc_X3_addRow Z RW rc).1) ((sc_X7_become_e nm ((sc_X0_writeGrowing nm v ((sc_X3_addRow Z RW rc).2) rc 14).1)) 19))) 20 (gh ((sc_X3_addRow Z RW rc).1) 0)) half) ((sc_X0_writeGrowing nm v ((sc_X3_addRow Z RW rc).2) rc 14).2) rc 17).2) rc 1) rfl dX3_renewTerm_108 ?_
      refine lv_iload hx hb dX3_renewTerm_109 (lv_at hl 1 rfl) ?_
      refine lv_i2l (v := (v 2).toInt64) hx hb dX3_renewTerm_111 rfl ?_
      refine lv_ladd hx hb dX3_renewTerm_112 ?_
      refine b_last hx hb hK.1 hP (wTHB_D ib ia ik d s.heap.size) hS rc 1 (Nat.lt_of_le_of_lt hrl (by decide)) rfl (by decide) dX3_renewTerm_113 (fun H locs hP hS => ?_)
      refine lv_iload hx hb dX3_renewTerm_114 (lv_at hl 1 rfl) ?_
      have hsp : sc_X3_renewTerm nm v Z RW rc half months = (v 2, (sc_X0_writeGrowing nm (sc_X9_endOathBy nm (upd (sc_X7_beginAnew nm (sc_X7_become_e nm ((sc_X0_writeGrowing nm v ((sc_X3_addRow Z RW rc).2) rc 14).1)) (sc_X7_nextBeginning nm (sc_X7_become_e nm ((sc_X0_writeGrowing nm v ((sc_X3_addRow Z RW rc).2) rc 14).1))) months (sc_X3_rateOf ((sc_X3_addRow Z RW rc).1) ((sc_X7_become_e nm ((sc_X0_writeGrowing nm v ((sc_X3_addRow Z RW rc).2) rc 14).1)) 19))) 20 (gh ((sc_X3_addRow Z RW rc).1) 0)) half) ((sc_X0_writeGrowing nm v ((sc_X3_addRow Z RW rc).2) rc 14).2) rc 17).1, (sc_X3_addRow Z RW rc).1, rwp ((sc_X0_writeGrowing nm (sc_X9_endOathBy nm (upd (sc_X7_beginAnew nm (sc_X7_become_e nm ((sc_X0_writeGrowing nm v ((sc_X3_addRow Z RW rc).2) rc 14).1)) (sc_X7_nextBeginning nm (sc_X7_become_e nm ((sc_X0_writeGrowing nm v ((sc_X3_addRow Z RW rc).2) rc 14).1))) months (sc_X3_rateOf ((sc_X3_addRow Z RW rc).1) ((sc_X7_become_e nm ((sc_X0_writeGrowing nm v ((sc_X3_addRow Z RW rc).2) rc 14).1)) 19))) 20 (gh ((sc_X3_addRow Z RW rc).1) 0)) half) ((sc_X0_writeGrowing nm v ((sc_X3_addRow Z RW rc).2) rc 14).2) rc 17).2) rc 1 ((((sc_X0_writeGrowing nm (sc_X9_endOathBy nm (upd (sc_X7_beginAnew nm (sc_X7_become_e nm ((sc_X0_writeGrowing nm v ((sc_X3_addRow Z RW rc).2) rc 14).1)) (sc_X7_nextBeginning nm (sc_X7_become_e nm ((sc_X0_writeGrowing nm v ((sc_X3_addRow Z RW rc).2) rc 14).1))) months (sc_X3_rateOf ((sc_X3_addRow Z RW rc).1) ((sc_X7_become_e nm ((sc_X0_writeGrowing nm v ((sc_X3_addRow Z RW rc).2) rc 14).1)) 19))) 20 (gh ((sc_X3_addRow Z RW rc).1) 0)) half) ((sc_X0_writeGrowing nm v ((sc_X3_addRow Z RW rc).2) rc 14).2) rc 17).2) rc 1) + ((v 2).toInt64))) := by unfold sc_X3_renewTerm; rw [if_pos c_1, if_neg c_2]
      exact W.iret hx hb hr (fun t2 ht2 hW => by rw [hsp]; exact ⟨rfl, by rw [ht2]; exact hP, hS.F ht2⟩) hS.2.2 dX3_renewTerm_116 hlocks
    · refine lv_bipush (v := (-6)) hx hb dX3_renewTerm_23 (by decide) ?_
      have hsp : sc_X3_renewTerm nm v Z RW rc half months = ((-6), v, Z, RW) := by unfold sc_X3_renewTerm; rw [if_pos c_1, if_pos c_2]
      exact W.iret hx hb hr (fun t2 ht2 hW => by rw [hsp]; exact ⟨rfl, by rw [ht2]; exact hP, hS.F ht2⟩) hS.2.2 dX3_renewTerm_25 hlocks
  · refine lv_iload hx hb dX3_renewTerm_13 (lv_at hl 0 rfl) ?_
    have hsp : sc_X3_renewTerm nm v Z RW rc half months = (sc_X3_whyNotHolders nm v Z half, v, Z, RW) := by unfold sc_X3_renewTerm; rw [if_neg c_1]
    exact W.iret hx hb hr (fun t2 ht2 hW => by rw [hsp]; exact ⟨rfl, by rw [ht2]; exact hP, hS.F ht2⟩) hS.2.2 dX3_renewTerm_15 hlocks
def sc_X3_undoRenewing (nm : Int32) (v : Nat → Int32) (Z : hZ) (RW : Nat → Nat → Int64) (rc : Nat) : Int32 × (Nat → Int32) × (hZ) × (Nat → Nat → Int64) :=
  if (sc_X9_isOpen nm v) = 0 then
    ((-2), v, Z, RW)
  else
    if (v 20) = (-1) then
      ((-2), v, Z, RW)
    else
      if (v 20) = (gh Z 0) then
        (((sc_X0_writeGrowing nm (upd (sc_X7_become_t nm ((sc_X0_writeGrowing nm v ((sc_X3_addRow Z RW rc).2) rc 14).1)) 20 (-1)) ((sc_X0_writeGrowing nm v ((sc_X3_addRow Z RW rc).2) rc 14).2) rc 17).1) 2, (sc_X0_writeGrowing nm (upd (sc_X7_become_t nm ((sc_X0_writeGrowing nm v ((sc_X3_addRow Z RW rc).2) rc 14).1)) 20 (-1)) ((sc_X0_writeGrowing nm v ((sc_X3_addRow Z RW rc).2) rc 14).2) rc 17).1, (sc_X3_addRow Z RW rc).1, rwp ((sc_X0_writeGrowing nm (upd (sc_X7_become_t nm ((sc_X0_writeGrowing nm v ((sc_X3_addRow Z RW rc).2) rc 14).1)) 20 (-1)) ((sc_X0_writeGrowing nm v ((sc_X3_addRow Z RW rc).2) rc 14).2) rc 17).2) rc 1 ((((sc_X0_writeGrowing nm (upd (sc_X7_become_t nm ((sc_X0_writeGrowing nm v ((sc_X3_addRow Z RW rc).2) rc 14).1)) 20 (-1)) ((sc_X0_writeGrowing nm v ((sc_X3_addRow Z RW rc).2) rc 14).2) rc 17).2) rc 1) - ((((sc_X0_writeGrowing nm (upd (sc_X7_become_t nm ((sc_X0_writeGrowing nm v ((sc_X3_addRow Z RW rc).2) rc 14).1)) 20 (-1)) ((sc_X0_writeGrowing nm v ((sc_X3_addRow Z RW rc).2) rc 14).2) rc 17).1) 2).toInt64)))
      else
        ((-5), v, Z, RW)
set_option maxHeartbeats 4000000 in
set_option maxRecDepth 100000 in
theorem cC_X3_undoRenewing (l : Launch) (D : va_G) (cs : Nat → ClassId) (b : Nat → Nat) (nm : Int32) (v : Nat → Int32) (k : Nat → Nat) (a : Nat → Nat) (Z : hZ) (r : Nat → Nat) (RW : Nat → Nat → Int64) (sz : Nat) (ib : iT b) (ia : iH a) (ik : iB k r) (d : dTHB b a k r) (rc : Nat) (hrc : gh Z 2 = nI rc) (hrl : rc ≤ 511) : Met l yX3_undoRenewing wsX3_undoRenewing ({ frames := 3, cells := 0, slots := 0, locals := 67 }) (cPc [.ref (a 0), .ref (b 0)] D cs ((wT b nm v ++ wH a (k 0) cs Z) ++ wB k r cs RW) sz) (cQ D (some (.int (sc_X3_undoRenewing nm v Z RW rc).1)) ((wT b nm ((sc_X3_undoRenewing nm v Z RW rc).2.1) ++ wH a (k 0) cs ((sc_X3_undoRenewing nm v Z RW rc).2.2.1)) ++ wB k r cs ((sc_X3_undoRenewing nm v Z RW rc).2.2.2)) (adA (pOr (pOr (pT b) (pH a)) (pB k r)) sz)) 0 0 (adA (pOr (pOr (pT b) (pH a)) (pB k r)) sz) := by
  refine c_in (P := pOr (pOr (pT b) (pH a)) (pB k r)) (cc := cX3_undoRenewing) (maxL := 3) (ret := (some .int)) (lv := [(0, .ref (a 0)), (1, .ref (b 0))]) (by decide) rfl (Nat.le_of_ble_eq_true rfl) rfl ?_
  intro p e s m below meth c ls S hr hlocks hin hsz hP hK hl hS
  subst hsz
  obtain ⟨hx, hb, hml, hown, hts⟩ := id S
  have hX3 : ∀ w ∈ wsX30, w ∈ wsX3_undoRenewing := by decide +kernel
  have hX7 : ∀ w ∈ wsX70, w ∈ wsX3_undoRenewing := by decide +kernel
  have hX9 : ∀ w ∈ wsX90, w ∈ wsX3_undoRenewing := by decide +kernel
  refine lv_aload_n hx hb dX3_undoRenewing_0 rfl (lv_at hl 1 rfl) ?_
  refine lv_ifnonnull (tgt := 6) hx hb dX3_undoRenewing_1 (by decide) ?_
  refine lv_aload_n hx hb dX3_undoRenewing_6 rfl (lv_at hl 1 rfl) ?_
  refine c_rd S hK (show va_P D vwCl (wT b nm v) _ from vaL (vaL hP)) (va_recv hK.1 hP (ci := 8) (q0 := 0) rfl rfl) (As := []) (rest := []) (cC_X9_isOpen l D cs b nm v _   ) (cwV 0 hts gX3_undoRenewing_X9_isOpen rfl rfl rfl (by decide +kernel) ⟨Nat.le_of_ble_eq_true rfl, Nat.le_of_ble_eq_true rfl⟩) rfl hl.1 rfl (Nat.le_of_ble_eq_true rfl) dX3_undoRenewing_7 ⟨Nat.zero_le _, Nat.zero_le _⟩ ?_
  refine lv_if_eq (tgt := 21) hx hb dX3_undoRenewing_10 (by decide) (fun c_1 => ?_) (fun c_1 => ?_)
  · refine lv_bipush (v := (-2)) hx hb dX3_undoRenewing_21 (by decide) ?_
    have hsp : sc_X3_undoRenewing nm v Z RW rc = ((-2), v, Z, RW) := by unfold sc_X3_undoRenewing; rw [if_pos c_1]
    exact W.iret hx hb hr (fun t2 ht2 hW => by rw [hsp]; exact ⟨rfl, by rw [ht2]; exact hP, hS.F ht2⟩) hS.2.2 dX3_undoRenewing_23 hlocks
  · refine lv_aload_n hx hb dX3_undoRenewing_13 rfl (lv_at hl 1 rfl) ?_
    refine va_get (D := D) (ci := 8) (v := .int (v 20)) (C := RX9) (T := TX9) (N := 19) hx hb hts hX9 hown hK.1 hP 0 rfl rfl 8 (by decide) (hts (.fieldLink RX3 269 "PledgeHouse$Ticket" "renewedOn" "I") (by decide +kernel)) (fun _ h9 => h9) rfl dX3_undoRenewing_14 ?_
    refine lv_iconst (v := (-1)) hx hb dX3_undoRenewing_17 (by decide) ?_
    refine lv_icmp_ne (tgt := 24) hx hb dX3_undoRenewing_18 (by decide) (fun c_2 => ?_) (fun c_2 => ?_)
    · refine lv_aload_n hx hb dX3_undoRenewing_24 rfl (lv_at hl 1 rfl) ?_
      refine va_get (D := D) (ci := 8) (v := .int (v 20)) (C := RX9) (T := TX9) (N := 19) hx hb hts hX9 hown hK.1 hP 0 rfl rfl 8 (by decide) (hts (.fieldLink RX3 269 "PledgeHouse$Ticket" "renewedOn" "I") (by decide +kernel)) (fun _ h9 => h9) rfl dX3_undoRenewing_25 ?_
      refine lv_aload_n hx hb dX3_undoRenewing_28 rfl (lv_at hl 0 rfl) ?_
      refine hx_get hx hb hts hX3 hown hK.1 hP 2 (by decide) (hts (.fieldLink RX3 50 "PledgeHouse$House" "today" "I") (by decide +kernel)) rfl (v := .int (gh Z 0)) rfl dX3_undoRenewing_29 ?_
      refine lv_icmp_eq (tgt := 38) hx hb dX3_undoRenewing_32 (by decide) (fun c_3 => ?_) (fun c_3 => ?_)
      · refine lv_aload_n hx hb dX3_undoRenewing_38 rfl (lv_at hl 0 rfl) ?_
        refine c_wr (WS' := (wT b nm v ++ wH a (k 0) cs ((sc_X3_addRow Z RW rc).1)) ++ wB k r cs ((sc_X3_addRow Z RW rc).2)) S hK (show va_P D vwCl (([] ++ wH a (k 0) cs Z) ++ wB k r cs RW) _ from va_P.app (vaR (vaL hP)) (vaR hP)) (va_recv hK.1 hP (ci := 3) (q0 := _ + 0) rfl (get3 rfl)) hS (As := []) (rest := []) (cC_X3_addRow l D cs k a Z r RW _ ia ik d.2.2 rc hrc hrl) (cwV 0 hts gX3_undoRenewing_X3_addRow rfl rfl rfl (by decide +kernel) ⟨Nat.le_of_ble_eq_true rfl, Nat.le_of_ble_eq_true rfl⟩) rfl hl.1 rfl (Nat.le_of_ble_eq_true rfl) dX3_undoRenewing_39 ⟨Nat.zero_le _, Nat.zero_le _⟩ (fun q h => adA_le hS.1 q (h.elim (fun t => Or.inl (t.elim (fun t => Or.inl (Or.inr t)) (fun t => Or.inr t))) Or.inr)) (fun H1 _ hk h => (va_P.app (va_P.app (keepP (vaL (vaL hP)) wT_p (fun q h1 h2 => h2.elim (fun t => d.1 q h1 t) (fun t => d.2.1 q h1 t)) hk) (vaL h)) (vaR h))) (fun H locs hP hS => ?_)
        refine lv_astore_n (lv' := [(2, .ref (r rc)), (0, .ref (a 0)), (1, .ref (b 0))]) hx hb dX3_undoRenewing_42 rfl hl (by decide) rfl (fun ls hl => ?_)
        refine lv_aload_n hx hb dX3_undoRenewing_43 rfl (lv_at hl 0 rfl) ?_
        refine lv_bipush (v := 14) hx hb dX3_undoRenewing_44 (by decide) ?_
        refine lv_aload_n hx hb dX3_undoRenewing_46 rfl (lv_at hl 2 rfl) ?_
        refine c_wrS (WS' := (wT b nm ((sc_X0_writeGrowing nm v ((sc_X3_addRow Z RW rc).2) rc 14).1) ++ wH a (k 0) cs ((sc_X3_addRow Z RW rc).1)) ++ wB k r cs ((sc_X0_writeGrowing nm v ((sc_X3_addRow Z RW rc).2) rc 14).2)) S hK (show va_P D vwCl (wT b nm v ++ wB k r cs ((sc_X3_addRow Z RW rc).2)) _ from va_P.app (vaL (vaL hP)) (vaR hP)) hS (As := [.ref (r rc), .int 14, .ref (b 0)]) (rest := []) (cC_X0_writeGrowing l D cs b nm v k r ((sc_X3_addRow Z RW rc).2) _ ib ik d.2.1 rc 14 (Nat.lt_of_le_of_lt hrl (by decide)) (by decide)) (va_cwS 3 hts gX3_undoRenewing_X0_writeGrowing rfl rfl rfl (by decide +kernel) ⟨Nat.le_of_ble_eq_true rfl, Nat.le_of_ble_eq_true rfl⟩) rfl hl.1 rfl (Nat.le_of_ble_eq_true rfl) dX3_undoRenewing_47 ⟨Nat.zero_le _, Nat.zero_le _⟩ (fun q h => adA_le hS.1 q (h.elim (fun t => Or.inl (t.elim (fun t => Or.inl (Or.inl t)) (fun t => Or.inr t))) Or.inr)) (fun H1 _ hk h => (va_P.app (va_P.app (vaL h) (keepP (vaR (vaL hP)) wH_p (fun q h1 h2 => h2.elim (fun t => d.1 q t h1) (fun t => d.2.2 q h1 t)) hk)) (vaR h))) (fun H locs hP hS => ?_)
        refine lv_aload_n hx hb dX3_undoRenewing_50 rfl (lv_at hl 2 rfl) ?_
        refine va_get (D := D) (ci := 8) (v := .ref (b 1)) (C := RX9) (T := TX9) (N := 19) hx hb hts hX9 hown hK.1 hP 0 rfl rfl 6 (by decide) (hts (.fieldLink RX3 77 "PledgeHouse$Ticket" "term" "LPledgeHouse$Term;") (by decide +kernel)) (fun _ h9 => h9) rfl dX3_undoRenewing_51 ?_
        refine lv_aload_n hx hb dX3_undoRenewing_54 rfl (lv_at hl 2 rfl) ?_
        refine va_get (D := D) (ci := 8) (v := .ref (b 2)) (C := RX9) (T := TX9) (N := 19) hx hb hts hX9 hown hK.1 hP 0 rfl rfl 7 (by decide) (hts (.fieldLink RX3 282 "PledgeHouse$Ticket" "earlier" "LPledgeHouse$Term;") (by decide +kernel)) (fun _ h9 => h9) rfl dX3_undoRenewing_55 ?_
        refine c_wr (WS' := (wT b nm (sc_X7_become_t nm ((sc_X0_writeGrowing nm v ((sc_X3_addRow Z RW rc).2) rc 14).1)) ++ wH a (k 0) cs ((sc_X3_addRow Z RW rc).1)) ++ wB k r cs ((sc_X0_writeGrowing nm v ((sc_X3_addRow Z RW rc).2) rc 14).2)) S hK (show va_P D vwCl (wT b nm ((sc_X0_writeGrowing nm v ((sc_X3_addRow Z RW rc).2) rc 14).1)) _ from vaL (vaL hP)) (va_recv hK.1 hP (ci := 6) (q0 := 1) rfl rfl) hS (As := [.ref (b 2)]) (rest := []) (cC_X7_become_t l D cs b nm ((sc_X0_writeGrowing nm v ((sc_X3_addRow Z RW rc).2) rc 14).1) _ ib  ) (cwV 1 hts gX3_undoRenewing_X7_become rfl rfl rfl (by decide +kernel) ⟨Nat.le_of_ble_eq_true rfl, Nat.le_of_ble_eq_true rfl⟩) rfl hl.1 rfl (Nat.le_of_ble_eq_true rfl) dX3_undoRenewing_58 ⟨Nat.zero_le _, Nat.zero_le _⟩ (fun q h => adA_le hS.1 q (h.elim (fun t => Or.inl (Or.inl (Or.inl t))) Or.inr)) (fun H1 _ hk h => (va_P.app (va_P.app h (keepP (vaR (vaL hP)) wH_p (fun q h1 h2 => d.1 q h2 h1) hk)) (keepP (vaR hP) wB_p (fun q h1 h2 => d.2.1 q h2 h1) hk))) (fun H locs hP hS => ?_)
        refine lv_aload_n hx hb dX3_undoRenewing_61 rfl (lv_at hl 2 rfl) ?_
        refine lv_iconst (v := (-1)) hx hb dX3_undoRenewing_62 (by decide) ?_
        refine va_put (D := D) (ci := 8) (v := .int (-1)) (ty := .int) (C := RX9) (T := TX9) (N := 19) hx hb hts hX9 tyX9 tyX9_ok nmX9 hown hK.1 hP (wTHB_D ib ia ik d s.heap.size) hS 0 rfl rfl 8 (by decide) (hts (.fieldLink RX3 269 "PledgeHouse$Ticket" "renewedOn" "I") (by decide +kernel)) (fun _ h9 => h9) rfl (by decide +kernel) rfl rfl (Nat.le_of_ble_eq_true rfl) dX3_undoRenewing_63 (fun H locs hP _ hS => ?_)
        have hP : va_P D vwCl ((wT b nm (upd (sc_X7_become_t nm ((sc_X0_writeGrowing nm v ((sc_X3_addRow Z RW rc).2) rc 14).1)) 20 (-1)) ++ wH a (k 0) cs ((sc_X3_addRow Z RW rc).1)) ++ wB k r cs ((sc_X0_writeGrowing nm v ((sc_X3_addRow Z RW rc).2) rc 14).2)) H := hP
        refine lv_aload_n hx hb dX3_undoRenewing_66 rfl (lv_at hl 0 rfl) ?_
        refine lv_bipush (v := 17) hx hb dX3_undoRenewing_67 (by decide) ?_
        refine lv_aload_n hx hb dX3_undoRenewing_69 rfl (lv_at hl 2 rfl) ?_
        refine c_wrS (WS' := (wT b nm ((sc_X0_writeGrowing nm (upd (sc_X7_become_t nm ((sc_X0_writeGrowing nm v ((sc_X3_addRow Z RW rc).2) rc 14).1)) 20 (-1)) ((sc_X0_writeGrowing nm v ((sc_X3_addRow Z RW rc).2) rc 14).2) rc 17).1) ++ wH a (k 0) cs ((sc_X3_addRow Z RW rc).1)) ++ wB k r cs ((sc_X0_writeGrowing nm (upd (sc_X7_become_t nm ((sc_X0_writeGrowing nm v ((sc_X3_addRow Z RW rc).2) rc 14).1)) 20 (-1)) ((sc_X0_writeGrowing nm v ((sc_X3_addRow Z RW rc).2) rc 14).2) rc 17).2)) S hK (show va_P D vwCl (wT b nm (upd (sc_X7_become_t nm ((sc_X0_writeGrowing nm v ((sc_X3_addRow Z RW rc).2) rc 14).1)) 20 (-1)) ++ wB k r cs ((sc_X0_writeGrowing nm v ((sc_X3_addRow Z RW rc).2) rc 14).2)) _ from va_P.app (vaL (vaL hP)) (vaR hP)) hS (As := [.ref (r rc), .int 17, .ref (b 0)]) (rest := []) (cC_X0_writeGrowing l D cs b nm (upd (sc_X7_become_t nm ((sc_X0_writeGrowing nm v ((sc_X3_addRow Z RW rc).2) rc 14).1)) 20 (-1)) k r ((sc_X0_writeGrowing nm v ((sc_X3_addRow Z RW rc).2) rc 14).2) _ ib ik d.2.1 rc 17 (Nat.lt_of_le_of_lt hrl (by decide)) (by decide)) (va_cwS 3 hts gX3_undoRenewing_X0_writeGrowing rfl rfl rfl (by decide +kernel) ⟨Nat.le_of_ble_eq_true rfl, Nat.le_of_ble_eq_true rfl⟩) rfl hl.1 rfl (Nat.le_of_ble_eq_true rfl) dX3_undoRenewing_70 ⟨Nat.zero_le _, Nat.zero_le _⟩ (fun q h => adA_le hS.1 q (h.elim (fun t => Or.inl (t.elim (fun t => Or.inl (Or.inl t)) (fun t => Or.inr t))) Or.inr)) (fun H1 _ hk h => (va_P.app (va_P.app (vaL h) (keepP (vaR (vaL hP)) wH_p (fun q h1 h2 => h2.elim (fun t => d.1 q t h1) (fun t => d.2.2 q h1 t)) hk)) (vaR h))) (fun H locs hP hS => ?_)
        refine lv_aload_n hx hb dX3_undoRenewing_73 rfl (lv_at hl 0 rfl) ?_
        refine lv_iconst (v := 1) hx hb dX3_undoRenewing_74 (by decide) ?_
        refine lv_dup2_11 hx hb dX3_undoRenewing_75 rfl rfl ?_
        refine b_lald hx hb hK.1 hP rc 1 (Nat.lt_of_le_of_lt hrl (by decide)) rfl (by decide) (v := ((sc_X0_writeGrowing nm (upd (sc_X7_become_t nm ((sc_X0_writeGrowing nm v ((sc_X3_addRow Z RW rc).2) rc 14).1)) 20 (-1)) ((sc_X0_writeGrowing nm v ((sc_X3_addRow Z RW rc).2) rc 14).2) rc 17).2) rc 1) rfl dX3_undoRenewing_76 ?_
        refine lv_aload_n hx hb dX3_undoRenewing_77 rfl (lv_at hl 2 rfl) ?_
        refine va_get (D := D) (ci := 8) (v := .ref (b 1)) (C := RX9) (T := TX9) (N := 19) hx hb hts hX9 hown hK.1 hP 0 rfl rfl 6 (by decide) (hts (.fieldLink RX3 77 "PledgeHouse$Ticket" "term" "LPledgeHouse$Term;") (by decide +kernel)) (fun _ h9 => h9) rfl dX3_undoRenewing_78 ?_
        refine va_get (D := D) (ci := 6) (v := .int (((sc_X0_writeGrowing nm (upd (sc_X7_become_t nm ((sc_X0_writeGrowing nm v ((sc_X3_addRow Z RW rc).2) rc 14).1)) 20 (-1)) ((sc_X0_writeGrowing nm v ((sc_X3_addRow Z RW rc).2) rc 14).2) rc 17).1) 2)) (C := RX7) (T := TX7) (N := 6) hx hb hts hX7 hown hK.1 hP 1 rfl rfl 4 (by decide) (hts (.fieldLink RX3 261 "PledgeHouse$Term" "interest" "I") (by decide +kernel)) (fun _ h9 => h9) rfl dX3_undoRenewing_81 ?_
        refine lv_i2l (v := (((sc_X0_writeGrowing nm (upd (sc_X7_become_t nm ((sc_X0_writeGrowing nm v ((sc_X3_addRow Z RW rc).2) rc 14).1)) 20 (-1)) ((sc_X0_writeGrowing nm v ((sc_X3_addRow Z RW rc).2) rc 14).2) rc 17).1) 2).toInt64) hx hb dX3_undoRenewing_84 rfl ?_
        refine lv_lsub hx hb dX3_undoRenewing_85 ?_
        refine b_last hx hb hK.1 hP (wTHB_D ib ia ik d s.heap.size) hS rc 1 (Nat.lt_of_le_of_lt hrl (by decide)) rfl (by decide) dX3_undoRenewing_86 (fun H locs hP hS => ?_)
        refine lv_aload_n hx hb dX3_undoRenewing_87 rfl (lv_at hl 2 rfl) ?_
        refine va_get (D := D) (ci := 8) (v := .ref (b 1)) (C := RX9) (T := TX9) (N := 19) hx hb hts hX9 hown hK.1 hP 0 rfl rfl 6 (by decide) (hts (.fieldLink RX3 77 "PledgeHouse$Ticket" "term" "LPledgeHouse$Term;") (by decide +kernel)) (fun _ h9 => h9) rfl dX3_undoRenewing_88 ?_
        refine va_get (D := D) (ci := 6) (v := .int (((sc_X0_writeGrowing nm (upd (sc_X7_become_t nm ((sc_X0_writeGrowing nm v ((sc_X3_addRow Z RW rc).2) rc 14).1)) 20 (-1)) ((sc_X0_writeGrowing nm v ((sc_X3_addRow Z RW rc).2) rc 14).2) rc 17).1) 2)) (C := RX7) (T := TX7) (N := 6) hx hb hts hX7 hown hK.1 hP 1 rfl rfl 4 (by decide) (hts (.fieldLink RX3 261 "PledgeHouse$Term" "interest" "I") (by decide +kernel)) (fun _ h9 => h9) rfl dX3_undoRenewing_91 ?_
        have hsp : sc_X3_undoRenewing nm v Z RW rc = (((sc_X0_writeGrowing nm (upd (sc_X7_become_t nm ((sc_X0_writeGrowing nm v ((sc_X3_addRow Z RW rc).2) rc 14).1)) 20 (-1)) ((sc_X0_writeGrowing nm v ((sc_X3_addRow Z RW rc).2) rc 14).2) rc 17).1) 2, (sc_X0_writeGrowing nm (upd (sc_X7_become_t nm ((sc_X0_writeGrowing nm v ((sc_X3_addRow Z RW rc).2) rc 14).1)) 20 (-1)) ((sc_X0_writeGrowing nm v ((sc_X3_addRow Z RW rc).2) rc 14).2) rc 17).1, (sc_X3_addRow Z RW rc).1, rwp ((sc_X0_writeGrowing nm (upd (sc_X7_become_t nm ((sc_X0_writeGrowing nm v ((sc_X3_addRow Z RW rc).2) rc 14).1)) 20 (-1)) ((sc_X0_writeGrowing nm v ((sc_X3_addRow Z RW rc).2) rc 14).2) rc 17).2) rc 1 ((((sc_X0_writeGrowing nm (upd (sc_X7_become_t nm ((sc_X0_writeGrowing nm v ((sc_X3_addRow Z RW rc).2) rc 14).1)) 20 (-1)) ((sc_X0_writeGrowing nm v ((sc_X3_addRow Z RW rc).2) rc 14).2) rc 17).2) rc 1) - ((((sc_X0_writeGrowing nm (upd (sc_X7_become_t nm ((sc_X0_writeGrowing nm v ((sc_X3_addRow Z RW rc).2) rc 14).1)) 20 (-1)) ((sc_X0_writeGrowing nm v ((sc_X3_addRow Z RW rc).2) rc 14).2) rc 17).1) 2).toInt64))) := by unfold sc_X3_undoRenewing; rw [if_neg c_1, if_neg c_2, if_pos c_3]
        exact W.iret hx hb hr (fun t2 ht2 hW => by rw [hsp]; exact ⟨rfl, by rw [ht2]; exact hP, hS.F ht2⟩) hS.2.2 dX3_undoRenewing_94 hlocks
      · refine lv_bipush (v := (-5)) hx hb dX3_undoRenewing_35 (by decide) ?_
        have hsp : sc_X3_undoRenewing nm v Z RW rc = ((-5), v, Z, RW) := by unfold sc_X3_undoRenewing; rw [if_neg c_1, if_neg c_2, if_neg c_3]
        exact W.iret hx hb hr (fun t2 ht2 hW => by rw [hsp]; exact ⟨rfl, by rw [ht2]; exact hP, hS.F ht2⟩) hS.2.2 dX3_undoRenewing_37 hlocks
    · refine lv_bipush (v := (-2)) hx hb dX3_undoRenewing_21 (by decide) ?_
      have hsp : sc_X3_undoRenewing nm v Z RW rc = ((-2), v, Z, RW) := by unfold sc_X3_undoRenewing; rw [if_neg c_1, if_pos c_2]
      exact W.iret hx hb hr (fun t2 ht2 hW => by rw [hsp]; exact ⟨rfl, by rw [ht2]; exact hP, hS.F ht2⟩) hS.2.2 dX3_undoRenewing_23 hlocks
def sc_X3_endTicket (nm : Int32) (v : Nat → Int32) (Z : hZ) (RW : Nat → Nat → Int64) (rc : Nat) (standing : Int32) : (Nat → Int32) × (hZ) × (Nat → Nat → Int64) :=
  if (sc_X3_isPlace (((sc_X0_writeGrowing nm v ((sc_X3_addRow Z RW rc).2) rc 14).1) 15)) = 0 then
    (upd ((sc_X0_writeGrowing nm v ((sc_X3_addRow Z RW rc).2) rc 14).1) 0 standing, (sc_X3_addRow Z RW rc).1, rwp (rwp (rwp ((sc_X0_writeGrowing nm v ((sc_X3_addRow Z RW rc).2) rc 14).2) rc 8 ((((sc_X0_writeGrowing nm v ((sc_X3_addRow Z RW rc).2) rc 14).2) rc 8) - ((((sc_X0_writeGrowing nm v ((sc_X3_addRow Z RW rc).2) rc 14).1) 1).toInt64))) rc 10 ((((sc_X0_writeGrowing nm v ((sc_X3_addRow Z RW rc).2) rc 14).2) rc 10) - 1)) rc 11 ((((sc_X0_writeGrowing nm v ((sc_X3_addRow Z RW rc).2) rc 14).2) rc 11) - 1))
  else
    (upd ((sc_X0_writeGrowing nm v ((sc_X3_addRow Z RW rc).2) rc 14).1) 0 standing, gop (gpp ((sc_X3_addRow Z RW rc).1) (tN (((sc_X0_writeGrowing nm v ((sc_X3_addRow Z RW rc).2) rc 14).1) 15)) none) (tN (((sc_X0_writeGrowing nm v ((sc_X3_addRow Z RW rc).2) rc 14).1) 15)) 0, rwp (rwp (rwp ((sc_X0_writeGrowing nm v ((sc_X3_addRow Z RW rc).2) rc 14).2) rc 8 ((((sc_X0_writeGrowing nm v ((sc_X3_addRow Z RW rc).2) rc 14).2) rc 8) - ((((sc_X0_writeGrowing nm v ((sc_X3_addRow Z RW rc).2) rc 14).1) 1).toInt64))) rc 10 ((((sc_X0_writeGrowing nm v ((sc_X3_addRow Z RW rc).2) rc 14).2) rc 10) - 1)) rc 11 ((((sc_X0_writeGrowing nm v ((sc_X3_addRow Z RW rc).2) rc 14).2) rc 11) - 1))
set_option maxHeartbeats 4000000 in
set_option maxRecDepth 100000 in
theorem cC_X3_endTicket (l : Launch) (D : va_G) (cs : Nat → ClassId) (b : Nat → Nat) (nm : Int32) (v : Nat → Int32) (k : Nat → Nat) (a : Nat → Nat) (Z : hZ) (r : Nat → Nat) (RW : Nat → Nat → Int64) (sz : Nat) (ib : iT b) (ia : iH a) (ik : iB k r) (d : dTHB b a k r) (rc : Nat) (standing : Int32) (hrc : gh Z 2 = nI rc) (hrl : rc ≤ 511) : Met l yX3_endTicket wsX3_endTicket ({ frames := 3, cells := 0, slots := 0, locals := 67 }) (cPc [.ref (a 0), .ref (b 0), .int standing] D cs ((wT b nm v ++ wH a (k 0) cs Z) ++ wB k r cs RW) sz) (cQ D (some (.ref (r rc))) ((wT b nm ((sc_X3_endTicket nm v Z RW rc standing).1) ++ wH a (k 0) cs ((sc_X3_endTicket nm v Z RW rc standing).2.1)) ++ wB k r cs ((sc_X3_endTicket nm v Z RW rc standing).2.2)) (adA (pOr (pOr (pT b) (pH a)) (pB k r)) sz)) 0 0 (adA (pOr (pOr (pT b) (pH a)) (pB k r)) sz) := by
  refine c_in (P := pOr (pOr (pT b) (pH a)) (pB k r)) (cc := cX3_endTicket) (maxL := 4) (ret := (some (.array .long))) (lv := [(0, .ref (a 0)), (1, .ref (b 0)), (2, .int standing)]) (by decide) rfl (Nat.le_of_ble_eq_true rfl) rfl ?_
  intro p e s m below meth c ls S hr hlocks hin hsz hP hK hl hS
  subst hsz
  obtain ⟨hx, hb, hml, hown, hts⟩ := id S
  have hX3 : ∀ w ∈ wsX30, w ∈ wsX3_endTicket := by decide +kernel
  have hX9 : ∀ w ∈ wsX90, w ∈ wsX3_endTicket := by decide +kernel
  refine lv_aload_n hx hb dX3_endTicket_0 rfl (lv_at hl 0 rfl) ?_
  refine c_wr (WS' := (wT b nm v ++ wH a (k 0) cs ((sc_X3_addRow Z RW rc).1)) ++ wB k r cs ((sc_X3_addRow Z RW rc).2)) S hK (show va_P D vwCl (([] ++ wH a (k 0) cs Z) ++ wB k r cs RW) _ from va_P.app (vaR (vaL hP)) (vaR hP)) (va_recv hK.1 hP (ci := 3) (q0 := _ + 0) rfl (get3 rfl)) hS (As := []) (rest := []) (cC_X3_addRow l D cs k a Z r RW _ ia ik d.2.2 rc hrc hrl) (cwV 0 hts gX3_endTicket_X3_addRow rfl rfl rfl (by decide +kernel) ⟨Nat.le_of_ble_eq_true rfl, Nat.le_of_ble_eq_true rfl⟩) rfl hl.1 rfl (Nat.le_of_ble_eq_true rfl) dX3_endTicket_1 ⟨Nat.zero_le _, Nat.zero_le _⟩ (fun q h => adA_le hS.1 q (h.elim (fun t => Or.inl (t.elim (fun t => Or.inl (Or.inr t)) (fun t => Or.inr t))) Or.inr)) (fun H1 _ hk h => (va_P.app (va_P.app (keepP (vaL (vaL hP)) wT_p (fun q h1 h2 => h2.elim (fun t => d.1 q h1 t) (fun t => d.2.1 q h1 t)) hk) (vaL h)) (vaR h))) (fun H locs hP hS => ?_)
  refine lv_astore_n (lv' := [(3, .ref (r rc)), (0, .ref (a 0)), (1, .ref (b 0)), (2, .int standing)]) hx hb dX3_endTicket_4 rfl hl (by decide) rfl (fun ls hl => ?_)
  refine lv_aload_n hx hb dX3_endTicket_5 rfl (lv_at hl 0 rfl) ?_
  refine lv_bipush (v := 14) hx hb dX3_endTicket_6 (by decide) ?_
  refine lv_aload_n hx hb dX3_endTicket_8 rfl (lv_at hl 2 rfl) ?_
  refine c_wrS (WS' := (wT b nm ((sc_X0_writeGrowing nm v ((sc_X3_addRow Z RW rc).2) rc 14).1) ++ wH a (k 0) cs ((sc_X3_addRow Z RW rc).1)) ++ wB k r cs ((sc_X0_writeGrowing nm v ((sc_X3_addRow Z RW rc).2) rc 14).2)) S hK (show va_P D vwCl (wT b nm v ++ wB k r cs ((sc_X3_addRow Z RW rc).2)) _ from va_P.app (vaL (vaL hP)) (vaR hP)) hS (As := [.ref (r rc), .int 14, .ref (b 0)]) (rest := []) (cC_X0_writeGrowing l D cs b nm v k r ((sc_X3_addRow Z RW rc).2) _ ib ik d.2.1 rc 14 (Nat.lt_of_le_of_lt hrl (by decide)) (by decide)) (va_cwS 3 hts gX3_endTicket_X0_writeGrowing rfl rfl rfl (by decide +kernel) ⟨Nat.le_of_ble_eq_true rfl, Nat.le_of_ble_eq_true rfl⟩) rfl hl.1 rfl (Nat.le_of_ble_eq_true rfl) dX3_endTicket_9 ⟨Nat.zero_le _, Nat.zero_le _⟩ (fun q h => adA_le hS.1 q (h.elim (fun t => Or.inl (t.elim (fun t => Or.inl (Or.inl t)) (fun t => Or.inr t))) Or.inr)) (fun H1 _ hk h => (va_P.app (va_P.app (vaL h) (keepP (vaR (vaL hP)) wH_p (fun q h1 h2 => h2.elim (fun t => d.1 q t h1) (fun t => d.2.2 q h1 t)) hk)) (vaR h))) (fun H locs hP hS => ?_)
  refine lv_aload_n hx hb dX3_endTicket_12 rfl (lv_at hl 0 rfl) ?_
  refine lv_bipush (v := 8) hx hb dX3_endTicket_13 (by decide) ?_
  refine lv_dup2_11 hx hb dX3_endTicket_15 rfl rfl ?_
  refine b_lald hx hb hK.1 hP rc 8 (Nat.lt_of_le_of_lt hrl (by decide)) rfl (by decide) (v := ((sc_X0_writeGrowing nm v ((sc_X3_addRow Z RW rc).2) rc 14).2) rc 8) rfl dX3_endTicket_16 ?_
  refine lv_aload_n hx hb dX3_endTicket_17 rfl (lv_at hl 2 rfl) ?_
  refine va_get (D := D) (ci := 8) (v := .int (((sc_X0_writeGrowing nm v ((sc_X3_addRow Z RW rc).2) rc 14).1) 1)) (C := RX9) (T := TX9) (N := 19) hx hb hts hX9 hown hK.1 hP 0 rfl rfl 4 (by decide) (hts (.fieldLink RX3 81 "PledgeHouse$Ticket" "principal" "I") (by decide +kernel)) (fun _ h9 => h9) rfl dX3_endTicket_18 ?_
  refine lv_i2l (v := (((sc_X0_writeGrowing nm v ((sc_X3_addRow Z RW rc).2) rc 14).1) 1).toInt64) hx hb dX3_endTicket_21 rfl ?_
  refine lv_lsub hx hb dX3_endTicket_22 ?_
  refine b_last hx hb hK.1 hP (wTHB_D ib ia ik d s.heap.size) hS rc 8 (Nat.lt_of_le_of_lt hrl (by decide)) rfl (by decide) dX3_endTicket_23 (fun H locs hP hS => ?_)
  refine lv_aload_n hx hb dX3_endTicket_24 rfl (lv_at hl 0 rfl) ?_
  refine lv_bipush (v := 10) hx hb dX3_endTicket_25 (by decide) ?_
  refine lv_dup2_11 hx hb dX3_endTicket_27 rfl rfl ?_
  refine b_lald hx hb hK.1 hP rc 10 (Nat.lt_of_le_of_lt hrl (by decide)) rfl (by decide) (v := ((sc_X0_writeGrowing nm v ((sc_X3_addRow Z RW rc).2) rc 14).2) rc 10) (rwp_ne (by decide)) dX3_endTicket_28 ?_
  refine lv_lconst (v := 1) hx hb dX3_endTicket_29 (by decide) ?_
  refine lv_lsub hx hb dX3_endTicket_30 ?_
  refine b_last hx hb hK.1 hP (wTHB_D ib ia ik d s.heap.size) hS rc 10 (Nat.lt_of_le_of_lt hrl (by decide)) rfl (by decide) dX3_endTicket_31 (fun H locs hP hS => ?_)
  refine lv_aload_n hx hb dX3_endTicket_32 rfl (lv_at hl 0 rfl) ?_
  refine lv_bipush (v := 11) hx hb dX3_endTicket_33 (by decide) ?_
  refine lv_dup2_11 hx hb dX3_endTicket_35 rfl rfl ?_
  refine b_lald hx hb hK.1 hP rc 11 (Nat.lt_of_le_of_lt hrl (by decide)) rfl (by decide) (v := ((sc_X0_writeGrowing nm v ((sc_X3_addRow Z RW rc).2) rc 14).2) rc 11) ((rwp_ne (by decide)).trans (rwp_ne (by decide))) dX3_endTicket_36 ?_
  refine lv_lconst (v := 1) hx hb dX3_endTicket_37 (by decide) ?_
  refine lv_lsub hx hb dX3_endTicket_38 ?_
  refine b_last hx hb hK.1 hP (wTHB_D ib ia ik d s.heap.size) hS rc 11 (Nat.lt_of_le_of_lt hrl (by decide)) rfl (by decide) dX3_endTicket_39 (fun H locs hP hS => ?_)
  refine lv_aload_n hx hb dX3_endTicket_40 rfl (lv_at hl 2 rfl) ?_
  refine lv_iload_n hx hb dX3_endTicket_41 rfl (lv_at hl 3 rfl) ?_
  refine va_put (D := D) (ci := 8) (v := .int standing) (ty := .int) (C := RX9) (T := TX9) (N := 19) hx hb hts hX9 tyX9 tyX9_ok nmX9 hown hK.1 hP (wTHB_D ib ia ik d s.heap.size) hS 0 rfl rfl 3 (by decide) (hts (.fieldLink RX3 295 "PledgeHouse$Ticket" "standing" "I") (by decide +kernel)) (fun _ h9 => h9) rfl (by decide +kernel) rfl rfl (Nat.le_of_ble_eq_true rfl) dX3_endTicket_42 (fun H locs hP _ hS => ?_)
  have hP : va_P D vwCl ((wT b nm (upd ((sc_X0_writeGrowing nm v ((sc_X3_addRow Z RW rc).2) rc 14).1) 0 standing) ++ wH a (k 0) cs ((sc_X3_addRow Z RW rc).1)) ++ wB k r cs (rwp (rwp (rwp ((sc_X0_writeGrowing nm v ((sc_X3_addRow Z RW rc).2) rc 14).2) rc 8 ((((sc_X0_writeGrowing nm v ((sc_X3_addRow Z RW rc).2) rc 14).2) rc 8) - ((((sc_X0_writeGrowing nm v ((sc_X3_addRow Z RW rc).2) rc 14).1) 1).toInt64))) rc 10 ((((sc_X0_writeGrowing nm v ((sc_X3_addRow Z RW rc).2) rc 14).2) rc 10) - 1)) rc 11 ((((sc_X0_writeGrowing nm v ((sc_X3_addRow Z RW rc).2) rc 14).2) rc 11) - 1))) H := hP
  refine lv_aload_n hx hb dX3_endTicket_45 rfl (lv_at hl 2 rfl) ?_
  refine va_get (D := D) (ci := 8) (v := .int ((upd ((sc_X0_writeGrowing nm v ((sc_X3_addRow Z RW rc).2) rc 14).1) 0 standing) 15)) (C := RX9) (T := TX9) (N := 19) hx hb hts hX9 hown hK.1 hP 0 rfl rfl 1 (by decide) (hts (.fieldLink RX3 212 "PledgeHouse$Ticket" "place" "I") (by decide +kernel)) (fun _ h9 => h9) rfl dX3_endTicket_46 ?_
  refine wtop (congrArg Value.int (show (upd ((sc_X0_writeGrowing nm v ((sc_X3_addRow Z RW rc).2) rc 14).1) 0 standing) 15 = ((sc_X0_writeGrowing nm v ((sc_X3_addRow Z RW rc).2) rc 14).1) 15 from (pk_un (by decide)))) ?_
  refine m_st S (As := [.int (((sc_X0_writeGrowing nm v ((sc_X3_addRow Z RW rc).2) rc 14).1) 15)]) (rest := []) (cC_X3_isPlace l (((sc_X0_writeGrowing nm v ((sc_X3_addRow Z RW rc).2) rc 14).1) 15)) (cwS 1 hts gX3_endTicket_X3_isPlace rfl rfl rfl (by decide +kernel) ⟨Nat.le_of_ble_eq_true rfl, Nat.le_of_ble_eq_true rfl⟩) rfl hl.1 rfl (Nat.le_of_ble_eq_true rfl) dX3_endTicket_49 ⟨Nat.zero_le _, Nat.zero_le _⟩ ?_
  refine lv_if_eq (tgt := 75) hx hb dX3_endTicket_52 (by decide) (fun c_1 => ?_) (fun c_1 => ?_)
  · refine lv_aload_n hx hb dX3_endTicket_75 rfl (lv_at hl 0 rfl) ?_
    have hsp : sc_X3_endTicket nm v Z RW rc standing = (upd ((sc_X0_writeGrowing nm v ((sc_X3_addRow Z RW rc).2) rc 14).1) 0 standing, (sc_X3_addRow Z RW rc).1, rwp (rwp (rwp ((sc_X0_writeGrowing nm v ((sc_X3_addRow Z RW rc).2) rc 14).2) rc 8 ((((sc_X0_writeGrowing nm v ((sc_X3_addRow Z RW rc).2) rc 14).2) rc 8) - ((((sc_X0_writeGrowing nm v ((sc_X3_addRow Z RW rc).2) rc 14).1) 1).toInt64))) rc 10 ((((sc_X0_writeGrowing nm v ((sc_X3_addRow Z RW rc).2) rc 14).2) rc 10) - 1)) rc 11 ((((sc_X0_writeGrowing nm v ((sc_X3_addRow Z RW rc).2) rc 14).2) rc 11) - 1)) := by unfold sc_X3_endTicket; rw [if_pos c_1]
    exact W.aret hx hb hr (Or.inr ⟨_, rfl⟩) (Or.inr ⟨_, rfl⟩) (fun t2 ht2 hW => by rw [hsp]; exact ⟨rfl, by rw [ht2]; exact hP, hS.F ht2⟩) hS.2.2 dX3_endTicket_76 hlocks
  · refine lv_aload_n hx hb dX3_endTicket_55 rfl (lv_at hl 1 rfl) ?_
    refine hx_get hx hb hts hX3 hown hK.1 hP 4 (by decide) (hts (.fieldLink RX3 25 "PledgeHouse$House" "pledges" "[LPledgeHouse$Pledge;") (by decide +kernel)) rfl (v := .ref (a 2)) rfl dX3_endTicket_56 ?_
    refine lv_aload_n hx hb dX3_endTicket_59 rfl (lv_at hl 2 rfl) ?_
    refine va_get (D := D) (ci := 8) (v := .int ((upd ((sc_X0_writeGrowing nm v ((sc_X3_addRow Z RW rc).2) rc 14).1) 0 standing) 15)) (C := RX9) (T := TX9) (N := 19) hx hb hts hX9 hown hK.1 hP 0 rfl rfl 1 (by decide) (hts (.fieldLink RX3 212 "PledgeHouse$Ticket" "place" "I") (by decide +kernel)) (fun _ h9 => h9) rfl dX3_endTicket_60 ?_
    refine wtop (congrArg Value.int (show (upd ((sc_X0_writeGrowing nm v ((sc_X3_addRow Z RW rc).2) rc 14).1) 0 standing) 15 = ((sc_X0_writeGrowing nm v ((sc_X3_addRow Z RW rc).2) rc 14).1) 15 from (pk_un (by decide)))) ?_
    refine lv_null hx hb dX3_endTicket_63 ?_
    refine hx_pstN hx hb hK.1 hP (wTHB_D ib ia ik d s.heap.size) hS (tN (((sc_X0_writeGrowing nm v ((sc_X3_addRow Z RW rc).2) rc 14).1) 15)) (pl_of c_1).1 (pl_of c_1).2 dX3_endTicket_64 (fun H locs hP hS => ?_)
    refine lv_aload_n hx hb dX3_endTicket_65 rfl (lv_at hl 1 rfl) ?_
    refine hx_get hx hb hts hX3 hown hK.1 hP 6 (by decide) (hts (.fieldLink RX3 33 "PledgeHouse$House" "ticketOn" "[I") (by decide +kernel)) rfl (v := .ref (a 4)) rfl dX3_endTicket_66 ?_
    refine lv_aload_n hx hb dX3_endTicket_69 rfl (lv_at hl 2 rfl) ?_
    refine va_get (D := D) (ci := 8) (v := .int ((upd ((sc_X0_writeGrowing nm v ((sc_X3_addRow Z RW rc).2) rc 14).1) 0 standing) 15)) (C := RX9) (T := TX9) (N := 19) hx hb hts hX9 hown hK.1 hP 0 rfl rfl 1 (by decide) (hts (.fieldLink RX3 212 "PledgeHouse$Ticket" "place" "I") (by decide +kernel)) (fun _ h9 => h9) rfl dX3_endTicket_70 ?_
    refine wtop (congrArg Value.int (show (upd ((sc_X0_writeGrowing nm v ((sc_X3_addRow Z RW rc).2) rc 14).1) 0 standing) 15 = ((sc_X0_writeGrowing nm v ((sc_X3_addRow Z RW rc).2) rc 14).1) 15 from (pk_un (by decide)))) ?_
    refine lv_iconst (v := 0) hx hb dX3_endTicket_73 (by decide) ?_
    refine hx_ost hx hb hK.1 hP (wTHB_D ib ia ik d s.heap.size) hS (tN (((sc_X0_writeGrowing nm v ((sc_X3_addRow Z RW rc).2) rc 14).1) 15)) (pl_of c_1).1 (pl_of c_1).2 dX3_endTicket_74 (fun H locs hP hS => ?_)
    refine lv_aload_n hx hb dX3_endTicket_75 rfl (lv_at hl 0 rfl) ?_
    have hsp : sc_X3_endTicket nm v Z RW rc standing = (upd ((sc_X0_writeGrowing nm v ((sc_X3_addRow Z RW rc).2) rc 14).1) 0 standing, gop (gpp ((sc_X3_addRow Z RW rc).1) (tN (((sc_X0_writeGrowing nm v ((sc_X3_addRow Z RW rc).2) rc 14).1) 15)) none) (tN (((sc_X0_writeGrowing nm v ((sc_X3_addRow Z RW rc).2) rc 14).1) 15)) 0, rwp (rwp (rwp ((sc_X0_writeGrowing nm v ((sc_X3_addRow Z RW rc).2) rc 14).2) rc 8 ((((sc_X0_writeGrowing nm v ((sc_X3_addRow Z RW rc).2) rc 14).2) rc 8) - ((((sc_X0_writeGrowing nm v ((sc_X3_addRow Z RW rc).2) rc 14).1) 1).toInt64))) rc 10 ((((sc_X0_writeGrowing nm v ((sc_X3_addRow Z RW rc).2) rc 14).2) rc 10) - 1)) rc 11 ((((sc_X0_writeGrowing nm v ((sc_X3_addRow Z RW rc).2) rc 14).2) rc 11) - 1)) := by unfold sc_X3_endTicket; rw [if_neg c_1]
    exact W.aret hx hb hr (Or.inr ⟨_, rfl⟩) (Or.inr ⟨_, rfl⟩) (fun t2 ht2 hW => by rw [hsp]; exact ⟨rfl, by rw [ht2]; exact hP, hS.F ht2⟩) hS.2.2 dX3_endTicket_76 hlocks
def sc_X3_giveBack (nm : Int32) (v : Nat → Int32) (Z : hZ) (RW : Nat → Nat → Int64) (rc : Nat) (half : Int32) (coins : Int32) : Int32 × (Nat → Int32) × (hZ) × (Nat → Nat → Int64) :=
  if (sc_X3_whyNotHolders nm v Z half) = 0 then
    if coins = (sc_X9_owed nm v) then
      (0, (sc_X3_endTicket nm (sc_X9_endOathBy nm v half) Z RW rc 1).1, (sc_X3_endTicket nm (sc_X9_endOathBy nm v half) Z RW rc 1).2.1, rwp (rwp ((sc_X3_endTicket nm (sc_X9_endOathBy nm v half) Z RW rc 1).2.2) rc 1 ((((sc_X3_endTicket nm (sc_X9_endOathBy nm v half) Z RW rc 1).2.2) rc 1) + ((((sc_X3_endTicket nm (sc_X9_endOathBy nm v half) Z RW rc 1).1) 2).toInt64))) rc 2 ((((sc_X3_endTicket nm (sc_X9_endOathBy nm v half) Z RW rc 1).2.2) rc 2) + ((((sc_X3_endTicket nm (sc_X9_endOathBy nm v half) Z RW rc 1).1) 1).toInt64)))
    else
      ((-6), v, Z, RW)
  else
    (sc_X3_whyNotHolders nm v Z half, v, Z, RW)
set_option maxHeartbeats 4000000 in
set_option maxRecDepth 100000 in
theorem cC_X3_giveBack (l : Launch) (D : va_G) (cs : Nat → ClassId) (b : Nat → Nat) (nm : Int32) (v : Nat → Int32) (k : Nat → Nat) (a : Nat → Nat) (Z : hZ) (r : Nat → Nat) (RW : Nat → Nat → Int64) (sz : Nat) (ib : iT b) (ia : iH a) (ik : iB k r) (d : dTHB b a k r) (rc : Nat) (half : Int32) (coins : Int32) (hrc : gh Z 2 = nI rc) (hrl : rc ≤ 511) : Met l yX3_giveBack wsX3_giveBack ({ frames := 4, cells := 0, slots := 0, locals := 90 }) (cPc [.ref (a 0), .ref (b 0), .int half, .int coins] D cs ((wT b nm v ++ wH a (k 0) cs Z) ++ wB k r cs RW) sz) (cQ D (some (.int (sc_X3_giveBack nm v Z RW rc half coins).1)) ((wT b nm ((sc_X3_giveBack nm v Z RW rc half coins).2.1) ++ wH a (k 0) cs ((sc_X3_giveBack nm v Z RW rc half coins).2.2.1)) ++ wB k r cs ((sc_X3_giveBack nm v Z RW rc half coins).2.2.2)) (adA (pOr (pOr (pT b) (pH a)) (pB k r)) sz)) 0 0 (adA (pOr (pOr (pT b) (pH a)) (pB k r)) sz) := by
  refine c_in (P := pOr (pOr (pT b) (pH a)) (pB k r)) (cc := cX3_giveBack) (maxL := 6) (ret := (some .int)) (lv := [(0, .ref (a 0)), (1, .ref (b 0)), (2, .int half), (3, .int coins)]) (by decide) rfl (Nat.le_of_ble_eq_true rfl) rfl ?_
  intro p e s m below meth c ls S hr hlocks hin hsz hP hK hl hS
  subst hsz
  obtain ⟨hx, hb, hml, hown, hts⟩ := id S
  have hX7 : ∀ w ∈ wsX70, w ∈ wsX3_giveBack := by decide +kernel
  have hX9 : ∀ w ∈ wsX90, w ∈ wsX3_giveBack := by decide +kernel
  refine lv_aload_n hx hb dX3_giveBack_0 rfl (lv_at hl 0 rfl) ?_
  refine lv_aload_n hx hb dX3_giveBack_1 rfl (lv_at hl 1 rfl) ?_
  refine lv_iload_n hx hb dX3_giveBack_2 rfl (lv_at hl 2 rfl) ?_
  refine c_rd S hK (show va_P D vwCl ((wT b nm v ++ wH a (k 0) cs Z) ++ []) _ from va_P.app (vaL hP) nilP) (va_recv hK.1 hP (ci := 3) (q0 := _ + 0) rfl (get3 rfl)) (As := [.ref (b 0), .int half]) (rest := []) (cC_X3_whyNotHolders l D cs b nm v k a Z _  half ) (cwV 2 hts gX3_giveBack_X3_whyNotHolders rfl rfl rfl (by decide +kernel) ⟨Nat.le_of_ble_eq_true rfl, Nat.le_of_ble_eq_true rfl⟩) rfl hl.1 rfl (Nat.le_of_ble_eq_true rfl) dX3_giveBack_3 ⟨Nat.zero_le _, Nat.zero_le _⟩ ?_
  refine lv_istore (lv' := [(4, .int (sc_X3_whyNotHolders nm v Z half)), (0, .ref (a 0)), (1, .ref (b 0)), (2, .int half), (3, .int coins)]) hx hb dX3_giveBack_6 hl (by decide) rfl (fun ls hl => ?_)
  refine lv_iload hx hb dX3_giveBack_8 (lv_at hl 0 rfl) ?_
  refine lv_if_eq (tgt := 16) hx hb dX3_giveBack_10 (by decide) (fun c_1 => ?_) (fun c_1 => ?_)
  · refine lv_iload_n hx hb dX3_giveBack_16 rfl (lv_at hl 4 rfl) ?_
    refine lv_aload_n hx hb dX3_giveBack_17 rfl (lv_at hl 2 rfl) ?_
    refine c_rd S hK (show va_P D vwCl (wT b nm v) _ from vaL (vaL hP)) (va_recv hK.1 hP (ci := 8) (q0 := 0) rfl rfl) (As := []) (rest := [.int coins]) (cC_X9_owed l D cs b nm v _   ) (cwV 0 hts gX3_giveBack_X9_owed rfl rfl rfl (by decide +kernel) ⟨Nat.le_of_ble_eq_true rfl, Nat.le_of_ble_eq_true rfl⟩) rfl hl.1 rfl (Nat.le_of_ble_eq_true rfl) dX3_giveBack_18 ⟨Nat.zero_le _, Nat.zero_le _⟩ ?_
    refine lv_icmp_eq (tgt := 27) hx hb dX3_giveBack_21 (by decide) (fun c_2 => ?_) (fun c_2 => ?_)
    · refine lv_aload_n hx hb dX3_giveBack_27 rfl (lv_at hl 2 rfl) ?_
      refine lv_iload_n hx hb dX3_giveBack_28 rfl (lv_at hl 3 rfl) ?_
      refine c_wr (WS' := (wT b nm (sc_X9_endOathBy nm v half) ++ wH a (k 0) cs Z) ++ wB k r cs RW) S hK (show va_P D vwCl (wT b nm v) _ from vaL (vaL hP)) (va_recv hK.1 hP (ci := 8) (q0 := 0) rfl rfl) hS (As := [.int half]) (rest := []) (cC_X9_endOathBy l D cs b nm v _ ib half ) (cwV 1 hts gX3_giveBack_X9_endOathBy rfl rfl rfl (by decide +kernel) ⟨Nat.le_of_ble_eq_true rfl, Nat.le_of_ble_eq_true rfl⟩) rfl hl.1 rfl (Nat.le_of_ble_eq_true rfl) dX3_giveBack_29 ⟨Nat.zero_le _, Nat.zero_le _⟩ (fun q h => adA_le hS.1 q (h.elim (fun t => Or.inl (Or.inl (Or.inl t))) Or.inr)) (fun H1 _ hk h => (va_P.app (va_P.app h (keepP (vaR (vaL hP)) wH_p (fun q h1 h2 => d.1 q h2 h1) hk)) (keepP (vaR hP) wB_p (fun q h1 h2 => d.2.1 q h2 h1) hk))) (fun H locs hP hS => ?_)
      refine lv_aload_n hx hb dX3_giveBack_32 rfl (lv_at hl 1 rfl) ?_
      refine lv_aload_n hx hb dX3_giveBack_33 rfl (lv_at hl 2 rfl) ?_
      refine lv_iconst (v := 1) hx hb dX3_giveBack_34 (by decide) ?_
      refine c_wr (WS' := (wT b nm ((sc_X3_endTicket nm (sc_X9_endOathBy nm v half) Z RW rc 1).1) ++ wH a (k 0) cs ((sc_X3_endTicket nm (sc_X9_endOathBy nm v half) Z RW rc 1).2.1)) ++ wB k r cs ((sc_X3_endTicket nm (sc_X9_endOathBy nm v half) Z RW rc 1).2.2)) S hK (hP) (va_recv hK.1 hP (ci := 3) (q0 := _ + 0) rfl (get3 rfl)) hS (As := [.ref (b 0), .int 1]) (rest := []) (cC_X3_endTicket l D cs b nm (sc_X9_endOathBy nm v half) k a Z r RW _ ib ia ik d rc 1 hrc hrl) (cwV 2 hts gX3_giveBack_X3_endTicket rfl rfl rfl (by decide +kernel) ⟨Nat.le_of_ble_eq_true rfl, Nat.le_of_ble_eq_true rfl⟩) rfl hl.1 rfl (Nat.le_of_ble_eq_true rfl) dX3_giveBack_35 ⟨Nat.zero_le _, Nat.zero_le _⟩ (adA_le hS.1) (fun _ _ _ h => h) (fun H locs hP hS => ?_)
      refine lv_astore (lv' := [(5, .ref (r rc)), (4, .int (sc_X3_whyNotHolders nm v Z half)), (0, .ref (a 0)), (1, .ref (b 0)), (2, .int half), (3, .int coins)]) hx hb dX3_giveBack_38 hl (by decide) rfl (fun ls hl => ?_)
      refine lv_aload hx hb dX3_giveBack_40 (lv_at hl 0 rfl) ?_
      refine lv_iconst (v := 1) hx hb dX3_giveBack_42 (by decide) ?_
      refine lv_dup2_11 hx hb dX3_giveBack_43 rfl rfl ?_
      refine b_lald hx hb hK.1 hP rc 1 (Nat.lt_of_le_of_lt hrl (by decide)) rfl (by decide) (v := ((sc_X3_endTicket nm (sc_X9_endOathBy nm v half) Z RW rc 1).2.2) rc 1) rfl dX3_giveBack_44 ?_
      refine lv_aload_n hx hb dX3_giveBack_45 rfl (lv_at hl 3 rfl) ?_
      refine va_get (D := D) (ci := 8) (v := .ref (b 1)) (C := RX9) (T := TX9) (N := 19) hx hb hts hX9 hown hK.1 hP 0 rfl rfl 6 (by decide) (hts (.fieldLink RX3 77 "PledgeHouse$Ticket" "term" "LPledgeHouse$Term;") (by decide +kernel)) (fun _ h9 => h9) rfl dX3_giveBack_46 ?_
      refine va_get (D := D) (ci := 6) (v := .int (((sc_X3_endTicket nm (sc_X9_endOathBy nm v half) Z RW rc 1).1) 2)) (C := RX7) (T := TX7) (N := 6) hx hb hts hX7 hown hK.1 hP 1 rfl rfl 4 (by decide) (hts (.fieldLink RX3 261 "PledgeHouse$Term" "interest" "I") (by decide +kernel)) (fun _ h9 => h9) rfl dX3_giveBack_49 ?_
      refine lv_i2l (v := (((sc_X3_endTicket nm (sc_X9_endOathBy nm v half) Z RW rc 1).1) 2).toInt64) hx hb dX3_giveBack_52 rfl ?_
      refine lv_ladd hx hb dX3_giveBack_53 ?_
      refine b_last hx hb hK.1 hP (wTHB_D ib ia ik d s.heap.size) hS rc 1 (Nat.lt_of_le_of_lt hrl (by decide)) rfl (by decide) dX3_giveBack_54 (fun H locs hP hS => ?_)
      refine lv_aload hx hb dX3_giveBack_55 (lv_at hl 0 rfl) ?_
      refine lv_iconst (v := 2) hx hb dX3_giveBack_57 (by decide) ?_
      refine lv_dup2_11 hx hb dX3_giveBack_58 rfl rfl ?_
      refine b_lald hx hb hK.1 hP rc 2 (Nat.lt_of_le_of_lt hrl (by decide)) rfl (by decide) (v := ((sc_X3_endTicket nm (sc_X9_endOathBy nm v half) Z RW rc 1).2.2) rc 2) (rwp_ne (by decide)) dX3_giveBack_59 ?_
      refine lv_aload_n hx hb dX3_giveBack_60 rfl (lv_at hl 3 rfl) ?_
      refine va_get (D := D) (ci := 8) (v := .int (((sc_X3_endTicket nm (sc_X9_endOathBy nm v half) Z RW rc 1).1) 1)) (C := RX9) (T := TX9) (N := 19) hx hb hts hX9 hown hK.1 hP 0 rfl rfl 4 (by decide) (hts (.fieldLink RX3 81 "PledgeHouse$Ticket" "principal" "I") (by decide +kernel)) (fun _ h9 => h9) rfl dX3_giveBack_61 ?_
      refine lv_i2l (v := (((sc_X3_endTicket nm (sc_X9_endOathBy nm v half) Z RW rc 1).1) 1).toInt64) hx hb dX3_giveBack_64 rfl ?_
      refine lv_ladd hx hb dX3_giveBack_65 ?_
      refine b_last hx hb hK.1 hP (wTHB_D ib ia ik d s.heap.size) hS rc 2 (Nat.lt_of_le_of_lt hrl (by decide)) rfl (by decide) dX3_giveBack_66 (fun H locs hP hS => ?_)
      refine lv_iconst (v := 0) hx hb dX3_giveBack_67 (by decide) ?_
      have hsp : sc_X3_giveBack nm v Z RW rc half coins = (0, (sc_X3_endTicket nm (sc_X9_endOathBy nm v half) Z RW rc 1).1, (sc_X3_endTicket nm (sc_X9_endOathBy nm v half) Z RW rc 1).2.1, rwp (rwp ((sc_X3_endTicket nm (sc_X9_endOathBy nm v half) Z RW rc 1).2.2) rc 1 ((((sc_X3_endTicket nm (sc_X9_endOathBy nm v half) Z RW rc 1).2.2) rc 1) + ((((sc_X3_endTicket nm (sc_X9_endOathBy nm v half) Z RW rc 1).1) 2).toInt64))) rc 2 ((((sc_X3_endTicket nm (sc_X9_endOathBy nm v half) Z RW rc 1).2.2) rc 2) + ((((sc_X3_endTicket nm (sc_X9_endOathBy nm v half) Z RW rc 1).1) 1).toInt64))) := by unfold sc_X3_giveBack; rw [if_pos c_1, if_pos c_2]
      exact W.iret hx hb hr (fun t2 ht2 hW => by rw [hsp]; exact ⟨rfl, by rw [ht2]; exact hP, hS.F ht2⟩) hS.2.2 dX3_giveBack_68 hlocks
    · refine lv_bipush (v := (-6)) hx hb dX3_giveBack_24 (by decide) ?_
      have hsp : sc_X3_giveBack nm v Z RW rc half coins = ((-6), v, Z, RW) := by unfold sc_X3_giveBack; rw [if_pos c_1, if_neg c_2]
      exact W.iret hx hb hr (fun t2 ht2 hW => by rw [hsp]; exact ⟨rfl, by rw [ht2]; exact hP, hS.F ht2⟩) hS.2.2 dX3_giveBack_26 hlocks
  · refine lv_iload hx hb dX3_giveBack_13 (lv_at hl 0 rfl) ?_
    have hsp : sc_X3_giveBack nm v Z RW rc half coins = (sc_X3_whyNotHolders nm v Z half, v, Z, RW) := by unfold sc_X3_giveBack; rw [if_neg c_1]
    exact W.iret hx hb hr (fun t2 ht2 hW => by rw [hsp]; exact ⟨rfl, by rw [ht2]; exact hP, hS.F ht2⟩) hS.2.2 dX3_giveBack_15 hlocks
def sc_X3_sellPledge (nm : Int32) (v : Nat → Int32) (Z : hZ) (RW : Nat → Nat → Int64) (rc : Nat) : Int32 × (Nat → Int32) × (hZ) × (Nat → Nat → Int64) :=
  if (sc_X9_isForSale nm v) = 0 then
    ((-2), v, Z, RW)
  else
    if (v 11) = 0 then
      ((-2), v, Z, RW)
    else
      if (sc_X9_isClaimed nm v) = 0 then
        (((sc_X3_endTicket nm (upd (upd (upd v 12 ((((v 10) - (sc_X11_cutUp (v 10) (gr Z 1))) - (if (v 2) < ((v 10) - (sc_X11_cutUp (v 10) (gr Z 1))) then (v 2) else ((v 10) - (sc_X11_cutUp (v 10) (gr Z 1))))) - (if (v 1) < (((v 10) - (sc_X11_cutUp (v 10) (gr Z 1))) - (if (v 2) < ((v 10) - (sc_X11_cutUp (v 10) (gr Z 1))) then (v 2) else ((v 10) - (sc_X11_cutUp (v 10) (gr Z 1))))) then (v 1) else (((v 10) - (sc_X11_cutUp (v 10) (gr Z 1))) - (if (v 2) < ((v 10) - (sc_X11_cutUp (v 10) (gr Z 1))) then (v 2) else ((v 10) - (sc_X11_cutUp (v 10) (gr Z 1)))))))) 30 (gh Z 0)) 14 ((gh Z 0) + (gr Z 2))) Z RW rc 2).1) 10, (sc_X3_endTicket nm (upd (upd (upd v 12 ((((v 10) - (sc_X11_cutUp (v 10) (gr Z 1))) - (if (v 2) < ((v 10) - (sc_X11_cutUp (v 10) (gr Z 1))) then (v 2) else ((v 10) - (sc_X11_cutUp (v 10) (gr Z 1))))) - (if (v 1) < (((v 10) - (sc_X11_cutUp (v 10) (gr Z 1))) - (if (v 2) < ((v 10) - (sc_X11_cutUp (v 10) (gr Z 1))) then (v 2) else ((v 10) - (sc_X11_cutUp (v 10) (gr Z 1))))) then (v 1) else (((v 10) - (sc_X11_cutUp (v 10) (gr Z 1))) - (if (v 2) < ((v 10) - (sc_X11_cutUp (v 10) (gr Z 1))) then (v 2) else ((v 10) - (sc_X11_cutUp (v 10) (gr Z 1)))))))) 30 (gh Z 0)) 14 ((gh Z 0) + (gr Z 2))) Z RW rc 2).1, (sc_X3_endTicket nm (upd (upd (upd v 12 ((((v 10) - (sc_X11_cutUp (v 10) (gr Z 1))) - (if (v 2) < ((v 10) - (sc_X11_cutUp (v 10) (gr Z 1))) then (v 2) else ((v 10) - (sc_X11_cutUp (v 10) (gr Z 1))))) - (if (v 1) < (((v 10) - (sc_X11_cutUp (v 10) (gr Z 1))) - (if (v 2) < ((v 10) - (sc_X11_cutUp (v 10) (gr Z 1))) then (v 2) else ((v 10) - (sc_X11_cutUp (v 10) (gr Z 1))))) then (v 1) else (((v 10) - (sc_X11_cutUp (v 10) (gr Z 1))) - (if (v 2) < ((v 10) - (sc_X11_cutUp (v 10) (gr Z 1))) then (v 2) else ((v 10) - (sc_X11_cutUp (v 10) (gr Z 1)))))))) 30 (gh Z 0)) 14 ((gh Z 0) + (gr Z 2))) Z RW rc 2).2.1, rwp (rwp (rwp (rwp (rwp ((sc_X3_endTicket nm (upd (upd (upd v 12 ((((v 10) - (sc_X11_cutUp (v 10) (gr Z 1))) - (if (v 2) < ((v 10) - (sc_X11_cutUp (v 10) (gr Z 1))) then (v 2) else ((v 10) - (sc_X11_cutUp (v 10) (gr Z 1))))) - (if (v 1) < (((v 10) - (sc_X11_cutUp (v 10) (gr Z 1))) - (if (v 2) < ((v 10) - (sc_X11_cutUp (v 10) (gr Z 1))) then (v 2) else ((v 10) - (sc_X11_cutUp (v 10) (gr Z 1))))) then (v 1) else (((v 10) - (sc_X11_cutUp (v 10) (gr Z 1))) - (if (v 2) < ((v 10) - (sc_X11_cutUp (v 10) (gr Z 1))) then (v 2) else ((v 10) - (sc_X11_cutUp (v 10) (gr Z 1)))))))) 30 (gh Z 0)) 14 ((gh Z 0) + (gr Z 2))) Z RW rc 2).2.2) rc 3 ((((sc_X3_endTicket nm (upd (upd (upd v 12 ((((v 10) - (sc_X11_cutUp (v 10) (gr Z 1))) - (if (v 2) < ((v 10) - (sc_X11_cutUp (v 10) (gr Z 1))) then (v 2) else ((v 10) - (sc_X11_cutUp (v 10) (gr Z 1))))) - (if (v 1) < (((v 10) - (sc_X11_cutUp (v 10) (gr Z 1))) - (if (v 2) < ((v 10) - (sc_X11_cutUp (v 10) (gr Z 1))) then (v 2) else ((v 10) - (sc_X11_cutUp (v 10) (gr Z 1))))) then (v 1) else (((v 10) - (sc_X11_cutUp (v 10) (gr Z 1))) - (if (v 2) < ((v 10) - (sc_X11_cutUp (v 10) (gr Z 1))) then (v 2) else ((v 10) - (sc_X11_cutUp (v 10) (gr Z 1)))))))) 30 (gh Z 0)) 14 ((gh Z 0) + (gr Z 2))) Z RW rc 2).2.2) rc 3) + ((sc_X11_cutUp (v 10) (gr Z 1)).toInt64))) rc 1 ((((sc_X3_endTicket nm (upd (upd (upd v 12 ((((v 10) - (sc_X11_cutUp (v 10) (gr Z 1))) - (if (v 2) < ((v 10) - (sc_X11_cutUp (v 10) (gr Z 1))) then (v 2) else ((v 10) - (sc_X11_cutUp (v 10) (gr Z 1))))) - (if (v 1) < (((v 10) - (sc_X11_cutUp (v 10) (gr Z 1))) - (if (v 2) < ((v 10) - (sc_X11_cutUp (v 10) (gr Z 1))) then (v 2) else ((v 10) - (sc_X11_cutUp (v 10) (gr Z 1))))) then (v 1) else (((v 10) - (sc_X11_cutUp (v 10) (gr Z 1))) - (if (v 2) < ((v 10) - (sc_X11_cutUp (v 10) (gr Z 1))) then (v 2) else ((v 10) - (sc_X11_cutUp (v 10) (gr Z 1)))))))) 30 (gh Z 0)) 14 ((gh Z 0) + (gr Z 2))) Z RW rc 2).2.2) rc 1) + ((if (v 2) < ((v 10) - (sc_X11_cutUp (v 10) (gr Z 1))) then (v 2) else ((v 10) - (sc_X11_cutUp (v 10) (gr Z 1)))).toInt64))) rc 2 ((((sc_X3_endTicket nm (upd (upd (upd v 12 ((((v 10) - (sc_X11_cutUp (v 10) (gr Z 1))) - (if (v 2) < ((v 10) - (sc_X11_cutUp (v 10) (gr Z 1))) then (v 2) else ((v 10) - (sc_X11_cutUp (v 10) (gr Z 1))))) - (if (v 1) < (((v 10) - (sc_X11_cutUp (v 10) (gr Z 1))) - (if (v 2) < ((v 10) - (sc_X11_cutUp (v 10) (gr Z 1))) then (v 2) else ((v 10) - (sc_X11_cutUp (v 10) (gr Z 1))))) then (v 1) else (((v 10) - (sc_X11_cutUp (v 10) (gr Z 1))) - (if (v 2) < ((v 10) - (sc_X11_cutUp (v 10) (gr Z 1))) then (v 2) else ((v 10) - (sc_X11_cutUp (v 10) (gr Z 1)))))))) 30 (gh Z 0)) 14 ((gh Z 0) + (gr Z 2))) Z RW rc 2).2.2) rc 2) + ((if (v 1) < (((v 10) - (sc_X11_cutUp (v 10) (gr Z 1))) - (if (v 2) < ((v 10) - (sc_X11_cutUp (v 10) (gr Z 1))) then (v 2) else ((v 10) - (sc_X11_cutUp (v 10) (gr Z 1))))) then (v 1) else (((v 10) - (sc_X11_cutUp (v 10) (gr Z 1))) - (if (v 2) < ((v 10) - (sc_X11_cutUp (v 10) (gr Z 1))) then (v 2) else ((v 10) - (sc_X11_cutUp (v 10) (gr Z 1)))))).toInt64))) rc 7 ((((sc_X3_endTicket nm (upd (upd (upd v 12 ((((v 10) - (sc_X11_cutUp (v 10) (gr Z 1))) - (if (v 2) < ((v 10) - (sc_X11_cutUp (v 10) (gr Z 1))) then (v 2) else ((v 10) - (sc_X11_cutUp (v 10) (gr Z 1))))) - (if (v 1) < (((v 10) - (sc_X11_cutUp (v 10) (gr Z 1))) - (if (v 2) < ((v 10) - (sc_X11_cutUp (v 10) (gr Z 1))) then (v 2) else ((v 10) - (sc_X11_cutUp (v 10) (gr Z 1))))) then (v 1) else (((v 10) - (sc_X11_cutUp (v 10) (gr Z 1))) - (if (v 2) < ((v 10) - (sc_X11_cutUp (v 10) (gr Z 1))) then (v 2) else ((v 10) - (sc_X11_cutUp (v 10) (gr Z 1)))))))) 30 (gh Z 0)) 14 ((gh Z 0) + (gr Z 2))) Z RW rc 2).2.2) rc 7) + ((((sc_X9_owed nm ((sc_X3_endTicket nm (upd (upd (upd v 12 ((((v 10) - (sc_X11_cutUp (v 10) (gr Z 1))) - (if (v 2) < ((v 10) - (sc_X11_cutUp (v 10) (gr Z 1))) then (v 2) else ((v 10) - (sc_X11_cutUp (v 10) (gr Z 1))))) - (if (v 1) < (((v 10) - (sc_X11_cutUp (v 10) (gr Z 1))) - (if (v 2) < ((v 10) - (sc_X11_cutUp (v 10) (gr Z 1))) then (v 2) else ((v 10) - (sc_X11_cutUp (v 10) (gr Z 1))))) then (v 1) else (((v 10) - (sc_X11_cutUp (v 10) (gr Z 1))) - (if (v 2) < ((v 10) - (sc_X11_cutUp (v 10) (gr Z 1))) then (v 2) else ((v 10) - (sc_X11_cutUp (v 10) (gr Z 1)))))))) 30 (gh Z 0)) 14 ((gh Z 0) + (gr Z 2))) Z RW rc 2).1)) - (if (v 2) < ((v 10) - (sc_X11_cutUp (v 10) (gr Z 1))) then (v 2) else ((v 10) - (sc_X11_cutUp (v 10) (gr Z 1))))) - (if (v 1) < (((v 10) - (sc_X11_cutUp (v 10) (gr Z 1))) - (if (v 2) < ((v 10) - (sc_X11_cutUp (v 10) (gr Z 1))) then (v 2) else ((v 10) - (sc_X11_cutUp (v 10) (gr Z 1))))) then (v 1) else (((v 10) - (sc_X11_cutUp (v 10) (gr Z 1))) - (if (v 2) < ((v 10) - (sc_X11_cutUp (v 10) (gr Z 1))) then (v 2) else ((v 10) - (sc_X11_cutUp (v 10) (gr Z 1))))))).toInt64))) rc 13 ((((sc_X3_endTicket nm (upd (upd (upd v 12 ((((v 10) - (sc_X11_cutUp (v 10) (gr Z 1))) - (if (v 2) < ((v 10) - (sc_X11_cutUp (v 10) (gr Z 1))) then (v 2) else ((v 10) - (sc_X11_cutUp (v 10) (gr Z 1))))) - (if (v 1) < (((v 10) - (sc_X11_cutUp (v 10) (gr Z 1))) - (if (v 2) < ((v 10) - (sc_X11_cutUp (v 10) (gr Z 1))) then (v 2) else ((v 10) - (sc_X11_cutUp (v 10) (gr Z 1))))) then (v 1) else (((v 10) - (sc_X11_cutUp (v 10) (gr Z 1))) - (if (v 2) < ((v 10) - (sc_X11_cutUp (v 10) (gr Z 1))) then (v 2) else ((v 10) - (sc_X11_cutUp (v 10) (gr Z 1)))))))) 30 (gh Z 0)) 14 ((gh Z 0) + (gr Z 2))) Z RW rc 2).2.2) rc 13) + (((((sc_X3_endTicket nm (upd (upd (upd v 12 ((((v 10) - (sc_X11_cutUp (v 10) (gr Z 1))) - (if (v 2) < ((v 10) - (sc_X11_cutUp (v 10) (gr Z 1))) then (v 2) else ((v 10) - (sc_X11_cutUp (v 10) (gr Z 1))))) - (if (v 1) < (((v 10) - (sc_X11_cutUp (v 10) (gr Z 1))) - (if (v 2) < ((v 10) - (sc_X11_cutUp (v 10) (gr Z 1))) then (v 2) else ((v 10) - (sc_X11_cutUp (v 10) (gr Z 1))))) then (v 1) else (((v 10) - (sc_X11_cutUp (v 10) (gr Z 1))) - (if (v 2) < ((v 10) - (sc_X11_cutUp (v 10) (gr Z 1))) then (v 2) else ((v 10) - (sc_X11_cutUp (v 10) (gr Z 1)))))))) 30 (gh Z 0)) 14 ((gh Z 0) + (gr Z 2))) Z RW rc 2).1) 1) - (if (v 1) < (((v 10) - (sc_X11_cutUp (v 10) (gr Z 1))) - (if (v 2) < ((v 10) - (sc_X11_cutUp (v 10) (gr Z 1))) then (v 2) else ((v 10) - (sc_X11_cutUp (v 10) (gr Z 1))))) then (v 1) else (((v 10) - (sc_X11_cutUp (v 10) (gr Z 1))) - (if (v 2) < ((v 10) - (sc_X11_cutUp (v 10) (gr Z 1))) then (v 2) else ((v 10) - (sc_X11_cutUp (v 10) (gr Z 1))))))).toInt64)))
      else
        ((-3), v, Z, RW)
set_option maxHeartbeats 4000000 in
set_option maxRecDepth 100000 in
theorem cC_X3_sellPledge (l : Launch) (D : va_G) (cs : Nat → ClassId) (b : Nat → Nat) (nm : Int32) (v : Nat → Int32) (k : Nat → Nat) (a : Nat → Nat) (Z : hZ) (r : Nat → Nat) (RW : Nat → Nat → Int64) (sz : Nat) (ib : iT b) (ia : iH a) (ik : iB k r) (d : dTHB b a k r) (rc : Nat) (hrc : gh Z 2 = nI rc) (hrl : rc ≤ 511) : Met l yX3_sellPledge wsX3_sellPledge ({ frames := 4, cells := 0, slots := 0, locals := 90 }) (cPc [.ref (a 0), .ref (b 0)] D cs ((wT b nm v ++ wH a (k 0) cs Z) ++ wB k r cs RW) sz) (cQ D (some (.int (sc_X3_sellPledge nm v Z RW rc).1)) ((wT b nm ((sc_X3_sellPledge nm v Z RW rc).2.1) ++ wH a (k 0) cs ((sc_X3_sellPledge nm v Z RW rc).2.2.1)) ++ wB k r cs ((sc_X3_sellPledge nm v Z RW rc).2.2.2)) (adA (pOr (pOr (pT b) (pH a)) (pB k r)) sz)) 0 0 (adA (pOr (pOr (pT b) (pH a)) (pB k r)) sz) := by
  refine c_in (P := pOr (pOr (pT b) (pH a)) (pB k r)) (cc := cX3_sellPledge) (maxL := 7) (ret := (some .int)) (lv := [(0, .ref (a 0)), (1, .ref (b 0))]) (by decide) rfl (Nat.le_of_ble_eq_true rfl) rfl ?_
  intro p e s m below meth c ls S hr hlocks hin hsz hP hK hl hS
  subst hsz
  obtain ⟨hx, hb, hml, hown, hts⟩ := id S
  have hX3 : ∀ w ∈ wsX30, w ∈ wsX3_sellPledge := by decide +kernel
  have hX7 : ∀ w ∈ wsX70, w ∈ wsX3_sellPledge := by decide +kernel
  have hX9 : ∀ w ∈ wsX90, w ∈ wsX3_sellPledge := by decide +kernel
  refine lv_aload_n hx hb dX3_sellPledge_0 rfl (lv_at hl 1 rfl) ?_
  refine lv_ifnonnull (tgt := 6) hx hb dX3_sellPledge_1 (by decide) ?_
  refine lv_aload_n hx hb dX3_sellPledge_6 rfl (lv_at hl 1 rfl) ?_
  refine c_rd S hK (show va_P D vwCl (wT b nm v) _ from vaL (vaL hP)) (va_recv hK.1 hP (ci := 8) (q0 := 0) rfl rfl) (As := []) (rest := []) (cC_X9_isForSale l D cs b nm v _   ) (cwV 0 hts gX3_sellPledge_X9_isForSale rfl rfl rfl (by decide +kernel) ⟨Nat.le_of_ble_eq_true rfl, Nat.le_of_ble_eq_true rfl⟩) rfl hl.1 rfl (Nat.le_of_ble_eq_true rfl) dX3_sellPledge_7 ⟨Nat.zero_le _, Nat.zero_le _⟩ ?_
  refine lv_if_eq (tgt := 20) hx hb dX3_sellPledge_10 (by decide) (fun c_1 => ?_) (fun c_1 => ?_)
  · refine lv_bipush (v := (-2)) hx hb dX3_sellPledge_20 (by decide) ?_
    have hsp : sc_X3_sellPledge nm v Z RW rc = ((-2), v, Z, RW) := by unfold sc_X3_sellPledge; rw [if_pos c_1]
    exact W.iret hx hb hr (fun t2 ht2 hW => by rw [hsp]; exact ⟨rfl, by rw [ht2]; exact hP, hS.F ht2⟩) hS.2.2 dX3_sellPledge_22 hlocks
  · refine lv_aload_n hx hb dX3_sellPledge_13 rfl (lv_at hl 1 rfl) ?_
    refine va_get (D := D) (ci := 8) (v := .int (v 11)) (C := RX9) (T := TX9) (N := 19) hx hb hts hX9 hown hK.1 hP 0 rfl rfl 13 (by decide) (hts (.fieldLink RX3 322 "PledgeHouse$Ticket" "bids" "I") (by decide +kernel)) (fun _ h9 => h9) rfl dX3_sellPledge_14 ?_
    refine lv_if_ne (tgt := 23) hx hb dX3_sellPledge_17 (by decide) (fun c_2 => ?_) (fun c_2 => ?_)
    · refine lv_aload_n hx hb dX3_sellPledge_23 rfl (lv_at hl 1 rfl) ?_
      refine c_rd S hK (show va_P D vwCl (wT b nm v) _ from vaL (vaL hP)) (va_recv hK.1 hP (ci := 8) (q0 := 0) rfl rfl) (As := []) (rest := []) (cC_X9_isClaimed l D cs b nm v _   ) (cwV 0 hts gX3_sellPledge_X9_isClaimed rfl rfl rfl (by decide +kernel) ⟨Nat.le_of_ble_eq_true rfl, Nat.le_of_ble_eq_true rfl⟩) rfl hl.1 rfl (Nat.le_of_ble_eq_true rfl) dX3_sellPledge_24 ⟨Nat.zero_le _, Nat.zero_le _⟩ ?_
      refine lv_if_eq (tgt := 33) hx hb dX3_sellPledge_27 (by decide) (fun c_3 => ?_) (fun c_3 => ?_)
      · refine lv_aload_n hx hb dX3_sellPledge_33 rfl (lv_at hl 1 rfl) ?_
        refine va_get (D := D) (ci := 8) (v := .int (v 10)) (C := RX9) (T := TX9) (N := 19) hx hb hts hX9 hown hK.1 hP 0 rfl rfl 14 (by decide) (hts (.fieldLink RX3 325 "PledgeHouse$Ticket" "highestBid" "I") (by decide +kernel)) (fun _ h9 => h9) rfl dX3_sellPledge_34 ?_
        refine lv_aload_n hx hb dX3_sellPledge_37 rfl (lv_at hl 0 rfl) ?_
        refine hx_get hx hb hts hX3 hown hK.1 hP 3 (by decide) (hts (.fieldLink RX3 18 "PledgeHouse$House" "rules" "[I") (by decide +kernel)) rfl (v := .ref (a 1)) rfl dX3_sellPledge_38 ?_
        refine lv_iconst (v := 1) hx hb dX3_sellPledge_41 (by decide) ?_
        refine hx_rld hx hb hK.1 hP 1 rfl (by decide) (v := gr Z 1) rfl dX3_sellPledge_42 ?_
        refine c_stN S (As := [.int (v 10), .int (gr Z 1)]) (rest := []) (cC_X11_cutUp l (v 10) (gr Z 1)) ⟨va_cnB (host := "PledgeHouse") 2 hts gX3_sellPledge_X11_cutUp_n331 rfl rfl rfl (hK.2.2.1 _ (by decide +kernel)) (hts (.initialized RX11) (by decide +kernel)) (by decide +kernel) ⟨Nat.le_of_ble_eq_true rfl, Nat.le_of_ble_eq_true rfl⟩, hts (.static yX11_cutUp) (by decide +kernel), trivial⟩ rfl hl.1 rfl (Nat.le_of_ble_eq_true rfl) dX3_sellPledge_43 ⟨Nat.zero_le _, Nat.zero_le _⟩ ?_
        refine lv_istore_n (lv' := [(2, .int (sc_X11_cutUp (v 10) (gr Z 1))), (0, .ref (a 0)), (1, .ref (b 0))]) hx hb dX3_sellPledge_46 rfl hl (by decide) rfl (fun ls hl => ?_)
        refine lv_aload_n hx hb dX3_sellPledge_47 rfl (lv_at hl 2 rfl) ?_
        refine va_get (D := D) (ci := 8) (v := .int (v 10)) (C := RX9) (T := TX9) (N := 19) hx hb hts hX9 hown hK.1 hP 0 rfl rfl 14 (by decide) (hts (.fieldLink RX3 325 "PledgeHouse$Ticket" "highestBid" "I") (by decide +kernel)) (fun _ h9 => h9) rfl dX3_sellPledge_48 ?_
        refine lv_iload_n hx hb dX3_sellPledge_51 rfl (lv_at hl 0 rfl) ?_
        refine lv_isub hx hb dX3_sellPledge_52 ?_
        refine lv_istore_n (lv' := [(3, .int ((v 10) - (sc_X11_cutUp (v 10) (gr Z 1)))), (2, .int (sc_X11_cutUp (v 10) (gr Z 1))), (0, .ref (a 0)), (1, .ref (b 0))]) hx hb dX3_sellPledge_53 rfl hl (by decide) rfl (fun ls hl => ?_)
        refine lv_iload_n hx hb dX3_sellPledge_54 rfl (lv_at hl 0 rfl) ?_
        refine lv_aload_n hx hb dX3_sellPledge_55 rfl (lv_at hl 3 rfl) ?_
        refine va_get (D := D) (ci := 8) (v := .ref (b 1)) (C := RX9) (T := TX9) (N := 19) hx hb hts hX9 hown hK.1 hP 0 rfl rfl 6 (by decide) (hts (.fieldLink RX3 77 "PledgeHouse$Ticket" "term" "LPledgeHouse$Term;") (by decide +kernel)) (fun _ h9 => h9) rfl dX3_sellPledge_56 ?_
        refine va_get (D := D) (ci := 6) (v := .int (v 2)) (C := RX7) (T := TX7) (N := 6) hx hb hts hX7 hown hK.1 hP 1 rfl rfl 4 (by decide) (hts (.fieldLink RX3 261 "PledgeHouse$Term" "interest" "I") (by decide +kernel)) (fun _ h9 => h9) rfl dX3_sellPledge_59 ?_
        refine va_mmin hx hb (hml.trans hl.1.symm) hown (hts (.methodLink RX3 264 Lib.Math.min.name) (by decide +kernel)) (hts (.static Lib.Math.min.name) (by decide +kernel)) (hts (.initialized "java/lang/Math") (by decide +kernel)) (hts (.code Lib.Math.min.name Lib.Math.min.code 2 (some .int)) (by decide +kernel)) (Nat.le_of_ble_eq_true rfl) (Nat.le_of_ble_eq_true rfl) (Nat.zero_le _) (Nat.zero_le _) dX3_sellPledge_62 ?_
        refine lv_istore (lv' := [(4, .int (if (v 2) < ((v 10) - (sc_X11_cutUp (v 10) (gr Z 1))) then (v 2) else ((v 10) - (sc_X11_cutUp (v 10) (gr Z 1))))), (3, .int ((v 10) - (sc_X11_cutUp (v 10) (gr Z 1)))), (2, .int (sc_X11_cutUp (v 10) (gr Z 1))), (0, .ref (a 0)), (1, .ref (b 0))]) hx hb dX3_sellPledge_65 hl (by decide) rfl (fun ls hl => ?_)
        refine lv_iload_n hx hb dX3_sellPledge_67 rfl (lv_at hl 1 rfl) ?_
        refine lv_iload hx hb dX3_sellPledge_68 (lv_at hl 0 rfl) ?_
        refine lv_isub hx hb dX3_sellPledge_70 ?_
        refine lv_aload_n hx hb dX3_sellPledge_71 rfl (lv_at hl 4 rfl) ?_
        refine va_get (D := D) (ci := 8) (v := .int (v 1)) (C := RX9) (T := TX9) (N := 19) hx hb hts hX9 hown hK.1 hP 0 rfl rfl 4 (by decide) (hts (.fieldLink RX3 81 "PledgeHouse$Ticket" "principal" "I") (by decide +kernel)) (fun _ h9 => h9) rfl dX3_sellPledge_72 ?_
        refine va_mmin hx hb (hml.trans hl.1.symm) hown (hts (.methodLink RX3 264 Lib.Math.min.name) (by decide +kernel)) (hts (.static Lib.Math.min.name) (by decide +kernel)) (hts (.initialized "java/lang/Math") (by decide +kernel)) (hts (.code Lib.Math.min.name Lib.Math.min.code 2 (some .int)) (by decide +kernel)) (Nat.le_of_ble_eq_true rfl) (Nat.le_of_ble_eq_true rfl) (Nat.zero_le _) (Nat.zero_le _) dX3_sellPledge_75 ?_
        refine lv_istore (lv' := [(5, .int (if (v 1) < (((v 10) - (sc_X11_cutUp (v 10) (gr Z 1))) - (if (v 2) < ((v 10) - (sc_X11_cutUp (v 10) (gr Z 1))) then (v 2) else ((v 10) - (sc_X11_cutUp (v 10) (gr Z 1))))) then (v 1) else (((v 10) - (sc_X11_cutUp (v 10) (gr Z 1))) - (if (v 2) < ((v 10) - (sc_X11_cutUp (v 10) (gr Z 1))) then (v 2) else ((v 10) - (sc_X11_cutUp (v 10) (gr Z 1))))))), (4, .int (if (v 2) < ((v 10) - (sc_X11_cutUp (v 10) (gr Z 1))) then (v 2) else ((v 10) - (sc_X11_cutUp (v 10) (gr Z 1))))), (3, .int ((v 10) - (sc_X11_cutUp (v 10) (gr Z 1)))), (2, .int (sc_X11_cutUp (v 10) (gr Z 1))), (0, .ref (a 0)), (1, .ref (b 0))]) hx hb dX3_sellPledge_78 hl (by decide) rfl (fun ls hl => ?_)
        refine lv_aload_n hx hb dX3_sellPledge_80 rfl (lv_at hl 5 rfl) ?_
        refine lv_iload_n hx hb dX3_sellPledge_81 rfl (lv_at hl 2 rfl) ?_
        refine lv_iload hx hb dX3_sellPledge_82 (lv_at hl 1 rfl) ?_
        refine lv_isub hx hb dX3_sellPledge_84 ?_
        refine lv_iload hx hb dX3_sellPledge_85 (lv_at hl 0 rfl) ?_
        refine lv_isub hx hb dX3_sellPledge_87 ?_
        refine va_put (D := D) (ci := 8) (v := .int ((((v 10) - (sc_X11_cutUp (v 10) (gr Z 1))) - (if (v 2) < ((v 10) - (sc_X11_cutUp (v 10) (gr Z 1))) then (v 2) else ((v 10) - (sc_X11_cutUp (v 10) (gr Z 1))))) - (if (v 1) < (((v 10) - (sc_X11_cutUp (v 10) (gr Z 1))) - (if (v 2) < ((v 10) - (sc_X11_cutUp (v 10) (gr Z 1))) then (v 2) else ((v 10) - (sc_X11_cutUp (v 10) (gr Z 1))))) then (v 1) else (((v 10) - (sc_X11_cutUp (v 10) (gr Z 1))) - (if (v 2) < ((v 10) - (sc_X11_cutUp (v 10) (gr Z 1))) then (v 2) else ((v 10) - (sc_X11_cutUp (v 10) (gr Z 1)))))))) (ty := .int) (C := RX9) (T := TX9) (N := 19) hx hb hts hX9 tyX9 tyX9_ok nmX9 hown hK.1 hP (wTHB_D ib ia ik d s.heap.size) hS 0 rfl rfl 15 (by decide) (hts (.fieldLink RX3 334 "PledgeHouse$Ticket" "over" "I") (by decide +kernel)) (fun _ h9 => h9) rfl (by decide +kernel) rfl rfl (Nat.le_of_ble_eq_true rfl) dX3_sellPledge_88 (fun H locs hP _ hS => ?_)
        have hP : va_P D vwCl ((wT b nm (upd v 12 ((((v 10) - (sc_X11_cutUp (v 10) (gr Z 1))) - (if (v 2) < ((v 10) - (sc_X11_cutUp (v 10) (gr Z 1))) then (v 2) else ((v 10) - (sc_X11_cutUp (v 10) (gr Z 1))))) - (if (v 1) < (((v 10) - (sc_X11_cutUp (v 10) (gr Z 1))) - (if (v 2) < ((v 10) - (sc_X11_cutUp (v 10) (gr Z 1))) then (v 2) else ((v 10) - (sc_X11_cutUp (v 10) (gr Z 1))))) then (v 1) else (((v 10) - (sc_X11_cutUp (v 10) (gr Z 1))) - (if (v 2) < ((v 10) - (sc_X11_cutUp (v 10) (gr Z 1))) then (v 2) else ((v 10) - (sc_X11_cutUp (v 10) (gr Z 1)))))))) ++ wH a (k 0) cs Z) ++ wB k r cs RW) H := hP
        refine lv_aload_n hx hb dX3_sellPledge_91 rfl (lv_at hl 5 rfl) ?_
        refine lv_aload_n hx hb dX3_sellPledge_92 rfl (lv_at hl 4 rfl) ?_
        refine hx_get hx hb hts hX3 hown hK.1 hP 2 (by decide) (hts (.fieldLink RX3 50 "PledgeHouse$House" "today" "I") (by decide +kernel)) rfl (v := .int (gh Z 0)) rfl dX3_sellPledge_93 ?_
        refine va_put (D := D) (ci := 8) (v := .int (gh Z 0)) (ty := .int) (C := RX9) (T := TX9) (N := 19) hx hb hts hX9 tyX9 tyX9_ok nmX9 hown hK.1 hP (wTHB_D ib ia ik d s.heap.size) hS 0 rfl rfl 16 (by decide) (hts (.fieldLink RX3 337 "PledgeHouse$Ticket" "soldOn" "I") (by decide +kernel)) (fun _ h9 => h9) rfl (by decide +kernel) rfl rfl (Nat.le_of_ble_eq_true rfl) dX3_sellPledge_96 (fun H locs hP _ hS => ?_)
        have hP : va_P D vwCl ((wT b nm (upd (upd v 12 ((((v 10) - (sc_X11_cutUp (v 10) (gr Z 1))) - (if (v 2) < ((v 10) - (sc_X11_cutUp (v 10) (gr Z 1))) then (v 2) else ((v 10) - (sc_X11_cutUp (v 10) (gr Z 1))))) - (if (v 1) < (((v 10) - (sc_X11_cutUp (v 10) (gr Z 1))) - (if (v 2) < ((v 10) - (sc_X11_cutUp (v 10) (gr Z 1))) then (v 2) else ((v 10) - (sc_X11_cutUp (v 10) (gr Z 1))))) then (v 1) else (((v 10) - (sc_X11_cutUp (v 10) (gr Z 1))) - (if (v 2) < ((v 10) - (sc_X11_cutUp (v 10) (gr Z 1))) then (v 2) else ((v 10) - (sc_X11_cutUp (v 10) (gr Z 1)))))))) 30 (gh Z 0)) ++ wH a (k 0) cs Z) ++ wB k r cs RW) H := hP
        refine lv_aload_n hx hb dX3_sellPledge_99 rfl (lv_at hl 5 rfl) ?_
        refine lv_aload_n hx hb dX3_sellPledge_100 rfl (lv_at hl 4 rfl) ?_
        refine hx_get hx hb hts hX3 hown hK.1 hP 2 (by decide) (hts (.fieldLink RX3 50 "PledgeHouse$House" "today" "I") (by decide +kernel)) rfl (v := .int (gh Z 0)) rfl dX3_sellPledge_101 ?_
        refine lv_aload_n hx hb dX3_sellPledge_104 rfl (lv_at hl 4 rfl) ?_
        refine hx_get hx hb hts hX3 hown hK.1 hP 3 (by decide) (hts (.fieldLink RX3 18 "PledgeHouse$House" "rules" "[I") (by decide +kernel)) rfl (v := .ref (a 1)) rfl dX3_sellPledge_105 ?_
        refine lv_iconst (v := 2) hx hb dX3_sellPledge_108 (by decide) ?_
        refine hx_rld hx hb hK.1 hP 2 rfl (by decide) (v := gr Z 2) rfl dX3_sellPledge_109 ?_
        refine lv_iadd hx hb dX3_sellPledge_110 ?_
        refine va_put (D := D) (ci := 8) (v := .int ((gh Z 0) + (gr Z 2))) (ty := .int) (C := RX9) (T := TX9) (N := 19) hx hb hts hX9 tyX9 tyX9_ok nmX9 hown hK.1 hP (wTHB_D ib ia ik d s.heap.size) hS 0 rfl rfl 17 (by decide) (hts (.fieldLink RX3 340 "PledgeHouse$Ticket" "keptUpTo" "I") (by decide +kernel)) (fun _ h9 => h9) rfl (by decide +kernel) rfl rfl (Nat.le_of_ble_eq_true rfl) dX3_sellPledge_111 (fun H locs hP _ hS => ?_)
        have hP : va_P D vwCl ((wT b nm (upd (upd (upd v 12 ((((v 10) - (sc_X11_cutUp (v 10) (gr Z 1))) - (if (v 2) < ((v 10) - (sc_X11_cutUp (v 10) (gr Z 1))) then (v 2) else ((v 10) - (sc_X11_cutUp (v 10) (gr Z 1))))) - (if (v 1) < (((v 10) - (sc_X11_cutUp (v 10) (gr Z 1))) - (if (v 2) < ((v 10) - (sc_X11_cutUp (v 10) (gr Z 1))) then (v 2) else ((v 10) - (sc_X11_cutUp (v 10) (gr Z 1))))) then (v 1) else (((v 10) - (sc_X11_cutUp (v 10) (gr Z 1))) - (if (v 2) < ((v 10) - (sc_X11_cutUp (v 10) (gr Z 1))) then (v 2) else ((v 10) - (sc_X11_cutUp (v 10) (gr Z 1)))))))) 30 (gh Z 0)) 14 ((gh Z 0) + (gr Z 2))) ++ wH a (k 0) cs Z) ++ wB k r cs RW) H := hP
        refine lv_aload_n hx hb dX3_sellPledge_114 rfl (lv_at hl 4 rfl) ?_
        refine lv_aload_n hx hb dX3_sellPledge_115 rfl (lv_at hl 5 rfl) ?_
        refine lv_iconst (v := 2) hx hb dX3_sellPledge_116 (by decide) ?_
        refine c_wr (WS' := (wT b nm ((sc_X3_endTicket nm (upd (upd (upd v 12 ((((v 10) - (sc_X11_cutUp (v 10) (gr Z 1))) - (if (v 2) < ((v 10) - (sc_X11_cutUp (v 10) (gr Z 1))) then (v 2) else ((v 10) - (sc_X11_cutUp (v 10) (gr Z 1))))) - (if (v 1) < (((v 10) - (sc_X11_cutUp (v 10) (gr Z 1))) - (if (v 2) < ((v 10) - (sc_X11_cutUp (v 10) (gr Z 1))) then (v 2) else ((v 10) - (sc_X11_cutUp (v 10) (gr Z 1))))) then (v 1) else (((v 10) - (sc_X11_cutUp (v 10) (gr Z 1))) - (if (v 2) < ((v 10) - (sc_X11_cutUp (v 10) (gr Z 1))) then (v 2) else ((v 10) - (sc_X11_cutUp (v 10) (gr Z 1)))))))) 30 (gh Z 0)) 14 ((gh Z 0) + (gr Z 2))) Z RW rc 2).1) ++ wH a (k 0) cs ((sc_X3_endTicket nm (upd (upd (upd v 12 ((((v 10) - (sc_X11_cutUp (v 10) (gr Z 1))) - (if (v 2) < ((v 10) - (sc_X11_cutUp (v 10) (gr Z 1))) then (v 2) else ((v 10) - (sc_X11_cutUp (v 10) (gr Z 1))))) - (if (v 1) < (((v 10) - (sc_X11_cutUp (v 10) (gr Z 1))) - (if (v 2) < ((v 10) - (sc_X11_cutUp (v 10) (gr Z 1))) then (v 2) else ((v 10) - (sc_X11_cutUp (v 10) (gr Z 1))))) then (v 1) else (((v 10) - (sc_X11_cutUp (v 10) (gr Z 1))) - (if (v 2) < ((v 10) - (sc_X11_cutUp (v 10) (gr Z 1))) then (v 2) else ((v 10) - (sc_X11_cutUp (v 10) (gr Z 1)))))))) 30 (gh Z 0)) 14 ((gh Z 0) + (gr Z 2))) Z RW rc 2).2.1)) ++ wB k r cs ((sc_X3_endTicket nm (upd (upd (upd v 12 ((((v 10) - (sc_X11_cutUp (v 10) (gr Z 1))) - (if (v 2) < ((v 10) - (sc_X11_cutUp (v 10) (gr Z 1))) then (v 2) else ((v 10) - (sc_X11_cutUp (v 10) (gr Z 1))))) - (if (v 1) < (((v 10) - (sc_X11_cutUp (v 10) (gr Z 1))) - (if (v 2) < ((v 10) - (sc_X11_cutUp (v 10) (gr Z 1))) then (v 2) else ((v 10) - (sc_X11_cutUp (v 10) (gr Z 1))))) then (v 1) else (((v 10) - (sc_X11_cutUp (v 10) (gr Z 1))) - (if (v 2) < ((v 10) - (sc_X11_cutUp (v 10) (gr Z 1))) then (v 2) else ((v 10) - (sc_X11_cutUp (v 10) (gr Z 1)))))))) 30 (gh Z 0)) 14 ((gh Z 0) + (gr Z 2))) Z RW rc 2).2.2)) S hK (hP) (va_recv hK.1 hP (ci := 3) (q0 := _ + 0) rfl (get3 rfl)) hS (As := [.ref (b 0), .int 2]) (rest := []) (cC_X3_endTicket l D cs b nm (upd (upd (upd v 12 ((((v 10) - (sc_X11_cutUp (v 10) (gr Z 1))) - (if (v 2) < ((v 10) - (sc_X11_cutUp (v 10) (gr Z 1))) then (v 2) else ((v 10) - (sc_X11_cutUp (v 10) (gr Z 1))))) - (if (v 1) < (((v 10) - (sc_X11_cutUp (v 10) (gr Z 1))) - (if (v 2) < ((v 10) - (sc_X11_cutUp (v 10) (gr Z 1))) then (v 2) else ((v 10) - (sc_X11_cutUp (v 10) (gr Z 1))))) then (v 1) else (((v 10) - (sc_X11_cutUp (v 10) (gr Z 1))) - (if (v 2) < ((v 10) - (sc_X11_cutUp (v 10) (gr Z 1))) then (v 2) else ((v 10) - (sc_X11_cutUp (v 10) (gr Z 1)))))))) 30 (gh Z 0)) 14 ((gh Z 0) + (gr Z 2))) k a Z r RW _ ib ia ik d rc 2 hrc hrl) (cwV 2 hts gX3_sellPledge_X3_endTicket rfl rfl rfl (by decide +kernel) ⟨Nat.le_of_ble_eq_true rfl, Nat.le_of_ble_eq_true rfl⟩) rfl hl.1 rfl (Nat.le_of_ble_eq_true rfl) dX3_sellPledge_117 ⟨Nat.zero_le _, Nat.zero_le _⟩ (adA_le hS.1) (fun _ _ _ h => h) (fun H locs hP hS => ?_)
        refine lv_astore (lv' := [(6, .ref (r rc)), (5, .int (if (v 1) < (((v 10) - (sc_X11_cutUp (v 10) (gr Z 1))) - (if (v 2) < ((v 10) - (sc_X11_cutUp (v 10) (gr Z 1))) then (v 2) else ((v 10) - (sc_X11_cutUp (v 10) (gr Z 1))))) then (v 1) else (((v 10) - (sc_X11_cutUp (v 10) (gr Z 1))) - (if (v 2) < ((v 10) - (sc_X11_cutUp (v 10) (gr Z 1))) then (v 2) else ((v 10) - (sc_X11_cutUp (v 10) (gr Z 1))))))), (4, .int (if (v 2) < ((v 10) - (sc_X11_cutUp (v 10) (gr Z 1))) then (v 2) else ((v 10) - (sc_X11_cutUp (v 10) (gr Z 1))))), (3, .int ((v 10) - (sc_X11_cutUp (v 10) (gr Z 1)))), (2, .int (sc_X11_cutUp (v 10) (gr Z 1))), (0, .ref (a 0)), (1, .ref (b 0))]) hx hb dX3_sellPledge_120 hl (by decide) rfl (fun ls hl => ?_)
        refine lv_aload hx hb dX3_sellPledge_122 (lv_at hl 0 rfl) ?_
        refine lv_iconst (v := 3) hx hb dX3_sellPledge_124 (by decide) ?_
        refine lv_dup2_11 hx hb dX3_sellPledge_125 rfl rfl ?_
        refine b_lald hx hb hK.1 hP rc 3 (Nat.lt_of_le_of_lt hrl (by decide)) rfl (by decide) (v := ((sc_X3_endTicket nm (upd (upd (upd v 12 ((((v 10) - (sc_X11_cutUp (v 10) (gr Z 1))) - (if (v 2) < ((v 10) - (sc_X11_cutUp (v 10) (gr Z 1))) then (v 2) else ((v 10) - (sc_X11_cutUp (v 10) (gr Z 1))))) - (if (v 1) < (((v 10) - (sc_X11_cutUp (v 10) (gr Z 1))) - (if (v 2) < ((v 10) - (sc_X11_cutUp (v 10) (gr Z 1))) then (v 2) else ((v 10) - (sc_X11_cutUp (v 10) (gr Z 1))))) then (v 1) else (((v 10) - (sc_X11_cutUp (v 10) (gr Z 1))) - (if (v 2) < ((v 10) - (sc_X11_cutUp (v 10) (gr Z 1))) then (v 2) else ((v 10) - (sc_X11_cutUp (v 10) (gr Z 1)))))))) 30 (gh Z 0)) 14 ((gh Z 0) + (gr Z 2))) Z RW rc 2).2.2) rc 3) rfl dX3_sellPledge_126 ?_
        refine lv_iload_n hx hb dX3_sellPledge_127 rfl (lv_at hl 4 rfl) ?_
        refine lv_i2l (v := (sc_X11_cutUp (v 10) (gr Z 1)).toInt64) hx hb dX3_sellPledge_128 rfl ?_
        refine lv_ladd hx hb dX3_sellPledge_129 ?_
        refine b_last hx hb hK.1 hP (wTHB_D ib ia ik d s.heap.size) hS rc 3 (Nat.lt_of_le_of_lt hrl (by decide)) rfl (by decide) dX3_sellPledge_130 (fun H locs hP hS => ?_)
        refine lv_aload hx hb dX3_sellPledge_131 (lv_at hl 0 rfl) ?_
        refine lv_iconst (v := 1) hx hb dX3_sellPledge_133 (by decide) ?_
        refine lv_dup2_11 hx hb dX3_sellPledge_134 rfl rfl ?_
        refine b_lald hx hb hK.1 hP rc 1 (Nat.lt_of_le_of_lt hrl (by decide)) rfl (by decide) (v := ((sc_X3_endTicket nm (upd (upd (upd v 12 ((((v 10) - (sc_X11_cutUp (v 10) (gr Z 1))) - (if (v 2) < ((v 10) - (sc_X11_cutUp (v 10) (gr Z 1))) then (v 2) else ((v 10) - (sc_X11_cutUp (v 10) (gr Z 1))))) - (if (v 1) < (((v 10) - (sc_X11_cutUp (v 10) (gr Z 1))) - (if (v 2) < ((v 10) - (sc_X11_cutUp (v 10) (gr Z 1))) then (v 2) else ((v 10) - (sc_X11_cutUp (v 10) (gr Z 1))))) then (v 1) else (((v 10) - (sc_X11_cutUp (v 10) (gr Z 1))) - (if (v 2) < ((v 10) - (sc_X11_cutUp (v 10) (gr Z 1))) then (v 2) else ((v 10) - (sc_X11_cutUp (v 10) (gr Z 1)))))))) 30 (gh Z 0)) 14 ((gh Z 0) + (gr Z 2))) Z RW rc 2).2.2) rc 1) (rwp_ne (by decide)) dX3_sellPledge_135 ?_
        refine lv_iload hx hb dX3_sellPledge_136 (lv_at hl 2 rfl) ?_
        refine lv_i2l (v := (if (v 2) < ((v 10) - (sc_X11_cutUp (v 10) (gr Z 1))) then (v 2) else ((v 10) - (sc_X11_cutUp (v 10) (gr Z 1)))).toInt64) hx hb dX3_sellPledge_138 rfl ?_
        refine lv_ladd hx hb dX3_sellPledge_139 ?_
        refine b_last hx hb hK.1 hP (wTHB_D ib ia ik d s.heap.size) hS rc 1 (Nat.lt_of_le_of_lt hrl (by decide)) rfl (by decide) dX3_sellPledge_140 (fun H locs hP hS => ?_)
        refine lv_aload hx hb dX3_sellPledge_141 (lv_at hl 0 rfl) ?_
        refine lv_iconst (v := 2) hx hb dX3_sellPledge_143 (by decide) ?_
        refine lv_dup2_11 hx hb dX3_sellPledge_144 rfl rfl ?_
        refine b_lald hx hb hK.1 hP rc 2 (Nat.lt_of_le_of_lt hrl (by decide)) rfl (by decide) (v := ((sc_X3_endTicket nm (upd (upd (upd v 12 ((((v 10) - (sc_X11_cutUp (v 10) (gr Z 1))) - (if (v 2) < ((v 10) - (sc_X11_cutUp (v 10) (gr Z 1))) then (v 2) else ((v 10) - (sc_X11_cutUp (v 10) (gr Z 1))))) - (if (v 1) < (((v 10) - (sc_X11_cutUp (v 10) (gr Z 1))) - (if (v 2) < ((v 10) - (sc_X11_cutUp (v 10) (gr Z 1))) then (v 2) else ((v 10) - (sc_X11_cutUp (v 10) (gr Z 1))))) then (v 1) else (((v 10) - (sc_X11_cutUp (v 10) (gr Z 1))) - (if (v 2) < ((v 10) - (sc_X11_cutUp (v 10) (gr Z 1))) then (v 2) else ((v 10) - (sc_X11_cutUp (v 10) (gr Z 1)))))))) 30 (gh Z 0)) 14 ((gh Z 0) + (gr Z 2))) Z RW rc 2).2.2) rc 2) ((rwp_ne (by decide)).trans (rwp_ne (by decide))) dX3_sellPledge_145 ?_
        refine lv_iload hx hb dX3_sellPledge_146 (lv_at hl 1 rfl) ?_
        refine lv_i2l (v := (if (v 1) < (((v 10) - (sc_X11_cutUp (v 10) (gr Z 1))) - (if (v 2) < ((v 10) - (sc_X11_cutUp (v 10) (gr Z 1))) then (v 2) else ((v 10) - (sc_X11_cutUp (v 10) (gr Z 1))))) then (v 1) else (((v 10) - (sc_X11_cutUp (v 10) (gr Z 1))) - (if (v 2) < ((v 10) - (sc_X11_cutUp (v 10) (gr Z 1))) then (v 2) else ((v 10) - (sc_X11_cutUp (v 10) (gr Z 1)))))).toInt64) hx hb dX3_sellPledge_148 rfl ?_
        refine lv_ladd hx hb dX3_sellPledge_149 ?_
        refine b_last hx hb hK.1 hP (wTHB_D ib ia ik d s.heap.size) hS rc 2 (Nat.lt_of_le_of_lt hrl (by decide)) rfl (by decide) dX3_sellPledge_150 (fun H locs hP hS => ?_)
        refine lv_aload hx hb dX3_sellPledge_151 (lv_at hl 0 rfl) ?_
        refine lv_bipush (v := 7) hx hb dX3_sellPledge_153 (by decide) ?_
        refine lv_dup2_11 hx hb dX3_sellPledge_155 rfl rfl ?_
        refine b_lald hx hb hK.1 hP rc 7 (Nat.lt_of_le_of_lt hrl (by decide)) rfl (by decide) (v := ((sc_X3_endTicket nm (upd (upd (upd v 12 ((((v 10) - (sc_X11_cutUp (v 10) (gr Z 1))) - (if (v 2) < ((v 10) - (sc_X11_cutUp (v 10) (gr Z 1))) then (v 2) else ((v 10) - (sc_X11_cutUp (v 10) (gr Z 1))))) - (if (v 1) < (((v 10) - (sc_X11_cutUp (v 10) (gr Z 1))) - (if (v 2) < ((v 10) - (sc_X11_cutUp (v 10) (gr Z 1))) then (v 2) else ((v 10) - (sc_X11_cutUp (v 10) (gr Z 1))))) then (v 1) else (((v 10) - (sc_X11_cutUp (v 10) (gr Z 1))) - (if (v 2) < ((v 10) - (sc_X11_cutUp (v 10) (gr Z 1))) then (v 2) else ((v 10) - (sc_X11_cutUp (v 10) (gr Z 1)))))))) 30 (gh Z 0)) 14 ((gh Z 0) + (gr Z 2))) Z RW rc 2).2.2) rc 7) ((rwp_ne (by decide)).trans ((rwp_ne (by decide)).trans (rwp_ne (by decide)))) dX3_sellPledge_156 ?_
        refine lv_aload_n hx hb dX3_sellPledge_157 rfl (lv_at hl 6 rfl) ?_
        refine c_rd S hK (show va_P D vwCl (wT b nm ((sc_X3_endTicket nm (upd (upd (upd v 12 ((((v 10) - (sc_X11_cutUp (v 10) (gr Z 1))) - (if (v 2) < ((v 10) - (sc_X11_cutUp (v 10) (gr Z 1))) then (v 2) else ((v 10) - (sc_X11_cutUp (v 10) (gr Z 1))))) - (if (v 1) < (((v 10) - (sc_X11_cutUp (v 10) (gr Z 1))) - (if (v 2) < ((v 10) - (sc_X11_cutUp (v 10) (gr Z 1))) then (v 2) else ((v 10) - (sc_X11_cutUp (v 10) (gr Z 1))))) then (v 1) else (((v 10) - (sc_X11_cutUp (v 10) (gr Z 1))) - (if (v 2) < ((v 10) - (sc_X11_cutUp (v 10) (gr Z 1))) then (v 2) else ((v 10) - (sc_X11_cutUp (v 10) (gr Z 1)))))))) 30 (gh Z 0)) 14 ((gh Z 0) + (gr Z 2))) Z RW rc 2).1)) _ from vaL (vaL hP)) (va_recv hK.1 hP (ci := 8) (q0 := 0) rfl rfl) (As := []) (rest := [.long (((sc_X3_endTicket nm (upd (upd (upd v 12 ((((v 10) - (sc_X11_cutUp (v 10) (gr Z 1))) - (if (v 2) < ((v 10) - (sc_X11_cutUp (v 10) (gr Z 1))) then (v 2) else ((v 10) - (sc_X11_cutUp (v 10) (gr Z 1))))) - (if (v 1) < (((v 10) - (sc_X11_cutUp (v 10) (gr Z 1))) - (if (v 2) < ((v 10) - (sc_X11_cutUp (v 10) (gr Z 1))) then (v 2) else ((v 10) - (sc_X11_cutUp (v 10) (gr Z 1))))) then (v 1) else (((v 10) - (sc_X11_cutUp (v 10) (gr Z 1))) - (if (v 2) < ((v 10) - (sc_X11_cutUp (v 10) (gr Z 1))) then (v 2) else ((v 10) - (sc_X11_cutUp (v 10) (gr Z 1)))))))) 30 (gh Z 0)) 14 ((gh Z 0) + (gr Z 2))) Z RW rc 2).2.2) rc 7), .int 7, .ref (r rc)]) (cC_X9_owed l D cs b nm ((sc_X3_endTicket nm (upd (upd (upd v 12 ((((v 10) - (sc_X11_cutUp (v 10) (gr Z 1))) - (if (v 2) < ((v 10) - (sc_X11_cutUp (v 10) (gr Z 1))) then (v 2) else ((v 10) - (sc_X11_cutUp (v 10) (gr Z 1))))) - (if (v 1) < (((v 10) - (sc_X11_cutUp (v 10) (gr Z 1))) - (if (v 2) < ((v 10) - (sc_X11_cutUp (v 10) (gr Z 1))) then (v 2) else ((v 10) - (sc_X11_cutUp (v 10) (gr Z 1))))) then (v 1) else (((v 10) - (sc_X11_cutUp (v 10) (gr Z 1))) - (if (v 2) < ((v 10) - (sc_X11_cutUp (v 10) (gr Z 1))) then (v 2) else ((v 10) - (sc_X11_cutUp (v 10) (gr Z 1)))))))) 30 (gh Z 0)) 14 ((gh Z 0) + (gr Z 2))) Z RW rc 2).1) _   ) (cwV 0 hts gX3_sellPledge_X9_owed rfl rfl rfl (by decide +kernel) ⟨Nat.le_of_ble_eq_true rfl, Nat.le_of_ble_eq_true rfl⟩) rfl hl.1 rfl (Nat.le_of_ble_eq_true rfl) dX3_sellPledge_158 ⟨Nat.zero_le _, Nat.zero_le _⟩ ?_
        refine lv_iload hx hb dX3_sellPledge_161 (lv_at hl 2 rfl) ?_
        refine lv_isub hx hb dX3_sellPledge_163 ?_
        refine lv_iload hx hb dX3_sellPledge_164 (lv_at hl 1 rfl) ?_
        refine lv_isub hx hb dX3_sellPledge_166 ?_
        refine lv_i2l (v := (((sc_X9_owed nm ((sc_X3_endTicket nm (upd (upd (upd v 12 ((((v 10) - (sc_X11_cutUp (v 10) (gr Z 1))) - (if (v 2) < ((v 10) - (sc_X11_cutUp (v 10) (gr Z 1))) then (v 2) else ((v 10) - (sc_X11_cutUp (v 10) (gr Z 1))))) - (if (v 1) < (((v 10) - (sc_X11_cutUp (v 10) (gr Z 1))) - (if (v 2) < ((v 10) - (sc_X11_cutUp (v 10) (gr Z 1))) then (v 2) else ((v 10) - (sc_X11_cutUp (v 10) (gr Z 1))))) then (v 1) else (((v 10) - (sc_X11_cutUp (v 10) (gr Z 1))) - (if (v 2) < ((v 10) - (sc_X11_cutUp (v 10) (gr Z 1))) then (v 2) else ((v 10) - (sc_X11_cutUp (v 10) (gr Z 1)))))))) 30 (gh Z 0)) 14 ((gh Z 0) + (gr Z 2))) Z RW rc 2).1)) - (if (v 2) < ((v 10) - (sc_X11_cutUp (v 10) (gr Z 1))) then (v 2) else ((v 10) - (sc_X11_cutUp (v 10) (gr Z 1))))) - (if (v 1) < (((v 10) - (sc_X11_cutUp (v 10) (gr Z 1))) - (if (v 2) < ((v 10) - (sc_X11_cutUp (v 10) (gr Z 1))) then (v 2) else ((v 10) - (sc_X11_cutUp (v 10) (gr Z 1))))) then (v 1) else (((v 10) - (sc_X11_cutUp (v 10) (gr Z 1))) - (if (v 2) < ((v 10) - (sc_X11_cutUp (v 10) (gr Z 1))) then (v 2) else ((v 10) - (sc_X11_cutUp (v 10) (gr Z 1))))))).toInt64) hx hb dX3_sellPledge_167 rfl ?_
        refine lv_ladd hx hb dX3_sellPledge_168 ?_
        refine b_last hx hb hK.1 hP (wTHB_D ib ia ik d s.heap.size) hS rc 7 (Nat.lt_of_le_of_lt hrl (by decide)) rfl (by decide) dX3_sellPledge_169 (fun H locs hP hS => ?_)
        refine lv_aload hx hb dX3_sellPledge_170 (lv_at hl 0 rfl) ?_
        refine lv_bipush (v := 13) hx hb dX3_sellPledge_172 (by decide) ?_
        refine lv_dup2_11 hx hb dX3_sellPledge_174 rfl rfl ?_
        refine b_lald hx hb hK.1 hP rc 13 (Nat.lt_of_le_of_lt hrl (by decide)) rfl (by decide) (v := ((sc_X3_endTicket nm (upd (upd (upd v 12 ((((v 10) - (sc_X11_cutUp (v 10) (gr Z 1))) - (if (v 2) < ((v 10) - (sc_X11_cutUp (v 10) (gr Z 1))) then (v 2) else ((v 10) - (sc_X11_cutUp (v 10) (gr Z 1))))) - (if (v 1) < (((v 10) - (sc_X11_cutUp (v 10) (gr Z 1))) - (if (v 2) < ((v 10) - (sc_X11_cutUp (v 10) (gr Z 1))) then (v 2) else ((v 10) - (sc_X11_cutUp (v 10) (gr Z 1))))) then (v 1) else (((v 10) - (sc_X11_cutUp (v 10) (gr Z 1))) - (if (v 2) < ((v 10) - (sc_X11_cutUp (v 10) (gr Z 1))) then (v 2) else ((v 10) - (sc_X11_cutUp (v 10) (gr Z 1)))))))) 30 (gh Z 0)) 14 ((gh Z 0) + (gr Z 2))) Z RW rc 2).2.2) rc 13) ((rwp_ne (by decide)).trans ((rwp_ne (by decide)).trans ((rwp_ne (by decide)).trans (rwp_ne (by decide))))) dX3_sellPledge_175 ?_
        refine lv_aload_n hx hb dX3_sellPledge_176 rfl (lv_at hl 6 rfl) ?_
        refine va_get (D := D) (ci := 8) (v := .int (((sc_X3_endTicket nm (upd (upd (upd v 12 ((((v 10) - (sc_X11_cutUp (v 10) (gr Z 1))) - (if (v 2) < ((v 10) - (sc_X11_cutUp (v 10) (gr Z 1))) then (v 2) else ((v 10) - (sc_X11_cutUp (v 10) (gr Z 1))))) - (if (v 1) < (((v 10) - (sc_X11_cutUp (v 10) (gr Z 1))) - (if (v 2) < ((v 10) - (sc_X11_cutUp (v 10) (gr Z 1))) then (v 2) else ((v 10) - (sc_X11_cutUp (v 10) (gr Z 1))))) then (v 1) else (((v 10) - (sc_X11_cutUp (v 10) (gr Z 1))) - (if (v 2) < ((v 10) - (sc_X11_cutUp (v 10) (gr Z 1))) then (v 2) else ((v 10) - (sc_X11_cutUp (v 10) (gr Z 1)))))))) 30 (gh Z 0)) 14 ((gh Z 0) + (gr Z 2))) Z RW rc 2).1) 1)) (C := RX9) (T := TX9) (N := 19) hx hb hts hX9 hown hK.1 hP 0 rfl rfl 4 (by decide) (hts (.fieldLink RX3 81 "PledgeHouse$Ticket" "principal" "I") (by decide +kernel)) (fun _ h9 => h9) rfl dX3_sellPledge_177 ?_
        refine lv_iload hx hb dX3_sellPledge_180 (lv_at hl 1 rfl) ?_
        refine lv_isub hx hb dX3_sellPledge_182 ?_
        refine lv_i2l (v := ((((sc_X3_endTicket nm (upd (upd (upd v 12 ((((v 10) - (sc_X11_cutUp (v 10) (gr Z 1))) - (if (v 2) < ((v 10) - (sc_X11_cutUp (v 10) (gr Z 1))) then (v 2) else ((v 10) - (sc_X11_cutUp (v 10) (gr Z 1))))) - (if (v 1) < (((v 10) - (sc_X11_cutUp (v 10) (gr Z 1))) - (if (v 2) < ((v 10) - (sc_X11_cutUp (v 10) (gr Z 1))) then (v 2) else ((v 10) - (sc_X11_cutUp (v 10) (gr Z 1))))) then (v 1) else (((v 10) - (sc_X11_cutUp (v 10) (gr Z 1))) - (if (v 2) < ((v 10) - (sc_X11_cutUp (v 10) (gr Z 1))) then (v 2) else ((v 10) - (sc_X11_cutUp (v 10) (gr Z 1)))))))) 30 (gh Z 0)) 14 ((gh Z 0) + (gr Z 2))) Z RW rc 2).1) 1) - (if (v 1) < (((v 10) - (sc_X11_cutUp (v 10) (gr Z 1))) - (if (v 2) < ((v 10) - (sc_X11_cutUp (v 10) (gr Z 1))) then (v 2) else ((v 10) - (sc_X11_cutUp (v 10) (gr Z 1))))) then (v 1) else (((v 10) - (sc_X11_cutUp (v 10) (gr Z 1))) - (if (v 2) < ((v 10) - (sc_X11_cutUp (v 10) (gr Z 1))) then (v 2) else ((v 10) - (sc_X11_cutUp (v 10) (gr Z 1))))))).toInt64) hx hb dX3_sellPledge_183 rfl ?_
        refine lv_ladd hx hb dX3_sellPledge_184 ?_
        refine b_last hx hb hK.1 hP (wTHB_D ib ia ik d s.heap.size) hS rc 13 (Nat.lt_of_le_of_lt hrl (by decide)) rfl (by decide) dX3_sellPledge_185 (fun H locs hP hS => ?_)
        refine lv_aload_n hx hb dX3_sellPledge_186 rfl (lv_at hl 6 rfl) ?_
        refine va_get (D := D) (ci := 8) (v := .int (((sc_X3_endTicket nm (upd (upd (upd v 12 ((((v 10) - (sc_X11_cutUp (v 10) (gr Z 1))) - (if (v 2) < ((v 10) - (sc_X11_cutUp (v 10) (gr Z 1))) then (v 2) else ((v 10) - (sc_X11_cutUp (v 10) (gr Z 1))))) - (if (v 1) < (((v 10) - (sc_X11_cutUp (v 10) (gr Z 1))) - (if (v 2) < ((v 10) - (sc_X11_cutUp (v 10) (gr Z 1))) then (v 2) else ((v 10) - (sc_X11_cutUp (v 10) (gr Z 1))))) then (v 1) else (((v 10) - (sc_X11_cutUp (v 10) (gr Z 1))) - (if (v 2) < ((v 10) - (sc_X11_cutUp (v 10) (gr Z 1))) then (v 2) else ((v 10) - (sc_X11_cutUp (v 10) (gr Z 1)))))))) 30 (gh Z 0)) 14 ((gh Z 0) + (gr Z 2))) Z RW rc 2).1) 10)) (C := RX9) (T := TX9) (N := 19) hx hb hts hX9 hown hK.1 hP 0 rfl rfl 14 (by decide) (hts (.fieldLink RX3 325 "PledgeHouse$Ticket" "highestBid" "I") (by decide +kernel)) (fun _ h9 => h9) rfl dX3_sellPledge_187 ?_
        have hsp : sc_X3_sellPledge nm v Z RW rc = (((sc_X3_endTicket nm (upd (upd (upd v 12 ((((v 10) - (sc_X11_cutUp (v 10) (gr Z 1))) - (if (v 2) < ((v 10) - (sc_X11_cutUp (v 10) (gr Z 1))) then (v 2) else ((v 10) - (sc_X11_cutUp (v 10) (gr Z 1))))) - (if (v 1) < (((v 10) - (sc_X11_cutUp (v 10) (gr Z 1))) - (if (v 2) < ((v 10) - (sc_X11_cutUp (v 10) (gr Z 1))) then (v 2) else ((v 10) - (sc_X11_cutUp (v 10) (gr Z 1))))) then (v 1) else (((v 10) - (sc_X11_cutUp (v 10) (gr Z 1))) - (if (v 2) < ((v 10) - (sc_X11_cutUp (v 10) (gr Z 1))) then (v 2) else ((v 10) - (sc_X11_cutUp (v 10) (gr Z 1)))))))) 30 (gh Z 0)) 14 ((gh Z 0) + (gr Z 2))) Z RW rc 2).1) 10, (sc_X3_endTicket nm (upd (upd (upd v 12 ((((v 10) - (sc_X11_cutUp (v 10) (gr Z 1))) - (if (v 2) < ((v 10) - (sc_X11_cutUp (v 10) (gr Z 1))) then (v 2) else ((v 10) - (sc_X11_cutUp (v 10) (gr Z 1))))) - (if (v 1) < (((v 10) - (sc_X11_cutUp (v 10) (gr Z 1))) - (if (v 2) < ((v 10) - (sc_X11_cutUp (v 10) (gr Z 1))) then (v 2) else ((v 10) - (sc_X11_cutUp (v 10) (gr Z 1))))) then (v 1) else (((v 10) - (sc_X11_cutUp (v 10) (gr Z 1))) - (if (v 2) < ((v 10) - (sc_X11_cutUp (v 10) (gr Z 1))) then (v 2) else ((v 10) - (sc_X11_cutUp (v 10) (gr Z 1)))))))) 30 (gh Z 0)) 14 ((gh Z 0) + (gr Z 2))) Z RW rc 2).1, (sc_X3_endTicket nm (upd (upd (upd v 12 ((((v 10) - (sc_X11_cutUp (v 10) (gr Z 1))) - (if (v 2) < ((v 10) - (sc_X11_cutUp (v 10) (gr Z 1))) then (v 2) else ((v 10) - (sc_X11_cutUp (v 10) (gr Z 1))))) - (if (v 1) < (((v 10) - (sc_X11_cutUp (v 10) (gr Z 1))) - (if (v 2) < ((v 10) - (sc_X11_cutUp (v 10) (gr Z 1))) then (v 2) else ((v 10) - (sc_X11_cutUp (v 10) (gr Z 1))))) then (v 1) else (((v 10) - (sc_X11_cutUp (v 10) (gr Z 1))) - (if (v 2) < ((v 10) - (sc_X11_cutUp (v 10) (gr Z 1))) then (v 2) else ((v 10) - (sc_X11_cutUp (v 10) (gr Z 1)))))))) 30 (gh Z 0)) 14 ((gh Z 0) + (gr Z 2))) Z RW rc 2).2.1, rwp (rwp (rwp (rwp (rwp ((sc_X3_endTicket nm (upd (upd (upd v 12 ((((v 10) - (sc_X11_cutUp (v 10) (gr Z 1))) - (if (v 2) < ((v 10) - (sc_X11_cutUp (v 10) (gr Z 1))) then (v 2) else ((v 10) - (sc_X11_cutUp (v 10) (gr Z 1))))) - (if (v 1) < (((v 10) - (sc_X11_cutUp (v 10) (gr Z 1))) - (if (v 2) < ((v 10) - (sc_X11_cutUp (v 10) (gr Z 1))) then (v 2) else ((v 10) - (sc_X11_cutUp (v 10) (gr Z 1))))) then (v 1) else (((v 10) - (sc_X11_cutUp (v 10) (gr Z 1))) - (if (v 2) < ((v 10) - (sc_X11_cutUp (v 10) (gr Z 1))) then (v 2) else ((v 10) - (sc_X11_cutUp (v 10) (gr Z 1)))))))) 30 (gh Z 0)) 14 ((gh Z 0) + (gr Z 2))) Z RW rc 2).2.2) rc 3 ((((sc_X3_endTicket nm (upd (upd (upd v 12 ((((v 10) - (sc_X11_cutUp (v 10) (gr Z 1))) - (if (v 2) < ((v 10) - (sc_X11_cutUp (v 10) (gr Z 1))) then (v 2) else ((v 10) - (sc_X11_cutUp (v 10) (gr Z 1))))) - (if (v 1) < (((v 10) - (sc_X11_cutUp (v 10) (gr Z 1))) - (if (v 2) < ((v 10) - (sc_X11_cutUp (v 10) (gr Z 1))) then (v 2) else ((v 10) - (sc_X11_cutUp (v 10) (gr Z 1))))) then (v 1) else (((v 10) - (sc_X11_cutUp (v 10) (gr Z 1))) - (if (v 2) < ((v 10) - (sc_X11_cutUp (v 10) (gr Z 1))) then (v 2) else ((v 10) - (sc_X11_cutUp (v 10) (gr Z 1)))))))) 30 (gh Z 0)) 14 ((gh Z 0) + (gr Z 2))) Z RW rc 2).2.2) rc 3) + ((sc_X11_cutUp (v 10) (gr Z 1)).toInt64))) rc 1 ((((sc_X3_endTicket nm (upd (upd (upd v 12 ((((v 10) - (sc_X11_cutUp (v 10) (gr Z 1))) - (if (v 2) < ((v 10) - (sc_X11_cutUp (v 10) (gr Z 1))) then (v 2) else ((v 10) - (sc_X11_cutUp (v 10) (gr Z 1))))) - (if (v 1) < (((v 10) - (sc_X11_cutUp (v 10) (gr Z 1))) - (if (v 2) < ((v 10) - (sc_X11_cutUp (v 10) (gr Z 1))) then (v 2) else ((v 10) - (sc_X11_cutUp (v 10) (gr Z 1))))) then (v 1) else (((v 10) - (sc_X11_cutUp (v 10) (gr Z 1))) - (if (v 2) < ((v 10) - (sc_X11_cutUp (v 10) (gr Z 1))) then (v 2) else ((v 10) - (sc_X11_cutUp (v 10) (gr Z 1)))))))) 30 (gh Z 0)) 14 ((gh Z 0) + (gr Z 2))) Z RW rc 2).2.2) rc 1) + ((if (v 2) < ((v 10) - (sc_X11_cutUp (v 10) (gr Z 1))) then (v 2) else ((v 10) - (sc_X11_cutUp (v 10) (gr Z 1)))).toInt64))) rc 2 ((((sc_X3_endTicket nm (upd (upd (upd v 12 ((((v 10) - (sc_X11_cutUp (v 10) (gr Z 1))) - (if (v 2) < ((v 10) - (sc_X11_cutUp (v 10) (gr Z 1))) then (v 2) else ((v 10) - (sc_X11_cutUp (v 10) (gr Z 1))))) - (if (v 1) < (((v 10) - (sc_X11_cutUp (v 10) (gr Z 1))) - (if (v 2) < ((v 10) - (sc_X11_cutUp (v 10) (gr Z 1))) then (v 2) else ((v 10) - (sc_X11_cutUp (v 10) (gr Z 1))))) then (v 1) else (((v 10) - (sc_X11_cutUp (v 10) (gr Z 1))) - (if (v 2) < ((v 10) - (sc_X11_cutUp (v 10) (gr Z 1))) then (v 2) else ((v 10) - (sc_X11_cutUp (v 10) (gr Z 1)))))))) 30 (gh Z 0)) 14 ((gh Z 0) + (gr Z 2))) Z RW rc 2).2.2) rc 2) + ((if (v 1) < (((v 10) - (sc_X11_cutUp (v 10) (gr Z 1))) - (if (v 2) < ((v 10) - (sc_X11_cutUp (v 10) (gr Z 1))) then (v 2) else ((v 10) - (sc_X11_cutUp (v 10) (gr Z 1))))) then (v 1) else (((v 10) - (sc_X11_cutUp (v 10) (gr Z 1))) - (if (v 2) < ((v 10) - (sc_X11_cutUp (v 10) (gr Z 1))) then (v 2) else ((v 10) - (sc_X11_cutUp (v 10) (gr Z 1)))))).toInt64))) rc 7 ((((sc_X3_endTicket nm (upd (upd (upd v 12 ((((v 10) - (sc_X11_cutUp (v 10) (gr Z 1))) - (if (v 2) < ((v 10) - (sc_X11_cutUp (v 10) (gr Z 1))) then (v 2) else ((v 10) - (sc_X11_cutUp (v 10) (gr Z 1))))) - (if (v 1) < (((v 10) - (sc_X11_cutUp (v 10) (gr Z 1))) - (if (v 2) < ((v 10) - (sc_X11_cutUp (v 10) (gr Z 1))) then (v 2) else ((v 10) - (sc_X11_cutUp (v 10) (gr Z 1))))) then (v 1) else (((v 10) - (sc_X11_cutUp (v 10) (gr Z 1))) - (if (v 2) < ((v 10) - (sc_X11_cutUp (v 10) (gr Z 1))) then (v 2) else ((v 10) - (sc_X11_cutUp (v 10) (gr Z 1)))))))) 30 (gh Z 0)) 14 ((gh Z 0) + (gr Z 2))) Z RW rc 2).2.2) rc 7) + ((((sc_X9_owed nm ((sc_X3_endTicket nm (upd (upd (upd v 12 ((((v 10) - (sc_X11_cutUp (v 10) (gr Z 1))) - (if (v 2) < ((v 10) - (sc_X11_cutUp (v 10) (gr Z 1))) then (v 2) else ((v 10) - (sc_X11_cutUp (v 10) (gr Z 1))))) - (if (v 1) < (((v 10) - (sc_X11_cutUp (v 10) (gr Z 1))) - (if (v 2) < ((v 10) - (sc_X11_cutUp (v 10) (gr Z 1))) then (v 2) else ((v 10) - (sc_X11_cutUp (v 10) (gr Z 1))))) then (v 1) else (((v 10) - (sc_X11_cutUp (v 10) (gr Z 1))) - (if (v 2) < ((v 10) - (sc_X11_cutUp (v 10) (gr Z 1))) then (v 2) else ((v 10) - (sc_X11_cutUp (v 10) (gr Z 1)))))))) 30 (gh Z 0)) 14 ((gh Z 0) + (gr Z 2))) Z RW rc 2).1)) - (if (v 2) < ((v 10) - (sc_X11_cutUp (v 10) (gr Z 1))) then (v 2) else ((v 10) - (sc_X11_cutUp (v 10) (gr Z 1))))) - (if (v 1) < (((v 10) - (sc_X11_cutUp (v 10) (gr Z 1))) - (if (v 2) < ((v 10) - (sc_X11_cutUp (v 10) (gr Z 1))) then (v 2) else ((v 10) - (sc_X11_cutUp (v 10) (gr Z 1))))) then (v 1) else (((v 10) - (sc_X11_cutUp (v 10) (gr Z 1))) - (if (v 2) < ((v 10) - (sc_X11_cutUp (v 10) (gr Z 1))) then (v 2) else ((v 10) - (sc_X11_cutUp (v 10) (gr Z 1))))))).toInt64))) rc 13 ((((sc_X3_endTicket nm (upd (upd (upd v 12 ((((v 10) - (sc_X11_cutUp (v 10) (gr Z 1))) - (if (v 2) < ((v 10) - (sc_X11_cutUp (v 10) (gr Z 1))) then (v 2) else ((v 10) - (sc_X11_cutUp (v 10) (gr Z 1))))) - (if (v 1) < (((v 10) - (sc_X11_cutUp (v 10) (gr Z 1))) - (if (v 2) < ((v 10) - (sc_X11_cutUp (v 10) (gr Z 1))) then (v 2) else ((v 10) - (sc_X11_cutUp (v 10) (gr Z 1))))) then (v 1) else (((v 10) - (sc_X11_cutUp (v 10) (gr Z 1))) - (if (v 2) < ((v 10) - (sc_X11_cutUp (v 10) (gr Z 1))) then (v 2) else ((v 10) - (sc_X11_cutUp (v 10) (gr Z 1)))))))) 30 (gh Z 0)) 14 ((gh Z 0) + (gr Z 2))) Z RW rc 2).2.2) rc 13) + (((((sc_X3_endTicket nm (upd (upd (upd v 12 ((((v 10) - (sc_X11_cutUp (v 10) (gr Z 1))) - (if (v 2) < ((v 10) - (sc_X11_cutUp (v 10) (gr Z 1))) then (v 2) else ((v 10) - (sc_X11_cutUp (v 10) (gr Z 1))))) - (if (v 1) < (((v 10) - (sc_X11_cutUp (v 10) (gr Z 1))) - (if (v 2) < ((v 10) - (sc_X11_cutUp (v 10) (gr Z 1))) then (v 2) else ((v 10) - (sc_X11_cutUp (v 10) (gr Z 1))))) then (v 1) else (((v 10) - (sc_X11_cutUp (v 10) (gr Z 1))) - (if (v 2) < ((v 10) - (sc_X11_cutUp (v 10) (gr Z 1))) then (v 2) else ((v 10) - (sc_X11_cutUp (v 10) (gr Z 1)))))))) 30 (gh Z 0)) 14 ((gh Z 0) + (gr Z 2))) Z RW rc 2).1) 1) - (if (v 1) < (((v 10) - (sc_X11_cutUp (v 10) (gr Z 1))) - (if (v 2) < ((v 10) - (sc_X11_cutUp (v 10) (gr Z 1))) then (v 2) else ((v 10) - (sc_X11_cutUp (v 10) (gr Z 1))))) then (v 1) else (((v 10) - (sc_X11_cutUp (v 10) (gr Z 1))) - (if (v 2) < ((v 10) - (sc_X11_cutUp (v 10) (gr Z 1))) then (v 2) else ((v 10) - (sc_X11_cutUp (v 10) (gr Z 1))))))).toInt64))) := by unfold sc_X3_sellPledge; rw [if_neg c_1, if_neg c_2, if_pos c_3]
        exact W.iret hx hb hr (fun t2 ht2 hW => by rw [hsp]; exact ⟨rfl, by rw [ht2]; exact hP, hS.F ht2⟩) hS.2.2 dX3_sellPledge_190 hlocks
      · refine lv_bipush (v := (-3)) hx hb dX3_sellPledge_30 (by decide) ?_
        have hsp : sc_X3_sellPledge nm v Z RW rc = ((-3), v, Z, RW) := by unfold sc_X3_sellPledge; rw [if_neg c_1, if_neg c_2, if_neg c_3]
        exact W.iret hx hb hr (fun t2 ht2 hW => by rw [hsp]; exact ⟨rfl, by rw [ht2]; exact hP, hS.F ht2⟩) hS.2.2 dX3_sellPledge_32 hlocks
    · refine lv_bipush (v := (-2)) hx hb dX3_sellPledge_20 (by decide) ?_
      have hsp : sc_X3_sellPledge nm v Z RW rc = ((-2), v, Z, RW) := by unfold sc_X3_sellPledge; rw [if_neg c_1, if_pos c_2]
      exact W.iret hx hb hr (fun t2 ht2 hW => by rw [hsp]; exact ⟨rfl, by rw [ht2]; exact hP, hS.F ht2⟩) hS.2.2 dX3_sellPledge_22 hlocks
def sc_X3_handOver (nm : Int32) (v : Nat → Int32) (Z : hZ) (RW : Nat → Nat → Int64) (rc : Nat) (half : Int32) : Int32 × (Nat → Int32) × (hZ) × (Nat → Nat → Int64) :=
  if (v 12) = 0 then
    ((-2), v, Z, RW)
  else
    if (v 31) = (-1) then
      if (sc_X9_isRight nm v half (gh Z 0)) = 0 then
        ((-4), v, Z, RW)
      else
        if (sc_X9_isKeptOver nm v (gh Z 0)) = 0 then
          ((-5), v, Z, RW)
        else
          ((sc_X9_endOathBy nm (upd v 31 (gh Z 0)) half) 12, (sc_X9_endOathBy nm (upd v 31 (gh Z 0)) half), (sc_X3_addRow Z RW rc).1, rwp ((sc_X3_addRow Z RW rc).2) rc 5 ((((sc_X3_addRow Z RW rc).2) rc 5) + (((sc_X9_endOathBy nm (upd v 31 (gh Z 0)) half) 12).toInt64)))
    else
      ((-2), v, Z, RW)
set_option maxHeartbeats 4000000 in
set_option maxRecDepth 100000 in
theorem cC_X3_handOver (l : Launch) (D : va_G) (cs : Nat → ClassId) (b : Nat → Nat) (nm : Int32) (v : Nat → Int32) (k : Nat → Nat) (a : Nat → Nat) (Z : hZ) (r : Nat → Nat) (RW : Nat → Nat → Int64) (sz : Nat) (ib : iT b) (ia : iH a) (ik : iB k r) (d : dTHB b a k r) (rc : Nat) (half : Int32) (hrc : gh Z 2 = nI rc) (hrl : rc ≤ 511) : Met l yX3_handOver wsX3_handOver ({ frames := 3, cells := 0, slots := 0, locals := 67 }) (cPc [.ref (a 0), .ref (b 0), .int half] D cs ((wT b nm v ++ wH a (k 0) cs Z) ++ wB k r cs RW) sz) (cQ D (some (.int (sc_X3_handOver nm v Z RW rc half).1)) ((wT b nm ((sc_X3_handOver nm v Z RW rc half).2.1) ++ wH a (k 0) cs ((sc_X3_handOver nm v Z RW rc half).2.2.1)) ++ wB k r cs ((sc_X3_handOver nm v Z RW rc half).2.2.2)) (adA (pOr (pOr (pT b) (pH a)) (pB k r)) sz)) 0 0 (adA (pOr (pOr (pT b) (pH a)) (pB k r)) sz) := by
  refine c_in (P := pOr (pOr (pT b) (pH a)) (pB k r)) (cc := cX3_handOver) (maxL := 3) (ret := (some .int)) (lv := [(0, .ref (a 0)), (1, .ref (b 0)), (2, .int half)]) (by decide) rfl (Nat.le_of_ble_eq_true rfl) rfl ?_
  intro p e s m below meth c ls S hr hlocks hin hsz hP hK hl hS
  subst hsz
  obtain ⟨hx, hb, hml, hown, hts⟩ := id S
  have hX3 : ∀ w ∈ wsX30, w ∈ wsX3_handOver := by decide +kernel
  have hX9 : ∀ w ∈ wsX90, w ∈ wsX3_handOver := by decide +kernel
  refine lv_aload_n hx hb dX3_handOver_0 rfl (lv_at hl 1 rfl) ?_
  refine lv_ifnonnull (tgt := 6) hx hb dX3_handOver_1 (by decide) ?_
  refine lv_aload_n hx hb dX3_handOver_6 rfl (lv_at hl 1 rfl) ?_
  refine va_get (D := D) (ci := 8) (v := .int (v 12)) (C := RX9) (T := TX9) (N := 19) hx hb hts hX9 hown hK.1 hP 0 rfl rfl 15 (by decide) (hts (.fieldLink RX3 334 "PledgeHouse$Ticket" "over" "I") (by decide +kernel)) (fun _ h9 => h9) rfl dX3_handOver_7 ?_
  refine lv_if_eq (tgt := 21) hx hb dX3_handOver_10 (by decide) (fun c_1 => ?_) (fun c_1 => ?_)
  · refine lv_bipush (v := (-2)) hx hb dX3_handOver_21 (by decide) ?_
    have hsp : sc_X3_handOver nm v Z RW rc half = ((-2), v, Z, RW) := by unfold sc_X3_handOver; rw [if_pos c_1]
    exact W.iret hx hb hr (fun t2 ht2 hW => by rw [hsp]; exact ⟨rfl, by rw [ht2]; exact hP, hS.F ht2⟩) hS.2.2 dX3_handOver_23 hlocks
  · refine lv_aload_n hx hb dX3_handOver_13 rfl (lv_at hl 1 rfl) ?_
    refine va_get (D := D) (ci := 8) (v := .int (v 31)) (C := RX9) (T := TX9) (N := 19) hx hb hts hX9 hown hK.1 hP 0 rfl rfl 18 (by decide) (hts (.fieldLink RX3 343 "PledgeHouse$Ticket" "fetchedOn" "I") (by decide +kernel)) (fun _ h9 => h9) rfl dX3_handOver_14 ?_
    refine lv_iconst (v := (-1)) hx hb dX3_handOver_17 (by decide) ?_
    refine lv_icmp_eq (tgt := 24) hx hb dX3_handOver_18 (by decide) (fun c_2 => ?_) (fun c_2 => ?_)
    · refine lv_aload_n hx hb dX3_handOver_24 rfl (lv_at hl 1 rfl) ?_
      refine lv_iload_n hx hb dX3_handOver_25 rfl (lv_at hl 2 rfl) ?_
      refine lv_aload_n hx hb dX3_handOver_26 rfl (lv_at hl 0 rfl) ?_
      refine hx_get hx hb hts hX3 hown hK.1 hP 2 (by decide) (hts (.fieldLink RX3 50 "PledgeHouse$House" "today" "I") (by decide +kernel)) rfl (v := .int (gh Z 0)) rfl dX3_handOver_27 ?_
      refine c_rd S hK (show va_P D vwCl (wT b nm v) _ from vaL (vaL hP)) (va_recv hK.1 hP (ci := 8) (q0 := 0) rfl rfl) (As := [.int half, .int (gh Z 0)]) (rest := []) (cC_X9_isRight l D cs b nm v _  half (gh Z 0) ) (cwV 2 hts gX3_handOver_X9_isRight rfl rfl rfl (by decide +kernel) ⟨Nat.le_of_ble_eq_true rfl, Nat.le_of_ble_eq_true rfl⟩) rfl hl.1 rfl (Nat.le_of_ble_eq_true rfl) dX3_handOver_30 ⟨Nat.zero_le _, Nat.zero_le _⟩ ?_
      refine lv_if_ne (tgt := 39) hx hb dX3_handOver_33 (by decide) (fun c_3 => ?_) (fun c_3 => ?_)
      · refine lv_aload_n hx hb dX3_handOver_39 rfl (lv_at hl 1 rfl) ?_
        refine lv_aload_n hx hb dX3_handOver_40 rfl (lv_at hl 0 rfl) ?_
        refine hx_get hx hb hts hX3 hown hK.1 hP 2 (by decide) (hts (.fieldLink RX3 50 "PledgeHouse$House" "today" "I") (by decide +kernel)) rfl (v := .int (gh Z 0)) rfl dX3_handOver_41 ?_
        refine c_rd S hK (show va_P D vwCl (wT b nm v) _ from vaL (vaL hP)) (va_recv hK.1 hP (ci := 8) (q0 := 0) rfl rfl) (As := [.int (gh Z 0)]) (rest := []) (cC_X9_isKeptOver l D cs b nm v _  (gh Z 0) ) (cwV 1 hts gX3_handOver_X9_isKeptOver rfl rfl rfl (by decide +kernel) ⟨Nat.le_of_ble_eq_true rfl, Nat.le_of_ble_eq_true rfl⟩) rfl hl.1 rfl (Nat.le_of_ble_eq_true rfl) dX3_handOver_44 ⟨Nat.zero_le _, Nat.zero_le _⟩ ?_
        refine lv_if_ne (tgt := 53) hx hb dX3_handOver_47 (by decide) (fun c_4 => ?_) (fun c_4 => ?_)
        · refine lv_aload_n hx hb dX3_handOver_53 rfl (lv_at hl 1 rfl) ?_
          refine lv_aload_n hx hb dX3_handOver_54 rfl (lv_at hl 0 rfl) ?_
          refine hx_get hx hb hts hX3 hown hK.1 hP 2 (by decide) (hts (.fieldLink RX3 50 "PledgeHouse$House" "today" "I") (by decide +kernel)) rfl (v := .int (gh Z 0)) rfl dX3_handOver_55 ?_
          refine va_put (D := D) (ci := 8) (v := .int (gh Z 0)) (ty := .int) (C := RX9) (T := TX9) (N := 19) hx hb hts hX9 tyX9 tyX9_ok nmX9 hown hK.1 hP (wTHB_D ib ia ik d s.heap.size) hS 0 rfl rfl 18 (by decide) (hts (.fieldLink RX3 343 "PledgeHouse$Ticket" "fetchedOn" "I") (by decide +kernel)) (fun _ h9 => h9) rfl (by decide +kernel) rfl rfl (Nat.le_of_ble_eq_true rfl) dX3_handOver_58 (fun H locs hP _ hS => ?_)
          have hP : va_P D vwCl ((wT b nm (upd v 31 (gh Z 0)) ++ wH a (k 0) cs Z) ++ wB k r cs RW) H := hP
          refine lv_aload_n hx hb dX3_handOver_61 rfl (lv_at hl 1 rfl) ?_
          refine lv_iload_n hx hb dX3_handOver_62 rfl (lv_at hl 2 rfl) ?_
          refine c_wr (WS' := (wT b nm (sc_X9_endOathBy nm (upd v 31 (gh Z 0)) half) ++ wH a (k 0) cs Z) ++ wB k r cs RW) S hK (show va_P D vwCl (wT b nm (upd v 31 (gh Z 0))) _ from vaL (vaL hP)) (va_recv hK.1 hP (ci := 8) (q0 := 0) rfl rfl) hS (As := [.int half]) (rest := []) (cC_X9_endOathBy l D cs b nm (upd v 31 (gh Z 0)) _ ib half ) (cwV 1 hts gX3_handOver_X9_endOathBy rfl rfl rfl (by decide +kernel) ⟨Nat.le_of_ble_eq_true rfl, Nat.le_of_ble_eq_true rfl⟩) rfl hl.1 rfl (Nat.le_of_ble_eq_true rfl) dX3_handOver_63 ⟨Nat.zero_le _, Nat.zero_le _⟩ (fun q h => adA_le hS.1 q (h.elim (fun t => Or.inl (Or.inl (Or.inl t))) Or.inr)) (fun H1 _ hk h => (va_P.app (va_P.app h (keepP (vaR (vaL hP)) wH_p (fun q h1 h2 => d.1 q h2 h1) hk)) (keepP (vaR hP) wB_p (fun q h1 h2 => d.2.1 q h2 h1) hk))) (fun H locs hP hS => ?_)
          refine lv_aload_n hx hb dX3_handOver_66 rfl (lv_at hl 0 rfl) ?_
          refine c_wr (WS' := (wT b nm (sc_X9_endOathBy nm (upd v 31 (gh Z 0)) half) ++ wH a (k 0) cs ((sc_X3_addRow Z RW rc).1)) ++ wB k r cs ((sc_X3_addRow Z RW rc).2)) S hK (show va_P D vwCl (([] ++ wH a (k 0) cs Z) ++ wB k r cs RW) _ from va_P.app (vaR (vaL hP)) (vaR hP)) (va_recv hK.1 hP (ci := 3) (q0 := _ + 0) rfl (get3 rfl)) hS (As := []) (rest := []) (cC_X3_addRow l D cs k a Z r RW _ ia ik d.2.2 rc hrc hrl) (cwV 0 hts gX3_handOver_X3_addRow rfl rfl rfl (by decide +kernel) ⟨Nat.le_of_ble_eq_true rfl, Nat.le_of_ble_eq_true rfl⟩) rfl hl.1 rfl (Nat.le_of_ble_eq_true rfl) dX3_handOver_67 ⟨Nat.zero_le _, Nat.zero_le _⟩ (fun q h => adA_le hS.1 q (h.elim (fun t => Or.inl (t.elim (fun t => Or.inl (Or.inr t)) (fun t => Or.inr t))) Or.inr)) (fun H1 _ hk h => (va_P.app (va_P.app (keepP (vaL (vaL hP)) wT_p (fun q h1 h2 => h2.elim (fun t => d.1 q h1 t) (fun t => d.2.1 q h1 t)) hk) (vaL h)) (vaR h))) (fun H locs hP hS => ?_)
          refine lv_iconst (v := 5) hx hb dX3_handOver_70 (by decide) ?_
          refine lv_dup2_11 hx hb dX3_handOver_71 rfl rfl ?_
          refine b_lald hx hb hK.1 hP rc 5 (Nat.lt_of_le_of_lt hrl (by decide)) rfl (by decide) (v := ((sc_X3_addRow Z RW rc).2) rc 5) rfl dX3_handOver_72 ?_
          refine lv_aload_n hx hb dX3_handOver_73 rfl (lv_at hl 1 rfl) ?_
          refine va_get (D := D) (ci := 8) (v := .int ((sc_X9_endOathBy nm (upd v 31 (gh Z 0)) half) 12)) (C := RX9) (T := TX9) (N := 19) hx hb hts hX9 hown hK.1 hP 0 rfl rfl 15 (by decide) (hts (.fieldLink RX3 334 "PledgeHouse$Ticket" "over" "I") (by decide +kernel)) (fun _ h9 => h9) rfl dX3_handOver_74 ?_
          refine lv_i2l (v := ((sc_X9_endOathBy nm (upd v 31 (gh Z 0)) half) 12).toInt64) hx hb dX3_handOver_77 rfl ?_
          refine lv_ladd hx hb dX3_handOver_78 ?_
          refine b_last hx hb hK.1 hP (wTHB_D ib ia ik d s.heap.size) hS rc 5 (Nat.lt_of_le_of_lt hrl (by decide)) rfl (by decide) dX3_handOver_79 (fun H locs hP hS => ?_)
          refine lv_aload_n hx hb dX3_handOver_80 rfl (lv_at hl 1 rfl) ?_
          refine va_get (D := D) (ci := 8) (v := .int ((sc_X9_endOathBy nm (upd v 31 (gh Z 0)) half) 12)) (C := RX9) (T := TX9) (N := 19) hx hb hts hX9 hown hK.1 hP 0 rfl rfl 15 (by decide) (hts (.fieldLink RX3 334 "PledgeHouse$Ticket" "over" "I") (by decide +kernel)) (fun _ h9 => h9) rfl dX3_handOver_81 ?_
          have hsp : sc_X3_handOver nm v Z RW rc half = ((sc_X9_endOathBy nm (upd v 31 (gh Z 0)) half) 12, (sc_X9_endOathBy nm (upd v 31 (gh Z 0)) half), (sc_X3_addRow Z RW rc).1, rwp ((sc_X3_addRow Z RW rc).2) rc 5 ((((sc_X3_addRow Z RW rc).2) rc 5) + (((sc_X9_endOathBy nm (upd v 31 (gh Z 0)) half) 12).toInt64))) := by unfold sc_X3_handOver; rw [if_neg c_1, if_pos c_2, if_neg c_3, if_neg c_4]
          exact W.iret hx hb hr (fun t2 ht2 hW => by rw [hsp]; exact ⟨rfl, by rw [ht2]; exact hP, hS.F ht2⟩) hS.2.2 dX3_handOver_84 hlocks
        · refine lv_bipush (v := (-5)) hx hb dX3_handOver_50 (by decide) ?_
          have hsp : sc_X3_handOver nm v Z RW rc half = ((-5), v, Z, RW) := by unfold sc_X3_handOver; rw [if_neg c_1, if_pos c_2, if_neg c_3, if_pos c_4]
          exact W.iret hx hb hr (fun t2 ht2 hW => by rw [hsp]; exact ⟨rfl, by rw [ht2]; exact hP, hS.F ht2⟩) hS.2.2 dX3_handOver_52 hlocks
      · refine lv_bipush (v := (-4)) hx hb dX3_handOver_36 (by decide) ?_
        have hsp : sc_X3_handOver nm v Z RW rc half = ((-4), v, Z, RW) := by unfold sc_X3_handOver; rw [if_neg c_1, if_pos c_2, if_pos c_3]
        exact W.iret hx hb hr (fun t2 ht2 hW => by rw [hsp]; exact ⟨rfl, by rw [ht2]; exact hP, hS.F ht2⟩) hS.2.2 dX3_handOver_38 hlocks
    · refine lv_bipush (v := (-2)) hx hb dX3_handOver_21 (by decide) ?_
      have hsp : sc_X3_handOver nm v Z RW rc half = ((-2), v, Z, RW) := by unfold sc_X3_handOver; rw [if_neg c_1, if_neg c_2]
      exact W.iret hx hb hr (fun t2 ht2 hW => by rw [hsp]; exact ⟨rfl, by rw [ht2]; exact hP, hS.F ht2⟩) hS.2.2 dX3_handOver_23 hlocks
def sc_X3_proveClaim (nm : Int32) (v : Nat → Int32) (Z : hZ) (RW : Nat → Nat → Int64) (rc : Nat) : Int32 × (Nat → Int32) × (hZ) × (Nat → Nat → Int64) :=
  if (sc_X3_whyNotClaimed nm v) = 0 then
    (sc_X9_owed nm ((sc_X3_endTicket nm (sc_X9_endClaim nm v (gh Z 0)) Z RW rc 3).1), (sc_X3_endTicket nm (sc_X9_endClaim nm v (gh Z 0)) Z RW rc 3).1, (sc_X3_endTicket nm (sc_X9_endClaim nm v (gh Z 0)) Z RW rc 3).2.1, rwp (rwp ((sc_X3_endTicket nm (sc_X9_endClaim nm v (gh Z 0)) Z RW rc 3).2.2) rc 7 ((((sc_X3_endTicket nm (sc_X9_endClaim nm v (gh Z 0)) Z RW rc 3).2.2) rc 7) + ((sc_X9_owed nm ((sc_X3_endTicket nm (sc_X9_endClaim nm v (gh Z 0)) Z RW rc 3).1)).toInt64))) rc 13 ((((sc_X3_endTicket nm (sc_X9_endClaim nm v (gh Z 0)) Z RW rc 3).2.2) rc 13) + ((((sc_X3_endTicket nm (sc_X9_endClaim nm v (gh Z 0)) Z RW rc 3).1) 1).toInt64)))
  else
    (sc_X3_whyNotClaimed nm v, v, Z, RW)
set_option maxHeartbeats 4000000 in
set_option maxRecDepth 100000 in
theorem cC_X3_proveClaim (l : Launch) (D : va_G) (cs : Nat → ClassId) (b : Nat → Nat) (nm : Int32) (v : Nat → Int32) (k : Nat → Nat) (a : Nat → Nat) (Z : hZ) (r : Nat → Nat) (RW : Nat → Nat → Int64) (sz : Nat) (ib : iT b) (ia : iH a) (ik : iB k r) (d : dTHB b a k r) (rc : Nat) (hrc : gh Z 2 = nI rc) (hrl : rc ≤ 511) : Met l yX3_proveClaim wsX3_proveClaim ({ frames := 4, cells := 0, slots := 0, locals := 90 }) (cPc [.ref (a 0), .ref (b 0)] D cs ((wT b nm v ++ wH a (k 0) cs Z) ++ wB k r cs RW) sz) (cQ D (some (.int (sc_X3_proveClaim nm v Z RW rc).1)) ((wT b nm ((sc_X3_proveClaim nm v Z RW rc).2.1) ++ wH a (k 0) cs ((sc_X3_proveClaim nm v Z RW rc).2.2.1)) ++ wB k r cs ((sc_X3_proveClaim nm v Z RW rc).2.2.2)) (adA (pOr (pOr (pT b) (pH a)) (pB k r)) sz)) 0 0 (adA (pOr (pOr (pT b) (pH a)) (pB k r)) sz) := by
  refine c_in (P := pOr (pOr (pT b) (pH a)) (pB k r)) (cc := cX3_proveClaim) (maxL := 4) (ret := (some .int)) (lv := [(0, .ref (a 0)), (1, .ref (b 0))]) (by decide) rfl (Nat.le_of_ble_eq_true rfl) rfl ?_
  intro p e s m below meth c ls S hr hlocks hin hsz hP hK hl hS
  subst hsz
  obtain ⟨hx, hb, hml, hown, hts⟩ := id S
  have hX3 : ∀ w ∈ wsX30, w ∈ wsX3_proveClaim := by decide +kernel
  have hX9 : ∀ w ∈ wsX90, w ∈ wsX3_proveClaim := by decide +kernel
  refine lv_aload_n hx hb dX3_proveClaim_0 rfl (lv_at hl 1 rfl) ?_
  refine c_rdS S hK (show va_P D vwCl (wT b nm v) _ from vaL (vaL hP)) (As := [.ref (b 0)]) (rest := []) (cC_X3_whyNotClaimed l D cs b nm v _   ) (cwS 1 hts gX3_proveClaim_X3_whyNotClaimed rfl rfl rfl (by decide +kernel) ⟨Nat.le_of_ble_eq_true rfl, Nat.le_of_ble_eq_true rfl⟩) rfl hl.1 rfl (Nat.le_of_ble_eq_true rfl) dX3_proveClaim_1 ⟨Nat.zero_le _, Nat.zero_le _⟩ ?_
  refine lv_istore_n (lv' := [(2, .int (sc_X3_whyNotClaimed nm v)), (0, .ref (a 0)), (1, .ref (b 0))]) hx hb dX3_proveClaim_4 rfl hl (by decide) rfl (fun ls hl => ?_)
  refine lv_iload_n hx hb dX3_proveClaim_5 rfl (lv_at hl 0 rfl) ?_
  refine lv_if_eq (tgt := 11) hx hb dX3_proveClaim_6 (by decide) (fun c_1 => ?_) (fun c_1 => ?_)
  · refine lv_aload_n hx hb dX3_proveClaim_11 rfl (lv_at hl 2 rfl) ?_
    refine lv_aload_n hx hb dX3_proveClaim_12 rfl (lv_at hl 1 rfl) ?_
    refine hx_get hx hb hts hX3 hown hK.1 hP 2 (by decide) (hts (.fieldLink RX3 50 "PledgeHouse$House" "today" "I") (by decide +kernel)) rfl (v := .int (gh Z 0)) rfl dX3_proveClaim_13 ?_
    refine c_wr (WS' := (wT b nm (sc_X9_endClaim nm v (gh Z 0)) ++ wH a (k 0) cs Z) ++ wB k r cs RW) S hK (show va_P D vwCl (wT b nm v) _ from vaL (vaL hP)) (va_recv hK.1 hP (ci := 8) (q0 := 0) rfl rfl) hS (As := [.int (gh Z 0)]) (rest := []) (cC_X9_endClaim l D cs b nm v _ ib (gh Z 0) ) (cwV 1 hts gX3_proveClaim_X9_endClaim rfl rfl rfl (by decide +kernel) ⟨Nat.le_of_ble_eq_true rfl, Nat.le_of_ble_eq_true rfl⟩) rfl hl.1 rfl (Nat.le_of_ble_eq_true rfl) dX3_proveClaim_16 ⟨Nat.zero_le _, Nat.zero_le _⟩ (fun q h => adA_le hS.1 q (h.elim (fun t => Or.inl (Or.inl (Or.inl t))) Or.inr)) (fun H1 _ hk h => (va_P.app (va_P.app h (keepP (vaR (vaL hP)) wH_p (fun q h1 h2 => d.1 q h2 h1) hk)) (keepP (vaR hP) wB_p (fun q h1 h2 => d.2.1 q h2 h1) hk))) (fun H locs hP hS => ?_)
    refine lv_aload_n hx hb dX3_proveClaim_19 rfl (lv_at hl 1 rfl) ?_
    refine lv_aload_n hx hb dX3_proveClaim_20 rfl (lv_at hl 2 rfl) ?_
    refine lv_iconst (v := 3) hx hb dX3_proveClaim_21 (by decide) ?_
    refine c_wr (WS' := (wT b nm ((sc_X3_endTicket nm (sc_X9_endClaim nm v (gh Z 0)) Z RW rc 3).1) ++ wH a (k 0) cs ((sc_X3_endTicket nm (sc_X9_endClaim nm v (gh Z 0)) Z RW rc 3).2.1)) ++ wB k r cs ((sc_X3_endTicket nm (sc_X9_endClaim nm v (gh Z 0)) Z RW rc 3).2.2)) S hK (hP) (va_recv hK.1 hP (ci := 3) (q0 := _ + 0) rfl (get3 rfl)) hS (As := [.ref (b 0), .int 3]) (rest := []) (cC_X3_endTicket l D cs b nm (sc_X9_endClaim nm v (gh Z 0)) k a Z r RW _ ib ia ik d rc 3 hrc hrl) (cwV 2 hts gX3_proveClaim_X3_endTicket rfl rfl rfl (by decide +kernel) ⟨Nat.le_of_ble_eq_true rfl, Nat.le_of_ble_eq_true rfl⟩) rfl hl.1 rfl (Nat.le_of_ble_eq_true rfl) dX3_proveClaim_22 ⟨Nat.zero_le _, Nat.zero_le _⟩ (adA_le hS.1) (fun _ _ _ h => h) (fun H locs hP hS => ?_)
    refine lv_astore_n (lv' := [(3, .ref (r rc)), (2, .int (sc_X3_whyNotClaimed nm v)), (0, .ref (a 0)), (1, .ref (b 0))]) hx hb dX3_proveClaim_25 rfl hl (by decide) rfl (fun ls hl => ?_)
    refine lv_aload_n hx hb dX3_proveClaim_26 rfl (lv_at hl 0 rfl) ?_
    refine lv_bipush (v := 7) hx hb dX3_proveClaim_27 (by decide) ?_
    refine lv_dup2_11 hx hb dX3_proveClaim_29 rfl rfl ?_
    refine b_lald hx hb hK.1 hP rc 7 (Nat.lt_of_le_of_lt hrl (by decide)) rfl (by decide) (v := ((sc_X3_endTicket nm (sc_X9_endClaim nm v (gh Z 0)) Z RW rc 3).2.2) rc 7) rfl dX3_proveClaim_30 ?_
    refine lv_aload_n hx hb dX3_proveClaim_31 rfl (lv_at hl 3 rfl) ?_
    refine c_rd S hK (show va_P D vwCl (wT b nm ((sc_X3_endTicket nm (sc_X9_endClaim nm v (gh Z 0)) Z RW rc 3).1)) _ from vaL (vaL hP)) (va_recv hK.1 hP (ci := 8) (q0 := 0) rfl rfl) (As := []) (rest := [.long (((sc_X3_endTicket nm (sc_X9_endClaim nm v (gh Z 0)) Z RW rc 3).2.2) rc 7), .int 7, .ref (r rc)]) (cC_X9_owed l D cs b nm ((sc_X3_endTicket nm (sc_X9_endClaim nm v (gh Z 0)) Z RW rc 3).1) _   ) (cwV 0 hts gX3_proveClaim_X9_owed rfl rfl rfl (by decide +kernel) ⟨Nat.le_of_ble_eq_true rfl, Nat.le_of_ble_eq_true rfl⟩) rfl hl.1 rfl (Nat.le_of_ble_eq_true rfl) dX3_proveClaim_32 ⟨Nat.zero_le _, Nat.zero_le _⟩ ?_
    refine lv_i2l (v := (sc_X9_owed nm ((sc_X3_endTicket nm (sc_X9_endClaim nm v (gh Z 0)) Z RW rc 3).1)).toInt64) hx hb dX3_proveClaim_35 rfl ?_
    refine lv_ladd hx hb dX3_proveClaim_36 ?_
    refine b_last hx hb hK.1 hP (wTHB_D ib ia ik d s.heap.size) hS rc 7 (Nat.lt_of_le_of_lt hrl (by decide)) rfl (by decide) dX3_proveClaim_37 (fun H locs hP hS => ?_)
    refine lv_aload_n hx hb dX3_proveClaim_38 rfl (lv_at hl 0 rfl) ?_
    refine lv_bipush (v := 13) hx hb dX3_proveClaim_39 (by decide) ?_
    refine lv_dup2_11 hx hb dX3_proveClaim_41 rfl rfl ?_
    refine b_lald hx hb hK.1 hP rc 13 (Nat.lt_of_le_of_lt hrl (by decide)) rfl (by decide) (v := ((sc_X3_endTicket nm (sc_X9_endClaim nm v (gh Z 0)) Z RW rc 3).2.2) rc 13) (rwp_ne (by decide)) dX3_proveClaim_42 ?_
    refine lv_aload_n hx hb dX3_proveClaim_43 rfl (lv_at hl 3 rfl) ?_
    refine va_get (D := D) (ci := 8) (v := .int (((sc_X3_endTicket nm (sc_X9_endClaim nm v (gh Z 0)) Z RW rc 3).1) 1)) (C := RX9) (T := TX9) (N := 19) hx hb hts hX9 hown hK.1 hP 0 rfl rfl 4 (by decide) (hts (.fieldLink RX3 81 "PledgeHouse$Ticket" "principal" "I") (by decide +kernel)) (fun _ h9 => h9) rfl dX3_proveClaim_44 ?_
    refine lv_i2l (v := (((sc_X3_endTicket nm (sc_X9_endClaim nm v (gh Z 0)) Z RW rc 3).1) 1).toInt64) hx hb dX3_proveClaim_47 rfl ?_
    refine lv_ladd hx hb dX3_proveClaim_48 ?_
    refine b_last hx hb hK.1 hP (wTHB_D ib ia ik d s.heap.size) hS rc 13 (Nat.lt_of_le_of_lt hrl (by decide)) rfl (by decide) dX3_proveClaim_49 (fun H locs hP hS => ?_)
    refine lv_aload_n hx hb dX3_proveClaim_50 rfl (lv_at hl 3 rfl) ?_
    refine c_rd S hK (show va_P D vwCl (wT b nm ((sc_X3_endTicket nm (sc_X9_endClaim nm v (gh Z 0)) Z RW rc 3).1)) _ from vaL (vaL hP)) (va_recv hK.1 hP (ci := 8) (q0 := 0) rfl rfl) (As := []) (rest := []) (cC_X9_owed l D cs b nm ((sc_X3_endTicket nm (sc_X9_endClaim nm v (gh Z 0)) Z RW rc 3).1) _   ) (cwV 0 hts gX3_proveClaim_X9_owed rfl rfl rfl (by decide +kernel) ⟨Nat.le_of_ble_eq_true rfl, Nat.le_of_ble_eq_true rfl⟩) rfl hl.1 rfl (Nat.le_of_ble_eq_true rfl) dX3_proveClaim_51 ⟨Nat.zero_le _, Nat.zero_le _⟩ ?_
    have hsp : sc_X3_proveClaim nm v Z RW rc = (sc_X9_owed nm ((sc_X3_endTicket nm (sc_X9_endClaim nm v (gh Z 0)) Z RW rc 3).1), (sc_X3_endTicket nm (sc_X9_endClaim nm v (gh Z 0)) Z RW rc 3).1, (sc_X3_endTicket nm (sc_X9_endClaim nm v (gh Z 0)) Z RW rc 3).2.1, rwp (rwp ((sc_X3_endTicket nm (sc_X9_endClaim nm v (gh Z 0)) Z RW rc 3).2.2) rc 7 ((((sc_X3_endTicket nm (sc_X9_endClaim nm v (gh Z 0)) Z RW rc 3).2.2) rc 7) + ((sc_X9_owed nm ((sc_X3_endTicket nm (sc_X9_endClaim nm v (gh Z 0)) Z RW rc 3).1)).toInt64))) rc 13 ((((sc_X3_endTicket nm (sc_X9_endClaim nm v (gh Z 0)) Z RW rc 3).2.2) rc 13) + ((((sc_X3_endTicket nm (sc_X9_endClaim nm v (gh Z 0)) Z RW rc 3).1) 1).toInt64))) := by unfold sc_X3_proveClaim; rw [if_pos c_1]
    exact W.iret hx hb hr (fun t2 ht2 hW => by rw [hsp]; exact ⟨rfl, by rw [ht2]; exact hP, hS.F ht2⟩) hS.2.2 dX3_proveClaim_54 hlocks
  · refine lv_iload_n hx hb dX3_proveClaim_9 rfl (lv_at hl 0 rfl) ?_
    have hsp : sc_X3_proveClaim nm v Z RW rc = (sc_X3_whyNotClaimed nm v, v, Z, RW) := by unfold sc_X3_proveClaim; rw [if_neg c_1]
    exact W.iret hx hb hr (fun t2 ht2 hW => by rw [hsp]; exact ⟨rfl, by rw [ht2]; exact hP, hS.F ht2⟩) hS.2.2 dX3_proveClaim_10 hlocks
def sc_X3_tearHalf_n (Z : hZ) (how : Int32) : Int32 :=
  (-1)
set_option maxHeartbeats 4000000 in
set_option maxRecDepth 100000 in
theorem cC_X3_tearHalf_n (l : Launch) (D : va_G) (cs : Nat → ClassId) (k : Nat → Nat) (a : Nat → Nat) (Z : hZ) (sz : Nat) (how : Int32) : Met l yX3_tearHalf wsX3_tearHalf ({ frames := 0, cells := 0, slots := 0, locals := 0 }) (cPc [.ref (a 0), .null, .int how] D cs (([] ++ wH a (k 0) cs Z) ++ []) sz) (k2_QcV (.int (sc_X3_tearHalf_n Z how))) 0 0 (fun _ => False) := by
  refine c_in (P := pH a) (cc := cX3_tearHalf) (maxL := 3) (ret := (some .int)) (lv := [(0, .ref (a 0)), (1, .null), (2, .int how)]) (by decide) rfl (Nat.le_of_ble_eq_true rfl) rfl ?_
  intro p e s m below meth c ls S hr hlocks hin hsz hP hK hl hS
  subst hsz
  obtain ⟨hx, hb, hml, hown, hts⟩ := id S
  refine lv_aload_nN hx hb dX3_tearHalf_0 rfl (lv_at hl 1 rfl) ?_
  refine lv_ifnonnullN hx hb dX3_tearHalf_1 ?_
  refine lv_iconst (v := (-1)) hx hb dX3_tearHalf_4 (by decide) ?_
  have hsp : sc_X3_tearHalf_n Z how = (-1) := rfl
  exact W.iret hx hb hr (fun t2 ht2 hW => ⟨by rw [hsp], ht2⟩) (fun q hq => by cases hq) dX3_tearHalf_5 hlocks
def sc_X3_hearOath_n (Z : hZ) : Int32 :=
  (-1)
set_option maxHeartbeats 4000000 in
set_option maxRecDepth 100000 in
theorem cC_X3_hearOath_n (l : Launch) (D : va_G) (cs : Nat → ClassId) (k : Nat → Nat) (a : Nat → Nat) (Z : hZ) (sz : Nat) : Met l yX3_hearOath wsX3_hearOath ({ frames := 0, cells := 0, slots := 0, locals := 0 }) (cPc [.ref (a 0), .null] D cs (([] ++ wH a (k 0) cs Z) ++ []) sz) (k2_QcV (.int (sc_X3_hearOath_n Z))) 0 0 (fun _ => False) := by
  refine c_in (P := pH a) (cc := cX3_hearOath) (maxL := 2) (ret := (some .int)) (lv := [(0, .ref (a 0)), (1, .null)]) (by decide) rfl (Nat.le_of_ble_eq_true rfl) rfl ?_
  intro p e s m below meth c ls S hr hlocks hin hsz hP hK hl hS
  subst hsz
  obtain ⟨hx, hb, hml, hown, hts⟩ := id S
  refine lv_aload_nN hx hb dX3_hearOath_0 rfl (lv_at hl 1 rfl) ?_
  refine lv_ifnonnullN hx hb dX3_hearOath_1 ?_
  refine lv_iconst (v := (-1)) hx hb dX3_hearOath_4 (by decide) ?_
  have hsp : sc_X3_hearOath_n Z = (-1) := rfl
  exact W.iret hx hb hr (fun t2 ht2 hW => ⟨by rw [hsp], ht2⟩) (fun q hq => by cases hq) dX3_hearOath_5 hlocks
def sc_X3_whyNotHolders_n (Z : hZ) (half : Int32) : Int32 :=
  (-1)
set_option maxHeartbeats 4000000 in
set_option maxRecDepth 100000 in
theorem cC_X3_whyNotHolders_n (l : Launch) (D : va_G) (cs : Nat → ClassId) (k : Nat → Nat) (a : Nat → Nat) (Z : hZ) (sz : Nat) (half : Int32) : Met l yX3_whyNotHolders wsX3_whyNotHolders ({ frames := 0, cells := 0, slots := 0, locals := 0 }) (cPc [.ref (a 0), .null, .int half] D cs (([] ++ wH a (k 0) cs Z) ++ []) sz) (k2_QcV (.int (sc_X3_whyNotHolders_n Z half))) 0 0 (fun _ => False) := by
  refine c_in (P := pH a) (cc := cX3_whyNotHolders) (maxL := 3) (ret := (some .int)) (lv := [(0, .ref (a 0)), (1, .null), (2, .int half)]) (by decide) rfl (Nat.le_of_ble_eq_true rfl) rfl ?_
  intro p e s m below meth c ls S hr hlocks hin hsz hP hK hl hS
  subst hsz
  obtain ⟨hx, hb, hml, hown, hts⟩ := id S
  refine lv_aload_nN hx hb dX3_whyNotHolders_0 rfl (lv_at hl 1 rfl) ?_
  refine lv_ifnonnullN hx hb dX3_whyNotHolders_1 ?_
  refine lv_iconst (v := (-1)) hx hb dX3_whyNotHolders_4 (by decide) ?_
  have hsp : sc_X3_whyNotHolders_n Z half = (-1) := rfl
  exact W.iret hx hb hr (fun t2 ht2 hW => ⟨by rw [hsp], ht2⟩) (fun q hq => by cases hq) dX3_whyNotHolders_5 hlocks
def sc_X3_makeForfeit_n (Z : hZ) : Int32 :=
  (-1)
set_option maxHeartbeats 4000000 in
set_option maxRecDepth 100000 in
theorem cC_X3_makeForfeit_n (l : Launch) (D : va_G) (cs : Nat → ClassId) (k : Nat → Nat) (a : Nat → Nat) (Z : hZ) (sz : Nat) : Met l yX3_makeForfeit wsX3_makeForfeit ({ frames := 0, cells := 0, slots := 0, locals := 0 }) (cPc [.ref (a 0), .null] D cs (([] ++ wH a (k 0) cs Z) ++ []) sz) (k2_QcV (.int (sc_X3_makeForfeit_n Z))) 0 0 (fun _ => False) := by
  refine c_in (P := pH a) (cc := cX3_makeForfeit) (maxL := 2) (ret := (some .int)) (lv := [(0, .ref (a 0)), (1, .null)]) (by decide) rfl (Nat.le_of_ble_eq_true rfl) rfl ?_
  intro p e s m below meth c ls S hr hlocks hin hsz hP hK hl hS
  subst hsz
  obtain ⟨hx, hb, hml, hown, hts⟩ := id S
  refine lv_aload_nN hx hb dX3_makeForfeit_0 rfl (lv_at hl 1 rfl) ?_
  refine lv_ifnonnullN hx hb dX3_makeForfeit_1 ?_
  refine lv_iconst (v := (-1)) hx hb dX3_makeForfeit_4 (by decide) ?_
  have hsp : sc_X3_makeForfeit_n Z = (-1) := rfl
  exact W.iret hx hb hr (fun t2 ht2 hW => ⟨by rw [hsp], ht2⟩) (fun q hq => by cases hq) dX3_makeForfeit_5 hlocks
def sc_X3_hearBid_n (Z : hZ) (coins : Int32) : Int32 :=
  (-1)
set_option maxHeartbeats 4000000 in
set_option maxRecDepth 100000 in
theorem cC_X3_hearBid_n (l : Launch) (D : va_G) (cs : Nat → ClassId) (k : Nat → Nat) (a : Nat → Nat) (Z : hZ) (sz : Nat) (coins : Int32) : Met l yX3_hearBid wsX3_hearBid ({ frames := 0, cells := 0, slots := 0, locals := 0 }) (cPc [.ref (a 0), .null, .int coins] D cs (([] ++ wH a (k 0) cs Z) ++ []) sz) (k2_QcV (.int (sc_X3_hearBid_n Z coins))) 0 0 (fun _ => False) := by
  refine c_in (P := pH a) (cc := cX3_hearBid) (maxL := 3) (ret := (some .int)) (lv := [(0, .ref (a 0)), (1, .null), (2, .int coins)]) (by decide) rfl (Nat.le_of_ble_eq_true rfl) rfl ?_
  intro p e s m below meth c ls S hr hlocks hin hsz hP hK hl hS
  subst hsz
  obtain ⟨hx, hb, hml, hown, hts⟩ := id S
  refine lv_aload_nN hx hb dX3_hearBid_0 rfl (lv_at hl 1 rfl) ?_
  refine lv_ifnonnullN hx hb dX3_hearBid_1 ?_
  refine lv_iconst (v := (-1)) hx hb dX3_hearBid_4 (by decide) ?_
  have hsp : sc_X3_hearBid_n Z coins = (-1) := rfl
  exact W.iret hx hb hr (fun t2 ht2 hW => ⟨by rw [hsp], ht2⟩) (fun q hq => by cases hq) dX3_hearBid_5 hlocks
def sc_X3_raiseClaim_n (Z : hZ) : Int32 :=
  (-1)
set_option maxHeartbeats 4000000 in
set_option maxRecDepth 100000 in
theorem cC_X3_raiseClaim_n (l : Launch) (D : va_G) (cs : Nat → ClassId) (k : Nat → Nat) (a : Nat → Nat) (Z : hZ) (sz : Nat) : Met l yX3_raiseClaim wsX3_raiseClaim ({ frames := 0, cells := 0, slots := 0, locals := 0 }) (cPc [.ref (a 0), .null] D cs (([] ++ wH a (k 0) cs Z) ++ []) sz) (k2_QcV (.int (sc_X3_raiseClaim_n Z))) 0 0 (fun _ => False) := by
  refine c_in (P := pH a) (cc := cX3_raiseClaim) (maxL := 2) (ret := (some .int)) (lv := [(0, .ref (a 0)), (1, .null)]) (by decide) rfl (Nat.le_of_ble_eq_true rfl) rfl ?_
  intro p e s m below meth c ls S hr hlocks hin hsz hP hK hl hS
  subst hsz
  obtain ⟨hx, hb, hml, hown, hts⟩ := id S
  refine lv_aload_nN hx hb dX3_raiseClaim_0 rfl (lv_at hl 1 rfl) ?_
  refine lv_ifnonnullN hx hb dX3_raiseClaim_1 ?_
  refine lv_iconst (v := (-1)) hx hb dX3_raiseClaim_4 (by decide) ?_
  have hsp : sc_X3_raiseClaim_n Z = (-1) := rfl
  exact W.iret hx hb hr (fun t2 ht2 hW => ⟨by rw [hsp], ht2⟩) (fun q hq => by cases hq) dX3_raiseClaim_5 hlocks
def sc_X3_whyNotClaimed_n (Z : hZ) : Int32 :=
  (-1)
set_option maxHeartbeats 4000000 in
set_option maxRecDepth 100000 in
theorem cC_X3_whyNotClaimed_n (l : Launch) (D : va_G) (cs : Nat → ClassId) (k : Nat → Nat) (a : Nat → Nat) (Z : hZ) (sz : Nat) : Met l yX3_whyNotClaimed wsX3_whyNotClaimed ({ frames := 0, cells := 0, slots := 0, locals := 0 }) (cPc [.null] D cs (([] ++ wH a (k 0) cs Z) ++ []) sz) (k2_QcV (.int (sc_X3_whyNotClaimed_n Z))) 0 0 (fun _ => False) := by
  refine c_in (P := pH a) (cc := cX3_whyNotClaimed) (maxL := 1) (ret := (some .int)) (lv := [(0, .null)]) (by decide) rfl (Nat.le_of_ble_eq_true rfl) rfl ?_
  intro p e s m below meth c ls S hr hlocks hin hsz hP hK hl hS
  subst hsz
  obtain ⟨hx, hb, hml, hown, hts⟩ := id S
  refine lv_aload_nN hx hb dX3_whyNotClaimed_0 rfl (lv_at hl 0 rfl) ?_
  refine lv_ifnonnullN hx hb dX3_whyNotClaimed_1 ?_
  refine lv_iconst (v := (-1)) hx hb dX3_whyNotClaimed_4 (by decide) ?_
  have hsp : sc_X3_whyNotClaimed_n Z = (-1) := rfl
  exact W.iret hx hb hr (fun t2 ht2 hW => ⟨by rw [hsp], ht2⟩) (fun q hq => by cases hq) dX3_whyNotClaimed_5 hlocks
def sc_X3_dropClaim_n (Z : hZ) : Int32 :=
  sc_X3_whyNotClaimed_n Z
set_option maxHeartbeats 4000000 in
set_option maxRecDepth 100000 in
theorem cC_X3_dropClaim_n (l : Launch) (D : va_G) (cs : Nat → ClassId) (k : Nat → Nat) (a : Nat → Nat) (Z : hZ) (sz : Nat) : Met l yX3_dropClaim wsX3_dropClaim ({ frames := 1, cells := 0, slots := 0, locals := 20 }) (cPc [.ref (a 0), .null] D cs (([] ++ wH a (k 0) cs Z) ++ []) sz) (k2_QcV (.int (sc_X3_dropClaim_n Z))) 0 0 (fun _ => False) := by
  refine c_in (P := pH a) (cc := cX3_dropClaim) (maxL := 3) (ret := (some .int)) (lv := [(0, .ref (a 0)), (1, .null)]) (by decide) rfl (Nat.le_of_ble_eq_true rfl) rfl ?_
  intro p e s m below meth c ls S hr hlocks hin hsz hP hK hl hS
  subst hsz
  obtain ⟨hx, hb, hml, hown, hts⟩ := id S
  refine lv_aload_nN hx hb dX3_dropClaim_0 rfl (lv_at hl 1 rfl) ?_
  refine c_rdS S hK (hP) (As := [.null]) (rest := []) (cC_X3_whyNotClaimed_n l D cs k a Z _   ) (cwS 1 hts gX3_dropClaim_X3_whyNotClaimed rfl rfl rfl (by decide +kernel) ⟨Nat.le_of_ble_eq_true rfl, Nat.le_of_ble_eq_true rfl⟩) rfl hl.1 rfl (Nat.le_of_ble_eq_true rfl) dX3_dropClaim_1 ⟨Nat.zero_le _, Nat.zero_le _⟩ ?_
  refine lv_istore_n (lv' := [(2, .int (sc_X3_whyNotClaimed_n Z)), (0, .ref (a 0)), (1, .null)]) hx hb dX3_dropClaim_4 rfl hl (by decide) rfl (fun ls hl => ?_)
  refine lv_iload_n hx hb dX3_dropClaim_5 rfl (lv_at hl 0 rfl) ?_
  refine lv_if_eq (tgt := 11) hx hb dX3_dropClaim_6 (by decide) (fun c_1 => ?_) (fun c_1 => ?_)
  · exact absurd c_1 (by unfold sc_X3_whyNotClaimed_n; decide)
  · refine lv_iload_n hx hb dX3_dropClaim_9 rfl (lv_at hl 0 rfl) ?_
    have hsp : sc_X3_dropClaim_n Z = sc_X3_whyNotClaimed_n Z := rfl
    exact W.iret hx hb hr (fun t2 ht2 hW => ⟨by rw [hsp], ht2⟩) (fun q hq => by cases hq) dX3_dropClaim_10 hlocks
def sc_X3_lookAtTicket_n (Z : hZ) (what : Int32) : Int32 :=
  (-1)
set_option maxHeartbeats 4000000 in
set_option maxRecDepth 100000 in
theorem cC_X3_lookAtTicket_n (l : Launch) (D : va_G) (cs : Nat → ClassId) (k : Nat → Nat) (a : Nat → Nat) (Z : hZ) (sz : Nat) (what : Int32) : Met l yX3_lookAtTicket wsX3_lookAtTicket ({ frames := 0, cells := 0, slots := 0, locals := 0 }) (cPc [.ref (a 0), .null, .int what] D cs (([] ++ wH a (k 0) cs Z) ++ []) sz) (k2_QcV (.int (sc_X3_lookAtTicket_n Z what))) 0 0 (fun _ => False) := by
  refine c_in (P := pH a) (cc := cX3_lookAtTicket) (maxL := 3) (ret := (some .int)) (lv := [(0, .ref (a 0)), (1, .null), (2, .int what)]) (by decide) rfl (Nat.le_of_ble_eq_true rfl) rfl ?_
  intro p e s m below meth c ls S hr hlocks hin hsz hP hK hl hS
  subst hsz
  obtain ⟨hx, hb, hml, hown, hts⟩ := id S
  refine lv_aload_nN hx hb dX3_lookAtTicket_0 rfl (lv_at hl 1 rfl) ?_
  refine lv_ifnonnullN hx hb dX3_lookAtTicket_1 ?_
  refine lv_iconst (v := (-1)) hx hb dX3_lookAtTicket_4 (by decide) ?_
  have hsp : sc_X3_lookAtTicket_n Z what = (-1) := rfl
  exact W.iret hx hb hr (fun t2 ht2 hW => ⟨by rw [hsp], ht2⟩) (fun q hq => by cases hq) dX3_lookAtTicket_5 hlocks
def sc_X3_payPart_n (Z : hZ) (half : Int32) (coins : Int32) : Int32 :=
  (-1)
set_option maxHeartbeats 4000000 in
set_option maxRecDepth 100000 in
theorem cC_X3_payPart_n (l : Launch) (D : va_G) (cs : Nat → ClassId) (k : Nat → Nat) (a : Nat → Nat) (Z : hZ) (sz : Nat) (half : Int32) (coins : Int32) : Met l yX3_payPart wsX3_payPart ({ frames := 0, cells := 0, slots := 0, locals := 0 }) (cPc [.ref (a 0), .null, .int half, .int coins] D cs (([] ++ wH a (k 0) cs Z) ++ []) sz) (k2_QcV (.int (sc_X3_payPart_n Z half coins))) 0 0 (fun _ => False) := by
  refine c_in (P := pH a) (cc := cX3_payPart) (maxL := 7) (ret := (some .int)) (lv := [(0, .ref (a 0)), (1, .null), (2, .int half), (3, .int coins)]) (by decide) rfl (Nat.le_of_ble_eq_true rfl) rfl ?_
  intro p e s m below meth c ls S hr hlocks hin hsz hP hK hl hS
  subst hsz
  obtain ⟨hx, hb, hml, hown, hts⟩ := id S
  refine lv_aload_nN hx hb dX3_payPart_0 rfl (lv_at hl 1 rfl) ?_
  refine lv_ifnonnullN hx hb dX3_payPart_1 ?_
  refine lv_iconst (v := (-1)) hx hb dX3_payPart_4 (by decide) ?_
  have hsp : sc_X3_payPart_n Z half coins = (-1) := rfl
  exact W.iret hx hb hr (fun t2 ht2 hW => ⟨by rw [hsp], ht2⟩) (fun q hq => by cases hq) dX3_payPart_5 hlocks
def sc_X3_renewTerm_n (Z : hZ) (half : Int32) (months : Int32) : Int32 :=
  sc_X3_whyNotHolders_n Z half
set_option maxHeartbeats 4000000 in
set_option maxRecDepth 100000 in
theorem cC_X3_renewTerm_n (l : Launch) (D : va_G) (cs : Nat → ClassId) (k : Nat → Nat) (a : Nat → Nat) (Z : hZ) (sz : Nat) (half : Int32) (months : Int32) : Met l yX3_renewTerm wsX3_renewTerm ({ frames := 1, cells := 0, slots := 0, locals := 22 }) (cPc [.ref (a 0), .null, .int half, .int months] D cs (([] ++ wH a (k 0) cs Z) ++ []) sz) (k2_QcV (.int (sc_X3_renewTerm_n Z half months))) 0 0 (fun _ => False) := by
  refine c_in (P := pH a) (cc := cX3_renewTerm) (maxL := 7) (ret := (some .int)) (lv := [(0, .ref (a 0)), (1, .null), (2, .int half), (3, .int months)]) (by decide) rfl (Nat.le_of_ble_eq_true rfl) rfl ?_
  intro p e s m below meth c ls S hr hlocks hin hsz hP hK hl hS
  subst hsz
  obtain ⟨hx, hb, hml, hown, hts⟩ := id S
  refine lv_aload_n hx hb dX3_renewTerm_0 rfl (lv_at hl 0 rfl) ?_
  refine lv_aload_nN hx hb dX3_renewTerm_1 rfl (lv_at hl 1 rfl) ?_
  refine lv_iload_n hx hb dX3_renewTerm_2 rfl (lv_at hl 2 rfl) ?_
  refine c_rd S hK (hP) (va_recv hK.1 hP (ci := 3) (q0 := _ + 0) rfl (get3 rfl)) (As := [.null, .int half]) (rest := []) (cC_X3_whyNotHolders_n l D cs k a Z _  half ) (cwV 2 hts gX3_renewTerm_X3_whyNotHolders rfl rfl rfl (by decide +kernel) ⟨Nat.le_of_ble_eq_true rfl, Nat.le_of_ble_eq_true rfl⟩) rfl hl.1 rfl (Nat.le_of_ble_eq_true rfl) dX3_renewTerm_3 ⟨Nat.zero_le _, Nat.zero_le _⟩ ?_
  refine lv_istore (lv' := [(4, .int (sc_X3_whyNotHolders_n Z half)), (0, .ref (a 0)), (1, .null), (2, .int half), (3, .int months)]) hx hb dX3_renewTerm_6 hl (by decide) rfl (fun ls hl => ?_)
  refine lv_iload hx hb dX3_renewTerm_8 (lv_at hl 0 rfl) ?_
  refine lv_if_eq (tgt := 16) hx hb dX3_renewTerm_10 (by decide) (fun c_1 => ?_) (fun c_1 => ?_)
  · exact absurd c_1 (by unfold sc_X3_whyNotHolders_n; decide)
  · refine lv_iload hx hb dX3_renewTerm_13 (lv_at hl 0 rfl) ?_
    have hsp : sc_X3_renewTerm_n Z half months = sc_X3_whyNotHolders_n Z half := rfl
    exact W.iret hx hb hr (fun t2 ht2 hW => ⟨by rw [hsp], ht2⟩) (fun q hq => by cases hq) dX3_renewTerm_15 hlocks
def sc_X3_undoRenewing_n (Z : hZ) : Int32 :=
  (-1)
set_option maxHeartbeats 4000000 in
set_option maxRecDepth 100000 in
theorem cC_X3_undoRenewing_n (l : Launch) (D : va_G) (cs : Nat → ClassId) (k : Nat → Nat) (a : Nat → Nat) (Z : hZ) (sz : Nat) : Met l yX3_undoRenewing wsX3_undoRenewing ({ frames := 0, cells := 0, slots := 0, locals := 0 }) (cPc [.ref (a 0), .null] D cs (([] ++ wH a (k 0) cs Z) ++ []) sz) (k2_QcV (.int (sc_X3_undoRenewing_n Z))) 0 0 (fun _ => False) := by
  refine c_in (P := pH a) (cc := cX3_undoRenewing) (maxL := 3) (ret := (some .int)) (lv := [(0, .ref (a 0)), (1, .null)]) (by decide) rfl (Nat.le_of_ble_eq_true rfl) rfl ?_
  intro p e s m below meth c ls S hr hlocks hin hsz hP hK hl hS
  subst hsz
  obtain ⟨hx, hb, hml, hown, hts⟩ := id S
  refine lv_aload_nN hx hb dX3_undoRenewing_0 rfl (lv_at hl 1 rfl) ?_
  refine lv_ifnonnullN hx hb dX3_undoRenewing_1 ?_
  refine lv_iconst (v := (-1)) hx hb dX3_undoRenewing_4 (by decide) ?_
  have hsp : sc_X3_undoRenewing_n Z = (-1) := rfl
  exact W.iret hx hb hr (fun t2 ht2 hW => ⟨by rw [hsp], ht2⟩) (fun q hq => by cases hq) dX3_undoRenewing_5 hlocks
def sc_X3_giveBack_n (Z : hZ) (half : Int32) (coins : Int32) : Int32 :=
  sc_X3_whyNotHolders_n Z half
set_option maxHeartbeats 4000000 in
set_option maxRecDepth 100000 in
theorem cC_X3_giveBack_n (l : Launch) (D : va_G) (cs : Nat → ClassId) (k : Nat → Nat) (a : Nat → Nat) (Z : hZ) (sz : Nat) (half : Int32) (coins : Int32) : Met l yX3_giveBack wsX3_giveBack ({ frames := 1, cells := 0, slots := 0, locals := 22 }) (cPc [.ref (a 0), .null, .int half, .int coins] D cs (([] ++ wH a (k 0) cs Z) ++ []) sz) (k2_QcV (.int (sc_X3_giveBack_n Z half coins))) 0 0 (fun _ => False) := by
  refine c_in (P := pH a) (cc := cX3_giveBack) (maxL := 6) (ret := (some .int)) (lv := [(0, .ref (a 0)), (1, .null), (2, .int half), (3, .int coins)]) (by decide) rfl (Nat.le_of_ble_eq_true rfl) rfl ?_
  intro p e s m below meth c ls S hr hlocks hin hsz hP hK hl hS
  subst hsz
  obtain ⟨hx, hb, hml, hown, hts⟩ := id S
  refine lv_aload_n hx hb dX3_giveBack_0 rfl (lv_at hl 0 rfl) ?_
  refine lv_aload_nN hx hb dX3_giveBack_1 rfl (lv_at hl 1 rfl) ?_
  refine lv_iload_n hx hb dX3_giveBack_2 rfl (lv_at hl 2 rfl) ?_
  refine c_rd S hK (hP) (va_recv hK.1 hP (ci := 3) (q0 := _ + 0) rfl (get3 rfl)) (As := [.null, .int half]) (rest := []) (cC_X3_whyNotHolders_n l D cs k a Z _  half ) (cwV 2 hts gX3_giveBack_X3_whyNotHolders rfl rfl rfl (by decide +kernel) ⟨Nat.le_of_ble_eq_true rfl, Nat.le_of_ble_eq_true rfl⟩) rfl hl.1 rfl (Nat.le_of_ble_eq_true rfl) dX3_giveBack_3 ⟨Nat.zero_le _, Nat.zero_le _⟩ ?_
  refine lv_istore (lv' := [(4, .int (sc_X3_whyNotHolders_n Z half)), (0, .ref (a 0)), (1, .null), (2, .int half), (3, .int coins)]) hx hb dX3_giveBack_6 hl (by decide) rfl (fun ls hl => ?_)
  refine lv_iload hx hb dX3_giveBack_8 (lv_at hl 0 rfl) ?_
  refine lv_if_eq (tgt := 16) hx hb dX3_giveBack_10 (by decide) (fun c_1 => ?_) (fun c_1 => ?_)
  · exact absurd c_1 (by unfold sc_X3_whyNotHolders_n; decide)
  · refine lv_iload hx hb dX3_giveBack_13 (lv_at hl 0 rfl) ?_
    have hsp : sc_X3_giveBack_n Z half coins = sc_X3_whyNotHolders_n Z half := rfl
    exact W.iret hx hb hr (fun t2 ht2 hW => ⟨by rw [hsp], ht2⟩) (fun q hq => by cases hq) dX3_giveBack_15 hlocks
def sc_X3_sellPledge_n (Z : hZ) : Int32 :=
  (-1)
set_option maxHeartbeats 4000000 in
set_option maxRecDepth 100000 in
theorem cC_X3_sellPledge_n (l : Launch) (D : va_G) (cs : Nat → ClassId) (k : Nat → Nat) (a : Nat → Nat) (Z : hZ) (sz : Nat) : Met l yX3_sellPledge wsX3_sellPledge ({ frames := 0, cells := 0, slots := 0, locals := 0 }) (cPc [.ref (a 0), .null] D cs (([] ++ wH a (k 0) cs Z) ++ []) sz) (k2_QcV (.int (sc_X3_sellPledge_n Z))) 0 0 (fun _ => False) := by
  refine c_in (P := pH a) (cc := cX3_sellPledge) (maxL := 7) (ret := (some .int)) (lv := [(0, .ref (a 0)), (1, .null)]) (by decide) rfl (Nat.le_of_ble_eq_true rfl) rfl ?_
  intro p e s m below meth c ls S hr hlocks hin hsz hP hK hl hS
  subst hsz
  obtain ⟨hx, hb, hml, hown, hts⟩ := id S
  refine lv_aload_nN hx hb dX3_sellPledge_0 rfl (lv_at hl 1 rfl) ?_
  refine lv_ifnonnullN hx hb dX3_sellPledge_1 ?_
  refine lv_iconst (v := (-1)) hx hb dX3_sellPledge_4 (by decide) ?_
  have hsp : sc_X3_sellPledge_n Z = (-1) := rfl
  exact W.iret hx hb hr (fun t2 ht2 hW => ⟨by rw [hsp], ht2⟩) (fun q hq => by cases hq) dX3_sellPledge_5 hlocks
def sc_X3_handOver_n (Z : hZ) (half : Int32) : Int32 :=
  (-1)
set_option maxHeartbeats 4000000 in
set_option maxRecDepth 100000 in
theorem cC_X3_handOver_n (l : Launch) (D : va_G) (cs : Nat → ClassId) (k : Nat → Nat) (a : Nat → Nat) (Z : hZ) (sz : Nat) (half : Int32) : Met l yX3_handOver wsX3_handOver ({ frames := 0, cells := 0, slots := 0, locals := 0 }) (cPc [.ref (a 0), .null, .int half] D cs (([] ++ wH a (k 0) cs Z) ++ []) sz) (k2_QcV (.int (sc_X3_handOver_n Z half))) 0 0 (fun _ => False) := by
  refine c_in (P := pH a) (cc := cX3_handOver) (maxL := 3) (ret := (some .int)) (lv := [(0, .ref (a 0)), (1, .null), (2, .int half)]) (by decide) rfl (Nat.le_of_ble_eq_true rfl) rfl ?_
  intro p e s m below meth c ls S hr hlocks hin hsz hP hK hl hS
  subst hsz
  obtain ⟨hx, hb, hml, hown, hts⟩ := id S
  refine lv_aload_nN hx hb dX3_handOver_0 rfl (lv_at hl 1 rfl) ?_
  refine lv_ifnonnullN hx hb dX3_handOver_1 ?_
  refine lv_iconst (v := (-1)) hx hb dX3_handOver_4 (by decide) ?_
  have hsp : sc_X3_handOver_n Z half = (-1) := rfl
  exact W.iret hx hb hr (fun t2 ht2 hW => ⟨by rw [hsp], ht2⟩) (fun q hq => by cases hq) dX3_handOver_5 hlocks
def sc_X3_proveClaim_n (Z : hZ) : Int32 :=
  sc_X3_whyNotClaimed_n Z
set_option maxHeartbeats 4000000 in
set_option maxRecDepth 100000 in
theorem cC_X3_proveClaim_n (l : Launch) (D : va_G) (cs : Nat → ClassId) (k : Nat → Nat) (a : Nat → Nat) (Z : hZ) (sz : Nat) : Met l yX3_proveClaim wsX3_proveClaim ({ frames := 1, cells := 0, slots := 0, locals := 20 }) (cPc [.ref (a 0), .null] D cs (([] ++ wH a (k 0) cs Z) ++ []) sz) (k2_QcV (.int (sc_X3_proveClaim_n Z))) 0 0 (fun _ => False) := by
  refine c_in (P := pH a) (cc := cX3_proveClaim) (maxL := 4) (ret := (some .int)) (lv := [(0, .ref (a 0)), (1, .null)]) (by decide) rfl (Nat.le_of_ble_eq_true rfl) rfl ?_
  intro p e s m below meth c ls S hr hlocks hin hsz hP hK hl hS
  subst hsz
  obtain ⟨hx, hb, hml, hown, hts⟩ := id S
  refine lv_aload_nN hx hb dX3_proveClaim_0 rfl (lv_at hl 1 rfl) ?_
  refine c_rdS S hK (hP) (As := [.null]) (rest := []) (cC_X3_whyNotClaimed_n l D cs k a Z _   ) (cwS 1 hts gX3_proveClaim_X3_whyNotClaimed rfl rfl rfl (by decide +kernel) ⟨Nat.le_of_ble_eq_true rfl, Nat.le_of_ble_eq_true rfl⟩) rfl hl.1 rfl (Nat.le_of_ble_eq_true rfl) dX3_proveClaim_1 ⟨Nat.zero_le _, Nat.zero_le _⟩ ?_
  refine lv_istore_n (lv' := [(2, .int (sc_X3_whyNotClaimed_n Z)), (0, .ref (a 0)), (1, .null)]) hx hb dX3_proveClaim_4 rfl hl (by decide) rfl (fun ls hl => ?_)
  refine lv_iload_n hx hb dX3_proveClaim_5 rfl (lv_at hl 0 rfl) ?_
  refine lv_if_eq (tgt := 11) hx hb dX3_proveClaim_6 (by decide) (fun c_1 => ?_) (fun c_1 => ?_)
  · exact absurd c_1 (by unfold sc_X3_whyNotClaimed_n; decide)
  · refine lv_iload_n hx hb dX3_proveClaim_9 rfl (lv_at hl 0 rfl) ?_
    have hsp : sc_X3_proveClaim_n Z = sc_X3_whyNotClaimed_n Z := rfl
    exact W.iret hx hb hr (fun t2 ht2 hW => ⟨by rw [hsp], ht2⟩) (fun q hq => by cases hq) dX3_proveClaim_10 hlocks
def sc_X3_takeItemOut_n (Z : hZ) (half : Int32) (item : Int32) : Int32 :=
  (-1)
set_option maxHeartbeats 4000000 in
set_option maxRecDepth 100000 in
theorem cC_X3_takeItemOut_n (l : Launch) (D : va_G) (cs : Nat → ClassId) (k : Nat → Nat) (a : Nat → Nat) (Z : hZ) (sz : Nat) (half : Int32) (item : Int32) : Met l yX3_takeItemOut wsX3_takeItemOut ({ frames := 0, cells := 0, slots := 0, locals := 0 }) (cPc [.ref (a 0), .null, .int half, .int item] D cs (([] ++ wH a (k 0) cs Z) ++ []) sz) (k2_QcV (.int (sc_X3_takeItemOut_n Z half item))) 0 0 (fun _ => False) := by
  refine c_in (P := pH a) (cc := cX3_takeItemOut) (maxL := 8) (ret := (some .int)) (lv := [(0, .ref (a 0)), (1, .null), (2, .int half), (3, .int item)]) (by decide) rfl (Nat.le_of_ble_eq_true rfl) rfl ?_
  intro p e s m below meth c ls S hr hlocks hin hsz hP hK hl hS
  subst hsz
  obtain ⟨hx, hb, hml, hown, hts⟩ := id S
  refine lv_aload_nN hx hb dX3_takeItemOut_0 rfl (lv_at hl 1 rfl) ?_
  refine lv_ifnullN (tgt := 14) hx hb dX3_takeItemOut_1 (by decide) ?_
  refine lv_iconst (v := (-1)) hx hb dX3_takeItemOut_14 (by decide) ?_
  have hsp : sc_X3_takeItemOut_n Z half item = (-1) := rfl
  exact W.iret hx hb hr (fun t2 ht2 hW => ⟨by rw [hsp], ht2⟩) (fun q hq => by cases hq) dX3_takeItemOut_15 hlocks
