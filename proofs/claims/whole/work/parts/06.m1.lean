/-! the reference's methods: part 1 (by gen_model.py) -/
theorem tok_of0 {t c : Int32} (hc : ∃ n : Nat, n ≤ 511 ∧ c = nI n) (h1 : ¬ t < 1) (h2 : ¬ c < t) : tok t := by
  obtain ⟨n, hn, rfl⟩ := hc
  have h0 : ¬ t < 0 := fun h => h1 (by
    rw [Int32.lt_iff_toInt_lt] at h ⊢
    have e0 : (0 : Int32).toInt = 0 := by decide
    have e1 : (1 : Int32).toInt = 1 := by decide
    omega)
  obtain ⟨j, hj, rfl⟩ := nI_of (x := t) h0
  refine ⟨j, ?_, rfl⟩
  have := (nI_ltI (a := n) (b := j) (by omega) hj).mpr
  exact Nat.le_trans (Nat.le_of_not_lt (fun h => h2 (this h))) hn
theorem pok_of0 {t : Int32} (h1 : ¬ t < 0) (h2 : ¬ 40 ≤ t) : pok t := by
  obtain ⟨j, hj, rfl⟩ := nI_of (x := t) h1
  refine ⟨j, ?_, rfl⟩
  have := (nI_leI (a := 40) (b := j) (by omega) hj).mpr
  exact Nat.lt_of_not_le (fun h => h2 (this h))
/-- the number of tickets is one -/
def cok (Z : mZ) : Prop := ∃ n : Nat, n ≤ 511 ∧ zh Z 1 = nI n

def sp_isPlace (place : Int32) : Int32 :=
  if place < 0 then
    0
  else
    if 40 ≤ place then
      0
    else
      1
set_option maxHeartbeats 4000000 in
set_option maxRecDepth 100000 in
theorem cM_isPlace (l : Launch) (place : Int32) : Met l yX13_isPlace wsX13_isPlace ({ frames := 0, cells := 0, slots := 0, locals := 0 }) (fun v9 _ => v9 = [.int place].toArray) (k2_QcV (.int (sp_isPlace place))) 0 0 (fun _ => False) := by
  refine s_in (cc := cX13_isPlace) (maxL := 1) (ret := (some .boolean)) (lv := [(0, .int place)]) (by decide) rfl (Nat.le_of_ble_eq_true rfl) rfl ?_
  intro p e s m below meth c ls S hr hlocks hl
  obtain ⟨hx, hb, hml, hown, hts⟩ := id S
  refine lv_iload_n hx hb dX13_isPlace_0 rfl (lv_at hl 0 rfl) ?_
  refine lv_if_lt (tgt := 14) hx hb dX13_isPlace_1 (by decide) (fun c_1 => ?_) (fun c_1 => ?_)
  · refine lv_iconst (v := 0) hx hb dX13_isPlace_14 (by decide) ?_
    have hsp : sp_isPlace place = 0 := by unfold sp_isPlace; rw [if_pos c_1]
    exact W.zret hx hb hr (by decide) (fun t2 ht2 hW => ⟨by rw [hsp], ht2⟩) (fun q hq => by cases hq) dX13_isPlace_15 hlocks
  · refine lv_iload_n hx hb dX13_isPlace_4 rfl (lv_at hl 0 rfl) ?_
    refine lv_bipush (v := 40) hx hb dX13_isPlace_5 (by decide) ?_
    refine lv_icmp_ge (tgt := 14) hx hb dX13_isPlace_7 (by decide) (fun c_2 => ?_) (fun c_2 => ?_)
    · refine lv_iconst (v := 0) hx hb dX13_isPlace_14 (by decide) ?_
      have hsp : sp_isPlace place = 0 := by unfold sp_isPlace; rw [if_neg c_1, if_pos c_2]
      exact W.zret hx hb hr (by decide) (fun t2 ht2 hW => ⟨by rw [hsp], ht2⟩) (fun q hq => by cases hq) dX13_isPlace_15 hlocks
    · refine lv_iconst (v := 1) hx hb dX13_isPlace_10 (by decide) ?_
      refine lv_goto (tgt := 15) hx hb dX13_isPlace_11 (by decide) ?_
      have hsp : sp_isPlace place = 1 := by unfold sp_isPlace; rw [if_neg c_1, if_neg c_2]
      exact W.zret hx hb hr (by decide) (fun t2 ht2 hW => ⟨by rw [hsp], ht2⟩) (fun q hq => by cases hq) dX13_isPlace_15 hlocks
theorem pok_of {t : Int32} (h : ¬ sp_isPlace t = 0) : pok t := by
  unfold sp_isPlace at h
  by_cases h1 : t < 0
  · rw [if_pos h1] at h; exact absurd rfl h
  · by_cases h2 : 40 ≤ t
    · rw [if_neg h1, if_pos h2] at h; exact absurd rfl h
    · exact pok_of0 h1 h2
def sp_isValue (v : Int32) : Int32 :=
  if v < 1 then
    0
  else
    if 1000000 < v then
      0
    else
      1
set_option maxHeartbeats 4000000 in
set_option maxRecDepth 100000 in
theorem cM_isValue (l : Launch) (v : Int32) : Met l yX13_isValue wsX13_isValue ({ frames := 0, cells := 0, slots := 0, locals := 0 }) (fun v9 _ => v9 = [.int v].toArray) (k2_QcV (.int (sp_isValue v))) 0 0 (fun _ => False) := by
  refine s_in (cc := cX13_isValue) (maxL := 1) (ret := (some .boolean)) (lv := [(0, .int v)]) (by decide) rfl (Nat.le_of_ble_eq_true rfl) rfl ?_
  intro p e s m below meth c ls S hr hlocks hl
  obtain ⟨hx, hb, hml, hown, hts⟩ := id S
  refine lv_iload_n hx hb dX13_isValue_0 rfl (lv_at hl 0 rfl) ?_
  refine lv_iconst (v := 1) hx hb dX13_isValue_1 (by decide) ?_
  refine lv_icmp_lt (tgt := 15) hx hb dX13_isValue_2 (by decide) (fun c_1 => ?_) (fun c_1 => ?_)
  · refine lv_iconst (v := 0) hx hb dX13_isValue_15 (by decide) ?_
    have hsp : sp_isValue v = 0 := by unfold sp_isValue; rw [if_pos c_1]
    exact W.zret hx hb hr (by decide) (fun t2 ht2 hW => ⟨by rw [hsp], ht2⟩) (fun q hq => by cases hq) dX13_isValue_16 hlocks
  · refine lv_iload_n hx hb dX13_isValue_5 rfl (lv_at hl 0 rfl) ?_
    refine lv_ldc (v := 1000000) hx hb hown (hts (.constant RX13 52 (1000000)) (by decide +kernel)) dX13_isValue_6 ?_
    refine lv_icmp_gt (tgt := 15) hx hb dX13_isValue_8 (by decide) (fun c_2 => ?_) (fun c_2 => ?_)
    · refine lv_iconst (v := 0) hx hb dX13_isValue_15 (by decide) ?_
      have hsp : sp_isValue v = 0 := by unfold sp_isValue; rw [if_neg c_1, if_pos c_2]
      exact W.zret hx hb hr (by decide) (fun t2 ht2 hW => ⟨by rw [hsp], ht2⟩) (fun q hq => by cases hq) dX13_isValue_16 hlocks
    · refine lv_iconst (v := 1) hx hb dX13_isValue_11 (by decide) ?_
      refine lv_goto (tgt := 16) hx hb dX13_isValue_12 (by decide) ?_
      have hsp : sp_isValue v = 1 := by unfold sp_isValue; rw [if_neg c_1, if_neg c_2]
      exact W.zret hx hb hr (by decide) (fun t2 ht2 hW => ⟨by rw [hsp], ht2⟩) (fun q hq => by cases hq) dX13_isValue_16 hlocks
def sp_cutUp (a : Int64) (b : Int64) : Int32 :=
  (((a + b) - 1) / b).toInt32
set_option maxHeartbeats 4000000 in
set_option maxRecDepth 100000 in
theorem cM_cutUp (l : Launch) (a : Int64) (b : Int64) (hb0 : ¬ b = 0) : Met l yX13_cutUp wsX13_cutUp ({ frames := 0, cells := 0, slots := 0, locals := 0 }) (fun v9 _ => v9 = [.long a, .long b].toArray) (k2_QcV (.int (sp_cutUp a b))) 0 0 (fun _ => False) := by
  refine s_in (cc := cX13_cutUp) (maxL := 4) (ret := (some .int)) (lv := [(0, .long a), (2, .long b)]) (by decide) rfl (Nat.le_of_ble_eq_true rfl) rfl ?_
  intro p e s m below meth c ls S hr hlocks hl
  obtain ⟨hx, hb, hml, hown, hts⟩ := id S
  refine lv_lload_n hx hb dX13_cutUp_0 rfl (lv_at hl 0 rfl) ?_
  refine lv_lload_n hx hb dX13_cutUp_1 rfl (lv_at hl 1 rfl) ?_
  refine lv_ladd hx hb dX13_cutUp_2 ?_
  refine lv_lconst (v := 1) hx hb dX13_cutUp_3 (by decide) ?_
  refine lv_lsub hx hb dX13_cutUp_4 ?_
  refine lv_lload_n hx hb dX13_cutUp_5 rfl (lv_at hl 1 rfl) ?_
  have hdv : ¬ b = 0 := hb0
  refine lv_ldiv hx hb dX13_cutUp_6 hdv ?_
  refine lv_l2i (v := (((a + b) - 1) / b).toInt32) hx hb dX13_cutUp_7 rfl ?_
  have hsp : sp_cutUp a b = (((a + b) - 1) / b).toInt32 := rfl
  exact W.iret hx hb hr (fun t2 ht2 hW => ⟨by rw [hsp], ht2⟩) (fun q hq => by cases hq) dX13_cutUp_8 hlocks
def sp_isTicket (Z : mZ) (t : Int32) : Int32 :=
  if t < 1 then
    0
  else
    if (zh Z 1) < t then
      0
    else
      1
set_option maxHeartbeats 4000000 in
set_option maxRecDepth 100000 in
theorem cM_isTicket (l : Launch) (D : va_G) (cI cJ : ClassId) (ad : Nat → Nat) (Z : mZ) (sz : Nat) (t : Int32) : Met l yX13_isTicket wsX13_isTicket ({ frames := 0, cells := 0, slots := 0, locals := 0 }) (mPc [.ref (ad 0), .int t] D cI cJ ad Z sz) (k2_QcV (.int (sp_isTicket Z t))) 0 0 (fun _ => False) := by
  refine m_in (cc := cX13_isTicket) (maxL := 2) (ret := (some .boolean)) (lv := [(0, .ref (ad 0)), (1, .int t)]) (by decide) rfl (Nat.le_of_ble_eq_true rfl) rfl ?_
  intro p e s m below meth c ls S hr hlocks hin hsz hP hK hl hS
  subst hsz
  obtain ⟨hx, hb, hml, hown, hts⟩ := id S
  have hX12 : ∀ w ∈ wsX120, w ∈ wsX13_isTicket := by decide +kernel
  have hX13 : ∀ w ∈ wsX130, w ∈ wsX13_isTicket := by decide +kernel
  refine lv_iload_n hx hb dX13_isTicket_0 rfl (lv_at hl 1 rfl) ?_
  refine lv_iconst (v := 1) hx hb dX13_isTicket_1 (by decide) ?_
  refine lv_icmp_lt (tgt := 22) hx hb dX13_isTicket_2 (by decide) (fun c_1 => ?_) (fun c_1 => ?_)
  · refine lv_iconst (v := 0) hx hb dX13_isTicket_22 (by decide) ?_
    have hsp : sp_isTicket Z t = 0 := by unfold sp_isTicket; rw [if_pos c_1]
    exact W.zret hx hb hr (by decide) (fun t2 ht2 hW => ⟨by rw [hsp], ht2⟩) (fun q hq => by cases hq) dX13_isTicket_23 hlocks
  · refine lv_iload_n hx hb dX13_isTicket_5 rfl (lv_at hl 1 rfl) ?_
    refine lv_aload_n hx hb dX13_isTicket_6 rfl (lv_at hl 0 rfl) ?_
    refine va_get (D := D) (ci := 11) (v := .ref (ad 1)) (C := RX13) (T := TX13) (N := 6) hx hb hts hX13 hown hK.1 hP 0 rfl rfl 0 (by decide) (hts (.fieldLink RX13 10 "PledgeHouseModel" "now" "LPledgeHouseModel$State;") (by decide +kernel)) (fun _ h9 => h9) rfl dX13_isTicket_7 ?_
    refine va_getN (D := D) (ci := 10) (v := .ref (ad 3)) (C := RX12) (T := TX12) (N := 4) hx hb hts hX12 hown hK.1 hP 1 rfl rfl 0 (by decide) (va_Nw.use rfl hK.2.1) (fun _ h9 => h9) rfl dX13_isTicket_10 ?_
    refine lv_iconst (v := 1) hx hb dX13_isTicket_13 (by decide) ?_
    refine mx_hld hx hb hK.1 hP 1 rfl (by decide) (v := zh Z 1) rfl dX13_isTicket_14 ?_
    refine lv_icmp_gt (tgt := 22) hx hb dX13_isTicket_15 (by decide) (fun c_2 => ?_) (fun c_2 => ?_)
    · refine lv_iconst (v := 0) hx hb dX13_isTicket_22 (by decide) ?_
      have hsp : sp_isTicket Z t = 0 := by unfold sp_isTicket; rw [if_neg c_1, if_pos c_2]
      exact W.zret hx hb hr (by decide) (fun t2 ht2 hW => ⟨by rw [hsp], ht2⟩) (fun q hq => by cases hq) dX13_isTicket_23 hlocks
    · refine lv_iconst (v := 1) hx hb dX13_isTicket_18 (by decide) ?_
      refine lv_goto (tgt := 23) hx hb dX13_isTicket_19 (by decide) ?_
      have hsp : sp_isTicket Z t = 1 := by unfold sp_isTicket; rw [if_neg c_1, if_neg c_2]
      exact W.zret hx hb hr (by decide) (fun t2 ht2 hW => ⟨by rw [hsp], ht2⟩) (fun q hq => by cases hq) dX13_isTicket_23 hlocks
theorem tok_of {Z : mZ} {t : Int32} (hc : cok Z) (h : ¬ sp_isTicket Z t = 0) : tok t := by
  unfold sp_isTicket at h
  by_cases h1 : t < 1
  · rw [if_pos h1] at h; exact absurd rfl h
  · by_cases h2 : zh Z 1 < t
    · rw [if_neg h1, if_pos h2] at h; exact absurd rfl h
    · exact tok_of0 hc h1 h2
def sp_isOpen (Z : mZ) (t : Int32) : Int32 :=
  if (tk Z (tN t) 0) = 0 then
    1
  else
    0
set_option maxHeartbeats 4000000 in
set_option maxRecDepth 100000 in
theorem cM_isOpen (l : Launch) (D : va_G) (cI cJ : ClassId) (ad : Nat → Nat) (Z : mZ) (sz : Nat) (t : Int32) (ht : tok t) : Met l yX13_isOpen wsX13_isOpen ({ frames := 1, cells := 0, slots := 0, locals := 22 }) (mPc [.ref (ad 0), .int t] D cI cJ ad Z sz) (k2_QcV (.int (sp_isOpen Z t))) 0 0 (fun _ => False) := by
  refine m_in (cc := cX13_isOpen) (maxL := 2) (ret := (some .boolean)) (lv := [(0, .ref (ad 0)), (1, .int t)]) (by decide) rfl (Nat.le_of_ble_eq_true rfl) rfl ?_
  intro p e s m below meth c ls S hr hlocks hin hsz hP hK hl hS
  subst hsz
  obtain ⟨hx, hb, hml, hown, hts⟩ := id S
  refine lv_aload_n hx hb dX13_isOpen_0 rfl (lv_at hl 0 rfl) ?_
  refine lv_iload_n hx hb dX13_isOpen_1 rfl (lv_at hl 1 rfl) ?_
  refine lv_iconst (v := 0) hx hb dX13_isOpen_2 (by decide) ?_
  refine m_rd S hK hP (As := [.int t, .int 0]) (rest := []) (cM_of l D cI cJ ad Z _ t 0 ht 0 rfl (by decide)) (cwV 2 hts gX13_isOpen_X13_of rfl rfl rfl (by decide +kernel) ⟨Nat.le_of_ble_eq_true rfl, Nat.le_of_ble_eq_true rfl⟩) rfl hl.1 rfl (Nat.le_of_ble_eq_true rfl) dX13_isOpen_3 ⟨Nat.zero_le _, Nat.zero_le _⟩ ?_
  refine lv_if_ne (tgt := 13) hx hb dX13_isOpen_6 (by decide) (fun c_1 => ?_) (fun c_1 => ?_)
  · refine lv_iconst (v := 0) hx hb dX13_isOpen_13 (by decide) ?_
    have hsp : sp_isOpen Z t = 0 := by unfold sp_isOpen; rw [if_neg c_1]
    exact W.zret hx hb hr (by decide) (fun t2 ht2 hW => ⟨by rw [hsp], ht2⟩) (fun q hq => by cases hq) dX13_isOpen_14 hlocks
  · refine lv_iconst (v := 1) hx hb dX13_isOpen_9 (by decide) ?_
    refine lv_goto (tgt := 14) hx hb dX13_isOpen_10 (by decide) ?_
    have hsp : sp_isOpen Z t = 1 := by unfold sp_isOpen; rw [if_pos c_1]
    exact W.zret hx hb hr (by decide) (fun t2 ht2 hW => ⟨by rw [hsp], ht2⟩) (fun q hq => by cases hq) dX13_isOpen_14 hlocks
def sp_isFree (Z : mZ) (t : Int32) : Int32 :=
  if (sp_isOpen Z t) = 0 then
    0
  else
    if (tk Z (tN t) 7) = 0 then
      1
    else
      0
set_option maxHeartbeats 4000000 in
set_option maxRecDepth 100000 in
theorem cM_isFree (l : Launch) (D : va_G) (cI cJ : ClassId) (ad : Nat → Nat) (Z : mZ) (sz : Nat) (t : Int32) (ht : tok t) : Met l yX13_isFree wsX13_isFree ({ frames := 2, cells := 0, slots := 0, locals := 43 }) (mPc [.ref (ad 0), .int t] D cI cJ ad Z sz) (k2_QcV (.int (sp_isFree Z t))) 0 0 (fun _ => False) := by
  refine m_in (cc := cX13_isFree) (maxL := 2) (ret := (some .boolean)) (lv := [(0, .ref (ad 0)), (1, .int t)]) (by decide) rfl (Nat.le_of_ble_eq_true rfl) rfl ?_
  intro p e s m below meth c ls S hr hlocks hin hsz hP hK hl hS
  subst hsz
  obtain ⟨hx, hb, hml, hown, hts⟩ := id S
  refine lv_aload_n hx hb dX13_isFree_0 rfl (lv_at hl 0 rfl) ?_
  refine lv_iload_n hx hb dX13_isFree_1 rfl (lv_at hl 1 rfl) ?_
  refine m_rd S hK hP (As := [.int t]) (rest := []) (cM_isOpen l D cI cJ ad Z _ t ht) (cwV 1 hts gX13_isFree_X13_isOpen rfl rfl rfl (by decide +kernel) ⟨Nat.le_of_ble_eq_true rfl, Nat.le_of_ble_eq_true rfl⟩) rfl hl.1 rfl (Nat.le_of_ble_eq_true rfl) dX13_isFree_2 ⟨Nat.zero_le _, Nat.zero_le _⟩ ?_
  refine lv_if_eq (tgt := 22) hx hb dX13_isFree_5 (by decide) (fun c_1 => ?_) (fun c_1 => ?_)
  · refine lv_iconst (v := 0) hx hb dX13_isFree_22 (by decide) ?_
    have hsp : sp_isFree Z t = 0 := by unfold sp_isFree; rw [if_pos c_1]
    exact W.zret hx hb hr (by decide) (fun t2 ht2 hW => ⟨by rw [hsp], ht2⟩) (fun q hq => by cases hq) dX13_isFree_23 hlocks
  · refine lv_aload_n hx hb dX13_isFree_8 rfl (lv_at hl 0 rfl) ?_
    refine lv_iload_n hx hb dX13_isFree_9 rfl (lv_at hl 1 rfl) ?_
    refine lv_bipush (v := 7) hx hb dX13_isFree_10 (by decide) ?_
    refine m_rd S hK hP (As := [.int t, .int 7]) (rest := []) (cM_of l D cI cJ ad Z _ t 7 ht 7 rfl (by decide)) (cwV 2 hts gX13_isFree_X13_of rfl rfl rfl (by decide +kernel) ⟨Nat.le_of_ble_eq_true rfl, Nat.le_of_ble_eq_true rfl⟩) rfl hl.1 rfl (Nat.le_of_ble_eq_true rfl) dX13_isFree_12 ⟨Nat.zero_le _, Nat.zero_le _⟩ ?_
    refine lv_if_ne (tgt := 22) hx hb dX13_isFree_15 (by decide) (fun c_2 => ?_) (fun c_2 => ?_)
    · refine lv_iconst (v := 0) hx hb dX13_isFree_22 (by decide) ?_
      have hsp : sp_isFree Z t = 0 := by unfold sp_isFree; rw [if_neg c_1, if_neg c_2]
      exact W.zret hx hb hr (by decide) (fun t2 ht2 hW => ⟨by rw [hsp], ht2⟩) (fun q hq => by cases hq) dX13_isFree_23 hlocks
    · refine lv_iconst (v := 1) hx hb dX13_isFree_18 (by decide) ?_
      refine lv_goto (tgt := 23) hx hb dX13_isFree_19 (by decide) ?_
      have hsp : sp_isFree Z t = 1 := by unfold sp_isFree; rw [if_neg c_1, if_pos c_2]
      exact W.zret hx hb hr (by decide) (fun t2 ht2 hW => ⟨by rw [hsp], ht2⟩) (fun q hq => by cases hq) dX13_isFree_23 hlocks
def sp_owed (Z : mZ) (t : Int32) : Int32 :=
  (tk Z (tN t) 1) + (tk Z (tN t) 2)
set_option maxHeartbeats 4000000 in
set_option maxRecDepth 100000 in
theorem cM_owed (l : Launch) (D : va_G) (cI cJ : ClassId) (ad : Nat → Nat) (Z : mZ) (sz : Nat) (t : Int32) (ht : tok t) : Met l yX13_owed wsX13_owed ({ frames := 1, cells := 0, slots := 0, locals := 22 }) (mPc [.ref (ad 0), .int t] D cI cJ ad Z sz) (k2_QcV (.int (sp_owed Z t))) 0 0 (fun _ => False) := by
  refine m_in (cc := cX13_owed) (maxL := 2) (ret := (some .int)) (lv := [(0, .ref (ad 0)), (1, .int t)]) (by decide) rfl (Nat.le_of_ble_eq_true rfl) rfl ?_
  intro p e s m below meth c ls S hr hlocks hin hsz hP hK hl hS
  subst hsz
  obtain ⟨hx, hb, hml, hown, hts⟩ := id S
  refine lv_aload_n hx hb dX13_owed_0 rfl (lv_at hl 0 rfl) ?_
  refine lv_iload_n hx hb dX13_owed_1 rfl (lv_at hl 1 rfl) ?_
  refine lv_iconst (v := 1) hx hb dX13_owed_2 (by decide) ?_
  refine m_rd S hK hP (As := [.int t, .int 1]) (rest := []) (cM_of l D cI cJ ad Z _ t 1 ht 1 rfl (by decide)) (cwV 2 hts gX13_owed_X13_of rfl rfl rfl (by decide +kernel) ⟨Nat.le_of_ble_eq_true rfl, Nat.le_of_ble_eq_true rfl⟩) rfl hl.1 rfl (Nat.le_of_ble_eq_true rfl) dX13_owed_3 ⟨Nat.zero_le _, Nat.zero_le _⟩ ?_
  refine lv_aload_n hx hb dX13_owed_6 rfl (lv_at hl 0 rfl) ?_
  refine lv_iload_n hx hb dX13_owed_7 rfl (lv_at hl 1 rfl) ?_
  refine lv_iconst (v := 2) hx hb dX13_owed_8 (by decide) ?_
  refine m_rd S hK hP (As := [.int t, .int 2]) (rest := [.int (tk Z (tN t) 1)]) (cM_of l D cI cJ ad Z _ t 2 ht 2 rfl (by decide)) (cwV 2 hts gX13_owed_X13_of rfl rfl rfl (by decide +kernel) ⟨Nat.le_of_ble_eq_true rfl, Nat.le_of_ble_eq_true rfl⟩) rfl hl.1 rfl (Nat.le_of_ble_eq_true rfl) dX13_owed_9 ⟨Nat.zero_le _, Nat.zero_le _⟩ ?_
  refine lv_iadd hx hb dX13_owed_12 ?_
  have hsp : sp_owed Z t = (tk Z (tN t) 1) + (tk Z (tN t) 2) := rfl
  exact W.iret hx hb hr (fun t2 ht2 hW => ⟨by rw [hsp], ht2⟩) (fun q hq => by cases hq) dX13_owed_13 hlocks
def sp_isClaimed (Z : mZ) (t : Int32) : Int32 :=
  if (tk Z (tN t) 8) = (-1) then
    0
  else
    1
set_option maxHeartbeats 4000000 in
set_option maxRecDepth 100000 in
theorem cM_isClaimed (l : Launch) (D : va_G) (cI cJ : ClassId) (ad : Nat → Nat) (Z : mZ) (sz : Nat) (t : Int32) (ht : tok t) : Met l yX13_isClaimed wsX13_isClaimed ({ frames := 1, cells := 0, slots := 0, locals := 22 }) (mPc [.ref (ad 0), .int t] D cI cJ ad Z sz) (k2_QcV (.int (sp_isClaimed Z t))) 0 0 (fun _ => False) := by
  refine m_in (cc := cX13_isClaimed) (maxL := 2) (ret := (some .boolean)) (lv := [(0, .ref (ad 0)), (1, .int t)]) (by decide) rfl (Nat.le_of_ble_eq_true rfl) rfl ?_
  intro p e s m below meth c ls S hr hlocks hin hsz hP hK hl hS
  subst hsz
  obtain ⟨hx, hb, hml, hown, hts⟩ := id S
  refine lv_aload_n hx hb dX13_isClaimed_0 rfl (lv_at hl 0 rfl) ?_
  refine lv_iload_n hx hb dX13_isClaimed_1 rfl (lv_at hl 1 rfl) ?_
  refine lv_bipush (v := 8) hx hb dX13_isClaimed_2 (by decide) ?_
  refine m_rd S hK hP (As := [.int t, .int 8]) (rest := []) (cM_of l D cI cJ ad Z _ t 8 ht 8 rfl (by decide)) (cwV 2 hts gX13_isClaimed_X13_of rfl rfl rfl (by decide +kernel) ⟨Nat.le_of_ble_eq_true rfl, Nat.le_of_ble_eq_true rfl⟩) rfl hl.1 rfl (Nat.le_of_ble_eq_true rfl) dX13_isClaimed_4 ⟨Nat.zero_le _, Nat.zero_le _⟩ ?_
  refine lv_iconst (v := (-1)) hx hb dX13_isClaimed_7 (by decide) ?_
  refine lv_icmp_eq (tgt := 15) hx hb dX13_isClaimed_8 (by decide) (fun c_1 => ?_) (fun c_1 => ?_)
  · refine lv_iconst (v := 0) hx hb dX13_isClaimed_15 (by decide) ?_
    have hsp : sp_isClaimed Z t = 0 := by unfold sp_isClaimed; rw [if_pos c_1]
    exact W.zret hx hb hr (by decide) (fun t2 ht2 hW => ⟨by rw [hsp], ht2⟩) (fun q hq => by cases hq) dX13_isClaimed_16 hlocks
  · refine lv_iconst (v := 1) hx hb dX13_isClaimed_11 (by decide) ?_
    refine lv_goto (tgt := 16) hx hb dX13_isClaimed_12 (by decide) ?_
    have hsp : sp_isClaimed Z t = 1 := by unfold sp_isClaimed; rw [if_neg c_1]
    exact W.zret hx hb hr (by decide) (fun t2 ht2 hW => ⟨by rw [hsp], ht2⟩) (fun q hq => by cases hq) dX13_isClaimed_16 hlocks
def sp_termEnds (Z : mZ) (t : Int32) : Int32 :=
  (tk Z (tN t) 4) + (30 * (tk Z (tN t) 5))
set_option maxHeartbeats 4000000 in
set_option maxRecDepth 100000 in
theorem cM_termEnds (l : Launch) (D : va_G) (cI cJ : ClassId) (ad : Nat → Nat) (Z : mZ) (sz : Nat) (t : Int32) (ht : tok t) : Met l yX13_termEnds wsX13_termEnds ({ frames := 1, cells := 0, slots := 0, locals := 22 }) (mPc [.ref (ad 0), .int t] D cI cJ ad Z sz) (k2_QcV (.int (sp_termEnds Z t))) 0 0 (fun _ => False) := by
  refine m_in (cc := cX13_termEnds) (maxL := 2) (ret := (some .int)) (lv := [(0, .ref (ad 0)), (1, .int t)]) (by decide) rfl (Nat.le_of_ble_eq_true rfl) rfl ?_
  intro p e s m below meth c ls S hr hlocks hin hsz hP hK hl hS
  subst hsz
  obtain ⟨hx, hb, hml, hown, hts⟩ := id S
  refine lv_aload_n hx hb dX13_termEnds_0 rfl (lv_at hl 0 rfl) ?_
  refine lv_iload_n hx hb dX13_termEnds_1 rfl (lv_at hl 1 rfl) ?_
  refine lv_iconst (v := 4) hx hb dX13_termEnds_2 (by decide) ?_
  refine m_rd S hK hP (As := [.int t, .int 4]) (rest := []) (cM_of l D cI cJ ad Z _ t 4 ht 4 rfl (by decide)) (cwV 2 hts gX13_termEnds_X13_of rfl rfl rfl (by decide +kernel) ⟨Nat.le_of_ble_eq_true rfl, Nat.le_of_ble_eq_true rfl⟩) rfl hl.1 rfl (Nat.le_of_ble_eq_true rfl) dX13_termEnds_3 ⟨Nat.zero_le _, Nat.zero_le _⟩ ?_
  refine lv_bipush (v := 30) hx hb dX13_termEnds_6 (by decide) ?_
  refine lv_aload_n hx hb dX13_termEnds_8 rfl (lv_at hl 0 rfl) ?_
  refine lv_iload_n hx hb dX13_termEnds_9 rfl (lv_at hl 1 rfl) ?_
  refine lv_iconst (v := 5) hx hb dX13_termEnds_10 (by decide) ?_
  refine m_rd S hK hP (As := [.int t, .int 5]) (rest := [.int 30, .int (tk Z (tN t) 4)]) (cM_of l D cI cJ ad Z _ t 5 ht 5 rfl (by decide)) (cwV 2 hts gX13_termEnds_X13_of rfl rfl rfl (by decide +kernel) ⟨Nat.le_of_ble_eq_true rfl, Nat.le_of_ble_eq_true rfl⟩) rfl hl.1 rfl (Nat.le_of_ble_eq_true rfl) dX13_termEnds_11 ⟨Nat.zero_le _, Nat.zero_le _⟩ ?_
  refine lv_imul hx hb dX13_termEnds_14 ?_
  refine lv_iadd hx hb dX13_termEnds_15 ?_
  have hsp : sp_termEnds Z t = (tk Z (tN t) 4) + (30 * (tk Z (tN t) 5)) := rfl
  exact W.iret hx hb hr (fun t2 ht2 hW => ⟨by rw [hsp], ht2⟩) (fun q hq => by cases hq) dX13_termEnds_16 hlocks
def sp_claiming (Z : mZ) (t : Int32) : Int32 :=
  if (sp_isClaimed Z t) = 0 then
    0
  else
    if 0 < ((zh Z 0) - (if (tk Z (tN t) 8) < (sp_termEnds Z t) then (sp_termEnds Z t) else (tk Z (tN t) 8))) then ((zh Z 0) - (if (tk Z (tN t) 8) < (sp_termEnds Z t) then (sp_termEnds Z t) else (tk Z (tN t) 8))) else 0
set_option maxHeartbeats 4000000 in
set_option maxRecDepth 100000 in
theorem cM_claiming (l : Launch) (D : va_G) (cI cJ : ClassId) (ad : Nat → Nat) (Z : mZ) (sz : Nat) (t : Int32) (ht : tok t) : Met l yX13_claiming wsX13_claiming ({ frames := 2, cells := 0, slots := 0, locals := 43 }) (mPc [.ref (ad 0), .int t] D cI cJ ad Z sz) (k2_QcV (.int (sp_claiming Z t))) 0 0 (fun _ => False) := by
  refine m_in (cc := cX13_claiming) (maxL := 2) (ret := (some .int)) (lv := [(0, .ref (ad 0)), (1, .int t)]) (by decide) rfl (Nat.le_of_ble_eq_true rfl) rfl ?_
  intro p e s m below meth c ls S hr hlocks hin hsz hP hK hl hS
  subst hsz
  obtain ⟨hx, hb, hml, hown, hts⟩ := id S
  refine lv_aload_n hx hb dX13_claiming_0 rfl (lv_at hl 0 rfl) ?_
  refine lv_iload_n hx hb dX13_claiming_1 rfl (lv_at hl 1 rfl) ?_
  refine m_rd S hK hP (As := [.int t]) (rest := []) (cM_isClaimed l D cI cJ ad Z _ t ht) (cwV 1 hts gX13_claiming_X13_isClaimed rfl rfl rfl (by decide +kernel) ⟨Nat.le_of_ble_eq_true rfl, Nat.le_of_ble_eq_true rfl⟩) rfl hl.1 rfl (Nat.le_of_ble_eq_true rfl) dX13_claiming_2 ⟨Nat.zero_le _, Nat.zero_le _⟩ ?_
  refine lv_if_ne (tgt := 10) hx hb dX13_claiming_5 (by decide) (fun c_1 => ?_) (fun c_1 => ?_)
  · refine lv_iconst (v := 0) hx hb dX13_claiming_10 (by decide) ?_
    refine lv_aload_n hx hb dX13_claiming_11 rfl (lv_at hl 0 rfl) ?_
    refine m_rd S hK hP (As := []) (rest := [.int 0]) (cM_today l D cI cJ ad Z _) (cwV 0 hts gX13_claiming_X13_today rfl rfl rfl (by decide +kernel) ⟨Nat.le_of_ble_eq_true rfl, Nat.le_of_ble_eq_true rfl⟩) rfl hl.1 rfl (Nat.le_of_ble_eq_true rfl) dX13_claiming_12 ⟨Nat.zero_le _, Nat.zero_le _⟩ ?_
    refine lv_aload_n hx hb dX13_claiming_15 rfl (lv_at hl 0 rfl) ?_
    refine lv_iload_n hx hb dX13_claiming_16 rfl (lv_at hl 1 rfl) ?_
    refine lv_bipush (v := 8) hx hb dX13_claiming_17 (by decide) ?_
    refine m_rd S hK hP (As := [.int t, .int 8]) (rest := [.int (zh Z 0), .int 0]) (cM_of l D cI cJ ad Z _ t 8 ht 8 rfl (by decide)) (cwV 2 hts gX13_claiming_X13_of rfl rfl rfl (by decide +kernel) ⟨Nat.le_of_ble_eq_true rfl, Nat.le_of_ble_eq_true rfl⟩) rfl hl.1 rfl (Nat.le_of_ble_eq_true rfl) dX13_claiming_19 ⟨Nat.zero_le _, Nat.zero_le _⟩ ?_
    refine lv_aload_n hx hb dX13_claiming_22 rfl (lv_at hl 0 rfl) ?_
    refine lv_iload_n hx hb dX13_claiming_23 rfl (lv_at hl 1 rfl) ?_
    refine m_rd S hK hP (As := [.int t]) (rest := [.int (tk Z (tN t) 8), .int (zh Z 0), .int 0]) (cM_termEnds l D cI cJ ad Z _ t ht) (cwV 1 hts gX13_claiming_X13_termEnds rfl rfl rfl (by decide +kernel) ⟨Nat.le_of_ble_eq_true rfl, Nat.le_of_ble_eq_true rfl⟩) rfl hl.1 rfl (Nat.le_of_ble_eq_true rfl) dX13_claiming_24 ⟨Nat.zero_le _, Nat.zero_le _⟩ ?_
    refine va_mmax hx hb (hml.trans hl.1.symm) hown (hts (.methodLink RX13 171 Lib.Math.max.name) (by decide +kernel)) (hts (.static Lib.Math.max.name) (by decide +kernel)) (hts (.initialized "java/lang/Math") (by decide +kernel)) (hts (.code Lib.Math.max.name Lib.Math.max.code 2 (some .int)) (by decide +kernel)) (Nat.le_of_ble_eq_true rfl) (Nat.le_of_ble_eq_true rfl) (Nat.zero_le _) (Nat.zero_le _) dX13_claiming_27 ?_
    refine lv_isub hx hb dX13_claiming_30 ?_
    refine va_mmax hx hb (hml.trans hl.1.symm) hown (hts (.methodLink RX13 171 Lib.Math.max.name) (by decide +kernel)) (hts (.static Lib.Math.max.name) (by decide +kernel)) (hts (.initialized "java/lang/Math") (by decide +kernel)) (hts (.code Lib.Math.max.name Lib.Math.max.code 2 (some .int)) (by decide +kernel)) (Nat.le_of_ble_eq_true rfl) (Nat.le_of_ble_eq_true rfl) (Nat.zero_le _) (Nat.zero_le _) dX13_claiming_31 ?_
    have hsp : sp_claiming Z t = if 0 < ((zh Z 0) - (if (tk Z (tN t) 8) < (sp_termEnds Z t) then (sp_termEnds Z t) else (tk Z (tN t) 8))) then ((zh Z 0) - (if (tk Z (tN t) 8) < (sp_termEnds Z t) then (sp_termEnds Z t) else (tk Z (tN t) 8))) else 0 := by unfold sp_claiming; rw [if_neg c_1]
    exact W.iret hx hb hr (fun t2 ht2 hW => ⟨by rw [hsp], ht2⟩) (fun q hq => by cases hq) dX13_claiming_34 hlocks
  · refine lv_iconst (v := 0) hx hb dX13_claiming_8 (by decide) ?_
    have hsp : sp_claiming Z t = 0 := by unfold sp_claiming; rw [if_pos c_1]
    exact W.iret hx hb hr (fun t2 ht2 hW => ⟨by rw [hsp], ht2⟩) (fun q hq => by cases hq) dX13_claiming_9 hlocks
def sp_firstDay (Z : mZ) (t : Int32) : Int32 :=
  (((sp_termEnds Z t) + (zh Z 3)) + (tk Z (tN t) 9)) + (sp_claiming Z t)
set_option maxHeartbeats 4000000 in
set_option maxRecDepth 100000 in
theorem cM_firstDay (l : Launch) (D : va_G) (cI cJ : ClassId) (ad : Nat → Nat) (Z : mZ) (sz : Nat) (t : Int32) (ht : tok t) : Met l yX13_firstDay wsX13_firstDay ({ frames := 3, cells := 0, slots := 0, locals := 64 }) (mPc [.ref (ad 0), .int t] D cI cJ ad Z sz) (k2_QcV (.int (sp_firstDay Z t))) 0 0 (fun _ => False) := by
  refine m_in (cc := cX13_firstDay) (maxL := 2) (ret := (some .int)) (lv := [(0, .ref (ad 0)), (1, .int t)]) (by decide) rfl (Nat.le_of_ble_eq_true rfl) rfl ?_
  intro p e s m below meth c ls S hr hlocks hin hsz hP hK hl hS
  subst hsz
  obtain ⟨hx, hb, hml, hown, hts⟩ := id S
  refine lv_aload_n hx hb dX13_firstDay_0 rfl (lv_at hl 0 rfl) ?_
  refine lv_iload_n hx hb dX13_firstDay_1 rfl (lv_at hl 1 rfl) ?_
  refine m_rd S hK hP (As := [.int t]) (rest := []) (cM_termEnds l D cI cJ ad Z _ t ht) (cwV 1 hts gX13_firstDay_X13_termEnds rfl rfl rfl (by decide +kernel) ⟨Nat.le_of_ble_eq_true rfl, Nat.le_of_ble_eq_true rfl⟩) rfl hl.1 rfl (Nat.le_of_ble_eq_true rfl) dX13_firstDay_2 ⟨Nat.zero_le _, Nat.zero_le _⟩ ?_
  refine lv_aload_n hx hb dX13_firstDay_5 rfl (lv_at hl 0 rfl) ?_
  refine lv_iconst (v := 0) hx hb dX13_firstDay_6 (by decide) ?_
  refine m_rd S hK hP (As := [.int 0]) (rest := [.int (sp_termEnds Z t)]) (cM_ruleOf l D cI cJ ad Z _ 0 0 rfl (by decide)) (cwV 1 hts gX13_firstDay_X13_ruleOf rfl rfl rfl (by decide +kernel) ⟨Nat.le_of_ble_eq_true rfl, Nat.le_of_ble_eq_true rfl⟩) rfl hl.1 rfl (Nat.le_of_ble_eq_true rfl) dX13_firstDay_7 ⟨Nat.zero_le _, Nat.zero_le _⟩ ?_
  refine lv_iadd hx hb dX13_firstDay_10 ?_
  refine lv_aload_n hx hb dX13_firstDay_11 rfl (lv_at hl 0 rfl) ?_
  refine lv_iload_n hx hb dX13_firstDay_12 rfl (lv_at hl 1 rfl) ?_
  refine lv_bipush (v := 9) hx hb dX13_firstDay_13 (by decide) ?_
  refine m_rd S hK hP (As := [.int t, .int 9]) (rest := [.int ((sp_termEnds Z t) + (zh Z 3))]) (cM_of l D cI cJ ad Z _ t 9 ht 9 rfl (by decide)) (cwV 2 hts gX13_firstDay_X13_of rfl rfl rfl (by decide +kernel) ⟨Nat.le_of_ble_eq_true rfl, Nat.le_of_ble_eq_true rfl⟩) rfl hl.1 rfl (Nat.le_of_ble_eq_true rfl) dX13_firstDay_15 ⟨Nat.zero_le _, Nat.zero_le _⟩ ?_
  refine lv_iadd hx hb dX13_firstDay_18 ?_
  refine lv_aload_n hx hb dX13_firstDay_19 rfl (lv_at hl 0 rfl) ?_
  refine lv_iload_n hx hb dX13_firstDay_20 rfl (lv_at hl 1 rfl) ?_
  refine m_rd S hK hP (As := [.int t]) (rest := [.int (((sp_termEnds Z t) + (zh Z 3)) + (tk Z (tN t) 9))]) (cM_claiming l D cI cJ ad Z _ t ht) (cwV 1 hts gX13_firstDay_X13_claiming rfl rfl rfl (by decide +kernel) ⟨Nat.le_of_ble_eq_true rfl, Nat.le_of_ble_eq_true rfl⟩) rfl hl.1 rfl (Nat.le_of_ble_eq_true rfl) dX13_firstDay_21 ⟨Nat.zero_le _, Nat.zero_le _⟩ ?_
  refine lv_iadd hx hb dX13_firstDay_24 ?_
  have hsp : sp_firstDay Z t = (((sp_termEnds Z t) + (zh Z 3)) + (tk Z (tN t) 9)) + (sp_claiming Z t) := rfl
  exact W.iret hx hb hr (fun t2 ht2 hW => ⟨by rw [hsp], ht2⟩) (fun q hq => by cases hq) dX13_firstDay_25 hlocks
def sp_isForfeit (Z : mZ) (t : Int32) : Int32 :=
  if (sp_isOpen Z t) = 0 then
    0
  else
    if (tk Z (tN t) 7) = 1 then
      1
    else
      0
set_option maxHeartbeats 4000000 in
set_option maxRecDepth 100000 in
theorem cM_isForfeit (l : Launch) (D : va_G) (cI cJ : ClassId) (ad : Nat → Nat) (Z : mZ) (sz : Nat) (t : Int32) (ht : tok t) : Met l yX13_isForfeit wsX13_isForfeit ({ frames := 2, cells := 0, slots := 0, locals := 43 }) (mPc [.ref (ad 0), .int t] D cI cJ ad Z sz) (k2_QcV (.int (sp_isForfeit Z t))) 0 0 (fun _ => False) := by
  refine m_in (cc := cX13_isForfeit) (maxL := 2) (ret := (some .boolean)) (lv := [(0, .ref (ad 0)), (1, .int t)]) (by decide) rfl (Nat.le_of_ble_eq_true rfl) rfl ?_
  intro p e s m below meth c ls S hr hlocks hin hsz hP hK hl hS
  subst hsz
  obtain ⟨hx, hb, hml, hown, hts⟩ := id S
  refine lv_aload_n hx hb dX13_isForfeit_0 rfl (lv_at hl 0 rfl) ?_
  refine lv_iload_n hx hb dX13_isForfeit_1 rfl (lv_at hl 1 rfl) ?_
  refine m_rd S hK hP (As := [.int t]) (rest := []) (cM_isOpen l D cI cJ ad Z _ t ht) (cwV 1 hts gX13_isForfeit_X13_isOpen rfl rfl rfl (by decide +kernel) ⟨Nat.le_of_ble_eq_true rfl, Nat.le_of_ble_eq_true rfl⟩) rfl hl.1 rfl (Nat.le_of_ble_eq_true rfl) dX13_isForfeit_2 ⟨Nat.zero_le _, Nat.zero_le _⟩ ?_
  refine lv_if_eq (tgt := 23) hx hb dX13_isForfeit_5 (by decide) (fun c_1 => ?_) (fun c_1 => ?_)
  · refine lv_iconst (v := 0) hx hb dX13_isForfeit_23 (by decide) ?_
    have hsp : sp_isForfeit Z t = 0 := by unfold sp_isForfeit; rw [if_pos c_1]
    exact W.zret hx hb hr (by decide) (fun t2 ht2 hW => ⟨by rw [hsp], ht2⟩) (fun q hq => by cases hq) dX13_isForfeit_24 hlocks
  · refine lv_aload_n hx hb dX13_isForfeit_8 rfl (lv_at hl 0 rfl) ?_
    refine lv_iload_n hx hb dX13_isForfeit_9 rfl (lv_at hl 1 rfl) ?_
    refine lv_bipush (v := 7) hx hb dX13_isForfeit_10 (by decide) ?_
    refine m_rd S hK hP (As := [.int t, .int 7]) (rest := []) (cM_of l D cI cJ ad Z _ t 7 ht 7 rfl (by decide)) (cwV 2 hts gX13_isForfeit_X13_of rfl rfl rfl (by decide +kernel) ⟨Nat.le_of_ble_eq_true rfl, Nat.le_of_ble_eq_true rfl⟩) rfl hl.1 rfl (Nat.le_of_ble_eq_true rfl) dX13_isForfeit_12 ⟨Nat.zero_le _, Nat.zero_le _⟩ ?_
    refine lv_iconst (v := 1) hx hb dX13_isForfeit_15 (by decide) ?_
    refine lv_icmp_ne (tgt := 23) hx hb dX13_isForfeit_16 (by decide) (fun c_2 => ?_) (fun c_2 => ?_)
    · refine lv_iconst (v := 0) hx hb dX13_isForfeit_23 (by decide) ?_
      have hsp : sp_isForfeit Z t = 0 := by unfold sp_isForfeit; rw [if_neg c_1, if_neg c_2]
      exact W.zret hx hb hr (by decide) (fun t2 ht2 hW => ⟨by rw [hsp], ht2⟩) (fun q hq => by cases hq) dX13_isForfeit_24 hlocks
    · refine lv_iconst (v := 1) hx hb dX13_isForfeit_19 (by decide) ?_
      refine lv_goto (tgt := 24) hx hb dX13_isForfeit_20 (by decide) ?_
      have hsp : sp_isForfeit Z t = 1 := by unfold sp_isForfeit; rw [if_neg c_1, if_pos c_2]
      exact W.zret hx hb hr (by decide) (fun t2 ht2 hW => ⟨by rw [hsp], ht2⟩) (fun q hq => by cases hq) dX13_isForfeit_24 hlocks
def sp_isRight (Z : mZ) (t : Int32) (half : Int32) : Int32 :=
  if half = 0 then
    if (tk Z (tN t) 18) = (-1) then
      0
    else
      if ((zh Z 0) - (tk Z (tN t) 18)) < 14 then
        0
      else
        1
  else
    if (tk Z (tN t) 16) = (-1) then
      if half = (tk Z (tN t) 17) then
        1
      else
        0
    else
      if half ≤ 0 then
        0
      else
        if (half / 1000) = t then
          1
        else
          0
set_option maxHeartbeats 4000000 in
set_option maxRecDepth 100000 in
theorem cM_isRight (l : Launch) (D : va_G) (cI cJ : ClassId) (ad : Nat → Nat) (Z : mZ) (sz : Nat) (t : Int32) (half : Int32) (ht : tok t) : Met l yX13_isRight wsX13_isRight ({ frames := 1, cells := 0, slots := 0, locals := 22 }) (mPc [.ref (ad 0), .int t, .int half] D cI cJ ad Z sz) (k2_QcV (.int (sp_isRight Z t half))) 0 0 (fun _ => False) := by
  refine m_in (cc := cX13_isRight) (maxL := 3) (ret := (some .boolean)) (lv := [(0, .ref (ad 0)), (1, .int t), (2, .int half)]) (by decide) rfl (Nat.le_of_ble_eq_true rfl) rfl ?_
  intro p e s m below meth c ls S hr hlocks hin hsz hP hK hl hS
  subst hsz
  obtain ⟨hx, hb, hml, hown, hts⟩ := id S
  refine lv_iload_n hx hb dX13_isRight_0 rfl (lv_at hl 2 rfl) ?_
  refine lv_if_ne (tgt := 38) hx hb dX13_isRight_1 (by decide) (fun c_1 => ?_) (fun c_1 => ?_)
  · refine lv_aload_n hx hb dX13_isRight_38 rfl (lv_at hl 0 rfl) ?_
    refine lv_iload_n hx hb dX13_isRight_39 rfl (lv_at hl 1 rfl) ?_
    refine lv_bipush (v := 16) hx hb dX13_isRight_40 (by decide) ?_
    refine m_rd S hK hP (As := [.int t, .int 16]) (rest := []) (cM_of l D cI cJ ad Z _ t 16 ht 16 rfl (by decide)) (cwV 2 hts gX13_isRight_X13_of rfl rfl rfl (by decide +kernel) ⟨Nat.le_of_ble_eq_true rfl, Nat.le_of_ble_eq_true rfl⟩) rfl hl.1 rfl (Nat.le_of_ble_eq_true rfl) dX13_isRight_42 ⟨Nat.zero_le _, Nat.zero_le _⟩ ?_
    refine lv_iconst (v := (-1)) hx hb dX13_isRight_45 (by decide) ?_
    refine lv_icmp_ne (tgt := 68) hx hb dX13_isRight_46 (by decide) (fun c_2 => ?_) (fun c_2 => ?_)
    · refine lv_iload_n hx hb dX13_isRight_68 rfl (lv_at hl 2 rfl) ?_
      refine lv_if_le (tgt := 85) hx hb dX13_isRight_69 (by decide) (fun c_3 => ?_) (fun c_3 => ?_)
      · refine lv_iconst (v := 0) hx hb dX13_isRight_85 (by decide) ?_
        have hsp : sp_isRight Z t half = 0 := by unfold sp_isRight; rw [if_neg c_1, if_neg c_2, if_pos c_3]
        exact W.zret hx hb hr (by decide) (fun t2 ht2 hW => ⟨by rw [hsp], ht2⟩) (fun q hq => by cases hq) dX13_isRight_86 hlocks
      · refine lv_iload_n hx hb dX13_isRight_72 rfl (lv_at hl 2 rfl) ?_
        refine lv_sipush (v := 1000) hx hb dX13_isRight_73 (by decide) ?_
        refine lv_idiv hx hb dX13_isRight_76 (by decide) ?_
        refine lv_iload_n hx hb dX13_isRight_77 rfl (lv_at hl 1 rfl) ?_
        refine lv_icmp_ne (tgt := 85) hx hb dX13_isRight_78 (by decide) (fun c_4 => ?_) (fun c_4 => ?_)
        · refine lv_iconst (v := 0) hx hb dX13_isRight_85 (by decide) ?_
          have hsp : sp_isRight Z t half = 0 := by unfold sp_isRight; rw [if_neg c_1, if_neg c_2, if_neg c_3, if_neg c_4]
          exact W.zret hx hb hr (by decide) (fun t2 ht2 hW => ⟨by rw [hsp], ht2⟩) (fun q hq => by cases hq) dX13_isRight_86 hlocks
        · refine lv_iconst (v := 1) hx hb dX13_isRight_81 (by decide) ?_
          refine lv_goto (tgt := 86) hx hb dX13_isRight_82 (by decide) ?_
          have hsp : sp_isRight Z t half = 1 := by unfold sp_isRight; rw [if_neg c_1, if_neg c_2, if_neg c_3, if_pos c_4]
          exact W.zret hx hb hr (by decide) (fun t2 ht2 hW => ⟨by rw [hsp], ht2⟩) (fun q hq => by cases hq) dX13_isRight_86 hlocks
    · refine lv_iload_n hx hb dX13_isRight_49 rfl (lv_at hl 2 rfl) ?_
      refine lv_aload_n hx hb dX13_isRight_50 rfl (lv_at hl 0 rfl) ?_
      refine lv_iload_n hx hb dX13_isRight_51 rfl (lv_at hl 1 rfl) ?_
      refine lv_bipush (v := 17) hx hb dX13_isRight_52 (by decide) ?_
      refine m_rd S hK hP (As := [.int t, .int 17]) (rest := [.int half]) (cM_of l D cI cJ ad Z _ t 17 ht 17 rfl (by decide)) (cwV 2 hts gX13_isRight_X13_of rfl rfl rfl (by decide +kernel) ⟨Nat.le_of_ble_eq_true rfl, Nat.le_of_ble_eq_true rfl⟩) rfl hl.1 rfl (Nat.le_of_ble_eq_true rfl) dX13_isRight_54 ⟨Nat.zero_le _, Nat.zero_le _⟩ ?_
      refine lv_icmp_ne (tgt := 64) hx hb dX13_isRight_57 (by decide) (fun c_5 => ?_) (fun c_5 => ?_)
      · refine lv_iconst (v := 0) hx hb dX13_isRight_64 (by decide) ?_
        refine lv_goto (tgt := 86) hx hb dX13_isRight_65 (by decide) ?_
        have hsp : sp_isRight Z t half = 0 := by unfold sp_isRight; rw [if_neg c_1, if_pos c_2, if_neg c_5]
        exact W.zret hx hb hr (by decide) (fun t2 ht2 hW => ⟨by rw [hsp], ht2⟩) (fun q hq => by cases hq) dX13_isRight_86 hlocks
      · refine lv_iconst (v := 1) hx hb dX13_isRight_60 (by decide) ?_
        refine lv_goto (tgt := 86) hx hb dX13_isRight_61 (by decide) ?_
        have hsp : sp_isRight Z t half = 1 := by unfold sp_isRight; rw [if_neg c_1, if_pos c_2, if_pos c_5]
        exact W.zret hx hb hr (by decide) (fun t2 ht2 hW => ⟨by rw [hsp], ht2⟩) (fun q hq => by cases hq) dX13_isRight_86 hlocks
  · refine lv_aload_n hx hb dX13_isRight_4 rfl (lv_at hl 0 rfl) ?_
    refine lv_iload_n hx hb dX13_isRight_5 rfl (lv_at hl 1 rfl) ?_
    refine lv_bipush (v := 18) hx hb dX13_isRight_6 (by decide) ?_
    refine m_rd S hK hP (As := [.int t, .int 18]) (rest := []) (cM_of l D cI cJ ad Z _ t 18 ht 18 rfl (by decide)) (cwV 2 hts gX13_isRight_X13_of rfl rfl rfl (by decide +kernel) ⟨Nat.le_of_ble_eq_true rfl, Nat.le_of_ble_eq_true rfl⟩) rfl hl.1 rfl (Nat.le_of_ble_eq_true rfl) dX13_isRight_8 ⟨Nat.zero_le _, Nat.zero_le _⟩ ?_
    refine lv_iconst (v := (-1)) hx hb dX13_isRight_11 (by decide) ?_
    refine lv_icmp_eq (tgt := 36) hx hb dX13_isRight_12 (by decide) (fun c_6 => ?_) (fun c_6 => ?_)
    · refine lv_iconst (v := 0) hx hb dX13_isRight_36 (by decide) ?_
      have hsp : sp_isRight Z t half = 0 := by unfold sp_isRight; rw [if_pos c_1, if_pos c_6]
      exact W.zret hx hb hr (by decide) (fun t2 ht2 hW => ⟨by rw [hsp], ht2⟩) (fun q hq => by cases hq) dX13_isRight_37 hlocks
    · refine lv_aload_n hx hb dX13_isRight_15 rfl (lv_at hl 0 rfl) ?_
      refine m_rd S hK hP (As := []) (rest := []) (cM_today l D cI cJ ad Z _) (cwV 0 hts gX13_isRight_X13_today rfl rfl rfl (by decide +kernel) ⟨Nat.le_of_ble_eq_true rfl, Nat.le_of_ble_eq_true rfl⟩) rfl hl.1 rfl (Nat.le_of_ble_eq_true rfl) dX13_isRight_16 ⟨Nat.zero_le _, Nat.zero_le _⟩ ?_
      refine lv_aload_n hx hb dX13_isRight_19 rfl (lv_at hl 0 rfl) ?_
      refine lv_iload_n hx hb dX13_isRight_20 rfl (lv_at hl 1 rfl) ?_
      refine lv_bipush (v := 18) hx hb dX13_isRight_21 (by decide) ?_
      refine m_rd S hK hP (As := [.int t, .int 18]) (rest := [.int (zh Z 0)]) (cM_of l D cI cJ ad Z _ t 18 ht 18 rfl (by decide)) (cwV 2 hts gX13_isRight_X13_of rfl rfl rfl (by decide +kernel) ⟨Nat.le_of_ble_eq_true rfl, Nat.le_of_ble_eq_true rfl⟩) rfl hl.1 rfl (Nat.le_of_ble_eq_true rfl) dX13_isRight_23 ⟨Nat.zero_le _, Nat.zero_le _⟩ ?_
      refine lv_isub hx hb dX13_isRight_26 ?_
      refine lv_bipush (v := 14) hx hb dX13_isRight_27 (by decide) ?_
      refine lv_icmp_lt (tgt := 36) hx hb dX13_isRight_29 (by decide) (fun c_7 => ?_) (fun c_7 => ?_)
      · refine lv_iconst (v := 0) hx hb dX13_isRight_36 (by decide) ?_
        have hsp : sp_isRight Z t half = 0 := by unfold sp_isRight; rw [if_pos c_1, if_neg c_6, if_pos c_7]
        exact W.zret hx hb hr (by decide) (fun t2 ht2 hW => ⟨by rw [hsp], ht2⟩) (fun q hq => by cases hq) dX13_isRight_37 hlocks
      · refine lv_iconst (v := 1) hx hb dX13_isRight_32 (by decide) ?_
        refine lv_goto (tgt := 37) hx hb dX13_isRight_33 (by decide) ?_
        have hsp : sp_isRight Z t half = 1 := by unfold sp_isRight; rw [if_pos c_1, if_neg c_6, if_neg c_7]
        exact W.zret hx hb hr (by decide) (fun t2 ht2 hW => ⟨by rw [hsp], ht2⟩) (fun q hq => by cases hq) dX13_isRight_37 hlocks
def sp_shown (Z : mZ) (t : Int32) (half : Int32) : mZ :=
  if half = 0 then
    Z
  else
    tkp Z (tN t) 18 (-1)
set_option maxHeartbeats 4000000 in
set_option maxRecDepth 100000 in
theorem cM_shown (l : Launch) (D : va_G) (cI cJ : ClassId) (ad : Nat → Nat) (Z : mZ) (sz : Nat) (hi : mI ad) (t : Int32) (half : Int32) (ht : tok t) : Met l yX13_shown wsX13_shown ({ frames := 1, cells := 0, slots := 0, locals := 23 }) (mPc [.ref (ad 0), .int t, .int half] D cI cJ ad Z sz) (mQ D cI cJ ad none (sp_shown Z t half) sz) 0 0 (mA ad sz) := by
  refine m_in (cc := cX13_shown) (maxL := 3) (ret := none) (lv := [(0, .ref (ad 0)), (1, .int t), (2, .int half)]) (by decide) rfl (Nat.le_of_ble_eq_true rfl) rfl ?_
  intro p e s m below meth c ls S hr hlocks hin hsz hP hK hl hS
  subst hsz
  obtain ⟨hx, hb, hml, hown, hts⟩ := id S
  refine lv_iload_n hx hb dX13_shown_0 rfl (lv_at hl 2 rfl) ?_
  refine lv_if_eq (tgt := 12) hx hb dX13_shown_1 (by decide) (fun c_1 => ?_) (fun c_1 => ?_)
  · have hsp : sp_shown Z t half = Z := by unfold sp_shown; rw [if_pos c_1]
    exact W.vret hx hb hr (fun t2 ht2 hW => by rw [hsp]; exact ⟨rfl, by rw [ht2]; exact hP, hS.F ht2⟩) hS.2.2 dX13_shown_12 hlocks
  · refine lv_aload_n hx hb dX13_shown_4 rfl (lv_at hl 0 rfl) ?_
    refine lv_iload_n hx hb dX13_shown_5 rfl (lv_at hl 1 rfl) ?_
    refine lv_bipush (v := 18) hx hb dX13_shown_6 (by decide) ?_
    refine lv_iconst (v := (-1)) hx hb dX13_shown_8 (by decide) ?_
    refine m_wv S hK hP hS (As := [.int t, .int 18, .int (-1)]) (rest := []) (cM_put l D cI cJ ad Z _ hi t 18 (-1) ht 18 rfl (by decide)) (cwV 3 hts gX13_shown_X13_put rfl rfl rfl (by decide +kernel) ⟨Nat.le_of_ble_eq_true rfl, Nat.le_of_ble_eq_true rfl⟩) rfl hl.1 rfl (Nat.le_of_ble_eq_true rfl) dX13_shown_9 ⟨Nat.zero_le _, Nat.zero_le _⟩ (fun H locs hP hS => ?_)
    have hsp : sp_shown Z t half = tkp Z (tN t) 18 (-1) := by unfold sp_shown; rw [if_neg c_1]
    exact W.vret hx hb hr (fun t2 ht2 hW => by rw [hsp]; exact ⟨rfl, by rw [ht2]; exact hP, hS.F ht2⟩) hS.2.2 dX13_shown_12 hlocks
def sp_dropped (Z : mZ) (t : Int32) : mZ :=
  tkp (tkp Z (tN t) 9 ((tk Z (tN t) 9) + (sp_claiming Z t))) (tN t) 8 (-1)
set_option maxHeartbeats 4000000 in
set_option maxRecDepth 100000 in
theorem cM_dropped (l : Launch) (D : va_G) (cI cJ : ClassId) (ad : Nat → Nat) (Z : mZ) (sz : Nat) (hi : mI ad) (t : Int32) (ht : tok t) : Met l yX13_dropped wsX13_dropped ({ frames := 3, cells := 0, slots := 0, locals := 64 }) (mPc [.ref (ad 0), .int t] D cI cJ ad Z sz) (mQ D cI cJ ad none (sp_dropped Z t) sz) 0 0 (mA ad sz) := by
  refine m_in (cc := cX13_dropped) (maxL := 2) (ret := none) (lv := [(0, .ref (ad 0)), (1, .int t)]) (by decide) rfl (Nat.le_of_ble_eq_true rfl) rfl ?_
  intro p e s m below meth c ls S hr hlocks hin hsz hP hK hl hS
  subst hsz
  obtain ⟨hx, hb, hml, hown, hts⟩ := id S
  refine lv_aload_n hx hb dX13_dropped_0 rfl (lv_at hl 0 rfl) ?_
  refine lv_iload_n hx hb dX13_dropped_1 rfl (lv_at hl 1 rfl) ?_
  refine lv_bipush (v := 9) hx hb dX13_dropped_2 (by decide) ?_
  refine lv_aload_n hx hb dX13_dropped_4 rfl (lv_at hl 0 rfl) ?_
  refine lv_iload_n hx hb dX13_dropped_5 rfl (lv_at hl 1 rfl) ?_
  refine lv_bipush (v := 9) hx hb dX13_dropped_6 (by decide) ?_
  refine m_rd S hK hP (As := [.int t, .int 9]) (rest := [.int 9, .int t, .ref (ad 0)]) (cM_of l D cI cJ ad Z _ t 9 ht 9 rfl (by decide)) (cwV 2 hts gX13_dropped_X13_of rfl rfl rfl (by decide +kernel) ⟨Nat.le_of_ble_eq_true rfl, Nat.le_of_ble_eq_true rfl⟩) rfl hl.1 rfl (Nat.le_of_ble_eq_true rfl) dX13_dropped_8 ⟨Nat.zero_le _, Nat.zero_le _⟩ ?_
  refine lv_aload_n hx hb dX13_dropped_11 rfl (lv_at hl 0 rfl) ?_
  refine lv_iload_n hx hb dX13_dropped_12 rfl (lv_at hl 1 rfl) ?_
  refine m_rd S hK hP (As := [.int t]) (rest := [.int (tk Z (tN t) 9), .int 9, .int t, .ref (ad 0)]) (cM_claiming l D cI cJ ad Z _ t ht) (cwV 1 hts gX13_dropped_X13_claiming rfl rfl rfl (by decide +kernel) ⟨Nat.le_of_ble_eq_true rfl, Nat.le_of_ble_eq_true rfl⟩) rfl hl.1 rfl (Nat.le_of_ble_eq_true rfl) dX13_dropped_13 ⟨Nat.zero_le _, Nat.zero_le _⟩ ?_
  refine lv_iadd hx hb dX13_dropped_16 ?_
  refine m_wv S hK hP hS (As := [.int t, .int 9, .int ((tk Z (tN t) 9) + (sp_claiming Z t))]) (rest := []) (cM_put l D cI cJ ad Z _ hi t 9 ((tk Z (tN t) 9) + (sp_claiming Z t)) ht 9 rfl (by decide)) (cwV 3 hts gX13_dropped_X13_put rfl rfl rfl (by decide +kernel) ⟨Nat.le_of_ble_eq_true rfl, Nat.le_of_ble_eq_true rfl⟩) rfl hl.1 rfl (Nat.le_of_ble_eq_true rfl) dX13_dropped_17 ⟨Nat.zero_le _, Nat.zero_le _⟩ (fun H locs hP hS => ?_)
  refine lv_aload_n hx hb dX13_dropped_20 rfl (lv_at hl 0 rfl) ?_
  refine lv_iload_n hx hb dX13_dropped_21 rfl (lv_at hl 1 rfl) ?_
  refine lv_bipush (v := 8) hx hb dX13_dropped_22 (by decide) ?_
  refine lv_iconst (v := (-1)) hx hb dX13_dropped_24 (by decide) ?_
  refine m_wv S hK hP hS (As := [.int t, .int 8, .int (-1)]) (rest := []) (cM_put l D cI cJ ad (tkp Z (tN t) 9 ((tk Z (tN t) 9) + (sp_claiming Z t))) _ hi t 8 (-1) ht 8 rfl (by decide)) (cwV 3 hts gX13_dropped_X13_put rfl rfl rfl (by decide +kernel) ⟨Nat.le_of_ble_eq_true rfl, Nat.le_of_ble_eq_true rfl⟩) rfl hl.1 rfl (Nat.le_of_ble_eq_true rfl) dX13_dropped_25 ⟨Nat.zero_le _, Nat.zero_le _⟩ (fun H locs hP hS => ?_)
  have hsp : sp_dropped Z t = tkp (tkp Z (tN t) 9 ((tk Z (tN t) 9) + (sp_claiming Z t))) (tN t) 8 (-1) := rfl
  exact W.vret hx hb hr (fun t2 ht2 hW => by rw [hsp]; exact ⟨rfl, by rw [ht2]; exact hP, hS.F ht2⟩) hS.2.2 dX13_dropped_28 hlocks
def sp_bare (Z : mZ) (place : Int32) : Int32 :=
  if (sp_isPlace place) = 0 then
    (-1)
  else
    if (sh Z (tN place) 0) = (-1) then
      0
    else
      (-2)
set_option maxHeartbeats 4000000 in
set_option maxRecDepth 100000 in
theorem cM_bare (l : Launch) (D : va_G) (cI cJ : ClassId) (ad : Nat → Nat) (Z : mZ) (sz : Nat) (place : Int32) : Met l yX13_bare wsX13_bare ({ frames := 1, cells := 0, slots := 0, locals := 22 }) (mPc [.ref (ad 0), .int place] D cI cJ ad Z sz) (k2_QcV (.int (sp_bare Z place))) 0 0 (fun _ => False) := by
  refine m_in (cc := cX13_bare) (maxL := 2) (ret := (some .int)) (lv := [(0, .ref (ad 0)), (1, .int place)]) (by decide) rfl (Nat.le_of_ble_eq_true rfl) rfl ?_
  intro p e s m below meth c ls S hr hlocks hin hsz hP hK hl hS
  subst hsz
  obtain ⟨hx, hb, hml, hown, hts⟩ := id S
  refine lv_iload_n hx hb dX13_bare_0 rfl (lv_at hl 1 rfl) ?_
  refine m_st S (As := [.int place]) (rest := []) (cM_isPlace l place ) (cwS 1 hts gX13_bare_X13_isPlace rfl rfl rfl (by decide +kernel) ⟨Nat.le_of_ble_eq_true rfl, Nat.le_of_ble_eq_true rfl⟩) rfl hl.1 rfl (Nat.le_of_ble_eq_true rfl) dX13_bare_1 ⟨Nat.zero_le _, Nat.zero_le _⟩ ?_
  refine lv_if_ne (tgt := 11) hx hb dX13_bare_4 (by decide) (fun c_1 => ?_) (fun c_1 => ?_)
  · refine lv_aload_n hx hb dX13_bare_11 rfl (lv_at hl 0 rfl) ?_
    refine lv_iload_n hx hb dX13_bare_12 rfl (lv_at hl 1 rfl) ?_
    refine lv_iconst (v := 0) hx hb dX13_bare_13 (by decide) ?_
    refine m_rd S hK hP (As := [.int place, .int 0]) (rest := []) (cM_at l D cI cJ ad Z _ place 0 (pok_of c_1) 0 rfl (by decide)) (cwV 2 hts gX13_bare_X13_at rfl rfl rfl (by decide +kernel) ⟨Nat.le_of_ble_eq_true rfl, Nat.le_of_ble_eq_true rfl⟩) rfl hl.1 rfl (Nat.le_of_ble_eq_true rfl) dX13_bare_14 ⟨Nat.zero_le _, Nat.zero_le _⟩ ?_
    refine lv_iconst (v := (-1)) hx hb dX13_bare_17 (by decide) ?_
    refine lv_icmp_eq (tgt := 26) hx hb dX13_bare_18 (by decide) (fun c_2 => ?_) (fun c_2 => ?_)
    · refine lv_iconst (v := 0) hx hb dX13_bare_26 (by decide) ?_
      have hsp : sp_bare Z place = 0 := by unfold sp_bare; rw [if_neg c_1, if_pos c_2]
      exact W.iret hx hb hr (fun t2 ht2 hW => ⟨by rw [hsp], ht2⟩) (fun q hq => by cases hq) dX13_bare_27 hlocks
    · refine lv_bipush (v := (-2)) hx hb dX13_bare_21 (by decide) ?_
      refine lv_goto (tgt := 27) hx hb dX13_bare_23 (by decide) ?_
      have hsp : sp_bare Z place = (-2) := by unfold sp_bare; rw [if_neg c_1, if_neg c_2]
      exact W.iret hx hb hr (fun t2 ht2 hW => ⟨by rw [hsp], ht2⟩) (fun q hq => by cases hq) dX13_bare_27 hlocks
  · refine lv_iconst (v := (-1)) hx hb dX13_bare_7 (by decide) ?_
    refine lv_goto (tgt := 27) hx hb dX13_bare_8 (by decide) ?_
    have hsp : sp_bare Z place = (-1) := by unfold sp_bare; rw [if_pos c_1]
    exact W.iret hx hb hr (fun t2 ht2 hW => ⟨by rw [hsp], ht2⟩) (fun q hq => by cases hq) dX13_bare_27 hlocks
def sp_isPledge (Z : mZ) (place : Int32) : Int32 :=
  if (sh Z (tN place) 0) < 0 then
    0
  else
    if 4 < (sh Z (tN place) 0) then
      0
    else
      1
set_option maxHeartbeats 4000000 in
set_option maxRecDepth 100000 in
theorem cM_isPledge (l : Launch) (D : va_G) (cI cJ : ClassId) (ad : Nat → Nat) (Z : mZ) (sz : Nat) (place : Int32) (hplace : pok place) : Met l yX13_isPledge wsX13_isPledge ({ frames := 1, cells := 0, slots := 0, locals := 22 }) (mPc [.ref (ad 0), .int place] D cI cJ ad Z sz) (k2_QcV (.int (sp_isPledge Z place))) 0 0 (fun _ => False) := by
  refine m_in (cc := cX13_isPledge) (maxL := 2) (ret := (some .boolean)) (lv := [(0, .ref (ad 0)), (1, .int place)]) (by decide) rfl (Nat.le_of_ble_eq_true rfl) rfl ?_
  intro p e s m below meth c ls S hr hlocks hin hsz hP hK hl hS
  subst hsz
  obtain ⟨hx, hb, hml, hown, hts⟩ := id S
  refine lv_aload_n hx hb dX13_isPledge_0 rfl (lv_at hl 0 rfl) ?_
  refine lv_iload_n hx hb dX13_isPledge_1 rfl (lv_at hl 1 rfl) ?_
  refine lv_iconst (v := 0) hx hb dX13_isPledge_2 (by decide) ?_
  refine m_rd S hK hP (As := [.int place, .int 0]) (rest := []) (cM_at l D cI cJ ad Z _ place 0 hplace 0 rfl (by decide)) (cwV 2 hts gX13_isPledge_X13_at rfl rfl rfl (by decide +kernel) ⟨Nat.le_of_ble_eq_true rfl, Nat.le_of_ble_eq_true rfl⟩) rfl hl.1 rfl (Nat.le_of_ble_eq_true rfl) dX13_isPledge_3 ⟨Nat.zero_le _, Nat.zero_le _⟩ ?_
  refine lv_if_lt (tgt := 23) hx hb dX13_isPledge_6 (by decide) (fun c_1 => ?_) (fun c_1 => ?_)
  · refine lv_iconst (v := 0) hx hb dX13_isPledge_23 (by decide) ?_
    have hsp : sp_isPledge Z place = 0 := by unfold sp_isPledge; rw [if_pos c_1]
    exact W.zret hx hb hr (by decide) (fun t2 ht2 hW => ⟨by rw [hsp], ht2⟩) (fun q hq => by cases hq) dX13_isPledge_24 hlocks
  · refine lv_aload_n hx hb dX13_isPledge_9 rfl (lv_at hl 0 rfl) ?_
    refine lv_iload_n hx hb dX13_isPledge_10 rfl (lv_at hl 1 rfl) ?_
    refine lv_iconst (v := 0) hx hb dX13_isPledge_11 (by decide) ?_
    refine m_rd S hK hP (As := [.int place, .int 0]) (rest := []) (cM_at l D cI cJ ad Z _ place 0 hplace 0 rfl (by decide)) (cwV 2 hts gX13_isPledge_X13_at rfl rfl rfl (by decide +kernel) ⟨Nat.le_of_ble_eq_true rfl, Nat.le_of_ble_eq_true rfl⟩) rfl hl.1 rfl (Nat.le_of_ble_eq_true rfl) dX13_isPledge_12 ⟨Nat.zero_le _, Nat.zero_le _⟩ ?_
    refine lv_iconst (v := 4) hx hb dX13_isPledge_15 (by decide) ?_
    refine lv_icmp_gt (tgt := 23) hx hb dX13_isPledge_16 (by decide) (fun c_2 => ?_) (fun c_2 => ?_)
    · refine lv_iconst (v := 0) hx hb dX13_isPledge_23 (by decide) ?_
      have hsp : sp_isPledge Z place = 0 := by unfold sp_isPledge; rw [if_neg c_1, if_pos c_2]
      exact W.zret hx hb hr (by decide) (fun t2 ht2 hW => ⟨by rw [hsp], ht2⟩) (fun q hq => by cases hq) dX13_isPledge_24 hlocks
    · refine lv_iconst (v := 1) hx hb dX13_isPledge_19 (by decide) ?_
      refine lv_goto (tgt := 24) hx hb dX13_isPledge_20 (by decide) ?_
      have hsp : sp_isPledge Z place = 1 := by unfold sp_isPledge; rw [if_neg c_1, if_neg c_2]
      exact W.zret hx hb hr (by decide) (fun t2 ht2 hW => ⟨by rw [hsp], ht2⟩) (fun q hq => by cases hq) dX13_isPledge_24 hlocks
