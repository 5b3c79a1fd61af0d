/-! the reference's methods: part 2, with loops (by gen_model.py) -/
def clr (Z : mZ) (n : Nat) : Nat → mZ
  | 0 => Z
  | i + 1 => shp (clr Z n i) n i 0
theorem ix_add {a b : Int32} {i j : Nat} (ha : a = nI i) (hb : b = nI j) : a + b = nI (i + j) := by rw [ha, hb, nI_add]
theorem clr_h {Z : mZ} {n : Nat} (j : Nat) : ∀ i, zh (clr Z n i) j = zh Z j
  | 0 => rfl
  | i + 1 => clr_h j i
def sp_comes (Z : mZ) (place : Int32) (kind : Int32) : mZ :=
  shp (shp (clr Z (tN place) 16) (tN place) 0 kind) (tN place) 5 (zh Z 0)
set_option maxHeartbeats 4000000 in
set_option maxRecDepth 100000 in
theorem cM_comes (l : Launch) (D : va_G) (cI cJ : ClassId) (ad : Nat → Nat) (Z : mZ) (sz : Nat) (hi : mI ad) (place : Int32) (kind : Int32) (hplace : pok place) : Met l yX13_comes wsX13_comes ({ frames := 1, cells := 0, slots := 0, locals := 23 }) (mPc [.ref (ad 0), .int place, .int kind] D cI cJ ad Z sz) (mQ D cI cJ ad none (sp_comes Z place kind) sz) 0 0 (mA ad sz) := by
  refine m_in (cc := cX13_comes) (maxL := 4) (ret := none) (lv := [(0, .ref (ad 0)), (1, .int place), (2, .int kind)]) (by decide) rfl (Nat.le_of_ble_eq_true rfl) rfl ?_
  intro p e s m below meth c ls S hr hlocks hin hsz hP hK hl hS
  subst hsz
  obtain ⟨hx, hb, hml, hown, hts⟩ := id S
  have loop : ∀ (n i : Nat) (H : Heap) (locs : List Loc) (ls : Array Slot), i + n = 16 → va_P D vwCl (wM ad cI cJ (clr Z (tN place) i)) H → va_S (mA ad s.heap.size) s.heap H locs → lv_has ls 4 [(3, .int (nI i)), (0, .ref (ad 0)), (1, .int place), (2, .int kind)] → W p l e ({ frames := 1, cells := 0, slots := 0, locals := 23 }) s m [.ref (ad 0), .int place, .int kind].toArray below meth c H locs 0 0 (MQ below (mQ D cI cJ ad none (sp_comes Z place kind) s.heap.size) [.ref (ad 0), .int place, .int kind].toArray s 0 0 (mA ad s.heap.size)) (F0 m 2 ls []) := by
    intro n
    induction n with
    | zero =>
      intro i H locs ls hn hP hS hl
      obtain rfl : 16 = i := by omega
      refine lv_iload_n hx hb dX13_comes_2 rfl (lv_at hl 0 rfl) ?_
      refine lv_bipush (v := 16) hx hb dX13_comes_3 (by decide) ?_
      refine lv_icmp_ge (tgt := 21) hx hb dX13_comes_5 (by decide) (fun c_1 => ?_) (fun c_1 => ?_)
      · refine lv_aload_n hx hb dX13_comes_21 rfl (lv_at hl 1 rfl) ?_
        refine lv_iload_n hx hb dX13_comes_22 rfl (lv_at hl 2 rfl) ?_
        refine lv_iconst (v := 0) hx hb dX13_comes_23 (by decide) ?_
        refine lv_iload_n hx hb dX13_comes_24 rfl (lv_at hl 3 rfl) ?_
        refine m_wv S hK hP hS (As := [.int place, .int 0, .int kind]) (rest := []) (cM_set l D cI cJ ad (clr Z (tN place) 16) _ hi place 0 kind hplace 0 rfl (by decide)) (cwV 3 hts gX13_comes_X13_set rfl rfl rfl (by decide +kernel) ⟨Nat.le_of_ble_eq_true rfl, Nat.le_of_ble_eq_true rfl⟩) rfl hl.1 rfl (Nat.le_of_ble_eq_true rfl) dX13_comes_25 ⟨Nat.zero_le _, Nat.zero_le _⟩ (fun H locs hP hS => ?_)
        refine lv_aload_n hx hb dX13_comes_28 rfl (lv_at hl 1 rfl) ?_
        refine lv_iload_n hx hb dX13_comes_29 rfl (lv_at hl 2 rfl) ?_
        refine lv_iconst (v := 5) hx hb dX13_comes_30 (by decide) ?_
        refine lv_aload_n hx hb dX13_comes_31 rfl (lv_at hl 1 rfl) ?_
        refine m_rd S hK hP (As := []) (rest := [.int 5, .int place, .ref (ad 0)]) (met_r (show zh (shp (clr Z (tN place) 16) (tN place) 0 kind) 0 = zh (clr Z (tN place) 16) 0 from zh_shp) (cM_today l D cI cJ ad (shp (clr Z (tN place) 16) (tN place) 0 kind) _)) (cwV 0 hts gX13_comes_X13_today rfl rfl rfl (by decide +kernel) ⟨Nat.le_of_ble_eq_true rfl, Nat.le_of_ble_eq_true rfl⟩) rfl hl.1 rfl (Nat.le_of_ble_eq_true rfl) dX13_comes_32 ⟨Nat.zero_le _, Nat.zero_le _⟩ ?_
        refine m_wv S hK hP hS (As := [.int place, .int 5, .int (zh (clr Z (tN place) 16) 0)]) (rest := []) (cM_set l D cI cJ ad (shp (clr Z (tN place) 16) (tN place) 0 kind) _ hi place 5 (zh (clr Z (tN place) 16) 0) hplace 5 rfl (by decide)) (cwV 3 hts gX13_comes_X13_set rfl rfl rfl (by decide +kernel) ⟨Nat.le_of_ble_eq_true rfl, Nat.le_of_ble_eq_true rfl⟩) rfl hl.1 rfl (Nat.le_of_ble_eq_true rfl) dX13_comes_35 ⟨Nat.zero_le _, Nat.zero_le _⟩ (fun H locs hP hS => ?_)
        have hsp : sp_comes Z place kind = shp (shp (clr Z (tN place) 16) (tN place) 0 kind) (tN place) 5 (zh (clr Z (tN place) 16) 0) := by rw [clr_h]; rfl
        exact W.vret hx hb hr (fun t2 ht2 hW => by rw [hsp]; exact ⟨rfl, by rw [ht2]; exact hP, hS.F ht2⟩) hS.2.2 dX13_comes_38 hlocks
      · exact absurd (show (16 : Int32) ≤ nI 16 by decide) c_1
    | succ n ih =>
      intro i H locs ls hn hP hS hl
      refine lv_iload_n hx hb dX13_comes_2 rfl (lv_at hl 0 rfl) ?_
      refine lv_bipush (v := 16) hx hb dX13_comes_3 (by decide) ?_
      refine lv_icmp_ge (tgt := 21) hx hb dX13_comes_5 (by decide) (fun c_2 => ?_) (fun c_2 => ?_)
      · exact absurd ((nI_leI (a := 16) (b := i) (by omega) (by omega)).mp c_2) (by omega)
      · refine lv_aload_n hx hb dX13_comes_8 rfl (lv_at hl 1 rfl) ?_
        refine lv_iload_n hx hb dX13_comes_9 rfl (lv_at hl 2 rfl) ?_
        refine lv_iload_n hx hb dX13_comes_10 rfl (lv_at hl 0 rfl) ?_
        refine lv_iconst (v := 0) hx hb dX13_comes_11 (by decide) ?_
        refine m_wv S hK hP hS (As := [.int place, .int (nI i), .int 0]) (rest := []) (cM_set l D cI cJ ad (clr Z (tN place) i) _ hi place (nI i) 0 hplace i rfl (by omega)) (cwV 3 hts gX13_comes_X13_set rfl rfl rfl (by decide +kernel) ⟨Nat.le_of_ble_eq_true rfl, Nat.le_of_ble_eq_true rfl⟩) rfl hl.1 rfl (Nat.le_of_ble_eq_true rfl) dX13_comes_12 ⟨Nat.zero_le _, Nat.zero_le _⟩ (fun H locs hP hS => ?_)
        refine lv_iinc (v := (nI i) + 1) (lv' := [(3, .int ((nI i) + 1)), (0, .ref (ad 0)), (1, .int place), (2, .int kind)]) hx hb dX13_comes_15 hl (k := 0) rfl rfl (by decide) rfl (fun ls hl => ?_)
        refine lv_goto (tgt := 2) hx hb dX13_comes_18 (by decide) ?_
        rw [nI_1] at hl
        exact ih (i + 1) H locs ls (by omega) hP hS hl
  refine lv_iconst (v := 0) hx hb dX13_comes_0 (by decide) ?_
  refine lv_istore_n (lv' := [(3, .int 0), (0, .ref (ad 0)), (1, .int place), (2, .int kind)]) hx hb dX13_comes_1 rfl hl (by decide) rfl (fun ls hl => ?_)
  exact loop 16 0 s.heap [] ls (by omega) hP hS hl
def sp_leaves (Z : mZ) (place : Int32) : mZ :=
  sp_comes Z place (-1)
set_option maxHeartbeats 4000000 in
set_option maxRecDepth 100000 in
theorem cM_leaves (l : Launch) (D : va_G) (cI cJ : ClassId) (ad : Nat → Nat) (Z : mZ) (sz : Nat) (hi : mI ad) (place : Int32) (hplace : pok place) : Met l yX13_leaves wsX13_leaves ({ frames := 2, cells := 0, slots := 0, locals := 46 }) (mPc [.ref (ad 0), .int place] D cI cJ ad Z sz) (mQ D cI cJ ad none (sp_leaves Z place) sz) 0 0 (mA ad sz) := by
  refine m_in (cc := cX13_leaves) (maxL := 2) (ret := none) (lv := [(0, .ref (ad 0)), (1, .int place)]) (by decide) rfl (Nat.le_of_ble_eq_true rfl) rfl ?_
  intro p e s m below meth c ls S hr hlocks hin hsz hP hK hl hS
  subst hsz
  obtain ⟨hx, hb, hml, hown, hts⟩ := id S
  refine lv_aload_n hx hb dX13_leaves_0 rfl (lv_at hl 0 rfl) ?_
  refine lv_iload_n hx hb dX13_leaves_1 rfl (lv_at hl 1 rfl) ?_
  refine lv_iconst (v := (-1)) hx hb dX13_leaves_2 (by decide) ?_
  refine m_wv S hK hP hS (As := [.int place, .int (-1)]) (rest := []) (cM_comes l D cI cJ ad Z _ hi place (-1) hplace) (cwV 2 hts gX13_leaves_X13_comes rfl rfl rfl (by decide +kernel) ⟨Nat.le_of_ble_eq_true rfl, Nat.le_of_ble_eq_true rfl⟩) rfl hl.1 rfl (Nat.le_of_ble_eq_true rfl) dX13_leaves_3 ⟨Nat.zero_le _, Nat.zero_le _⟩ (fun H locs hP hS => ?_)
  have hsp : sp_leaves Z place = sp_comes Z place (-1) := rfl
  exact W.vret hx hb hr (fun t2 ht2 hW => by rw [hsp]; exact ⟨rfl, by rw [ht2]; exact hP, hS.F ht2⟩) hS.2.2 dX13_leaves_6 hlocks
def sp_closes (Z : mZ) (t : Int32) (how : Int32) : mZ :=
  sp_leaves (tkp Z (tN t) 0 how) (tk Z (tN t) 15)
set_option maxHeartbeats 4000000 in
set_option maxRecDepth 100000 in
theorem cM_closes (l : Launch) (D : va_G) (cI cJ : ClassId) (ad : Nat → Nat) (Z : mZ) (sz : Nat) (hi : mI ad) (t : Int32) (how : Int32) (ht : tok t) (hpl : pok (tk Z (tN t) 15)) : Met l yX13_closes wsX13_closes ({ frames := 3, cells := 0, slots := 0, locals := 67 }) (mPc [.ref (ad 0), .int t, .int how] D cI cJ ad Z sz) (mQ D cI cJ ad none (sp_closes Z t how) sz) 0 0 (mA ad sz) := by
  refine m_in (cc := cX13_closes) (maxL := 3) (ret := none) (lv := [(0, .ref (ad 0)), (1, .int t), (2, .int how)]) (by decide) rfl (Nat.le_of_ble_eq_true rfl) rfl ?_
  intro p e s m below meth c ls S hr hlocks hin hsz hP hK hl hS
  subst hsz
  obtain ⟨hx, hb, hml, hown, hts⟩ := id S
  refine lv_aload_n hx hb dX13_closes_0 rfl (lv_at hl 0 rfl) ?_
  refine lv_iload_n hx hb dX13_closes_1 rfl (lv_at hl 1 rfl) ?_
  refine lv_iconst (v := 0) hx hb dX13_closes_2 (by decide) ?_
  refine lv_iload_n hx hb dX13_closes_3 rfl (lv_at hl 2 rfl) ?_
  refine m_wv S hK hP hS (As := [.int t, .int 0, .int how]) (rest := []) (cM_put l D cI cJ ad Z _ hi t 0 how ht 0 rfl (by decide)) (cwV 3 hts gX13_closes_X13_put rfl rfl rfl (by decide +kernel) ⟨Nat.le_of_ble_eq_true rfl, Nat.le_of_ble_eq_true rfl⟩) rfl hl.1 rfl (Nat.le_of_ble_eq_true rfl) dX13_closes_4 ⟨Nat.zero_le _, Nat.zero_le _⟩ (fun H locs hP hS => ?_)
  refine lv_aload_n hx hb dX13_closes_7 rfl (lv_at hl 0 rfl) ?_
  refine lv_aload_n hx hb dX13_closes_8 rfl (lv_at hl 0 rfl) ?_
  refine lv_iload_n hx hb dX13_closes_9 rfl (lv_at hl 1 rfl) ?_
  refine lv_bipush (v := 15) hx hb dX13_closes_10 (by decide) ?_
  refine m_rd S hK hP (As := [.int t, .int 15]) (rest := [.ref (ad 0)]) (met_r (show tk (tkp Z (tN t) 0 how) (tN t) 15 = tk Z (tN t) 15 from (tk_ne (by decide))) (cM_of l D cI cJ ad (tkp Z (tN t) 0 how) _ t 15 ht 15 rfl (by decide))) (cwV 2 hts gX13_closes_X13_of rfl rfl rfl (by decide +kernel) ⟨Nat.le_of_ble_eq_true rfl, Nat.le_of_ble_eq_true rfl⟩) rfl hl.1 rfl (Nat.le_of_ble_eq_true rfl) dX13_closes_12 ⟨Nat.zero_le _, Nat.zero_le _⟩ ?_
  refine m_wv S hK hP hS (As := [.int (tk Z (tN t) 15)]) (rest := []) (cM_leaves l D cI cJ ad (tkp Z (tN t) 0 how) _ hi (tk Z (tN t) 15) hpl) (cwV 1 hts gX13_closes_X13_leaves rfl rfl rfl (by decide +kernel) ⟨Nat.le_of_ble_eq_true rfl, Nat.le_of_ble_eq_true rfl⟩) rfl hl.1 rfl (Nat.le_of_ble_eq_true rfl) dX13_closes_15 ⟨Nat.zero_le _, Nat.zero_le _⟩ (fun H locs hP hS => ?_)
  have hsp : sp_closes Z t how = sp_leaves (tkp Z (tN t) 0 how) (tk Z (tN t) 15) := rfl
  exact W.vret hx hb hr (fun t2 ht2 hW => by rw [hsp]; exact ⟨rfl, by rw [ht2]; exact hP, hS.F ht2⟩) hS.2.2 dX13_closes_18 hlocks
def itm (Z : mZ) (n : Nat) : Nat → Int32
  | 0 => 0
  | i + 1 =>
    if (sh Z n (9 + i)) ≤ 0 then
      (itm Z n i) + 0
    else
      (itm Z n i) + 1
def sp_items (Z : mZ) (place : Int32) : Int32 :=
  itm Z (tN place) 6
set_option maxHeartbeats 4000000 in
set_option maxRecDepth 100000 in
theorem cM_items (l : Launch) (D : va_G) (cI cJ : ClassId) (ad : Nat → Nat) (Z : mZ) (sz : Nat) (place : Int32) (hplace : pok place) : Met l yX13_items wsX13_items ({ frames := 1, cells := 0, slots := 0, locals := 22 }) (mPc [.ref (ad 0), .int place] D cI cJ ad Z sz) (k2_QcV (.int (sp_items Z place))) 0 0 (fun _ => False) := by
  refine m_in (cc := cX13_items) (maxL := 4) (ret := (some .int)) (lv := [(0, .ref (ad 0)), (1, .int place)]) (by decide) rfl (Nat.le_of_ble_eq_true rfl) rfl ?_
  intro p e s m below meth c ls S hr hlocks hin hsz hP hK hl hS
  subst hsz
  obtain ⟨hx, hb, hml, hown, hts⟩ := id S
  have loop : ∀ (n i : Nat) (ls : Array Slot), i + n = 6 → lv_has ls 4 [(3, .int (nI i)), (2, .int (itm Z (tN place) i)), (0, .ref (ad 0)), (1, .int place)] → W p l e ({ frames := 1, cells := 0, slots := 0, locals := 22 }) s m [.ref (ad 0), .int place].toArray below meth c s.heap [] 0 0 (MQ below (k2_QcV (.int (sp_items Z place))) [.ref (ad 0), .int place].toArray s 0 0 (fun _ => False)) (F0 m 4 ls []) := by
    intro n
    induction n with
    | zero =>
      intro i ls hn hl
      obtain rfl : 6 = i := by omega
      refine lv_iload_n hx hb dX13_items_4 rfl (lv_at hl 0 rfl) ?_
      refine lv_bipush (v := 6) hx hb dX13_items_5 (by decide) ?_
      refine lv_icmp_ge (tgt := 36) hx hb dX13_items_7 (by decide) (fun c_1 => ?_) (fun c_1 => ?_)
      · refine lv_iload_n hx hb dX13_items_36 rfl (lv_at hl 1 rfl) ?_
        have hsp : sp_items Z place = itm Z (tN place) 6 := rfl
        exact W.iret hx hb hr (fun t2 ht2 hW => ⟨by rw [hsp], ht2⟩) (fun q hq => by cases hq) dX13_items_37 hlocks
      · exact absurd (show (6 : Int32) ≤ nI 6 by decide) c_1
    | succ n ih =>
      intro i ls hn hl
      refine lv_iload_n hx hb dX13_items_4 rfl (lv_at hl 0 rfl) ?_
      refine lv_bipush (v := 6) hx hb dX13_items_5 (by decide) ?_
      refine lv_icmp_ge (tgt := 36) hx hb dX13_items_7 (by decide) (fun c_2 => ?_) (fun c_2 => ?_)
      · exact absurd ((nI_leI (a := 6) (b := i) (by omega) (by omega)).mp c_2) (by omega)
      · refine lv_iload_n hx hb dX13_items_10 rfl (lv_at hl 1 rfl) ?_
        refine lv_aload_n hx hb dX13_items_11 rfl (lv_at hl 2 rfl) ?_
        refine lv_iload_n hx hb dX13_items_12 rfl (lv_at hl 3 rfl) ?_
        refine lv_bipush (v := 9) hx hb dX13_items_13 (by decide) ?_
        refine lv_iload_n hx hb dX13_items_15 rfl (lv_at hl 0 rfl) ?_
        refine lv_iadd hx hb dX13_items_16 ?_
        refine m_rd S hK hP (As := [.int place, .int (9 + (nI i))]) (rest := [.int (itm Z (tN place) i)]) (cM_at l D cI cJ ad Z _ place (9 + (nI i)) hplace (9 + i) (ix_add rfl rfl) (by omega)) (cwV 2 hts gX13_items_X13_at rfl rfl rfl (by decide +kernel) ⟨Nat.le_of_ble_eq_true rfl, Nat.le_of_ble_eq_true rfl⟩) rfl hl.1 rfl (Nat.le_of_ble_eq_true rfl) dX13_items_17 ⟨Nat.zero_le _, Nat.zero_le _⟩ ?_
        refine lv_if_le (tgt := 27) hx hb dX13_items_20 (by decide) (fun c_3 => ?_) (fun c_3 => ?_)
        · refine lv_iconst (v := 0) hx hb dX13_items_27 (by decide) ?_
          refine lv_iadd hx hb dX13_items_28 ?_
          refine lv_istore_n (lv' := [(2, .int ((itm Z (tN place) i) + 0)), (3, .int (nI i)), (0, .ref (ad 0)), (1, .int place)]) hx hb dX13_items_29 rfl hl (by decide) rfl (fun ls hl => ?_)
          refine lv_iinc (v := (nI i) + 1) (lv' := [(3, .int ((nI i) + 1)), (2, .int ((itm Z (tN place) i) + 0)), (0, .ref (ad 0)), (1, .int place)]) hx hb dX13_items_30 hl (k := 1) rfl rfl (by decide) rfl (fun ls hl => ?_)
          refine lv_goto (tgt := 4) hx hb dX13_items_33 (by decide) ?_
          rw [nI_1] at hl
          have e2 : itm Z (tN place) (i + 1) = (itm Z (tN place) i) + 0 := by rw [itm, if_pos c_3]
          exact ih (i + 1) ls (by omega) (by rw [e2]; exact lv_sub hl [0, 1, 2, 3] rfl)
        · refine lv_iconst (v := 1) hx hb dX13_items_23 (by decide) ?_
          refine lv_goto (tgt := 28) hx hb dX13_items_24 (by decide) ?_
          refine lv_iadd hx hb dX13_items_28 ?_
          refine lv_istore_n (lv' := [(2, .int ((itm Z (tN place) i) + 1)), (3, .int (nI i)), (0, .ref (ad 0)), (1, .int place)]) hx hb dX13_items_29 rfl hl (by decide) rfl (fun ls hl => ?_)
          refine lv_iinc (v := (nI i) + 1) (lv' := [(3, .int ((nI i) + 1)), (2, .int ((itm Z (tN place) i) + 1)), (0, .ref (ad 0)), (1, .int place)]) hx hb dX13_items_30 hl (k := 1) rfl rfl (by decide) rfl (fun ls hl => ?_)
          refine lv_goto (tgt := 4) hx hb dX13_items_33 (by decide) ?_
          rw [nI_1] at hl
          have e2 : itm Z (tN place) (i + 1) = (itm Z (tN place) i) + 1 := by rw [itm, if_neg c_3]
          exact ih (i + 1) ls (by omega) (by rw [e2]; exact lv_sub hl [0, 1, 2, 3] rfl)
  refine lv_iconst (v := 0) hx hb dX13_items_0 (by decide) ?_
  refine lv_istore_n (lv' := [(2, .int 0), (0, .ref (ad 0)), (1, .int place)]) hx hb dX13_items_1 rfl hl (by decide) rfl (fun ls hl => ?_)
  refine lv_iconst (v := 0) hx hb dX13_items_2 (by decide) ?_
  refine lv_istore_n (lv' := [(3, .int 0), (2, .int 0), (0, .ref (ad 0)), (1, .int place)]) hx hb dX13_items_3 rfl hl (by decide) rfl (fun ls hl => ?_)
  exact loop 6 0 ls (by omega) hl
theorem sw_eq {x : Int32} {n : Int} {v : Int32} (hv : v.toInt = n) (h : x.toInt = n) : x = v := Int32.toInt_inj.mp (h.trans hv.symm)
def lot (Z : mZ) (n : Nat) : Nat → Int64
  | 0 => 0
  | i + 1 =>
    (lot Z n i) + ((sh Z n (9 + i)).toInt64)
def sp_worth (Z : mZ) (place : Int32) : Int64 :=
  if (sh Z (tN place) 0) = 0 then
    (sh Z (tN place) 2).toInt64
  else
    if (sh Z (tN place) 0) = 1 then
      ((((sh Z (tN place) 6).toInt64) * ((sh Z (tN place) 4).toInt64)) * ((zh Z 6).toInt64)) / 1000000
    else
      if (sh Z (tN place) 0) = 2 then
        lot Z (tN place) 6
      else
        if (sh Z (tN place) 0) = 3 then
          if 0 < (1000 - (((sh Z (tN place) 4).toInt64) * ((((zh Z 0) - (sh Z (tN place) 5)) / 360).toInt64))) then
            (((sh Z (tN place) 2).toInt64) * (1000 - (((sh Z (tN place) 4).toInt64) * ((((zh Z 0) - (sh Z (tN place) 5)) / 360).toInt64)))) / 1000
          else
            0
        else
          if (sh Z (tN place) 0) = 4 then
            if 2 ≤ (sh Z (tN place) 8) then
              (if (sh Z (tN place) 3) < (sh Z (tN place) 2) then (sh Z (tN place) 3) else (sh Z (tN place) 2)).toInt64
            else
              0
          else
            0
set_option maxHeartbeats 4000000 in
set_option maxRecDepth 100000 in
theorem cM_worth (l : Launch) (D : va_G) (cI cJ : ClassId) (ad : Nat → Nat) (Z : mZ) (sz : Nat) (place : Int32) (hplace : pok place) : Met l yX13_worth wsX13_worth ({ frames := 1, cells := 0, slots := 0, locals := 22 }) (mPc [.ref (ad 0), .int place] D cI cJ ad Z sz) (k2_QcV (.long (sp_worth Z place))) 0 0 (fun _ => False) := by
  refine m_in (cc := cX13_worth) (maxL := 5) (ret := (some .long)) (lv := [(0, .ref (ad 0)), (1, .int place)]) (by decide) rfl (Nat.le_of_ble_eq_true rfl) rfl ?_
  intro p e s m below meth c ls S hr hlocks hin hsz hP hK hl hS
  subst hsz
  obtain ⟨hx, hb, hml, hown, hts⟩ := id S
  have loop : ∀ (n i : Nat) (ls : Array Slot), i + n = 6 → sp_worth Z place = lot Z (tN place) 6 → lv_has ls 5 [(4, .int (nI i)), (2, .long (lot Z (tN place) i)), (0, .ref (ad 0)), (1, .int place)] → W p l e ({ frames := 1, cells := 0, slots := 0, locals := 22 }) s m [.ref (ad 0), .int place].toArray below meth c s.heap [] 0 0 (MQ below (k2_QcV (.long (sp_worth Z place))) [.ref (ad 0), .int place].toArray s 0 0 (fun _ => False)) (F0 m 81 ls []) := by
    intro n
    induction n with
    | zero =>
      intro i ls hn hy hl
      obtain rfl : 6 = i := by omega
      refine lv_iload hx hb dX13_worth_81 (lv_at hl 0 rfl) ?_
      refine lv_bipush (v := 6) hx hb dX13_worth_83 (by decide) ?_
      refine lv_icmp_ge (tgt := 108) hx hb dX13_worth_85 (by decide) (fun c_1 => ?_) (fun c_1 => ?_)
      · refine lv_lload_n hx hb dX13_worth_108 rfl (lv_at hl 1 rfl) ?_
        have hsp : sp_worth Z place = lot Z (tN place) 6 := hy
        exact W.lret hx hb hr (fun t2 ht2 hW => ⟨by rw [hsp], ht2⟩) (fun q hq => by cases hq) dX13_worth_109 hlocks
      · exact absurd (show (6 : Int32) ≤ nI 6 by decide) c_1
    | succ n ih =>
      intro i ls hn hy hl
      refine lv_iload hx hb dX13_worth_81 (lv_at hl 0 rfl) ?_
      refine lv_bipush (v := 6) hx hb dX13_worth_83 (by decide) ?_
      refine lv_icmp_ge (tgt := 108) hx hb dX13_worth_85 (by decide) (fun c_2 => ?_) (fun c_2 => ?_)
      · exact absurd ((nI_leI (a := 6) (b := i) (by omega) (by omega)).mp c_2) (by omega)
      · refine lv_lload_n hx hb dX13_worth_88 rfl (lv_at hl 1 rfl) ?_
        refine lv_aload_n hx hb dX13_worth_89 rfl (lv_at hl 2 rfl) ?_
        refine lv_iload_n hx hb dX13_worth_90 rfl (lv_at hl 3 rfl) ?_
        refine lv_bipush (v := 9) hx hb dX13_worth_91 (by decide) ?_
        refine lv_iload hx hb dX13_worth_93 (lv_at hl 0 rfl) ?_
        refine lv_iadd hx hb dX13_worth_95 ?_
        refine m_rd S hK hP (As := [.int place, .int (9 + (nI i))]) (rest := [.long (lot Z (tN place) i)]) (cM_at l D cI cJ ad Z _ place (9 + (nI i)) hplace (9 + i) (ix_add rfl rfl) (by omega)) (cwV 2 hts gX13_worth_X13_at rfl rfl rfl (by decide +kernel) ⟨Nat.le_of_ble_eq_true rfl, Nat.le_of_ble_eq_true rfl⟩) rfl hl.1 rfl (Nat.le_of_ble_eq_true rfl) dX13_worth_96 ⟨Nat.zero_le _, Nat.zero_le _⟩ ?_
        refine lv_i2l (v := (sh Z (tN place) (9 + i)).toInt64) hx hb dX13_worth_99 rfl ?_
        refine lv_ladd hx hb dX13_worth_100 ?_
        refine lv_lstore_n (lv' := [(2, .long ((lot Z (tN place) i) + ((sh Z (tN place) (9 + i)).toInt64))), (4, .int (nI i)), (0, .ref (ad 0)), (1, .int place)]) hx hb dX13_worth_101 rfl hl (by decide) rfl (fun ls hl => ?_)
        refine lv_iinc (v := (nI i) + 1) (lv' := [(4, .int ((nI i) + 1)), (2, .long ((lot Z (tN place) i) + ((sh Z (tN place) (9 + i)).toInt64))), (0, .ref (ad 0)), (1, .int place)]) hx hb dX13_worth_102 hl (k := 1) rfl rfl (by decide) rfl (fun ls hl => ?_)
        refine lv_goto (tgt := 81) hx hb dX13_worth_105 (by decide) ?_
        rw [nI_1] at hl
        have e2 : lot Z (tN place) (i + 1) = (lot Z (tN place) i) + ((sh Z (tN place) (9 + i)).toInt64) := by rw [lot]
        exact ih (i + 1) ls (by omega) hy (by rw [e2]; exact lv_sub hl [0, 1, 2, 3] rfl)
  refine lv_aload_n hx hb dX13_worth_0 rfl (lv_at hl 0 rfl) ?_
  refine lv_iload_n hx hb dX13_worth_1 rfl (lv_at hl 1 rfl) ?_
  refine lv_iconst (v := 0) hx hb dX13_worth_2 (by decide) ?_
  refine m_rd S hK hP (As := [.int place, .int 0]) (rest := []) (cM_at l D cI cJ ad Z _ place 0 hplace 0 rfl (by decide)) (cwV 2 hts gX13_worth_X13_at rfl rfl rfl (by decide +kernel) ⟨Nat.le_of_ble_eq_true rfl, Nat.le_of_ble_eq_true rfl⟩) rfl hl.1 rfl (Nat.le_of_ble_eq_true rfl) dX13_worth_3 ⟨Nat.zero_le _, Nat.zero_le _⟩ ?_
  by_cases c_3 : (sh Z (tN place) 0) = 0
  · refine lv_tableIn (off := 34) (tgt := 40) hx hb dX13_worth_6 (by rw [c_3]; decide) (by rw [c_3]; decide) (by rw [c_3]; rfl) (by decide) ?_
    refine lv_aload_n hx hb dX13_worth_40 rfl (lv_at hl 0 rfl) ?_
    refine lv_iload_n hx hb dX13_worth_41 rfl (lv_at hl 1 rfl) ?_
    refine lv_iconst (v := 2) hx hb dX13_worth_42 (by decide) ?_
    refine m_rd S hK hP (As := [.int place, .int 2]) (rest := []) (cM_at l D cI cJ ad Z _ place 2 hplace 2 rfl (by decide)) (cwV 2 hts gX13_worth_X13_at rfl rfl rfl (by decide +kernel) ⟨Nat.le_of_ble_eq_true rfl, Nat.le_of_ble_eq_true rfl⟩) rfl hl.1 rfl (Nat.le_of_ble_eq_true rfl) dX13_worth_43 ⟨Nat.zero_le _, Nat.zero_le _⟩ ?_
    refine lv_i2l (v := (sh Z (tN place) 2).toInt64) hx hb dX13_worth_46 rfl ?_
    have hsp : sp_worth Z place = (sh Z (tN place) 2).toInt64 := by unfold sp_worth; rw [if_pos c_3]
    exact W.lret hx hb hr (fun t2 ht2 hW => ⟨by rw [hsp], ht2⟩) (fun q hq => by cases hq) dX13_worth_47 hlocks
  by_cases c_4 : (sh Z (tN place) 0) = 1
  · refine lv_tableIn (off := 42) (tgt := 48) hx hb dX13_worth_6 (by rw [c_4]; decide) (by rw [c_4]; decide) (by rw [c_4]; rfl) (by decide) ?_
    refine lv_aload_n hx hb dX13_worth_48 rfl (lv_at hl 0 rfl) ?_
    refine lv_iload_n hx hb dX13_worth_49 rfl (lv_at hl 1 rfl) ?_
    refine lv_bipush (v := 6) hx hb dX13_worth_50 (by decide) ?_
    refine m_rd S hK hP (As := [.int place, .int 6]) (rest := []) (cM_at l D cI cJ ad Z _ place 6 hplace 6 rfl (by decide)) (cwV 2 hts gX13_worth_X13_at rfl rfl rfl (by decide +kernel) ⟨Nat.le_of_ble_eq_true rfl, Nat.le_of_ble_eq_true rfl⟩) rfl hl.1 rfl (Nat.le_of_ble_eq_true rfl) dX13_worth_52 ⟨Nat.zero_le _, Nat.zero_le _⟩ ?_
    refine lv_i2l (v := (sh Z (tN place) 6).toInt64) hx hb dX13_worth_55 rfl ?_
    refine lv_aload_n hx hb dX13_worth_56 rfl (lv_at hl 0 rfl) ?_
    refine lv_iload_n hx hb dX13_worth_57 rfl (lv_at hl 1 rfl) ?_
    refine lv_iconst (v := 4) hx hb dX13_worth_58 (by decide) ?_
    refine m_rd S hK hP (As := [.int place, .int 4]) (rest := [.long ((sh Z (tN place) 6).toInt64)]) (cM_at l D cI cJ ad Z _ place 4 hplace 4 rfl (by decide)) (cwV 2 hts gX13_worth_X13_at rfl rfl rfl (by decide +kernel) ⟨Nat.le_of_ble_eq_true rfl, Nat.le_of_ble_eq_true rfl⟩) rfl hl.1 rfl (Nat.le_of_ble_eq_true rfl) dX13_worth_59 ⟨Nat.zero_le _, Nat.zero_le _⟩ ?_
    refine lv_i2l (v := (sh Z (tN place) 4).toInt64) hx hb dX13_worth_62 rfl ?_
    refine lv_lmul hx hb dX13_worth_63 ?_
    refine lv_aload_n hx hb dX13_worth_64 rfl (lv_at hl 0 rfl) ?_
    refine lv_iconst (v := 3) hx hb dX13_worth_65 (by decide) ?_
    refine m_rd S hK hP (As := [.int 3]) (rest := [.long (((sh Z (tN place) 6).toInt64) * ((sh Z (tN place) 4).toInt64))]) (cM_ruleOf l D cI cJ ad Z _ 3 3 rfl (by decide)) (cwV 1 hts gX13_worth_X13_ruleOf rfl rfl rfl (by decide +kernel) ⟨Nat.le_of_ble_eq_true rfl, Nat.le_of_ble_eq_true rfl⟩) rfl hl.1 rfl (Nat.le_of_ble_eq_true rfl) dX13_worth_66 ⟨Nat.zero_le _, Nat.zero_le _⟩ ?_
    refine lv_i2l (v := (zh Z 6).toInt64) hx hb dX13_worth_69 rfl ?_
    refine lv_lmul hx hb dX13_worth_70 ?_
    refine lv_ldc2 (v := 1000000) hx hb hown (hts (.constantLong RX13 126 (1000000)) (by decide +kernel)) dX13_worth_71 ?_
    refine lv_ldiv hx hb dX13_worth_74 (by decide) ?_
    have hsp : sp_worth Z place = ((((sh Z (tN place) 6).toInt64) * ((sh Z (tN place) 4).toInt64)) * ((zh Z 6).toInt64)) / 1000000 := by unfold sp_worth; rw [if_neg c_3, if_pos c_4]
    exact W.lret hx hb hr (fun t2 ht2 hW => ⟨by rw [hsp], ht2⟩) (fun q hq => by cases hq) dX13_worth_75 hlocks
  by_cases c_5 : (sh Z (tN place) 0) = 2
  · refine lv_tableIn (off := 70) (tgt := 76) hx hb dX13_worth_6 (by rw [c_5]; decide) (by rw [c_5]; decide) (by rw [c_5]; rfl) (by decide) ?_
    refine lv_lconst (v := 0) hx hb dX13_worth_76 (by decide) ?_
    refine lv_lstore_n (lv' := [(2, .long 0), (0, .ref (ad 0)), (1, .int place)]) hx hb dX13_worth_77 rfl hl (by decide) rfl (fun ls hl => ?_)
    refine lv_iconst (v := 0) hx hb dX13_worth_78 (by decide) ?_
    refine lv_istore (lv' := [(4, .int 0), (2, .long 0), (0, .ref (ad 0)), (1, .int place)]) hx hb dX13_worth_79 hl (by decide) rfl (fun ls hl => ?_)
    exact loop 6 0 ls (by omega) (by unfold sp_worth; rw [if_neg c_3, if_neg c_4, if_pos c_5]) hl
  by_cases c_6 : (sh Z (tN place) 0) = 3
  · refine lv_tableIn (off := 104) (tgt := 110) hx hb dX13_worth_6 (by rw [c_6]; decide) (by rw [c_6]; decide) (by rw [c_6]; rfl) (by decide) ?_
    refine lv_ldc2 (v := 1000) hx hb hown (hts (.constantLong RX13 61 (1000)) (by decide +kernel)) dX13_worth_110 ?_
    refine lv_aload_n hx hb dX13_worth_113 rfl (lv_at hl 0 rfl) ?_
    refine lv_iload_n hx hb dX13_worth_114 rfl (lv_at hl 1 rfl) ?_
    refine lv_iconst (v := 4) hx hb dX13_worth_115 (by decide) ?_
    refine m_rd S hK hP (As := [.int place, .int 4]) (rest := [.long 1000]) (cM_at l D cI cJ ad Z _ place 4 hplace 4 rfl (by decide)) (cwV 2 hts gX13_worth_X13_at rfl rfl rfl (by decide +kernel) ⟨Nat.le_of_ble_eq_true rfl, Nat.le_of_ble_eq_true rfl⟩) rfl hl.1 rfl (Nat.le_of_ble_eq_true rfl) dX13_worth_116 ⟨Nat.zero_le _, Nat.zero_le _⟩ ?_
    refine lv_i2l (v := (sh Z (tN place) 4).toInt64) hx hb dX13_worth_119 rfl ?_
    refine lv_aload_n hx hb dX13_worth_120 rfl (lv_at hl 0 rfl) ?_
    refine m_rd S hK hP (As := []) (rest := [.long ((sh Z (tN place) 4).toInt64), .long 1000]) (cM_today l D cI cJ ad Z _) (cwV 0 hts gX13_worth_X13_today rfl rfl rfl (by decide +kernel) ⟨Nat.le_of_ble_eq_true rfl, Nat.le_of_ble_eq_true rfl⟩) rfl hl.1 rfl (Nat.le_of_ble_eq_true rfl) dX13_worth_121 ⟨Nat.zero_le _, Nat.zero_le _⟩ ?_
    refine lv_aload_n hx hb dX13_worth_124 rfl (lv_at hl 0 rfl) ?_
    refine lv_iload_n hx hb dX13_worth_125 rfl (lv_at hl 1 rfl) ?_
    refine lv_iconst (v := 5) hx hb dX13_worth_126 (by decide) ?_
    refine m_rd S hK hP (As := [.int place, .int 5]) (rest := [.int (zh Z 0), .long ((sh Z (tN place) 4).toInt64), .long 1000]) (cM_at l D cI cJ ad Z _ place 5 hplace 5 rfl (by decide)) (cwV 2 hts gX13_worth_X13_at rfl rfl rfl (by decide +kernel) ⟨Nat.le_of_ble_eq_true rfl, Nat.le_of_ble_eq_true rfl⟩) rfl hl.1 rfl (Nat.le_of_ble_eq_true rfl) dX13_worth_127 ⟨Nat.zero_le _, Nat.zero_le _⟩ ?_
    refine lv_isub hx hb dX13_worth_130 ?_
    refine lv_sipush (v := 360) hx hb dX13_worth_131 (by decide) ?_
    refine lv_idiv hx hb dX13_worth_134 (by decide) ?_
    refine lv_i2l (v := (((zh Z 0) - (sh Z (tN place) 5)) / 360).toInt64) hx hb dX13_worth_135 rfl ?_
    refine lv_lmul hx hb dX13_worth_136 ?_
    refine lv_lsub hx hb dX13_worth_137 ?_
    refine lv_lstore_n (lv' := [(2, .long (1000 - (((sh Z (tN place) 4).toInt64) * ((((zh Z 0) - (sh Z (tN place) 5)) / 360).toInt64)))), (0, .ref (ad 0)), (1, .int place)]) hx hb dX13_worth_138 rfl hl (by decide) rfl (fun ls hl => ?_)
    refine lv_lload_n hx hb dX13_worth_139 rfl (lv_at hl 0 rfl) ?_
    refine lv_lconst (v := 0) hx hb dX13_worth_140 (by decide) ?_
    refine W.lcmp hx hb dX13_worth_141 ?_
    refine lv_if_gt (tgt := 149) hx hb dX13_worth_142 (by decide) (fun c_7 => ?_) (fun c_7 => ?_)
    · have c_7 := (lg_cmp_gt _ _).mp c_7
      refine lv_aload_n hx hb dX13_worth_149 rfl (lv_at hl 1 rfl) ?_
      refine lv_iload_n hx hb dX13_worth_150 rfl (lv_at hl 2 rfl) ?_
      refine lv_iconst (v := 2) hx hb dX13_worth_151 (by decide) ?_
      refine m_rd S hK hP (As := [.int place, .int 2]) (rest := []) (cM_at l D cI cJ ad Z _ place 2 hplace 2 rfl (by decide)) (cwV 2 hts gX13_worth_X13_at rfl rfl rfl (by decide +kernel) ⟨Nat.le_of_ble_eq_true rfl, Nat.le_of_ble_eq_true rfl⟩) rfl hl.1 rfl (Nat.le_of_ble_eq_true rfl) dX13_worth_152 ⟨Nat.zero_le _, Nat.zero_le _⟩ ?_
      refine lv_i2l (v := (sh Z (tN place) 2).toInt64) hx hb dX13_worth_155 rfl ?_
      refine lv_lload_n hx hb dX13_worth_156 rfl (lv_at hl 0 rfl) ?_
      refine lv_lmul hx hb dX13_worth_157 ?_
      refine lv_ldc2 (v := 1000) hx hb hown (hts (.constantLong RX13 61 (1000)) (by decide +kernel)) dX13_worth_158 ?_
      refine lv_ldiv hx hb dX13_worth_161 (by decide) ?_
      have hsp : sp_worth Z place = (((sh Z (tN place) 2).toInt64) * (1000 - (((sh Z (tN place) 4).toInt64) * ((((zh Z 0) - (sh Z (tN place) 5)) / 360).toInt64)))) / 1000 := by unfold sp_worth; rw [if_neg c_3, if_neg c_4, if_neg c_5, if_pos c_6, if_pos c_7]
      exact W.lret hx hb hr (fun t2 ht2 hW => ⟨by rw [hsp], ht2⟩) (fun q hq => by cases hq) dX13_worth_162 hlocks
    · have c_7 : ¬ 0 < (1000 - (((sh Z (tN place) 4).toInt64) * ((((zh Z 0) - (sh Z (tN place) 5)) / 360).toInt64))) := fun h => c_7 ((lg_cmp_gt _ _).mpr h)
      refine lv_lconst (v := 0) hx hb dX13_worth_145 (by decide) ?_
      refine lv_goto (tgt := 162) hx hb dX13_worth_146 (by decide) ?_
      have hsp : sp_worth Z place = 0 := by unfold sp_worth; rw [if_neg c_3, if_neg c_4, if_neg c_5, if_pos c_6, if_neg c_7]
      exact W.lret hx hb hr (fun t2 ht2 hW => ⟨by rw [hsp], ht2⟩) (fun q hq => by cases hq) dX13_worth_162 hlocks
  by_cases c_8 : (sh Z (tN place) 0) = 4
  · refine lv_tableIn (off := 157) (tgt := 163) hx hb dX13_worth_6 (by rw [c_8]; decide) (by rw [c_8]; decide) (by rw [c_8]; rfl) (by decide) ?_
    refine lv_aload_n hx hb dX13_worth_163 rfl (lv_at hl 0 rfl) ?_
    refine lv_iload_n hx hb dX13_worth_164 rfl (lv_at hl 1 rfl) ?_
    refine lv_bipush (v := 8) hx hb dX13_worth_165 (by decide) ?_
    refine m_rd S hK hP (As := [.int place, .int 8]) (rest := []) (cM_at l D cI cJ ad Z _ place 8 hplace 8 rfl (by decide)) (cwV 2 hts gX13_worth_X13_at rfl rfl rfl (by decide +kernel) ⟨Nat.le_of_ble_eq_true rfl, Nat.le_of_ble_eq_true rfl⟩) rfl hl.1 rfl (Nat.le_of_ble_eq_true rfl) dX13_worth_167 ⟨Nat.zero_le _, Nat.zero_le _⟩ ?_
    refine lv_iconst (v := 2) hx hb dX13_worth_170 (by decide) ?_
    refine lv_icmp_ge (tgt := 178) hx hb dX13_worth_171 (by decide) (fun c_9 => ?_) (fun c_9 => ?_)
    · refine lv_aload_n hx hb dX13_worth_178 rfl (lv_at hl 0 rfl) ?_
      refine lv_iload_n hx hb dX13_worth_179 rfl (lv_at hl 1 rfl) ?_
      refine lv_iconst (v := 2) hx hb dX13_worth_180 (by decide) ?_
      refine m_rd S hK hP (As := [.int place, .int 2]) (rest := []) (cM_at l D cI cJ ad Z _ place 2 hplace 2 rfl (by decide)) (cwV 2 hts gX13_worth_X13_at rfl rfl rfl (by decide +kernel) ⟨Nat.le_of_ble_eq_true rfl, Nat.le_of_ble_eq_true rfl⟩) rfl hl.1 rfl (Nat.le_of_ble_eq_true rfl) dX13_worth_181 ⟨Nat.zero_le _, Nat.zero_le _⟩ ?_
      refine lv_aload_n hx hb dX13_worth_184 rfl (lv_at hl 0 rfl) ?_
      refine lv_iload_n hx hb dX13_worth_185 rfl (lv_at hl 1 rfl) ?_
      refine lv_iconst (v := 3) hx hb dX13_worth_186 (by decide) ?_
      refine m_rd S hK hP (As := [.int place, .int 3]) (rest := [.int (sh Z (tN place) 2)]) (cM_at l D cI cJ ad Z _ place 3 hplace 3 rfl (by decide)) (cwV 2 hts gX13_worth_X13_at rfl rfl rfl (by decide +kernel) ⟨Nat.le_of_ble_eq_true rfl, Nat.le_of_ble_eq_true rfl⟩) rfl hl.1 rfl (Nat.le_of_ble_eq_true rfl) dX13_worth_187 ⟨Nat.zero_le _, Nat.zero_le _⟩ ?_
      refine va_mmin hx hb (hml.trans hl.1.symm) hown (hts (.methodLink RX13 128 Lib.Math.min.name) (by decide +kernel)) (hts (.static Lib.Math.min.name) (by decide +kernel)) (hts (.initialized "java/lang/Math") (by decide +kernel)) (hts (.code Lib.Math.min.name Lib.Math.min.code 2 (some .int)) (by decide +kernel)) (Nat.le_of_ble_eq_true rfl) (Nat.le_of_ble_eq_true rfl) (Nat.zero_le _) (Nat.zero_le _) dX13_worth_190 ?_
      refine lv_i2l (v := (if (sh Z (tN place) 3) < (sh Z (tN place) 2) then (sh Z (tN place) 3) else (sh Z (tN place) 2)).toInt64) hx hb dX13_worth_193 rfl ?_
      have hsp : sp_worth Z place = (if (sh Z (tN place) 3) < (sh Z (tN place) 2) then (sh Z (tN place) 3) else (sh Z (tN place) 2)).toInt64 := by unfold sp_worth; rw [if_neg c_3, if_neg c_4, if_neg c_5, if_neg c_6, if_pos c_8, if_pos c_9]
      exact W.lret hx hb hr (fun t2 ht2 hW => ⟨by rw [hsp], ht2⟩) (fun q hq => by cases hq) dX13_worth_194 hlocks
    · refine lv_lconst (v := 0) hx hb dX13_worth_174 (by decide) ?_
      refine lv_goto (tgt := 194) hx hb dX13_worth_175 (by decide) ?_
      have hsp : sp_worth Z place = 0 := by unfold sp_worth; rw [if_neg c_3, if_neg c_4, if_neg c_5, if_neg c_6, if_pos c_8, if_neg c_9]
      exact W.lret hx hb hr (fun t2 ht2 hW => ⟨by rw [hsp], ht2⟩) (fun q hq => by cases hq) dX13_worth_194 hlocks
  have q_0 : ¬ (sh Z (tN place) 0).toInt = 0 := fun h => c_3 (sw_eq (v := 0) (by decide) h)
  have q_1 : ¬ (sh Z (tN place) 0).toInt = 1 := fun h => c_4 (sw_eq (v := 1) (by decide) h)
  have q_2 : ¬ (sh Z (tN place) 0).toInt = 2 := fun h => c_5 (sw_eq (v := 2) (by decide) h)
  have q_3 : ¬ (sh Z (tN place) 0).toInt = 3 := fun h => c_6 (sw_eq (v := 3) (by decide) h)
  have q_4 : ¬ (sh Z (tN place) 0).toInt = 4 := fun h => c_8 (sw_eq (v := 4) (by decide) h)
  refine lv_tableOut (tgt := 195) hx hb dX13_worth_6 (by omega) (by decide) ?_
  refine lv_lconst (v := 0) hx hb dX13_worth_195 (by decide) ?_
  have hsp : sp_worth Z place = 0 := by unfold sp_worth; rw [if_neg c_3, if_neg c_4, if_neg c_5, if_neg c_6, if_neg c_8]
  exact W.lret hx hb hr (fun t2 ht2 hW => ⟨by rw [hsp], ht2⟩) (fun q hq => by cases hq) dX13_worth_196 hlocks
