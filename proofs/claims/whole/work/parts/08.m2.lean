/-! the reference's methods: part 2, with loops (by gen_model.py) -/
def clr (Z : mZ) (n : Nat) : Nat → mZ
  | 0 => Z
  | i + 1 => shp (clr Z n i) n i 0
def itm (Z : mZ) (n : Nat) : Nat → Int32
  | 0 => 0
  | i + 1 => if sh Z n (9 + i) ≤ 0 then itm Z n i + 0 else itm Z n i + 1
def lot (Z : mZ) (n : Nat) : Nat → Int64
  | 0 => 0
  | i + 1 => lot Z n i + (sh Z n (9 + i)).toInt64
theorem ix_add {a b : Int32} {i j : Nat} (ha : a = nI i) (hb : b = nI j) : a + b = nI (i + j) := by rw [ha, hb, nI_add]
def sp_comes (Z : mZ) (place : Int32) (kind : Int32) : mZ :=
  shp (shp (clr Z (tN place) 16) (tN place) 0 kind) (tN place) 5 (zh (shp (clr Z (tN place) 16) (tN place) 0 kind) 0)
set_option maxHeartbeats 4000000 in
set_option maxRecDepth 100000 in
theorem cM_comes (l : Launch) (D : va_G) (cI cJ : ClassId) (ad : Nat → Nat) (Z : mZ) (sz : Nat) (hi : mI ad) (place : Int32) (kind : Int32) (hplace : pok place) : Met l yX13_comes wsX13_comes ({ frames := 1, cells := 0, slots := 0, locals := 23 }) (mPc [.ref (ad 0), .int place, .int kind] D cI cJ ad Z sz) (mQ D cI cJ ad none (sp_comes Z place kind) sz) 0 0 (mA ad sz) := by
  refine m_in (cc := cX13_comes) (maxL := 4) (ret := none) (lv := [(0, .ref (ad 0)), (1, .int place), (2, .int kind)]) (by decide) rfl (Nat.le_of_ble_eq_true rfl) rfl ?_
  intro p e s m below meth c ls S hr hlocks hin hsz hP hK hl hS
  subst hsz
  obtain ⟨hx, hb, hml, hown, hts⟩ := id S
  have loop : ∀ (n i : Nat) (H : Heap) (locs : List Loc) (ls : Array Slot), i + n = 16 → va_P D vwCl (wM ad cI cJ (clr Z (tN place) i)) H → va_S (mA ad s.heap.size) s.heap H locs → lv_has ls 4 [(3, .int (nI i)), (0, .ref (ad 0)), (1, .int place), (2, .int kind)] → W p l e ({ frames := 1, cells := 0, slots := 0, locals := 23 }) s m [.ref (ad 0), .int place, .int kind].toArray below meth c H locs 0 0 (MQ below (mQ D cI cJ ad none (sp_comes Z place kind) s.heap.size) [.ref (ad 0), .int place, .int kind].toArray s 0 0 (mA ad s.heap.size)) (F0 m 2 ls []) := by
    intro n
    induction n with
    | zero =>
      intro i H locs ls hn hP hS hl
      obtain rfl : i = 16 := by omega
      refine lv_iload_n hx hb dX13_comes_2 rfl (lv_at hl 0 rfl) ?_
      refine lv_bipush (v := 16) hx hb dX13_comes_3 (by decide) ?_
      refine lv_icmp_ge (tgt := 21) hx hb dX13_comes_5 (by decide) (fun c_1 => ?_) (fun c_1 => ?_)
      · refine lv_aload_n hx hb dX13_comes_21 rfl (lv_at hl 1 rfl) ?_
        refine lv_iload_n hx hb dX13_comes_22 rfl (lv_at hl 2 rfl) ?_
        refine lv_iconst (v := 0) hx hb dX13_comes_23 (by decide) ?_
        refine lv_iload_n hx hb dX13_comes_24 rfl (lv_at hl 3 rfl) ?_
        refine m_wv S hK hP hS (As := [.int place, .int 0, .int kind]) (rest := []) (cM_set l D cI cJ ad (clr Z (tN place) 16) _ hi place 0 kind hplace 0 rfl (by decide)) (cwV 3 hts gX13_comes_X13_set rfl rfl rfl (by decide +kernel) ⟨Nat.le_of_ble_eq_true rfl, Nat.le_of_ble_eq_true rfl⟩) rfl hl.1 rfl (Nat.le_of_ble_eq_true rfl) dX13_comes_25 ⟨Nat.zero_le _, Nat.zero_le _⟩ (fun H locs hP hS => ?_)
        refine lv_aload_n hx hb dX13_comes_28 rfl (lv_at hl 1 rfl) ?_
        refine lv_iload_n hx hb dX13_comes_29 rfl (lv_at hl 2 rfl) ?_
        refine lv_iconst (v := 5) hx hb dX13_comes_30 (by decide) ?_
        refine lv_aload_n hx hb dX13_comes_31 rfl (lv_at hl 1 rfl) ?_
        refine m_rd S hK hP (As := []) (rest := [.int 5, .int place, .ref (ad 0)]) (cM_today l D cI cJ ad (shp (clr Z (tN place) 16) (tN place) 0 kind) _) (cwV 0 hts gX13_comes_X13_today rfl rfl rfl (by decide +kernel) ⟨Nat.le_of_ble_eq_true rfl, Nat.le_of_ble_eq_true rfl⟩) rfl hl.1 rfl (Nat.le_of_ble_eq_true rfl) dX13_comes_32 ⟨Nat.zero_le _, Nat.zero_le _⟩ ?_
        refine m_wv S hK hP hS (As := [.int place, .int 5, .int (zh (shp (clr Z (tN place) 16) (tN place) 0 kind) 0)]) (rest := []) (cM_set l D cI cJ ad (shp (clr Z (tN place) 16) (tN place) 0 kind) _ hi place 5 (zh (shp (clr Z (tN place) 16) (tN place) 0 kind) 0) hplace 5 rfl (by decide)) (cwV 3 hts gX13_comes_X13_set rfl rfl rfl (by decide +kernel) ⟨Nat.le_of_ble_eq_true rfl, Nat.le_of_ble_eq_true rfl⟩) rfl hl.1 rfl (Nat.le_of_ble_eq_true rfl) dX13_comes_35 ⟨Nat.zero_le _, Nat.zero_le _⟩ (fun H locs hP hS => ?_)
        have hsp : sp_comes Z place kind = shp (shp (clr Z (tN place) 16) (tN place) 0 kind) (tN place) 5 (zh (shp (clr Z (tN place) 16) (tN place) 0 kind) 0) := rfl
        exact W.vret hx hb hr (fun t2 ht2 hW => by rw [hsp]; exact ⟨rfl, by rw [ht2]; exact hP, hS.F ht2⟩) hS.2.2 dX13_comes_38 hlocks
      · exact absurd (show (16 : Int32) ≤ nI 16 by decide) c_1
    | succ n ih =>
      intro i H locs ls hn hP hS hl
      refine lv_iload_n hx hb dX13_comes_2 rfl (lv_at hl 0 rfl) ?_
      refine lv_bipush (v := 16) hx hb dX13_comes_3 (by decide) ?_
      refine lv_icmp_ge (tgt := 21) hx hb dX13_comes_5 (by decide) (fun c_2 => ?_) (fun c_2 => ?_)
      · exact absurd ((nI_leI (a := 16) (b := i) (by omega) (by omega)).mp c_2) (by omega)
      · refine lv_aload_n hx hb dX13_comes_8 rfl (lv_at hl 1 rfl) ?_
        refine lv_iload_n hx hb dX13_comes_9 rfl (lv_at hl 2 rfl) ?_
        refine lv_iload_n hx hb dX13_comes_10 rfl (lv_at hl 0 rfl) ?_
        refine lv_iconst (v := 0) hx hb dX13_comes_11 (by decide) ?_
        refine m_wv S hK hP hS (As := [.int place, .int (nI i), .int 0]) (rest := []) (cM_set l D cI cJ ad (clr Z (tN place) i) _ hi place (nI i) 0 hplace i rfl (by omega)) (cwV 3 hts gX13_comes_X13_set rfl rfl rfl (by decide +kernel) ⟨Nat.le_of_ble_eq_true rfl, Nat.le_of_ble_eq_true rfl⟩) rfl hl.1 rfl (Nat.le_of_ble_eq_true rfl) dX13_comes_12 ⟨Nat.zero_le _, Nat.zero_le _⟩ (fun H locs hP hS => ?_)
        refine lv_iinc (v := (nI i) + 1) (lv' := [(3, .int ((nI i) + 1)), (0, .ref (ad 0)), (1, .int place), (2, .int kind)]) hx hb dX13_comes_15 hl (k := 0) rfl rfl (by decide) rfl (fun ls hl => ?_)
        refine lv_goto (tgt := 2) hx hb dX13_comes_18 (by decide) ?_
        rw [nI_1] at hl
        exact ih (i + 1) H locs ls (by omega) hP hS hl
  refine lv_iconst (v := 0) hx hb dX13_comes_0 (by decide) ?_
  refine lv_istore_n (lv' := [(3, .int 0), (0, .ref (ad 0)), (1, .int place), (2, .int kind)]) hx hb dX13_comes_1 rfl hl (by decide) rfl (fun ls hl => ?_)
  exact loop 16 0 s.heap [] ls (by omega) hP hS hl
def sp_leaves (Z : mZ) (place : Int32) : mZ :=
  sp_comes Z place (-1)
set_option maxHeartbeats 4000000 in
set_option maxRecDepth 100000 in
theorem cM_leaves (l : Launch) (D : va_G) (cI cJ : ClassId) (ad : Nat → Nat) (Z : mZ) (sz : Nat) (hi : mI ad) (place : Int32) (hplace : pok place) : Met l yX13_leaves wsX13_leaves ({ frames := 2, cells := 0, slots := 0, locals := 46 }) (mPc [.ref (ad 0), .int place] D cI cJ ad Z sz) (mQ D cI cJ ad none (sp_leaves Z place) sz) 0 0 (mA ad sz) := by
  refine m_in (cc := cX13_leaves) (maxL := 2) (ret := none) (lv := [(0, .ref (ad 0)), (1, .int place)]) (by decide) rfl (Nat.le_of_ble_eq_true rfl) rfl ?_
  intro p e s m below meth c ls S hr hlocks hin hsz hP hK hl hS
  subst hsz
  obtain ⟨hx, hb, hml, hown, hts⟩ := id S
  refine lv_aload_n hx hb dX13_leaves_0 rfl (lv_at hl 0 rfl) ?_
  refine lv_iload_n hx hb dX13_leaves_1 rfl (lv_at hl 1 rfl) ?_
  refine lv_iconst (v := (-1)) hx hb dX13_leaves_2 (by decide) ?_
  refine m_wv S hK hP hS (As := [.int place, .int (-1)]) (rest := []) (cM_comes l D cI cJ ad Z _ hi place (-1) hplace) (cwV 2 hts gX13_leaves_X13_comes rfl rfl rfl (by decide +kernel) ⟨Nat.le_of_ble_eq_true rfl, Nat.le_of_ble_eq_true rfl⟩) rfl hl.1 rfl (Nat.le_of_ble_eq_true rfl) dX13_leaves_3 ⟨Nat.zero_le _, Nat.zero_le _⟩ (fun H locs hP hS => ?_)
  have hsp : sp_leaves Z place = sp_comes Z place (-1) := rfl
  exact W.vret hx hb hr (fun t2 ht2 hW => by rw [hsp]; exact ⟨rfl, by rw [ht2]; exact hP, hS.F ht2⟩) hS.2.2 dX13_leaves_6 hlocks
