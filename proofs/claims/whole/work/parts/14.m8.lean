/-! rule, image, back -/
def mPcX (X : State → Prop) (av : List Value) (D : va_G) (cI cJ : ClassId) (ad : Nat → Nat) (Z : mZ) (sz : Nat) : Array Value → State → Prop := va_Pc av (fun U => U.heap.size = sz ∧ va_P D vwCl (wM ad cI cJ Z) U.heap ∧ mK D cI cJ U ∧ X U)
theorem m_inX {X : State → Prop} {l : Launch} {y : MethodName} {ws ws' : List Cond} {rm : Room} {av : List Value} {D : va_G} {cI cJ : ClassId} {ad : Nat → Nat} {Z : mZ} {sz : Nat} {Qc : Array Value → State → Outcome → State → Prop} {free : Addr → Prop} {cc : ByteArray} {maxL : Nat} {ret : Option FieldType} {lv : List (Nat × Value)} (hy : plainName y.cls = true) (hw : ws = Cond.code y cc maxL ret :: ws') (hlen : (lg_sl av).length ≤ maxL) (hlv : lv_args 0 av = lv)
    (body : ∀ (p : Program) (e : Env) (s : State) (m : MethodId) (below : List Frame) (meth : Method) (c : Code) (ls : Array Slot), CallFix p m c cc maxL s av.toArray ws y.cls → meth.sig.returnType = ret → meth.locks = false → meth.name = y.name → s.heap.size = sz → va_P D vwCl (wM ad cI cJ Z) s.heap → mK D cI cJ s → X s → lv_has ls maxL lv → va_S (mA ad s.heap.size) s.heap s.heap [] →
      W p l e rm s m av.toArray below meth c s.heap [] 0 0 (MQ below Qc av.toArray s 0 0 free) (F0 m 0 ls [])) : Met l y ws rm (mPcX X av D cI cJ ad Z sz) Qc 0 0 free := by
  refine Met.ofW (cc := cc) (maxL := maxL) (ret := ret) hy hw ?_
  intro p e s m args below meth c s₁ B hml hv
  obtain ⟨rfl, hsz, hP, hK, hX⟩ := hv
  have hl := lv_entry av (n := maxL) hlen
  rw [hlv] at hl
  rw [lg_entry_eq]
  exact body p e s m below meth c _ ⟨B.exec, B.bytes, hml, findClass_of_methodNamed B.named, atoms_spec (ws := ws) B.pre⟩ B.returns B.notSynchronized (name_of_methodNamed B.named B.method).1 hsz hP hK hX hl va_S.rf
def tLEAST (j : Nat) : Int32 := ([0, 0, 1, 1, 0, 0, 0, 0, 0, 1, 1, 1, 1, 1] : List Int32).getD j 0
def tGREAT (j : Nat) : Int32 := ([200, 500, 2000, 10000, 200, 200, 200, 200, 200, 1000, 1000, 1000, 1000, 1000] : List Int32).getD j 0
/-- the reference's tables of bounds -/
def stR (D : va_G) (cI : ClassId) (A : Nat → Prop) (rL rG : Nat) (U : State) : Prop := va_Z RX13 "LEAST" "[I" (.ref rL) A U U.heap ∧ va_Z RX13 "GREATEST" "[I" (.ref rG) A U U.heap ∧ va_P D vwCl [(rL, .inl (cI, 14, .inl tLEAST)), (rG, .inl (cI, 14, .inl tGREAT))] U.heap
theorem rl_ix {x : Int32} (h1 : ¬ x < 0) (h2 : x ≤ 13) : x = nI (tN x) ∧ tN x < 14 := by
  obtain ⟨j, hj, rfl⟩ := nI_of (x := x) h1
  rw [tN_n hj]
  have := (nI_leI (a := j) (b := 13) hj (by omega)).mp h2
  exact ⟨rfl, by omega⟩

def sp_rule (Z : mZ) (rule : Int32) (v : Int32) : Int32 × mZ :=
  if rule < 0 then
    ((-1), zR Z (-1))
  else
    if rule ≤ 13 then
      if v < (tLEAST (tN rule)) then
        ((-6), zR Z (-6))
      else
        if v ≤ (tGREAT (tN rule)) then
          (0, zR (zhp Z (3 + tN rule) v) 0)
        else
          ((-6), zR Z (-6))
    else
      ((-1), zR Z (-1))
set_option maxHeartbeats 4000000 in
set_option maxRecDepth 100000 in
theorem cM_rule (l : Launch) (D : va_G) (cI cJ : ClassId) (ad : Nat → Nat) (Z : mZ) (sz : Nat) (rL rG : Nat) (hi : mI ad) (rule : Int32) (v : Int32) : Met l yX13_rule wsX13_rule ({ frames := 1, cells := 0, slots := 0, locals := 21 }) (mPcX (stR D cI (mA ad sz) rL rG) [.ref (ad 0), .int rule, .int v] D cI cJ ad Z sz) (mQ D cI cJ ad (some (.int (sp_rule Z rule v).1)) (sp_rule Z rule v).2 sz) 0 0 (mA ad sz) := by
  refine m_inX (cc := cX13_rule) (maxL := 3) (ret := (some .int)) (lv := [(0, .ref (ad 0)), (1, .int rule), (2, .int v)]) (by decide) rfl (Nat.le_of_ble_eq_true rfl) rfl ?_
  intro p e s m below meth c ls S hr hlocks hin hsz hP hK hX hl hS
  subst hsz
  obtain ⟨hx, hb, hml, hown, hts⟩ := id S
  have hX12 : ∀ w ∈ wsX120, w ∈ wsX13_rule := by decide +kernel
  have hX13 : ∀ w ∈ wsX130, w ∈ wsX13_rule := by decide +kernel
  refine lv_iload_n hx hb dX13_rule_0 rfl (lv_at hl 1 rfl) ?_
  refine lv_if_lt (tgt := 10) hx hb dX13_rule_1 (by decide) (fun c_1 => ?_) (fun c_1 => ?_)
  · refine lv_aload_n hx hb dX13_rule_10 rfl (lv_at hl 0 rfl) ?_
    refine lv_iconst (v := (-1)) hx hb dX13_rule_11 (by decide) ?_
    refine m_wr S hK hP hS (As := [.int (-1)]) (rest := []) (cM_says l D cI cJ ad Z _ hi (-1)) (cwV 1 hts gX13_rule_X13_says rfl rfl rfl (by decide +kernel) ⟨Nat.le_of_ble_eq_true rfl, Nat.le_of_ble_eq_true rfl⟩) rfl hl.1 rfl (Nat.le_of_ble_eq_true rfl) dX13_rule_12 ⟨Nat.zero_le _, Nat.zero_le _⟩ (fun H locs hP hS => ?_)
    have hsp : sp_rule Z rule v = ((-1), zR Z (-1)) := by unfold sp_rule; rw [if_pos c_1]
    exact W.iret hx hb hr (fun t2 ht2 hW => by rw [hsp]; exact ⟨rfl, by rw [ht2]; exact hP, hS.F ht2⟩) hS.2.2 dX13_rule_15 hlocks
  · refine lv_iload_n hx hb dX13_rule_4 rfl (lv_at hl 1 rfl) ?_
    refine lv_bipush (v := 13) hx hb dX13_rule_5 (by decide) ?_
    refine lv_icmp_le (tgt := 16) hx hb dX13_rule_7 (by decide) (fun c_2 => ?_) (fun c_2 => ?_)
    · refine lv_iload_n hx hb dX13_rule_16 rfl (lv_at hl 2 rfl) ?_
      refine va_gets hx hb hX.1 hS hown (hts (.fieldLink RX13 81 "PledgeHouseModel" "LEAST" "[I") (by decide +kernel)) (fun _ h9 => h9) dX13_rule_17 ?_
      refine lv_iload_n hx hb dX13_rule_20 rfl (lv_at hl 1 rfl) ?_
      refine x_iald hx hb hK.1 hX.2.2 0 0 rfl rfl (tN rule) (rl_ix c_1 c_2).1 (rl_ix c_1 c_2).2 (by decide) dX13_rule_21 ?_
      refine lv_icmp_lt (tgt := 34) hx hb dX13_rule_22 (by decide) (fun c_3 => ?_) (fun c_3 => ?_)
      · refine lv_aload_n hx hb dX13_rule_34 rfl (lv_at hl 0 rfl) ?_
        refine lv_bipush (v := (-6)) hx hb dX13_rule_35 (by decide) ?_
        refine m_wr S hK hP hS (As := [.int (-6)]) (rest := []) (cM_says l D cI cJ ad Z _ hi (-6)) (cwV 1 hts gX13_rule_X13_says rfl rfl rfl (by decide +kernel) ⟨Nat.le_of_ble_eq_true rfl, Nat.le_of_ble_eq_true rfl⟩) rfl hl.1 rfl (Nat.le_of_ble_eq_true rfl) dX13_rule_37 ⟨Nat.zero_le _, Nat.zero_le _⟩ (fun H locs hP hS => ?_)
        have hsp : sp_rule Z rule v = ((-6), zR Z (-6)) := by unfold sp_rule; rw [if_neg c_1, if_pos c_2, if_pos c_3]
        exact W.iret hx hb hr (fun t2 ht2 hW => by rw [hsp]; exact ⟨rfl, by rw [ht2]; exact hP, hS.F ht2⟩) hS.2.2 dX13_rule_40 hlocks
      · refine lv_iload_n hx hb dX13_rule_25 rfl (lv_at hl 2 rfl) ?_
        refine va_gets hx hb hX.2.1 hS hown (hts (.fieldLink RX13 84 "PledgeHouseModel" "GREATEST" "[I") (by decide +kernel)) (fun _ h9 => h9) dX13_rule_26 ?_
        refine lv_iload_n hx hb dX13_rule_29 rfl (lv_at hl 1 rfl) ?_
        refine x_iald hx hb hK.1 hX.2.2 1 0 rfl rfl (tN rule) (rl_ix c_1 c_2).1 (rl_ix c_1 c_2).2 (by decide) dX13_rule_30 ?_
        refine lv_icmp_le (tgt := 41) hx hb dX13_rule_31 (by decide) (fun c_4 => ?_) (fun c_4 => ?_)
        · refine lv_aload_n hx hb dX13_rule_41 rfl (lv_at hl 0 rfl) ?_
          refine va_get (D := D) (ci := 11) (v := .ref (ad 1)) (C := RX13) (T := TX13) (N := 6) hx hb hts hX13 hown hK.1 hP 0 rfl rfl 0 (by decide) (hts (.fieldLink RX13 10 "PledgeHouseModel" "now" "LPledgeHouseModel$State;") (by decide +kernel)) (fun _ h9 => h9) rfl dX13_rule_42 ?_
          refine va_getN (D := D) (ci := 10) (v := .ref (ad 3)) (C := RX12) (T := TX12) (N := 4) hx hb hts hX12 hown hK.1 hP 1 rfl rfl 0 (by decide) (va_Nw.use rfl hK.2.1) (fun _ h9 => h9) rfl dX13_rule_45 ?_
          refine lv_iconst (v := 3) hx hb dX13_rule_48 (by decide) ?_
          refine lv_iload_n hx hb dX13_rule_49 rfl (lv_at hl 1 rfl) ?_
          refine lv_iadd hx hb dX13_rule_50 ?_
          refine lv_iload_n hx hb dX13_rule_51 rfl (lv_at hl 2 rfl) ?_
          refine mx_hst hx hb hK.1 hP (wM_D hi s.heap.size _) hS (3 + tN rule) (ix_add rfl (rl_ix c_1 c_2).1) (by have := (rl_ix c_1 c_2).2; omega) dX13_rule_52 (fun H locs hP hS => ?_)
          refine lv_aload_n hx hb dX13_rule_53 rfl (lv_at hl 0 rfl) ?_
          refine lv_iconst (v := 0) hx hb dX13_rule_54 (by decide) ?_
          refine m_wr S hK hP hS (As := [.int 0]) (rest := []) (cM_says l D cI cJ ad (zhp Z (3 + tN rule) v) _ hi 0) (cwV 1 hts gX13_rule_X13_says rfl rfl rfl (by decide +kernel) ⟨Nat.le_of_ble_eq_true rfl, Nat.le_of_ble_eq_true rfl⟩) rfl hl.1 rfl (Nat.le_of_ble_eq_true rfl) dX13_rule_55 ⟨Nat.zero_le _, Nat.zero_le _⟩ (fun H locs hP hS => ?_)
          have hsp : sp_rule Z rule v = (0, zR (zhp Z (3 + tN rule) v) 0) := by unfold sp_rule; rw [if_neg c_1, if_pos c_2, if_neg c_3, if_pos c_4]
          exact W.iret hx hb hr (fun t2 ht2 hW => by rw [hsp]; exact ⟨rfl, by rw [ht2]; exact hP, hS.F ht2⟩) hS.2.2 dX13_rule_58 hlocks
        · refine lv_aload_n hx hb dX13_rule_34 rfl (lv_at hl 0 rfl) ?_
          refine lv_bipush (v := (-6)) hx hb dX13_rule_35 (by decide) ?_
          refine m_wr S hK hP hS (As := [.int (-6)]) (rest := []) (cM_says l D cI cJ ad Z _ hi (-6)) (cwV 1 hts gX13_rule_X13_says rfl rfl rfl (by decide +kernel) ⟨Nat.le_of_ble_eq_true rfl, Nat.le_of_ble_eq_true rfl⟩) rfl hl.1 rfl (Nat.le_of_ble_eq_true rfl) dX13_rule_37 ⟨Nat.zero_le _, Nat.zero_le _⟩ (fun H locs hP hS => ?_)
          have hsp : sp_rule Z rule v = ((-6), zR Z (-6)) := by unfold sp_rule; rw [if_neg c_1, if_pos c_2, if_neg c_3, if_neg c_4]
          exact W.iret hx hb hr (fun t2 ht2 hW => by rw [hsp]; exact ⟨rfl, by rw [ht2]; exact hP, hS.F ht2⟩) hS.2.2 dX13_rule_40 hlocks
    · refine lv_aload_n hx hb dX13_rule_10 rfl (lv_at hl 0 rfl) ?_
      refine lv_iconst (v := (-1)) hx hb dX13_rule_11 (by decide) ?_
      refine m_wr S hK hP hS (As := [.int (-1)]) (rest := []) (cM_says l D cI cJ ad Z _ hi (-1)) (cwV 1 hts gX13_rule_X13_says rfl rfl rfl (by decide +kernel) ⟨Nat.le_of_ble_eq_true rfl, Nat.le_of_ble_eq_true rfl⟩) rfl hl.1 rfl (Nat.le_of_ble_eq_true rfl) dX13_rule_12 ⟨Nat.zero_le _, Nat.zero_le _⟩ (fun H locs hP hS => ?_)
      have hsp : sp_rule Z rule v = ((-1), zR Z (-1)) := by unfold sp_rule; rw [if_neg c_1, if_neg c_2]
      exact W.iret hx hb hr (fun t2 ht2 hW => by rw [hsp]; exact ⟨rfl, by rw [ht2]; exact hP, hS.F ht2⟩) hS.2.2 dX13_rule_15 hlocks
/-- image and back: the addresses of the copying world -/
def imA (ad : Nat → Nat) : Nat → Nat := fun i => ([ad 2, ad 1, ad 7, ad 8, ad 9, ad 10, ad 3, ad 4, ad 5, ad 6] : List Nat).getD i 0
def bkA (ad : Nat → Nat) : Nat → Nat := fun i => ([ad 1, ad 2, ad 3, ad 4, ad 5, ad 6, ad 7, ad 8, ad 9, ad 10] : List Nat).getD i 0
def zNow (Z : mZ) : mS := (zh Z, zs Z, zt Z, zc Z)
def zKept (Z : mZ) : mS := (zyh Z, zys Z, zyt Z, zyc Z)
def zSetK (Z : mZ) (G : mS) : mZ := (zh Z, zs Z, zt Z, zc Z, G.1, G.2.1, G.2.2.1, G.2.2.2, ze Z, zik Z, zst Z)
def zSetN (Z : mZ) (G : mS) : mZ := (G.1, G.2.1, G.2.2.1, G.2.2.2, zyh Z, zys Z, zyt Z, zyc Z, ze Z, zik Z, zst Z)
theorem im_I {ad : Nat → Nat} (hi : mI ad) {g : Nat → Nat} {f : Nat → Nat} (hg : ∀ i, i < 10 → g i < 12) (hf : ∀ i, i < 10 → f i = ad (g i)) (hn : ∀ i, i < 10 → ∀ j, j < 10 → g i = g j → i = j) : wcI f := fun i j h1 h2 h3 => hn i h1 j h2 (hi _ _ (hg i h1) (hg j h2) (by rw [← hf i h1, ← hf j h2]; exact h3))
theorem imA_I {ad : Nat → Nat} (hi : mI ad) : wcI (imA ad) := im_I hi (g := fun i => ([2, 1, 7, 8, 9, 10, 3, 4, 5, 6] : List Nat).getD i 0) (by decide) (fun i h => by
  match i, h with
  | 0, _ => rfl | 1, _ => rfl | 2, _ => rfl | 3, _ => rfl | 4, _ => rfl | 5, _ => rfl | 6, _ => rfl | 7, _ => rfl | 8, _ => rfl | 9, _ => rfl
  | n + 10, h => omega) (by decide)
theorem bkA_I {ad : Nat → Nat} (hi : mI ad) : wcI (bkA ad) := im_I hi (g := fun i => ([1, 2, 3, 4, 5, 6, 7, 8, 9, 10] : List Nat).getD i 0) (by decide) (fun i h => by
  match i, h with
  | 0, _ => rfl | 1, _ => rfl | 2, _ => rfl | 3, _ => rfl | 4, _ => rfl | 5, _ => rfl | 6, _ => rfl | 7, _ => rfl | 8, _ => rfl | 9, _ => rfl
  | n + 10, h => omega) (by decide)
theorem imA_in {ad : Nat → Nat} {sz : Nat} : ∀ q, wcA (imA ad) sz q → mA ad sz q := fun q h => h.elim (fun ⟨i, h1, h2⟩ => Or.inl (by
  match i, h1, h2 with
  | 0, _, h => exact ⟨2, by decide, h⟩
  | 1, _, h => exact ⟨1, by decide, h⟩
  | 2, _, h => exact ⟨7, by decide, h⟩
  | 3, _, h => exact ⟨8, by decide, h⟩
  | 4, _, h => exact ⟨9, by decide, h⟩
  | 5, _, h => exact ⟨10, by decide, h⟩
  | 6, _, h => exact ⟨3, by decide, h⟩
  | 7, _, h => exact ⟨4, by decide, h⟩
  | 8, _, h => exact ⟨5, by decide, h⟩
  | 9, _, h => exact ⟨6, by decide, h⟩
  | n + 10, h1, _ => exact absurd h1 (by omega))) Or.inr
theorem bkA_in {ad : Nat → Nat} {sz : Nat} : ∀ q, wcA (bkA ad) sz q → mA ad sz q := fun q h => h.elim (fun ⟨i, h1, h2⟩ => Or.inl (by
  match i, h1, h2 with
  | 0, _, h => exact ⟨1, by decide, h⟩
  | 1, _, h => exact ⟨2, by decide, h⟩
  | 2, _, h => exact ⟨3, by decide, h⟩
  | 3, _, h => exact ⟨4, by decide, h⟩
  | 4, _, h => exact ⟨5, by decide, h⟩
  | 5, _, h => exact ⟨6, by decide, h⟩
  | 6, _, h => exact ⟨7, by decide, h⟩
  | 7, _, h => exact ⟨8, by decide, h⟩
  | 8, _, h => exact ⟨9, by decide, h⟩
  | 9, _, h => exact ⟨10, by decide, h⟩
  | n + 10, h1, _ => exact absurd h1 (by omega))) Or.inr
/-- what the copying leaves alone: the object and the books -/
theorem im_out {ad : Nat → Nat} (hi : mI ad) {sz : Nat} {k : Nat} (hk : k = 0 ∨ k = 11) {f g : Nat → Nat} (hg : ∀ i, i < 10 → g i < 12 ∧ g i ≠ 0 ∧ g i ≠ 11) (hf : ∀ i, i < 10 → f i = ad (g i)) (hlt : ad k < sz) : ¬ wcA f sz (ad k) := fun h => h.elim (fun ⟨i, h1, h2⟩ => by
  rw [hf i h1] at h2
  have := hi k (g i) (by omega) (hg i h1).1 h2
  have := (hg i h1).2
  omega) (fun h => by omega)

def sp_image (Z : mZ) : Int32 × mZ := (0, zR (zIK (zSetK Z (cpS (zNow Z) (zKept Z))) 1) 0)
def sp_back (Z : mZ) : Int32 × mZ := if zik Z = 0 then ((-2), zR Z (-2)) else (0, zR (zSetN Z (cpS (zKept Z) (zNow Z))) 0)

theorem imA_f (ad : Nat → Nat) : ∀ i, i < 10 → imA ad i = ad (([2, 1, 7, 8, 9, 10, 3, 4, 5, 6] : List Nat).getD i 0) := fun i h => by
  match i, h with
  | 0, _ => rfl | 1, _ => rfl | 2, _ => rfl | 3, _ => rfl | 4, _ => rfl | 5, _ => rfl | 6, _ => rfl | 7, _ => rfl | 8, _ => rfl | 9, _ => rfl
  | n + 10, h => omega
theorem bkA_f (ad : Nat → Nat) : ∀ i, i < 10 → bkA ad i = ad (([1, 2, 3, 4, 5, 6, 7, 8, 9, 10] : List Nat).getD i 0) := fun i h => by
  match i, h with
  | 0, _ => rfl | 1, _ => rfl | 2, _ => rfl | 3, _ => rfl | 4, _ => rfl | 5, _ => rfl | 6, _ => rfl | 7, _ => rfl | 8, _ => rfl | 9, _ => rfl
  | n + 10, h => omega
section CPC
variable {p : Program} {l : Launch} {e : Env} {R : Room} {s : State} {m : MethodId} {args : Array Value} {below : List Frame} {meth : Method} {c : Code} {Q : State → Prop}
variable {cc : ByteArray} {nL index pc n : Nat} {own host : String} {y : MethodName} {bytes : ByteArray} {maxL : Nat} {ret : Option FieldType} {rm : Room} {Ts ws : List Cond} {ls : Array Slot} {D : va_G} {cI cJ : ClassId} {ad a : Nat → Nat} {Z Z' : mZ} {F G : mS}
/-- the call of the copying, from a method's start -/
theorem cp_call (S : CallFix p m c cc nL s args Ts own) (hK : mK D cI cJ s) (hi : mI ad) (hPc : va_P D vwCl (wC a cI cJ F G) s.heap) (hP : va_P D vwCl (wM ad cI cJ Z) s.heap) (hM : Met l y ws rm (cpPc a D cI cJ F G s.heap.size) (cpQ D cI cJ a F (cpS F G) s.heap.size) 0 0 (wcA a s.heap.size)) (cw : va_CN R s args own index y host bytes maxL ret ws rm 0 0 1 ∧ (Cond.instanceMethod y).before args s = true ∧ (Cond.selects RX12 y y).before args s = true) (hsz : ls.size = nL) {st0 : List Value} (hst : st0 = [.ref (a 1), .ref (a 0)]) (hdg : decode cc pc = .ok (.invokevirtual index, 3)) (hA : ∀ q, wcA a s.heap.size q → mA ad s.heap.size q)
    (hnew : ∀ H : Heap, s.heap.size ≤ H.size → (∀ q : Nat, q < s.heap.size → ¬ wcA a s.heap.size q → H[q]? = s.heap[q]?) → va_P D vwCl (wC a cI cJ F (cpS F G)) H → va_P D vwCl (wM ad cI cJ Z') H)
    (kk : ∀ (H1 : Heap) (locs1 : List Loc), va_P D vwCl (wM ad cI cJ Z') H1 → va_S (mA ad s.heap.size) s.heap H1 locs1 → W p l e R s m args below meth c H1 locs1 0 0 Q (F0 m (pc + 3) ls [])) : W p l e R s m args below meth c s.heap [] 0 0 Q (F0 m pc ls st0) := by
  have hr := va_runVN (g := F0 m pc ls st0) (locs := []) (cells := 0) (slots := 0) (e := e) (below := below) (meth := meth) (H := s.heap) (b := a 0) (As := [.ref (a 1)]) (rest := []) S hM cw ⟨fun _ _ _ _ h => ⟨h.1, h.2.1, h.2.2.1, va_K.moved (Vm.Alike.refl _) h.2.2.2⟩, va_recv hK.1 hPc (ci := 10) (q0 := 0) rfl rfl, fun U hU hW => ⟨rfl, by rw [hU], by rw [hU]; exact hPc, va_K.moved hW.alike hK.1⟩⟩ rfl rfl hsz (by rw [hst]; rfl) (lv_room (Nat.le_of_ble_eq_true rfl)) hdg ⟨Nat.zero_le _, Nat.zero_le _⟩
  intro T hT X
  obtain ⟨v, st₀, t, T', L, h0, X', hL, e1, e2, ⟨hv, hP', hz, hk⟩, st⟩ := hr T hT X
  cases hv
  rw [h0] at hz hk
  obtain ⟨t2, a1, b1⟩ := kk T'.heap ([] ++ L) (by rw [e1]; exact hnew t.heap hz hk hP') ⟨by rw [e1]; exact hz, fun q h1 h2 => by
    rw [e1]; exact hk q h1 (fun z => h2 (hA q z)), fun q hq => hA _ (hL q (by simpa using hq))⟩ T' rfl X'
  exact ⟨t2, st t2 a1, b1⟩
end CPC
set_option maxHeartbeats 4000000 in
set_option maxRecDepth 100000 in
theorem cM_image (l : Launch) (D : va_G) (cI cJ : ClassId) (ad : Nat → Nat) (Z : mZ) (sz : Nat) (hi : mI ad) : Met l yX13_image wsX13_image ({ frames := 1, cells := 0, slots := 0, locals := 22 }) (mPcX (va_Nw (.methodLinkNest RX13 187 yX12_copy "PledgeHouseModel")) [.ref (ad 0)] D cI cJ ad Z sz) (mQ D cI cJ ad (some (.int (sp_image Z).1)) (sp_image Z).2 sz) 0 0 (mA ad sz) := by
  refine m_inX (cc := cX13_image) (maxL := 1) (ret := some .int) (lv := [(0, .ref (ad 0))]) (by decide) rfl (Nat.le_of_ble_eq_true rfl) rfl ?_
  intro p e s m below meth c ls S hr hlocks hin hsz hP hK hX hl hS
  subst hsz
  obtain ⟨hx, hb, hml, hown, hts⟩ := id S
  have hX13 : ∀ w ∈ wsX130, w ∈ wsX13_image := by decide +kernel
  refine lv_aload_n hx hb dX13_image_0 rfl (lv_at hl 0 rfl) ?_
  refine va_get (D := D) (ci := 11) (v := .ref (ad 2)) (C := RX13) (T := TX13) (N := 6) hx hb hts hX13 hown hK.1 hP 0 rfl rfl 1 (by decide) (hts (.fieldLink RX13 16 "PledgeHouseModel" "kept" "LPledgeHouseModel$State;") (by decide +kernel)) (fun _ h9 => h9) rfl dX13_image_1 ?_
  refine lv_aload_n hx hb dX13_image_4 rfl (lv_at hl 0 rfl) ?_
  refine va_get (D := D) (ci := 11) (v := .ref (ad 1)) (C := RX13) (T := TX13) (N := 6) hx hb hts hX13 hown hK.1 hP 0 rfl rfl 0 (by decide) (hts (.fieldLink RX13 10 "PledgeHouseModel" "now" "LPledgeHouseModel$State;") (by decide +kernel)) (fun _ h9 => h9) rfl dX13_image_5 ?_
  have hPc : va_P D vwCl (wC (imA ad) cI cJ (zNow Z) (zKept Z)) s.heap := hP.sub [2, 1, 7, 8, 9, 10, 3, 4, 5, 6] rfl
  refine cp_call (Z' := (zSetK Z (cpS (zNow Z) (zKept Z)))) S hK hi hPc hP (c_copy l D cI cJ (imA ad) (zNow Z) (zKept Z) s.heap.size (imA_I hi)) ⟨va_cnB (host := "PledgeHouseModel") 1 hts gX13_image_X12_copy_n187 rfl rfl rfl hX (hts (.initialized RX12) (by decide +kernel)) (by decide +kernel) ⟨Nat.le_of_ble_eq_true rfl, Nat.le_of_ble_eq_true rfl⟩, hts (.instanceMethod yX12_copy) (by decide +kernel), hts (.selects RX12 yX12_copy yX12_copy) (by decide +kernel)⟩ hl.1 rfl dX13_image_8 imA_in (fun H hz hk hP1 => ?_) (fun H locs hP hS => ?_)
  · intro k q hq
    have hlt0 : ad 0 < s.heap.size := (hP 0 _ rfl).lt
    have hlt1 : ad 11 < s.heap.size := (hP 11 _ rfl).lt
    have o0 := im_out hi (k := 0) (Or.inl rfl) (f := imA ad) (g := fun i => ([2, 1, 7, 8, 9, 10, 3, 4, 5, 6] : List Nat).getD i 0) (by decide) (imA_f ad) hlt0
    have o1 := im_out hi (k := 11) (Or.inr rfl) (f := imA ad) (g := fun i => ([2, 1, 7, 8, 9, 10, 3, 4, 5, 6] : List Nat).getD i 0) (by decide) (imA_f ad) hlt1
    match k, hq with
    | 0, hq => cases hq; exact (hP 0 _ rfl).kept (hk _ hlt0 o0)
    | 1, hq => cases hq; exact hP1 1 _ rfl
    | 2, hq => cases hq; exact hP1 0 _ rfl
    | 3, hq => cases hq; exact hP1 6 _ rfl
    | 4, hq => cases hq; exact hP1 7 _ rfl
    | 5, hq => cases hq; exact hP1 8 _ rfl
    | 6, hq => cases hq; exact hP1 9 _ rfl
    | 7, hq => cases hq; exact hP1 2 _ rfl
    | 8, hq => cases hq; exact hP1 3 _ rfl
    | 9, hq => cases hq; exact hP1 4 _ rfl
    | 10, hq => cases hq; exact hP1 5 _ rfl
    | 11, hq => cases hq; exact (hP 11 _ rfl).kept (hk _ hlt1 o1)
    | n + 12, hq => cases hq
  · refine lv_aload_n hx hb dX13_image_11 rfl (lv_at hl 0 rfl) ?_
    refine lv_iconst (v := 1) hx hb dX13_image_12 (by decide) ?_
    generalize hZe : (zSetK Z (cpS (zNow Z) (zKept Z))) = Z1 at hP
    refine va_put (D := D) (ci := 11) (v := .int 1) (ty := .boolean) (C := RX13) (T := TX13) (N := 6) hx hb hts hX13 tyX13 tyX13_ok nmX13 hown hK.1 hP (wM_D hi s.heap.size _) hS 0 rfl rfl 3 (by decide) (hts (.fieldLink RX13 191 "PledgeHouseModel" "isKept" "Z") (by decide +kernel)) (fun _ h9 => h9) rfl (by decide +kernel) rfl rfl (Nat.le_of_ble_eq_true rfl) dX13_image_13 (fun H locs hP _ hS => ?_)
    have hP : va_P D vwCl (wM ad cI cJ (zIK Z1 1)) H := hP
    refine lv_aload_n hx hb dX13_image_16 rfl (lv_at hl 0 rfl) ?_
    refine lv_iconst (v := 0) hx hb dX13_image_17 (by decide) ?_
    refine m_wr S hK hP hS (As := [.int 0]) (rest := []) (cM_says l D cI cJ ad (zIK Z1 1) _ hi 0) (cwV 1 hts gX13_image_X13_says rfl rfl rfl (by decide +kernel) ⟨Nat.le_of_ble_eq_true rfl, Nat.le_of_ble_eq_true rfl⟩) rfl hl.1 rfl (Nat.le_of_ble_eq_true rfl) dX13_image_18 ⟨Nat.zero_le _, Nat.zero_le _⟩ (fun H locs hP hS => ?_)
    have hsp : sp_image Z = (0, zR (zIK Z1 1) 0) := by unfold sp_image; rw [hZe]
    exact W.iret hx hb hr (fun t2 ht2 hW => by rw [hsp]; exact ⟨rfl, by rw [ht2]; exact hP, hS.F ht2⟩) hS.2.2 dX13_image_21 hlocks
set_option maxHeartbeats 4000000 in
set_option maxRecDepth 100000 in
theorem cM_back (l : Launch) (D : va_G) (cI cJ : ClassId) (ad : Nat → Nat) (Z : mZ) (sz : Nat) (hi : mI ad) : Met l yX13_back wsX13_back ({ frames := 1, cells := 0, slots := 0, locals := 22 }) (mPcX (va_Nw (.methodLinkNest RX13 187 yX12_copy "PledgeHouseModel")) [.ref (ad 0)] D cI cJ ad Z sz) (mQ D cI cJ ad (some (.int (sp_back Z).1)) (sp_back Z).2 sz) 0 0 (mA ad sz) := by
  refine m_inX (cc := cX13_back) (maxL := 1) (ret := some .int) (lv := [(0, .ref (ad 0))]) (by decide) rfl (Nat.le_of_ble_eq_true rfl) rfl ?_
  intro p e s m below meth c ls S hr hlocks hin hsz hP hK hX hl hS
  subst hsz
  obtain ⟨hx, hb, hml, hown, hts⟩ := id S
  have hX13 : ∀ w ∈ wsX130, w ∈ wsX13_back := by decide +kernel
  refine lv_aload_n hx hb dX13_back_0 rfl (lv_at hl 0 rfl) ?_
  refine va_get (D := D) (ci := 11) (v := .int (zik Z)) (C := RX13) (T := TX13) (N := 6) hx hb hts hX13 hown hK.1 hP 0 rfl rfl 3 (by decide) (hts (.fieldLink RX13 191 "PledgeHouseModel" "isKept" "Z") (by decide +kernel)) (fun _ h9 => h9) rfl dX13_back_1 ?_
  refine lv_if_ne (tgt := 14) hx hb dX13_back_4 (by decide) (fun c_1 => ?_) (fun c_1 => ?_)
  rotate_left
  · refine lv_aload_n hx hb dX13_back_7 rfl (lv_at hl 0 rfl) ?_
    refine lv_bipush (v := (-2)) hx hb dX13_back_8 (by decide) ?_
    refine m_wr S hK hP hS (As := [.int (-2)]) (rest := []) (cM_says l D cI cJ ad Z _ hi (-2)) (cwV 1 hts gX13_back_X13_says rfl rfl rfl (by decide +kernel) ⟨Nat.le_of_ble_eq_true rfl, Nat.le_of_ble_eq_true rfl⟩) rfl hl.1 rfl (Nat.le_of_ble_eq_true rfl) dX13_back_10 ⟨Nat.zero_le _, Nat.zero_le _⟩ (fun H locs hP hS => ?_)
    have hsp : sp_back Z = ((-2), zR Z (-2)) := by unfold sp_back; rw [if_pos c_1]
    exact W.iret hx hb hr (fun t2 ht2 hW => by rw [hsp]; exact ⟨rfl, by rw [ht2]; exact hP, hS.F ht2⟩) hS.2.2 dX13_back_13 hlocks
  refine lv_aload_n hx hb dX13_back_14 rfl (lv_at hl 0 rfl) ?_
  refine va_get (D := D) (ci := 11) (v := .ref (ad 1)) (C := RX13) (T := TX13) (N := 6) hx hb hts hX13 hown hK.1 hP 0 rfl rfl 0 (by decide) (hts (.fieldLink RX13 10 "PledgeHouseModel" "now" "LPledgeHouseModel$State;") (by decide +kernel)) (fun _ h9 => h9) rfl dX13_back_15 ?_
  refine lv_aload_n hx hb dX13_back_18 rfl (lv_at hl 0 rfl) ?_
  refine va_get (D := D) (ci := 11) (v := .ref (ad 2)) (C := RX13) (T := TX13) (N := 6) hx hb hts hX13 hown hK.1 hP 0 rfl rfl 1 (by decide) (hts (.fieldLink RX13 16 "PledgeHouseModel" "kept" "LPledgeHouseModel$State;") (by decide +kernel)) (fun _ h9 => h9) rfl dX13_back_19 ?_
  have hPc : va_P D vwCl (wC (bkA ad) cI cJ (zKept Z) (zNow Z)) s.heap := hP.sub [1, 2, 3, 4, 5, 6, 7, 8, 9, 10] rfl
  refine cp_call (Z' := (zSetN Z (cpS (zKept Z) (zNow Z)))) S hK hi hPc hP (c_copy l D cI cJ (bkA ad) (zKept Z) (zNow Z) s.heap.size (bkA_I hi)) ⟨va_cnB (host := "PledgeHouseModel") 1 hts gX13_back_X12_copy_n187 rfl rfl rfl hX (hts (.initialized RX12) (by decide +kernel)) (by decide +kernel) ⟨Nat.le_of_ble_eq_true rfl, Nat.le_of_ble_eq_true rfl⟩, hts (.instanceMethod yX12_copy) (by decide +kernel), hts (.selects RX12 yX12_copy yX12_copy) (by decide +kernel)⟩ hl.1 rfl dX13_back_22 bkA_in (fun H hz hk hP1 => ?_) (fun H locs hP hS => ?_)
  · intro k q hq
    have hlt0 : ad 0 < s.heap.size := (hP 0 _ rfl).lt
    have hlt1 : ad 11 < s.heap.size := (hP 11 _ rfl).lt
    have o0 := im_out hi (k := 0) (Or.inl rfl) (f := bkA ad) (g := fun i => ([1, 2, 3, 4, 5, 6, 7, 8, 9, 10] : List Nat).getD i 0) (by decide) (bkA_f ad) hlt0
    have o1 := im_out hi (k := 11) (Or.inr rfl) (f := bkA ad) (g := fun i => ([1, 2, 3, 4, 5, 6, 7, 8, 9, 10] : List Nat).getD i 0) (by decide) (bkA_f ad) hlt1
    match k, hq with
    | 0, hq => cases hq; exact (hP 0 _ rfl).kept (hk _ hlt0 o0)
    | 1, hq => cases hq; exact hP1 0 _ rfl
    | 2, hq => cases hq; exact hP1 1 _ rfl
    | 3, hq => cases hq; exact hP1 2 _ rfl
    | 4, hq => cases hq; exact hP1 3 _ rfl
    | 5, hq => cases hq; exact hP1 4 _ rfl
    | 6, hq => cases hq; exact hP1 5 _ rfl
    | 7, hq => cases hq; exact hP1 6 _ rfl
    | 8, hq => cases hq; exact hP1 7 _ rfl
    | 9, hq => cases hq; exact hP1 8 _ rfl
    | 10, hq => cases hq; exact hP1 9 _ rfl
    | 11, hq => cases hq; exact (hP 11 _ rfl).kept (hk _ hlt1 o1)
    | n + 12, hq => cases hq
  · refine lv_aload_n hx hb dX13_back_25 rfl (lv_at hl 0 rfl) ?_
    refine lv_iconst (v := 0) hx hb dX13_back_26 (by decide) ?_
    generalize hZe : (zSetN Z (cpS (zKept Z) (zNow Z))) = Z1 at hP
    refine m_wr S hK hP hS (As := [.int 0]) (rest := []) (cM_says l D cI cJ ad Z1 _ hi 0) (cwV 1 hts gX13_back_X13_says rfl rfl rfl (by decide +kernel) ⟨Nat.le_of_ble_eq_true rfl, Nat.le_of_ble_eq_true rfl⟩) rfl hl.1 rfl (Nat.le_of_ble_eq_true rfl) dX13_back_27 ⟨Nat.zero_le _, Nat.zero_le _⟩ (fun H locs hP hS => ?_)
    have hsp : sp_back Z = (0, zR Z1 0) := by unfold sp_back; rw [if_neg c_1, hZe]
    exact W.iret hx hb hr (fun t2 ht2 hW => by rw [hsp]; exact ⟨rfl, by rw [ht2]; exact hP, hS.F ht2⟩) hS.2.2 dX13_back_30 hlocks
