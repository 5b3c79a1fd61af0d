/-! rows of arrays whose place is told as a number; the reference's smallest methods -/
section XROW
variable {p : Program} {l : Launch} {e : Env} {R : Room} {s : State} {m : MethodId} {args : Array Value} {below : List Frame} {meth : Method} {c : Code} {H : Heap} {locs : List Loc} {cells slots : Nat} {Q : State → Prop}
variable {cc : ByteArray} {pc : Nat} {ls : Array Slot} {rest : List Value} {D : va_G} {cl : List vw_C} {A : Nat → Prop} {a : Nat} {tys : List (ClassId × FieldType)} {ws : va_W} {H0 : Heap}
theorem x_iald (hexec : p.tables.exec = Jvm.exec) (hb : c.code = cc) (hK : va_K D cl tys s) (hP : va_P D cl ws H) (q0 t0 : Nat) {cA : ClassId} {n : Nat} {f : Nat → Int32} (ha : ws[q0]? = some (a, .inl (cA, n, .inl f))) (ht : tys[t0]? = some (cA, .int)) {i : Int32} (j : Nat) (hj : i = nI j) (hjn : j < n) (hn : n < 2 ^ 31) (hdg : decode cc pc = .ok (.iaload, 1))
    (kk : W p l e R s m args below meth c H locs cells slots Q (F0 m (pc + 1) ls (.int (f j) :: rest))) : W p l e R s m args below meth c H locs cells slots Q (F0 m pc ls (.int i :: .ref a :: rest)) := by
  subst hj
  refine va_iald hexec hb hK hP q0 t0 ha ht (vp_in_nI hjn hn) hdg ?_
  rw [nI_clamp (Nat.lt_trans hjn hn)]
  exact kk
theorem x_lald (hexec : p.tables.exec = Jvm.exec) (hb : c.code = cc) (hK : va_K D cl tys s) (hP : va_P D cl ws H) (q0 t0 : Nat) {cA : ClassId} {n : Nat} {f : Nat → Int64} (ha : ws[q0]? = some (a, .inl (cA, n, .inr (.inl f)))) (ht : tys[t0]? = some (cA, .long)) {i : Int32} (j : Nat) (hj : i = nI j) (hjn : j < n) (hn : n < 2 ^ 31) (hdg : decode cc pc = .ok (.laload, 1))
    (kk : W p l e R s m args below meth c H locs cells slots Q (F0 m (pc + 1) ls (.long (f j) :: rest))) : W p l e R s m args below meth c H locs cells slots Q (F0 m pc ls (.int i :: .ref a :: rest)) := by
  subst hj
  refine va_lald hexec hb hK hP q0 t0 ha ht (vp_in_nI hjn hn) hdg ?_
  rw [nI_clamp (Nat.lt_trans hjn hn)]
  exact kk
theorem x_iast (hexec : p.tables.exec = Jvm.exec) (hb : c.code = cc) (hK : va_K D cl tys s) (hP : va_P D cl ws H) (hD : va_D A ws) (hS : va_S A H0 H locs) (q0 t0 : Nat) {cA : ClassId} {n : Nat} {f : Nat → Int32} (ha : ws[q0]? = some (a, .inl (cA, n, .inl f))) (ht : tys[t0]? = some (cA, .int)) {i : Int32} {x : Int32} (j : Nat) (hj : i = nI j) (hjn : j < n) (hn : n < 2 ^ 31) (hdg : decode cc pc = .ok (.iastore, 1))
    (kk : ∀ (H1 : Heap) (locs1 : List Loc), va_P D cl (ws.set q0 (a, .inl (cA, n, .inl (upd f j x)))) H1 → va_S A H0 H1 locs1 → W p l e R s m args below meth c H1 locs1 cells slots Q (F0 m (pc + 1) ls rest)) : W p l e R s m args below meth c H locs cells slots Q (F0 m pc ls (.int x :: .int i :: .ref a :: rest)) := by
  subst hj
  refine va_iast hexec hb hK hP hD hS q0 t0 ha ht (vp_in_nI hjn hn) hdg (fun H1 locs1 hP _ hS => ?_)
  rw [nI_clamp (Nat.lt_trans hjn hn)] at hP
  exact kk H1 locs1 hP hS
theorem x_last (hexec : p.tables.exec = Jvm.exec) (hb : c.code = cc) (hK : va_K D cl tys s) (hP : va_P D cl ws H) (hD : va_D A ws) (hS : va_S A H0 H locs) (q0 t0 : Nat) {cA : ClassId} {n : Nat} {f : Nat → Int64} (ha : ws[q0]? = some (a, .inl (cA, n, .inr (.inl f)))) (ht : tys[t0]? = some (cA, .long)) {i : Int32} {x : Int64} (j : Nat) (hj : i = nI j) (hjn : j < n) (hn : n < 2 ^ 31) (hdg : decode cc pc = .ok (.lastore, 1))
    (kk : ∀ (H1 : Heap) (locs1 : List Loc), va_P D cl (ws.set q0 (a, .inl (cA, n, .inr (.inl (vp_updL f j x))))) H1 → va_S A H0 H1 locs1 → W p l e R s m args below meth c H1 locs1 cells slots Q (F0 m (pc + 1) ls rest)) : W p l e R s m args below meth c H locs cells slots Q (F0 m pc ls (.long x :: .int i :: .ref a :: rest)) := by
  subst hj
  refine va_last hexec hb hK hP hD hS q0 t0 ha ht (vp_in_nI hjn hn) hdg (fun H1 locs1 hP _ hS => ?_)
  rw [nI_clamp (Nat.lt_trans hjn hn)] at hP
  exact kk H1 locs1 hP hS
end XROW
def b2i (P : Prop) [Decidable P] : Int32 := if P then 1 else 0
theorem b2i_t {P : Prop} [Decidable P] (h : P) : b2i P = 1 := if_pos h
theorem b2i_f {P : Prop} [Decidable P] (h : ¬ P) : b2i P = 0 := if_neg h
theorem b2i_e {P : Prop} [Decidable P] (h : b2i P = 0) : ¬ P := fun hp => by rw [b2i_t hp] at h; exact absurd h (by decide)
theorem b2i_n {P : Prop} [Decidable P] (h : ¬ b2i P = 0) : P := by
  by_cases hp : P
  · exact hp
  · exact absurd (b2i_f hp) h
abbrev tN (t : Int32) : Nat := t.toNatClampNeg
def tok (t : Int32) : Prop := ∃ n : Nat, n ≤ 511 ∧ t = nI n
def pok (t : Int32) : Prop := ∃ n : Nat, n < 40 ∧ t = nI n
def tk (Z : mZ) (n k : Nat) : Int32 := zt Z (32 * n + k)
def tkp (Z : mZ) (n k : Nat) (v : Int32) : mZ := zT Z (upd (zt Z) (32 * n + k) v)
def sh (Z : mZ) (n k : Nat) : Int32 := zs Z (16 * n + k)
def shp (Z : mZ) (n k : Nat) (v : Int32) : mZ := zS Z (upd (zs Z) (16 * n + k) v)
def zhp (Z : mZ) (j : Nat) (v : Int32) : mZ := zH Z (upd (zh Z) j v)
def zcp (Z : mZ) (j : Nat) (v : Int64) : mZ := zC Z (vp_updL (zc Z) j v)
def zep (Z : mZ) (j : Nat) (v : Int64) : mZ := zE Z (vp_updL (ze Z) j v)
theorem tN_n {n : Nat} (h : n < 2 ^ 31) : tN (nI n) = n := nI_clamp h
theorem ix_32 {t w : Int32} {n k : Nat} (ht : t = nI n) (hw : w = nI k) : 32 * t + w = nI (32 * n + k) := by
  subst ht; subst hw
  rw [show (32 : Int32) = nI 32 from rfl, pk_mul, nI_add]
theorem ix_16 {t w : Int32} {n k : Nat} (ht : t = nI n) (hw : w = nI k) : 16 * t + w = nI (16 * n + k) := by
  subst ht; subst hw
  rw [show (16 : Int32) = nI 16 from rfl, pk_mul, nI_add]
abbrev rmZ : Room := { frames := 0, cells := 0, slots := 0, locals := 0 }
set_option maxHeartbeats 4000000 in
set_option maxRecDepth 100000 in
theorem cM_today (l : Launch) (D : va_G) (cI cJ : ClassId) (ad : Nat → Nat) (Z : mZ) (sz : Nat) : Met l yX13_today wsX13_today rmZ (mPc [.ref (ad 0)] D cI cJ ad Z sz) (k2_QcV (.int (zh Z 0))) 0 0 (fun _ => False) := by
  refine m_in (cc := cX13_today) (maxL := 1) (ret := some .int) (lv := [(0, .ref (ad 0))]) (by decide) rfl (Nat.le_of_ble_eq_true rfl) rfl ?_
  intro p e s m below meth c ls S hr hlocks hin hsz hP hK hl hS
  obtain ⟨hx, hb, hml, hown, hts⟩ := id S
  have h13 : ∀ w ∈ wsX130, w ∈ wsX13_today := by decide +kernel
  have h12 : ∀ w ∈ wsX120, w ∈ wsX13_today := by decide +kernel
  refine lv_aload_n hx hb dX13_today_0 rfl (lv_at hl 0 rfl) ?_
  refine va_get (D := D) (ci := 11) (v := .ref (ad 1)) (C := RX13) (T := TX13) (N := 6) hx hb hts h13 hown hK.1 hP 0 rfl rfl 0 (by decide) (hts (.fieldLink RX13 10 "PledgeHouseModel" "now" "LPledgeHouseModel$State;") (by decide +kernel)) (fun _ h9 => h9) rfl dX13_today_1 ?_
  refine va_getN (D := D) (ci := 10) (v := .ref (ad 3)) (C := RX12) (T := TX12) (N := 4) hx hb hts h12 hown hK.1 hP 1 rfl rfl 0 (by decide) (va_Nw.use rfl hK.2.1) (fun _ h9 => h9) rfl dX13_today_4 ?_
  refine lv_iconst (v := 0) hx hb dX13_today_7 (by decide) ?_
  refine x_iald hx hb hK.1 hP 3 0 rfl rfl 0 rfl (by decide) (by decide) dX13_today_8 ?_
  exact W.iret hx hb hr (fun t ht hW => ⟨rfl, ht⟩) (fun q hq => by cases hq) dX13_today_9 hlocks
set_option maxHeartbeats 4000000 in
set_option maxRecDepth 100000 in
theorem cM_ruleOf (l : Launch) (D : va_G) (cI cJ : ClassId) (ad : Nat → Nat) (Z : mZ) (sz : Nat) (k : Int32) (j : Nat) (hj : k = nI j) (hjn : j < 14) : Met l yX13_ruleOf wsX13_ruleOf rmZ (mPc [.ref (ad 0), .int k] D cI cJ ad Z sz) (k2_QcV (.int (zh Z (3 + j)))) 0 0 (fun _ => False) := by
  refine m_in (cc := cX13_ruleOf) (maxL := 2) (ret := some .int) (lv := [(0, .ref (ad 0)), (1, .int k)]) (by decide) rfl (Nat.le_of_ble_eq_true rfl) rfl ?_
  intro p e s m below meth c ls S hr hlocks hin hsz hP hK hl hS
  obtain ⟨hx, hb, hml, hown, hts⟩ := id S
  have h13 : ∀ w ∈ wsX130, w ∈ wsX13_ruleOf := by decide +kernel
  have h12 : ∀ w ∈ wsX120, w ∈ wsX13_ruleOf := by decide +kernel
  refine lv_aload_n hx hb dX13_ruleOf_0 rfl (lv_at hl 0 rfl) ?_
  refine va_get (D := D) (ci := 11) (v := .ref (ad 1)) (C := RX13) (T := TX13) (N := 6) hx hb hts h13 hown hK.1 hP 0 rfl rfl 0 (by decide) (hts (.fieldLink RX13 10 "PledgeHouseModel" "now" "LPledgeHouseModel$State;") (by decide +kernel)) (fun _ h9 => h9) rfl dX13_ruleOf_1 ?_
  refine va_getN (D := D) (ci := 10) (v := .ref (ad 3)) (C := RX12) (T := TX12) (N := 4) hx hb hts h12 hown hK.1 hP 1 rfl rfl 0 (by decide) (va_Nw.use rfl hK.2.1) (fun _ h9 => h9) rfl dX13_ruleOf_4 ?_
  refine lv_iconst (v := 3) hx hb dX13_ruleOf_7 (by decide) ?_
  refine lv_iload_n hx hb dX13_ruleOf_8 rfl (lv_at hl 1 rfl) ?_
  refine lv_iadd hx hb dX13_ruleOf_9 ?_
  refine x_iald hx hb hK.1 hP 3 0 rfl rfl (3 + j) (by rw [hj, show (3 : Int32) = nI 3 from rfl, nI_add]) (by omega) (by decide) dX13_ruleOf_10 ?_
  exact W.iret hx hb hr (fun t ht hW => ⟨rfl, ht⟩) (fun q hq => by cases hq) dX13_ruleOf_11 hlocks
set_option maxHeartbeats 4000000 in
set_option maxRecDepth 100000 in
theorem cM_at (l : Launch) (D : va_G) (cI cJ : ClassId) (ad : Nat → Nat) (Z : mZ) (sz : Nat) (t w : Int32) (ht : pok t) (k : Nat) (hw : w = nI k) (hk : k < 16) : Met l yX13_at wsX13_at rmZ (mPc [.ref (ad 0), .int t, .int w] D cI cJ ad Z sz) (k2_QcV (.int (sh Z (tN t) k))) 0 0 (fun _ => False) := by
  obtain ⟨n, hn, hnt⟩ := ht
  have htn : tN t = n := by rw [hnt]; exact tN_n (by omega)
  refine m_in (cc := cX13_at) (maxL := 3) (ret := some .int) (lv := [(0, .ref (ad 0)), (1, .int t), (2, .int w)]) (by decide) rfl (Nat.le_of_ble_eq_true rfl) rfl ?_
  intro p e s m below meth c ls S hr hlocks hin hsz hP hK hl hS
  obtain ⟨hx, hb, hml, hown, hts⟩ := id S
  have h13 : ∀ w ∈ wsX130, w ∈ wsX13_at := by decide +kernel
  have h12 : ∀ w ∈ wsX120, w ∈ wsX13_at := by decide +kernel
  refine lv_aload_n hx hb dX13_at_0 rfl (lv_at hl 0 rfl) ?_
  refine va_get (D := D) (ci := 11) (v := .ref (ad 1)) (C := RX13) (T := TX13) (N := 6) hx hb hts h13 hown hK.1 hP 0 rfl rfl 0 (by decide) (hts (.fieldLink RX13 10 "PledgeHouseModel" "now" "LPledgeHouseModel$State;") (by decide +kernel)) (fun _ h9 => h9) rfl dX13_at_1 ?_
  refine va_getN (D := D) (ci := 10) (v := .ref (ad 4)) (C := RX12) (T := TX12) (N := 4) hx hb hts h12 hown hK.1 hP 1 rfl rfl 1 (by decide) (va_Nw.use rfl hK.2.2.1) (fun _ h9 => h9) rfl dX13_at_4 ?_
  refine lv_bipush (v := 16) hx hb dX13_at_7 (by decide) ?_
  refine lv_iload_n hx hb dX13_at_9 rfl (lv_at hl 1 rfl) ?_
  refine lv_imul hx hb dX13_at_10 ?_
  refine lv_iload_n hx hb dX13_at_11 rfl (lv_at hl 2 rfl) ?_
  refine lv_iadd hx hb dX13_at_12 ?_
  refine x_iald hx hb hK.1 hP 4 0 rfl rfl (16 * n + k) (ix_16 hnt hw) (by omega) (by decide) dX13_at_13 ?_
  exact W.iret hx hb hr (fun t2 ht2 hW => ⟨by rw [htn]; rfl, ht2⟩) (fun q hq => by cases hq) dX13_at_14 hlocks
set_option maxHeartbeats 4000000 in
set_option maxRecDepth 100000 in
theorem cM_of (l : Launch) (D : va_G) (cI cJ : ClassId) (ad : Nat → Nat) (Z : mZ) (sz : Nat) (t w : Int32) (ht : tok t) (k : Nat) (hw : w = nI k) (hk : k < 32) : Met l yX13_of wsX13_of rmZ (mPc [.ref (ad 0), .int t, .int w] D cI cJ ad Z sz) (k2_QcV (.int (tk Z (tN t) k))) 0 0 (fun _ => False) := by
  obtain ⟨n, hn, hnt⟩ := ht
  have htn : tN t = n := by rw [hnt]; exact tN_n (by omega)
  refine m_in (cc := cX13_of) (maxL := 3) (ret := some .int) (lv := [(0, .ref (ad 0)), (1, .int t), (2, .int w)]) (by decide) rfl (Nat.le_of_ble_eq_true rfl) rfl ?_
  intro p e s m below meth c ls S hr hlocks hin hsz hP hK hl hS
  obtain ⟨hx, hb, hml, hown, hts⟩ := id S
  have h13 : ∀ w ∈ wsX130, w ∈ wsX13_of := by decide +kernel
  have h12 : ∀ w ∈ wsX120, w ∈ wsX13_of := by decide +kernel
  refine lv_aload_n hx hb dX13_of_0 rfl (lv_at hl 0 rfl) ?_
  refine va_get (D := D) (ci := 11) (v := .ref (ad 1)) (C := RX13) (T := TX13) (N := 6) hx hb hts h13 hown hK.1 hP 0 rfl rfl 0 (by decide) (hts (.fieldLink RX13 10 "PledgeHouseModel" "now" "LPledgeHouseModel$State;") (by decide +kernel)) (fun _ h9 => h9) rfl dX13_of_1 ?_
  refine va_getN (D := D) (ci := 10) (v := .ref (ad 5)) (C := RX12) (T := TX12) (N := 4) hx hb hts h12 hown hK.1 hP 1 rfl rfl 2 (by decide) (va_Nw.use rfl hK.2.2.2.1) (fun _ h9 => h9) rfl dX13_of_4 ?_
  refine lv_bipush (v := 32) hx hb dX13_of_7 (by decide) ?_
  refine lv_iload_n hx hb dX13_of_9 rfl (lv_at hl 1 rfl) ?_
  refine lv_imul hx hb dX13_of_10 ?_
  refine lv_iload_n hx hb dX13_of_11 rfl (lv_at hl 2 rfl) ?_
  refine lv_iadd hx hb dX13_of_12 ?_
  refine x_iald hx hb hK.1 hP 5 0 rfl rfl (32 * n + k) (ix_32 hnt hw) (by omega) (by decide) dX13_of_13 ?_
  exact W.iret hx hb hr (fun t2 ht2 hW => ⟨by rw [htn]; rfl, ht2⟩) (fun q hq => by cases hq) dX13_of_14 hlocks
set_option maxHeartbeats 4000000 in
set_option maxRecDepth 100000 in
theorem cM_put (l : Launch) (D : va_G) (cI cJ : ClassId) (ad : Nat → Nat) (Z : mZ) (sz : Nat) (hi : mI ad) (t w v : Int32) (ht : tok t) (k : Nat) (hw : w = nI k) (hk : k < 32) : Met l yX13_put wsX13_put rmZ (mPc [.ref (ad 0), .int t, .int w, .int v] D cI cJ ad Z sz) (mQ D cI cJ ad none (tkp Z (tN t) k v) sz) 0 0 (mA ad sz) := by
  obtain ⟨n, hn, hnt⟩ := ht
  have htn : tN t = n := by rw [hnt]; exact tN_n (by omega)
  refine m_in (cc := cX13_put) (maxL := 4) (ret := none) (lv := [(0, .ref (ad 0)), (1, .int t), (2, .int w), (3, .int v)]) (by decide) rfl (Nat.le_of_ble_eq_true rfl) rfl ?_
  intro p e s m below meth c ls S hr hlocks hin hsz hP hK hl hS
  subst hsz
  obtain ⟨hx, hb, hml, hown, hts⟩ := id S
  have h13 : ∀ w ∈ wsX130, w ∈ wsX13_put := by decide +kernel
  have h12 : ∀ w ∈ wsX120, w ∈ wsX13_put := by decide +kernel
  refine lv_aload_n hx hb dX13_put_0 rfl (lv_at hl 0 rfl) ?_
  refine va_get (D := D) (ci := 11) (v := .ref (ad 1)) (C := RX13) (T := TX13) (N := 6) hx hb hts h13 hown hK.1 hP 0 rfl rfl 0 (by decide) (hts (.fieldLink RX13 10 "PledgeHouseModel" "now" "LPledgeHouseModel$State;") (by decide +kernel)) (fun _ h9 => h9) rfl dX13_put_1 ?_
  refine va_getN (D := D) (ci := 10) (v := .ref (ad 5)) (C := RX12) (T := TX12) (N := 4) hx hb hts h12 hown hK.1 hP 1 rfl rfl 2 (by decide) (va_Nw.use rfl hK.2.2.2.1) (fun _ h9 => h9) rfl dX13_put_4 ?_
  refine lv_bipush (v := 32) hx hb dX13_put_7 (by decide) ?_
  refine lv_iload_n hx hb dX13_put_9 rfl (lv_at hl 1 rfl) ?_
  refine lv_imul hx hb dX13_put_10 ?_
  refine lv_iload_n hx hb dX13_put_11 rfl (lv_at hl 2 rfl) ?_
  refine lv_iadd hx hb dX13_put_12 ?_
  refine lv_iload_n hx hb dX13_put_13 rfl (lv_at hl 3 rfl) ?_
  refine x_iast hx hb hK.1 hP (wM_D hi s.heap.size Z) hS 5 0 rfl rfl (32 * n + k) (ix_32 hnt hw) (by omega) (by decide) dX13_put_14 (fun H locs hP hS => ?_)
  have hP : va_P D vwCl (wM ad cI cJ (tkp Z (tN t) k v)) H := by rw [htn]; exact hP
  exact W.vret hx hb hr (fun t2 ht2 hW => ⟨rfl, by rw [ht2]; exact hP, hS.F ht2⟩) hS.2.2 dX13_put_15 hlocks
set_option maxHeartbeats 4000000 in
set_option maxRecDepth 100000 in
theorem cM_set (l : Launch) (D : va_G) (cI cJ : ClassId) (ad : Nat → Nat) (Z : mZ) (sz : Nat) (hi : mI ad) (t w v : Int32) (ht : pok t) (k : Nat) (hw : w = nI k) (hk : k < 16) : Met l yX13_set wsX13_set rmZ (mPc [.ref (ad 0), .int t, .int w, .int v] D cI cJ ad Z sz) (mQ D cI cJ ad none (shp Z (tN t) k v) sz) 0 0 (mA ad sz) := by
  obtain ⟨n, hn, hnt⟩ := ht
  have htn : tN t = n := by rw [hnt]; exact tN_n (by omega)
  refine m_in (cc := cX13_set) (maxL := 4) (ret := none) (lv := [(0, .ref (ad 0)), (1, .int t), (2, .int w), (3, .int v)]) (by decide) rfl (Nat.le_of_ble_eq_true rfl) rfl ?_
  intro p e s m below meth c ls S hr hlocks hin hsz hP hK hl hS
  subst hsz
  obtain ⟨hx, hb, hml, hown, hts⟩ := id S
  have h13 : ∀ w ∈ wsX130, w ∈ wsX13_set := by decide +kernel
  have h12 : ∀ w ∈ wsX120, w ∈ wsX13_set := by decide +kernel
  refine lv_aload_n hx hb dX13_set_0 rfl (lv_at hl 0 rfl) ?_
  refine va_get (D := D) (ci := 11) (v := .ref (ad 1)) (C := RX13) (T := TX13) (N := 6) hx hb hts h13 hown hK.1 hP 0 rfl rfl 0 (by decide) (hts (.fieldLink RX13 10 "PledgeHouseModel" "now" "LPledgeHouseModel$State;") (by decide +kernel)) (fun _ h9 => h9) rfl dX13_set_1 ?_
  refine va_getN (D := D) (ci := 10) (v := .ref (ad 4)) (C := RX12) (T := TX12) (N := 4) hx hb hts h12 hown hK.1 hP 1 rfl rfl 1 (by decide) (va_Nw.use rfl hK.2.2.1) (fun _ h9 => h9) rfl dX13_set_4 ?_
  refine lv_bipush (v := 16) hx hb dX13_set_7 (by decide) ?_
  refine lv_iload_n hx hb dX13_set_9 rfl (lv_at hl 1 rfl) ?_
  refine lv_imul hx hb dX13_set_10 ?_
  refine lv_iload_n hx hb dX13_set_11 rfl (lv_at hl 2 rfl) ?_
  refine lv_iadd hx hb dX13_set_12 ?_
  refine lv_iload_n hx hb dX13_set_13 rfl (lv_at hl 3 rfl) ?_
  refine x_iast hx hb hK.1 hP (wM_D hi s.heap.size Z) hS 4 0 rfl rfl (16 * n + k) (ix_16 hnt hw) (by omega) (by decide) dX13_set_14 (fun H locs hP hS => ?_)
  have hP : va_P D vwCl (wM ad cI cJ (shp Z (tN t) k v)) H := by rw [htn]; exact hP
  exact W.vret hx hb hr (fun t2 ht2 hW => ⟨rfl, by rw [ht2]; exact hP, hS.F ht2⟩) hS.2.2 dX13_set_15 hlocks
set_option maxHeartbeats 4000000 in
set_option maxRecDepth 100000 in
theorem cM_says (l : Launch) (D : va_G) (cI cJ : ClassId) (ad : Nat → Nat) (Z : mZ) (sz : Nat) (hi : mI ad) (v : Int32) : Met l yX13_says wsX13_says rmZ (mPc [.ref (ad 0), .int v] D cI cJ ad Z sz) (mQ D cI cJ ad (some (.int v)) (zR Z v) sz) 0 0 (mA ad sz) := by
  refine m_in (cc := cX13_says) (maxL := 2) (ret := some .int) (lv := [(0, .ref (ad 0)), (1, .int v)]) (by decide) rfl (Nat.le_of_ble_eq_true rfl) rfl ?_
  intro p e s m below meth c ls S hr hlocks hin hsz hP hK hl hS
  subst hsz
  obtain ⟨hx, hb, hml, hown, hts⟩ := id S
  have h13 : ∀ w ∈ wsX130, w ∈ wsX13_says := by decide +kernel
  refine lv_aload_n hx hb dX13_says_0 rfl (lv_at hl 0 rfl) ?_
  refine lv_iconst (v := 0) hx hb dX13_says_1 (by decide) ?_
  refine va_put (D := D) (ci := 11) (v := .int 0) (ty := .int) (C := RX13) (T := TX13) (N := 6) hx hb hts h13 tyX13 tyX13_ok nmX13 hown hK.1 hP (wM_D hi s.heap.size Z) hS 0 rfl rfl 4 (by decide) (hts (.fieldLink RX13 34 "PledgeHouseModel" "thrown" "I") (by decide +kernel)) (fun _ h9 => h9) rfl (by decide +kernel) rfl rfl (Nat.le_of_ble_eq_true rfl) dX13_says_2 (fun H locs hP _ hS => ?_)
  have hP : va_P D vwCl (wM ad cI cJ Z) H := hP
  refine lv_aload_n hx hb dX13_says_5 rfl (lv_at hl 0 rfl) ?_
  refine lv_iload_n hx hb dX13_says_6 rfl (lv_at hl 1 rfl) ?_
  refine va_put (D := D) (ci := 11) (v := .int v) (ty := .int) (C := RX13) (T := TX13) (N := 6) hx hb hts h13 tyX13 tyX13_ok nmX13 hown hK.1 hP (wM_D hi s.heap.size Z) hS 0 rfl rfl 5 (by decide) (hts (.fieldLink RX13 38 "PledgeHouseModel" "status" "I") (by decide +kernel)) (fun _ h9 => h9) rfl (by decide +kernel) rfl rfl (Nat.le_of_ble_eq_true rfl) dX13_says_7 (fun H locs hP _ hS => ?_)
  have hP : va_P D vwCl (wM ad cI cJ (zR Z v)) H := hP
  refine lv_iload_n hx hb dX13_says_10 rfl (lv_at hl 1 rfl) ?_
  exact W.iret hx hb hr (fun t2 ht2 hW => ⟨rfl, by rw [ht2]; exact hP, hS.F ht2⟩) hS.2.2 dX13_says_11 hlocks
theorem met_r {l : Launch} {y : MethodName} {ws : List Cond} {rm : Room} {Pc : Array Value → State → Prop} {mc ms : Nat} {free : Addr → Prop} {r r' : Int32} (h : r = r') (hM : Met l y ws rm Pc (k2_QcV (.int r)) mc ms free) : Met l y ws rm Pc (k2_QcV (.int r')) mc ms free := h ▸ hM
theorem wtop {p : Program} {l : Launch} {e : Env} {R : Room} {s : State} {m : MethodId} {args : Array Value} {below : List Frame} {meth : Method} {c : Code} {H : Heap} {locs : List Loc} {cells slots : Nat} {Q : State → Prop} {pc : Nat} {ls : Array Slot} {rest : List Value} {v v' : Value} (h : v = v') (k : W p l e R s m args below meth c H locs cells slots Q (F0 m pc ls (v' :: rest))) : W p l e R s m args below meth c H locs cells slots Q (F0 m pc ls (v :: rest)) := h ▸ k
theorem tk_ne {Z : mZ} {n k j : Nat} {v : Int32} (h : k ≠ j) : tk (tkp Z n j v) n k = tk Z n k := if_neg (fun e => h (by omega))
theorem tk_eq {Z : mZ} {n k : Nat} {v : Int32} : tk (tkp Z n k v) n k = v := if_pos rfl
theorem sh_ne {Z : mZ} {n k j : Nat} {v : Int32} (h : k ≠ j) : sh (shp Z n j v) n k = sh Z n k := if_neg (fun e => h (by omega))
theorem sh_eq {Z : mZ} {n k : Nat} {v : Int32} : sh (shp Z n k v) n k = v := if_pos rfl
/-! what each reading is behind each putting: by name, so that the kernel need not compare states -/
theorem zh_tkp {Z : mZ} {j : Nat} {n k : Nat} {v : Int32} : zh (tkp Z n k v) j = zh Z j := rfl
theorem zh_shp {Z : mZ} {j : Nat} {n k : Nat} {v : Int32} : zh (shp Z n k v) j = zh Z j := rfl
theorem zh_zcp {Z : mZ} {j : Nat} {i : Nat} {v : Int64} : zh (zcp Z i v) j = zh Z j := rfl
theorem zh_zep {Z : mZ} {j : Nat} {i : Nat} {v : Int64} : zh (zep Z i v) j = zh Z j := rfl
theorem zh_zR {Z : mZ} {j : Nat} {v : Int32} : zh (zR Z v) j = zh Z j := rfl
theorem zh_zIK {Z : mZ} {j : Nat} {v : Int32} : zh (zIK Z v) j = zh Z j := rfl
theorem zs_tkp {Z : mZ} {j : Nat} {n k : Nat} {v : Int32} : zs (tkp Z n k v) j = zs Z j := rfl
theorem zs_zhp {Z : mZ} {j : Nat} {i : Nat} {v : Int32} : zs (zhp Z i v) j = zs Z j := rfl
theorem zs_zcp {Z : mZ} {j : Nat} {i : Nat} {v : Int64} : zs (zcp Z i v) j = zs Z j := rfl
theorem zs_zep {Z : mZ} {j : Nat} {i : Nat} {v : Int64} : zs (zep Z i v) j = zs Z j := rfl
theorem zs_zR {Z : mZ} {j : Nat} {v : Int32} : zs (zR Z v) j = zs Z j := rfl
theorem zs_zIK {Z : mZ} {j : Nat} {v : Int32} : zs (zIK Z v) j = zs Z j := rfl
theorem zt_shp {Z : mZ} {j : Nat} {n k : Nat} {v : Int32} : zt (shp Z n k v) j = zt Z j := rfl
theorem zt_zhp {Z : mZ} {j : Nat} {i : Nat} {v : Int32} : zt (zhp Z i v) j = zt Z j := rfl
theorem zt_zcp {Z : mZ} {j : Nat} {i : Nat} {v : Int64} : zt (zcp Z i v) j = zt Z j := rfl
theorem zt_zep {Z : mZ} {j : Nat} {i : Nat} {v : Int64} : zt (zep Z i v) j = zt Z j := rfl
theorem zt_zR {Z : mZ} {j : Nat} {v : Int32} : zt (zR Z v) j = zt Z j := rfl
theorem zt_zIK {Z : mZ} {j : Nat} {v : Int32} : zt (zIK Z v) j = zt Z j := rfl
theorem zc_tkp {Z : mZ} {j : Nat} {n k : Nat} {v : Int32} : zc (tkp Z n k v) j = zc Z j := rfl
theorem zc_shp {Z : mZ} {j : Nat} {n k : Nat} {v : Int32} : zc (shp Z n k v) j = zc Z j := rfl
theorem zc_zhp {Z : mZ} {j : Nat} {i : Nat} {v : Int32} : zc (zhp Z i v) j = zc Z j := rfl
theorem zc_zep {Z : mZ} {j : Nat} {i : Nat} {v : Int64} : zc (zep Z i v) j = zc Z j := rfl
theorem zc_zR {Z : mZ} {j : Nat} {v : Int32} : zc (zR Z v) j = zc Z j := rfl
theorem zc_zIK {Z : mZ} {j : Nat} {v : Int32} : zc (zIK Z v) j = zc Z j := rfl
theorem ze_tkp {Z : mZ} {j : Nat} {n k : Nat} {v : Int32} : ze (tkp Z n k v) j = ze Z j := rfl
theorem ze_shp {Z : mZ} {j : Nat} {n k : Nat} {v : Int32} : ze (shp Z n k v) j = ze Z j := rfl
theorem ze_zhp {Z : mZ} {j : Nat} {i : Nat} {v : Int32} : ze (zhp Z i v) j = ze Z j := rfl
theorem ze_zcp {Z : mZ} {j : Nat} {i : Nat} {v : Int64} : ze (zcp Z i v) j = ze Z j := rfl
theorem ze_zR {Z : mZ} {j : Nat} {v : Int32} : ze (zR Z v) j = ze Z j := rfl
theorem ze_zIK {Z : mZ} {j : Nat} {v : Int32} : ze (zIK Z v) j = ze Z j := rfl
theorem zh_zhp_ne {Z : mZ} {i j : Nat} {v : Int32} (h : j ≠ i) : zh (zhp Z i v) j = zh Z j := if_neg h
theorem zh_zhp_eq {Z : mZ} {i : Nat} {v : Int32} : zh (zhp Z i v) i = v := if_pos rfl
theorem zc_zcp_ne {Z : mZ} {i j : Nat} {v : Int64} (h : j ≠ i) : zc (zcp Z i v) j = zc Z j := if_neg h
theorem zc_zcp_eq {Z : mZ} {i : Nat} {v : Int64} : zc (zcp Z i v) i = v := if_pos rfl
theorem ze_zep_ne {Z : mZ} {i j : Nat} {v : Int64} (h : j ≠ i) : ze (zep Z i v) j = ze Z j := if_neg h
theorem ze_zep_eq {Z : mZ} {i : Nat} {v : Int64} : ze (zep Z i v) i = v := if_pos rfl
theorem tk_shp {Z : mZ} {n k : Nat} {n2 k2 : Nat} {v : Int32} : tk (shp Z n2 k2 v) n k = tk Z n k := rfl
theorem tk_zhp {Z : mZ} {n k : Nat} {i : Nat} {v : Int32} : tk (zhp Z i v) n k = tk Z n k := rfl
theorem tk_zcp {Z : mZ} {n k : Nat} {i : Nat} {v : Int64} : tk (zcp Z i v) n k = tk Z n k := rfl
theorem tk_zep {Z : mZ} {n k : Nat} {i : Nat} {v : Int64} : tk (zep Z i v) n k = tk Z n k := rfl
theorem tk_zR {Z : mZ} {n k : Nat} {v : Int32} : tk (zR Z v) n k = tk Z n k := rfl
theorem tk_zIK {Z : mZ} {n k : Nat} {v : Int32} : tk (zIK Z v) n k = tk Z n k := rfl
theorem sh_tkp {Z : mZ} {n k : Nat} {n2 k2 : Nat} {v : Int32} : sh (tkp Z n2 k2 v) n k = sh Z n k := rfl
theorem sh_zhp {Z : mZ} {n k : Nat} {i : Nat} {v : Int32} : sh (zhp Z i v) n k = sh Z n k := rfl
theorem sh_zcp {Z : mZ} {n k : Nat} {i : Nat} {v : Int64} : sh (zcp Z i v) n k = sh Z n k := rfl
theorem sh_zep {Z : mZ} {n k : Nat} {i : Nat} {v : Int64} : sh (zep Z i v) n k = sh Z n k := rfl
theorem sh_zR {Z : mZ} {n k : Nat} {v : Int32} : sh (zR Z v) n k = sh Z n k := rfl
theorem sh_zIK {Z : mZ} {n k : Nat} {v : Int32} : sh (zIK Z v) n k = sh Z n k := rfl
section MXROW
variable {p : Program} {l : Launch} {e : Env} {R : Room} {s : State} {m : MethodId} {args : Array Value} {below : List Frame} {meth : Method} {c : Code} {H : Heap} {locs : List Loc} {cells slots : Nat} {Q : State → Prop}
variable {cc : ByteArray} {pc : Nat} {ls : Array Slot} {rest : List Value} {D : va_G} {A : Nat → Prop} {H0 : Heap} {ad : Nat → Nat} {cI cJ : ClassId} {Z : mZ}
theorem mx_hld (hexec : p.tables.exec = Jvm.exec) (hb : c.code = cc) (hK : va_K D vwCl [(cI, .int), (cJ, .long)] s) (hP : va_P D vwCl (wM ad cI cJ Z) H) {i : Int32} (j : Nat) (hj : i = nI j) (hjn : j < 17) {v : Int32} (hv : zh Z j = v) (hdg : decode cc pc = .ok (.iaload, 1))
    (kk : W p l e R s m args below meth c H locs cells slots Q (F0 m (pc + 1) ls (.int v :: rest))) : W p l e R s m args below meth c H locs cells slots Q (F0 m pc ls (.int i :: .ref (ad 3) :: rest)) :=
  x_iald hexec hb hK hP 3 0 rfl rfl j hj hjn (by decide) hdg (by rw [hv]; exact kk)
theorem mx_cld (hexec : p.tables.exec = Jvm.exec) (hb : c.code = cc) (hK : va_K D vwCl [(cI, .int), (cJ, .long)] s) (hP : va_P D vwCl (wM ad cI cJ Z) H) {i : Int32} (j : Nat) (hj : i = nI j) (hjn : j < 7) {v : Int64} (hv : zc Z j = v) (hdg : decode cc pc = .ok (.laload, 1))
    (kk : W p l e R s m args below meth c H locs cells slots Q (F0 m (pc + 1) ls (.long v :: rest))) : W p l e R s m args below meth c H locs cells slots Q (F0 m pc ls (.int i :: .ref (ad 6) :: rest)) :=
  x_lald hexec hb hK hP 6 1 rfl rfl j hj hjn (by decide) hdg (by rw [hv]; exact kk)
theorem mx_eld (hexec : p.tables.exec = Jvm.exec) (hb : c.code = cc) (hK : va_K D vwCl [(cI, .int), (cJ, .long)] s) (hP : va_P D vwCl (wM ad cI cJ Z) H) {i : Int32} (j : Nat) (hj : i = nI j) (hjn : j < 94913) {v : Int64} (hv : ze Z j = v) (hdg : decode cc pc = .ok (.laload, 1))
    (kk : W p l e R s m args below meth c H locs cells slots Q (F0 m (pc + 1) ls (.long v :: rest))) : W p l e R s m args below meth c H locs cells slots Q (F0 m pc ls (.int i :: .ref (ad 11) :: rest)) :=
  x_lald hexec hb hK hP 11 1 rfl rfl j hj hjn (by decide) hdg (by rw [hv]; exact kk)
theorem mx_hst (hexec : p.tables.exec = Jvm.exec) (hb : c.code = cc) (hK : va_K D vwCl [(cI, .int), (cJ, .long)] s) (hP : va_P D vwCl (wM ad cI cJ Z) H) (hD : va_D A (wM ad cI cJ Z)) (hS : va_S A H0 H locs) {i : Int32} {x : Int32} (j : Nat) (hj : i = nI j) (hjn : j < 17) (hdg : decode cc pc = .ok (.iastore, 1))
    (kk : ∀ (H1 : Heap) (locs1 : List Loc), va_P D vwCl (wM ad cI cJ (zhp Z j x)) H1 → va_S A H0 H1 locs1 → W p l e R s m args below meth c H1 locs1 cells slots Q (F0 m (pc + 1) ls rest)) : W p l e R s m args below meth c H locs cells slots Q (F0 m pc ls (.int x :: .int i :: .ref (ad 3) :: rest)) :=
  x_iast hexec hb hK hP hD hS 3 0 rfl rfl j hj hjn (by decide) hdg (fun H1 locs1 hP hS => kk H1 locs1 hP hS)
theorem mx_cst (hexec : p.tables.exec = Jvm.exec) (hb : c.code = cc) (hK : va_K D vwCl [(cI, .int), (cJ, .long)] s) (hP : va_P D vwCl (wM ad cI cJ Z) H) (hD : va_D A (wM ad cI cJ Z)) (hS : va_S A H0 H locs) {i : Int32} {x : Int64} (j : Nat) (hj : i = nI j) (hjn : j < 7) (hdg : decode cc pc = .ok (.lastore, 1))
    (kk : ∀ (H1 : Heap) (locs1 : List Loc), va_P D vwCl (wM ad cI cJ (zcp Z j x)) H1 → va_S A H0 H1 locs1 → W p l e R s m args below meth c H1 locs1 cells slots Q (F0 m (pc + 1) ls rest)) : W p l e R s m args below meth c H locs cells slots Q (F0 m pc ls (.long x :: .int i :: .ref (ad 6) :: rest)) :=
  x_last hexec hb hK hP hD hS 6 1 rfl rfl j hj hjn (by decide) hdg (fun H1 locs1 hP hS => kk H1 locs1 hP hS)
theorem mx_est (hexec : p.tables.exec = Jvm.exec) (hb : c.code = cc) (hK : va_K D vwCl [(cI, .int), (cJ, .long)] s) (hP : va_P D vwCl (wM ad cI cJ Z) H) (hD : va_D A (wM ad cI cJ Z)) (hS : va_S A H0 H locs) {i : Int32} {x : Int64} (j : Nat) (hj : i = nI j) (hjn : j < 94913) (hdg : decode cc pc = .ok (.lastore, 1))
    (kk : ∀ (H1 : Heap) (locs1 : List Loc), va_P D vwCl (wM ad cI cJ (zep Z j x)) H1 → va_S A H0 H1 locs1 → W p l e R s m args below meth c H1 locs1 cells slots Q (F0 m (pc + 1) ls rest)) : W p l e R s m args below meth c H locs cells slots Q (F0 m pc ls (.long x :: .int i :: .ref (ad 11) :: rest)) :=
  x_last hexec hb hK hP hD hS 11 1 rfl rfl j hj hjn (by decide) hdg (fun H1 locs1 hP hS => kk H1 locs1 hP hS)
end MXROW
