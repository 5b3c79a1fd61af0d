/-! the reference's world: twelve cells at fixed addresses, and what they hold -/
abbrev mZ : Type := (Nat → Int32) × (Nat → Int32) × (Nat → Int32) × (Nat → Int64) × (Nat → Int32) × (Nat → Int32) × (Nat → Int32) × (Nat → Int64) × (Nat → Int64) × Int32 × Int32
abbrev zh (Z : mZ) : Nat → Int32 := Z.1
abbrev zs (Z : mZ) : Nat → Int32 := Z.2.1
abbrev zt (Z : mZ) : Nat → Int32 := Z.2.2.1
abbrev zc (Z : mZ) : Nat → Int64 := Z.2.2.2.1
abbrev zyh (Z : mZ) : Nat → Int32 := Z.2.2.2.2.1
abbrev zys (Z : mZ) : Nat → Int32 := Z.2.2.2.2.2.1
abbrev zyt (Z : mZ) : Nat → Int32 := Z.2.2.2.2.2.2.1
abbrev zyc (Z : mZ) : Nat → Int64 := Z.2.2.2.2.2.2.2.1
abbrev ze (Z : mZ) : Nat → Int64 := Z.2.2.2.2.2.2.2.2.1
abbrev zik (Z : mZ) : Int32 := Z.2.2.2.2.2.2.2.2.2.1
abbrev zst (Z : mZ) : Int32 := Z.2.2.2.2.2.2.2.2.2.2
def zH (Z : mZ) (f : Nat → Int32) : mZ := (f, Z.2)
def zS (Z : mZ) (f : Nat → Int32) : mZ := (Z.1, f, Z.2.2)
def zT (Z : mZ) (f : Nat → Int32) : mZ := (Z.1, Z.2.1, f, Z.2.2.2)
def zC (Z : mZ) (f : Nat → Int64) : mZ := (Z.1, Z.2.1, Z.2.2.1, f, Z.2.2.2.2)
def zE (Z : mZ) (f : Nat → Int64) : mZ := (zh Z, zs Z, zt Z, zc Z, zyh Z, zys Z, zyt Z, zyc Z, f, zik Z, zst Z)
def zR (Z : mZ) (r : Int32) : mZ := (zh Z, zs Z, zt Z, zc Z, zyh Z, zys Z, zyt Z, zyc Z, ze Z, zik Z, r)
def zIK (Z : mZ) (r : Int32) : mZ := (zh Z, zs Z, zt Z, zc Z, zyh Z, zys Z, zyt Z, zyc Z, ze Z, r, zst Z)
abbrev wM (ad : Nat → Nat) (cI cJ : ClassId) (Z : mZ) : va_W := [
  (ad 0, .inr (11, [.ref (ad 1), .ref (ad 2), .ref (ad 11), .int (zik Z), .int 0, .int (zst Z)])),
  (ad 1, .inr (10, [.ref (ad 3), .ref (ad 4), .ref (ad 5), .ref (ad 6)])),
  (ad 2, .inr (10, [.ref (ad 7), .ref (ad 8), .ref (ad 9), .ref (ad 10)])),
  (ad 3, .inl (cI, 17, .inl (zh Z))), (ad 4, .inl (cI, 640, .inl (zs Z))), (ad 5, .inl (cI, 16384, .inl (zt Z))), (ad 6, .inl (cJ, 7, .inr (.inl (zc Z)))),
  (ad 7, .inl (cI, 17, .inl (zyh Z))), (ad 8, .inl (cI, 640, .inl (zys Z))), (ad 9, .inl (cI, 16384, .inl (zyt Z))), (ad 10, .inl (cJ, 7, .inr (.inl (zyc Z)))),
  (ad 11, .inl (cJ, 94913, .inr (.inl (ze Z))))]
def mI (ad : Nat → Nat) : Prop := ∀ i j, i < 12 → j < 12 → ad i = ad j → i = j
def mA (ad : Nat → Nat) (sz : Nat) : Nat → Prop := fun q => (∃ i, i < 12 ∧ q = ad i) ∨ sz ≤ q
theorem mA_new {ad : Nat → Nat} {sz : Nat} : ∀ q : Nat, sz ≤ q → mA ad sz q := fun _ h => Or.inr h
theorem mA_le {ad : Nat → Nat} {a b : Nat} (h : a ≤ b) : ∀ q : Nat, mA ad b q → mA ad a q := fun q hq => hq.elim Or.inl (fun z => Or.inr (Nat.le_trans h z))
theorem wM_at {ad : Nat → Nat} {cI cJ : ClassId} {Z : mZ} : ∀ (i : Nat) (p : Nat × va_E), (wM ad cI cJ Z)[i]? = some p → i < 12 ∧ p.1 = ad i
  | 0, p, h => by cases h; exact ⟨by decide, rfl⟩
  | 1, p, h => by cases h; exact ⟨by decide, rfl⟩
  | 2, p, h => by cases h; exact ⟨by decide, rfl⟩
  | 3, p, h => by cases h; exact ⟨by decide, rfl⟩
  | 4, p, h => by cases h; exact ⟨by decide, rfl⟩
  | 5, p, h => by cases h; exact ⟨by decide, rfl⟩
  | 6, p, h => by cases h; exact ⟨by decide, rfl⟩
  | 7, p, h => by cases h; exact ⟨by decide, rfl⟩
  | 8, p, h => by cases h; exact ⟨by decide, rfl⟩
  | 9, p, h => by cases h; exact ⟨by decide, rfl⟩
  | 10, p, h => by cases h; exact ⟨by decide, rfl⟩
  | 11, p, h => by cases h; exact ⟨by decide, rfl⟩
  | n + 12, p, h => by cases h
theorem wM_D {ad : Nat → Nat} {cI cJ : ClassId} (hi : mI ad) (sz : Nat) (Z : mZ) : va_D (mA ad sz) (wM ad cI cJ Z) := by
  refine ⟨fun i j p q h1 h2 h3 => ?_, fun k q h => ?_⟩
  · obtain ⟨a1, a2⟩ := wM_at i p h1
    obtain ⟨b1, b2⟩ := wM_at j q h2
    exact hi i j a1 b1 (by rw [← a2, ← b2]; exact h3)
  · obtain ⟨a1, a2⟩ := wM_at k q h
    exact Or.inl ⟨k, a1, a2⟩
/-- what the tables say that the reference's methods use: classes, array classes, the nest's fields -/
def mK (D : va_G) (cI cJ : ClassId) (U : State) : Prop := va_K D vwCl [(cI, .int), (cJ, .long)] U ∧ va_Nw (.fieldLinkNest RX13 24 "PledgeHouseModel$State" "house" "[I" "PledgeHouseModel") U ∧ va_Nw (.fieldLinkNest RX13 31 "PledgeHouseModel$State" "shelf" "[I" "PledgeHouseModel") U ∧ va_Nw (.fieldLinkNest RX13 41 "PledgeHouseModel$State" "ticket" "[I" "PledgeHouseModel") U ∧ va_Nw (.fieldLinkNest RX13 140 "PledgeHouseModel$State" "coins" "[J" "PledgeHouseModel") U
theorem mK.warm {D : va_G} {cI cJ : ClassId} {s U : State} (hW : s.WarmedH U.vm) (h : mK D cI cJ s) : mK D cI cJ U := ⟨va_K.moved hW.alike h.1, va_Nw.warmF hW h.2.1, va_Nw.warmF hW h.2.2.1, va_Nw.warmF hW h.2.2.2.1, va_Nw.warmF hW h.2.2.2.2⟩
theorem mK.same {D : va_G} {cI cJ : ClassId} {s U : State} (hW : s.vm = U.vm) (h : mK D cI cJ s) : mK D cI cJ U := ⟨va_K.moved (by rw [← hW]; exact Vm.Alike.refl _) h.1, va_Nw.same rfl hW h.2.1, va_Nw.same rfl hW h.2.2.1, va_Nw.same rfl hW h.2.2.2.1, va_Nw.same rfl hW h.2.2.2.2⟩
/-- a method's start, and the end of one that writes -/
def mPc (av : List Value) (D : va_G) (cI cJ : ClassId) (ad : Nat → Nat) (Z : mZ) (sz : Nat) : Array Value → State → Prop := va_Pc av (fun U => U.heap.size = sz ∧ va_P D vwCl (wM ad cI cJ Z) U.heap ∧ mK D cI cJ U)
def mQ (D : va_G) (cI cJ : ClassId) (ad : Nat → Nat) (v : Option Value) (Z : mZ) (sz : Nat) : Array Value → State → Outcome → State → Prop := fun _ st o t => o = .returned v ∧ va_P D vwCl (wM ad cI cJ Z) t.heap ∧ va_F (mA ad sz) st t
theorem mPc_blind {av : List Value} {D : va_G} {cI cJ : ClassId} {ad : Nat → Nat} {Z : mZ} {sz : Nat} : FrameBlind (mPc av D cI cJ ad Z sz) := fun a U g mk h => ⟨h.1, h.2.1, h.2.2.1, mK.same rfl h.2.2.2⟩
section MCALL
variable {p : Program} {l : Launch} {e : Env} {R : Room} {s : State} {m : MethodId} {args : Array Value} {below : List Frame} {meth : Method} {c : Code} {H : Heap} {locs : List Loc} {cells slots : Nat} {Q : State → Prop}
variable {cc bytes : ByteArray} {nL maxL index n pc : Nat} {own : String} {y : MethodName} {ret : Option FieldType} {rm : Room} {Ts ws : List Cond} {As rest st0 : List Value} {ls : Array Slot}
variable {D : va_G} {cI cJ : ClassId} {ad : Nat → Nat} {Z Z' : mZ}
/-- a call of one that only reads -/
theorem m_rd (S : CallFix p m c cc nL s args Ts own) (hK : mK D cI cJ s) (hP : va_P D vwCl (wM ad cI cJ Z) H) {r : Value} (hM : Met l y ws rm (mPc (.ref (ad 0) :: As) D cI cJ ad Z H.size) (k2_QcV r) 0 0 (fun _ => False)) (cw : CallW R s args own RX13 index y bytes maxL ret ws rm 0 0 n) (hn : As.length = n) (hsz : ls.size = nL) (hst : st0 = As.reverse ++ .ref (ad 0) :: rest) (hW : (rest.map fun v => v.category).sum ≤ 8) (hdg : decode cc pc = .ok (.invokevirtual index, 3)) (hf : cells ≤ R.cells ∧ slots ≤ R.slots)
    (kk : W p l e R s m args below meth c H locs cells slots Q (F0 m (pc + 3) ls (r :: rest))) : W p l e R s m args below meth c H locs cells slots Q (F0 m pc ls st0) :=
  W.callV (W.runV S hM cw ⟨mPc_blind, va_recv hK.1 hP (ci := 11) (q0 := 0) rfl rfl, fun U hU hW => ⟨rfl, by rw [hU], by rw [hU]; exact hP, mK.warm hW hK⟩⟩ rfl hn hsz hst (lv_room hW) hdg hf) kk
/-- a call of a static one that only reckons -/
theorem m_st (S : CallFix p m c cc nL s args Ts own) {r : Value} (hM : Met l y ws rm (fun v _ => v = As.toArray) (k2_QcV r) 0 0 (fun _ => False)) (cw : CallB R s args own index y bytes maxL ret ws rm 0 0 n ∧ (Cond.static y).before args s = true) (hn : As.length = n) (hsz : ls.size = nL) (hst : st0 = As.reverse ++ rest) (hW : (rest.map fun v => v.category).sum ≤ 8) (hdg : decode cc pc = .ok (.invokestatic index, 3)) (hf : cells ≤ R.cells ∧ slots ≤ R.slots)
    (kk : W p l e R s m args below meth c H locs cells slots Q (F0 m (pc + 3) ls (r :: rest))) : W p l e R s m args below meth c H locs cells slots Q (F0 m pc ls st0) :=
  W.callV (W.runS S hM cw preEq rfl hn hsz hst (lv_room hW) hdg hf) kk
theorem m_cw0 {v : Option Value} {a : Array Value} (hr : CallRun p l e R s m args below meth c H locs cells slots 0 0 (F0 m pc ls st0) rest (mQ D cI cJ ad v Z' H.size a) (mA ad H.size)) (hS : va_S (mA ad s.heap.size) s.heap H locs)
    (kk : ∀ (H1 : Heap) (locs1 : List Loc), va_P D vwCl (wM ad cI cJ Z') H1 → va_S (mA ad s.heap.size) s.heap H1 locs1 → W p l e R s m args below meth c H1 locs1 cells slots Q (F0 m (pc + 3) ls (v.toList ++ rest))) : W p l e R s m args below meth c H locs cells slots Q (F0 m pc ls st0) := by
  intro T hT X
  obtain ⟨v', st₀, t, T', L, h0, X', hL, e1, ⟨hv, hP', hz, hk⟩, st⟩ := hr T hT X
  cases hv
  rw [h0] at hz hk
  obtain ⟨t2, a1, b1⟩ := kk T'.heap (locs ++ L) (by rw [e1]; exact hP') ⟨by rw [e1]; exact Nat.le_trans hS.1 hz, fun q h1 h2 => by
    rw [e1, hk q (Nat.lt_of_lt_of_le h1 hS.1) (fun z => h2 (mA_le hS.1 q z))]
    exact hS.2.1 q h1 h2, fun q hq => by
      rcases List.mem_append.mp hq with h | h
      · exact hS.2.2 q h
      · exact mA_le hS.1 _ (hL q h)⟩ T' rfl X'
  exact ⟨t2, st t2 a1, b1⟩
/-- a call of one that writes: with an answer, without one -/
theorem m_wr (S : CallFix p m c cc nL s args Ts own) (hK : mK D cI cJ s) (hP : va_P D vwCl (wM ad cI cJ Z) H) (hS : va_S (mA ad s.heap.size) s.heap H locs) {r : Value} (hM : Met l y ws rm (mPc (.ref (ad 0) :: As) D cI cJ ad Z H.size) (mQ D cI cJ ad (some r) Z' H.size) 0 0 (mA ad H.size)) (cw : CallW R s args own RX13 index y bytes maxL ret ws rm 0 0 n) (hn : As.length = n) (hsz : ls.size = nL) (hst : st0 = As.reverse ++ .ref (ad 0) :: rest) (hW : (rest.map fun v => v.category).sum ≤ 8) (hdg : decode cc pc = .ok (.invokevirtual index, 3)) (hf : cells ≤ R.cells ∧ slots ≤ R.slots)
    (kk : ∀ (H1 : Heap) (locs1 : List Loc), va_P D vwCl (wM ad cI cJ Z') H1 → va_S (mA ad s.heap.size) s.heap H1 locs1 → W p l e R s m args below meth c H1 locs1 cells slots Q (F0 m (pc + 3) ls (r :: rest))) : W p l e R s m args below meth c H locs cells slots Q (F0 m pc ls st0) :=
  m_cw0 (W.runV S hM cw ⟨mPc_blind, va_recv hK.1 hP (ci := 11) (q0 := 0) rfl rfl, fun U hU hW => ⟨rfl, by rw [hU], by rw [hU]; exact hP, mK.warm hW hK⟩⟩ rfl hn hsz hst (lv_room hW) hdg hf) hS kk
theorem m_wv (S : CallFix p m c cc nL s args Ts own) (hK : mK D cI cJ s) (hP : va_P D vwCl (wM ad cI cJ Z) H) (hS : va_S (mA ad s.heap.size) s.heap H locs) (hM : Met l y ws rm (mPc (.ref (ad 0) :: As) D cI cJ ad Z H.size) (mQ D cI cJ ad none Z' H.size) 0 0 (mA ad H.size)) (cw : CallW R s args own RX13 index y bytes maxL ret ws rm 0 0 n) (hn : As.length = n) (hsz : ls.size = nL) (hst : st0 = As.reverse ++ .ref (ad 0) :: rest) (hW : (rest.map fun v => v.category).sum ≤ 8) (hdg : decode cc pc = .ok (.invokevirtual index, 3)) (hf : cells ≤ R.cells ∧ slots ≤ R.slots)
    (kk : ∀ (H1 : Heap) (locs1 : List Loc), va_P D vwCl (wM ad cI cJ Z') H1 → va_S (mA ad s.heap.size) s.heap H1 locs1 → W p l e R s m args below meth c H1 locs1 cells slots Q (F0 m (pc + 3) ls rest)) : W p l e R s m args below meth c H locs cells slots Q (F0 m pc ls st0) :=
  m_cw0 (W.runV S hM cw ⟨mPc_blind, va_recv hK.1 hP (ci := 11) (q0 := 0) rfl rfl, fun U hU hW => ⟨rfl, by rw [hU], by rw [hU]; exact hP, mK.warm hW hK⟩⟩ rfl hn hsz hst (lv_room hW) hdg hf) hS kk
end MCALL
/-- the entry of a method of the reference -/
theorem m_in {l : Launch} {y : MethodName} {ws ws' : List Cond} {rm : Room} {av : List Value} {D : va_G} {cI cJ : ClassId} {ad : Nat → Nat} {Z : mZ} {sz : Nat} {Qc : Array Value → State → Outcome → State → Prop} {free : Addr → Prop} {cc : ByteArray} {maxL : Nat} {ret : Option FieldType} {lv : List (Nat × Value)} (hy : plainName y.cls = true) (hw : ws = Cond.code y cc maxL ret :: ws') (hlen : (lg_sl av).length ≤ maxL) (hlv : lv_args 0 av = lv)
    (body : ∀ (p : Program) (e : Env) (s : State) (m : MethodId) (below : List Frame) (meth : Method) (c : Code) (ls : Array Slot), CallFix p m c cc maxL s av.toArray ws y.cls → meth.sig.returnType = ret → meth.locks = false → meth.name = y.name → s.heap.size = sz → va_P D vwCl (wM ad cI cJ Z) s.heap → mK D cI cJ s → lv_has ls maxL lv → va_S (mA ad s.heap.size) s.heap s.heap [] →
      W p l e rm s m av.toArray below meth c s.heap [] 0 0 (MQ below Qc av.toArray s 0 0 free) (F0 m 0 ls [])) : Met l y ws rm (mPc av D cI cJ ad Z sz) Qc 0 0 free := by
  refine Met.ofW (cc := cc) (maxL := maxL) (ret := ret) hy hw ?_
  intro p e s m args below meth c s₁ B hml hv
  obtain ⟨rfl, hsz, hP, hK⟩ := hv
  have hl := lv_entry av (n := maxL) hlen
  rw [hlv] at hl
  rw [lg_entry_eq]
  exact body p e s m below meth c _ ⟨B.exec, B.bytes, hml, findClass_of_methodNamed B.named, atoms_spec (ws := ws) B.pre⟩ B.returns B.notSynchronized (name_of_methodNamed B.named B.method).1 hsz hP hK hl va_S.rf
/-- the entry of a static method that only reckons -/
theorem s_in {l : Launch} {y : MethodName} {ws ws' : List Cond} {rm : Room} {av : List Value} {Qc : Array Value → State → Outcome → State → Prop} {free : Addr → Prop} {cc : ByteArray} {maxL : Nat} {ret : Option FieldType} {lv : List (Nat × Value)} (hy : plainName y.cls = true) (hw : ws = Cond.code y cc maxL ret :: ws') (hlen : (lg_sl av).length ≤ maxL) (hlv : lv_args 0 av = lv)
    (body : ∀ (p : Program) (e : Env) (s : State) (m : MethodId) (below : List Frame) (meth : Method) (c : Code) (ls : Array Slot), CallFix p m c cc maxL s av.toArray ws y.cls → meth.sig.returnType = ret → meth.locks = false → lv_has ls maxL lv →
      W p l e rm s m av.toArray below meth c s.heap [] 0 0 (MQ below Qc av.toArray s 0 0 free) (F0 m 0 ls [])) : Met l y ws rm (fun v _ => v = av.toArray) Qc 0 0 free := by
  refine Met.ofW (cc := cc) (maxL := maxL) (ret := ret) hy hw ?_
  intro p e s m args below meth c s₁ B hml hv
  subst hv
  have hl := lv_entry av (n := maxL) hlen
  rw [hlv] at hl
  rw [lg_entry_eq]
  exact body p e s m below meth c _ ⟨B.exec, B.bytes, hml, findClass_of_methodNamed B.named, atoms_spec (ws := ws) B.pre⟩ B.returns B.notSynchronized hl
