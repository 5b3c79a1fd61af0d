/-! a field put, all other cells as they were; a call with any end -/
section XPO
variable {p : Program} {l : Launch} {e : Env} {R : Room} {s : State} {m : MethodId} {args : Array Value} {below : List Frame} {meth : Method} {c : Code} {H : Heap} {locs : List Loc} {cells slots : Nat} {Q : State → Prop}
variable {cc : ByteArray} {pc : Nat} {ls : Array Slot} {rest : List Value} {D : va_G} {A : Nat → Prop} {tys : List (ClassId × FieldType)} {H0 : Heap} {Ts : List Cond} {own : String}
theorem x_putO (hexec : p.tables.exec = Jvm.exec) (hb : c.code = cc) (hts : ∀ w ∈ Ts, w.before args s = true) (hin : ∀ w ∈ wsX110, w ∈ Ts) (hown : s.vm.findClass own = some m.cls) (hK : va_K D vwCl tys s) {o : Nat} {a1 a2 : Nat → Nat} {y st : Int32} (hP : va_P D vwCl (wO o a1 a2 y st) H) (hA : A o) (hS0 : va_S A H0 H locs) {index : Nat} (hlink : (Cond.fieldLink own index "PledgeHouse" "anythingKept" "Z").before args s = true) (hdg : decode cc pc = .ok (.putfield index, 3))
    (kk : ∀ (H1 : Heap) (locs1 : List Loc), va_P D vwCl (wO o a1 a2 1 st) H1 → H1.size = H.size → (∀ q, q ≠ o → H1[q]? = H[q]?) → va_S A H0 H1 locs1 → W p l e R s m args below meth c H1 locs1 cells slots Q (F0 m (pc + 3) ls rest)) : W p l e R s m args below meth c H locs cells slots Q (F0 m pc ls (.int 1 :: .ref o :: rest)) := by
  have hc : vwCl[9]? = some (RX11, TX11, 4) := rfl
  have hap := va_apart (own := own) hts hin tyX11 tyX11_ok nmX11 hK hc
  obtain ⟨r, h1, cell, q1, q2, q3, q4⟩ := hP 0 _ rfl
  obtain rfl : r = (RX11, TX11, 4) := Option.some.inj (h1.symm.trans hc)
  obtain ⟨hS, hfc, kC, hkC, hkind⟩ := hK.1 9 _ hc
  have hk : 2 < 4 := by decide
  obtain ⟨cf, kf, fi, f, hi, hsl⟩ := hS 2 hk
  have hlay := hts _ (hin _ (u_in_lay hk))
  unfold u_lay at hlay
  rw [if_neg (show ¬ (TX11 2).2.2.2 = true by decide)] at hlay
  have hst := (u_facts hfc hkC (u_lays hts hin hk) hi).1
  have h6 := u_store (v := .int 1) (ty := .boolean) hfc hkC hkind hlay hi (by decide +kernel) rfl rfl
  refine W.putK hexec hb (f := f) ⟨hown, hlink, ⟨_, _, _, hi⟩, hst⟩ (by rw [q2]; exact h6) q1 q3 (by rw [hsl]; exact k2_hasslot (q4 2 hk)) rfl rfl hdg fun H' e1 e2 e3 => ?_
  rw [hsl] at e1 ⊢
  refine kk H' _ ?_ e2 e3 (hS0.put e2 e3 hA)
  intro j q hj
  match j with
  | 0 =>
    cases hj
    exact ⟨_, hc, t_OB.to (V := updV (vp_V [.ref (a1 0), .ref (a2 0), .int y, .int st]) 2 (.int 1)) ⟨_, e1, q2, q3, t_set q4 hap hk (.int 1)⟩ (fun j _ => vp_updV_set (fs := [.ref (a1 0), .ref (a2 0), .int y, .int st]) (Nat.le_of_ble_eq_true rfl) (.int 1) j)⟩
  | n + 1 => cases hj
theorem c_gen {mc ms : Nat} {st0 : List Value} {A' : Nat → Prop} {Qa : State → Outcome → State → Prop} {G : Heap → Prop} {v : Option Value} (hr : va_Run p l e R s m args below meth c H locs cells slots mc ms (F0 m pc ls st0) rest Qa A') (hS : va_S A s.heap H locs) (hA : ∀ q, A' q → A q) (hj : ∀ (u t : State) (ot : Outcome), u.heap = H → Qa u ot t → ot = .returned v ∧ H.size ≤ t.heap.size ∧ (∀ q : Nat, q < H.size → ¬ A' q → t.heap[q]? = H[q]?) ∧ G t.heap)
    (kk : ∀ (H1 : Heap) (locs1 : List Loc), G H1 → va_S A s.heap H1 locs1 → W p l e R s m args below meth c H1 locs1 (cells + mc) (slots + ms) Q (F0 m (pc + 3) ls (v.toList ++ rest))) : W p l e R s m args below meth c H locs cells slots Q (F0 m pc ls st0) := by
  intro T hT X
  obtain ⟨v', u, t, T', L, h0, X', hL, e1, e2, hQ, st⟩ := hr T hT X
  obtain ⟨hv, hz, hk, hG⟩ := hj u t _ h0 hQ
  cases hv
  obtain ⟨t2, b1, b2⟩ := kk T'.heap (locs ++ L) (by rw [e1]; exact hG) ⟨by rw [e1]; exact Nat.le_trans hS.1 hz, fun q z1 z2 => by
    rw [e1, hk q (Nat.lt_of_lt_of_le z1 hS.1) (fun z => z2 (hA q z))]
    exact hS.2.1 q z1 z2, fun q hq => by
      rcases List.mem_append.mp hq with z | z
      · exact hS.2.2 q z
      · exact hA _ (hL q z)⟩ T' rfl X'
  exact ⟨t2, st t2 b1, b2⟩
end XPO
/-! rules: the statics that they need -/
theorem va_Zm {C n d : String} {v : Value} {A B : Nat → Prop} {U : State} {H : Heap} (h : va_Z C n d v A U H) (hB : ∀ q, B q → A q) : va_Z C n d v B U H := by
  obtain ⟨cf, kf, fi, f, a, cell, g1, g2, g3, g4, g5, g6, g7, g8⟩ := h
  exact ⟨cf, kf, fi, f, a, cell, g1, g2, g3, g4, g5, g6, g7, fun z => g8 (hB a z)⟩
theorem stC_same {D : va_G} {cs : Nat → ClassId} {A : Nat → Prop} {rL rG : Nat} (U V : State) (h1 : U.vm = V.vm) (h2 : U.heap = V.heap) (h : stC D cs A rL rG U) : stC D cs A rL rG V := ⟨by rw [← h2]; exact va_Z.moved (by rw [h1]; exact Vm.Alike.refl _) h.1, by rw [← h2]; exact va_Z.moved (by rw [h1]; exact Vm.Alike.refl _) h.2.1, by rw [← h2]; exact h.2.2⟩
def cPcV (X : State → Prop) (av : List Value) (D : va_G) (cs : Nat → ClassId) (WS : va_W) (F : Heap → Prop) (sz : Nat) : Array Value → State → Prop := va_Pc av (fun U => U.heap.size = sz ∧ va_P D vwCl WS U.heap ∧ cK D cs U ∧ F U.heap ∧ X U)
theorem cPcV_blind {X : State → Prop} {av : List Value} {D : va_G} {cs : Nat → ClassId} {WS : va_W} {F : Heap → Prop} {sz : Nat} (hX : ∀ (U V : State), U.vm = V.vm → U.heap = V.heap → X U → X V) : FrameBlind (cPcV X av D cs WS F sz) := fun a U g mk h => ⟨h.1, h.2.1, h.2.2.1, cK.same (s := U) (U := U.calling g mk a) rfl h.2.2.2.1, h.2.2.2.2.1, hX U _ rfl rfl h.2.2.2.2.2⟩
theorem c_inV {X : State → Prop} {l : Launch} {y : MethodName} {ws ws' : List Cond} {rm : Room} {av : List Value} {D : va_G} {cs : Nat → ClassId} {WS : va_W} {F : Heap → Prop} {sz mc ms : Nat} {Qc : Array Value → State → Outcome → State → Prop} {free : Addr → Prop} {cc : ByteArray} {maxL : Nat} {ret : Option FieldType} {lv : List (Nat × Value)} (hy : plainName y.cls = true) (hw : ws = Cond.code y cc maxL ret :: ws') (hlen : (lg_sl av).length ≤ maxL) (hlv : lv_args 0 av = lv)
    (body : ∀ (p : Program) (e : Env) (s : State) (m : MethodId) (below : List Frame) (meth : Method) (c : Code) (ls : Array Slot), CallFix p m c cc maxL s av.toArray ws y.cls → meth.sig.returnType = ret → meth.locks = false → s.heap.size = sz → va_P D vwCl WS s.heap → cK D cs s → F s.heap → X s → lv_has ls maxL lv →
      W p l e rm s m av.toArray below meth c s.heap [] 0 0 (MQ below Qc av.toArray s mc ms free) (F0 m 0 ls [])) (hX : ∀ (U V : State), U.vm = V.vm → U.heap = V.heap → X U → X V) : Met l y ws rm (cPcV X av D cs WS F sz) Qc mc ms free := by
  refine Met.ofW (cc := cc) (maxL := maxL) (ret := ret) hy hw ?_
  intro p e s m args below meth c s₁ B hml hv
  obtain ⟨rfl, hsz, hP, hK, hF, hXs⟩ := hv
  have hl := lv_entry av (n := maxL) hlen
  rw [hlv] at hl
  rw [lg_entry_eq]
  exact body p e s m below meth c _ ⟨B.exec, B.bytes, hml, findClass_of_methodNamed B.named, atoms_spec (ws := ws) B.pre⟩ B.returns B.notSynchronized hsz hP hK hF hXs hl
theorem preV_u {s : State} {H : Heap} {D : va_G} {cs : Nat → ClassId} {wc : va_W} {X : State → Prop} {C : String} {o : Nat} {As : List Value} (hb : ∀ (U V : State), U.vm = V.vm → U.heap = V.heap → X U → X V) (hK : cK D cs s) (hPc : va_P D vwCl wc H) (hX : ∀ U : State, U.heap = H → s.WarmedH U.vm → X U) (hrc : ∃ cell : Cell, H[o]? = some cell ∧ cell.vm.isStatics = false ∧ s.vm.findClass C = some cell.cls) : PreV s H C o (cPcU X (.ref o :: As) D cs wc H.size) As := ⟨cPcU_blind hb, hrc, fun U hU hW => ⟨rfl, by rw [hU], by rw [hU]; exact hPc, cK.warm hW hK, hX U hU hW⟩⟩
