/-! all tickets of a house -/
def tks (D : va_G) (bs : Nat → Nat → Nat) (vs : Nat → Nat → Int32) (n : Nat) (H : Heap) : Prop := ∀ i, i < n → va_P D vwCl (wT (bs i) (nI (i + 1)) (vs i)) H
def cPcF (av : List Value) (D : va_G) (cs : Nat → ClassId) (WS : va_W) (F : Heap → Prop) (sz : Nat) : Array Value → State → Prop := va_Pc av (fun U => U.heap.size = sz ∧ va_P D vwCl WS U.heap ∧ cK D cs U ∧ F U.heap)
theorem cPcF_blind {av : List Value} {D : va_G} {cs : Nat → ClassId} {WS : va_W} {F : Heap → Prop} {sz : Nat} : FrameBlind (cPcF av D cs WS F sz) := fun a U g mk h => ⟨h.1, h.2.1, h.2.2.1, cK.same (s := U) (U := U.calling g mk a) rfl h.2.2.2.1, h.2.2.2.2⟩
theorem preV_f {s : State} {H : Heap} {D : va_G} {cs : Nat → ClassId} {wc : va_W} {F : Heap → Prop} {C : String} {o : Nat} {As : List Value} (hK : cK D cs s) (hPc : va_P D vwCl wc H) (hF : F H) (hrc : ∃ cell : Cell, H[o]? = some cell ∧ cell.vm.isStatics = false ∧ s.vm.findClass C = some cell.cls) : PreV s H C o (cPcF (.ref o :: As) D cs wc F H.size) As := ⟨cPcF_blind, hrc, fun U hU hW => ⟨rfl, by rw [hU], by rw [hU]; exact hPc, cK.warm hW hK, by rw [hU]; exact hF⟩⟩
theorem c_inF {l : Launch} {y : MethodName} {ws ws' : List Cond} {rm : Room} {av : List Value} {D : va_G} {cs : Nat → ClassId} {WS : va_W} {F : Heap → Prop} {P : Nat → Prop} {sz mc ms : Nat} {Qc : Array Value → State → Outcome → State → Prop} {free : Addr → Prop} {cc : ByteArray} {maxL : Nat} {ret : Option FieldType} {lv : List (Nat × Value)} (hy : plainName y.cls = true) (hw : ws = Cond.code y cc maxL ret :: ws') (hlen : (lg_sl av).length ≤ maxL) (hlv : lv_args 0 av = lv)
    (body : ∀ (p : Program) (e : Env) (s : State) (m : MethodId) (below : List Frame) (meth : Method) (c : Code) (ls : Array Slot), CallFix p m c cc maxL s av.toArray ws y.cls → meth.sig.returnType = ret → meth.locks = false → meth.name = y.name → s.heap.size = sz → va_P D vwCl WS s.heap → cK D cs s → F s.heap → lv_has ls maxL lv → va_S (adA P s.heap.size) s.heap s.heap [] →
      W p l e rm s m av.toArray below meth c s.heap [] 0 0 (MQ below Qc av.toArray s mc ms free) (F0 m 0 ls [])) : Met l y ws rm (cPcF av D cs WS F sz) Qc mc ms free := by
  refine Met.ofW (cc := cc) (maxL := maxL) (ret := ret) hy hw ?_
  intro p e s m args below meth c s₁ B hml hv
  obtain ⟨rfl, hsz, hP, hK, hX⟩ := hv
  have hl := lv_entry av (n := maxL) hlen
  rw [hlv] at hl
  rw [lg_entry_eq]
  exact body p e s m below meth c _ ⟨B.exec, B.bytes, hml, findClass_of_methodNamed B.named, atoms_spec (ws := ws) B.pre⟩ B.returns B.notSynchronized (name_of_methodNamed B.named B.method).1 hsz hP hK hX hl va_S.rf
theorem cn_le {Z : hZ} {cn : Nat} (hcn : gh Z 1 = nI cn) (hc : cn ≤ 511) : gh Z 1 ≤ 511 := by
  rw [hcn]
  exact (nI_leI (a := cn) (b := 511) (by omega) (by omega)).mpr hc
theorem ft_some {Z : hZ} {bs : Nat → Nat → Nat} {cn i : Nat} (hcn : gh Z 1 = nI cn) (hc : cn ≤ 511) (hgt : ∀ i, i < cn → gt Z i = some (bs i 0)) (hi : i < cn) : sc_X3_findTicket Z (nI (i + 1)) = some (bs i 0) := by
  unfold sc_X3_findTicket
  have h1 : ¬ nI (i + 1) < (1 : Int32) := fun z => absurd ((nI_ltI (a := i + 1) (b := 1) (by omega) (by omega)).mp z) (by omega)
  rw [if_neg h1, if_neg (by rw [hcn]; exact fun z => absurd ((nI_ltI (a := cn) (b := i + 1) (by omega) (by omega)).mp z) (by omega)), tN_n (by omega)]
  exact hgt i hi
theorem ft_none {Z : hZ} {n : Int32} (h : n < 1 ∨ gh Z 1 < n) : sc_X3_findTicket Z n = none := by
  unfold sc_X3_findTicket
  rcases h with h | h
  · rw [if_pos h]
  · by_cases h1 : n < 1
    · rw [if_pos h1]
    · rw [if_neg h1, if_pos h]
