/-! writing over all tickets; a start that looks at the tables of a class -/
def cPcU (X : State → Prop) (av : List Value) (D : va_G) (cs : Nat → ClassId) (WS : va_W) (sz : Nat) : Array Value → State → Prop := va_Pc av (fun U => U.heap.size = sz ∧ va_P D vwCl WS U.heap ∧ cK D cs U ∧ X U)
theorem c_inU {X : State → Prop} {l : Launch} {y : MethodName} {ws ws' : List Cond} {rm : Room} {av : List Value} {D : va_G} {cs : Nat → ClassId} {WS : va_W} {P : Nat → Prop} {sz mc ms : Nat} {Qc : Array Value → State → Outcome → State → Prop} {free : Addr → Prop} {cc : ByteArray} {maxL : Nat} {ret : Option FieldType} {lv : List (Nat × Value)} (hy : plainName y.cls = true) (hw : ws = Cond.code y cc maxL ret :: ws') (hlen : (lg_sl av).length ≤ maxL) (hlv : lv_args 0 av = lv)
    (body : ∀ (p : Program) (e : Env) (s : State) (m : MethodId) (below : List Frame) (meth : Method) (c : Code) (ls : Array Slot), CallFix p m c cc maxL s av.toArray ws y.cls → meth.sig.returnType = ret → meth.locks = false → meth.name = y.name → s.heap.size = sz → va_P D vwCl WS s.heap → cK D cs s → X s → lv_has ls maxL lv → va_S (adA P s.heap.size) s.heap s.heap [] →
      W p l e rm s m av.toArray below meth c s.heap [] 0 0 (MQ below Qc av.toArray s mc ms free) (F0 m 0 ls [])) : Met l y ws rm (cPcU X av D cs WS sz) Qc mc ms free := by
  refine Met.ofW (cc := cc) (maxL := maxL) (ret := ret) hy hw ?_
  intro p e s m args below meth c s₁ B hml hv
  obtain ⟨rfl, hsz, hP, hK, hX⟩ := hv
  have hl := lv_entry av (n := maxL) hlen
  rw [hlv] at hl
  rw [lg_entry_eq]
  exact body p e s m below meth c _ ⟨B.exec, B.bytes, hml, findClass_of_methodNamed B.named, atoms_spec (ws := ws) B.pre⟩ B.returns B.notSynchronized (name_of_methodNamed B.named B.method).1 hsz hP hK hX hl va_S.rf
/-- the class's tables of bounds -/
def stC (D : va_G) (cs : Nat → ClassId) (A : Nat → Prop) (rL rG : Nat) (U : State) : Prop := va_Z RX11 "RULES_LOWEST" "[I" (.ref rL) A U U.heap ∧ va_Z RX11 "RULES_HIGHEST" "[I" (.ref rG) A U U.heap ∧ va_P D vwCl [(rL, .inl (cs 0, 14, .inl tLEAST)), (rG, .inl (cs 0, 14, .inl tGREAT))] U.heap
/-- the end of a method that also changes what a predicate says -/
def cQF (D : va_G) (v : Option Value) (WS : va_W) (F : Heap → Prop) (A : Nat → Prop) : Array Value → State → Outcome → State → Prop := fun _ st o t => o = .returned v ∧ va_P D vwCl WS t.heap ∧ F t.heap ∧ va_F A st t
def pTs (bs : Nat → Nat → Nat) (n : Nat) : Nat → Prop := fun x => ∃ i, i < n ∧ pT (bs i) x
section CRUNG
variable {p : Program} {l : Launch} {e : Env} {R : Room} {s : State} {m : MethodId} {args : Array Value} {below : List Frame} {meth : Method} {c : Code} {H : Heap} {locs : List Loc} {cells slots : Nat} {Q : State → Prop}
variable {mc ms pc n : Nat} {rest st0 : List Value} {ls : Array Slot} {D : va_G} {wc' : va_W} {A A' : Nat → Prop} {a : Array Value}
theorem c_wG {G : Heap → Prop} {v : Option Value} (hr : va_Run p l e R s m args below meth c H locs cells slots mc ms (F0 m pc ls st0) rest (cQ D v wc' A' a) A') (hS : va_S A s.heap H locs) (hA : ∀ q, A' q → A q) (hj : ∀ H1 : Heap, H.size ≤ H1.size → (∀ q : Nat, q < H.size → ¬ A' q → H1[q]? = H[q]?) → va_P D vwCl wc' H1 → G H1)
    (kk : ∀ (H1 : Heap) (locs1 : List Loc), G H1 → va_S A s.heap H1 locs1 → W p l e R s m args below meth c H1 locs1 (cells + mc) (slots + ms) Q (F0 m (pc + 3) ls (v.toList ++ rest))) : W p l e R s m args below meth c H locs cells slots Q (F0 m pc ls st0) := by
  intro T hT X
  obtain ⟨v', st₀, t, T', L, h0, X', hL, e1, e2, ⟨hv, hP', hz, hk⟩, st⟩ := hr T hT X
  cases hv
  rw [h0] at hz hk
  obtain ⟨t2, a1, b1⟩ := kk T'.heap (locs ++ L) (by rw [e1]; exact hj t.heap hz hk hP') ⟨by rw [e1]; exact Nat.le_trans hS.1 hz, fun q h1 h2 => by
    rw [e1, hk q (Nat.lt_of_lt_of_le h1 hS.1) (fun z => h2 (hA q z))]
    exact hS.2.1 q h1 h2, fun q hq => by
      rcases List.mem_append.mp hq with h | h
      · exact hS.2.2 q h
      · exact hA _ (hL q h)⟩ T' rfl X'
  exact ⟨t2, st t2 a1, b1⟩
theorem c_wF {F : Heap → Prop} {G : Heap → Prop} {v : Option Value} (hr : va_Run p l e R s m args below meth c H locs cells slots mc ms (F0 m pc ls st0) rest (cQF D v wc' F A' a) A') (hS : va_S A s.heap H locs) (hA : ∀ q, A' q → A q) (hj : ∀ H1 : Heap, H.size ≤ H1.size → (∀ q : Nat, q < H.size → ¬ A' q → H1[q]? = H[q]?) → va_P D vwCl wc' H1 → F H1 → G H1)
    (kk : ∀ (H1 : Heap) (locs1 : List Loc), G H1 → va_S A s.heap H1 locs1 → W p l e R s m args below meth c H1 locs1 (cells + mc) (slots + ms) Q (F0 m (pc + 3) ls (v.toList ++ rest))) : W p l e R s m args below meth c H locs cells slots Q (F0 m pc ls st0) := by
  intro T hT X
  obtain ⟨v', st₀, t, T', L, h0, X', hL, e1, e2, ⟨hv, hP', hF', hz, hk⟩, st⟩ := hr T hT X
  cases hv
  rw [h0] at hz hk
  obtain ⟨t2, a1, b1⟩ := kk T'.heap (locs ++ L) (by rw [e1]; exact hj t.heap hz hk hP' hF') ⟨by rw [e1]; exact Nat.le_trans hS.1 hz, fun q h1 h2 => by
    rw [e1, hk q (Nat.lt_of_lt_of_le h1 hS.1) (fun z => h2 (hA q z))]
    exact hS.2.1 q h1 h2, fun q hq => by
      rcases List.mem_append.mp hq with h | h
      · exact hS.2.2 q h
      · exact hA _ (hL q h)⟩ T' rfl X'
  exact ⟨t2, st t2 a1, b1⟩
end CRUNG
/-- a ticket behind a day -/
def tkD (day : Int32) (i : Nat) (v : Nat → Int32) : Nat → Int32 := if sc_X9_isOpen (nI (i + 1)) v = 0 then v else sc_X7_reachDay (nI (i + 1)) v day (v 1)
def vsD (day : Int32) (vs : Nat → Nat → Int32) (n : Nat) : Nat → Nat → Int32 := fun j => if j < n then tkD day j (vs j) else vs j
theorem vsD_0 {day : Int32} {vs : Nat → Nat → Int32} : vsD day vs 0 = vs := funext fun j => if_neg (Nat.not_lt_zero j)
theorem vsD_at {day : Int32} {vs : Nat → Nat → Int32} {i : Nat} : vsD day vs i i = vs i := if_neg (Nat.lt_irrefl i)
theorem vsD_sn {day : Int32} {vs : Nat → Nat → Int32} {i j : Nat} (h : j ≠ i) : vsD day vs (i + 1) j = vsD day vs i j := by
  unfold vsD
  by_cases h1 : j < i
  · rw [if_pos h1, if_pos (by omega)]
  · rw [if_neg h1, if_neg (by omega)]
theorem vsD_se {day : Int32} {vs : Nat → Nat → Int32} {i : Nat} : vsD day vs (i + 1) i = tkD day i (vs i) := if_pos (Nat.lt_succ_self i)
theorem va_Smono {A B : Nat → Prop} {H0 H : Heap} {locs : List Loc} (h : ∀ q, A q → B q) (hS : va_S A H0 H locs) : va_S B H0 H locs := ⟨hS.1, fun q h1 h2 => hS.2.1 q h1 (fun z => h2 (h q z)), fun q hq => h _ (hS.2.2 q hq)⟩
/-- what a method has left alone -/
theorem keepA {D : va_G} {w : va_W} {H0 H : Heap} {locs : List Loc} {P P' : Nat → Prop} (hp : va_P D vwCl w H0) (hpr : ∀ (k : Nat) (q : Nat × va_E), w[k]? = some q → P q.1) (hd : ∀ q, P q → ¬ P' q) (hS : va_S (adA P' H0.size) H0 H locs) : va_P D vwCl w H :=
  hp.kept (fun k q hq => hS.2.1 q.1 (hp k q hq).lt (fun z => z.elim (hd q.1 (hpr k q hq)) (fun h => absurd (hp k q hq).lt (Nat.not_lt.mpr h))))
