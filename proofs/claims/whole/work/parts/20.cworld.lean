/-! the class's worlds: a ticket with its two terms; the tables; calls -/
abbrev wT (b : Nat → Nat) (nm : Int32) (v : Nat → Int32) : va_W := [
  (b 0, .inr (8, [.int nm, .int (v 15), .int (v 19), .int (v 0), .int (v 1), .int (v 7), .ref (b 1), .ref (b 2), .int (v 20), .int (v 17), .int (v 28), .int (v 18), .int (v 8), .int (v 11), .int (v 10), .int (v 12), .int (v 30), .int (v 14), .int (v 31)])),
  (b 1, .inr (6, [.int (v 4), .int (v 5), .int (v 6), .int (v 3), .int (v 2), .int (v 9)])),
  (b 2, .inr (6, [.int (v 21), .int (v 22), .int (v 23), .int (v 24), .int (v 25), .int (v 26)]))]
def pT (b : Nat → Nat) : Nat → Prop := fun q => ∃ i, i < 3 ∧ q = b i
def iT (b : Nat → Nat) : Prop := ∀ i j, i < 3 → j < 3 → b i = b j → i = j
theorem wT_at {b : Nat → Nat} {nm : Int32} {v : Nat → Int32} : ∀ (i : Nat) (p : Nat × va_E), (wT b nm v)[i]? = some p → i < 3 ∧ p.1 = b i
  | 0, p, h => by cases h; exact ⟨by decide, rfl⟩
  | 1, p, h => by cases h; exact ⟨by decide, rfl⟩
  | 2, p, h => by cases h; exact ⟨by decide, rfl⟩
  | n + 3, p, h => by cases h
/-- which cells a method may change: those of its world, and new ones -/
def adA (P : Nat → Prop) (sz : Nat) : Nat → Prop := fun q => P q ∨ sz ≤ q
theorem adA_le {P : Nat → Prop} {a b : Nat} (h : a ≤ b) : ∀ q : Nat, adA P b q → adA P a q := fun q hq => hq.elim Or.inl (fun z => Or.inr (Nat.le_trans h z))
theorem wT_D {b : Nat → Nat} (hi : iT b) (sz : Nat) (nm : Int32) (v : Nat → Int32) : va_D (adA (pT b) sz) (wT b nm v) := by
  refine ⟨fun i j p q h1 h2 h3 => ?_, fun k q h => ?_⟩
  · obtain ⟨a1, a2⟩ := wT_at i p h1
    obtain ⟨b1, b2⟩ := wT_at j q h2
    exact hi i j a1 b1 (by rw [← a2, ← b2]; exact h3)
  · obtain ⟨a1, a2⟩ := wT_at k q h
    exact Or.inl ⟨k, a1, a2⟩
/-- the array classes, by number -/
abbrev tysA (cs : Nat → ClassId) : List (ClassId × FieldType) := [(cs 0, .int), (cs 1, .long), (cs 2, .boolean), (cs 3, .object "PledgeHouse$Pledge"), (cs 4, .object "PledgeHouse$Ticket"), (cs 5, .array .long)]
def cnF : List Cond := [.fieldLinkNest RX11 133 "PledgeHouse$House" "today" "I" "PledgeHouse", .fieldLinkNest RX3 9 "PledgeHouse" "RULES_AT_FIRST" "[I" "PledgeHouse", .fieldLinkNest RX3 90 "PledgeHouse" "RULES_LOWEST" "[I" "PledgeHouse", .fieldLinkNest RX3 93 "PledgeHouse" "RULES_HIGHEST" "[I" "PledgeHouse"]
def cnM : List Cond := [.methodLinkNest RX7 30 yX11_cutUp "PledgeHouse", .methodLinkNest RX3 331 yX11_cutUp "PledgeHouse", .methodLinkNest RX3 66 yX9_init "PledgeHouse", .methodLinkNest RX9 11 yX7_init "PledgeHouse", .methodLinkNest RX11 9 yX0_init "PledgeHouse", .methodLinkNest RX8 3 yX5_init "PledgeHouse", .methodLinkNest RX10 1 yX5_init "PledgeHouse", .methodLinkNest RX1 3 yX5_init "PledgeHouse", .methodLinkNest RX4 3 yX5_init "PledgeHouse"]
def cnP : List String := ["PledgeHouse$Thing", "PledgeHouse$Gold", "PledgeHouse$Lot", "PledgeHouse$Coat", "PledgeHouse$Rare"]
def cnL : List String := ["PledgeHouse$Thing", "PledgeHouse$Gold", "PledgeHouse$Coat", "PledgeHouse$Rare"]
def cnR : List String := ["PledgeHouse$Thing", "PledgeHouse$Gold", "PledgeHouse$Coat", "PledgeHouse$Lot"]
def cnD : List MethodName := [⟨"PledgeHouse$Pledge", "kind", "()I"⟩, ⟨"PledgeHouse$Pledge", "worth", "(II)I"⟩]
/-- what the tables say of casts and of what is only declared -/
def cX (U : State) : Prop := (∀ C ∈ cnP, va_Nw (.castable C "PledgeHouse$Pledge") U) ∧ (∀ C ∈ cnL, va_Nc C "PledgeHouse$Lot" U) ∧ (∀ C ∈ cnR, va_Nc C "PledgeHouse$Rare" U) ∧ va_Nw (.castable "[I" "java/lang/Cloneable") U ∧ ∀ x ∈ cnD, va_Nw (.declares x) U
theorem cX.warm {s U : State} (hW : s.WarmedH U.vm) (h : cX s) : cX U := ⟨fun C hC => va_Nw.warmC hW (h.1 C hC), fun C hC => va_Nc.moved hW.alike (h.2.1 C hC), fun C hC => va_Nc.moved hW.alike (h.2.2.1 C hC), va_Nw.warmC hW h.2.2.2.1, fun x hx => va_Nw.warmD hW (h.2.2.2.2 x hx)⟩
theorem cX.same {s U : State} (hW : s.vm = U.vm) (h : cX s) : cX U := ⟨fun C hC => va_Nw.same rfl hW (h.1 C hC), fun C hC => va_Nc.moved (by rw [← hW]; exact Vm.Alike.refl _) (h.2.1 C hC), fun C hC => va_Nc.moved (by rw [← hW]; exact Vm.Alike.refl _) (h.2.2.1 C hC), va_Nw.same rfl hW h.2.2.2.1, fun x hx => va_Nw.same rfl hW (h.2.2.2.2 x hx)⟩
def cK (D : va_G) (cs : Nat → ClassId) (U : State) : Prop := va_K D vwCl (tysA cs) U ∧ (∀ w ∈ cnF, va_Nw w U) ∧ (∀ w ∈ cnM, va_Nw w U) ∧ cX U
theorem cK.warm {D : va_G} {cs : Nat → ClassId} {s U : State} (hW : s.WarmedH U.vm) (h : cK D cs s) : cK D cs U := by
  refine ⟨va_K.moved hW.alike h.1, fun w hw => ?_, fun w hw => ?_, h.2.2.2.warm hW⟩
  · have q := h.2.1 w hw
    simp only [cnF, List.mem_cons, List.not_mem_nil, or_false] at hw
    rcases hw with rfl | rfl | rfl | rfl <;> exact va_Nw.warmF hW q
  · have q := h.2.2.1 w hw
    simp only [cnM, List.mem_cons, List.not_mem_nil, or_false] at hw
    rcases hw with rfl | rfl | rfl | rfl | rfl | rfl | rfl | rfl | rfl <;> exact va_Nw.warmM hW q
theorem cK.same {D : va_G} {cs : Nat → ClassId} {s U : State} (hW : s.vm = U.vm) (h : cK D cs s) : cK D cs U := by
  refine ⟨va_K.moved (by rw [← hW]; exact Vm.Alike.refl _) h.1, fun w hw => ?_, fun w hw => ?_, h.2.2.2.same hW⟩
  · have q := h.2.1 w hw
    simp only [cnF, List.mem_cons, List.not_mem_nil, or_false] at hw
    rcases hw with rfl | rfl | rfl | rfl <;> exact va_Nw.same rfl hW q
  · have q := h.2.2.1 w hw
    simp only [cnM, List.mem_cons, List.not_mem_nil, or_false] at hw
    rcases hw with rfl | rfl | rfl | rfl | rfl | rfl | rfl | rfl | rfl <;> exact va_Nw.same rfl hW q
/-- a method's start, and its end -/
def cPc (av : List Value) (D : va_G) (cs : Nat → ClassId) (WS : va_W) (sz : Nat) : Array Value → State → Prop := va_Pc av (fun U => U.heap.size = sz ∧ va_P D vwCl WS U.heap ∧ cK D cs U)
def cQ (D : va_G) (v : Option Value) (WS : va_W) (A : Nat → Prop) : Array Value → State → Outcome → State → Prop := fun _ st o t => o = .returned v ∧ va_P D vwCl WS t.heap ∧ va_F A st t
theorem cPc_blind {av : List Value} {D : va_G} {cs : Nat → ClassId} {WS : va_W} {sz : Nat} : FrameBlind (cPc av D cs WS sz) := fun a U g mk h => ⟨h.1, h.2.1, h.2.2.1, cK.same (s := U) (U := U.calling g mk a) rfl h.2.2.2⟩
section CCALL
variable {p : Program} {l : Launch} {e : Env} {R : Room} {s : State} {m : MethodId} {args : Array Value} {below : List Frame} {meth : Method} {c : Code} {H : Heap} {locs : List Loc} {cells slots : Nat} {Q : State → Prop}
variable {cc bytes : ByteArray} {nL maxL index n pc mc ms : Nat} {own C host : String} {y : MethodName} {ret : Option FieldType} {rm : Room} {Ts ws : List Cond} {As rest st0 : List Value} {ls : Array Slot}
variable {D : va_G} {cs : Nat → ClassId} {wc wc' WS' : va_W} {o : Nat} {A A' : Nat → Prop}
/-- a call of one that only reads -/
theorem c_rd (S : CallFix p m c cc nL s args Ts own) (hK : cK D cs s) (hPc : va_P D vwCl wc H) (hrc : ∃ cell : Cell, H[o]? = some cell ∧ cell.vm.isStatics = false ∧ s.vm.findClass C = some cell.cls) {r : Value} (hM : Met l y ws rm (cPc (.ref o :: As) D cs wc H.size) (k2_QcV r) 0 0 (fun _ => False)) (cw : CallW R s args own C index y bytes maxL ret ws rm 0 0 n) (hn : As.length = n) (hsz : ls.size = nL) (hst : st0 = As.reverse ++ .ref o :: rest) (hW : (rest.map fun v => v.category).sum ≤ 8) (hdg : decode cc pc = .ok (.invokevirtual index, 3)) (hf : cells ≤ R.cells ∧ slots ≤ R.slots)
    (kk : W p l e R s m args below meth c H locs cells slots Q (F0 m (pc + 3) ls (r :: rest))) : W p l e R s m args below meth c H locs cells slots Q (F0 m pc ls st0) :=
  W.callV (W.runV S hM cw ⟨cPc_blind, hrc, fun U hU hW => ⟨rfl, by rw [hU], by rw [hU]; exact hPc, cK.warm hW hK⟩⟩ rfl hn hsz hst (lv_room hW) hdg hf) kk
/-- a call of one that writes -/
theorem c_cw0 {v : Option Value} {a : Array Value} (hr : CallRun p l e R s m args below meth c H locs cells slots mc ms (F0 m pc ls st0) rest (cQ D v wc' A' a) A') (hS : va_S A s.heap H locs) (hA : ∀ q, A' q → A q) (hj : ∀ H1 : Heap, H.size ≤ H1.size → (∀ q : Nat, q < H.size → ¬ A' q → H1[q]? = H[q]?) → va_P D vwCl wc' H1 → va_P D vwCl WS' H1)
    (kk : ∀ (H1 : Heap) (locs1 : List Loc), va_P D vwCl WS' H1 → va_S A s.heap H1 locs1 → W p l e R s m args below meth c H1 locs1 (cells + mc) (slots + ms) Q (F0 m (pc + 3) ls (v.toList ++ rest))) : W p l e R s m args below meth c H locs cells slots Q (F0 m pc ls st0) := by
  intro T hT X
  obtain ⟨v', st₀, t, T', L, h0, X', hL, e1, ⟨hv, hP', hz, hk⟩, st⟩ := hr T hT X
  cases hv
  rw [h0] at hz hk
  obtain ⟨t2, a1, b1⟩ := kk T'.heap (locs ++ L) (by rw [e1]; exact hj t.heap hz hk hP') ⟨by rw [e1]; exact Nat.le_trans hS.1 hz, fun q h1 h2 => by
    rw [e1, hk q (Nat.lt_of_lt_of_le h1 hS.1) (fun z => h2 (hA q z))]
    exact hS.2.1 q h1 h2, fun q hq => by
      rcases List.mem_append.mp hq with h | h
      · exact hS.2.2 q h
      · exact hA _ (hL q h)⟩ T' rfl X'
  exact ⟨t2, st t2 a1, b1⟩
theorem c_wr (S : CallFix p m c cc nL s args Ts own) (hK : cK D cs s) (hPc : va_P D vwCl wc H) (hrc : ∃ cell : Cell, H[o]? = some cell ∧ cell.vm.isStatics = false ∧ s.vm.findClass C = some cell.cls) (hS : va_S A s.heap H locs) {v : Option Value} (hM : Met l y ws rm (cPc (.ref o :: As) D cs wc H.size) (cQ D v wc' A') mc ms A') (cw : CallW R s args own C index y bytes maxL ret ws rm mc ms n) (hn : As.length = n) (hsz : ls.size = nL) (hst : st0 = As.reverse ++ .ref o :: rest) (hW : (rest.map fun v => v.category).sum ≤ 8) (hdg : decode cc pc = .ok (.invokevirtual index, 3)) (hf : cells + mc ≤ R.cells ∧ slots + ms ≤ R.slots) (hA : ∀ q, A' q → A q) (hj : ∀ H1 : Heap, H.size ≤ H1.size → (∀ q : Nat, q < H.size → ¬ A' q → H1[q]? = H[q]?) → va_P D vwCl wc' H1 → va_P D vwCl WS' H1)
    (kk : ∀ (H1 : Heap) (locs1 : List Loc), va_P D vwCl WS' H1 → va_S A s.heap H1 locs1 → W p l e R s m args below meth c H1 locs1 (cells + mc) (slots + ms) Q (F0 m (pc + 3) ls (v.toList ++ rest))) : W p l e R s m args below meth c H locs cells slots Q (F0 m pc ls st0) :=
  c_cw0 (W.runV S hM cw ⟨cPc_blind, hrc, fun U hU hW => ⟨rfl, by rw [hU], by rw [hU]; exact hPc, cK.warm hW hK⟩⟩ rfl hn hsz hst (lv_room hW) hdg hf) hS hA hj kk
/-- a call of a static one of a nest mate, that only reckons -/
theorem c_stN (S : CallFix p m c cc nL s args Ts own) {r : Value} (hM : Met l y ws rm (fun v _ => v = As.toArray) (k2_QcV r) 0 0 (fun _ => False)) (cw : va_CN R s args own index y host bytes maxL ret ws rm 0 0 n ∧ (Cond.static y).before args s = true ∧ True) (hn : As.length = n) (hsz : ls.size = nL) (hst : st0 = As.reverse ++ rest) (hW : (rest.map fun v => v.category).sum ≤ 8) (hdg : decode cc pc = .ok (.invokestatic index, 3)) (hf : cells ≤ R.cells ∧ slots ≤ R.slots)
    (kk : W p l e R s m args below meth c H locs cells slots Q (F0 m (pc + 3) ls (r :: rest))) : W p l e R s m args below meth c H locs cells slots Q (F0 m pc ls st0) := by
  have hr := va_runSN (g := F0 m pc ls st0) (locs := locs) (cells := cells) (slots := slots) (e := e) (below := below) (meth := meth) (H := H) (As := As) (rest := rest) S hM cw preEq rfl hn hsz hst (lv_room hW) hdg hf
  intro T hT X
  obtain ⟨v, st₀, t, T', L, h0, X', hL, e1, e2, ⟨hv, hh⟩, st⟩ := hr T hT X
  cases hv
  obtain ⟨t2, a1, b1⟩ := kk T' (by rw [e1, hh, h0]) (Stand.forget X' (fun q h => (hL q h).elim))
  exact ⟨t2, st t2 a1, b1⟩
end CCALL
/-- the entry of a method of the class -/
theorem c_in {l : Launch} {y : MethodName} {ws ws' : List Cond} {rm : Room} {av : List Value} {D : va_G} {cs : Nat → ClassId} {WS : va_W} {P : Nat → Prop} {sz mc ms : Nat} {Qc : Array Value → State → Outcome → State → Prop} {free : Addr → Prop} {cc : ByteArray} {maxL : Nat} {ret : Option FieldType} {lv : List (Nat × Value)} (hy : plainName y.cls = true) (hw : ws = Cond.code y cc maxL ret :: ws') (hlen : (lg_sl av).length ≤ maxL) (hlv : lv_args 0 av = lv)
    (body : ∀ (p : Program) (e : Env) (s : State) (m : MethodId) (below : List Frame) (meth : Method) (c : Code) (ls : Array Slot), CallFix p m c cc maxL s av.toArray ws y.cls → meth.sig.returnType = ret → meth.locks = false → meth.name = y.name → s.heap.size = sz → va_P D vwCl WS s.heap → cK D cs s → lv_has ls maxL lv → va_S (adA P s.heap.size) s.heap s.heap [] →
      W p l e rm s m av.toArray below meth c s.heap [] 0 0 (MQ below Qc av.toArray s mc ms free) (F0 m 0 ls [])) : Met l y ws rm (cPc av D cs WS sz) Qc mc ms free := by
  refine Met.ofW (cc := cc) (maxL := maxL) (ret := ret) hy hw ?_
  intro p e s m args below meth c s₁ B hml hv
  obtain ⟨rfl, hsz, hP, hK⟩ := hv
  have hl := lv_entry av (n := maxL) hlen
  rw [hlv] at hl
  rw [lg_entry_eq]
  exact body p e s m below meth c _ ⟨B.exec, B.bytes, hml, findClass_of_methodNamed B.named, atoms_spec (ws := ws) B.pre⟩ B.returns B.notSynchronized (name_of_methodNamed B.named B.method).1 hsz hP hK hl va_S.rf
