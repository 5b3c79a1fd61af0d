/-! the class: new objects; calls with a side condition, or with something new behind them -/
/-- the start of a method that also looks at cells it leaves alone -/
def cPcX (av : List Value) (D : va_G) (cs : Nat → ClassId) (WS X : va_W) (sz : Nat) : Array Value → State → Prop := va_Pc av (fun U => U.heap.size = sz ∧ va_P D vwCl WS U.heap ∧ cK D cs U ∧ va_P D vwCl X U.heap)
theorem cPcX_blind {av : List Value} {D : va_G} {cs : Nat → ClassId} {WS X : va_W} {sz : Nat} : FrameBlind (cPcX av D cs WS X sz) := fun a U g mk h => ⟨h.1, h.2.1, h.2.2.1, cK.same (s := U) (U := U.calling g mk a) rfl h.2.2.2.1, h.2.2.2.2⟩
/-- the end of a method behind which n new cells stand -/
def cQN (D : va_G) (n : Nat) (v : (Nat → Nat) → Option Value) (WS : (Nat → Nat) → va_W) (A : Nat → Prop) : Array Value → State → Outcome → State → Prop := fun _ st o t => ∃ q : Nat → Nat, (∀ i, i < n → st.heap.size ≤ q i) ∧ (∀ i j, i < n → j < n → q i = q j → i = j) ∧ o = .returned (v q) ∧ va_P D vwCl (WS q) t.heap ∧ va_F A st t
/-- a method that returns nothing and leaves all as it was -/
def cQ0 : Array Value → State → Outcome → State → Prop := fun _ st o t => o = .returned none ∧ t.heap = st.heap
section CPRE
variable {s : State} {H : Heap} {D : va_G} {cs : Nat → ClassId} {wc X : va_W} {C : String} {o : Nat} {As : List Value}
theorem preV_c (hK : cK D cs s) (hPc : va_P D vwCl wc H) (hrc : ∃ cell : Cell, H[o]? = some cell ∧ cell.vm.isStatics = false ∧ s.vm.findClass C = some cell.cls) : PreV s H C o (cPc (.ref o :: As) D cs wc H.size) As := ⟨cPc_blind, hrc, fun U hU hW => ⟨rfl, by rw [hU], by rw [hU]; exact hPc, cK.warm hW hK⟩⟩
theorem preV_x (hK : cK D cs s) (hPc : va_P D vwCl wc H) (hX : va_P D vwCl X H) (hrc : ∃ cell : Cell, H[o]? = some cell ∧ cell.vm.isStatics = false ∧ s.vm.findClass C = some cell.cls) : PreV s H C o (cPcX (.ref o :: As) D cs wc X H.size) As := ⟨cPcX_blind, hrc, fun U hU hW => ⟨rfl, by rw [hU], by rw [hU]; exact hPc, cK.warm hW hK, by rw [hU]; exact hX⟩⟩
theorem preS_c (hK : cK D cs s) (hPc : va_P D vwCl wc H) : PreS s H (cPc As D cs wc H.size) As := ⟨cPc_blind, fun U hU hW => ⟨rfl, by rw [hU], by rw [hU]; exact hPc, cK.warm hW hK⟩⟩
theorem preS_x (hK : cK D cs s) (hPc : va_P D vwCl wc H) (hX : va_P D vwCl X H) : PreS s H (cPcX As D cs wc X H.size) As := ⟨cPcX_blind, fun U hU hW => ⟨rfl, by rw [hU], by rw [hU]; exact hPc, cK.warm hW hK, by rw [hU]; exact hX⟩⟩
end CPRE
section CRUN
variable {p : Program} {l : Launch} {e : Env} {R : Room} {s : State} {m : MethodId} {args : Array Value} {below : List Frame} {meth : Method} {c : Code} {H : Heap} {locs : List Loc} {cells slots : Nat} {Q : State → Prop}
variable {mc ms pc n : Nat} {rest st0 : List Value} {ls : Array Slot} {D : va_G} {wc' WS' : va_W} {A A' : Nat → Prop} {a : Array Value}
theorem c_r1 {r : Value} {free : Addr → Prop} (hr : va_Run p l e R s m args below meth c H locs cells slots 0 0 (F0 m pc ls st0) rest (k2_QcV r a) free) (hf : ∀ q, ¬ free q)
    (kk : W p l e R s m args below meth c H locs cells slots Q (F0 m (pc + 3) ls (r :: rest))) : W p l e R s m args below meth c H locs cells slots Q (F0 m pc ls st0) := by
  intro T hT X
  obtain ⟨v, st₀, t, T', L, h0, X', hL, e1, e2, ⟨hv, hh⟩, st⟩ := hr T hT X
  cases hv
  obtain ⟨t2, a1, b1⟩ := kk T' (by rw [e1, hh, h0]) (Stand.forget X' (fun q h => (hf _ (hL q h)).elim))
  exact ⟨t2, st t2 a1, b1⟩
theorem c_r0 {free : Addr → Prop} (hr : va_Run p l e R s m args below meth c H locs cells slots 0 0 (F0 m pc ls st0) rest (cQ0 a) free) (hf : ∀ q, ¬ free q)
    (kk : W p l e R s m args below meth c H locs cells slots Q (F0 m (pc + 3) ls rest)) : W p l e R s m args below meth c H locs cells slots Q (F0 m pc ls st0) := by
  intro T hT X
  obtain ⟨v, st₀, t, T', L, h0, X', hL, e1, e2, ⟨hv, hh⟩, st⟩ := hr T hT X
  cases hv
  obtain ⟨t2, a1, b1⟩ := kk T' (by rw [e1, hh, h0]) (Stand.forget X' (fun q h => (hf _ (hL q h)).elim))
  exact ⟨t2, st t2 a1, b1⟩
theorem c_w1 {v : Option Value} (hr : va_Run p l e R s m args below meth c H locs cells slots mc ms (F0 m pc ls st0) rest (cQ D v wc' A' a) A') (hS : va_S A s.heap H locs) (hA : ∀ q, A' q → A q) (hj : ∀ H1 : Heap, H.size ≤ H1.size → (∀ q : Nat, q < H.size → ¬ A' q → H1[q]? = H[q]?) → va_P D vwCl wc' H1 → va_P D vwCl WS' H1)
    (kk : ∀ (H1 : Heap) (locs1 : List Loc), va_P D vwCl WS' H1 → va_S A s.heap H1 locs1 → W p l e R s m args below meth c H1 locs1 (cells + mc) (slots + ms) Q (F0 m (pc + 3) ls (v.toList ++ rest))) : W p l e R s m args below meth c H locs cells slots Q (F0 m pc ls st0) := by
  intro T hT X
  obtain ⟨v', st₀, t, T', L, h0, X', hL, e1, e2, ⟨hv, hP', hz, hk⟩, st⟩ := hr T hT X
  cases hv
  rw [h0] at hz hk
  obtain ⟨t2, a1, b1⟩ := kk T'.heap (locs ++ L) (by rw [e1]; exact hj t.heap hz hk hP') ⟨by rw [e1]; exact Nat.le_trans hS.1 hz, fun q h1 h2 => by
    rw [e1, hk q (Nat.lt_of_lt_of_le h1 hS.1) (fun z => h2 (hA q z))]
    exact hS.2.1 q h1 h2, fun q hq => by
      rcases List.mem_append.mp hq with h | h
      · exact hS.2.2 q h
      · exact hA _ (hL q h)⟩ T' rfl X'
  exact ⟨t2, st t2 a1, b1⟩
theorem c_wN {v : (Nat → Nat) → Option Value} {wf wf' : (Nat → Nat) → va_W} (hr : va_Run p l e R s m args below meth c H locs cells slots mc ms (F0 m pc ls st0) rest (cQN D n v wf A' a) A') (hS : va_S A s.heap H locs) (hA : ∀ q, A' q → A q) (hj : ∀ (q : Nat → Nat) (H1 : Heap), H.size ≤ H1.size → (∀ q : Nat, q < H.size → ¬ A' q → H1[q]? = H[q]?) → va_P D vwCl (wf q) H1 → va_P D vwCl (wf' q) H1)
    (kk : ∀ (q : Nat → Nat) (H1 : Heap) (locs1 : List Loc), (∀ i, i < n → s.heap.size ≤ q i) → (∀ i j, i < n → j < n → q i = q j → i = j) → va_P D vwCl (wf' q) H1 → va_S A s.heap H1 locs1 → W p l e R s m args below meth c H1 locs1 (cells + mc) (slots + ms) Q (F0 m (pc + 3) ls ((v q).toList ++ rest))) : W p l e R s m args below meth c H locs cells slots Q (F0 m pc ls st0) := by
  intro T hT X
  obtain ⟨v', st₀, t, T', L, h0, X', hL, e1, e2, ⟨q, hq1, hq2, hv, hP', hz, hk⟩, st⟩ := hr T hT X
  cases hv
  rw [h0] at hz hk hq1
  obtain ⟨t2, a1, b1⟩ := kk q T'.heap (locs ++ L) (fun i hi => Nat.le_trans hS.1 (hq1 i hi)) hq2 (by rw [e1]; exact hj q t.heap hz hk hP') ⟨by rw [e1]; exact Nat.le_trans hS.1 hz, fun q h1 h2 => by
    rw [e1, hk q (Nat.lt_of_lt_of_le h1 hS.1) (fun z => h2 (hA q z))]
    exact hS.2.1 q h1 h2, fun q hq => by
      rcases List.mem_append.mp hq with h | h
      · exact hS.2.2 q h
      · exact hA _ (hL q h)⟩ T' rfl X'
  exact ⟨t2, st t2 a1, b1⟩
end CRUN
section CNEW
variable {p : Program} {l : Launch} {e : Env} {R : Room} {s : State} {m : MethodId} {args : Array Value} {below : List Frame} {meth : Method} {c0 : Code} {H : Heap} {locs : List Loc} {cells slots : Nat} {Q : State → Prop}
variable {cc : ByteArray} {pc : Nat} {ls : Array Slot} {rest : List Value} {D : va_G} {A : Nat → Prop} {tys : List (ClassId × FieldType)} {ws : va_W}
theorem x_new (hexec : p.tables.exec = Jvm.exec) (hb : c0.code = cc) {own C : String} {T : u_T} {N ci index : Nat} {Ts : List Cond} (hts : ∀ w ∈ Ts, w.before args s = true) (hin : ∀ w ∈ u_ws C T N, w ∈ Ts) (ty : Nat → FieldType) (hty : ∀ k, k < N → parseFieldDescriptor (T k).2.2.1 = some (ty k)) (hown : s.vm.findClass own = some m.cls) (hcl : (Cond.classLink own index C).before args s = true) (hinst : (Cond.instantiable C N).before args s = true) (hini : (Cond.initialized C).before args s = true)
    (hK : va_K D vwCl tys s) (hP : va_P D vwCl ws H) (hS : va_S A s.heap H locs) (hc : vwCl[ci]? = some (C, T, N)) {fs : List Value} (hfs : ∀ j, j < N → defaultValue (ty j) = vp_V fs j) (hcells : cells + 1 ≤ R.cells) (hslots : slots + N ≤ R.slots) (hdg : decode cc pc = .ok (.new index, 3))
    (kk : ∀ (q : Nat) (H1 : Heap), s.heap.size ≤ q → (∀ (k : Nat) (x : Nat × va_E), ws[k]? = some x → x.1 < q) → va_P D vwCl ((q, .inr (ci, fs)) :: ws) H1 → va_S A s.heap H1 locs →
      W p l e R s m args below meth c0 H1 locs (cells + 1) (slots + N) Q (F0 m (pc + 3) ls (.ref q :: rest))) : W p l e R s m args below meth c0 H locs cells slots Q (F0 m pc ls rest) := by
  have hKn := hK.1 ci _ hc
  refine W.newcK hexec hb hown hcl hinst hini rfl hdg hcells hslots hKn.2.1 rfl fun H1 kC hkC e1 z1 o1 => ?_
  have hk : ∀ (k : Nat) (x : Nat × va_E), ws[k]? = some x → H1[x.1]? = H[x.1]? := fun k x hx => o1 x.1 ((hP k x hx).lt)
  refine kk H.size H1 hS.1 (fun k x hx => (hP k x hx).lt) (fun k x hx => ?_) ⟨Nat.le_trans hS.1 (by omega), fun x h1 h2 => (o1 x (Nat.lt_of_lt_of_le h1 hS.1)).trans (hS.2.1 x h1 h2), hS.2.2⟩
  cases k with
  | zero => cases hx; exact ⟨_, hc, (u_born ty hts hin hKn hkC e1 hty).to hfs⟩
  | succ k => exact (hP.kept hk) k x hx
end CNEW
/-- a single cell -/
def p1 (o : Nat) : Nat → Prop := fun x => x = o
theorem w1_D {o : Nat} {E : va_E} (sz : Nat) : va_D (adA (p1 o) sz) [(o, E)] := by
  refine ⟨fun i j p q h1 h2 h3 => ?_, fun k q h => ?_⟩
  · have a1 := (List.getElem?_eq_some_iff.mp h1).1
    have a2 := (List.getElem?_eq_some_iff.mp h2).1
    have : i < 1 := a1
    have : j < 1 := a2
    omega
  · have : k < 1 := (List.getElem?_eq_some_iff.mp h).1
    obtain rfl : k = 0 := by omega
    cases h
    exact Or.inl rfl
/-- what is new is none of the old -/
theorem fr_dis {P Pr : Nat → Prop} {sz : Nat} (hlt : ∀ x, Pr x → x < sz) (hge : ∀ x, P x → sz ≤ x) : ∀ x, P x → ¬ Pr x := fun x h1 h2 => absurd (hlt x h2) (Nat.not_lt.mpr (hge x h1))
theorem lt_of {D : va_G} {w : va_W} {H : Heap} (hp : va_P D vwCl w H) {i : Nat} {E : va_E} {x : Nat} (h : w[i]? = some (x, E)) : x < H.size := (hp i _ h).lt
theorem wT_lt {D : va_G} {b : Nat → Nat} {nm : Int32} {v : Nat → Int32} {H : Heap} (hp : va_P D vwCl (wT b nm v) H) : ∀ x, pT b x → x < H.size := fun x ⟨i, hi, e⟩ => by
  subst e
  match i, hi with
  | 0, _ => exact lt_of hp (i := 0) rfl
  | 1, _ => exact lt_of hp (i := 1) rfl
  | 2, _ => exact lt_of hp (i := 2) rfl
theorem wH_lt {D : va_G} {a : Nat → Nat} {kb : Nat} {cs : Nat → ClassId} {Z : hZ} {H : Heap} (hp : va_P D vwCl (wH a kb cs Z) H) : ∀ x, pH a x → x < H.size := fun x ⟨i, hi, e⟩ => by
  subst e
  match i, hi with
  | 0, _ => exact lt_of hp (i := 0) rfl
  | 1, _ => exact lt_of hp (i := 1) rfl
  | 2, _ => exact lt_of hp (i := 2) rfl
  | 3, _ => exact lt_of hp (i := 3) rfl
  | 4, _ => exact lt_of hp (i := 4) rfl
  | 5, _ => exact lt_of hp (i := 5) rfl
theorem wB_lt {D : va_G} {k r : Nat → Nat} {cs : Nat → ClassId} {RW : Nat → Nat → Int64} {H : Heap} (hp : va_P D vwCl (wB k r cs RW) H) : ∀ x, pB k r x → x < H.size := fun x h => by
  rcases h with ⟨i, hi, e⟩ | ⟨i, hi, e⟩
  · subst e
    match i, hi with
    | 0, _ => exact lt_of hp (i := 0) rfl
    | 1, _ => exact lt_of hp (i := 1) rfl
  · subst e
    have h2 := wB_row (k := k) (r := r) (cs := cs) (RW := RW) (X := []) hi
    exact lt_of (w := [] ++ wB k r cs RW) hp h2
