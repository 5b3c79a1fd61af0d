/-! new arrays of references, new rows -/
/-- the array classes that are made by their component -/
def aoW (ty : FieldType) (U : State) : Prop := (Cond.arrayOver ty).before #[] U = true
theorem aoW.use {ty : FieldType} {A : Array Value} {U : State} (h : aoW ty U) : (Cond.arrayOver ty).before A U = true := h
theorem aoW.of {ty : FieldType} {A : Array Value} {U : State} (h : (Cond.arrayOver ty).before A U = true) : aoW ty U := h
theorem ao_warm {ty : FieldType} {s U : State} (hW : s.WarmedH U.vm) (h : aoW ty s) : aoW ty U := by
  have h2 : (Cond.arrayOver ty).before #[] (s.setVm U.vm) = true := by rw [Cond.arrayOver_setVmC hW.alike]; exact h
  exact h2
theorem ao_same {ty : FieldType} {s U : State} (hW : s.vm = U.vm) (h : aoW ty s) : aoW ty U := by
  have h2 : (Cond.arrayOver ty).before #[] (s.setVm U.vm) = true := by rw [← hW]; exact h
  exact h2
def cA (U : State) : Prop := aoW (.object "PledgeHouse$Pledge") U ∧ aoW (.object "PledgeHouse$Ticket") U ∧ aoW (.array .long) U
theorem cA.warm {s U : State} (hW : s.WarmedH U.vm) (h : cA s) : cA U := ⟨ao_warm hW h.1, ao_warm hW h.2.1, ao_warm hW h.2.2⟩
theorem cA.same {s U : State} (hW : s.vm = U.vm) (h : cA s) : cA U := ⟨ao_same hW h.1, ao_same hW h.2.1, ao_same hW h.2.2⟩
theorem vr_outer (c : ClassId) (N h0 : Nat) : ∀ i : Nat, Jvm.Free.Multi.outerC c N h0 i = arrV c N (fun j => va_rf (if j < i then some (h0 + 1 + j) else none))
  | 0 => by
    show ({ cls := c, slots := Array.replicate N .null, vm := .none } : Cell) = _
    rw [arrV_new]
    refine congrArg (arrV c N) (funext fun j => ?_)
    simp [va_rf]
  | i + 1 => by
    show (Jvm.Free.Multi.outerC c N h0 i).setSlot i (.ref (h0 + 1 + i)) = _
    rw [vr_outer c N h0 i, arrV_store]
    refine congrArg (arrV c N) (funext fun j => ?_)
    by_cases e : j = i
    · subst e
      simp [updV, va_rf]
    · by_cases h : j < i
      · simp [updV, e, h, Nat.lt_succ_of_lt h]
      · simp [updV, e, h, show ¬ j < i + 1 by omega]
section CNEWQ
variable {p : Program} {l : Launch} {e : Env} {R : Room} {s : State} {m : MethodId} {args : Array Value} {below : List Frame} {meth : Method} {c : Code} {H : Heap} {locs : List Loc} {cells slots : Nat} {Q : State → Prop}
variable {cc : ByteArray} {pc : Nat} {ls : Array Slot} {rest : List Value} {D : va_G} {A : Nat → Prop} {cs : Nat → ClassId} {ws : va_W}
theorem x_newq (hexec : p.tables.exec = Jvm.exec) (hb : c.code = cc) {own C : String} {index : Nat} (hown : s.vm.findClass own = some m.cls) (hclink : (Cond.classLink own index C).before args s = true) (hover : aoW (.object C) s) {t0 : Nat} {cT : ClassId} (hK : va_K D vwCl (tysA cs) s) (ht : (tysA cs)[t0]? = some (cT, .object C)) (hP : va_P D vwCl ws H) (hS : va_S A s.heap H locs)
    {n : Int32} {N' : Nat} (hn : ¬ n < 0) (hN : n.toNatClampNeg = N') (hbytes : N' * 4 ≤ 536870912) (hcells : cells + 1 ≤ R.cells) (hslots : slots + N' ≤ R.slots) (hdg : decode cc pc = .ok (.anewarray index, 3))
    (kk : ∀ (q : Nat) (H1 : Heap), s.heap.size ≤ q → (∀ (k : Nat) (x : Nat × va_E), ws[k]? = some x → x.1 < q) → va_P D vwCl ((q, .inl (cT, N', refs (fun _ => none))) :: ws) H1 → va_S A s.heap H1 locs →
      W p l e R s m args below meth c H1 locs (cells + 1) (slots + N') Q (F0 m (pc + 3) ls (.ref q :: rest))) : W p l e R s m args below meth c H locs cells slots Q (F0 m pc ls (.int n :: rest)) := by
  subst hN
  refine W.anew hexec hb hown hclink (aoW.use hover) rfl hdg rfl hn hbytes hcells hslots fun cA kA comp f1 f2 f3 f4 => ?_
  generalize hH1 : H.push ({ cls := cA, slots := Array.replicate n.toNatClampNeg .null, vm := .none } : Cell) = H1
  have z1 : H1.size = H.size + 1 := by rw [← hH1, Array.size_push]
  have e1 : H1[H.size]? = some (arrV cA n.toNatClampNeg (fun _ => .null)) := by rw [← hH1, Array.getElem?_push_size, ← arrV_new]
  have o1 : ∀ q : Nat, q < H.size → H1[q]? = H[q]? := fun q hq => by rw [← hH1, Array.getElem?_push, if_neg (Nat.ne_of_lt hq)]
  obtain ⟨kB, comp2, g1, g2, g3, g4⟩ := (hK.2 t0 _ ht).2
  have hcA : cA = cT := Option.some.inj (f1.symm.trans g4)
  subst hcA
  have hk : ∀ (k : Nat) (x : Nat × va_E), ws[k]? = some x → H1[x.1]? = H[x.1]? := fun k x hx => o1 x.1 ((hP k x hx).lt)
  refine kk H.size H1 hS.1 (fun k x hx => (hP k x hx).lt) (fun k x hx => ?_) ⟨Nat.le_trans hS.1 (by omega), fun x h1 h2 => (o1 x (Nat.lt_of_lt_of_le h1 hS.1)).trans (hS.2.1 x h1 h2), hS.2.2⟩
  cases k with
  | zero =>
    cases hx
    show H1[H.size]? = some (vp_cell _ _)
    rw [show (n.toNatClampNeg, refs (fun _ => none)) = ((n.toNatClampNeg, .inr (.inr (.inr (.inr (fun _ => none))))) : vp_A) from rfl, vp_cell_q]
    exact e1
  | succ k => exact (hP.kept hk) k x hx
/-- rows of longs -/
theorem x_mna (hexec : p.tables.exec = Jvm.exec) (hb : c.code = cc) {own : String} {index : Nat} (hown : s.vm.findClass own = some m.cls) (hclink : (Cond.classLink own index "[[J").before args s = true) (hover : aoW (.array .long) s) (harr : (Cond.arrayClass .long).before args s = true) (hK : va_K D vwCl (tysA cs) s) (hP : va_P D vwCl ws H) (hS : va_S A s.heap H locs)
    (hcells : cells + (1 + 513) ≤ R.cells) (hslots : slots + (513 + 513 * 21) ≤ R.slots) (hdg : decode cc pc = .ok (.multianewarray index 2, 4))
    (kk : ∀ (q : Nat) (H1 : Heap), s.heap.size ≤ q → (∀ (k : Nat) (x : Nat × va_E), ws[k]? = some x → x.1 < q) → va_P D vwCl ws H1 → va_P D vwCl ([(q, .inl (cs 5, 513, refs (outR (fun i => q + 1 + i))))] ++ rowL (fun i => q + 1 + i) cs (fun _ _ => 0) 513) H1 → va_S A s.heap H1 locs →
      W p l e R s m args below meth c H1 locs (cells + 1 + 513) (slots + 513 + 513 * 21) Q (F0 m (pc + 4) ls (.ref q :: rest))) : W p l e R s m args below meth c H locs cells slots Q (F0 m pc ls (.int 21 :: .int 513 :: rest)) := by
  intro T hT Xs
  obtain ⟨vm₁, cO, comp, -, fA, fC, hO, -, X', step⟩ := Xs.multianewarray2F (ty := .long) hexec hown hclink (aoW.use hover) harr (g := F0 m pc ls (.int 21 :: .int 513 :: rest)) rfl (by rw [hb]; exact hdg) rfl (by decide) (by decide) (by decide) (by decide) (by decide) rfl rfl hcells hslots
  have e5 : cO = cs 5 := Option.some.inj (fA.symm.trans (hK.2 5 _ rfl).2)
  have e1 : comp = cs 1 := Option.some.inj (fC.symm.trans (hK.2 1 _ rfl).2)
  subst e5
  subst e1
  have n1 : (513 : Int32).toNatClampNeg = 513 := by decide
  have n2 : (21 : Int32).toNatClampNeg = 21 := by decide
  rw [n1, n2] at X' step
  generalize hF : Jvm.Free.Multi.fill (T.setVm vm₁) (cs 5) (cs 1) 513 21 (defaultValue .long) 513 = F at X' step
  have hTh : (T.setVm vm₁).heap = H := hT
  obtain ⟨f1, f2, -, -⟩ := Jvm.Free.Multi.fill_facts (T.setVm vm₁) (cs 5) (cs 1) 513 21 (defaultValue .long) 513
  rw [hF, hTh] at f1 f2
  have hold : ∀ x : Nat, x < H.size → F.heap[x]? = H[x]? := fun x hx => by
    have := Jvm.Free.Multi.fill_old (T.setVm vm₁) (cs 5) (cs 1) 513 21 (defaultValue .long) (a := x) (by rw [hTh]; exact hx) 513
    rw [hF, hTh] at this
    exact this
  have hrow : ∀ j : Nat, j < 513 → F.heap[H.size + 1 + j]? = some (vp_cell (cs 1) (21, .inr (.inl (fun _ => 0)))) := fun j hj => by
    have := Jvm.Free.Multi.fill_inner (T.setVm vm₁) (cs 5) (cs 1) 513 21 (defaultValue .long) 513 j hj
    rw [hF, hTh] at this
    rw [this, vp_cell_l]
    exact congrArg some (arrV_new (cs 1) 21 (.long 0))
  have hout : Jvm.Free.Multi.outerC (cs 5) 513 H.size 513 = vp_cell (cs 5) (513, refs (outR (fun i => H.size + 1 + i))) := by
    rw [show ((513, refs (outR (fun i => H.size + 1 + i))) : vp_A) = (513, .inr (.inr (.inr (.inr (outR (fun i => H.size + 1 + i)))))) from rfl, vp_cell_q]
    exact vr_outer (cs 5) 513 H.size 513
  rw [hout] at f2
  obtain ⟨t, a1, b1⟩ := kk H.size F.heap hS.1 (fun k x hx => (hP k x hx).lt) (hP.kept (fun k x hx => hold x.1 ((hP k x hx).lt))) (va_P.app (fun k x hx => by
      have hz : k < 1 := (List.getElem?_eq_some_iff.mp hx).1
      obtain rfl : k = 0 := by omega
      cases hx
      exact f2) (fun k x hx => by
      obtain ⟨h1, h2⟩ := rowL_of hx
      subst h2
      exact hrow k h1)) ⟨by rw [f1]; exact Nat.le_trans hS.1 (by omega), fun x h1 h2 => (hold x (Nat.lt_of_lt_of_le h1 hS.1)).trans (hS.2.1 x h1 h2), hS.2.2⟩ F rfl X'
  exact ⟨t, step t (by rw [hT]; exact a1), b1⟩
end CNEWQ
/-- apart is a matter of the addresses alone -/
theorem va_Dadr {A : Nat → Prop} {w w' : va_W} (h : w.map (fun x => x.1) = w'.map (fun x => x.1)) (hD : va_D A w) : va_D A w' := by
  have key : ∀ (k : Nat) (q : Nat × va_E), w'[k]? = some q → ∃ q', w[k]? = some q' ∧ q'.1 = q.1 := fun k q hk => by
    have h1 : (w'.map (fun x => x.1))[k]? = some q.1 := by rw [List.getElem?_map, hk]; rfl
    rw [← h, List.getElem?_map] at h1
    cases hw : w[k]? with
    | none => rw [hw] at h1; cases h1
    | some q' => rw [hw] at h1; exact ⟨q', rfl, Option.some.inj h1⟩
  refine ⟨fun i j p q h1 h2 h3 => ?_, fun k q hk => ?_⟩
  · obtain ⟨p', p1, p2⟩ := key i p h1
    obtain ⟨q', q1, q2⟩ := key j q h2
    exact hD.1 i j p' q' p1 q1 (by rw [p2, q2]; exact h3)
  · obtain ⟨q', q1, q2⟩ := key k q hk
    rw [← q2]
    exact hD.2 k q' q1
def tFIRST (j : Nat) : Int32 := ([20, 50, 700, 400, 20, 20, 20, 20, 20, 600, 600, 600, 600, 600] : List Int32).getD j 0
/-- a new house -/
def hZ0 : hZ := (fun _ => 0, tFIRST, fun _ => 0, fun _ => 0, fun _ => none, fun _ => none)
def sx (o : Nat) (n : Nat → Nat) : Nat → Nat := fun i => if i = 0 then o else n (i - 1)
def lst (l : List Nat) : Nat → Nat := fun i => l.getD i 0
theorem cPcU_blind {X : State → Prop} {av : List Value} {D : va_G} {cs : Nat → ClassId} {WS : va_W} {sz : Nat} (hX : ∀ (U V : State), U.vm = V.vm → U.heap = V.heap → X U → X V) : FrameBlind (cPcU X av D cs WS sz) := fun a U g mk h => ⟨h.1, h.2.1, h.2.2.1, cK.same (s := U) (U := U.calling g mk a) rfl h.2.2.2.1, hX U _ rfl rfl h.2.2.2.2⟩
/-- what a house's making looks at -/
def stF (D : va_G) (cs : Nat → ClassId) (A : Nat → Prop) (rF : Nat) (U : State) : Prop := va_Z RX11 "RULES_AT_FIRST" "[I" (.ref rF) A U U.heap ∧ va_P D vwCl [(rF, .inl (cs 0, 14, .inl tFIRST))] U.heap ∧ cA U
