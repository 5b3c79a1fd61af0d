/-! new arrays, copies of arrays -/
section CNEWA
variable {p : Program} {l : Launch} {e : Env} {R : Room} {s : State} {m : MethodId} {args : Array Value} {below : List Frame} {meth : Method} {c : Code} {H : Heap} {locs : List Loc} {cells slots : Nat} {Q : State → Prop}
variable {cc : ByteArray} {pc : Nat} {ls : Array Slot} {rest : List Value} {D : va_G} {A : Nat → Prop} {cs : Nat → ClassId} {ws : va_W}
theorem x_newa (hexec : p.tables.exec = Jvm.exec) (hb : c.code = cc) {atype : ArrayType} (harr : (Cond.arrayClass (newarray.typeOf atype)).before args s = true) {t0 : Nat} {cT : ClassId} (hK : va_K D vwCl (tysA cs) s) (ht : (tysA cs)[t0]? = some (cT, newarray.typeOf atype)) (hra : va_RA s cT (newarray.typeOf atype) → s.vm.findClass ("[" ++ (newarray.typeOf atype).toString) = some cT) (hP : va_P D vwCl ws H) (hS : va_S A s.heap H locs)
    {n : Int32} {N' : Nat} {a0 : vp_A} (ha : ∀ cA : ClassId, vp_cell cA a0 = arrV cA N' (fun _ => defaultValue (newarray.typeOf atype))) (hn : ¬ n < 0) (hN : n.toNatClampNeg = N') (hbytes : N' * componentBytes (newarray.typeOf atype) ≤ 536870912) (hcells : cells + 1 ≤ R.cells) (hslots : slots + N' ≤ R.slots) (hdg : decode cc pc = .ok (.newarray atype, 2))
    (kk : ∀ (q : Nat) (H1 : Heap), s.heap.size ≤ q → (∀ (k : Nat) (x : Nat × va_E), ws[k]? = some x → x.1 < q) → va_P D vwCl ((q, .inl (cT, a0)) :: ws) H1 → va_S A s.heap H1 locs →
      W p l e R s m args below meth c H1 locs (cells + 1) (slots + N') Q (F0 m (pc + 2) ls (.ref q :: rest))) : W p l e R s m args below meth c H locs cells slots Q (F0 m pc ls (.int n :: rest)) := by
  refine va_newaK hexec hb harr rfl hdg rfl hn hN hbytes hcells hslots rfl fun H1 cA e1 z1 o1 hAr hNm => ?_
  have hk : ∀ (k : Nat) (x : Nat × va_E), ws[k]? = some x → H1[x.1]? = H[x.1]? := fun k x hx => o1 x.1 ((hP k x hx).lt)
  have hcA : cA = cT := Option.some.inj (hNm.symm.trans (hra (hK.2 t0 _ ht).2))
  subst hcA
  refine kk H.size H1 hS.1 (fun k x hx => (hP k x hx).lt) (fun k x hx => ?_) ⟨Nat.le_trans hS.1 (by omega), fun x h1 h2 => (o1 x (Nat.lt_of_lt_of_le h1 hS.1)).trans (hS.2.1 x h1 h2), hS.2.2⟩
  cases k with
  | zero =>
    cases hx
    show H1[H.size]? = some (vp_cell _ _)
    rw [ha]
    exact e1
  | succ k => exact (hP.kept hk) k x hx
theorem x_clone (hexec : p.tables.exec = Jvm.exec) (hb : c.code = cc) (hml : c.maxLocals = ls.size) {own : String} {index : Nat} (hown : s.vm.findClass own = some m.cls)
    (hlink : (Cond.methodLink own index ⟨"[I", "clone", "()Ljava/lang/Object;"⟩).before args s = true) (hsame : (Cond.sameMethod "[I" "java/lang/Object" "clone" "()Ljava/lang/Object;").before args s = true)
    (hnat : (Cond.native ⟨"java/lang/Object", "clone", "()Ljava/lang/Object;"⟩).before args s = true) (hinst : (Cond.instanceMethod ⟨"java/lang/Object", "clone", "()Ljava/lang/Object;"⟩).before args s = true)
    (hsel : (Cond.selects "[I" ⟨"[I", "clone", "()Ljava/lang/Object;"⟩ ⟨"java/lang/Object", "clone", "()Ljava/lang/Object;"⟩).before args s = true) (hcl : va_Nw (.castable "[I" "java/lang/Cloneable") s)
    (hK : va_K D vwCl (tysA cs) s) (hP : va_P D vwCl ws H) (hS : va_S A s.heap H []) (q0 : Nat) {a n : Nat} {f : Nat → Int32} (ha : ws[q0]? = some (a, .inl (cs 0, n, .inl f)))
    (hframes : 1 ≤ R.frames) (hlocals : (rest.map fun v => v.category).sum + 14 ≤ R.locals) (hcells : cells + 1 ≤ R.cells) (hslots : slots + n ≤ R.slots) (hdg : decode cc pc = .ok (.invokevirtual index, 3))
    (kk : ∀ (q : Nat) (H1 : Heap), s.heap.size ≤ q → (∀ (k : Nat) (x : Nat × va_E), ws[k]? = some x → x.1 < q) → va_P D vwCl ((q, .inl (cs 0, n, .inl f)) :: ws) H1 → va_S A s.heap H1 [] →
      W p l e R s m args below meth c H1 [] (cells + 1) (slots + n) Q (F0 m (pc + 3) ls (.ref q :: rest))) : W p l e R s m args below meth c H [] cells slots Q (F0 m pc ls (.ref a :: rest)) := by
  have hPa : va_P D vwCl [(a, .inl (cs 0, n, .inl f))] H := fun k x hx => by
    have hz : k < 1 := (List.getElem?_eq_some_iff.mp hx).1
    obtain rfl : k = 0 := by omega
    cases hx
    exact hP q0 _ ha
  have hlt : a < H.size := (hP q0 _ ha).lt
  have hnm : s.vm.findClass "[I" = some (cs 0) := (hK.2 0 _ rfl).2
  refine va_clone (A := fun x => x = a ∨ H.size ≤ x) (H0 := H) hexec hb hml hown hlink hsame hnat hinst hsel hcl hK hPa ⟨fun i j p r h1 h2 _ => ?_, fun k r h => ?_⟩ ⟨Nat.le_refl _, fun _ _ _ => rfl, fun _ h => by cases h⟩ (fun q h => Or.inr h) 0 0 rfl rfl hnm (fun i v h => ?_) hframes hlocals hcells hslots hdg (fun q H1 _ hP1 hD1 hS1 => ?_)
  · have z1 : i < 1 := (List.getElem?_eq_some_iff.mp h1).1
    have z2 : j < 1 := (List.getElem?_eq_some_iff.mp h2).1
    omega
  · have hz : k < 1 := (List.getElem?_eq_some_iff.mp h).1
    obtain rfl : k = 0 := by omega
    cases h
    exact Or.inl rfl
  · have h2 : (arrV (cs 0) n (fun j => .int (f j))).slots[i]? = some v := h
    have h3 : i < n := by
      have := (Array.getElem?_eq_some_iff.mp h2).1
      rwa [arrV_size] at this
    have h4 := arrV_read (cs 0) (fun j => Value.int (f j)) h3
    rw [h4] at h2
    cases h2
    rfl
  · have hqa : q ≠ a := fun z => by
      have := hD1.1 0 1 (a, .inl (cs 0, n, .inl f)) (q, .inl (cs 0, n, .inl f)) rfl rfl z.symm
      omega
    have hq : H.size ≤ q := (hD1.2 1 (q, .inl (cs 0, n, .inl f)) rfl).elim (fun z => absurd z hqa) id
    have hcell : H1[a]? = H[a]? := by
      have e1 : H1[a]? = some (vp_cell (cs 0) (n, .inl f)) := hP1 0 (a, .inl (cs 0, n, .inl f)) rfl
      have e2 : H[a]? = some (vp_cell (cs 0) (n, .inl f)) := hPa 0 (a, .inl (cs 0, n, .inl f)) rfl
      rw [e1, e2]
    have hkeep : ∀ x : Nat, x < H.size → H1[x]? = H[x]? := fun x hx => by
      by_cases hxa : x = a
      · rw [hxa]; exact hcell
      · exact hS1.2.1 x hx (fun z => z.elim hxa (fun z => absurd hx (Nat.not_lt.mpr z)))
    refine kk q H1 (Nat.le_trans hS.1 hq) (fun k x hx => Nat.lt_of_lt_of_le (hP k x hx).lt hq) (fun k x hx => ?_) ⟨Nat.le_trans hS.1 hS1.1, fun x h1 h2 => (hkeep x (Nat.lt_of_lt_of_le h1 hS.1)).trans (hS.2.1 x h1 h2), fun _ h => by cases h⟩
    cases k with
    | zero => cases hx; exact hP1 1 (q, .inl (cs 0, n, .inl f)) rfl
    | succ k => exact (hP.kept (fun k x hx => hkeep x.1 (hP k x hx).lt)) k x hx
end CNEWA
