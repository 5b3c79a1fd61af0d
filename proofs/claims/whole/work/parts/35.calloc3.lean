/-! methods that look at a pledge they leave alone; a new pledge beside the house -/
theorem c_inX {l : Launch} {y : MethodName} {ws ws' : List Cond} {rm : Room} {av : List Value} {D : va_G} {cs : Nat → ClassId} {WS X : va_W} {P : Nat → Prop} {sz mc ms : Nat} {Qc : Array Value → State → Outcome → State → Prop} {free : Addr → Prop} {cc : ByteArray} {maxL : Nat} {ret : Option FieldType} {lv : List (Nat × Value)} (hy : plainName y.cls = true) (hw : ws = Cond.code y cc maxL ret :: ws') (hlen : (lg_sl av).length ≤ maxL) (hlv : lv_args 0 av = lv)
    (body : ∀ (p : Program) (e : Env) (s : State) (m : MethodId) (below : List Frame) (meth : Method) (c : Code) (ls : Array Slot), CallFix p m c cc maxL s av.toArray ws y.cls → meth.sig.returnType = ret → meth.locks = false → meth.name = y.name → s.heap.size = sz → va_P D vwCl WS s.heap → cK D cs s → va_P D vwCl X s.heap → lv_has ls maxL lv → va_S (adA P s.heap.size) s.heap s.heap [] →
      W p l e rm s m av.toArray below meth c s.heap [] 0 0 (MQ below Qc av.toArray s mc ms free) (F0 m 0 ls [])) : Met l y ws rm (cPcX av D cs WS X sz) Qc mc ms free := by
  refine Met.ofW (cc := cc) (maxL := maxL) (ret := ret) hy hw ?_
  intro p e s m args below meth c s₁ B hml hv
  obtain ⟨rfl, hsz, hP, hK, hX⟩ := hv
  have hl := lv_entry av (n := maxL) hlen
  rw [hlv] at hl
  rw [lg_entry_eq]
  exact body p e s m below meth c _ ⟨B.exec, B.bytes, hml, findClass_of_methodNamed B.named, atoms_spec (ws := ws) B.pre⟩ B.returns B.notSynchronized (name_of_methodNamed B.named B.method).1 hsz hP hK hX hl va_S.rf
theorem wP_lot {D : va_G} {q : Nat → Nat} {cs : Nat → ClassId} {pl : pZ} {H : Heap} (hk : pl.1 = 2) (h : va_P D vwCl (wP q cs pl) H) : va_P D vwCl (w4 q cs pl.2.1) H := by
  obtain ⟨k0, v, w⟩ := pl
  cases hk
  exact h
theorem wP_rare {D : va_G} {q : Nat → Nat} {cs : Nat → ClassId} {pl : pZ} {H : Heap} (hk : 4 ≤ pl.1) (h : va_P D vwCl (wP q cs pl) H) : va_P D vwCl (w6 q pl.2.1 pl.2.2) H := by
  obtain ⟨k0, v, w⟩ := pl
  match k0, hk with
  | n + 4, _ => exact h
theorem wP_Dn {q : Nat → Nat} {cs : Nat → ClassId} {pl : pZ} {P : Nat → Prop} {sz : Nat} (hq : ∀ i, i < 2 → sz ≤ q i) (hi : ∀ i j, i < 2 → j < 2 → q i = q j → i = j) : va_D (adA P sz) (wP q cs pl) := by
  have h4 : va_D (adA P sz) (w4 q cs pl.2.1) := w4_D (fun h => absurd (hi 0 1 (by decide) (by decide) h) (by decide)) (fun i h => Or.inr (hq i h))
  obtain ⟨k0, v, w⟩ := pl
  match k0 with
  | 0 => exact n1_D (Or.inr (hq 0 (by decide)))
  | 1 => exact n1_D (Or.inr (hq 0 (by decide)))
  | 2 => exact h4
  | 3 => exact n1_D (Or.inr (hq 0 (by decide)))
  | n + 4 => exact n1_D (Or.inr (hq 0 (by decide)))
theorem wNH_D {q a : Nat → Nat} {kb : Nat} {cs : Nat → ClassId} {pl : pZ} {Z : hZ} {sz : Nat} (ia : iH a) (hq : ∀ i, i < 2 → sz ≤ q i) (hi : ∀ i j, i < 2 → j < 2 → q i = q j → i = j) (hlt : ∀ x, pH a x → x < sz) : va_D (adA (pH a) sz) ((wP q cs pl ++ wH a kb cs Z) ++ []) := by
  rw [List.append_nil]
  exact va_Dapp (wP_Dn hq hi) (wH_D ia sz) wP_p wH_p (fr2 hlt hq)
theorem wNHB_D {q a k r : Nat → Nat} {kb : Nat} {cs : Nat → ClassId} {pl : pZ} {Z : hZ} {RW : Nat → Nat → Int64} {sz : Nat} (ia : iH a) (ik : iB k r) (d : dHB a k r) (hq : ∀ i, i < 2 → sz ≤ q i) (hi : ∀ i j, i < 2 → j < 2 → q i = q j → i = j) (hlt : ∀ x, pOr (pH a) (pB k r) x → x < sz) : va_D (adA (pOr (pH a) (pB k r)) sz) ((wP q cs pl ++ wH a kb cs Z) ++ wB k r cs RW) := by
  rw [List.append_assoc]
  exact va_Dapp (wP_Dn hq hi) (wHB_D ia ik d sz) wP_p (fun i p h => by
    by_cases hl : i < (wH a kb cs Z).length
    · rw [List.getElem?_append_left hl] at h
      exact Or.inl (wH_p i p h)
    · rw [List.getElem?_append_right (by omega)] at h
      exact Or.inr (wB_p _ p h)) (fr2 hlt hq)
theorem wTNH_D {b q a : Nat → Nat} {nm : Int32} {v : Nat → Int32} {kb : Nat} {cs : Nat → ClassId} {pl : pZ} {Z : hZ} {sz : Nat} (ib : iT b) (ia : iH a) (d : dTH b a) (hq : ∀ i, i < 2 → sz ≤ q i) (hi : ∀ i j, i < 2 → j < 2 → q i = q j → i = j) (hlt : ∀ x, pOr (pT b) (pH a) x → x < sz) : va_D (adA (pOr (pT b) (pH a)) sz) (((wT b nm v ++ wP q cs pl) ++ wH a kb cs Z) ++ []) := by
  rw [List.append_nil, List.append_assoc]
  refine va_Dapp (P1 := pT b) (P2 := pOr (pP q pl) (pH a)) ((wT_D ib sz nm v).weaken (fun _ q _ h => adA_l q.1 h)) (va_Dapp (wP_Dn hq hi) ((wH_D ia sz).weaken (fun _ q _ h => adA_r q.1 h)) wP_p wH_p (fr2 (fun x h => hlt x (Or.inr h)) hq)) wT_p (fun i p h => ?_) (fun x h1 h2 => h2.elim (fun z => fr2 (pl := pl) (fun x h => hlt x (Or.inl h)) hq x z h1) (d x h1))
  by_cases hl : i < (wP q cs pl).length
  · rw [List.getElem?_append_left hl] at h
    exact Or.inl (wP_p i p h)
  · rw [List.getElem?_append_right (by omega)] at h
    exact Or.inr (wH_p _ p h)
