/-! static methods with a world; rows' readings -/
section CSTAT
variable {p : Program} {l : Launch} {e : Env} {R : Room} {s : State} {m : MethodId} {args : Array Value} {below : List Frame} {meth : Method} {c : Code} {H : Heap} {locs : List Loc} {cells slots : Nat} {Q : State → Prop}
variable {cc bytes : ByteArray} {nL maxL index n pc mc ms : Nat} {own : String} {y : MethodName} {ret : Option FieldType} {rm : Room} {Ts ws : List Cond} {As rest st0 : List Value} {ls : Array Slot}
variable {D : va_G} {cs : Nat → ClassId} {wc wc' WS' : va_W} {A A' : Nat → Prop}
theorem c_rdS (S : CallFix p m c cc nL s args Ts own) (hK : cK D cs s) (hPc : va_P D vwCl wc H) {r : Value} (hM : Met l y ws rm (cPc As D cs wc H.size) (k2_QcV r) 0 0 (fun _ => False)) (cw : CallB R s args own index y bytes maxL ret ws rm 0 0 n ∧ (Cond.static y).before args s = true) (hn : As.length = n) (hsz : ls.size = nL) (hst : st0 = As.reverse ++ rest) (hW : (rest.map fun v => v.category).sum ≤ 8) (hdg : decode cc pc = .ok (.invokestatic index, 3)) (hf : cells ≤ R.cells ∧ slots ≤ R.slots)
    (kk : W p l e R s m args below meth c H locs cells slots Q (F0 m (pc + 3) ls (r :: rest))) : W p l e R s m args below meth c H locs cells slots Q (F0 m pc ls st0) :=
  W.callV (W.runS S hM cw ⟨cPc_blind, fun U hU hW => ⟨rfl, by rw [hU], by rw [hU]; exact hPc, cK.warm hW hK⟩⟩ rfl hn hsz hst (lv_room hW) hdg hf) kk
theorem c_wrS (S : CallFix p m c cc nL s args Ts own) (hK : cK D cs s) (hPc : va_P D vwCl wc H) (hS : va_S A s.heap H locs) {v : Option Value} (hM : Met l y ws rm (cPc As D cs wc H.size) (cQ D v wc' A') mc ms A') (cw : CallB R s args own index y bytes maxL ret ws rm mc ms n ∧ (Cond.static y).before args s = true) (hn : As.length = n) (hsz : ls.size = nL) (hst : st0 = As.reverse ++ rest) (hW : (rest.map fun v => v.category).sum ≤ 8) (hdg : decode cc pc = .ok (.invokestatic index, 3)) (hf : cells + mc ≤ R.cells ∧ slots + ms ≤ R.slots) (hA : ∀ q, A' q → A q) (hj : ∀ H1 : Heap, H.size ≤ H1.size → (∀ q : Nat, q < H.size → ¬ A' q → H1[q]? = H[q]?) → va_P D vwCl wc' H1 → va_P D vwCl WS' H1)
    (kk : ∀ (H1 : Heap) (locs1 : List Loc), va_P D vwCl WS' H1 → va_S A s.heap H1 locs1 → W p l e R s m args below meth c H1 locs1 (cells + mc) (slots + ms) Q (F0 m (pc + 3) ls (v.toList ++ rest))) : W p l e R s m args below meth c H locs cells slots Q (F0 m pc ls st0) :=
  c_cw0 (W.runS S hM cw ⟨cPc_blind, fun U hU hW => ⟨rfl, by rw [hU], by rw [hU]; exact hPc, cK.warm hW hK⟩⟩ rfl hn hsz hst (lv_room hW) hdg hf) hS hA hj kk
end CSTAT
theorem rwp_eq {RW : Nat → Nat → Int64} {i j : Nat} {x : Int64} : rwp RW i j x i j = x := by simp [rwp, updR, vp_updL]
theorem rwp_ne {RW : Nat → Nat → Int64} {i j l : Nat} {x : Int64} (h : l ≠ j) : rwp RW i j x i l = RW i l := by simp [rwp, updR, vp_updL, h]
theorem ix_pred {x : Int32} (h1 : ¬ x < 1) (h2 : ¬ 513 < x) : x - 1 = nI (tN x - 1) ∧ tN x - 1 < 513 := by
  have h0 : ¬ x < 0 := fun h => h1 (by
    rw [Int32.lt_iff_toInt_lt] at h ⊢
    have e0 : (0 : Int32).toInt = 0 := by decide
    have e1 : (1 : Int32).toInt = 1 := by decide
    omega)
  obtain ⟨j, hj, rfl⟩ := nI_of (x := x) h0
  rw [tN_n hj]
  have q1 := (nI_ltI (a := j) (b := 1) hj (by omega)).mpr
  have q2 := (nI_ltI (a := 513) (b := j) (by omega) hj).mpr
  have q3 : ¬ j < 1 := fun h => h1 (q1 h)
  have q4 : ¬ 513 < j := fun h => h2 (q2 h)
  refine ⟨?_, by omega⟩
  rw [show (1 : Int32) = nI 1 from rfl, pk_sub (by omega)]
theorem ix_lt {x c : Int32} {n : Nat} (hc : c = nI n) (hn : n < 2 ^ 31) (h1 : ¬ x < 0) (h2 : ¬ c ≤ x) : x = nI (tN x) ∧ tN x < n := ⟨(iok_of hc hn h1 h2).2, (iok_of hc hn h1 h2).1⟩
theorem nI_posN {n : Nat} (hn : n < 2 ^ 31) (h : ¬ nI n ≤ 0) : 0 < n := Nat.pos_of_ne_zero (fun z => h (by subst z; decide))
theorem nI_nposN {n : Nat} (hn : n < 2 ^ 31) (h : nI n ≤ 0) : ¬ 0 < n := fun z => absurd ((nI_leI (a := n) (b := 0) hn (by omega)).mp h) (by omega)
theorem ix_sub1 {n : Nat} (h : 0 < n) : nI n - 1 = nI (n - 1) := by rw [show (1 : Int32) = nI 1 from rfl, pk_sub (by omega)]
