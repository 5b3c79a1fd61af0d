/-! a reference that may be null; places; the rows' number -/
section COPT
variable {p : Program} {l : Launch} {e : Env} {R : Room} {s : State} {m : MethodId} {args : Array Value} {below : List Frame} {meth : Method} {c : Code} {H : Heap} {locs : List Loc} {cells slots : Nat} {Q : State → Prop}
variable {cc : ByteArray} {pc : Nat} {ls : Array Slot} {rest : List Value}
theorem lv_ifnonnullO (hexec : p.tables.exec = Jvm.exec) (hb : c.code = cc) {o : Option Nat} {off : Int} {tgt : Nat} (hdg : decode cc pc = .ok (.ifnonnull off, 3)) (ht : (pc : Int) + off = (tgt : Int)) (k1 : ¬ o = none → W p l e R s m args below meth c H locs cells slots Q (F0 m tgt ls rest)) (k0 : o = none → W p l e R s m args below meth c H locs cells slots Q (F0 m (pc + 3) ls rest)) : W p l e R s m args below meth c H locs cells slots Q (F0 m pc ls (va_rf o :: rest)) := by
  cases o with
  | none => exact lv_ifnonnullN hexec hb hdg (k0 rfl)
  | some q => exact lv_ifnonnull hexec hb hdg ht (k1 (fun h => by cases h))
theorem lv_ifnullO (hexec : p.tables.exec = Jvm.exec) (hb : c.code = cc) {o : Option Nat} {off : Int} {tgt : Nat} (hdg : decode cc pc = .ok (.ifnull off, 3)) (ht : (pc : Int) + off = (tgt : Int)) (k1 : o = none → W p l e R s m args below meth c H locs cells slots Q (F0 m tgt ls rest)) (k0 : ¬ o = none → W p l e R s m args below meth c H locs cells slots Q (F0 m (pc + 3) ls rest)) : W p l e R s m args below meth c H locs cells slots Q (F0 m pc ls (va_rf o :: rest)) := by
  cases o with
  | none => exact lv_ifnullN hexec hb hdg ht (k1 rfl)
  | some q => exact lv_ifnull hexec hb hdg (k0 (fun h => by cases h))
end COPT
theorem va_rf_orc (o : Option Nat) : va_rf o = .null ∨ ∃ q, va_rf o = .ref q := by
  cases o with
  | none => exact Or.inl rfl
  | some q => exact Or.inr ⟨q, rfl⟩
theorem pl_of {x : Int32} (h : ¬ sc_X3_isPlace x = 0) : x = nI (tN x) ∧ tN x < 40 := by
  by_cases h0 : x < 0
  · exact absurd (by unfold sc_X3_isPlace; rw [if_pos h0]) h
  · by_cases h1 : (40 : Int32) ≤ x
    · exact absurd (by unfold sc_X3_isPlace; rw [if_neg h0, if_pos h1]) h
    · exact ix_lt rfl (by decide) h0 h1
theorem ix_tk {x c : Int32} (hc : c ≤ 511) (h1 : ¬ x < 1) (h2 : ¬ c < x) : x - 1 = nI (tN x - 1) ∧ tN x - 1 < 511 := by
  have h3 : ¬ (513 : Int32) < x := fun h => h2 (by
    rw [Int32.lt_iff_toInt_lt] at h ⊢
    rw [Int32.le_iff_toInt_le] at hc
    have e1 : (513 : Int32).toInt = 513 := by decide
    have e2 : (511 : Int32).toInt = 511 := by decide
    omega)
  have h := ix_pred h1 h3
  refine ⟨h.1, ?_⟩
  have h0 : ¬ x < 0 := fun z => h1 (by
    rw [Int32.lt_iff_toInt_lt] at z ⊢
    have e0 : (0 : Int32).toInt = 0 := by decide
    have e1 : (1 : Int32).toInt = 1 := by decide
    omega)
  obtain ⟨j, hj, rfl⟩ := nI_of (x := x) h0
  rw [tN_n hj]
  have q1 : ¬ (511 : Int32) < nI j := fun z => h2 (by
    rw [Int32.lt_iff_toInt_lt] at z ⊢
    rw [Int32.le_iff_toInt_le] at hc
    omega)
  have q2 : ¬ 511 < j := fun z => q1 ((nI_ltI (a := 511) (b := j) (by omega) hj).mpr z)
  omega
theorem ix_ge {x c d : Int32} {n k : Nat} (hd : d = nI k) (hk : k < 2 ^ 31) (hc : c = nI n) (hn : n < 2 ^ 31) (h1 : ¬ x < d) (h2 : ¬ c ≤ x) : x = nI (tN x) ∧ tN x < n := by
  refine ix_lt hc hn (fun h => h1 ?_) h2
  rw [hd]
  have q : ¬ nI k < 0 := fun z => absurd ((nI_ltI (a := k) (b := 0) hk (by omega)).mp z) (by omega)
  rw [Int32.lt_iff_toInt_lt] at h q ⊢
  omega
theorem nilP {D : va_G} {H : Heap} : va_P D vwCl [] H := fun k q h => by cases h
