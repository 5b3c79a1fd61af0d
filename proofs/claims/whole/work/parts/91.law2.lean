/-! the law: its fixed things, its arguments (by law.py) -/
def LC (p : Program) (s : State) (m : MethodId) (c : Code) (b L : Nat) (xs : Nat → Int32) (D : va_G) (cs : Nat → ClassId) (ad : Nat → Nat) (rL rG sL sG : Nat) : Prop := CallFix p m c code 4 s #[Value.ref b] wsL_law RL ∧ cK D cs s ∧ mK D (cs 0) (cs 1) s ∧ (va_X b L xs s s.heap ∧ b < s.heap.size) ∧ (mI ad ∧ ∀ i, i < 12 → s.heap.size ≤ ad i) ∧ stCT (fun x => s.heap.size ≤ x) rL rG s ∧ stRT (fun x => s.heap.size ≤ x) sL sG s ∧ va_Nw (.methodLinkNest RX13 187 yX12_copy "PledgeHouseModel") s ∧ ∀ x : Int32, vf_n32 (FP.fmul (FP.i2f x) 1040187392) ∧ (¬ sc_X10_isWeight (FP.fmul (FP.i2f x) 1040187392) = 0 → WSM (FP.fmul (FP.i2f x) 1040187392))
abbrev lvL (b o : Nat) (ad : Nat → Nat) (i : Nat) : List (Nat × Value) := [(0, .ref b), (1, .ref o), (2, .ref (ad 0)), (3, .int (nI (4 * i)))]
section LAR
variable {p : Program} {l : Launch} {e : Env} {s : State} {m : MethodId} {below : List Frame} {meth : Method} {c : Code} {H : Heap} {cells slots : Nat} {Q : State → Prop} {ls : Array Slot} {rest : List Value} {locs : List Loc}
variable {D : va_G} {cs : Nat → ClassId} {b L o i : Nat} {xs : Nat → Int32} {a1 a2 k r ad : Nat → Nat} {F : mZ} {rL rG sL sG : Nat}
theorem lw_arg (j : Nat) (hj : j < 4) {v : Int32} {jn : Fin 7} {pc : Nat} (X : LC p s m c b L xs D cs ad rL rG sL sG) (hl : lv_has ls 4 (lvL b o ad i)) (hi : 4 * i + 4 ≤ L) (hL : L ≤ 2048) (hS : va_S (fun x => s.heap.size ≤ x) s.heap H locs) (hv : v = nI j) (d0 : decode code pc = .ok (.aload_n 0, 1)) (d1 : decode code (pc + 1) = .ok (.iload_n 3, 1)) (d2 : W p l e room_1 s m #[Value.ref b] below meth c H locs cells slots Q (F0 m (pc + 3) ls (.int v :: .int (nI (4 * i)) :: .ref b :: rest)) → W p l e room_1 s m #[Value.ref b] below meth c H locs cells slots Q (F0 m (pc + 2) ls (.int (nI (4 * i)) :: .ref b :: rest))) (d3 : decode code (pc + 3) = .ok (.iadd, 1)) (d4 : decode code (pc + 4) = .ok (.iaload, 1))
    (kk : W p l e room_1 s m #[Value.ref b] below meth c H locs cells slots Q (F0 m (pc + 5) ls (.int (xs (4 * i + j)) :: rest))) : W p l e room_1 s m #[Value.ref b] below meth c H locs cells slots Q (F0 m pc ls rest) := by
  obtain ⟨hx, hb, hml, hown, hts⟩ := X.1
  refine lv_aload_n hx hb d0 rfl (lv_at hl 0 rfl) ?_
  refine lv_iload_n hx hb d1 rfl (lv_at hl 3 rfl) ?_
  refine d2 ?_
  refine lv_iadd hx hb d3 ?_
  have e1 : nI (4 * i) + v = nI (4 * i + j) := by rw [hv, nI_add]
  rw [e1]
  refine va_sld hx hb X.2.2.2.1.1 X.2.2.2.1.2 (Nat.not_le.mpr X.2.2.2.1.2) hS (vp_in_nI (by omega) (by omega)) d4 ?_
  rw [nI_clamp (by omega)]
  exact kk
theorem LC_st (X : LC p s m c b L xs D cs ad rL rG sL sG) (hS : va_S (fun x => s.heap.size ≤ x) s.heap H locs) : (∀ U : State, U.heap = H → s.WarmedH U.vm → stCT (fun x => ¬ fzL s.heap.size ad x) rL rG U) ∧ ∀ U : State, U.heap = H → s.WarmedH U.vm → stRT (mA ad H.size) sL sG U := by
  have hc := X.2.2.2.2.2.1
  have hr := X.2.2.2.2.2.2.1
  have had := X.2.2.2.2.1.2
  have hk : ∀ q, q < s.heap.size → H[q]? = s.heap[q]? := fun q hq => hS.2.1 q hq (Nat.not_le.mpr hq)
  have lt1 : ∀ q, ¬ fzL s.heap.size ad q → s.heap.size ≤ q := fun q z => Nat.not_lt.mp (fun w => z (Or.inl w))
  have lt2 : ∀ q, mA ad H.size q → s.heap.size ≤ q := fun q z => z.elim (fun ⟨i, hi, e⟩ => by rw [e]; exact had i hi) (fun w => Nat.le_trans hS.1 w)
  refine ⟨fun U hU hW => ⟨?_, ?_, ?_, ?_⟩, fun U hU hW => ⟨?_, ?_, ?_, ?_⟩⟩
  · rw [hU]; exact va_Zm (va_Z.moved hW.alike (hc.1.kept (fun a h1 _ => hk a h1))) lt1
  · rw [hU]; exact va_Zm (va_Z.moved hW.alike (hc.2.1.kept (fun a h1 _ => hk a h1))) lt1
  · rw [hU]; exact (va_T.moved hW.alike (hc.2.2.1.kept (fun a h1 _ => hk a h1))).narrow lt1
  · rw [hU]; exact (va_T.moved hW.alike (hc.2.2.2.kept (fun a h1 _ => hk a h1))).narrow lt1
  · rw [hU]; exact va_Zm (va_Z.moved hW.alike (hr.1.kept (fun a h1 _ => hk a h1))) lt2
  · rw [hU]; exact va_Zm (va_Z.moved hW.alike (hr.2.1.kept (fun a h1 _ => hk a h1))) lt2
  · rw [hU]; exact (va_T.moved hW.alike (hr.2.2.1.kept (fun a h1 _ => hk a h1))).narrow lt2
  · rw [hU]; exact (va_T.moved hW.alike (hr.2.2.2.kept (fun a h1 _ => hk a h1))).narrow lt2
theorem cmp_self {x : Int64} : lg_cmp x x = 0 := by
  unfold lg_cmp
  simp
end LAR
