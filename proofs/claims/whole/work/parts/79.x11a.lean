/-! PledgeHouse: its answer; the end of its acts -/
set_option maxHeartbeats 4000000 in
set_option maxRecDepth 100000 in
theorem cC_X11_answer (l : Launch) (D : va_G) (cs : Nat → ClassId) (o : Nat) (a1 a2 : Nat → Nat) (y st x : Int32) (sz : Nat) : Met l yX11_answer wsX11_answer rmZ (cPc [.ref o, .int x] D cs (wO o a1 a2 y st) sz) (cQ D (some (.int x)) (wO o a1 a2 y x) (adA (p1 o) sz)) 0 0 (adA (p1 o) sz) := by
  refine c_in (P := p1 o) (cc := cX11_answer) (maxL := 2) (ret := (some .int)) (lv := [(0, .ref o), (1, .int x)]) (by decide) rfl (Nat.le_of_ble_eq_true rfl) rfl ?_
  intro p e s m below meth c ls S hr hlocks hin hsz hP hK hl hS
  subst hsz
  obtain ⟨hx, hb, hml, hown, hts⟩ := id S
  have hX11 : ∀ w ∈ wsX110, w ∈ wsX11_answer := by decide +kernel
  refine lv_aload_n hx hb dX11_answer_0 rfl (lv_at hl 0 rfl) ?_
  refine lv_iload_n hx hb dX11_answer_1 rfl (lv_at hl 1 rfl) ?_
  refine va_put (D := D) (ci := 9) (v := .int x) (ty := .int) (C := RX11) (T := TX11) (N := 4) hx hb hts hX11 tyX11 tyX11_ok nmX11 hown hK.1 hP (w1_D s.heap.size) hS 0 rfl rfl 3 (by decide) (hts (.fieldLink RX11 143 "PledgeHouse" "latestAnswer" "I") (by decide +kernel)) (fun _ h9 => h9) rfl (by decide +kernel) rfl rfl (Nat.le_of_ble_eq_true rfl) dX11_answer_2 (fun H locs hP _ hS => ?_)
  have hP : va_P D vwCl (wO o a1 a2 y x) H := hP
  refine lv_iload_n hx hb dX11_answer_5 rfl (lv_at hl 1 rfl) ?_
  exact W.iret hx hb hr (fun t2 ht2 hW => ⟨rfl, by rw [ht2]; exact hP, hS.F ht2⟩) hS.2.2 dX11_answer_6 hlocks
/-- what the state is like in another heap that has all of it -/
theorem gT_o {D : va_G} {cs : Nat → ClassId} {o : Nat} {a1 a2 k r : Nat → Nat} {fz : Nat → Prop} {N : Nat} {F : mZ} {H H1 : Heap} {y st : Int32} (hT : gT D cs o a1 a2 k r fz N F H) (hsz : H.size ≤ H1.size) (hk : ∀ q, q < H.size → q ≠ o → H1[q]? = H[q]?) : gT D cs o a1 a2 k r fz N F H1 := by
  obtain ⟨h1, h2, RW, cn1, rc1, d1, cn2, rc2, d2, hR, hI, hH, hfz⟩ := hT
  have un : ∀ n x, n ≠ 0 → x < H.size → prt o a1 a2 k r h1 h2 n x → H1[x]? = H[x]? := fun n x n0 hx p => hk x hx (fun e => n0 (hI.2.1 n 0 x p (Or.inl ⟨rfl, e⟩)))
  refine ⟨h1, h2, RW, cn1, rc1, d1, cn2, rc2, d2, hR, hI, ⟨keep_h hH.1 (fun x a b => un 1 x (by decide) a (Or.inr (Or.inl ⟨rfl, b⟩))) (fun j x hj a b => un (5 + 2 * j) x (by omega) a (Or.inr (Or.inr (Or.inr (Or.inr (Or.inr (Or.inl ⟨j, hj, rfl, b⟩))))))) (fun x a b => un 4 x (by decide) a (Or.inr (Or.inr (Or.inr (Or.inr (Or.inl ⟨rfl, Or.inl b⟩)))))), keep_h hH.2.1 (fun x a b => un 2 x (by decide) a (Or.inr (Or.inr (Or.inl ⟨rfl, b⟩)))) (fun j x hj a b => un (6 + 2 * j) x (by omega) a (Or.inr (Or.inr (Or.inr (Or.inr (Or.inr (Or.inr ⟨j, hj, rfl, b⟩))))))) (fun x a b => un 4 x (by decide) a (Or.inr (Or.inr (Or.inr (Or.inr (Or.inl ⟨rfl, Or.inr b⟩)))))), keepW hH.2.2 wB_p (fun q a b => un 3 q (by decide) a (Or.inr (Or.inr (Or.inr (Or.inl ⟨rfl, b⟩)))))⟩, fun x hx => Nat.lt_of_lt_of_le (hfz x hx) hsz⟩
theorem gT_ofz {D : va_G} {cs : Nat → ClassId} {o : Nat} {a1 a2 k r : Nat → Nat} {fz : Nat → Prop} {N : Nat} {F : mZ} {H : Heap} (hT : gT D cs o a1 a2 k r fz N F H) : ¬ fz o ∧ ∀ x, fz x → x < H.size := by
  obtain ⟨h1, h2, RW, cn1, rc1, d1, cn2, rc2, d2, hR, hI, hH, hfz⟩ := hT
  exact ⟨hI.2.2 0 o (Or.inl ⟨rfl, rfl⟩), hfz⟩
theorem x11_end {l : Launch} {p : Program} {e : Env} {R : Room} {s : State} {m : MethodId} {args : Array Value} {below : List Frame} {meth : Method} {c : Code} {H : Heap} {locs : List Loc} {cells slots : Nat} {cc : ByteArray} {nL pc : Nat} {Ts : List Cond} {own : String} {ls : Array Slot} {D : va_G} {cs : Nat → ClassId} {o : Nat} {a1 a2 k r : Nat → Nat} {fz : Nat → Prop} {N : Nat} {y st x : Int32} {q : Int32 × mZ} {bytes : ByteArray} {maxL : Nat}
    (S : CallFix p m c cc nL s args Ts own) (hK : cK D cs s) (hr : meth.sig.returnType = some .int) (hlocks : meth.locks = false) (hO : va_P D vwCl (wO o a1 a2 y st) H) (hT : gT D cs o a1 a2 k r fz N q.2 H) (e1 : q.1 = x) (e2 : zst q.2 = x) (e3 : zik q.2 = y) (hS : va_S (fun x => ¬ fz x) s.heap H locs)
    (cw : CallW R s args own RX11 28 yX11_answer bytes maxL (some .int) wsX11_answer rmZ 0 0 1) (hsz : ls.size = nL) (hd1 : decode cc pc = .ok (.invokevirtual 28, 3)) (hd2 : decode cc (pc + 3) = .ok (.ireturn, 1)) (hf : cells ≤ R.cells ∧ slots ≤ R.slots) :
    W p l e R s m args below meth c H locs cells slots (MQ below (cQF D (some (.int q.1)) (wO o a1 a2 (zik q.2) (zst q.2)) (gT D cs o a1 a2 k r fz N q.2) (fun x => ¬ fz x)) args s cells slots (fun x => ¬ fz x)) (F0 m pc ls [.int x, .ref o]) := by
  obtain ⟨z1, z2⟩ := gT_ofz hT
  refine c_wG (G := fun H1 => va_P D vwCl (wO o a1 a2 y x) H1 ∧ gT D cs o a1 a2 k r fz N q.2 H1) (va_runV S (cC_X11_answer l D cs o a1 a2 y st x _) cw (preV_c (As := [.int x]) hK hO (va_recv hK.1 hO (ci := 9) (q0 := 0) rfl rfl)) rfl rfl hsz rfl (lv_room (Nat.le_of_ble_eq_true rfl)) hd1 hf) hS (fun a h => ?_) (fun H1 hz hk hP => ?_) (fun H1 locs1 hG hS => ?_)
  · rcases h with h | h
    · rw [show a = o from h]; exact z1
    · exact fun z => absurd (z2 a z) (Nat.not_lt.mpr h)
  · exact ⟨hP, gT_o (y := y) (st := st) hT hz (fun a h1 h2 => hk a h1 (fun z => z.elim (fun q => h2 q) (fun q => absurd h1 (Nat.not_lt.mpr q))))⟩
  · refine W.iret S.1 S.2.1 hr (fun t2 ht2 hW => ⟨by rw [e1], by rw [ht2, e2, e3]; exact hG.1, by rw [ht2]; exact hG.2, hS.F ht2⟩) hS.2.2 hd2 hlocks
