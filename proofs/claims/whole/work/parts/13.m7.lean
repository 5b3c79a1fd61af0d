/-! State.copy, image, back -/
abbrev mS : Type := (Nat → Int32) × (Nat → Int32) × (Nat → Int32) × (Nat → Int64)
def mix {α : Type} (f g : Nat → α) (i : Nat) : Nat → α := fun j => if j < i then f j else g j
theorem mix_0 {α : Type} (f g : Nat → α) : mix f g 0 = g := funext fun j => if_neg (Nat.not_lt_zero j)
theorem mix_i {f g : Nat → Int32} {i : Nat} : upd (mix f g i) i (f i) = mix f g (i + 1) := by
  funext j
  unfold upd mix
  by_cases h : j = i
  · subst h; rw [if_pos rfl, if_pos (by omega)]
  · rw [if_neg h]
    by_cases h2 : j < i
    · rw [if_pos h2, if_pos (by omega)]
    · rw [if_neg h2, if_neg (by omega)]
theorem mix_l {f g : Nat → Int64} {i : Nat} : vp_updL (mix f g i) i (f i) = mix f g (i + 1) := by
  funext j
  unfold vp_updL mix
  by_cases h : j = i
  · subst h; rw [if_pos rfl, if_pos (by omega)]
  · rw [if_neg h]
    by_cases h2 : j < i
    · rw [if_pos h2, if_pos (by omega)]
    · rw [if_neg h2, if_neg (by omega)]
abbrev wC (a : Nat → Nat) (cI cJ : ClassId) (F G : mS) : va_W := [
  (a 0, .inr (10, [.ref (a 2), .ref (a 3), .ref (a 4), .ref (a 5)])), (a 1, .inr (10, [.ref (a 6), .ref (a 7), .ref (a 8), .ref (a 9)])),
  (a 2, .inl (cI, 17, .inl G.1)), (a 3, .inl (cI, 640, .inl G.2.1)), (a 4, .inl (cI, 16384, .inl G.2.2.1)), (a 5, .inl (cJ, 7, .inr (.inl G.2.2.2))),
  (a 6, .inl (cI, 17, .inl F.1)), (a 7, .inl (cI, 640, .inl F.2.1)), (a 8, .inl (cI, 16384, .inl F.2.2.1)), (a 9, .inl (cJ, 7, .inr (.inl F.2.2.2)))]
def wcA (a : Nat → Nat) (sz : Nat) : Nat → Prop := fun q => (∃ i, i < 10 ∧ q = a i) ∨ sz ≤ q
def wcI (a : Nat → Nat) : Prop := ∀ i j, i < 10 → j < 10 → a i = a j → i = j
theorem wC_at {a : Nat → Nat} {cI cJ : ClassId} {F G : mS} : ∀ (i : Nat) (p : Nat × va_E), (wC a cI cJ F G)[i]? = some p → i < 10 ∧ p.1 = a i
  | 0, p, h => by cases h; exact ⟨by decide, rfl⟩
  | 1, p, h => by cases h; exact ⟨by decide, rfl⟩
  | 2, p, h => by cases h; exact ⟨by decide, rfl⟩
  | 3, p, h => by cases h; exact ⟨by decide, rfl⟩
  | 4, p, h => by cases h; exact ⟨by decide, rfl⟩
  | 5, p, h => by cases h; exact ⟨by decide, rfl⟩
  | 6, p, h => by cases h; exact ⟨by decide, rfl⟩
  | 7, p, h => by cases h; exact ⟨by decide, rfl⟩
  | 8, p, h => by cases h; exact ⟨by decide, rfl⟩
  | 9, p, h => by cases h; exact ⟨by decide, rfl⟩
  | n + 10, p, h => by cases h
theorem wC_D {a : Nat → Nat} {cI cJ : ClassId} (hi : wcI a) (sz : Nat) (F G : mS) : va_D (wcA a sz) (wC a cI cJ F G) := by
  refine ⟨fun i j p q h1 h2 h3 => ?_, fun k q h => ?_⟩
  · obtain ⟨a1, a2⟩ := wC_at i p h1
    obtain ⟨b1, b2⟩ := wC_at j q h2
    exact hi i j a1 b1 (by rw [← a2, ← b2]; exact h3)
  · obtain ⟨a1, a2⟩ := wC_at k q h
    exact Or.inl ⟨k, a1, a2⟩
def cpS (F G : mS) : mS := (mix F.1 G.1 17, mix F.2.1 G.2.1 640, mix F.2.2.1 G.2.2.1 16384, mix F.2.2.2 G.2.2.2 7)
def cpPc (a : Nat → Nat) (D : va_G) (cI cJ : ClassId) (F G : mS) (sz : Nat) : Array Value → State → Prop := va_Pc [.ref (a 0), .ref (a 1)] (fun U => U.heap.size = sz ∧ va_P D vwCl (wC a cI cJ F G) U.heap ∧ va_K D vwCl [(cI, .int), (cJ, .long)] U)
def cpQ (D : va_G) (cI cJ : ClassId) (a : Nat → Nat) (F G : mS) (sz : Nat) : Array Value → State → Outcome → State → Prop := fun _ st o t => o = .returned none ∧ va_P D vwCl (wC a cI cJ F G) t.heap ∧ va_F (wcA a sz) st t

set_option maxHeartbeats 4000000 in
set_option maxRecDepth 100000 in
theorem c_copy (l : Launch) (D : va_G) (cI cJ : ClassId) (a : Nat → Nat) (F G : mS) (sz : Nat) (hi : wcI a) : Met l yX12_copy wsX12_copy rmZ (cpPc a D cI cJ F G sz) (cpQ D cI cJ a F (cpS F G) sz) 0 0 (wcA a sz) := by
  refine Met.ofW (cc := cX12_copy) (maxL := 3) (ret := none) (by decide) rfl ?_
  intro p e s m args below meth c s₁ B hml hv
  obtain ⟨rfl, hsz, hP, hK⟩ := hv
  subst hsz
  have hx := B.exec
  have hb := B.bytes
  have hr := B.returns
  have hlocks := B.notSynchronized
  have hts := atoms_spec (ws := wsX12_copy) B.pre
  have hown : s.vm.findClass RX12 = some m.cls := findClass_of_methodNamed B.named
  have hl := lv_entry ([.ref (a 0), .ref (a 1)]) (n := 3) (Nat.le_of_ble_eq_true rfl)
  rw [lg_entry_eq]
  generalize (lg_sl ([.ref (a 0), .ref (a 1)]) ++ List.replicate (3 - (lg_sl ([.ref (a 0), .ref (a 1)])).length) Slot.unset).toArray = ls at hl ⊢
  have hl : lv_has ls 3 [(0, .ref (a 0)), (1, .ref (a 1))] := hl
  have hS : va_S (wcA a s.heap.size) s.heap s.heap [] := va_S.rf
  have h12 : ∀ w ∈ wsX120, w ∈ wsX12_copy := by decide +kernel
  have loop3 : ∀ (n i : Nat) (H : Heap) (locs : List Loc) (ls : Array Slot), i + n = 7 → va_P D vwCl (wC a cI cJ F (mix F.1 G.1 17, mix F.2.1 G.2.1 640, mix F.2.2.1 G.2.2.1 16384, mix F.2.2.2 G.2.2.2 i)) H → va_S (wcA a s.heap.size) s.heap H locs → lv_has ls 3 [(2, .int (nI i)), (0, .ref (a 0)), (1, .ref (a 1))] → W p l e rmZ s m [.ref (a 0), .ref (a 1)].toArray below meth c H locs 0 0 (MQ below (cpQ D cI cJ a F (cpS F G) s.heap.size) [.ref (a 0), .ref (a 1)].toArray s 0 0 (wcA a s.heap.size)) (F0 m 89 ls []) := by
    intro n
    induction n with
    | zero =>
      intro i H locs ls hn hP hS hl
      obtain rfl : 7 = i := by omega
      refine lv_iload_n hx hb dX12_copy_89 rfl (lv_at hl 0 rfl) ?_
      refine lv_aload_n hx hb dX12_copy_90 rfl (lv_at hl 1 rfl) ?_
      refine va_get (D := D) (ci := 10) (v := .ref (a 5)) (C := RX12) (T := TX12) (N := 4) hx hb hts h12 hown hK hP 0 rfl rfl 3 (by decide) (hts (.fieldLink RX12 21 "PledgeHouseModel$State" "coins" "[J") (by decide +kernel)) (fun _ h9 => h9) rfl dX12_copy_91 ?_
      refine va_alen hx hb hK hP 5 1 rfl rfl (v := 7) rfl dX12_copy_94 ?_
      refine lv_icmp_ge (tgt := 116) hx hb dX12_copy_95 (by decide) (fun c_1 => ?_) (fun c_1 => ?_)
      · exact W.vret hx hb hr (fun t2 ht2 hW => ⟨rfl, by rw [ht2]; exact hP, hS.F ht2⟩) hS.2.2 dX12_copy_116 hlocks
      · exact absurd (show (7 : Int32) ≤ nI 7 by decide) c_1
    | succ n ih =>
      intro i H locs ls hn hP hS hl
      refine lv_iload_n hx hb dX12_copy_89 rfl (lv_at hl 0 rfl) ?_
      refine lv_aload_n hx hb dX12_copy_90 rfl (lv_at hl 1 rfl) ?_
      refine va_get (D := D) (ci := 10) (v := .ref (a 5)) (C := RX12) (T := TX12) (N := 4) hx hb hts h12 hown hK hP 0 rfl rfl 3 (by decide) (hts (.fieldLink RX12 21 "PledgeHouseModel$State" "coins" "[J") (by decide +kernel)) (fun _ h9 => h9) rfl dX12_copy_91 ?_
      refine va_alen hx hb hK hP 5 1 rfl rfl (v := 7) rfl dX12_copy_94 ?_
      refine lv_icmp_ge (tgt := 116) hx hb dX12_copy_95 (by decide) (fun c_1 => ?_) (fun c_1 => ?_)
      · exact absurd ((nI_leI (a := 7) (b := i) (by omega) (by omega)).mp c_1) (by omega)
      · refine lv_aload_n hx hb dX12_copy_98 rfl (lv_at hl 1 rfl) ?_
        refine va_get (D := D) (ci := 10) (v := .ref (a 5)) (C := RX12) (T := TX12) (N := 4) hx hb hts h12 hown hK hP 0 rfl rfl 3 (by decide) (hts (.fieldLink RX12 21 "PledgeHouseModel$State" "coins" "[J") (by decide +kernel)) (fun _ h9 => h9) rfl dX12_copy_99 ?_
        refine lv_iload_n hx hb dX12_copy_102 rfl (lv_at hl 0 rfl) ?_
        refine lv_aload_n hx hb dX12_copy_103 rfl (lv_at hl 2 rfl) ?_
        refine va_get (D := D) (ci := 10) (v := .ref (a 9)) (C := RX12) (T := TX12) (N := 4) hx hb hts h12 hown hK hP 1 rfl rfl 3 (by decide) (hts (.fieldLink RX12 21 "PledgeHouseModel$State" "coins" "[J") (by decide +kernel)) (fun _ h9 => h9) rfl dX12_copy_104 ?_
        refine lv_iload_n hx hb dX12_copy_107 rfl (lv_at hl 0 rfl) ?_
        refine x_lald hx hb hK hP 9 1 rfl rfl i rfl (by omega) (by decide) dX12_copy_108 ?_
        refine x_last hx hb hK hP (wC_D hi s.heap.size _ _) hS 5 1 rfl rfl i rfl (by omega) (by decide) dX12_copy_109 (fun H locs hP hS => ?_)
        have hP : va_P D vwCl (wC a cI cJ F (mix F.1 G.1 17, mix F.2.1 G.2.1 640, mix F.2.2.1 G.2.2.1 16384, mix F.2.2.2 G.2.2.2 (i + 1))) H := by rw [← mix_l (f := F.2.2.2) (g := G.2.2.2) (i := i)]; exact hP
        refine lv_iinc (v := (nI i) + 1) (lv' := [(2, .int ((nI i) + 1)), (0, .ref (a 0)), (1, .ref (a 1))]) hx hb dX12_copy_110 hl (k := 0) rfl rfl (by decide) rfl (fun ls hl => ?_)
        refine lv_goto (tgt := 89) hx hb dX12_copy_113 (by decide) ?_
        rw [nI_1] at hl
        exact ih (i + 1) H locs ls (by omega) hP hS hl
  have loop2 : ∀ (n i : Nat) (H : Heap) (locs : List Loc) (ls : Array Slot), i + n = 16384 → va_P D vwCl (wC a cI cJ F (mix F.1 G.1 17, mix F.2.1 G.2.1 640, mix F.2.2.1 G.2.2.1 i, G.2.2.2)) H → va_S (wcA a s.heap.size) s.heap H locs → lv_has ls 3 [(2, .int (nI i)), (0, .ref (a 0)), (1, .ref (a 1))] → W p l e rmZ s m [.ref (a 0), .ref (a 1)].toArray below meth c H locs 0 0 (MQ below (cpQ D cI cJ a F (cpS F G) s.heap.size) [.ref (a 0), .ref (a 1)].toArray s 0 0 (wcA a s.heap.size)) (F0 m 60 ls []) := by
    intro n
    induction n with
    | zero =>
      intro i H locs ls hn hP hS hl
      obtain rfl : 16384 = i := by omega
      refine lv_iload_n hx hb dX12_copy_60 rfl (lv_at hl 0 rfl) ?_
      refine lv_aload_n hx hb dX12_copy_61 rfl (lv_at hl 1 rfl) ?_
      refine va_get (D := D) (ci := 10) (v := .ref (a 4)) (C := RX12) (T := TX12) (N := 4) hx hb hts h12 hown hK hP 0 rfl rfl 2 (by decide) (hts (.fieldLink RX12 18 "PledgeHouseModel$State" "ticket" "[I") (by decide +kernel)) (fun _ h9 => h9) rfl dX12_copy_62 ?_
      refine va_alen hx hb hK hP 4 0 rfl rfl (v := 16384) rfl dX12_copy_65 ?_
      refine lv_icmp_ge (tgt := 87) hx hb dX12_copy_66 (by decide) (fun c_1 => ?_) (fun c_1 => ?_)
      · refine lv_iconst (v := 0) hx hb dX12_copy_87 (by decide) ?_
        refine lv_istore_n (lv' := [(2, .int 0), (0, .ref (a 0)), (1, .ref (a 1))]) hx hb dX12_copy_88 rfl hl (by decide) rfl (fun ls hl => ?_)
        exact loop3 7 0 H locs ls (by omega) (by rw [mix_0]; exact hP) hS hl
      · exact absurd (show (16384 : Int32) ≤ nI 16384 by decide) c_1
    | succ n ih =>
      intro i H locs ls hn hP hS hl
      refine lv_iload_n hx hb dX12_copy_60 rfl (lv_at hl 0 rfl) ?_
      refine lv_aload_n hx hb dX12_copy_61 rfl (lv_at hl 1 rfl) ?_
      refine va_get (D := D) (ci := 10) (v := .ref (a 4)) (C := RX12) (T := TX12) (N := 4) hx hb hts h12 hown hK hP 0 rfl rfl 2 (by decide) (hts (.fieldLink RX12 18 "PledgeHouseModel$State" "ticket" "[I") (by decide +kernel)) (fun _ h9 => h9) rfl dX12_copy_62 ?_
      refine va_alen hx hb hK hP 4 0 rfl rfl (v := 16384) rfl dX12_copy_65 ?_
      refine lv_icmp_ge (tgt := 87) hx hb dX12_copy_66 (by decide) (fun c_1 => ?_) (fun c_1 => ?_)
      · exact absurd ((nI_leI (a := 16384) (b := i) (by omega) (by omega)).mp c_1) (by omega)
      · refine lv_aload_n hx hb dX12_copy_69 rfl (lv_at hl 1 rfl) ?_
        refine va_get (D := D) (ci := 10) (v := .ref (a 4)) (C := RX12) (T := TX12) (N := 4) hx hb hts h12 hown hK hP 0 rfl rfl 2 (by decide) (hts (.fieldLink RX12 18 "PledgeHouseModel$State" "ticket" "[I") (by decide +kernel)) (fun _ h9 => h9) rfl dX12_copy_70 ?_
        refine lv_iload_n hx hb dX12_copy_73 rfl (lv_at hl 0 rfl) ?_
        refine lv_aload_n hx hb dX12_copy_74 rfl (lv_at hl 2 rfl) ?_
        refine va_get (D := D) (ci := 10) (v := .ref (a 8)) (C := RX12) (T := TX12) (N := 4) hx hb hts h12 hown hK hP 1 rfl rfl 2 (by decide) (hts (.fieldLink RX12 18 "PledgeHouseModel$State" "ticket" "[I") (by decide +kernel)) (fun _ h9 => h9) rfl dX12_copy_75 ?_
        refine lv_iload_n hx hb dX12_copy_78 rfl (lv_at hl 0 rfl) ?_
        refine x_iald hx hb hK hP 8 0 rfl rfl i rfl (by omega) (by decide) dX12_copy_79 ?_
        refine x_iast hx hb hK hP (wC_D hi s.heap.size _ _) hS 4 0 rfl rfl i rfl (by omega) (by decide) dX12_copy_80 (fun H locs hP hS => ?_)
        have hP : va_P D vwCl (wC a cI cJ F (mix F.1 G.1 17, mix F.2.1 G.2.1 640, mix F.2.2.1 G.2.2.1 (i + 1), G.2.2.2)) H := by rw [← mix_i (f := F.2.2.1) (g := G.2.2.1) (i := i)]; exact hP
        refine lv_iinc (v := (nI i) + 1) (lv' := [(2, .int ((nI i) + 1)), (0, .ref (a 0)), (1, .ref (a 1))]) hx hb dX12_copy_81 hl (k := 0) rfl rfl (by decide) rfl (fun ls hl => ?_)
        refine lv_goto (tgt := 60) hx hb dX12_copy_84 (by decide) ?_
        rw [nI_1] at hl
        exact ih (i + 1) H locs ls (by omega) hP hS hl
  have loop1 : ∀ (n i : Nat) (H : Heap) (locs : List Loc) (ls : Array Slot), i + n = 640 → va_P D vwCl (wC a cI cJ F (mix F.1 G.1 17, mix F.2.1 G.2.1 i, G.2.2.1, G.2.2.2)) H → va_S (wcA a s.heap.size) s.heap H locs → lv_has ls 3 [(2, .int (nI i)), (0, .ref (a 0)), (1, .ref (a 1))] → W p l e rmZ s m [.ref (a 0), .ref (a 1)].toArray below meth c H locs 0 0 (MQ below (cpQ D cI cJ a F (cpS F G) s.heap.size) [.ref (a 0), .ref (a 1)].toArray s 0 0 (wcA a s.heap.size)) (F0 m 31 ls []) := by
    intro n
    induction n with
    | zero =>
      intro i H locs ls hn hP hS hl
      obtain rfl : 640 = i := by omega
      refine lv_iload_n hx hb dX12_copy_31 rfl (lv_at hl 0 rfl) ?_
      refine lv_aload_n hx hb dX12_copy_32 rfl (lv_at hl 1 rfl) ?_
      refine va_get (D := D) (ci := 10) (v := .ref (a 3)) (C := RX12) (T := TX12) (N := 4) hx hb hts h12 hown hK hP 0 rfl rfl 1 (by decide) (hts (.fieldLink RX12 15 "PledgeHouseModel$State" "shelf" "[I") (by decide +kernel)) (fun _ h9 => h9) rfl dX12_copy_33 ?_
      refine va_alen hx hb hK hP 3 0 rfl rfl (v := 640) rfl dX12_copy_36 ?_
      refine lv_icmp_ge (tgt := 58) hx hb dX12_copy_37 (by decide) (fun c_1 => ?_) (fun c_1 => ?_)
      · refine lv_iconst (v := 0) hx hb dX12_copy_58 (by decide) ?_
        refine lv_istore_n (lv' := [(2, .int 0), (0, .ref (a 0)), (1, .ref (a 1))]) hx hb dX12_copy_59 rfl hl (by decide) rfl (fun ls hl => ?_)
        exact loop2 16384 0 H locs ls (by omega) (by rw [mix_0]; exact hP) hS hl
      · exact absurd (show (640 : Int32) ≤ nI 640 by decide) c_1
    | succ n ih =>
      intro i H locs ls hn hP hS hl
      refine lv_iload_n hx hb dX12_copy_31 rfl (lv_at hl 0 rfl) ?_
      refine lv_aload_n hx hb dX12_copy_32 rfl (lv_at hl 1 rfl) ?_
      refine va_get (D := D) (ci := 10) (v := .ref (a 3)) (C := RX12) (T := TX12) (N := 4) hx hb hts h12 hown hK hP 0 rfl rfl 1 (by decide) (hts (.fieldLink RX12 15 "PledgeHouseModel$State" "shelf" "[I") (by decide +kernel)) (fun _ h9 => h9) rfl dX12_copy_33 ?_
      refine va_alen hx hb hK hP 3 0 rfl rfl (v := 640) rfl dX12_copy_36 ?_
      refine lv_icmp_ge (tgt := 58) hx hb dX12_copy_37 (by decide) (fun c_1 => ?_) (fun c_1 => ?_)
      · exact absurd ((nI_leI (a := 640) (b := i) (by omega) (by omega)).mp c_1) (by omega)
      · refine lv_aload_n hx hb dX12_copy_40 rfl (lv_at hl 1 rfl) ?_
        refine va_get (D := D) (ci := 10) (v := .ref (a 3)) (C := RX12) (T := TX12) (N := 4) hx hb hts h12 hown hK hP 0 rfl rfl 1 (by decide) (hts (.fieldLink RX12 15 "PledgeHouseModel$State" "shelf" "[I") (by decide +kernel)) (fun _ h9 => h9) rfl dX12_copy_41 ?_
        refine lv_iload_n hx hb dX12_copy_44 rfl (lv_at hl 0 rfl) ?_
        refine lv_aload_n hx hb dX12_copy_45 rfl (lv_at hl 2 rfl) ?_
        refine va_get (D := D) (ci := 10) (v := .ref (a 7)) (C := RX12) (T := TX12) (N := 4) hx hb hts h12 hown hK hP 1 rfl rfl 1 (by decide) (hts (.fieldLink RX12 15 "PledgeHouseModel$State" "shelf" "[I") (by decide +kernel)) (fun _ h9 => h9) rfl dX12_copy_46 ?_
        refine lv_iload_n hx hb dX12_copy_49 rfl (lv_at hl 0 rfl) ?_
        refine x_iald hx hb hK hP 7 0 rfl rfl i rfl (by omega) (by decide) dX12_copy_50 ?_
        refine x_iast hx hb hK hP (wC_D hi s.heap.size _ _) hS 3 0 rfl rfl i rfl (by omega) (by decide) dX12_copy_51 (fun H locs hP hS => ?_)
        have hP : va_P D vwCl (wC a cI cJ F (mix F.1 G.1 17, mix F.2.1 G.2.1 (i + 1), G.2.2.1, G.2.2.2)) H := by rw [← mix_i (f := F.2.1) (g := G.2.1) (i := i)]; exact hP
        refine lv_iinc (v := (nI i) + 1) (lv' := [(2, .int ((nI i) + 1)), (0, .ref (a 0)), (1, .ref (a 1))]) hx hb dX12_copy_52 hl (k := 0) rfl rfl (by decide) rfl (fun ls hl => ?_)
        refine lv_goto (tgt := 31) hx hb dX12_copy_55 (by decide) ?_
        rw [nI_1] at hl
        exact ih (i + 1) H locs ls (by omega) hP hS hl
  have loop0 : ∀ (n i : Nat) (H : Heap) (locs : List Loc) (ls : Array Slot), i + n = 17 → va_P D vwCl (wC a cI cJ F (mix F.1 G.1 i, G.2.1, G.2.2.1, G.2.2.2)) H → va_S (wcA a s.heap.size) s.heap H locs → lv_has ls 3 [(2, .int (nI i)), (0, .ref (a 0)), (1, .ref (a 1))] → W p l e rmZ s m [.ref (a 0), .ref (a 1)].toArray below meth c H locs 0 0 (MQ below (cpQ D cI cJ a F (cpS F G) s.heap.size) [.ref (a 0), .ref (a 1)].toArray s 0 0 (wcA a s.heap.size)) (F0 m 2 ls []) := by
    intro n
    induction n with
    | zero =>
      intro i H locs ls hn hP hS hl
      obtain rfl : 17 = i := by omega
      refine lv_iload_n hx hb dX12_copy_2 rfl (lv_at hl 0 rfl) ?_
      refine lv_aload_n hx hb dX12_copy_3 rfl (lv_at hl 1 rfl) ?_
      refine va_get (D := D) (ci := 10) (v := .ref (a 2)) (C := RX12) (T := TX12) (N := 4) hx hb hts h12 hown hK hP 0 rfl rfl 0 (by decide) (hts (.fieldLink RX12 9 "PledgeHouseModel$State" "house" "[I") (by decide +kernel)) (fun _ h9 => h9) rfl dX12_copy_4 ?_
      refine va_alen hx hb hK hP 2 0 rfl rfl (v := 17) rfl dX12_copy_7 ?_
      refine lv_icmp_ge (tgt := 29) hx hb dX12_copy_8 (by decide) (fun c_1 => ?_) (fun c_1 => ?_)
      · refine lv_iconst (v := 0) hx hb dX12_copy_29 (by decide) ?_
        refine lv_istore_n (lv' := [(2, .int 0), (0, .ref (a 0)), (1, .ref (a 1))]) hx hb dX12_copy_30 rfl hl (by decide) rfl (fun ls hl => ?_)
        exact loop1 640 0 H locs ls (by omega) (by rw [mix_0]; exact hP) hS hl
      · exact absurd (show (17 : Int32) ≤ nI 17 by decide) c_1
    | succ n ih =>
      intro i H locs ls hn hP hS hl
      refine lv_iload_n hx hb dX12_copy_2 rfl (lv_at hl 0 rfl) ?_
      refine lv_aload_n hx hb dX12_copy_3 rfl (lv_at hl 1 rfl) ?_
      refine va_get (D := D) (ci := 10) (v := .ref (a 2)) (C := RX12) (T := TX12) (N := 4) hx hb hts h12 hown hK hP 0 rfl rfl 0 (by decide) (hts (.fieldLink RX12 9 "PledgeHouseModel$State" "house" "[I") (by decide +kernel)) (fun _ h9 => h9) rfl dX12_copy_4 ?_
      refine va_alen hx hb hK hP 2 0 rfl rfl (v := 17) rfl dX12_copy_7 ?_
      refine lv_icmp_ge (tgt := 29) hx hb dX12_copy_8 (by decide) (fun c_1 => ?_) (fun c_1 => ?_)
      · exact absurd ((nI_leI (a := 17) (b := i) (by omega) (by omega)).mp c_1) (by omega)
      · refine lv_aload_n hx hb dX12_copy_11 rfl (lv_at hl 1 rfl) ?_
        refine va_get (D := D) (ci := 10) (v := .ref (a 2)) (C := RX12) (T := TX12) (N := 4) hx hb hts h12 hown hK hP 0 rfl rfl 0 (by decide) (hts (.fieldLink RX12 9 "PledgeHouseModel$State" "house" "[I") (by decide +kernel)) (fun _ h9 => h9) rfl dX12_copy_12 ?_
        refine lv_iload_n hx hb dX12_copy_15 rfl (lv_at hl 0 rfl) ?_
        refine lv_aload_n hx hb dX12_copy_16 rfl (lv_at hl 2 rfl) ?_
        refine va_get (D := D) (ci := 10) (v := .ref (a 6)) (C := RX12) (T := TX12) (N := 4) hx hb hts h12 hown hK hP 1 rfl rfl 0 (by decide) (hts (.fieldLink RX12 9 "PledgeHouseModel$State" "house" "[I") (by decide +kernel)) (fun _ h9 => h9) rfl dX12_copy_17 ?_
        refine lv_iload_n hx hb dX12_copy_20 rfl (lv_at hl 0 rfl) ?_
        refine x_iald hx hb hK hP 6 0 rfl rfl i rfl (by omega) (by decide) dX12_copy_21 ?_
        refine x_iast hx hb hK hP (wC_D hi s.heap.size _ _) hS 2 0 rfl rfl i rfl (by omega) (by decide) dX12_copy_22 (fun H locs hP hS => ?_)
        have hP : va_P D vwCl (wC a cI cJ F (mix F.1 G.1 (i + 1), G.2.1, G.2.2.1, G.2.2.2)) H := by rw [← mix_i (f := F.1) (g := G.1) (i := i)]; exact hP
        refine lv_iinc (v := (nI i) + 1) (lv' := [(2, .int ((nI i) + 1)), (0, .ref (a 0)), (1, .ref (a 1))]) hx hb dX12_copy_23 hl (k := 0) rfl rfl (by decide) rfl (fun ls hl => ?_)
        refine lv_goto (tgt := 2) hx hb dX12_copy_26 (by decide) ?_
        rw [nI_1] at hl
        exact ih (i + 1) H locs ls (by omega) hP hS hl
  refine lv_iconst (v := 0) hx hb dX12_copy_0 (by decide) ?_
  refine lv_istore_n (lv' := [(2, .int 0), (0, .ref (a 0)), (1, .ref (a 1))]) hx hb dX12_copy_1 rfl hl (by decide) rfl (fun ls hl => ?_)
  exact loop0 17 0 s.heap [] ls (by omega) (by rw [mix_0]; exact hP) hS hl
