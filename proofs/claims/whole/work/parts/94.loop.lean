/-! the law's loop (by gen94.py) -/
def trN : Nat → Nat
  | 0 => 0
  | i + 1 => trN i + i
theorem trN_sq : ∀ i, 2 * trN i + i = i * i
  | 0 => rfl
  | i + 1 => by
    have h := trN_sq i
    have e : (i + 1) * (i + 1) = i * i + 2 * i + 1 := by rw [Nat.add_mul, Nat.mul_add, Nat.one_mul, Nat.mul_one]; omega
    rw [e]
    unfold trN
    omega
theorem trN_le {i : Nat} (h : i ≤ 512) : trN i ≤ 131072 := by
  have e := trN_sq i
  have := Nat.mul_le_mul h h
  omega
section LOOP
variable {p : Program} {l : Launch} {e : Env} {s : State} {m : MethodId} {below : List Frame} {meth : Method} {c : Code} {H : Heap} {cells slots : Nat} {ls : Array Slot} {rest : List Value} {locs : List Loc}
variable {D : va_G} {cs : Nat → ClassId} {b L o i : Nat} {xs : Nat → Int32} {a1 a2 k r ad : Nat → Nat} {F : mZ} {rL rG sL sG : Nat}
set_option maxHeartbeats 8000000 in
set_option maxRecDepth 100000 in
theorem lw_loop (hret : meth.sig.returnType = ret) (hlocks : meth.locks = false) (X : LC p s m c b L xs D cs ad rL rG sL sG) (hL : L ≤ 2048) : ∀ (n i : Nat) (F : mZ) (H : Heap) (locs : List Loc) (ls : Array Slot) (cells slots : Nat), i + n = L / 4 → LI D cs o a1 a2 k r ad s.heap.size i F H → va_S (fun x => s.heap.size ≤ x) s.heap H locs → lv_has ls 4 (lvL b o ad i) → cells ≤ 540 + 4 * i + 3 * trN i → slots ≤ 141630 + 31 * i + 31 * trN i → W p l e room_1 s m #[Value.ref b] below meth c H locs cells slots (lw_Z below #[Value.ref b] s) (F0 m 18 ls []) := by
  intro n
  have S := X.1
  obtain ⟨hx, hb, hml, hown, hts⟩ := id S
  induction n with
  | zero =>
    intro i F H locs ls cells slots hin hI hS hl hc hs
    have ht := trN_le (i := i) (by omega)
    refine lv_iload_n hx hb dL_law_18 rfl (lv_at hl 3 rfl) ?_
    refine lv_aload_n hx hb dL_law_19 rfl (lv_at hl 0 rfl) ?_
    refine va_slen hx hb X.2.2.2.1.1 X.2.2.2.1.2 (Nat.not_le.mpr X.2.2.2.1.2) hS dL_law_20 ?_
    refine lv_iconst (v := 4) hx hb dL_law_21 (by decide) ?_
    refine lv_isub hx hb dL_law_22 ?_
    have hg : Int32.ofNat L - 4 < nI (4 * i) := by
      rw [Int32.lt_iff_toInt_lt, nI_toInt (by omega)]
      have e : (nI L - nI 4).toInt = (L : Int) - 4 := pk_sub_toInt (a := L) (b := 4) (by omega) (by omega)
      have e2 : (Int32.ofNat L - 4).toInt = (L : Int) - 4 := e
      rw [e2]
      omega
    refine lv_icmp_gt (tgt := 1191) hx hb dL_law_23 (by decide) (fun _ => ?_) (fun h => absurd hg h)
    refine lv_iconst (v := 1) hx hb dL_law_1191 (by decide) ?_
    refine W.widen (k := 600000) (n := 7302250) (by omega) (by omega) ?_
    refine W.forget (locs := []) (L := locs) (fun q hq => hS.2.2 q hq) ?_
    exact lw_ret (d0 := s.drawn) (Drawn.sameBut.refl s.drawn lw_cs) hx hb hret hlocks dL_law_1192
  | succ n ih =>
    intro i F H locs ls cells slots hin hI hS hl hc hs
    have ht := trN_le (i := i) (by omega)
    have hi : 4 * i + 4 ≤ L := by omega
    have hc2 : cells + 3 * i + 4 ≤ 600000 := by omega
    have hs2 : slots + 31 * i + 31 ≤ 7302250 := by omega
    have kk : ∀ (F1 : mZ) (H1 : Heap) (locs1 : List Loc) (c1 s1 : Nat), LI D cs o a1 a2 k r ad s.heap.size (i + 1) F1 H1 → va_S (fun x => s.heap.size ≤ x) s.heap H1 locs1 → c1 ≤ cells + 3 * i + 4 → s1 ≤ slots + 31 * i + 31 → W p l e room_1 s m #[Value.ref b] below meth c H1 locs1 c1 s1 (lw_Z below #[Value.ref b] s) (F0 m 1185 ls []) := fun F1 H1 locs1 c1 s1 hI1 hS1 h1 h2 => by
      refine lv_iinc (lv' := [(3, .int (nI (4 * (i + 1)))), (0, .ref b), (1, .ref o), (2, .ref (ad 0))]) hx hb dL_law_1185 hl (k := 3) rfl (by show nI (4 * i) + nI 4 = nI (4 * (i + 1)); rw [nI_add]; exact congrArg nI (by omega)) (by decide) rfl (fun ls' hl' => ?_)
      refine lv_goto (tgt := 18) hx hb dL_law_1188 (by decide) ?_
      refine ih (i + 1) F1 H1 locs1 ls' c1 s1 (by omega) hI1 hS1 (lv_sub hl' [1, 2, 3, 0] rfl) ?_ ?_
      · unfold trN; omega
      · unfold trN; omega
    refine lv_iload_n hx hb dL_law_18 rfl (lv_at hl 3 rfl) ?_
    refine lv_aload_n hx hb dL_law_19 rfl (lv_at hl 0 rfl) ?_
    refine va_slen hx hb X.2.2.2.1.1 X.2.2.2.1.2 (Nat.not_le.mpr X.2.2.2.1.2) hS dL_law_20 ?_
    refine lv_iconst (v := 4) hx hb dL_law_21 (by decide) ?_
    refine lv_isub hx hb dL_law_22 ?_
    have hg : ¬ Int32.ofNat L - 4 < nI (4 * i) := by
      rw [Int32.lt_iff_toInt_lt, nI_toInt (by omega)]
      have e : (nI L - nI 4).toInt = (L : Int) - 4 := pk_sub_toInt (a := L) (b := 4) (by omega) (by omega)
      have e2 : (Int32.ofNat L - 4).toInt = (L : Int) - 4 := e
      rw [e2]
      omega
    refine lv_icmp_gt (tgt := 1191) hx hb dL_law_23 (by decide) (fun h => absurd h hg) (fun _ => ?_)
    refine lv_aload_n hx hb dL_law_26 rfl (lv_at hl 0 rfl) ?_
    refine lv_iload_n hx hb dL_law_27 rfl (lv_at hl 3 rfl) ?_
    refine va_sld hx hb X.2.2.2.1.1 X.2.2.2.1.2 (Nat.not_le.mpr X.2.2.2.1.2) hS (vp_in_nI (by omega) (by omega)) dL_law_28 ?_
    refine lv_bipush (v := 63) hx hb dL_law_29 (by decide) ?_
    refine lv_iand hx hb dL_law_31 ?_
    obtain ⟨j, hj, ej⟩ := pk_andE (xs (nI (4 * i)).toNatClampNeg) (m := 63) 6 (by decide)
    rw [ej]
    by_cases c34 : 34 ≤ j
    · refine lv_tableOut (tgt := 1185) hx hb dL_law_32 (Or.inr (by rw [nI_toInt (by omega)]; omega)) (by decide) ?_
      exact kk F H locs cells slots ⟨hI.1, gT_up hI.2.1 (Nat.le_succ _), hI.2.2⟩ hS (by omega) (by omega)
    · have hj34 : j = 0 ∨ j = 1 ∨ j = 2 ∨ j = 3 ∨ j = 4 ∨ j = 5 ∨ j = 6 ∨ j = 7 ∨ j = 8 ∨ j = 9 ∨ j = 10 ∨ j = 11 ∨ j = 12 ∨ j = 13 ∨ j = 14 ∨ j = 15 ∨ j = 16 ∨ j = 17 ∨ j = 18 ∨ j = 19 ∨ j = 20 ∨ j = 21 ∨ j = 22 ∨ j = 23 ∨ j = 24 ∨ j = 25 ∨ j = 26 ∨ j = 27 ∨ j = 28 ∨ j = 29 ∨ j = 30 ∨ j = 31 ∨ j = 32 ∨ j = 33 := by omega
      rcases hj34 with rfl | rfl | rfl | rfl | rfl | rfl | rfl | rfl | rfl | rfl | rfl | rfl | rfl | rfl | rfl | rfl | rfl | rfl | rfl | rfl | rfl | rfl | rfl | rfl | rfl | rfl | rfl | rfl | rfl | rfl | rfl | rfl | rfl | rfl
      · exact lv_tableIn (off := 152) (tgt := 184) hx hb dL_law_32 (by decide) (by decide) rfl (by decide) (lwc_day X hl hi hL hI hS hc2 hs2 kk)
      · exact lv_tableIn (off := 175) (tgt := 207) hx hb dL_law_32 (by decide) (by decide) rfl (by decide) (lwc_rule X hl hi hL hI hS hc2 hs2 kk)
      · exact lv_tableIn (off := 208) (tgt := 240) hx hb dL_law_32 (by decide) (by decide) rfl (by decide) (lwc_thing X hl hi hL hI hS hc2 hs2 kk)
      · exact lv_tableIn (off := 241) (tgt := 273) hx hb dL_law_32 (by decide) (by decide) rfl (by decide) (lwc_gold X hl hi hL hI hS hc2 hs2 kk)
      · exact lv_tableIn (off := 292) (tgt := 324) hx hb dL_law_32 (by decide) (by decide) rfl (by decide) (lwc_coat X hl hi hL hI hS hc2 hs2 kk)
      · exact lv_tableIn (off := 335) (tgt := 367) hx hb dL_law_32 (by decide) (by decide) rfl (by decide) (lwc_rare X hl hi hL hI hS hc2 hs2 kk)
      · exact lv_tableIn (off := 376) (tgt := 408) hx hb dL_law_32 (by decide) (by decide) rfl (by decide) (lwc_second X hl hi hL hI hS hc2 hs2 kk)
      · exact lv_tableIn (off := 409) (tgt := 441) hx hb dL_law_32 (by decide) (by decide) rfl (by decide) (lwc_item X hl hi hL hI hS hc2 hs2 kk)
      · exact lv_tableIn (off := 442) (tgt := 474) hx hb dL_law_32 (by decide) (by decide) rfl (by decide) (lwc_box X hl hi hL hI hS hc2 hs2 kk)
      · exact lv_tableIn (off := 465) (tgt := 497) hx hb dL_law_32 (by decide) (by decide) rfl (by decide) (lwc_away X hl hi hL hI hS hc2 hs2 kk)
      · exact lv_tableIn (off := 488) (tgt := 520) hx hb dL_law_32 (by decide) (by decide) rfl (by decide) (lwc_lend X hl hi hL hI hS hc2 hs2 kk)
      · exact lv_tableIn (off := 531) (tgt := 563) hx hb dL_law_32 (by decide) (by decide) rfl (by decide) (lwc_tear X hl hi hL hI hS hc2 hs2 kk)
      · exact lv_tableIn (off := 564) (tgt := 596) hx hb dL_law_32 (by decide) (by decide) rfl (by decide) (lwc_oath X hl hi hL hI hS hc2 hs2 kk)
      · exact lv_tableIn (off := 587) (tgt := 619) hx hb dL_law_32 (by decide) (by decide) rfl (by decide) (lwc_pay X hl hi hL hI hS hc2 hs2 kk)
      · exact lv_tableIn (off := 630) (tgt := 662) hx hb dL_law_32 (by decide) (by decide) rfl (by decide) (lwc_renew X hl hi hL hI hS hc2 hs2 kk)
      · exact lv_tableIn (off := 673) (tgt := 705) hx hb dL_law_32 (by decide) (by decide) rfl (by decide) (lwc_undo X hl hi hL hI hS hc2 hs2 kk)
      · exact lv_tableIn (off := 696) (tgt := 728) hx hb dL_law_32 (by decide) (by decide) rfl (by decide) (lwc_redeem X hl hi hL hI hS hc2 hs2 kk)
      · exact lv_tableIn (off := 739) (tgt := 771) hx hb dL_law_32 (by decide) (by decide) rfl (by decide) (lwc_out X hl hi hL hI hS hc2 hs2 kk)
      · exact lv_tableIn (off := 782) (tgt := 814) hx hb dL_law_32 (by decide) (by decide) rfl (by decide) (lwc_forfeit X hl hi hL hI hS hc2 hs2 kk)
      · exact lv_tableIn (off := 805) (tgt := 837) hx hb dL_law_32 (by decide) (by decide) rfl (by decide) (lwc_bid X hl hi hL hI hS hc2 hs2 kk)
      · exact lv_tableIn (off := 838) (tgt := 870) hx hb dL_law_32 (by decide) (by decide) rfl (by decide) (lwc_sale X hl hi hL hI hS hc2 hs2 kk)
      · exact lv_tableIn (off := 861) (tgt := 893) hx hb dL_law_32 (by decide) (by decide) rfl (by decide) (lwc_fetch X hl hi hL hI hS hc2 hs2 kk)
      · exact lv_tableIn (off := 894) (tgt := 926) hx hb dL_law_32 (by decide) (by decide) rfl (by decide) (lwc_claim X hl hi hL hI hS hc2 hs2 kk)
      · exact lv_tableIn (off := 917) (tgt := 949) hx hb dL_law_32 (by decide) (by decide) rfl (by decide) (lwc_drop X hl hi hL hI hS hc2 hs2 kk)
      · exact lv_tableIn (off := 940) (tgt := 972) hx hb dL_law_32 (by decide) (by decide) rfl (by decide) (lwc_prove X hl hi hL hI hS hc2 hs2 kk)
      · exact lv_tableIn (off := 963) (tgt := 995) hx hb dL_law_32 (by decide) (by decide) rfl (by decide) (lwc_image X hl hi hL hI hS hc2 hs2 kk)
      · exact lv_tableIn (off := 976) (tgt := 1008) hx hb dL_law_32 (by decide) (by decide) rfl (by decide) (lwc_back X hl hi hL hI hS hc2 hs2 kk)
      · exact lv_tableIn (off := 989) (tgt := 1021) hx hb dL_law_32 (by decide) (by decide) rfl (by decide) (lwc_place X hl hi hL hI hS hc2 hs2 kk)
      · exact lv_tableIn (off := 1023) (tgt := 1055) hx hb dL_law_32 (by decide) (by decide) rfl (by decide) (lwc_told X hl hi hL hI hS hc2 hs2 kk)
      · exact lv_tableIn (off := 1056) (tgt := 1088) hx hb dL_law_32 (by decide) (by decide) rfl (by decide) (lwc_half X hl hi hL hI hS hc2 hs2 kk)
      · exact lv_tableIn (off := 1069) (tgt := 1101) hx hb dL_law_32 (by decide) (by decide) rfl (by decide) (lwc_sum X hl hi hL hI hS hc2 hs2 kk)
      · exact lv_tableIn (off := 1093) (tgt := 1125) hx hb dL_law_32 (by decide) (by decide) rfl (by decide) (lwc_as X hl hi hL hI hS hc2 hs2 kk)
      · exact lv_tableIn (off := 1127) (tgt := 1159) hx hb dL_law_32 (by decide) (by decide) rfl (by decide) (lwc_check X hl hi hL hI hS hc2 hs2 kk)
      · exact lv_tableIn (off := 1140) (tgt := 1172) hx hb dL_law_32 (by decide) (by decide) rfl (by decide) (lwc_status X hl hi hL hI hS hc2 hs2 kk)
end LOOP
