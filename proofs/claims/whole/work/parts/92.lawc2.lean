/-! the law's cases (by law.py) -/
section LCA2
variable {p : Program} {l : Launch} {e : Env} {s : State} {m : MethodId} {below : List Frame} {meth : Method} {c : Code} {H : Heap} {cells slots : Nat} {Q : State → Prop} {ls : Array Slot} {rest : List Value} {locs : List Loc}
variable {D : va_G} {cs : Nat → ClassId} {b L o i : Nat} {xs : Nat → Int32} {a1 a2 k r ad : Nat → Nat} {F : mZ} {rL rG sL sG : Nat}
set_option maxHeartbeats 4000000 in
set_option maxRecDepth 100000 in
theorem lwc_oath (X : LC p s m c b L xs D cs ad rL rG sL sG) (hl : lv_has ls 4 (lvL b o ad i)) (hi : 4 * i + 4 ≤ L) (hL : L ≤ 2048) (hI : LI D cs o a1 a2 k r ad s.heap.size i F H) (hS : va_S (fun x => s.heap.size ≤ x) s.heap H locs) (hc : cells + 3 * i + 4 ≤ 600000) (hs : slots + 31 * i + 31 ≤ 7302250)
    (kk : ∀ (F1 : mZ) (H1 : Heap) (locs1 : List Loc) (c1 s1 : Nat), LI D cs o a1 a2 k r ad s.heap.size (i + 1) F1 H1 → va_S (fun x => s.heap.size ≤ x) s.heap H1 locs1 → c1 ≤ cells + 3 * i + 4 → s1 ≤ slots + 31 * i + 31 → W p l e room_1 s m #[Value.ref b] below meth c H1 locs1 c1 s1 Q (F0 m 1185 ls [])) : W p l e room_1 s m #[Value.ref b] below meth c H locs cells slots Q (F0 m 596 ls []) := by
  have S := X.1
  obtain ⟨hx, hb, hml, hown, hts⟩ := id S
  have hq := gT_ask hI.2.1 (by omega)
  have had := X.2.2.2.2.1
  have hfl := X.2.2.2.2.2.2.2.2
  refine lv_aload_n hx hb dL_law_596 rfl (lv_at hl 1 rfl) ?_
  refine lw_arg (jn := 0) 1 (by decide) X hl hi hL hS (v := 1) rfl dL_law_597 dL_law_598 (fun w => lv_iconst (v := 1) hx hb dL_law_599 (by decide) w) dL_law_600 dL_law_601 ?_
  refine lw_cls (q := sp_oath F (xs (4 * i + 1))) S X.2.1 hI hS (As := [.int (xs (4 * i + 1))]) (rest := []) (cC_X11_oath l D cs o a1 a2 k r (fzL s.heap.size ad) i F _ (by omega) (xs (4 * i + 1))) (cwV 1 hts gL_law_X11_oath rfl rfl rfl (by decide +kernel) ⟨Nat.le_of_ble_eq_true rfl, Nat.le_of_ble_eq_true rfl⟩) rfl hl.1 rfl (Nat.le_of_ble_eq_true rfl) dL_law_602 ⟨show cells + 0 ≤ 600000 by omega, show slots + 0 ≤ 7302250 by omega⟩ (fun H1 locs1 hG hS => ?_)
  refine lv_aload_n hx hb dL_law_605 rfl (lv_at hl 2 rfl) ?_
  refine lw_arg (jn := 0) 1 (by decide) X hl hi hL hS (v := 1) rfl dL_law_606 dL_law_607 (fun w => lv_iconst (v := 1) hx hb dL_law_608 (by decide) w) dL_law_609 dL_law_610 ?_
  refine lw_mod (v := .int (sp_oath F (xs (4 * i + 1))).1) (F' := (sp_oath F (xs (4 * i + 1))).2) S X.2.2.1 hG.1 hG.2.1 hG.2.2 had.2 hS (As := [.int (xs (4 * i + 1))]) (rest := [(.int (sp_oath F (xs (4 * i + 1))).1)]) (cM_oath l D (cs 0) (cs 1) ad F _ had.1 (xs (4 * i + 1)) hq.1) (cwV 1 hts gL_law_X13_oath rfl rfl rfl (by decide +kernel) ⟨Nat.le_of_ble_eq_true rfl, Nat.le_of_ble_eq_true rfl⟩) rfl hl.1 rfl (Nat.le_of_ble_eq_true rfl) dL_law_611 ⟨show cells + 0 + 0 ≤ 600000 by omega, show slots + 0 + 0 ≤ 7302250 by omega⟩ (fun H2 locs2 hI2 hS2 => ?_)
  refine lv_icmp_eq (tgt := 1185) hx hb dL_law_614 (by decide) (fun _ => ?_) (fun h => absurd rfl h)
  exact kk _ H2 locs2 _ _ hI2 hS2 (by omega) (by omega)
set_option maxHeartbeats 4000000 in
set_option maxRecDepth 100000 in
theorem lwc_pay (X : LC p s m c b L xs D cs ad rL rG sL sG) (hl : lv_has ls 4 (lvL b o ad i)) (hi : 4 * i + 4 ≤ L) (hL : L ≤ 2048) (hI : LI D cs o a1 a2 k r ad s.heap.size i F H) (hS : va_S (fun x => s.heap.size ≤ x) s.heap H locs) (hc : cells + 3 * i + 4 ≤ 600000) (hs : slots + 31 * i + 31 ≤ 7302250)
    (kk : ∀ (F1 : mZ) (H1 : Heap) (locs1 : List Loc) (c1 s1 : Nat), LI D cs o a1 a2 k r ad s.heap.size (i + 1) F1 H1 → va_S (fun x => s.heap.size ≤ x) s.heap H1 locs1 → c1 ≤ cells + 3 * i + 4 → s1 ≤ slots + 31 * i + 31 → W p l e room_1 s m #[Value.ref b] below meth c H1 locs1 c1 s1 Q (F0 m 1185 ls [])) : W p l e room_1 s m #[Value.ref b] below meth c H locs cells slots Q (F0 m 619 ls []) := by
  have S := X.1
  obtain ⟨hx, hb, hml, hown, hts⟩ := id S
  have hq := gT_ask hI.2.1 (by omega)
  have had := X.2.2.2.2.1
  have hfl := X.2.2.2.2.2.2.2.2
  refine lv_aload_n hx hb dL_law_619 rfl (lv_at hl 1 rfl) ?_
  refine lw_arg (jn := 0) 1 (by decide) X hl hi hL hS (v := 1) rfl dL_law_620 dL_law_621 (fun w => lv_iconst (v := 1) hx hb dL_law_622 (by decide) w) dL_law_623 dL_law_624 ?_
  refine lw_arg (jn := 0) 2 (by decide) X hl hi hL hS (v := 2) rfl dL_law_625 dL_law_626 (fun w => lv_iconst (v := 2) hx hb dL_law_627 (by decide) w) dL_law_628 dL_law_629 ?_
  refine lw_arg (jn := 0) 3 (by decide) X hl hi hL hS (v := 3) rfl dL_law_630 dL_law_631 (fun w => lv_iconst (v := 3) hx hb dL_law_632 (by decide) w) dL_law_633 dL_law_634 ?_
  refine lw_cls (q := sp_pay F (xs (4 * i + 1)) (xs (4 * i + 2)) (xs (4 * i + 3))) S X.2.1 hI hS (As := [.int (xs (4 * i + 1)), .int (xs (4 * i + 2)), .int (xs (4 * i + 3))]) (rest := []) (cC_X11_pay l D cs o a1 a2 k r (fzL s.heap.size ad) i F _ (by omega) (xs (4 * i + 1)) (xs (4 * i + 2)) (xs (4 * i + 3))) (cwV 3 hts gL_law_X11_pay rfl rfl rfl (by decide +kernel) ⟨Nat.le_of_ble_eq_true rfl, Nat.le_of_ble_eq_true rfl⟩) rfl hl.1 rfl (Nat.le_of_ble_eq_true rfl) dL_law_635 ⟨show cells + 0 ≤ 600000 by omega, show slots + 0 ≤ 7302250 by omega⟩ (fun H1 locs1 hG hS => ?_)
  refine lv_aload_n hx hb dL_law_638 rfl (lv_at hl 2 rfl) ?_
  refine lw_arg (jn := 0) 1 (by decide) X hl hi hL hS (v := 1) rfl dL_law_639 dL_law_640 (fun w => lv_iconst (v := 1) hx hb dL_law_641 (by decide) w) dL_law_642 dL_law_643 ?_
  refine lw_arg (jn := 0) 2 (by decide) X hl hi hL hS (v := 2) rfl dL_law_644 dL_law_645 (fun w => lv_iconst (v := 2) hx hb dL_law_646 (by decide) w) dL_law_647 dL_law_648 ?_
  refine lw_arg (jn := 0) 3 (by decide) X hl hi hL hS (v := 3) rfl dL_law_649 dL_law_650 (fun w => lv_iconst (v := 3) hx hb dL_law_651 (by decide) w) dL_law_652 dL_law_653 ?_
  refine lw_mod (v := .int (sp_pay F (xs (4 * i + 1)) (xs (4 * i + 2)) (xs (4 * i + 3))).1) (F' := (sp_pay F (xs (4 * i + 1)) (xs (4 * i + 2)) (xs (4 * i + 3))).2) S X.2.2.1 hG.1 hG.2.1 hG.2.2 had.2 hS (As := [.int (xs (4 * i + 1)), .int (xs (4 * i + 2)), .int (xs (4 * i + 3))]) (rest := [(.int (sp_pay F (xs (4 * i + 1)) (xs (4 * i + 2)) (xs (4 * i + 3))).1)]) (cM_pay l D (cs 0) (cs 1) ad F _ had.1 (xs (4 * i + 1)) (xs (4 * i + 2)) (xs (4 * i + 3)) hq.1) (cwV 3 hts gL_law_X13_pay rfl rfl rfl (by decide +kernel) ⟨Nat.le_of_ble_eq_true rfl, Nat.le_of_ble_eq_true rfl⟩) rfl hl.1 rfl (Nat.le_of_ble_eq_true rfl) dL_law_654 ⟨show cells + 0 + 0 ≤ 600000 by omega, show slots + 0 + 0 ≤ 7302250 by omega⟩ (fun H2 locs2 hI2 hS2 => ?_)
  refine lv_icmp_eq (tgt := 1185) hx hb dL_law_657 (by decide) (fun _ => ?_) (fun h => absurd rfl h)
  exact kk _ H2 locs2 _ _ hI2 hS2 (by omega) (by omega)
set_option maxHeartbeats 4000000 in
set_option maxRecDepth 100000 in
theorem lwc_renew (X : LC p s m c b L xs D cs ad rL rG sL sG) (hl : lv_has ls 4 (lvL b o ad i)) (hi : 4 * i + 4 ≤ L) (hL : L ≤ 2048) (hI : LI D cs o a1 a2 k r ad s.heap.size i F H) (hS : va_S (fun x => s.heap.size ≤ x) s.heap H locs) (hc : cells + 3 * i + 4 ≤ 600000) (hs : slots + 31 * i + 31 ≤ 7302250)
    (kk : ∀ (F1 : mZ) (H1 : Heap) (locs1 : List Loc) (c1 s1 : Nat), LI D cs o a1 a2 k r ad s.heap.size (i + 1) F1 H1 → va_S (fun x => s.heap.size ≤ x) s.heap H1 locs1 → c1 ≤ cells + 3 * i + 4 → s1 ≤ slots + 31 * i + 31 → W p l e room_1 s m #[Value.ref b] below meth c H1 locs1 c1 s1 Q (F0 m 1185 ls [])) : W p l e room_1 s m #[Value.ref b] below meth c H locs cells slots Q (F0 m 662 ls []) := by
  have S := X.1
  obtain ⟨hx, hb, hml, hown, hts⟩ := id S
  have hq := gT_ask hI.2.1 (by omega)
  have had := X.2.2.2.2.1
  have hfl := X.2.2.2.2.2.2.2.2
  refine lv_aload_n hx hb dL_law_662 rfl (lv_at hl 1 rfl) ?_
  refine lw_arg (jn := 0) 1 (by decide) X hl hi hL hS (v := 1) rfl dL_law_663 dL_law_664 (fun w => lv_iconst (v := 1) hx hb dL_law_665 (by decide) w) dL_law_666 dL_law_667 ?_
  refine lw_arg (jn := 0) 2 (by decide) X hl hi hL hS (v := 2) rfl dL_law_668 dL_law_669 (fun w => lv_iconst (v := 2) hx hb dL_law_670 (by decide) w) dL_law_671 dL_law_672 ?_
  refine lw_arg (jn := 0) 3 (by decide) X hl hi hL hS (v := 3) rfl dL_law_673 dL_law_674 (fun w => lv_iconst (v := 3) hx hb dL_law_675 (by decide) w) dL_law_676 dL_law_677 ?_
  refine lw_cls (q := sp_renew F (xs (4 * i + 1)) (xs (4 * i + 2)) (xs (4 * i + 3))) S X.2.1 hI hS (As := [.int (xs (4 * i + 1)), .int (xs (4 * i + 2)), .int (xs (4 * i + 3))]) (rest := []) (cC_X11_renew l D cs o a1 a2 k r (fzL s.heap.size ad) i F _ (by omega) (xs (4 * i + 1)) (xs (4 * i + 2)) (xs (4 * i + 3))) (cwV 3 hts gL_law_X11_renew rfl rfl rfl (by decide +kernel) ⟨Nat.le_of_ble_eq_true rfl, Nat.le_of_ble_eq_true rfl⟩) rfl hl.1 rfl (Nat.le_of_ble_eq_true rfl) dL_law_678 ⟨show cells + 0 ≤ 600000 by omega, show slots + 0 ≤ 7302250 by omega⟩ (fun H1 locs1 hG hS => ?_)
  refine lv_aload_n hx hb dL_law_681 rfl (lv_at hl 2 rfl) ?_
  refine lw_arg (jn := 0) 1 (by decide) X hl hi hL hS (v := 1) rfl dL_law_682 dL_law_683 (fun w => lv_iconst (v := 1) hx hb dL_law_684 (by decide) w) dL_law_685 dL_law_686 ?_
  refine lw_arg (jn := 0) 2 (by decide) X hl hi hL hS (v := 2) rfl dL_law_687 dL_law_688 (fun w => lv_iconst (v := 2) hx hb dL_law_689 (by decide) w) dL_law_690 dL_law_691 ?_
  refine lw_arg (jn := 0) 3 (by decide) X hl hi hL hS (v := 3) rfl dL_law_692 dL_law_693 (fun w => lv_iconst (v := 3) hx hb dL_law_694 (by decide) w) dL_law_695 dL_law_696 ?_
  refine lw_mod (v := .int (sp_renew F (xs (4 * i + 1)) (xs (4 * i + 2)) (xs (4 * i + 3))).1) (F' := (sp_renew F (xs (4 * i + 1)) (xs (4 * i + 2)) (xs (4 * i + 3))).2) S X.2.2.1 hG.1 hG.2.1 hG.2.2 had.2 hS (As := [.int (xs (4 * i + 1)), .int (xs (4 * i + 2)), .int (xs (4 * i + 3))]) (rest := [(.int (sp_renew F (xs (4 * i + 1)) (xs (4 * i + 2)) (xs (4 * i + 3))).1)]) (cM_renew l D (cs 0) (cs 1) ad F _ had.1 (xs (4 * i + 1)) (xs (4 * i + 2)) (xs (4 * i + 3)) hq.1 (fun h => (hq.2.2.1 _ h).2)) (cwV 3 hts gL_law_X13_renew rfl rfl rfl (by decide +kernel) ⟨Nat.le_of_ble_eq_true rfl, Nat.le_of_ble_eq_true rfl⟩) rfl hl.1 rfl (Nat.le_of_ble_eq_true rfl) dL_law_697 ⟨show cells + 0 + 0 ≤ 600000 by omega, show slots + 0 + 0 ≤ 7302250 by omega⟩ (fun H2 locs2 hI2 hS2 => ?_)
  refine lv_icmp_eq (tgt := 1185) hx hb dL_law_700 (by decide) (fun _ => ?_) (fun h => absurd rfl h)
  exact kk _ H2 locs2 _ _ hI2 hS2 (by omega) (by omega)
set_option maxHeartbeats 4000000 in
set_option maxRecDepth 100000 in
theorem lwc_undo (X : LC p s m c b L xs D cs ad rL rG sL sG) (hl : lv_has ls 4 (lvL b o ad i)) (hi : 4 * i + 4 ≤ L) (hL : L ≤ 2048) (hI : LI D cs o a1 a2 k r ad s.heap.size i F H) (hS : va_S (fun x => s.heap.size ≤ x) s.heap H locs) (hc : cells + 3 * i + 4 ≤ 600000) (hs : slots + 31 * i + 31 ≤ 7302250)
    (kk : ∀ (F1 : mZ) (H1 : Heap) (locs1 : List Loc) (c1 s1 : Nat), LI D cs o a1 a2 k r ad s.heap.size (i + 1) F1 H1 → va_S (fun x => s.heap.size ≤ x) s.heap H1 locs1 → c1 ≤ cells + 3 * i + 4 → s1 ≤ slots + 31 * i + 31 → W p l e room_1 s m #[Value.ref b] below meth c H1 locs1 c1 s1 Q (F0 m 1185 ls [])) : W p l e room_1 s m #[Value.ref b] below meth c H locs cells slots Q (F0 m 705 ls []) := by
  have S := X.1
  obtain ⟨hx, hb, hml, hown, hts⟩ := id S
  have hq := gT_ask hI.2.1 (by omega)
  have had := X.2.2.2.2.1
  have hfl := X.2.2.2.2.2.2.2.2
  refine lv_aload_n hx hb dL_law_705 rfl (lv_at hl 1 rfl) ?_
  refine lw_arg (jn := 0) 1 (by decide) X hl hi hL hS (v := 1) rfl dL_law_706 dL_law_707 (fun w => lv_iconst (v := 1) hx hb dL_law_708 (by decide) w) dL_law_709 dL_law_710 ?_
  refine lw_cls (q := sp_undo F (xs (4 * i + 1))) S X.2.1 hI hS (As := [.int (xs (4 * i + 1))]) (rest := []) (cC_X11_undo l D cs o a1 a2 k r (fzL s.heap.size ad) i F _ (by omega) (xs (4 * i + 1))) (cwV 1 hts gL_law_X11_undo rfl rfl rfl (by decide +kernel) ⟨Nat.le_of_ble_eq_true rfl, Nat.le_of_ble_eq_true rfl⟩) rfl hl.1 rfl (Nat.le_of_ble_eq_true rfl) dL_law_711 ⟨show cells + 0 ≤ 600000 by omega, show slots + 0 ≤ 7302250 by omega⟩ (fun H1 locs1 hG hS => ?_)
  refine lv_aload_n hx hb dL_law_714 rfl (lv_at hl 2 rfl) ?_
  refine lw_arg (jn := 0) 1 (by decide) X hl hi hL hS (v := 1) rfl dL_law_715 dL_law_716 (fun w => lv_iconst (v := 1) hx hb dL_law_717 (by decide) w) dL_law_718 dL_law_719 ?_
  refine lw_mod (v := .int (sp_undo F (xs (4 * i + 1))).1) (F' := (sp_undo F (xs (4 * i + 1))).2) S X.2.2.1 hG.1 hG.2.1 hG.2.2 had.2 hS (As := [.int (xs (4 * i + 1))]) (rest := [(.int (sp_undo F (xs (4 * i + 1))).1)]) (cM_undo l D (cs 0) (cs 1) ad F _ had.1 (xs (4 * i + 1)) hq.1) (cwV 1 hts gL_law_X13_undo rfl rfl rfl (by decide +kernel) ⟨Nat.le_of_ble_eq_true rfl, Nat.le_of_ble_eq_true rfl⟩) rfl hl.1 rfl (Nat.le_of_ble_eq_true rfl) dL_law_720 ⟨show cells + 0 + 0 ≤ 600000 by omega, show slots + 0 + 0 ≤ 7302250 by omega⟩ (fun H2 locs2 hI2 hS2 => ?_)
  refine lv_icmp_eq (tgt := 1185) hx hb dL_law_723 (by decide) (fun _ => ?_) (fun h => absurd rfl h)
  exact kk _ H2 locs2 _ _ hI2 hS2 (by omega) (by omega)
set_option maxHeartbeats 4000000 in
set_option maxRecDepth 100000 in
theorem lwc_redeem (X : LC p s m c b L xs D cs ad rL rG sL sG) (hl : lv_has ls 4 (lvL b o ad i)) (hi : 4 * i + 4 ≤ L) (hL : L ≤ 2048) (hI : LI D cs o a1 a2 k r ad s.heap.size i F H) (hS : va_S (fun x => s.heap.size ≤ x) s.heap H locs) (hc : cells + 3 * i + 4 ≤ 600000) (hs : slots + 31 * i + 31 ≤ 7302250)
    (kk : ∀ (F1 : mZ) (H1 : Heap) (locs1 : List Loc) (c1 s1 : Nat), LI D cs o a1 a2 k r ad s.heap.size (i + 1) F1 H1 → va_S (fun x => s.heap.size ≤ x) s.heap H1 locs1 → c1 ≤ cells + 3 * i + 4 → s1 ≤ slots + 31 * i + 31 → W p l e room_1 s m #[Value.ref b] below meth c H1 locs1 c1 s1 Q (F0 m 1185 ls [])) : W p l e room_1 s m #[Value.ref b] below meth c H locs cells slots Q (F0 m 728 ls []) := by
  have S := X.1
  obtain ⟨hx, hb, hml, hown, hts⟩ := id S
  have hq := gT_ask hI.2.1 (by omega)
  have had := X.2.2.2.2.1
  have hfl := X.2.2.2.2.2.2.2.2
  refine lv_aload_n hx hb dL_law_728 rfl (lv_at hl 1 rfl) ?_
  refine lw_arg (jn := 0) 1 (by decide) X hl hi hL hS (v := 1) rfl dL_law_729 dL_law_730 (fun w => lv_iconst (v := 1) hx hb dL_law_731 (by decide) w) dL_law_732 dL_law_733 ?_
  refine lw_arg (jn := 0) 2 (by decide) X hl hi hL hS (v := 2) rfl dL_law_734 dL_law_735 (fun w => lv_iconst (v := 2) hx hb dL_law_736 (by decide) w) dL_law_737 dL_law_738 ?_
  refine lw_arg (jn := 0) 3 (by decide) X hl hi hL hS (v := 3) rfl dL_law_739 dL_law_740 (fun w => lv_iconst (v := 3) hx hb dL_law_741 (by decide) w) dL_law_742 dL_law_743 ?_
  refine lw_cls (q := sp_redeem F (xs (4 * i + 1)) (xs (4 * i + 2)) (xs (4 * i + 3))) S X.2.1 hI hS (As := [.int (xs (4 * i + 1)), .int (xs (4 * i + 2)), .int (xs (4 * i + 3))]) (rest := []) (cC_X11_redeem l D cs o a1 a2 k r (fzL s.heap.size ad) i F _ (by omega) (xs (4 * i + 1)) (xs (4 * i + 2)) (xs (4 * i + 3))) (cwV 3 hts gL_law_X11_redeem rfl rfl rfl (by decide +kernel) ⟨Nat.le_of_ble_eq_true rfl, Nat.le_of_ble_eq_true rfl⟩) rfl hl.1 rfl (Nat.le_of_ble_eq_true rfl) dL_law_744 ⟨show cells + 0 ≤ 600000 by omega, show slots + 0 ≤ 7302250 by omega⟩ (fun H1 locs1 hG hS => ?_)
  refine lv_aload_n hx hb dL_law_747 rfl (lv_at hl 2 rfl) ?_
  refine lw_arg (jn := 0) 1 (by decide) X hl hi hL hS (v := 1) rfl dL_law_748 dL_law_749 (fun w => lv_iconst (v := 1) hx hb dL_law_750 (by decide) w) dL_law_751 dL_law_752 ?_
  refine lw_arg (jn := 0) 2 (by decide) X hl hi hL hS (v := 2) rfl dL_law_753 dL_law_754 (fun w => lv_iconst (v := 2) hx hb dL_law_755 (by decide) w) dL_law_756 dL_law_757 ?_
  refine lw_arg (jn := 0) 3 (by decide) X hl hi hL hS (v := 3) rfl dL_law_758 dL_law_759 (fun w => lv_iconst (v := 3) hx hb dL_law_760 (by decide) w) dL_law_761 dL_law_762 ?_
  refine lw_mod (v := .int (sp_redeem F (xs (4 * i + 1)) (xs (4 * i + 2)) (xs (4 * i + 3))).1) (F' := (sp_redeem F (xs (4 * i + 1)) (xs (4 * i + 2)) (xs (4 * i + 3))).2) S X.2.2.1 hG.1 hG.2.1 hG.2.2 had.2 hS (As := [.int (xs (4 * i + 1)), .int (xs (4 * i + 2)), .int (xs (4 * i + 3))]) (rest := [(.int (sp_redeem F (xs (4 * i + 1)) (xs (4 * i + 2)) (xs (4 * i + 3))).1)]) (cM_redeem l D (cs 0) (cs 1) ad F _ had.1 (xs (4 * i + 1)) (xs (4 * i + 2)) (xs (4 * i + 3)) hq.1 (fun h => (hq.2.2.1 _ h).1)) (cwV 3 hts gL_law_X13_redeem rfl rfl rfl (by decide +kernel) ⟨Nat.le_of_ble_eq_true rfl, Nat.le_of_ble_eq_true rfl⟩) rfl hl.1 rfl (Nat.le_of_ble_eq_true rfl) dL_law_763 ⟨show cells + 0 + 0 ≤ 600000 by omega, show slots + 0 + 0 ≤ 7302250 by omega⟩ (fun H2 locs2 hI2 hS2 => ?_)
  refine lv_icmp_eq (tgt := 1185) hx hb dL_law_766 (by decide) (fun _ => ?_) (fun h => absurd rfl h)
  exact kk _ H2 locs2 _ _ hI2 hS2 (by omega) (by omega)
set_option maxHeartbeats 4000000 in
set_option maxRecDepth 100000 in
theorem lwc_out (X : LC p s m c b L xs D cs ad rL rG sL sG) (hl : lv_has ls 4 (lvL b o ad i)) (hi : 4 * i + 4 ≤ L) (hL : L ≤ 2048) (hI : LI D cs o a1 a2 k r ad s.heap.size i F H) (hS : va_S (fun x => s.heap.size ≤ x) s.heap H locs) (hc : cells + 3 * i + 4 ≤ 600000) (hs : slots + 31 * i + 31 ≤ 7302250)
    (kk : ∀ (F1 : mZ) (H1 : Heap) (locs1 : List Loc) (c1 s1 : Nat), LI D cs o a1 a2 k r ad s.heap.size (i + 1) F1 H1 → va_S (fun x => s.heap.size ≤ x) s.heap H1 locs1 → c1 ≤ cells + 3 * i + 4 → s1 ≤ slots + 31 * i + 31 → W p l e room_1 s m #[Value.ref b] below meth c H1 locs1 c1 s1 Q (F0 m 1185 ls [])) : W p l e room_1 s m #[Value.ref b] below meth c H locs cells slots Q (F0 m 771 ls []) := by
  have S := X.1
  obtain ⟨hx, hb, hml, hown, hts⟩ := id S
  have hq := gT_ask hI.2.1 (by omega)
  have had := X.2.2.2.2.1
  have hfl := X.2.2.2.2.2.2.2.2
  refine lv_aload_n hx hb dL_law_771 rfl (lv_at hl 1 rfl) ?_
  refine lw_arg (jn := 0) 1 (by decide) X hl hi hL hS (v := 1) rfl dL_law_772 dL_law_773 (fun w => lv_iconst (v := 1) hx hb dL_law_774 (by decide) w) dL_law_775 dL_law_776 ?_
  refine lw_arg (jn := 0) 2 (by decide) X hl hi hL hS (v := 2) rfl dL_law_777 dL_law_778 (fun w => lv_iconst (v := 2) hx hb dL_law_779 (by decide) w) dL_law_780 dL_law_781 ?_
  refine lw_arg (jn := 0) 3 (by decide) X hl hi hL hS (v := 3) rfl dL_law_782 dL_law_783 (fun w => lv_iconst (v := 3) hx hb dL_law_784 (by decide) w) dL_law_785 dL_law_786 ?_
  refine lw_cls (q := sp_out F (xs (4 * i + 1)) (xs (4 * i + 2)) (xs (4 * i + 3))) S X.2.1 hI hS (As := [.int (xs (4 * i + 1)), .int (xs (4 * i + 2)), .int (xs (4 * i + 3))]) (rest := []) (cC_X11_out l D cs o a1 a2 k r (fzL s.heap.size ad) i F _ (by omega) (xs (4 * i + 1)) (xs (4 * i + 2)) (xs (4 * i + 3))) (cwV 3 hts gL_law_X11_out rfl rfl rfl (by decide +kernel) ⟨Nat.le_of_ble_eq_true rfl, Nat.le_of_ble_eq_true rfl⟩) rfl hl.1 rfl (Nat.le_of_ble_eq_true rfl) dL_law_787 ⟨show cells + 2 ≤ 600000 by omega, show slots + 8 ≤ 7302250 by omega⟩ (fun H1 locs1 hG hS => ?_)
  refine lv_aload_n hx hb dL_law_790 rfl (lv_at hl 2 rfl) ?_
  refine lw_arg (jn := 0) 1 (by decide) X hl hi hL hS (v := 1) rfl dL_law_791 dL_law_792 (fun w => lv_iconst (v := 1) hx hb dL_law_793 (by decide) w) dL_law_794 dL_law_795 ?_
  refine lw_arg (jn := 0) 2 (by decide) X hl hi hL hS (v := 2) rfl dL_law_796 dL_law_797 (fun w => lv_iconst (v := 2) hx hb dL_law_798 (by decide) w) dL_law_799 dL_law_800 ?_
  refine lw_arg (jn := 0) 3 (by decide) X hl hi hL hS (v := 3) rfl dL_law_801 dL_law_802 (fun w => lv_iconst (v := 3) hx hb dL_law_803 (by decide) w) dL_law_804 dL_law_805 ?_
  refine lw_mod (v := .int (sp_out F (xs (4 * i + 1)) (xs (4 * i + 2)) (xs (4 * i + 3))).1) (F' := (sp_out F (xs (4 * i + 1)) (xs (4 * i + 2)) (xs (4 * i + 3))).2) S X.2.2.1 hG.1 hG.2.1 hG.2.2 had.2 hS (As := [.int (xs (4 * i + 1)), .int (xs (4 * i + 2)), .int (xs (4 * i + 3))]) (rest := [(.int (sp_out F (xs (4 * i + 1)) (xs (4 * i + 2)) (xs (4 * i + 3))).1)]) (cM_out l D (cs 0) (cs 1) ad F _ had.1 (xs (4 * i + 1)) (xs (4 * i + 2)) (xs (4 * i + 3)) hq.1 (fun h => (hq.2.2.1 _ h).1)) (cwV 3 hts gL_law_X13_out rfl rfl rfl (by decide +kernel) ⟨Nat.le_of_ble_eq_true rfl, Nat.le_of_ble_eq_true rfl⟩) rfl hl.1 rfl (Nat.le_of_ble_eq_true rfl) dL_law_806 ⟨show cells + 2 + 0 ≤ 600000 by omega, show slots + 8 + 0 ≤ 7302250 by omega⟩ (fun H2 locs2 hI2 hS2 => ?_)
  refine lv_icmp_eq (tgt := 1185) hx hb dL_law_809 (by decide) (fun _ => ?_) (fun h => absurd rfl h)
  exact kk _ H2 locs2 _ _ hI2 hS2 (by omega) (by omega)
end LCA2
