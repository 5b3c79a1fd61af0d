/-! the law's cases (by law.py) -/
section LCA0
variable {p : Program} {l : Launch} {e : Env} {s : State} {m : MethodId} {below : List Frame} {meth : Method} {c : Code} {H : Heap} {cells slots : Nat} {Q : State → Prop} {ls : Array Slot} {rest : List Value} {locs : List Loc}
variable {D : va_G} {cs : Nat → ClassId} {b L o i : Nat} {xs : Nat → Int32} {a1 a2 k r ad : Nat → Nat} {F : mZ} {rL rG sL sG : Nat}
set_option maxHeartbeats 4000000 in
set_option maxRecDepth 100000 in
theorem lwc_pay (X : LC p s m c b L xs D cs ad rL rG sL sG) (hl : lv_has ls 4 (lvL b o ad i)) (hi : 4 * i + 4 ≤ L) (hL : L ≤ 2048) (hI : LI D cs o a1 a2 k r ad s.heap.size i F H) (hS : va_S (fun x => s.heap.size ≤ x) s.heap H locs) (hc : cells + 3 * i + 4 ≤ 600000) (hs : slots + 31 * i + 31 ≤ 7302250)
    (kk : ∀ (F1 : mZ) (H1 : Heap) (locs1 : List Loc) (c1 s1 : Nat), LI D cs o a1 a2 k r ad s.heap.size (i + 1) F1 H1 → va_S (fun x => s.heap.size ≤ x) s.heap H1 locs1 → c1 ≤ cells + 3 * i + 4 → s1 ≤ slots + 31 * i + 31 → W p l e room_1 s m #[Value.ref b] below meth c H1 locs1 c1 s1 Q (F0 m 1185 ls [])) : W p l e room_1 s m #[Value.ref b] below meth c H locs cells slots Q (F0 m 619 ls []) := by
  have S := X.1
  obtain ⟨hx, hb, hml, hown, hts⟩ := id S
  have hq := gT_ask hI.2.1 (by omega)
  have had := X.2.2.2.2.1
  have hfl := X.2.2.2.2.2.2.2.2
  refine lv_aload_n hx hb dL_law_619 rfl (lv_at hl 1 rfl) ?_
  refine lw_arg (jn := 0) 1 (by decide) X hl hi hL hS (v := 1) rfl dL_law_620 dL_law_621 (fun w => lv_iconst (v := 1) hx hb dL_law_622 (by decide) w) dL_law_623 dL_law_624 ?_
  refine lw_arg (jn := 0) 2 (by decide) X hl hi hL hS (v := 2) rfl dL_law_625 dL_law_626 (fun w => lv_iconst (v := 2) hx hb dL_law_627 (by decide) w) dL_law_628 dL_law_629 ?_
  refine lw_arg (jn := 0) 3 (by decide) X hl hi hL hS (v := 3) rfl dL_law_630 dL_law_631 (fun w => lv_iconst (v := 3) hx hb dL_law_632 (by decide) w) dL_law_633 dL_law_634 ?_
  refine lw_cls (q := sp_pay F (xs (4 * i + 1)) (xs (4 * i + 2)) (xs (4 * i + 3))) S X.2.1 hI hS (As := [.int (xs (4 * i + 1)), .int (xs (4 * i + 2)), .int (xs (4 * i + 3))]) (rest := []) (cC_X11_pay l D cs o a1 a2 k r (fzL s.heap.size ad) i F _ (by omega) (xs (4 * i + 1)) (xs (4 * i + 2)) (xs (4 * i + 3))) (cwV 3 hts gL_law_X11_pay rfl rfl rfl (by decide +kernel) ⟨Nat.le_of_ble_eq_true rfl, Nat.le_of_ble_eq_true rfl⟩) rfl hl.1 rfl (Nat.le_of_ble_eq_true rfl) dL_law_635 ⟨show cells + 0 ≤ 600000 by omega, show slots + 0 ≤ 7302250 by omega⟩ (fun H1 locs1 hG hS => ?_)
  refine lv_aload_n hx hb dL_law_638 rfl (lv_at hl 2 rfl) ?_
  refine lw_arg (jn := 0) 1 (by decide) X hl hi hL hS (v := 1) rfl dL_law_639 dL_law_640 (fun w => lv_iconst (v := 1) hx hb dL_law_641 (by decide) w) dL_law_642 dL_law_643 ?_
  refine lw_arg (jn := 0) 2 (by decide) X hl hi hL hS (v := 2) rfl dL_law_644 dL_law_645 (fun w => lv_iconst (v := 2) hx hb dL_law_646 (by decide) w) dL_law_647 dL_law_648 ?_
  refine lw_arg (jn := 0) 3 (by decide) X hl hi hL hS (v := 3) rfl dL_law_649 dL_law_650 (fun w => lv_iconst (v := 3) hx hb dL_law_651 (by decide) w) dL_law_652 dL_law_653 ?_
  refine lw_mod (v := .int (sp_pay F (xs (4 * i + 1)) (xs (4 * i + 2)) (xs (4 * i + 3))).1) (F' := (sp_pay F (xs (4 * i + 1)) (xs (4 * i + 2)) (xs (4 * i + 3))).2) S X.2.2.1 hG.1 hG.2.1 hG.2.2 had.2 hS (As := [.int (xs (4 * i + 1)), .int (xs (4 * i + 2)), .int (xs (4 * i + 3))]) (rest := [(.int (sp_pay F (xs (4 * i + 1)) (xs (4 * i + 2)) (xs (4 * i + 3))).1)]) (cM_pay l D (cs 0) (cs 1) ad F _ had.1 (xs (4 * i + 1)) (xs (4 * i + 2)) (xs (4 * i + 3)) hq.1) (cwV 3 hts gL_law_X13_pay rfl rfl rfl (by decide +kernel) ⟨Nat.le_of_ble_eq_true rfl, Nat.le_of_ble_eq_true rfl⟩) rfl hl.1 rfl (Nat.le_of_ble_eq_true rfl) dL_law_654 ⟨show cells + 0 + 0 ≤ 600000 by omega, show slots + 0 + 0 ≤ 7302250 by omega⟩ (fun H2 locs2 hI2 hS2 => ?_)
  refine lv_icmp_eq (tgt := 1185) hx hb dL_law_657 (by decide) (fun _ => ?_) (fun h => absurd rfl h)
  exact kk _ H2 locs2 _ _ hI2 hS2 (by omega) (by omega)
set_option maxHeartbeats 4000000 in
set_option maxRecDepth 100000 in
theorem lwc_told (X : LC p s m c b L xs D cs ad rL rG sL sG) (hl : lv_has ls 4 (lvL b o ad i)) (hi : 4 * i + 4 ≤ L) (hL : L ≤ 2048) (hI : LI D cs o a1 a2 k r ad s.heap.size i F H) (hS : va_S (fun x => s.heap.size ≤ x) s.heap H locs) (hc : cells + 3 * i + 4 ≤ 600000) (hs : slots + 31 * i + 31 ≤ 7302250)
    (kk : ∀ (F1 : mZ) (H1 : Heap) (locs1 : List Loc) (c1 s1 : Nat), LI D cs o a1 a2 k r ad s.heap.size (i + 1) F1 H1 → va_S (fun x => s.heap.size ≤ x) s.heap H1 locs1 → c1 ≤ cells + 3 * i + 4 → s1 ≤ slots + 31 * i + 31 → W p l e room_1 s m #[Value.ref b] below meth c H1 locs1 c1 s1 Q (F0 m 1185 ls [])) : W p l e room_1 s m #[Value.ref b] below meth c H locs cells slots Q (F0 m 1055 ls []) := by
  have S := X.1
  obtain ⟨hx, hb, hml, hown, hts⟩ := id S
  have hq := gT_ask hI.2.1 (by omega)
  have had := X.2.2.2.2.1
  have hfl := X.2.2.2.2.2.2.2.2
  refine lv_aload_n hx hb dL_law_1055 rfl (lv_at hl 1 rfl) ?_
  refine lw_arg (jn := 0) 1 (by decide) X hl hi hL hS (v := 1) rfl dL_law_1056 dL_law_1057 (fun w => lv_iconst (v := 1) hx hb dL_law_1058 (by decide) w) dL_law_1059 dL_law_1060 ?_
  refine lw_arg (jn := 0) 2 (by decide) X hl hi hL hS (v := 2) rfl dL_law_1061 dL_law_1062 (fun w => lv_iconst (v := 2) hx hb dL_law_1063 (by decide) w) dL_law_1064 dL_law_1065 ?_
  refine lw_look S X.2.1 hI (As := [.int (xs (4 * i + 1)), .int (xs (4 * i + 2))]) (rest := []) (cC_X11_told l D cs o a1 a2 k r (fzL s.heap.size ad) i F _ (by omega) (xs (4 * i + 1)) (xs (4 * i + 2))) (cwV 2 hts gL_law_X11_told rfl rfl rfl (by decide +kernel) ⟨Nat.le_of_ble_eq_true rfl, Nat.le_of_ble_eq_true rfl⟩) rfl hl.1 rfl (Nat.le_of_ble_eq_true rfl) dL_law_1066 ⟨show cells ≤ 600000 by omega, show slots ≤ 7302250 by omega⟩ ?_
  refine lv_aload_n hx hb dL_law_1069 rfl (lv_at hl 2 rfl) ?_
  refine lw_arg (jn := 0) 1 (by decide) X hl hi hL hS (v := 1) rfl dL_law_1070 dL_law_1071 (fun w => lv_iconst (v := 1) hx hb dL_law_1072 (by decide) w) dL_law_1073 dL_law_1074 ?_
  refine lw_arg (jn := 0) 2 (by decide) X hl hi hL hS (v := 2) rfl dL_law_1075 dL_law_1076 (fun w => lv_iconst (v := 2) hx hb dL_law_1077 (by decide) w) dL_law_1078 dL_law_1079 ?_
  refine lw_mod (v := .int (sp_told F (xs (4 * i + 1)) (xs (4 * i + 2)))) (F' := F) S X.2.2.1 hI.1 (gT_up hI.2.1 (Nat.le_succ _)) hI.2.2 had.2 hS (As := [.int (xs (4 * i + 1)), .int (xs (4 * i + 2))]) (rest := [(.int (sp_told F (xs (4 * i + 1)) (xs (4 * i + 2))))]) (cM_told l D (cs 0) (cs 1) ad F _ had.1 (xs (4 * i + 1)) (xs (4 * i + 2)) hq.1) (cwV 2 hts gL_law_X13_told rfl rfl rfl (by decide +kernel) ⟨Nat.le_of_ble_eq_true rfl, Nat.le_of_ble_eq_true rfl⟩) rfl hl.1 rfl (Nat.le_of_ble_eq_true rfl) dL_law_1080 ⟨show cells + 0 ≤ 600000 by omega, show slots + 0 ≤ 7302250 by omega⟩ (fun H2 locs2 hI2 hS2 => ?_)
  refine lv_icmp_eq (tgt := 1185) hx hb dL_law_1083 (by decide) (fun _ => ?_) (fun h => absurd rfl h)
  exact kk _ H2 locs2 _ _ hI2 hS2 (by omega) (by omega)
set_option maxHeartbeats 4000000 in
set_option maxRecDepth 100000 in
theorem lwc_place (X : LC p s m c b L xs D cs ad rL rG sL sG) (hl : lv_has ls 4 (lvL b o ad i)) (hi : 4 * i + 4 ≤ L) (hL : L ≤ 2048) (hI : LI D cs o a1 a2 k r ad s.heap.size i F H) (hS : va_S (fun x => s.heap.size ≤ x) s.heap H locs) (hc : cells + 3 * i + 4 ≤ 600000) (hs : slots + 31 * i + 31 ≤ 7302250)
    (kk : ∀ (F1 : mZ) (H1 : Heap) (locs1 : List Loc) (c1 s1 : Nat), LI D cs o a1 a2 k r ad s.heap.size (i + 1) F1 H1 → va_S (fun x => s.heap.size ≤ x) s.heap H1 locs1 → c1 ≤ cells + 3 * i + 4 → s1 ≤ slots + 31 * i + 31 → W p l e room_1 s m #[Value.ref b] below meth c H1 locs1 c1 s1 Q (F0 m 1185 ls [])) : W p l e room_1 s m #[Value.ref b] below meth c H locs cells slots Q (F0 m 1021 ls []) := by
  have S := X.1
  obtain ⟨hx, hb, hml, hown, hts⟩ := id S
  have hq := gT_ask hI.2.1 (by omega)
  have had := X.2.2.2.2.1
  have hfl := X.2.2.2.2.2.2.2.2
  refine lv_aload_n hx hb dL_law_1021 rfl (lv_at hl 1 rfl) ?_
  refine lw_arg (jn := 0) 1 (by decide) X hl hi hL hS (v := 1) rfl dL_law_1022 dL_law_1023 (fun w => lv_iconst (v := 1) hx hb dL_law_1024 (by decide) w) dL_law_1025 dL_law_1026 ?_
  refine lw_arg (jn := 0) 2 (by decide) X hl hi hL hS (v := 2) rfl dL_law_1027 dL_law_1028 (fun w => lv_iconst (v := 2) hx hb dL_law_1029 (by decide) w) dL_law_1030 dL_law_1031 ?_
  refine lw_look S X.2.1 hI (As := [.int (xs (4 * i + 1)), .int (xs (4 * i + 2))]) (rest := []) (cC_X11_place l D cs o a1 a2 k r (fzL s.heap.size ad) i F _ (by omega) (xs (4 * i + 1)) (xs (4 * i + 2))) (cwV 2 hts gL_law_X11_place rfl rfl rfl (by decide +kernel) ⟨Nat.le_of_ble_eq_true rfl, Nat.le_of_ble_eq_true rfl⟩) rfl hl.1 rfl (Nat.le_of_ble_eq_true rfl) dL_law_1032 ⟨show cells ≤ 600000 by omega, show slots ≤ 7302250 by omega⟩ ?_
  refine lv_aload_n hx hb dL_law_1035 rfl (lv_at hl 2 rfl) ?_
  refine lw_arg (jn := 0) 1 (by decide) X hl hi hL hS (v := 1) rfl dL_law_1036 dL_law_1037 (fun w => lv_iconst (v := 1) hx hb dL_law_1038 (by decide) w) dL_law_1039 dL_law_1040 ?_
  refine lw_arg (jn := 0) 2 (by decide) X hl hi hL hS (v := 2) rfl dL_law_1041 dL_law_1042 (fun w => lv_iconst (v := 2) hx hb dL_law_1043 (by decide) w) dL_law_1044 dL_law_1045 ?_
  refine lw_mod (v := .long (sp_place F (xs (4 * i + 1)) (xs (4 * i + 2)))) (F' := F) S X.2.2.1 hI.1 (gT_up hI.2.1 (Nat.le_succ _)) hI.2.2 had.2 hS (As := [.int (xs (4 * i + 1)), .int (xs (4 * i + 2))]) (rest := [(.long (sp_place F (xs (4 * i + 1)) (xs (4 * i + 2))))]) (cM_place l D (cs 0) (cs 1) ad F _ had.1 (xs (4 * i + 1)) (xs (4 * i + 2))) (cwV 2 hts gL_law_X13_place rfl rfl rfl (by decide +kernel) ⟨Nat.le_of_ble_eq_true rfl, Nat.le_of_ble_eq_true rfl⟩) rfl hl.1 rfl (Nat.le_of_ble_eq_true rfl) dL_law_1046 ⟨show cells + 0 ≤ 600000 by omega, show slots + 0 ≤ 7302250 by omega⟩ (fun H2 locs2 hI2 hS2 => ?_)
  refine W.lcmp hx hb dL_law_1049 ?_
  refine lv_if_eq (tgt := 1185) hx hb dL_law_1050 (by decide) (fun _ => ?_) (fun h => absurd cmp_self h)
  exact kk _ H2 locs2 _ _ hI2 hS2 (by omega) (by omega)
end LCA0
