/-! the law's cases (by law.py) -/
section LCA4
variable {p : Program} {l : Launch} {e : Env} {s : State} {m : MethodId} {below : List Frame} {meth : Method} {c : Code} {H : Heap} {cells slots : Nat} {Q : State → Prop} {ls : Array Slot} {rest : List Value} {locs : List Loc}
variable {D : va_G} {cs : Nat → ClassId} {b L o i : Nat} {xs : Nat → Int32} {a1 a2 k r ad : Nat → Nat} {F : mZ} {rL rG sL sG : Nat}
set_option maxHeartbeats 4000000 in
set_option maxRecDepth 100000 in
theorem lwc_prove (X : LC p s m c b L xs D cs ad rL rG sL sG) (hl : lv_has ls 4 (lvL b o ad i)) (hi : 4 * i + 4 ≤ L) (hL : L ≤ 2048) (hI : LI D cs o a1 a2 k r ad s.heap.size i F H) (hS : va_S (fun x => s.heap.size ≤ x) s.heap H locs) (hc : cells + 3 * i + 4 ≤ 600000) (hs : slots + 31 * i + 31 ≤ 7302250)
    (kk : ∀ (F1 : mZ) (H1 : Heap) (locs1 : List Loc) (c1 s1 : Nat), LI D cs o a1 a2 k r ad s.heap.size (i + 1) F1 H1 → va_S (fun x => s.heap.size ≤ x) s.heap H1 locs1 → c1 ≤ cells + 3 * i + 4 → s1 ≤ slots + 31 * i + 31 → W p l e room_1 s m #[Value.ref b] below meth c H1 locs1 c1 s1 Q (F0 m 1185 ls [])) : W p l e room_1 s m #[Value.ref b] below meth c H locs cells slots Q (F0 m 972 ls []) := by
  have S := X.1
  obtain ⟨hx, hb, hml, hown, hts⟩ := id S
  have hq := gT_ask hI.2.1 (by omega)
  have had := X.2.2.2.2.1
  have hfl := X.2.2.2.2.2.2.2.2
  refine lv_aload_n hx hb dL_law_972 rfl (lv_at hl 1 rfl) ?_
  refine lw_arg (jn := 0) 1 (by decide) X hl hi hL hS (v := 1) rfl dL_law_973 dL_law_974 (fun w => lv_iconst (v := 1) hx hb dL_law_975 (by decide) w) dL_law_976 dL_law_977 ?_
  refine lw_cls (q := sp_prove F (xs (4 * i + 1))) S X.2.1 hI hS (As := [.int (xs (4 * i + 1))]) (rest := []) (cC_X11_prove l D cs o a1 a2 k r (fzL s.heap.size ad) i F _ (by omega) (xs (4 * i + 1))) (cwV 1 hts gL_law_X11_prove rfl rfl rfl (by decide +kernel) ⟨Nat.le_of_ble_eq_true rfl, Nat.le_of_ble_eq_true rfl⟩) rfl hl.1 rfl (Nat.le_of_ble_eq_true rfl) dL_law_978 ⟨show cells + 0 ≤ 600000 by omega, show slots + 0 ≤ 7302250 by omega⟩ (fun H1 locs1 hG hS => ?_)
  refine lv_aload_n hx hb dL_law_981 rfl (lv_at hl 2 rfl) ?_
  refine lw_arg (jn := 0) 1 (by decide) X hl hi hL hS (v := 1) rfl dL_law_982 dL_law_983 (fun w => lv_iconst (v := 1) hx hb dL_law_984 (by decide) w) dL_law_985 dL_law_986 ?_
  refine lw_mod (v := .int (sp_prove F (xs (4 * i + 1))).1) (F' := (sp_prove F (xs (4 * i + 1))).2) S X.2.2.1 hG.1 hG.2.1 hG.2.2 had.2 hS (As := [.int (xs (4 * i + 1))]) (rest := [(.int (sp_prove F (xs (4 * i + 1))).1)]) (cM_prove l D (cs 0) (cs 1) ad F _ had.1 (xs (4 * i + 1)) hq.1 (fun h => (hq.2.2.1 _ h).1)) (cwV 1 hts gL_law_X13_prove rfl rfl rfl (by decide +kernel) ⟨Nat.le_of_ble_eq_true rfl, Nat.le_of_ble_eq_true rfl⟩) rfl hl.1 rfl (Nat.le_of_ble_eq_true rfl) dL_law_987 ⟨show cells + 0 + 0 ≤ 600000 by omega, show slots + 0 + 0 ≤ 7302250 by omega⟩ (fun H2 locs2 hI2 hS2 => ?_)
  refine lv_icmp_eq (tgt := 1185) hx hb dL_law_990 (by decide) (fun _ => ?_) (fun h => absurd rfl h)
  exact kk _ H2 locs2 _ _ hI2 hS2 (by omega) (by omega)
set_option maxHeartbeats 4000000 in
set_option maxRecDepth 100000 in
theorem lwc_image (X : LC p s m c b L xs D cs ad rL rG sL sG) (hl : lv_has ls 4 (lvL b o ad i)) (hi : 4 * i + 4 ≤ L) (hL : L ≤ 2048) (hI : LI D cs o a1 a2 k r ad s.heap.size i F H) (hS : va_S (fun x => s.heap.size ≤ x) s.heap H locs) (hc : cells + 3 * i + 4 ≤ 600000) (hs : slots + 31 * i + 31 ≤ 7302250)
    (kk : ∀ (F1 : mZ) (H1 : Heap) (locs1 : List Loc) (c1 s1 : Nat), LI D cs o a1 a2 k r ad s.heap.size (i + 1) F1 H1 → va_S (fun x => s.heap.size ≤ x) s.heap H1 locs1 → c1 ≤ cells + 3 * i + 4 → s1 ≤ slots + 31 * i + 31 → W p l e room_1 s m #[Value.ref b] below meth c H1 locs1 c1 s1 Q (F0 m 1185 ls [])) : W p l e room_1 s m #[Value.ref b] below meth c H locs cells slots Q (F0 m 995 ls []) := by
  have S := X.1
  obtain ⟨hx, hb, hml, hown, hts⟩ := id S
  have hq := gT_ask hI.2.1 (by omega)
  have had := X.2.2.2.2.1
  have hfl := X.2.2.2.2.2.2.2.2
  refine lv_aload_n hx hb dL_law_995 rfl (lv_at hl 1 rfl) ?_
  have hbn := hq.2.2.2.2.2.2.1
  refine lw_cls (q := sp_image F) S X.2.1 hI hS (As := []) (rest := []) (cC_X11_image l D cs o a1 a2 k r (fzL s.heap.size ad) i F _ (by omega)) (cwV 0 hts gL_law_X11_image rfl rfl rfl (by decide +kernel) ⟨Nat.le_of_ble_eq_true rfl, Nat.le_of_ble_eq_true rfl⟩) rfl hl.1 rfl (Nat.le_of_ble_eq_true rfl) dL_law_996 ⟨show cells + 3 * tN (zh F 1) ≤ 600000 by omega, show slots + 31 * tN (zh F 1) ≤ 7302250 by omega⟩ (fun H1 locs1 hG hS => ?_)
  refine lv_aload_n hx hb dL_law_999 rfl (lv_at hl 2 rfl) ?_
  refine lw_modX (v := .int (sp_image F).1) (F' := (sp_image F).2) (X := va_Nw (.methodLinkNest RX13 187 yX12_copy "PledgeHouseModel")) (fun U V h1 _ h => va_Nw.same rfl h1 h) (fun U _ hW => va_Nw.warmM hW X.2.2.2.2.2.2.2.1) S X.2.2.1 hG.1 hG.2.1 hG.2.2 had.2 hS (As := []) (rest := [(.int (sp_image F).1)]) (cM_image l D (cs 0) (cs 1) ad F _ had.1) (cwV 0 hts gL_law_X13_image rfl rfl rfl (by decide +kernel) ⟨Nat.le_of_ble_eq_true rfl, Nat.le_of_ble_eq_true rfl⟩) rfl hl.1 rfl (Nat.le_of_ble_eq_true rfl) dL_law_1000 ⟨show cells + 3 * tN (zh F 1) + 0 ≤ 600000 by omega, show slots + 31 * tN (zh F 1) + 0 ≤ 7302250 by omega⟩ (fun H2 locs2 hI2 hS2 => ?_)
  refine lv_icmp_eq (tgt := 1185) hx hb dL_law_1003 (by decide) (fun _ => ?_) (fun h => absurd rfl h)
  exact kk _ H2 locs2 _ _ hI2 hS2 (by omega) (by omega)
set_option maxHeartbeats 4000000 in
set_option maxRecDepth 100000 in
theorem lwc_back (X : LC p s m c b L xs D cs ad rL rG sL sG) (hl : lv_has ls 4 (lvL b o ad i)) (hi : 4 * i + 4 ≤ L) (hL : L ≤ 2048) (hI : LI D cs o a1 a2 k r ad s.heap.size i F H) (hS : va_S (fun x => s.heap.size ≤ x) s.heap H locs) (hc : cells + 3 * i + 4 ≤ 600000) (hs : slots + 31 * i + 31 ≤ 7302250)
    (kk : ∀ (F1 : mZ) (H1 : Heap) (locs1 : List Loc) (c1 s1 : Nat), LI D cs o a1 a2 k r ad s.heap.size (i + 1) F1 H1 → va_S (fun x => s.heap.size ≤ x) s.heap H1 locs1 → c1 ≤ cells + 3 * i + 4 → s1 ≤ slots + 31 * i + 31 → W p l e room_1 s m #[Value.ref b] below meth c H1 locs1 c1 s1 Q (F0 m 1185 ls [])) : W p l e room_1 s m #[Value.ref b] below meth c H locs cells slots Q (F0 m 1008 ls []) := by
  have S := X.1
  obtain ⟨hx, hb, hml, hown, hts⟩ := id S
  have hq := gT_ask hI.2.1 (by omega)
  have had := X.2.2.2.2.1
  have hfl := X.2.2.2.2.2.2.2.2
  refine lv_aload_n hx hb dL_law_1008 rfl (lv_at hl 1 rfl) ?_
  have hbn := kb_le hq.2.2.2.2.2.2.2
  refine lw_cls (q := sp_back F) S X.2.1 hI hS (As := []) (rest := []) (cC_X11_backK l D cs o a1 a2 k r (fzL s.heap.size ad) i F _ (by omega)) (cwV 0 hts gL_law_X11_back rfl rfl rfl (by decide +kernel) ⟨Nat.le_of_ble_eq_true rfl, Nat.le_of_ble_eq_true rfl⟩) rfl hl.1 rfl (Nat.le_of_ble_eq_true rfl) dL_law_1009 ⟨show cells + 3 * kb F ≤ 600000 by omega, show slots + 31 * kb F ≤ 7302250 by omega⟩ (fun H1 locs1 hG hS => ?_)
  refine lv_aload_n hx hb dL_law_1012 rfl (lv_at hl 2 rfl) ?_
  refine lw_modX (v := .int (sp_back F).1) (F' := (sp_back F).2) (X := va_Nw (.methodLinkNest RX13 187 yX12_copy "PledgeHouseModel")) (fun U V h1 _ h => va_Nw.same rfl h1 h) (fun U _ hW => va_Nw.warmM hW X.2.2.2.2.2.2.2.1) S X.2.2.1 hG.1 hG.2.1 hG.2.2 had.2 hS (As := []) (rest := [(.int (sp_back F).1)]) (cM_back l D (cs 0) (cs 1) ad F _ had.1) (cwV 0 hts gL_law_X13_back rfl rfl rfl (by decide +kernel) ⟨Nat.le_of_ble_eq_true rfl, Nat.le_of_ble_eq_true rfl⟩) rfl hl.1 rfl (Nat.le_of_ble_eq_true rfl) dL_law_1013 ⟨show cells + 3 * kb F + 0 ≤ 600000 by omega, show slots + 31 * kb F + 0 ≤ 7302250 by omega⟩ (fun H2 locs2 hI2 hS2 => ?_)
  refine lv_icmp_eq (tgt := 1185) hx hb dL_law_1016 (by decide) (fun _ => ?_) (fun h => absurd rfl h)
  exact kk _ H2 locs2 _ _ hI2 hS2 (by omega) (by omega)
set_option maxHeartbeats 4000000 in
set_option maxRecDepth 100000 in
theorem lwc_place (X : LC p s m c b L xs D cs ad rL rG sL sG) (hl : lv_has ls 4 (lvL b o ad i)) (hi : 4 * i + 4 ≤ L) (hL : L ≤ 2048) (hI : LI D cs o a1 a2 k r ad s.heap.size i F H) (hS : va_S (fun x => s.heap.size ≤ x) s.heap H locs) (hc : cells + 3 * i + 4 ≤ 600000) (hs : slots + 31 * i + 31 ≤ 7302250)
    (kk : ∀ (F1 : mZ) (H1 : Heap) (locs1 : List Loc) (c1 s1 : Nat), LI D cs o a1 a2 k r ad s.heap.size (i + 1) F1 H1 → va_S (fun x => s.heap.size ≤ x) s.heap H1 locs1 → c1 ≤ cells + 3 * i + 4 → s1 ≤ slots + 31 * i + 31 → W p l e room_1 s m #[Value.ref b] below meth c H1 locs1 c1 s1 Q (F0 m 1185 ls [])) : W p l e room_1 s m #[Value.ref b] below meth c H locs cells slots Q (F0 m 1021 ls []) := by
  have S := X.1
  obtain ⟨hx, hb, hml, hown, hts⟩ := id S
  have hq := gT_ask hI.2.1 (by omega)
  have had := X.2.2.2.2.1
  have hfl := X.2.2.2.2.2.2.2.2
  refine lv_aload_n hx hb dL_law_1021 rfl (lv_at hl 1 rfl) ?_
  refine lw_arg (jn := 0) 1 (by decide) X hl hi hL hS (v := 1) rfl dL_law_1022 dL_law_1023 (fun w => lv_iconst (v := 1) hx hb dL_law_1024 (by decide) w) dL_law_1025 dL_law_1026 ?_
  refine lw_arg (jn := 0) 2 (by decide) X hl hi hL hS (v := 2) rfl dL_law_1027 dL_law_1028 (fun w => lv_iconst (v := 2) hx hb dL_law_1029 (by decide) w) dL_law_1030 dL_law_1031 ?_
  refine lw_look S X.2.1 hI (As := [.int (xs (4 * i + 1)), .int (xs (4 * i + 2))]) (rest := []) (cC_X11_place l D cs o a1 a2 k r (fzL s.heap.size ad) i F _ (by omega) (xs (4 * i + 1)) (xs (4 * i + 2))) (cwV 2 hts gL_law_X11_place rfl rfl rfl (by decide +kernel) ⟨Nat.le_of_ble_eq_true rfl, Nat.le_of_ble_eq_true rfl⟩) rfl hl.1 rfl (Nat.le_of_ble_eq_true rfl) dL_law_1032 ⟨show cells ≤ 600000 by omega, show slots ≤ 7302250 by omega⟩ ?_
  refine lv_aload_n hx hb dL_law_1035 rfl (lv_at hl 2 rfl) ?_
  refine lw_arg (jn := 0) 1 (by decide) X hl hi hL hS (v := 1) rfl dL_law_1036 dL_law_1037 (fun w => lv_iconst (v := 1) hx hb dL_law_1038 (by decide) w) dL_law_1039 dL_law_1040 ?_
  refine lw_arg (jn := 0) 2 (by decide) X hl hi hL hS (v := 2) rfl dL_law_1041 dL_law_1042 (fun w => lv_iconst (v := 2) hx hb dL_law_1043 (by decide) w) dL_law_1044 dL_law_1045 ?_
  refine lw_mod (v := .long (sp_place F (xs (4 * i + 1)) (xs (4 * i + 2)))) (F' := F) S X.2.2.1 hI.1 (gT_up hI.2.1 (Nat.le_succ _)) hI.2.2 had.2 hS (As := [.int (xs (4 * i + 1)), .int (xs (4 * i + 2))]) (rest := [(.long (sp_place F (xs (4 * i + 1)) (xs (4 * i + 2))))]) (cM_place l D (cs 0) (cs 1) ad F _ had.1 (xs (4 * i + 1)) (xs (4 * i + 2))) (cwV 2 hts gL_law_X13_place rfl rfl rfl (by decide +kernel) ⟨Nat.le_of_ble_eq_true rfl, Nat.le_of_ble_eq_true rfl⟩) rfl hl.1 rfl (Nat.le_of_ble_eq_true rfl) dL_law_1046 ⟨show cells + 0 ≤ 600000 by omega, show slots + 0 ≤ 7302250 by omega⟩ (fun H2 locs2 hI2 hS2 => ?_)
  refine W.lcmp hx hb dL_law_1049 ?_
  refine lv_if_eq (tgt := 1185) hx hb dL_law_1050 (by decide) (fun _ => ?_) (fun h => absurd cmp_self h)
  exact kk _ H2 locs2 _ _ hI2 hS2 (by omega) (by omega)
set_option maxHeartbeats 4000000 in
set_option maxRecDepth 100000 in
theorem lwc_told (X : LC p s m c b L xs D cs ad rL rG sL sG) (hl : lv_has ls 4 (lvL b o ad i)) (hi : 4 * i + 4 ≤ L) (hL : L ≤ 2048) (hI : LI D cs o a1 a2 k r ad s.heap.size i F H) (hS : va_S (fun x => s.heap.size ≤ x) s.heap H locs) (hc : cells + 3 * i + 4 ≤ 600000) (hs : slots + 31 * i + 31 ≤ 7302250)
    (kk : ∀ (F1 : mZ) (H1 : Heap) (locs1 : List Loc) (c1 s1 : Nat), LI D cs o a1 a2 k r ad s.heap.size (i + 1) F1 H1 → va_S (fun x => s.heap.size ≤ x) s.heap H1 locs1 → c1 ≤ cells + 3 * i + 4 → s1 ≤ slots + 31 * i + 31 → W p l e room_1 s m #[Value.ref b] below meth c H1 locs1 c1 s1 Q (F0 m 1185 ls [])) : W p l e room_1 s m #[Value.ref b] below meth c H locs cells slots Q (F0 m 1055 ls []) := by
  have S := X.1
  obtain ⟨hx, hb, hml, hown, hts⟩ := id S
  have hq := gT_ask hI.2.1 (by omega)
  have had := X.2.2.2.2.1
  have hfl := X.2.2.2.2.2.2.2.2
  refine lv_aload_n hx hb dL_law_1055 rfl (lv_at hl 1 rfl) ?_
  refine lw_arg (jn := 0) 1 (by decide) X hl hi hL hS (v := 1) rfl dL_law_1056 dL_law_1057 (fun w => lv_iconst (v := 1) hx hb dL_law_1058 (by decide) w) dL_law_1059 dL_law_1060 ?_
  refine lw_arg (jn := 0) 2 (by decide) X hl hi hL hS (v := 2) rfl dL_law_1061 dL_law_1062 (fun w => lv_iconst (v := 2) hx hb dL_law_1063 (by decide) w) dL_law_1064 dL_law_1065 ?_
  refine lw_look S X.2.1 hI (As := [.int (xs (4 * i + 1)), .int (xs (4 * i + 2))]) (rest := []) (cC_X11_told l D cs o a1 a2 k r (fzL s.heap.size ad) i F _ (by omega) (xs (4 * i + 1)) (xs (4 * i + 2))) (cwV 2 hts gL_law_X11_told rfl rfl rfl (by decide +kernel) ⟨Nat.le_of_ble_eq_true rfl, Nat.le_of_ble_eq_true rfl⟩) rfl hl.1 rfl (Nat.le_of_ble_eq_true rfl) dL_law_1066 ⟨show cells ≤ 600000 by omega, show slots ≤ 7302250 by omega⟩ ?_
  refine lv_aload_n hx hb dL_law_1069 rfl (lv_at hl 2 rfl) ?_
  refine lw_arg (jn := 0) 1 (by decide) X hl hi hL hS (v := 1) rfl dL_law_1070 dL_law_1071 (fun w => lv_iconst (v := 1) hx hb dL_law_1072 (by decide) w) dL_law_1073 dL_law_1074 ?_
  refine lw_arg (jn := 0) 2 (by decide) X hl hi hL hS (v := 2) rfl dL_law_1075 dL_law_1076 (fun w => lv_iconst (v := 2) hx hb dL_law_1077 (by decide) w) dL_law_1078 dL_law_1079 ?_
  refine lw_mod (v := .int (sp_told F (xs (4 * i + 1)) (xs (4 * i + 2)))) (F' := F) S X.2.2.1 hI.1 (gT_up hI.2.1 (Nat.le_succ _)) hI.2.2 had.2 hS (As := [.int (xs (4 * i + 1)), .int (xs (4 * i + 2))]) (rest := [(.int (sp_told F (xs (4 * i + 1)) (xs (4 * i + 2))))]) (cM_told l D (cs 0) (cs 1) ad F _ had.1 (xs (4 * i + 1)) (xs (4 * i + 2)) hq.1) (cwV 2 hts gL_law_X13_told rfl rfl rfl (by decide +kernel) ⟨Nat.le_of_ble_eq_true rfl, Nat.le_of_ble_eq_true rfl⟩) rfl hl.1 rfl (Nat.le_of_ble_eq_true rfl) dL_law_1080 ⟨show cells + 0 ≤ 600000 by omega, show slots + 0 ≤ 7302250 by omega⟩ (fun H2 locs2 hI2 hS2 => ?_)
  refine lv_icmp_eq (tgt := 1185) hx hb dL_law_1083 (by decide) (fun _ => ?_) (fun h => absurd rfl h)
  exact kk _ H2 locs2 _ _ hI2 hS2 (by omega) (by omega)
set_option maxHeartbeats 4000000 in
set_option maxRecDepth 100000 in
theorem lwc_half (X : LC p s m c b L xs D cs ad rL rG sL sG) (hl : lv_has ls 4 (lvL b o ad i)) (hi : 4 * i + 4 ≤ L) (hL : L ≤ 2048) (hI : LI D cs o a1 a2 k r ad s.heap.size i F H) (hS : va_S (fun x => s.heap.size ≤ x) s.heap H locs) (hc : cells + 3 * i + 4 ≤ 600000) (hs : slots + 31 * i + 31 ≤ 7302250)
    (kk : ∀ (F1 : mZ) (H1 : Heap) (locs1 : List Loc) (c1 s1 : Nat), LI D cs o a1 a2 k r ad s.heap.size (i + 1) F1 H1 → va_S (fun x => s.heap.size ≤ x) s.heap H1 locs1 → c1 ≤ cells + 3 * i + 4 → s1 ≤ slots + 31 * i + 31 → W p l e room_1 s m #[Value.ref b] below meth c H1 locs1 c1 s1 Q (F0 m 1185 ls [])) : W p l e room_1 s m #[Value.ref b] below meth c H locs cells slots Q (F0 m 1088 ls []) := by
  have S := X.1
  obtain ⟨hx, hb, hml, hown, hts⟩ := id S
  have hq := gT_ask hI.2.1 (by omega)
  have had := X.2.2.2.2.1
  have hfl := X.2.2.2.2.2.2.2.2
  refine lv_aload_n hx hb dL_law_1088 rfl (lv_at hl 1 rfl) ?_
  refine lw_look S X.2.1 hI (As := []) (rest := []) (cC_X11_half l D cs o a1 a2 k r (fzL s.heap.size ad) i F _ (by omega)) (cwV 0 hts gL_law_X11_half rfl rfl rfl (by decide +kernel) ⟨Nat.le_of_ble_eq_true rfl, Nat.le_of_ble_eq_true rfl⟩) rfl hl.1 rfl (Nat.le_of_ble_eq_true rfl) dL_law_1089 ⟨show cells ≤ 600000 by omega, show slots ≤ 7302250 by omega⟩ ?_
  refine lv_aload_n hx hb dL_law_1092 rfl (lv_at hl 2 rfl) ?_
  refine lw_mod (v := .int (sp_half F)) (F' := F) S X.2.2.1 hI.1 (gT_up hI.2.1 (Nat.le_succ _)) hI.2.2 had.2 hS (As := []) (rest := [(.int (sp_half F))]) (cM_half l D (cs 0) (cs 1) ad F _ had.1) (cwV 0 hts gL_law_X13_half rfl rfl rfl (by decide +kernel) ⟨Nat.le_of_ble_eq_true rfl, Nat.le_of_ble_eq_true rfl⟩) rfl hl.1 rfl (Nat.le_of_ble_eq_true rfl) dL_law_1093 ⟨show cells + 0 ≤ 600000 by omega, show slots + 0 ≤ 7302250 by omega⟩ (fun H2 locs2 hI2 hS2 => ?_)
  refine lv_icmp_eq (tgt := 1185) hx hb dL_law_1096 (by decide) (fun _ => ?_) (fun h => absurd rfl h)
  exact kk _ H2 locs2 _ _ hI2 hS2 (by omega) (by omega)
end LCA4
