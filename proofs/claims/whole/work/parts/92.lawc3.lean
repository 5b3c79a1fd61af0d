/-! the law's cases (by law.py) -/
section LCA3
variable {p : Program} {l : Launch} {e : Env} {s : State} {m : MethodId} {below : List Frame} {meth : Method} {c : Code} {H : Heap} {cells slots : Nat} {Q : State → Prop} {ls : Array Slot} {rest : List Value} {locs : List Loc}
variable {D : va_G} {cs : Nat → ClassId} {b L o i : Nat} {xs : Nat → Int32} {a1 a2 k r ad : Nat → Nat} {F : mZ} {rL rG sL sG : Nat}
set_option maxHeartbeats 4000000 in
set_option maxRecDepth 100000 in
theorem lwc_forfeit (X : LC p s m c b L xs D cs ad rL rG sL sG) (hl : lv_has ls 4 (lvL b o ad i)) (hi : 4 * i + 4 ≤ L) (hL : L ≤ 2048) (hI : LI D cs o a1 a2 k r ad s.heap.size i F H) (hS : va_S (fun x => s.heap.size ≤ x) s.heap H locs) (hc : cells + 3 * i + 4 ≤ 600000) (hs : slots + 31 * i + 31 ≤ 7302250)
    (kk : ∀ (F1 : mZ) (H1 : Heap) (locs1 : List Loc) (c1 s1 : Nat), LI D cs o a1 a2 k r ad s.heap.size (i + 1) F1 H1 → va_S (fun x => s.heap.size ≤ x) s.heap H1 locs1 → c1 ≤ cells + 3 * i + 4 → s1 ≤ slots + 31 * i + 31 → W p l e room_1 s m #[Value.ref b] below meth c H1 locs1 c1 s1 Q (F0 m 1185 ls [])) : W p l e room_1 s m #[Value.ref b] below meth c H locs cells slots Q (F0 m 814 ls []) := by
  have S := X.1
  obtain ⟨hx, hb, hml, hown, hts⟩ := id S
  have hq := gT_ask hI.2.1 (by omega)
  have had := X.2.2.2.2.1
  have hfl := X.2.2.2.2.2.2.2.2
  refine lv_aload_n hx hb dL_law_814 rfl (lv_at hl 1 rfl) ?_
  refine lw_arg (jn := 0) 1 (by decide) X hl hi hL hS (v := 1) rfl dL_law_815 dL_law_816 (fun w => lv_iconst (v := 1) hx hb dL_law_817 (by decide) w) dL_law_818 dL_law_819 ?_
  refine lw_cls (q := sp_forfeit F (xs (4 * i + 1))) S X.2.1 hI hS (As := [.int (xs (4 * i + 1))]) (rest := []) (cC_X11_forfeit l D cs o a1 a2 k r (fzL s.heap.size ad) i F _ (by omega) (xs (4 * i + 1))) (cwV 1 hts gL_law_X11_forfeit rfl rfl rfl (by decide +kernel) ⟨Nat.le_of_ble_eq_true rfl, Nat.le_of_ble_eq_true rfl⟩) rfl hl.1 rfl (Nat.le_of_ble_eq_true rfl) dL_law_820 ⟨show cells + 0 ≤ 600000 by omega, show slots + 0 ≤ 7302250 by omega⟩ (fun H1 locs1 hG hS => ?_)
  refine lv_aload_n hx hb dL_law_823 rfl (lv_at hl 2 rfl) ?_
  refine lw_arg (jn := 0) 1 (by decide) X hl hi hL hS (v := 1) rfl dL_law_824 dL_law_825 (fun w => lv_iconst (v := 1) hx hb dL_law_826 (by decide) w) dL_law_827 dL_law_828 ?_
  refine lw_mod (v := .int (sp_forfeit F (xs (4 * i + 1))).1) (F' := (sp_forfeit F (xs (4 * i + 1))).2) S X.2.2.1 hG.1 hG.2.1 hG.2.2 had.2 hS (As := [.int (xs (4 * i + 1))]) (rest := [(.int (sp_forfeit F (xs (4 * i + 1))).1)]) (cM_forfeit l D (cs 0) (cs 1) ad F _ had.1 (xs (4 * i + 1)) hq.1) (cwV 1 hts gL_law_X13_forfeit rfl rfl rfl (by decide +kernel) ⟨Nat.le_of_ble_eq_true rfl, Nat.le_of_ble_eq_true rfl⟩) rfl hl.1 rfl (Nat.le_of_ble_eq_true rfl) dL_law_829 ⟨show cells + 0 + 0 ≤ 600000 by omega, show slots + 0 + 0 ≤ 7302250 by omega⟩ (fun H2 locs2 hI2 hS2 => ?_)
  refine lv_icmp_eq (tgt := 1185) hx hb dL_law_832 (by decide) (fun _ => ?_) (fun h => absurd rfl h)
  exact kk _ H2 locs2 _ _ hI2 hS2 (by omega) (by omega)
set_option maxHeartbeats 4000000 in
set_option maxRecDepth 100000 in
theorem lwc_bid (X : LC p s m c b L xs D cs ad rL rG sL sG) (hl : lv_has ls 4 (lvL b o ad i)) (hi : 4 * i + 4 ≤ L) (hL : L ≤ 2048) (hI : LI D cs o a1 a2 k r ad s.heap.size i F H) (hS : va_S (fun x => s.heap.size ≤ x) s.heap H locs) (hc : cells + 3 * i + 4 ≤ 600000) (hs : slots + 31 * i + 31 ≤ 7302250)
    (kk : ∀ (F1 : mZ) (H1 : Heap) (locs1 : List Loc) (c1 s1 : Nat), LI D cs o a1 a2 k r ad s.heap.size (i + 1) F1 H1 → va_S (fun x => s.heap.size ≤ x) s.heap H1 locs1 → c1 ≤ cells + 3 * i + 4 → s1 ≤ slots + 31 * i + 31 → W p l e room_1 s m #[Value.ref b] below meth c H1 locs1 c1 s1 Q (F0 m 1185 ls [])) : W p l e room_1 s m #[Value.ref b] below meth c H locs cells slots Q (F0 m 837 ls []) := by
  have S := X.1
  obtain ⟨hx, hb, hml, hown, hts⟩ := id S
  have hq := gT_ask hI.2.1 (by omega)
  have had := X.2.2.2.2.1
  have hfl := X.2.2.2.2.2.2.2.2
  refine lv_aload_n hx hb dL_law_837 rfl (lv_at hl 1 rfl) ?_
  refine lw_arg (jn := 0) 1 (by decide) X hl hi hL hS (v := 1) rfl dL_law_838 dL_law_839 (fun w => lv_iconst (v := 1) hx hb dL_law_840 (by decide) w) dL_law_841 dL_law_842 ?_
  refine lw_arg (jn := 0) 2 (by decide) X hl hi hL hS (v := 2) rfl dL_law_843 dL_law_844 (fun w => lv_iconst (v := 2) hx hb dL_law_845 (by decide) w) dL_law_846 dL_law_847 ?_
  refine lw_cls (q := sp_bid F (xs (4 * i + 1)) (xs (4 * i + 2))) S X.2.1 hI hS (As := [.int (xs (4 * i + 1)), .int (xs (4 * i + 2))]) (rest := []) (cC_X11_bid l D cs o a1 a2 k r (fzL s.heap.size ad) i F _ (by omega) (xs (4 * i + 1)) (xs (4 * i + 2))) (cwV 2 hts gL_law_X11_bid rfl rfl rfl (by decide +kernel) ⟨Nat.le_of_ble_eq_true rfl, Nat.le_of_ble_eq_true rfl⟩) rfl hl.1 rfl (Nat.le_of_ble_eq_true rfl) dL_law_848 ⟨show cells + 0 ≤ 600000 by omega, show slots + 0 ≤ 7302250 by omega⟩ (fun H1 locs1 hG hS => ?_)
  refine lv_aload_n hx hb dL_law_851 rfl (lv_at hl 2 rfl) ?_
  refine lw_arg (jn := 0) 1 (by decide) X hl hi hL hS (v := 1) rfl dL_law_852 dL_law_853 (fun w => lv_iconst (v := 1) hx hb dL_law_854 (by decide) w) dL_law_855 dL_law_856 ?_
  refine lw_arg (jn := 0) 2 (by decide) X hl hi hL hS (v := 2) rfl dL_law_857 dL_law_858 (fun w => lv_iconst (v := 2) hx hb dL_law_859 (by decide) w) dL_law_860 dL_law_861 ?_
  refine lw_mod (v := .int (sp_bid F (xs (4 * i + 1)) (xs (4 * i + 2))).1) (F' := (sp_bid F (xs (4 * i + 1)) (xs (4 * i + 2))).2) S X.2.2.1 hG.1 hG.2.1 hG.2.2 had.2 hS (As := [.int (xs (4 * i + 1)), .int (xs (4 * i + 2))]) (rest := [(.int (sp_bid F (xs (4 * i + 1)) (xs (4 * i + 2))).1)]) (cM_bid l D (cs 0) (cs 1) ad F _ had.1 (xs (4 * i + 1)) (xs (4 * i + 2)) hq.1) (cwV 2 hts gL_law_X13_bid rfl rfl rfl (by decide +kernel) ⟨Nat.le_of_ble_eq_true rfl, Nat.le_of_ble_eq_true rfl⟩) rfl hl.1 rfl (Nat.le_of_ble_eq_true rfl) dL_law_862 ⟨show cells + 0 + 0 ≤ 600000 by omega, show slots + 0 + 0 ≤ 7302250 by omega⟩ (fun H2 locs2 hI2 hS2 => ?_)
  refine lv_icmp_eq (tgt := 1185) hx hb dL_law_865 (by decide) (fun _ => ?_) (fun h => absurd rfl h)
  exact kk _ H2 locs2 _ _ hI2 hS2 (by omega) (by omega)
set_option maxHeartbeats 4000000 in
set_option maxRecDepth 100000 in
theorem lwc_sale (X : LC p s m c b L xs D cs ad rL rG sL sG) (hl : lv_has ls 4 (lvL b o ad i)) (hi : 4 * i + 4 ≤ L) (hL : L ≤ 2048) (hI : LI D cs o a1 a2 k r ad s.heap.size i F H) (hS : va_S (fun x => s.heap.size ≤ x) s.heap H locs) (hc : cells + 3 * i + 4 ≤ 600000) (hs : slots + 31 * i + 31 ≤ 7302250)
    (kk : ∀ (F1 : mZ) (H1 : Heap) (locs1 : List Loc) (c1 s1 : Nat), LI D cs o a1 a2 k r ad s.heap.size (i + 1) F1 H1 → va_S (fun x => s.heap.size ≤ x) s.heap H1 locs1 → c1 ≤ cells + 3 * i + 4 → s1 ≤ slots + 31 * i + 31 → W p l e room_1 s m #[Value.ref b] below meth c H1 locs1 c1 s1 Q (F0 m 1185 ls [])) : W p l e room_1 s m #[Value.ref b] below meth c H locs cells slots Q (F0 m 870 ls []) := by
  have S := X.1
  obtain ⟨hx, hb, hml, hown, hts⟩ := id S
  have hq := gT_ask hI.2.1 (by omega)
  have had := X.2.2.2.2.1
  have hfl := X.2.2.2.2.2.2.2.2
  refine lv_aload_n hx hb dL_law_870 rfl (lv_at hl 1 rfl) ?_
  refine lw_arg (jn := 0) 1 (by decide) X hl hi hL hS (v := 1) rfl dL_law_871 dL_law_872 (fun w => lv_iconst (v := 1) hx hb dL_law_873 (by decide) w) dL_law_874 dL_law_875 ?_
  refine lw_cls (q := sp_sale F (xs (4 * i + 1))) S X.2.1 hI hS (As := [.int (xs (4 * i + 1))]) (rest := []) (cC_X11_sale l D cs o a1 a2 k r (fzL s.heap.size ad) i F _ (by omega) (xs (4 * i + 1))) (cwV 1 hts gL_law_X11_sale rfl rfl rfl (by decide +kernel) ⟨Nat.le_of_ble_eq_true rfl, Nat.le_of_ble_eq_true rfl⟩) rfl hl.1 rfl (Nat.le_of_ble_eq_true rfl) dL_law_876 ⟨show cells + 0 ≤ 600000 by omega, show slots + 0 ≤ 7302250 by omega⟩ (fun H1 locs1 hG hS => ?_)
  refine lv_aload_n hx hb dL_law_879 rfl (lv_at hl 2 rfl) ?_
  refine lw_arg (jn := 0) 1 (by decide) X hl hi hL hS (v := 1) rfl dL_law_880 dL_law_881 (fun w => lv_iconst (v := 1) hx hb dL_law_882 (by decide) w) dL_law_883 dL_law_884 ?_
  refine lw_mod (v := .int (sp_sale F (xs (4 * i + 1))).1) (F' := (sp_sale F (xs (4 * i + 1))).2) S X.2.2.1 hG.1 hG.2.1 hG.2.2 had.2 hS (As := [.int (xs (4 * i + 1))]) (rest := [(.int (sp_sale F (xs (4 * i + 1))).1)]) (cM_sale l D (cs 0) (cs 1) ad F _ had.1 (xs (4 * i + 1)) hq.1 (fun h => (hq.2.2.1 _ h).1)) (cwV 1 hts gL_law_X13_sale rfl rfl rfl (by decide +kernel) ⟨Nat.le_of_ble_eq_true rfl, Nat.le_of_ble_eq_true rfl⟩) rfl hl.1 rfl (Nat.le_of_ble_eq_true rfl) dL_law_885 ⟨show cells + 0 + 0 ≤ 600000 by omega, show slots + 0 + 0 ≤ 7302250 by omega⟩ (fun H2 locs2 hI2 hS2 => ?_)
  refine lv_icmp_eq (tgt := 1185) hx hb dL_law_888 (by decide) (fun _ => ?_) (fun h => absurd rfl h)
  exact kk _ H2 locs2 _ _ hI2 hS2 (by omega) (by omega)
set_option maxHeartbeats 4000000 in
set_option maxRecDepth 100000 in
theorem lwc_fetch (X : LC p s m c b L xs D cs ad rL rG sL sG) (hl : lv_has ls 4 (lvL b o ad i)) (hi : 4 * i + 4 ≤ L) (hL : L ≤ 2048) (hI : LI D cs o a1 a2 k r ad s.heap.size i F H) (hS : va_S (fun x => s.heap.size ≤ x) s.heap H locs) (hc : cells + 3 * i + 4 ≤ 600000) (hs : slots + 31 * i + 31 ≤ 7302250)
    (kk : ∀ (F1 : mZ) (H1 : Heap) (locs1 : List Loc) (c1 s1 : Nat), LI D cs o a1 a2 k r ad s.heap.size (i + 1) F1 H1 → va_S (fun x => s.heap.size ≤ x) s.heap H1 locs1 → c1 ≤ cells + 3 * i + 4 → s1 ≤ slots + 31 * i + 31 → W p l e room_1 s m #[Value.ref b] below meth c H1 locs1 c1 s1 Q (F0 m 1185 ls [])) : W p l e room_1 s m #[Value.ref b] below meth c H locs cells slots Q (F0 m 893 ls []) := by
  have S := X.1
  obtain ⟨hx, hb, hml, hown, hts⟩ := id S
  have hq := gT_ask hI.2.1 (by omega)
  have had := X.2.2.2.2.1
  have hfl := X.2.2.2.2.2.2.2.2
  refine lv_aload_n hx hb dL_law_893 rfl (lv_at hl 1 rfl) ?_
  refine lw_arg (jn := 0) 1 (by decide) X hl hi hL hS (v := 1) rfl dL_law_894 dL_law_895 (fun w => lv_iconst (v := 1) hx hb dL_law_896 (by decide) w) dL_law_897 dL_law_898 ?_
  refine lw_arg (jn := 0) 2 (by decide) X hl hi hL hS (v := 2) rfl dL_law_899 dL_law_900 (fun w => lv_iconst (v := 2) hx hb dL_law_901 (by decide) w) dL_law_902 dL_law_903 ?_
  refine lw_cls (q := sp_fetch F (xs (4 * i + 1)) (xs (4 * i + 2))) S X.2.1 hI hS (As := [.int (xs (4 * i + 1)), .int (xs (4 * i + 2))]) (rest := []) (cC_X11_fetch l D cs o a1 a2 k r (fzL s.heap.size ad) i F _ (by omega) (xs (4 * i + 1)) (xs (4 * i + 2))) (cwV 2 hts gL_law_X11_fetch rfl rfl rfl (by decide +kernel) ⟨Nat.le_of_ble_eq_true rfl, Nat.le_of_ble_eq_true rfl⟩) rfl hl.1 rfl (Nat.le_of_ble_eq_true rfl) dL_law_904 ⟨show cells + 0 ≤ 600000 by omega, show slots + 0 ≤ 7302250 by omega⟩ (fun H1 locs1 hG hS => ?_)
  refine lv_aload_n hx hb dL_law_907 rfl (lv_at hl 2 rfl) ?_
  refine lw_arg (jn := 0) 1 (by decide) X hl hi hL hS (v := 1) rfl dL_law_908 dL_law_909 (fun w => lv_iconst (v := 1) hx hb dL_law_910 (by decide) w) dL_law_911 dL_law_912 ?_
  refine lw_arg (jn := 0) 2 (by decide) X hl hi hL hS (v := 2) rfl dL_law_913 dL_law_914 (fun w => lv_iconst (v := 2) hx hb dL_law_915 (by decide) w) dL_law_916 dL_law_917 ?_
  refine lw_mod (v := .int (sp_fetch F (xs (4 * i + 1)) (xs (4 * i + 2))).1) (F' := (sp_fetch F (xs (4 * i + 1)) (xs (4 * i + 2))).2) S X.2.2.1 hG.1 hG.2.1 hG.2.2 had.2 hS (As := [.int (xs (4 * i + 1)), .int (xs (4 * i + 2))]) (rest := [(.int (sp_fetch F (xs (4 * i + 1)) (xs (4 * i + 2))).1)]) (cM_fetch l D (cs 0) (cs 1) ad F _ had.1 (xs (4 * i + 1)) (xs (4 * i + 2)) hq.1) (cwV 2 hts gL_law_X13_fetch rfl rfl rfl (by decide +kernel) ⟨Nat.le_of_ble_eq_true rfl, Nat.le_of_ble_eq_true rfl⟩) rfl hl.1 rfl (Nat.le_of_ble_eq_true rfl) dL_law_918 ⟨show cells + 0 + 0 ≤ 600000 by omega, show slots + 0 + 0 ≤ 7302250 by omega⟩ (fun H2 locs2 hI2 hS2 => ?_)
  refine lv_icmp_eq (tgt := 1185) hx hb dL_law_921 (by decide) (fun _ => ?_) (fun h => absurd rfl h)
  exact kk _ H2 locs2 _ _ hI2 hS2 (by omega) (by omega)
set_option maxHeartbeats 4000000 in
set_option maxRecDepth 100000 in
theorem lwc_claim (X : LC p s m c b L xs D cs ad rL rG sL sG) (hl : lv_has ls 4 (lvL b o ad i)) (hi : 4 * i + 4 ≤ L) (hL : L ≤ 2048) (hI : LI D cs o a1 a2 k r ad s.heap.size i F H) (hS : va_S (fun x => s.heap.size ≤ x) s.heap H locs) (hc : cells + 3 * i + 4 ≤ 600000) (hs : slots + 31 * i + 31 ≤ 7302250)
    (kk : ∀ (F1 : mZ) (H1 : Heap) (locs1 : List Loc) (c1 s1 : Nat), LI D cs o a1 a2 k r ad s.heap.size (i + 1) F1 H1 → va_S (fun x => s.heap.size ≤ x) s.heap H1 locs1 → c1 ≤ cells + 3 * i + 4 → s1 ≤ slots + 31 * i + 31 → W p l e room_1 s m #[Value.ref b] below meth c H1 locs1 c1 s1 Q (F0 m 1185 ls [])) : W p l e room_1 s m #[Value.ref b] below meth c H locs cells slots Q (F0 m 926 ls []) := by
  have S := X.1
  obtain ⟨hx, hb, hml, hown, hts⟩ := id S
  have hq := gT_ask hI.2.1 (by omega)
  have had := X.2.2.2.2.1
  have hfl := X.2.2.2.2.2.2.2.2
  refine lv_aload_n hx hb dL_law_926 rfl (lv_at hl 1 rfl) ?_
  refine lw_arg (jn := 0) 1 (by decide) X hl hi hL hS (v := 1) rfl dL_law_927 dL_law_928 (fun w => lv_iconst (v := 1) hx hb dL_law_929 (by decide) w) dL_law_930 dL_law_931 ?_
  refine lw_cls (q := sp_claim F (xs (4 * i + 1))) S X.2.1 hI hS (As := [.int (xs (4 * i + 1))]) (rest := []) (cC_X11_claim l D cs o a1 a2 k r (fzL s.heap.size ad) i F _ (by omega) (xs (4 * i + 1))) (cwV 1 hts gL_law_X11_claim rfl rfl rfl (by decide +kernel) ⟨Nat.le_of_ble_eq_true rfl, Nat.le_of_ble_eq_true rfl⟩) rfl hl.1 rfl (Nat.le_of_ble_eq_true rfl) dL_law_932 ⟨show cells + 0 ≤ 600000 by omega, show slots + 0 ≤ 7302250 by omega⟩ (fun H1 locs1 hG hS => ?_)
  refine lv_aload_n hx hb dL_law_935 rfl (lv_at hl 2 rfl) ?_
  refine lw_arg (jn := 0) 1 (by decide) X hl hi hL hS (v := 1) rfl dL_law_936 dL_law_937 (fun w => lv_iconst (v := 1) hx hb dL_law_938 (by decide) w) dL_law_939 dL_law_940 ?_
  refine lw_mod (v := .int (sp_claim F (xs (4 * i + 1))).1) (F' := (sp_claim F (xs (4 * i + 1))).2) S X.2.2.1 hG.1 hG.2.1 hG.2.2 had.2 hS (As := [.int (xs (4 * i + 1))]) (rest := [(.int (sp_claim F (xs (4 * i + 1))).1)]) (cM_claim l D (cs 0) (cs 1) ad F _ had.1 (xs (4 * i + 1)) hq.1) (cwV 1 hts gL_law_X13_claim rfl rfl rfl (by decide +kernel) ⟨Nat.le_of_ble_eq_true rfl, Nat.le_of_ble_eq_true rfl⟩) rfl hl.1 rfl (Nat.le_of_ble_eq_true rfl) dL_law_941 ⟨show cells + 0 + 0 ≤ 600000 by omega, show slots + 0 + 0 ≤ 7302250 by omega⟩ (fun H2 locs2 hI2 hS2 => ?_)
  refine lv_icmp_eq (tgt := 1185) hx hb dL_law_944 (by decide) (fun _ => ?_) (fun h => absurd rfl h)
  exact kk _ H2 locs2 _ _ hI2 hS2 (by omega) (by omega)
set_option maxHeartbeats 4000000 in
set_option maxRecDepth 100000 in
theorem lwc_drop (X : LC p s m c b L xs D cs ad rL rG sL sG) (hl : lv_has ls 4 (lvL b o ad i)) (hi : 4 * i + 4 ≤ L) (hL : L ≤ 2048) (hI : LI D cs o a1 a2 k r ad s.heap.size i F H) (hS : va_S (fun x => s.heap.size ≤ x) s.heap H locs) (hc : cells + 3 * i + 4 ≤ 600000) (hs : slots + 31 * i + 31 ≤ 7302250)
    (kk : ∀ (F1 : mZ) (H1 : Heap) (locs1 : List Loc) (c1 s1 : Nat), LI D cs o a1 a2 k r ad s.heap.size (i + 1) F1 H1 → va_S (fun x => s.heap.size ≤ x) s.heap H1 locs1 → c1 ≤ cells + 3 * i + 4 → s1 ≤ slots + 31 * i + 31 → W p l e room_1 s m #[Value.ref b] below meth c H1 locs1 c1 s1 Q (F0 m 1185 ls [])) : W p l e room_1 s m #[Value.ref b] below meth c H locs cells slots Q (F0 m 949 ls []) := by
  have S := X.1
  obtain ⟨hx, hb, hml, hown, hts⟩ := id S
  have hq := gT_ask hI.2.1 (by omega)
  have had := X.2.2.2.2.1
  have hfl := X.2.2.2.2.2.2.2.2
  refine lv_aload_n hx hb dL_law_949 rfl (lv_at hl 1 rfl) ?_
  refine lw_arg (jn := 0) 1 (by decide) X hl hi hL hS (v := 1) rfl dL_law_950 dL_law_951 (fun w => lv_iconst (v := 1) hx hb dL_law_952 (by decide) w) dL_law_953 dL_law_954 ?_
  refine lw_cls (q := sp_drop F (xs (4 * i + 1))) S X.2.1 hI hS (As := [.int (xs (4 * i + 1))]) (rest := []) (cC_X11_drop l D cs o a1 a2 k r (fzL s.heap.size ad) i F _ (by omega) (xs (4 * i + 1))) (cwV 1 hts gL_law_X11_drop rfl rfl rfl (by decide +kernel) ⟨Nat.le_of_ble_eq_true rfl, Nat.le_of_ble_eq_true rfl⟩) rfl hl.1 rfl (Nat.le_of_ble_eq_true rfl) dL_law_955 ⟨show cells + 0 ≤ 600000 by omega, show slots + 0 ≤ 7302250 by omega⟩ (fun H1 locs1 hG hS => ?_)
  refine lv_aload_n hx hb dL_law_958 rfl (lv_at hl 2 rfl) ?_
  refine lw_arg (jn := 0) 1 (by decide) X hl hi hL hS (v := 1) rfl dL_law_959 dL_law_960 (fun w => lv_iconst (v := 1) hx hb dL_law_961 (by decide) w) dL_law_962 dL_law_963 ?_
  refine lw_mod (v := .int (sp_drop F (xs (4 * i + 1))).1) (F' := (sp_drop F (xs (4 * i + 1))).2) S X.2.2.1 hG.1 hG.2.1 hG.2.2 had.2 hS (As := [.int (xs (4 * i + 1))]) (rest := [(.int (sp_drop F (xs (4 * i + 1))).1)]) (cM_drop l D (cs 0) (cs 1) ad F _ had.1 (xs (4 * i + 1)) hq.1) (cwV 1 hts gL_law_X13_drop rfl rfl rfl (by decide +kernel) ⟨Nat.le_of_ble_eq_true rfl, Nat.le_of_ble_eq_true rfl⟩) rfl hl.1 rfl (Nat.le_of_ble_eq_true rfl) dL_law_964 ⟨show cells + 0 + 0 ≤ 600000 by omega, show slots + 0 + 0 ≤ 7302250 by omega⟩ (fun H2 locs2 hI2 hS2 => ?_)
  refine lv_icmp_eq (tgt := 1185) hx hb dL_law_967 (by decide) (fun _ => ?_) (fun h => absurd rfl h)
  exact kk _ H2 locs2 _ _ hI2 hS2 (by omega) (by omega)
end LCA3
