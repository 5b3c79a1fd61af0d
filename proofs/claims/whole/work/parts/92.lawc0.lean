/-! the law's cases (by law.py) -/
section LCA0
variable {p : Program} {l : Launch} {e : Env} {s : State} {m : MethodId} {below : List Frame} {meth : Method} {c : Code} {H : Heap} {cells slots : Nat} {Q : State → Prop} {ls : Array Slot} {rest : List Value} {locs : List Loc}
variable {D : va_G} {cs : Nat → ClassId} {b L o i : Nat} {xs : Nat → Int32} {a1 a2 k r ad : Nat → Nat} {F : mZ} {rL rG sL sG : Nat}
set_option maxHeartbeats 4000000 in
set_option maxRecDepth 100000 in
theorem lwc_day (X : LC p s m c b L xs D cs ad rL rG sL sG) (hl : lv_has ls 4 (lvL b o ad i)) (hi : 4 * i + 4 ≤ L) (hL : L ≤ 2048) (hI : LI D cs o a1 a2 k r ad s.heap.size i F H) (hS : va_S (fun x => s.heap.size ≤ x) s.heap H locs) (hc : cells + 3 * i + 4 ≤ 600000) (hs : slots + 31 * i + 31 ≤ 7302250)
    (kk : ∀ (F1 : mZ) (H1 : Heap) (locs1 : List Loc) (c1 s1 : Nat), LI D cs o a1 a2 k r ad s.heap.size (i + 1) F1 H1 → va_S (fun x => s.heap.size ≤ x) s.heap H1 locs1 → c1 ≤ cells + 3 * i + 4 → s1 ≤ slots + 31 * i + 31 → W p l e room_1 s m #[Value.ref b] below meth c H1 locs1 c1 s1 Q (F0 m 1185 ls [])) : W p l e room_1 s m #[Value.ref b] below meth c H locs cells slots Q (F0 m 184 ls []) := by
  have S := X.1
  obtain ⟨hx, hb, hml, hown, hts⟩ := id S
  have hq := gT_ask hI.2.1 (by omega)
  have had := X.2.2.2.2.1
  have hfl := X.2.2.2.2.2.2.2.2
  refine lv_aload_n hx hb dL_law_184 rfl (lv_at hl 1 rfl) ?_
  refine lw_arg (jn := 0) 1 (by decide) X hl hi hL hS (v := 1) rfl dL_law_185 dL_law_186 (fun w => lv_iconst (v := 1) hx hb dL_law_187 (by decide) w) dL_law_188 dL_law_189 ?_
  refine lw_cls (q := sp_day F (xs (4 * i + 1))) S X.2.1 hI hS (As := [.int (xs (4 * i + 1))]) (rest := []) (cC_X11_day l D cs o a1 a2 k r (fzL s.heap.size ad) i F _ (by omega) (xs (4 * i + 1))) (cwV 1 hts gL_law_X11_day rfl rfl rfl (by decide +kernel) ⟨Nat.le_of_ble_eq_true rfl, Nat.le_of_ble_eq_true rfl⟩) rfl hl.1 rfl (Nat.le_of_ble_eq_true rfl) dL_law_190 ⟨show cells + 0 ≤ 600000 by omega, show slots + 0 ≤ 7302250 by omega⟩ (fun H1 locs1 hG hS => ?_)
  refine lv_aload_n hx hb dL_law_193 rfl (lv_at hl 2 rfl) ?_
  refine lw_arg (jn := 0) 1 (by decide) X hl hi hL hS (v := 1) rfl dL_law_194 dL_law_195 (fun w => lv_iconst (v := 1) hx hb dL_law_196 (by decide) w) dL_law_197 dL_law_198 ?_
  obtain ⟨d9, c9, q1, q2, q3, q4, q5⟩ := hq.2.2.2.2.2.1
  refine lw_mod (v := .int (sp_day F (xs (4 * i + 1))).1) (F' := (sp_day F (xs (4 * i + 1))).2) S X.2.2.1 hG.1 hG.2.1 hG.2.2 had.2 hS (As := [.int (xs (4 * i + 1))]) (rest := [(.int (sp_day F (xs (4 * i + 1))).1)]) (cM_dayR l D (cs 0) (cs 1) ad F _ had.1 (xs (4 * i + 1)) d9 q1 q2 c9 q3 q4 (fun nn _ h7 _ => q5 nn h7)) (cwV 1 hts gL_law_X13_day rfl rfl rfl (by decide +kernel) ⟨Nat.le_of_ble_eq_true rfl, Nat.le_of_ble_eq_true rfl⟩) rfl hl.1 rfl (Nat.le_of_ble_eq_true rfl) dL_law_199 ⟨show cells + 0 + 0 ≤ 600000 by omega, show slots + 0 + 0 ≤ 7302250 by omega⟩ (fun H2 locs2 hI2 hS2 => ?_)
  refine lv_icmp_eq (tgt := 1185) hx hb dL_law_202 (by decide) (fun _ => ?_) (fun h => absurd rfl h)
  exact kk _ H2 locs2 _ _ hI2 hS2 (by omega) (by omega)
set_option maxHeartbeats 4000000 in
set_option maxRecDepth 100000 in
theorem lwc_rule (X : LC p s m c b L xs D cs ad rL rG sL sG) (hl : lv_has ls 4 (lvL b o ad i)) (hi : 4 * i + 4 ≤ L) (hL : L ≤ 2048) (hI : LI D cs o a1 a2 k r ad s.heap.size i F H) (hS : va_S (fun x => s.heap.size ≤ x) s.heap H locs) (hc : cells + 3 * i + 4 ≤ 600000) (hs : slots + 31 * i + 31 ≤ 7302250)
    (kk : ∀ (F1 : mZ) (H1 : Heap) (locs1 : List Loc) (c1 s1 : Nat), LI D cs o a1 a2 k r ad s.heap.size (i + 1) F1 H1 → va_S (fun x => s.heap.size ≤ x) s.heap H1 locs1 → c1 ≤ cells + 3 * i + 4 → s1 ≤ slots + 31 * i + 31 → W p l e room_1 s m #[Value.ref b] below meth c H1 locs1 c1 s1 Q (F0 m 1185 ls [])) : W p l e room_1 s m #[Value.ref b] below meth c H locs cells slots Q (F0 m 207 ls []) := by
  have S := X.1
  obtain ⟨hx, hb, hml, hown, hts⟩ := id S
  have hq := gT_ask hI.2.1 (by omega)
  have had := X.2.2.2.2.1
  have hfl := X.2.2.2.2.2.2.2.2
  refine lv_aload_n hx hb dL_law_207 rfl (lv_at hl 1 rfl) ?_
  refine lw_arg (jn := 0) 1 (by decide) X hl hi hL hS (v := 1) rfl dL_law_208 dL_law_209 (fun w => lv_iconst (v := 1) hx hb dL_law_210 (by decide) w) dL_law_211 dL_law_212 ?_
  refine lw_arg (jn := 0) 2 (by decide) X hl hi hL hS (v := 2) rfl dL_law_213 dL_law_214 (fun w => lv_iconst (v := 2) hx hb dL_law_215 (by decide) w) dL_law_216 dL_law_217 ?_
  refine lw_clsV (q := sp_rule F (xs (4 * i + 1)) (xs (4 * i + 2))) stCT_same (LC_st X hS).1 S X.2.1 hI hS (As := [.int (xs (4 * i + 1)), .int (xs (4 * i + 2))]) (rest := []) (cC_X11_ruleT l D cs o a1 a2 k r (fzL s.heap.size ad) i F _ (by omega) (xs (4 * i + 1)) (xs (4 * i + 2)) rL rG) (cwV 2 hts gL_law_X11_rule rfl rfl rfl (by decide +kernel) ⟨Nat.le_of_ble_eq_true rfl, Nat.le_of_ble_eq_true rfl⟩) rfl hl.1 rfl (Nat.le_of_ble_eq_true rfl) dL_law_218 ⟨show cells + 0 ≤ 600000 by omega, show slots + 0 ≤ 7302250 by omega⟩ (fun H1 locs1 hG hS => ?_)
  refine lv_aload_n hx hb dL_law_221 rfl (lv_at hl 2 rfl) ?_
  refine lw_arg (jn := 0) 1 (by decide) X hl hi hL hS (v := 1) rfl dL_law_222 dL_law_223 (fun w => lv_iconst (v := 1) hx hb dL_law_224 (by decide) w) dL_law_225 dL_law_226 ?_
  refine lw_arg (jn := 0) 2 (by decide) X hl hi hL hS (v := 2) rfl dL_law_227 dL_law_228 (fun w => lv_iconst (v := 2) hx hb dL_law_229 (by decide) w) dL_law_230 dL_law_231 ?_
  refine lw_modX (v := .int (sp_rule F (xs (4 * i + 1)) (xs (4 * i + 2))).1) (F' := (sp_rule F (xs (4 * i + 1)) (xs (4 * i + 2))).2) stRT_same (LC_st X hS).2 S X.2.2.1 hG.1 hG.2.1 hG.2.2 had.2 hS (As := [.int (xs (4 * i + 1)), .int (xs (4 * i + 2))]) (rest := [(.int (sp_rule F (xs (4 * i + 1)) (xs (4 * i + 2))).1)]) (cM_ruleT l D (cs 0) (cs 1) ad F _ sL sG had.1 (xs (4 * i + 1)) (xs (4 * i + 2))) (cwV 2 hts gL_law_X13_rule rfl rfl rfl (by decide +kernel) ⟨Nat.le_of_ble_eq_true rfl, Nat.le_of_ble_eq_true rfl⟩) rfl hl.1 rfl (Nat.le_of_ble_eq_true rfl) dL_law_232 ⟨show cells + 0 + 0 ≤ 600000 by omega, show slots + 0 + 0 ≤ 7302250 by omega⟩ (fun H2 locs2 hI2 hS2 => ?_)
  refine lv_icmp_eq (tgt := 1185) hx hb dL_law_235 (by decide) (fun _ => ?_) (fun h => absurd rfl h)
  exact kk _ H2 locs2 _ _ hI2 hS2 (by omega) (by omega)
set_option maxHeartbeats 4000000 in
set_option maxRecDepth 100000 in
theorem lwc_thing (X : LC p s m c b L xs D cs ad rL rG sL sG) (hl : lv_has ls 4 (lvL b o ad i)) (hi : 4 * i + 4 ≤ L) (hL : L ≤ 2048) (hI : LI D cs o a1 a2 k r ad s.heap.size i F H) (hS : va_S (fun x => s.heap.size ≤ x) s.heap H locs) (hc : cells + 3 * i + 4 ≤ 600000) (hs : slots + 31 * i + 31 ≤ 7302250)
    (kk : ∀ (F1 : mZ) (H1 : Heap) (locs1 : List Loc) (c1 s1 : Nat), LI D cs o a1 a2 k r ad s.heap.size (i + 1) F1 H1 → va_S (fun x => s.heap.size ≤ x) s.heap H1 locs1 → c1 ≤ cells + 3 * i + 4 → s1 ≤ slots + 31 * i + 31 → W p l e room_1 s m #[Value.ref b] below meth c H1 locs1 c1 s1 Q (F0 m 1185 ls [])) : W p l e room_1 s m #[Value.ref b] below meth c H locs cells slots Q (F0 m 240 ls []) := by
  have S := X.1
  obtain ⟨hx, hb, hml, hown, hts⟩ := id S
  have hq := gT_ask hI.2.1 (by omega)
  have had := X.2.2.2.2.1
  have hfl := X.2.2.2.2.2.2.2.2
  refine lv_aload_n hx hb dL_law_240 rfl (lv_at hl 1 rfl) ?_
  refine lw_arg (jn := 0) 1 (by decide) X hl hi hL hS (v := 1) rfl dL_law_241 dL_law_242 (fun w => lv_iconst (v := 1) hx hb dL_law_243 (by decide) w) dL_law_244 dL_law_245 ?_
  refine lw_arg (jn := 0) 2 (by decide) X hl hi hL hS (v := 2) rfl dL_law_246 dL_law_247 (fun w => lv_iconst (v := 2) hx hb dL_law_248 (by decide) w) dL_law_249 dL_law_250 ?_
  refine lw_cls (q := sp_thing F (xs (4 * i + 1)) (xs (4 * i + 2))) S X.2.1 hI hS (As := [.int (xs (4 * i + 1)), .int (xs (4 * i + 2))]) (rest := []) (cC_X11_thing l D cs o a1 a2 k r (fzL s.heap.size ad) i F _ (by omega) (xs (4 * i + 1)) (xs (4 * i + 2))) (cwV 2 hts gL_law_X11_thing rfl rfl rfl (by decide +kernel) ⟨Nat.le_of_ble_eq_true rfl, Nat.le_of_ble_eq_true rfl⟩) rfl hl.1 rfl (Nat.le_of_ble_eq_true rfl) dL_law_251 ⟨show cells + 1 ≤ 600000 by omega, show slots + 1 ≤ 7302250 by omega⟩ (fun H1 locs1 hG hS => ?_)
  refine lv_aload_n hx hb dL_law_254 rfl (lv_at hl 2 rfl) ?_
  refine lw_arg (jn := 0) 1 (by decide) X hl hi hL hS (v := 1) rfl dL_law_255 dL_law_256 (fun w => lv_iconst (v := 1) hx hb dL_law_257 (by decide) w) dL_law_258 dL_law_259 ?_
  refine lw_arg (jn := 0) 2 (by decide) X hl hi hL hS (v := 2) rfl dL_law_260 dL_law_261 (fun w => lv_iconst (v := 2) hx hb dL_law_262 (by decide) w) dL_law_263 dL_law_264 ?_
  refine lw_mod (v := .int (sp_thing F (xs (4 * i + 1)) (xs (4 * i + 2))).1) (F' := (sp_thing F (xs (4 * i + 1)) (xs (4 * i + 2))).2) S X.2.2.1 hG.1 hG.2.1 hG.2.2 had.2 hS (As := [.int (xs (4 * i + 1)), .int (xs (4 * i + 2))]) (rest := [(.int (sp_thing F (xs (4 * i + 1)) (xs (4 * i + 2))).1)]) (cM_thing l D (cs 0) (cs 1) ad F _ had.1 (xs (4 * i + 1)) (xs (4 * i + 2))) (cwV 2 hts gL_law_X13_thing rfl rfl rfl (by decide +kernel) ⟨Nat.le_of_ble_eq_true rfl, Nat.le_of_ble_eq_true rfl⟩) rfl hl.1 rfl (Nat.le_of_ble_eq_true rfl) dL_law_265 ⟨show cells + 1 + 0 ≤ 600000 by omega, show slots + 1 + 0 ≤ 7302250 by omega⟩ (fun H2 locs2 hI2 hS2 => ?_)
  refine lv_icmp_eq (tgt := 1185) hx hb dL_law_268 (by decide) (fun _ => ?_) (fun h => absurd rfl h)
  exact kk _ H2 locs2 _ _ hI2 hS2 (by omega) (by omega)
set_option maxHeartbeats 4000000 in
set_option maxRecDepth 100000 in
theorem lwc_gold (X : LC p s m c b L xs D cs ad rL rG sL sG) (hl : lv_has ls 4 (lvL b o ad i)) (hi : 4 * i + 4 ≤ L) (hL : L ≤ 2048) (hI : LI D cs o a1 a2 k r ad s.heap.size i F H) (hS : va_S (fun x => s.heap.size ≤ x) s.heap H locs) (hc : cells + 3 * i + 4 ≤ 600000) (hs : slots + 31 * i + 31 ≤ 7302250)
    (kk : ∀ (F1 : mZ) (H1 : Heap) (locs1 : List Loc) (c1 s1 : Nat), LI D cs o a1 a2 k r ad s.heap.size (i + 1) F1 H1 → va_S (fun x => s.heap.size ≤ x) s.heap H1 locs1 → c1 ≤ cells + 3 * i + 4 → s1 ≤ slots + 31 * i + 31 → W p l e room_1 s m #[Value.ref b] below meth c H1 locs1 c1 s1 Q (F0 m 1185 ls [])) : W p l e room_1 s m #[Value.ref b] below meth c H locs cells slots Q (F0 m 273 ls []) := by
  have S := X.1
  obtain ⟨hx, hb, hml, hown, hts⟩ := id S
  have hq := gT_ask hI.2.1 (by omega)
  have had := X.2.2.2.2.1
  have hfl := X.2.2.2.2.2.2.2.2
  refine lv_aload_n hx hb dL_law_273 rfl (lv_at hl 1 rfl) ?_
  refine lw_arg (jn := 0) 1 (by decide) X hl hi hL hS (v := 1) rfl dL_law_274 dL_law_275 (fun w => lv_iconst (v := 1) hx hb dL_law_276 (by decide) w) dL_law_277 dL_law_278 ?_
  refine lw_arg (jn := 0) 2 (by decide) X hl hi hL hS (v := 2) rfl dL_law_279 dL_law_280 (fun w => lv_iconst (v := 2) hx hb dL_law_281 (by decide) w) dL_law_282 dL_law_283 ?_
  refine lv_i2f hx hb dL_law_284 ?_
  refine lv_ldcf (v := 1040187392) hx hb hown (hts (.constantFloat RL 27 (1040187392)) (by decide +kernel)) dL_law_285 ?_
  refine lv_fmul hx hb dL_law_287 (hfl _).1 ?_
  refine lw_arg (jn := 0) 3 (by decide) X hl hi hL hS (v := 3) rfl dL_law_288 dL_law_289 (fun w => lv_iconst (v := 3) hx hb dL_law_290 (by decide) w) dL_law_291 dL_law_292 ?_
  refine lw_cls (q := sp_gold F (xs (4 * i + 1)) (FP.fmul (FP.i2f (xs (4 * i + 2))) 1040187392) (xs (4 * i + 3))) S X.2.1 hI hS (As := [.int (xs (4 * i + 1)), .float (FP.fmul (FP.i2f (xs (4 * i + 2))) 1040187392), .int (xs (4 * i + 3))]) (rest := []) (cC_X11_gold l D cs o a1 a2 k r (fzL s.heap.size ad) i F _ (by omega) (xs (4 * i + 1)) (FP.fmul (FP.i2f (xs (4 * i + 2))) 1040187392) (xs (4 * i + 3)) (hfl _).2) (cwV 3 hts gL_law_X11_gold rfl rfl rfl (by decide +kernel) ⟨Nat.le_of_ble_eq_true rfl, Nat.le_of_ble_eq_true rfl⟩) rfl hl.1 rfl (Nat.le_of_ble_eq_true rfl) dL_law_293 ⟨show cells + 1 ≤ 600000 by omega, show slots + 3 ≤ 7302250 by omega⟩ (fun H1 locs1 hG hS => ?_)
  refine lv_aload_n hx hb dL_law_296 rfl (lv_at hl 2 rfl) ?_
  refine lw_arg (jn := 0) 1 (by decide) X hl hi hL hS (v := 1) rfl dL_law_297 dL_law_298 (fun w => lv_iconst (v := 1) hx hb dL_law_299 (by decide) w) dL_law_300 dL_law_301 ?_
  refine lw_arg (jn := 0) 2 (by decide) X hl hi hL hS (v := 2) rfl dL_law_302 dL_law_303 (fun w => lv_iconst (v := 2) hx hb dL_law_304 (by decide) w) dL_law_305 dL_law_306 ?_
  refine lv_i2f hx hb dL_law_307 ?_
  refine lv_ldcf (v := 1040187392) hx hb hown (hts (.constantFloat RL 27 (1040187392)) (by decide +kernel)) dL_law_308 ?_
  refine lv_fmul hx hb dL_law_310 (hfl _).1 ?_
  refine lw_arg (jn := 0) 3 (by decide) X hl hi hL hS (v := 3) rfl dL_law_311 dL_law_312 (fun w => lv_iconst (v := 3) hx hb dL_law_313 (by decide) w) dL_law_314 dL_law_315 ?_
  refine lw_mod (v := .int (sp_gold F (xs (4 * i + 1)) (FP.fmul (FP.i2f (xs (4 * i + 2))) 1040187392) (xs (4 * i + 3))).1) (F' := (sp_gold F (xs (4 * i + 1)) (FP.fmul (FP.i2f (xs (4 * i + 2))) 1040187392) (xs (4 * i + 3))).2) S X.2.2.1 hG.1 hG.2.1 hG.2.2 had.2 hS (As := [.int (xs (4 * i + 1)), .float (FP.fmul (FP.i2f (xs (4 * i + 2))) 1040187392), .int (xs (4 * i + 3))]) (rest := [(.int (sp_gold F (xs (4 * i + 1)) (FP.fmul (FP.i2f (xs (4 * i + 2))) 1040187392) (xs (4 * i + 3))).1)]) (cM_gold l D (cs 0) (cs 1) ad F _ had.1 (xs (4 * i + 1)) (FP.fmul (FP.i2f (xs (4 * i + 2))) 1040187392) (xs (4 * i + 3)) (fun h => ((hfl _).2 h).1)) (cwV 3 hts gL_law_X13_gold rfl rfl rfl (by decide +kernel) ⟨Nat.le_of_ble_eq_true rfl, Nat.le_of_ble_eq_true rfl⟩) rfl hl.1 rfl (Nat.le_of_ble_eq_true rfl) dL_law_316 ⟨show cells + 1 + 0 ≤ 600000 by omega, show slots + 3 + 0 ≤ 7302250 by omega⟩ (fun H2 locs2 hI2 hS2 => ?_)
  refine lv_icmp_eq (tgt := 1185) hx hb dL_law_319 (by decide) (fun _ => ?_) (fun h => absurd rfl h)
  exact kk _ H2 locs2 _ _ hI2 hS2 (by omega) (by omega)
set_option maxHeartbeats 4000000 in
set_option maxRecDepth 100000 in
theorem lwc_coat (X : LC p s m c b L xs D cs ad rL rG sL sG) (hl : lv_has ls 4 (lvL b o ad i)) (hi : 4 * i + 4 ≤ L) (hL : L ≤ 2048) (hI : LI D cs o a1 a2 k r ad s.heap.size i F H) (hS : va_S (fun x => s.heap.size ≤ x) s.heap H locs) (hc : cells + 3 * i + 4 ≤ 600000) (hs : slots + 31 * i + 31 ≤ 7302250)
    (kk : ∀ (F1 : mZ) (H1 : Heap) (locs1 : List Loc) (c1 s1 : Nat), LI D cs o a1 a2 k r ad s.heap.size (i + 1) F1 H1 → va_S (fun x => s.heap.size ≤ x) s.heap H1 locs1 → c1 ≤ cells + 3 * i + 4 → s1 ≤ slots + 31 * i + 31 → W p l e room_1 s m #[Value.ref b] below meth c H1 locs1 c1 s1 Q (F0 m 1185 ls [])) : W p l e room_1 s m #[Value.ref b] below meth c H locs cells slots Q (F0 m 324 ls []) := by
  have S := X.1
  obtain ⟨hx, hb, hml, hown, hts⟩ := id S
  have hq := gT_ask hI.2.1 (by omega)
  have had := X.2.2.2.2.1
  have hfl := X.2.2.2.2.2.2.2.2
  refine lv_aload_n hx hb dL_law_324 rfl (lv_at hl 1 rfl) ?_
  refine lw_arg (jn := 0) 1 (by decide) X hl hi hL hS (v := 1) rfl dL_law_325 dL_law_326 (fun w => lv_iconst (v := 1) hx hb dL_law_327 (by decide) w) dL_law_328 dL_law_329 ?_
  refine lw_arg (jn := 0) 2 (by decide) X hl hi hL hS (v := 2) rfl dL_law_330 dL_law_331 (fun w => lv_iconst (v := 2) hx hb dL_law_332 (by decide) w) dL_law_333 dL_law_334 ?_
  refine lw_arg (jn := 0) 3 (by decide) X hl hi hL hS (v := 3) rfl dL_law_335 dL_law_336 (fun w => lv_iconst (v := 3) hx hb dL_law_337 (by decide) w) dL_law_338 dL_law_339 ?_
  refine lw_cls (q := sp_coat F (xs (4 * i + 1)) (xs (4 * i + 2)) (xs (4 * i + 3))) S X.2.1 hI hS (As := [.int (xs (4 * i + 1)), .int (xs (4 * i + 2)), .int (xs (4 * i + 3))]) (rest := []) (cC_X11_coat l D cs o a1 a2 k r (fzL s.heap.size ad) i F _ (by omega) (xs (4 * i + 1)) (xs (4 * i + 2)) (xs (4 * i + 3))) (cwV 3 hts gL_law_X11_coat rfl rfl rfl (by decide +kernel) ⟨Nat.le_of_ble_eq_true rfl, Nat.le_of_ble_eq_true rfl⟩) rfl hl.1 rfl (Nat.le_of_ble_eq_true rfl) dL_law_340 ⟨show cells + 1 ≤ 600000 by omega, show slots + 3 ≤ 7302250 by omega⟩ (fun H1 locs1 hG hS => ?_)
  refine lv_aload_n hx hb dL_law_343 rfl (lv_at hl 2 rfl) ?_
  refine lw_arg (jn := 0) 1 (by decide) X hl hi hL hS (v := 1) rfl dL_law_344 dL_law_345 (fun w => lv_iconst (v := 1) hx hb dL_law_346 (by decide) w) dL_law_347 dL_law_348 ?_
  refine lw_arg (jn := 0) 2 (by decide) X hl hi hL hS (v := 2) rfl dL_law_349 dL_law_350 (fun w => lv_iconst (v := 2) hx hb dL_law_351 (by decide) w) dL_law_352 dL_law_353 ?_
  refine lw_arg (jn := 0) 3 (by decide) X hl hi hL hS (v := 3) rfl dL_law_354 dL_law_355 (fun w => lv_iconst (v := 3) hx hb dL_law_356 (by decide) w) dL_law_357 dL_law_358 ?_
  refine lw_mod (v := .int (sp_coat F (xs (4 * i + 1)) (xs (4 * i + 2)) (xs (4 * i + 3))).1) (F' := (sp_coat F (xs (4 * i + 1)) (xs (4 * i + 2)) (xs (4 * i + 3))).2) S X.2.2.1 hG.1 hG.2.1 hG.2.2 had.2 hS (As := [.int (xs (4 * i + 1)), .int (xs (4 * i + 2)), .int (xs (4 * i + 3))]) (rest := [(.int (sp_coat F (xs (4 * i + 1)) (xs (4 * i + 2)) (xs (4 * i + 3))).1)]) (cM_coat l D (cs 0) (cs 1) ad F _ had.1 (xs (4 * i + 1)) (xs (4 * i + 2)) (xs (4 * i + 3))) (cwV 3 hts gL_law_X13_coat rfl rfl rfl (by decide +kernel) ⟨Nat.le_of_ble_eq_true rfl, Nat.le_of_ble_eq_true rfl⟩) rfl hl.1 rfl (Nat.le_of_ble_eq_true rfl) dL_law_359 ⟨show cells + 1 + 0 ≤ 600000 by omega, show slots + 3 + 0 ≤ 7302250 by omega⟩ (fun H2 locs2 hI2 hS2 => ?_)
  refine lv_icmp_eq (tgt := 1185) hx hb dL_law_362 (by decide) (fun _ => ?_) (fun h => absurd rfl h)
  exact kk _ H2 locs2 _ _ hI2 hS2 (by omega) (by omega)
set_option maxHeartbeats 4000000 in
set_option maxRecDepth 100000 in
theorem lwc_rare (X : LC p s m c b L xs D cs ad rL rG sL sG) (hl : lv_has ls 4 (lvL b o ad i)) (hi : 4 * i + 4 ≤ L) (hL : L ≤ 2048) (hI : LI D cs o a1 a2 k r ad s.heap.size i F H) (hS : va_S (fun x => s.heap.size ≤ x) s.heap H locs) (hc : cells + 3 * i + 4 ≤ 600000) (hs : slots + 31 * i + 31 ≤ 7302250)
    (kk : ∀ (F1 : mZ) (H1 : Heap) (locs1 : List Loc) (c1 s1 : Nat), LI D cs o a1 a2 k r ad s.heap.size (i + 1) F1 H1 → va_S (fun x => s.heap.size ≤ x) s.heap H1 locs1 → c1 ≤ cells + 3 * i + 4 → s1 ≤ slots + 31 * i + 31 → W p l e room_1 s m #[Value.ref b] below meth c H1 locs1 c1 s1 Q (F0 m 1185 ls [])) : W p l e room_1 s m #[Value.ref b] below meth c H locs cells slots Q (F0 m 367 ls []) := by
  have S := X.1
  obtain ⟨hx, hb, hml, hown, hts⟩ := id S
  have hq := gT_ask hI.2.1 (by omega)
  have had := X.2.2.2.2.1
  have hfl := X.2.2.2.2.2.2.2.2
  refine lv_aload_n hx hb dL_law_367 rfl (lv_at hl 1 rfl) ?_
  refine lw_arg (jn := 0) 1 (by decide) X hl hi hL hS (v := 1) rfl dL_law_368 dL_law_369 (fun w => lv_iconst (v := 1) hx hb dL_law_370 (by decide) w) dL_law_371 dL_law_372 ?_
  refine lw_arg (jn := 0) 2 (by decide) X hl hi hL hS (v := 2) rfl dL_law_373 dL_law_374 (fun w => lv_iconst (v := 2) hx hb dL_law_375 (by decide) w) dL_law_376 dL_law_377 ?_
  refine lv_i2f hx hb dL_law_378 ?_
  refine lv_ldcf (v := 1040187392) hx hb hown (hts (.constantFloat RL 27 (1040187392)) (by decide +kernel)) dL_law_379 ?_
  refine lv_fmul hx hb dL_law_381 (hfl _).1 ?_
  refine lw_cls (q := sp_rare F (xs (4 * i + 1)) (FP.fmul (FP.i2f (xs (4 * i + 2))) 1040187392)) S X.2.1 hI hS (As := [.int (xs (4 * i + 1)), .float (FP.fmul (FP.i2f (xs (4 * i + 2))) 1040187392)]) (rest := []) (cC_X11_rare l D cs o a1 a2 k r (fzL s.heap.size ad) i F _ (by omega) (xs (4 * i + 1)) (FP.fmul (FP.i2f (xs (4 * i + 2))) 1040187392) (hfl _).2) (cwV 2 hts gL_law_X11_rare rfl rfl rfl (by decide +kernel) ⟨Nat.le_of_ble_eq_true rfl, Nat.le_of_ble_eq_true rfl⟩) rfl hl.1 rfl (Nat.le_of_ble_eq_true rfl) dL_law_382 ⟨show cells + 1 ≤ 600000 by omega, show slots + 6 ≤ 7302250 by omega⟩ (fun H1 locs1 hG hS => ?_)
  refine lv_aload_n hx hb dL_law_385 rfl (lv_at hl 2 rfl) ?_
  refine lw_arg (jn := 0) 1 (by decide) X hl hi hL hS (v := 1) rfl dL_law_386 dL_law_387 (fun w => lv_iconst (v := 1) hx hb dL_law_388 (by decide) w) dL_law_389 dL_law_390 ?_
  refine lw_arg (jn := 0) 2 (by decide) X hl hi hL hS (v := 2) rfl dL_law_391 dL_law_392 (fun w => lv_iconst (v := 2) hx hb dL_law_393 (by decide) w) dL_law_394 dL_law_395 ?_
  refine lv_i2f hx hb dL_law_396 ?_
  refine lv_ldcf (v := 1040187392) hx hb hown (hts (.constantFloat RL 27 (1040187392)) (by decide +kernel)) dL_law_397 ?_
  refine lv_fmul hx hb dL_law_399 (hfl _).1 ?_
  refine lw_mod (v := .int (sp_rare F (xs (4 * i + 1)) (FP.fmul (FP.i2f (xs (4 * i + 2))) 1040187392)).1) (F' := (sp_rare F (xs (4 * i + 1)) (FP.fmul (FP.i2f (xs (4 * i + 2))) 1040187392)).2) S X.2.2.1 hG.1 hG.2.1 hG.2.2 had.2 hS (As := [.int (xs (4 * i + 1)), .float (FP.fmul (FP.i2f (xs (4 * i + 2))) 1040187392)]) (rest := [(.int (sp_rare F (xs (4 * i + 1)) (FP.fmul (FP.i2f (xs (4 * i + 2))) 1040187392)).1)]) (cM_rare l D (cs 0) (cs 1) ad F _ had.1 (xs (4 * i + 1)) (FP.fmul (FP.i2f (xs (4 * i + 2))) 1040187392) (fun h => ((hfl _).2 h).1)) (cwV 2 hts gL_law_X13_rare rfl rfl rfl (by decide +kernel) ⟨Nat.le_of_ble_eq_true rfl, Nat.le_of_ble_eq_true rfl⟩) rfl hl.1 rfl (Nat.le_of_ble_eq_true rfl) dL_law_400 ⟨show cells + 1 + 0 ≤ 600000 by omega, show slots + 6 + 0 ≤ 7302250 by omega⟩ (fun H2 locs2 hI2 hS2 => ?_)
  refine lv_icmp_eq (tgt := 1185) hx hb dL_law_403 (by decide) (fun _ => ?_) (fun h => absurd rfl h)
  exact kk _ H2 locs2 _ _ hI2 hS2 (by omega) (by omega)
end LCA0
