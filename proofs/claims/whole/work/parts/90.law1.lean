/-! the law: what it holds between its steps; a call of the class, a call of the reference -/
def fzL (sz0 : Nat) (ad : Nat → Nat) : Nat → Prop := fun x => x < sz0 ∨ ∃ i, i < 12 ∧ x = ad i
def LI (D : va_G) (cs : Nat → ClassId) (o : Nat) (a1 a2 k r ad : Nat → Nat) (sz0 N : Nat) (F : mZ) (H : Heap) : Prop := va_P D vwCl (wO o a1 a2 (zik F) (zst F)) H ∧ gT D cs o a1 a2 k r (fzL sz0 ad) N F H ∧ va_P D vwCl (wM ad (cs 0) (cs 1) F) H
theorem wM_pr {ad : Nat → Nat} {cI cJ : ClassId} {Z : mZ} : ∀ (i : Nat) (q : Nat × va_E), (wM ad cI cJ Z)[i]? = some q → ∃ j, j < 12 ∧ q.1 = ad j := fun i q h => ⟨i, (wM_at i q h).1, (wM_at i q h).2⟩
theorem gT_keep {D : va_G} {cs : Nat → ClassId} {o : Nat} {a1 a2 k r : Nat → Nat} {fz : Nat → Prop} {N : Nat} {F : mZ} {H H1 : Heap} (hT : gT D cs o a1 a2 k r fz N F H) (hsz : H.size ≤ H1.size) (hk : ∀ q, q < H.size → ¬ fz q → H1[q]? = H[q]?) : gT D cs o a1 a2 k r fz N F H1 := by
  obtain ⟨h1, h2, RW, cn1, rc1, d1, cn2, rc2, d2, hR, hI, hH, hfz⟩ := hT
  have un : ∀ n x, x < H.size → prt o a1 a2 k r h1 h2 n x → H1[x]? = H[x]? := fun n x hx p => hk x hx (hI.2.2 n x p)
  exact ⟨h1, h2, RW, cn1, rc1, d1, cn2, rc2, d2, hR, hI, ⟨keep_h hH.1 (fun x a b => un 1 x a (Or.inr (Or.inl ⟨rfl, b⟩))) (fun j x hj a b => un (5 + 2 * j) x a (Or.inr (Or.inr (Or.inr (Or.inr (Or.inr (Or.inl ⟨j, hj, rfl, b⟩))))))) (fun x a b => un 4 x a (Or.inr (Or.inr (Or.inr (Or.inr (Or.inl ⟨rfl, Or.inl b⟩)))))), keep_h hH.2.1 (fun x a b => un 2 x a (Or.inr (Or.inr (Or.inl ⟨rfl, b⟩)))) (fun j x hj a b => un (6 + 2 * j) x a (Or.inr (Or.inr (Or.inr (Or.inr (Or.inr (Or.inr ⟨j, hj, rfl, b⟩))))))) (fun x a b => un 4 x a (Or.inr (Or.inr (Or.inr (Or.inr (Or.inl ⟨rfl, Or.inr b⟩)))))), keepW hH.2.2 wB_p (fun q a b => un 3 q a (Or.inr (Or.inr (Or.inr (Or.inl ⟨rfl, b⟩)))))⟩, fun x hx => Nat.lt_of_lt_of_le (hfz x hx) hsz⟩
theorem gT_up {D : va_G} {cs : Nat → ClassId} {o : Nat} {a1 a2 k r : Nat → Nat} {fz : Nat → Prop} {N N' : Nat} {F : mZ} {H : Heap} (hT : gT D cs o a1 a2 k r fz N F H) (hN : N ≤ N') : gT D cs o a1 a2 k r fz N' F H := by
  obtain ⟨h1, h2, RW, cn1, rc1, d1, cn2, rc2, d2, hR, hI, hH, hfz⟩ := hT
  refine ⟨h1, h2, RW, cn1, rc1, d1, cn2, rc2, d2, ⟨hR.1, ?_, hR.2.2.1, hR.2.2.2.1, Nat.le_trans hR.2.2.2.2.1 hN, Nat.le_trans hR.2.2.2.2.2 hN⟩, hI, hH, hfz⟩
  rcases hR.2.1 with e | ⟨q1, q2, q3, q4, q5, q6⟩
  · exact Or.inl e
  · exact Or.inr ⟨q1, q2, q3, q4, q5, Nat.le_trans q6 hN⟩
section LAW
variable {p : Program} {l : Launch} {e : Env} {R : Room} {s : State} {m : MethodId} {args : Array Value} {below : List Frame} {meth : Method} {c : Code} {H : Heap} {locs : List Loc} {cells slots : Nat} {Q : State → Prop}
variable {cc bytes : ByteArray} {nL maxL index n pc mc ms : Nat} {own : String} {y : MethodName} {ret : Option FieldType} {rm : Room} {Ts ws : List Cond} {As rest st0 : List Value} {ls : Array Slot}
variable {D : va_G} {cs : Nat → ClassId} {o : Nat} {a1 a2 k r ad : Nat → Nat} {N N' : Nat} {F F' : mZ}
theorem lw_cls {q : Int32 × mZ} (S : CallFix p m c cc nL s args Ts own) (hK : cK D cs s) (hL : LI D cs o a1 a2 k r ad s.heap.size N F H) (hS : va_S (fun x => s.heap.size ≤ x) s.heap H locs) (hM : Met l y ws rm (cPcF (.ref o :: As) D cs (wO o a1 a2 (zik F) (zst F)) (gT D cs o a1 a2 k r (fzL s.heap.size ad) N F) H.size) (cQF D (some (.int q.1)) (wO o a1 a2 (zik q.2) (zst q.2)) (gT D cs o a1 a2 k r (fzL s.heap.size ad) (N + 1) q.2) (fun x => ¬ fzL s.heap.size ad x)) mc ms (fun x => ¬ fzL s.heap.size ad x)) (cw : CallW R s args own RX11 index y bytes maxL ret ws rm mc ms n) (hn : As.length = n) (hsz : ls.size = nL) (hst : st0 = As.reverse ++ .ref o :: rest) (hW : (rest.map fun v => v.category).sum ≤ 8) (hdg : decode cc pc = .ok (.invokevirtual index, 3)) (hf : cells + mc ≤ R.cells ∧ slots + ms ≤ R.slots)
    (kk : ∀ (H1 : Heap) (locs1 : List Loc), va_P D vwCl (wO o a1 a2 (zik q.2) (zst q.2)) H1 ∧ gT D cs o a1 a2 k r (fzL s.heap.size ad) (N + 1) q.2 H1 ∧ va_P D vwCl (wM ad (cs 0) (cs 1) F) H1 → va_S (fun x => s.heap.size ≤ x) s.heap H1 locs1 → W p l e R s m args below meth c H1 locs1 (cells + mc) (slots + ms) Q (F0 m (pc + 3) ls (.int q.1 :: rest))) : W p l e R s m args below meth c H locs cells slots Q (F0 m pc ls st0) :=
  c_wF (G := fun H1 => va_P D vwCl (wO o a1 a2 (zik q.2) (zst q.2)) H1 ∧ gT D cs o a1 a2 k r (fzL s.heap.size ad) (N + 1) q.2 H1 ∧ va_P D vwCl (wM ad (cs 0) (cs 1) F) H1) (va_runV S hM cw (preV_f hK hL.1 hL.2.1 (va_recv hK.1 hL.1 (ci := 9) (q0 := 0) rfl rfl)) rfl hn hsz hst (lv_room hW) hdg hf) hS (fun x h => Nat.not_lt.mp (fun z => h (Or.inl z))) (fun H1 hz hk hP hT => ⟨hP, hT, keepW hL.2.2 wM_pr (fun x hx e => hk x hx (fun z => z (Or.inr e)))⟩) kk
theorem lw_clsV {q : Int32 × mZ} {X : State → Prop} (hX : ∀ (U V : State), U.vm = V.vm → U.heap = V.heap → X U → X V) (hXs : ∀ U : State, U.heap = H → s.WarmedH U.vm → X U) (S : CallFix p m c cc nL s args Ts own) (hK : cK D cs s) (hL : LI D cs o a1 a2 k r ad s.heap.size N F H) (hS : va_S (fun x => s.heap.size ≤ x) s.heap H locs) (hM : Met l y ws rm (cPcV X (.ref o :: As) D cs (wO o a1 a2 (zik F) (zst F)) (gT D cs o a1 a2 k r (fzL s.heap.size ad) N F) H.size) (cQF D (some (.int q.1)) (wO o a1 a2 (zik q.2) (zst q.2)) (gT D cs o a1 a2 k r (fzL s.heap.size ad) (N + 1) q.2) (fun x => ¬ fzL s.heap.size ad x)) mc ms (fun x => ¬ fzL s.heap.size ad x)) (cw : CallW R s args own RX11 index y bytes maxL ret ws rm mc ms n) (hn : As.length = n) (hsz : ls.size = nL) (hst : st0 = As.reverse ++ .ref o :: rest) (hW : (rest.map fun v => v.category).sum ≤ 8) (hdg : decode cc pc = .ok (.invokevirtual index, 3)) (hf : cells + mc ≤ R.cells ∧ slots + ms ≤ R.slots)
    (kk : ∀ (H1 : Heap) (locs1 : List Loc), va_P D vwCl (wO o a1 a2 (zik q.2) (zst q.2)) H1 ∧ gT D cs o a1 a2 k r (fzL s.heap.size ad) (N + 1) q.2 H1 ∧ va_P D vwCl (wM ad (cs 0) (cs 1) F) H1 → va_S (fun x => s.heap.size ≤ x) s.heap H1 locs1 → W p l e R s m args below meth c H1 locs1 (cells + mc) (slots + ms) Q (F0 m (pc + 3) ls (.int q.1 :: rest))) : W p l e R s m args below meth c H locs cells slots Q (F0 m pc ls st0) :=
  c_wF (G := fun H1 => va_P D vwCl (wO o a1 a2 (zik q.2) (zst q.2)) H1 ∧ gT D cs o a1 a2 k r (fzL s.heap.size ad) (N + 1) q.2 H1 ∧ va_P D vwCl (wM ad (cs 0) (cs 1) F) H1) (va_runV S hM cw ⟨cPcV_blind hX, va_recv hK.1 hL.1 (ci := 9) (q0 := 0) rfl rfl, fun U hU hW => ⟨rfl, by rw [hU], by rw [hU]; exact hL.1, cK.warm hW hK, by rw [hU]; exact hL.2.1, hXs U hU hW⟩⟩ rfl hn hsz hst (lv_room hW) hdg hf) hS (fun x h => Nat.not_lt.mp (fun z => h (Or.inl z))) (fun H1 hz hk hP hT => ⟨hP, hT, keepW hL.2.2 wM_pr (fun x hx e => hk x hx (fun z => z (Or.inr e)))⟩) kk
theorem lw_look {v : Value} (S : CallFix p m c cc nL s args Ts own) (hK : cK D cs s) (hL : LI D cs o a1 a2 k r ad s.heap.size N F H) (hM : Met l y ws rm (cPcF (.ref o :: As) D cs (wO o a1 a2 (zik F) (zst F)) (gT D cs o a1 a2 k r (fzL s.heap.size ad) N F) H.size) (k2_QcV v) 0 0 (fun _ => False)) (cw : CallW R s args own RX11 index y bytes maxL ret ws rm 0 0 n) (hn : As.length = n) (hsz : ls.size = nL) (hst : st0 = As.reverse ++ .ref o :: rest) (hW : (rest.map fun v => v.category).sum ≤ 8) (hdg : decode cc pc = .ok (.invokevirtual index, 3)) (hf : cells ≤ R.cells ∧ slots ≤ R.slots)
    (kk : W p l e R s m args below meth c H locs cells slots Q (F0 m (pc + 3) ls (v :: rest))) : W p l e R s m args below meth c H locs cells slots Q (F0 m pc ls st0) :=
  c_r1 (va_runV S hM cw (preV_f hK hL.1 hL.2.1 (va_recv hK.1 hL.1 (ci := 9) (q0 := 0) rfl rfl)) rfl hn hsz hst (lv_room hW) hdg hf) (fun _ h => h) kk
theorem lw_modX {v : Value} {X : State → Prop} (hX : ∀ (U V : State), U.vm = V.vm → U.heap = V.heap → X U → X V) (hXs : ∀ U : State, U.heap = H → s.WarmedH U.vm → X U) (S : CallFix p m c cc nL s args Ts own) (hK : mK D (cs 0) (cs 1) s) (hO : va_P D vwCl (wO o a1 a2 (zik F') (zst F')) H) (hT : gT D cs o a1 a2 k r (fzL s.heap.size ad) N' F' H) (hM0 : va_P D vwCl (wM ad (cs 0) (cs 1) F) H) (had : ∀ i, i < 12 → s.heap.size ≤ ad i) (hS : va_S (fun x => s.heap.size ≤ x) s.heap H locs) (hM : Met l y ws rm (mPcX X (.ref (ad 0) :: As) D (cs 0) (cs 1) ad F H.size) (mQ D (cs 0) (cs 1) ad (some v) F' H.size) 0 0 (mA ad H.size)) (cw : CallW R s args own RX13 index y bytes maxL ret ws rm 0 0 n) (hn : As.length = n) (hsz : ls.size = nL) (hst : st0 = As.reverse ++ .ref (ad 0) :: rest) (hW : (rest.map fun v => v.category).sum ≤ 8) (hdg : decode cc pc = .ok (.invokevirtual index, 3)) (hf : cells + 0 ≤ R.cells ∧ slots + 0 ≤ R.slots)
    (kk : ∀ (H1 : Heap) (locs1 : List Loc), LI D cs o a1 a2 k r ad s.heap.size N' F' H1 → va_S (fun x => s.heap.size ≤ x) s.heap H1 locs1 → W p l e R s m args below meth c H1 locs1 cells slots Q (F0 m (pc + 3) ls (v :: rest))) : W p l e R s m args below meth c H locs cells slots Q (F0 m pc ls st0) := by
  have hb : FrameBlind (mPcX X (.ref (ad 0) :: As) D (cs 0) (cs 1) ad F H.size) := fun a U g mk h => ⟨h.1, h.2.1, h.2.2.1, mK.same rfl h.2.2.2.1, hX U _ rfl rfl h.2.2.2.2⟩
  have z1 := gT_ofz hT
  refine c_gen (v := some v) (G := fun H1 => LI D cs o a1 a2 k r ad s.heap.size N' F' H1) (va_runV S hM cw ⟨hb, va_recv hK.1 hM0 (ci := 11) (q0 := 0) rfl rfl, fun U hU hW => ⟨rfl, by rw [hU], by rw [hU]; exact hM0, mK.warm hW hK, hXs U hU hW⟩⟩ rfl hn hsz hst (lv_room hW) hdg hf) hS (fun x h => ?_) (fun u t ot hu hQ => ?_) (fun H1 locs1 hG hS => kk H1 locs1 hG hS)
  · rcases h with ⟨i, hi, e⟩ | h
    · rw [e]; exact had i hi
    · exact Nat.le_trans hS.1 h
  · obtain ⟨e1, e2, e3⟩ := hQ
    have e4 := e3.1
    have e5 := e3.2
    rw [hu] at e4 e5
    have e6 : ∀ q, q < H.size → ¬ fzL s.heap.size ad q → t.heap[q]? = H[q]? := fun q hq hz => e5 q hq (fun w => by
      rcases w with w | w
      · exact hz (Or.inr w)
      · exact absurd hq (Nat.not_lt.mpr w))
    exact ⟨e1, e4, e5, keepW (P := fun x => x = o) hO wO_p (fun x hx e => e6 x hx (by rw [e]; exact z1.1)), gT_keep hT e4 e6, e2⟩
theorem lw_mod {v : Value} (S : CallFix p m c cc nL s args Ts own) (hK : mK D (cs 0) (cs 1) s) (hO : va_P D vwCl (wO o a1 a2 (zik F') (zst F')) H) (hT : gT D cs o a1 a2 k r (fzL s.heap.size ad) N' F' H) (hM0 : va_P D vwCl (wM ad (cs 0) (cs 1) F) H) (had : ∀ i, i < 12 → s.heap.size ≤ ad i) (hS : va_S (fun x => s.heap.size ≤ x) s.heap H locs) (hM : Met l y ws rm (mPc (.ref (ad 0) :: As) D (cs 0) (cs 1) ad F H.size) (mQ D (cs 0) (cs 1) ad (some v) F' H.size) 0 0 (mA ad H.size)) (cw : CallW R s args own RX13 index y bytes maxL ret ws rm 0 0 n) (hn : As.length = n) (hsz : ls.size = nL) (hst : st0 = As.reverse ++ .ref (ad 0) :: rest) (hW : (rest.map fun v => v.category).sum ≤ 8) (hdg : decode cc pc = .ok (.invokevirtual index, 3)) (hf : cells + 0 ≤ R.cells ∧ slots + 0 ≤ R.slots)
    (kk : ∀ (H1 : Heap) (locs1 : List Loc), LI D cs o a1 a2 k r ad s.heap.size N' F' H1 → va_S (fun x => s.heap.size ≤ x) s.heap H1 locs1 → W p l e R s m args below meth c H1 locs1 cells slots Q (F0 m (pc + 3) ls (v :: rest))) : W p l e R s m args below meth c H locs cells slots Q (F0 m pc ls st0) := by
  have z1 := gT_ofz hT
  refine c_gen (v := some v) (G := fun H1 => LI D cs o a1 a2 k r ad s.heap.size N' F' H1) (va_runV S hM cw ⟨mPc_blind, va_recv hK.1 hM0 (ci := 11) (q0 := 0) rfl rfl, fun U hU hW => ⟨rfl, by rw [hU], by rw [hU]; exact hM0, mK.warm hW hK⟩⟩ rfl hn hsz hst (lv_room hW) hdg hf) hS (fun x h => ?_) (fun u t ot hu hQ => ?_) (fun H1 locs1 hG hS => kk H1 locs1 hG hS)
  · rcases h with ⟨i, hi, e⟩ | h
    · rw [e]; exact had i hi
    · exact Nat.le_trans hS.1 h
  · obtain ⟨e1, e2, e3⟩ := hQ
    have e4 := e3.1
    have e5 := e3.2
    rw [hu] at e4 e5
    have e6 : ∀ q, q < H.size → ¬ fzL s.heap.size ad q → t.heap[q]? = H[q]? := fun q hq hz => e5 q hq (fun w => by
      rcases w with w | w
      · exact hz (Or.inr w)
      · exact absurd hq (Nat.not_lt.mpr w))
    exact ⟨e1, e4, e5, keepW (P := fun x => x = o) hO wO_p (fun x hx e => e6 x hx (by rw [e]; exact z1.1)), gT_keep hT e4 e6, e2⟩
end LAW
/-- what the reference's contracts ask of its state -/
theorem gT_ask {D : va_G} {cs : Nat → ClassId} {o : Nat} {a1 a2 k r : Nat → Nat} {fz : Nat → Prop} {N : Nat} {F : mZ} {H : Heap} (hT : gT D cs o a1 a2 k r fz N F H) (hN : N ≤ 512) : cok F ∧ dok F ∧ (∀ t, ¬ sp_isTicket F t = 0 → pok (tk F (tN t) 15) ∧ kok (tk F (tN t) 19)) ∧ (∀ place, ¬ sp_isPlace place = 0 → sh F (tN place) 0 = 2 → mok (sh F (tN place) 8)) ∧ (¬ zh F 1 = 511 → (zh F 0) < ((zh F 0) + (30 * ((tk F (tN ((zh F 1) + 1)) 3) + 1)))) ∧ (∃ d cn : Nat, d ≤ 7300 ∧ zh F 0 = nI d ∧ cn ≤ 511 ∧ zh F 1 = nI cn ∧ ∀ n, d + n ≤ 7300 → dayOK F d cn n) ∧ tN (zh F 1) ≤ N ∧ (zik F = 0 ∨ tN (zyh F 1) ≤ N) := by
  obtain ⟨h1, h2, RW, cn1, rc1, d1, cn2, rc2, d2, hR, hI, hH, hfz⟩ := hT
  have h := hR.1
  have hc := h.1.2.2.2.2.2.1
  have hd := h.1.2.2.1
  have hrN := hR.2.2.2.2.1
  refine ⟨⟨cn1, hc, h.1.2.2.2.2.1⟩, ⟨d1, hd, h.1.2.1⟩, fun t ht => ?_, fun place hp e => ?_, fun hn => ?_, ⟨d1, cn1, hd, h.1.2.1, hc, h.1.2.2.2.2.1, fun n hn => HR_dayOK h (by omega) hn⟩, by rw [tn_cn h]; exact hR.2.2.2.2.2, ?_⟩
  · rcases tick_cases h t with z | ⟨i, hi, rfl⟩
    · exact absurd (h.noT z) ht
    · have ht2 := (h.2.2.1.1 i hi).2.2.2.2
      rw [h.tkv hi (by decide) (by decide) (by decide), h.tkv hi (by decide) (by decide) (by decide)]
      obtain ⟨p, e1, e2⟩ := ht2.2.2.1
      obtain ⟨kd, f1, f2⟩ := ht2.2.1
      exact ⟨⟨p, e2, e1⟩, ⟨kd, by omega, f1⟩⟩
  · have hp4 := (pl_of (show ¬ sc_X3_isPlace place = 0 from hp)).2
    rcases h.kind0 hp4 with ⟨_, _, z, _⟩ | ⟨_, _, z, _⟩ | ⟨_, _, z, z2, z3⟩
    · rw [z] at e; exact absurd e (by decide)
    · rw [z] at e; exact absurd e (by decide)
    · have ek : (sl h1 (tN place)).1 = 2 := by
        rw [z] at e
        exact (nI_k4 (by omega) (j := 2) (by omega)).mp e
      obtain ⟨_, _, w8, ⟨m, em, hm⟩, _⟩ := plR2 z3 ek
      exact ⟨m, hm, by rw [w8, em]⟩
  · have hlt : cn1 < 511 := by
      rw [h.1.2.2.2.2.1] at hn
      have : ¬ cn1 = 511 := fun z => hn (by rw [z]; rfl)
      omega
    rw [h.1.2.1, h.1.2.2.2.2.1, nI_1, tN_n (by omega), h.2.2.1.2 (cn1 + 1) (by omega) (by omega) 3 (by decide)]
    have e30 : (30 : Int32) * (0 + 1) = nI 30 := by decide
    rw [e30, nI_add]
    exact (nI_ltI (by omega) (by omega)).mpr (by omega)
  · rcases hR.2.1 with z | ⟨_, q2, _, _, _, q6⟩
    · exact Or.inl z
    · refine Or.inr ?_
      have z : zyh F 1 = nI cn2 := q2.1.2.2.2.2.1
      have z2 := q2.1.2.2.2.2.2.1
      rw [z, tN_n (by omega)]
      exact q6
