/-! a house becomes as another -/
theorem wHH_D {a a2 : Nat → Nat} {kb kb2 : Nat} {cs : Nat → ClassId} {Z Z2 : hZ} {P : Nat → Prop} (ia : iH a) (ia2 : iH a2) (d : ∀ x, pH a x → ¬ pH a2 x) (h1 : ∀ x, pH a x → P x) (h2 : ∀ x, pH a2 x → P x) (sz : Nat) : va_D (adA P sz) (([] ++ wH a kb cs Z) ++ wH a2 kb2 cs Z2) :=
  va_Dapp ((wH_D ia sz).weaken (fun _ q _ h => h.elim (fun z => Or.inl (h1 q.1 z)) Or.inr)) ((wH_D ia2 sz).weaken (fun _ q _ h => h.elim (fun z => Or.inl (h2 q.1 z)) Or.inr)) wH_p wH_p d
/-- the other house, seen in its place -/
theorem hh_2 {D : va_G} {a a2 : Nat → Nat} {kb kb2 : Nat} {cs : Nat → ClassId} {Z Z2 : hZ} {H : Heap} (h : va_P D vwCl (([] ++ wH a kb cs Z) ++ wH a2 kb2 cs Z2) H) : va_P D vwCl ((wH a kb cs Z ++ wH a2 kb2 cs Z2) ++ []) H := va_P.app (va_P.app (vaL h) (vaR h)) nilP
theorem mix_o {α : Type} {f g : Nat → α} {i : Nat} : va_up (mix f g i) i (f i) = mix f g (i + 1) := by
  funext j
  unfold va_up mix
  by_cases h : j = i
  · subst h; rw [if_pos rfl, if_pos (Nat.lt_succ_self _)]
  · rw [if_neg h]
    by_cases h1 : j < i
    · rw [if_pos h1, if_pos (by omega)]
    · rw [if_neg h1, if_neg (by omega)]
/-- behind the numbers and the rules; with so many places; with so many tickets -/
def bz0 (Z Z2 : hZ) : hZ := (upd (upd (gh Z) 2 (gh Z2 2)) 0 (gh Z2 0), va_cpy (gr Z2) (gr Z) 0 0 14, Z.2.2)
def bz1 (Z Z2 : hZ) (i : Nat) : hZ := (gh (bz0 Z Z2), gr (bz0 Z Z2), mix (gb Z2) (gb Z) i, mix (go Z2) (go Z) i, mix (gp Z2) (gp Z) i, gt Z)
theorem bz1_0 (Z Z2 : hZ) : bz1 Z Z2 0 = bz0 Z Z2 := by
  unfold bz1
  rw [mix_0, mix_0, mix_0]
  rfl
theorem bz1_s {Z Z2 : hZ} {i : Nat} : gop (gbp (gpp (bz1 Z Z2 i) i (gp Z2 i)) i (gb Z2 i)) i (go Z2 i) = bz1 Z Z2 (i + 1) := by
  unfold gop gbp gpp bz1
  rw [← mix_i (f := gb Z2) (g := gb Z) (i := i), ← mix_i (f := go Z2) (g := go Z) (i := i), ← mix_o (f := gp Z2) (g := gp Z) (i := i)]
def bz2 (Z Z2 : hZ) (bs : Nat → Nat → Nat) (i : Nat) : hZ := (upd (gh (bz0 Z Z2)) 1 (gh Z2 1), gr (bz0 Z Z2), mix (gb Z2) (gb Z) 40, mix (go Z2) (go Z) 40, mix (gp Z2) (gp Z) 40, mix (fun j => some (bs j 0)) (gt Z) i)
theorem bz2_0 {Z Z2 : hZ} {bs : Nat → Nat → Nat} : ghp (bz1 Z Z2 40) 1 (gh Z2 1) = bz2 Z Z2 bs 0 := by
  unfold bz2
  rw [mix_0]
  rfl
theorem bz2_gt {Z Z2 : hZ} {bs : Nat → Nat → Nat} {i : Nat} : gt (bz2 Z Z2 bs i) i = gt Z i := if_neg (Nat.lt_irrefl i)
theorem bz2_gh {Z Z2 : hZ} {bs : Nat → Nat → Nat} {i : Nat} : gh (bz2 Z Z2 bs i) 1 = gh Z2 1 := rfl
theorem bz2_rk {Z : hZ} {bs : Nat → Nat → Nat} {i : Nat} (h : gt Z i = some (bs i 0)) : mix (fun j => some (bs j 0)) (gt Z) i = mix (fun j => some (bs j 0)) (gt Z) (i + 1) := by
  funext j
  show (if j < i then some (bs j 0) else gt Z j) = if j < i + 1 then some (bs j 0) else gt Z j
  by_cases e : j = i
  · subst e
    rw [if_neg (Nat.lt_irrefl _), if_pos (Nat.lt_succ_self _), h]
  · by_cases h1 : j < i
    · rw [if_pos h1, if_pos (by omega)]
    · rw [if_neg h1, if_neg (by omega)]
theorem bz2_r {Z Z2 : hZ} {bs : Nat → Nat → Nat} {i : Nat} (h : gt Z i = some (bs i 0)) : bz2 Z Z2 bs i = bz2 Z Z2 bs (i + 1) :=
  congrArg (fun g => ((upd (gh (bz0 Z Z2)) 1 (gh Z2 1), gr (bz0 Z Z2), mix (gb Z2) (gb Z) 40, mix (go Z2) (go Z) 40, mix (gp Z2) (gp Z) 40, g) : hZ)) (bz2_rk h)
/-- with another address for one ticket -/
def bsW (bs : Nat → Nat → Nat) (i : Nat) (b : Nat → Nat) : Nat → Nat → Nat := fun j => if j = i then b else bs j
theorem bsW_eq {bs : Nat → Nat → Nat} {i : Nat} {b : Nat → Nat} : bsW bs i b i = b := if_pos rfl
theorem bsW_ne {bs : Nat → Nat → Nat} {i j : Nat} {b : Nat → Nat} (h : j ≠ i) : bsW bs i b j = bs j := if_neg h
theorem bz2_k {Z : hZ} {bs : Nat → Nat → Nat} {i : Nat} {b : Nat → Nat} : va_up (mix (fun j => some (bs j 0)) (gt Z) i) i (some (b 0)) = mix (fun j => some (bsW bs i b j 0)) (gt Z) (i + 1) := by
  funext j
  show (if j = i then some (b 0) else if j < i then some (bs j 0) else gt Z j) = if j < i + 1 then some (bsW bs i b j 0) else gt Z j
  by_cases e : j = i
  · subst e
    rw [if_pos rfl, if_pos (Nat.lt_succ_self _), bsW_eq]
  · rw [if_neg e]
    by_cases h1 : j < i
    · rw [if_pos h1, if_pos (by omega), bsW_ne e]
    · rw [if_neg h1, if_neg (by omega)]
theorem bz2_n {Z Z2 : hZ} {bs : Nat → Nat → Nat} {i : Nat} {b : Nat → Nat} : gtp (bz2 Z Z2 bs i) i (some (b 0)) = bz2 Z Z2 (bsW bs i b) (i + 1) :=
  congrArg (fun g => ((upd (gh (bz0 Z Z2)) 1 (gh Z2 1), gr (bz0 Z Z2), mix (gb Z2) (gb Z) 40, mix (go Z2) (go Z) 40, mix (gp Z2) (gp Z) 40, g) : hZ)) bz2_k
/-- the slots that hold tickets -/
def pSl (Z : hZ) (bs : Nat → Nat → Nat) : Nat → Prop := fun x => ∃ j, j < 511 ∧ gt Z j = some (bs j 0) ∧ pT (bs j) x
def slF (D : va_G) (Z : hZ) (bs : Nat → Nat → Nat) (nms : Nat → Int32) (vs : Nat → Nat → Int32) (i : Nat) (H : Heap) : Prop := ∀ j, i ≤ j → j < 511 → gt Z j = some (bs j 0) → va_P D vwCl (wT (bs j) (nms j) (vs j)) H
/-- the pledges of a house, all apart from some cells -/
def pgF (D : va_G) (cs : Nat → ClassId) (Z : hZ) (P : Nat → Prop) (H : Heap) : Prop := ∀ i, i < 40 → ∀ o, gp Z i = some o → ∃ (q : Nat → Nat) (pl : pZ), o = q 0 ∧ va_P D vwCl (wP q cs pl) H ∧ ∀ x, pP q pl x → ¬ P x
/-- the tickets' addresses behind a copying -/
def bsOK (Z : hZ) (bs bs' : Nat → Nat → Nat) (sz i : Nat) : Prop := (∀ j, j < i → (gt Z j = some (bs j 0) ∧ bs' j = bs j) ∨ (gt Z j = none ∧ ∀ m, m < 3 → sz ≤ bs' j m)) ∧ (∀ j, j < i → iT (bs' j)) ∧ ∀ j j', j < i → j' < i → j ≠ j' → ∀ x, pT (bs' j) x → ¬ pT (bs' j') x
def bcQ (D : va_G) (cs : Nat → ClassId) (a a2 : Nat → Nat) (kb : Nat) (Z Z2 : hZ) (bs : Nat → Nat → Nat) (nms : Nat → Int32) (vs vs2 : Nat → Nat → Int32) (n2 : Nat) (A : Nat → Prop) : Array Value → State → Outcome → State → Prop := fun _ st o t => o = .returned none ∧ ∃ bs' : Nat → Nat → Nat, bsOK Z bs bs' st.heap.size n2 ∧ va_P D vwCl (([] ++ wH a kb cs (bz2 Z Z2 bs' n2)) ++ wH a2 kb cs Z2) t.heap ∧ tks D bs' vs2 n2 t.heap ∧ slF D Z bs nms vs n2 t.heap ∧ va_F A st t
section CRUNN
variable {p : Program} {l : Launch} {e : Env} {R : Room} {s : State} {m : MethodId} {args : Array Value} {below : List Frame} {meth : Method} {c : Code} {H : Heap} {locs : List Loc} {cells slots : Nat} {Q : State → Prop}
variable {mc ms pc n : Nat} {rest st0 : List Value} {ls : Array Slot} {D : va_G} {A A' : Nat → Prop} {a : Array Value}
theorem c_wNG {G : (Nat → Nat) → Heap → Prop} {v : (Nat → Nat) → Option Value} {wf : (Nat → Nat) → va_W} (hr : va_Run p l e R s m args below meth c H locs cells slots mc ms (F0 m pc ls st0) rest (cQN D n v wf A' a) A') (hS : va_S A s.heap H locs) (hA : ∀ q, A' q → A q) (hj : ∀ (q : Nat → Nat) (H1 : Heap), H.size ≤ H1.size → (∀ q : Nat, q < H.size → ¬ A' q → H1[q]? = H[q]?) → va_P D vwCl (wf q) H1 → G q H1)
    (kk : ∀ (q : Nat → Nat) (H1 : Heap) (locs1 : List Loc), (∀ i, i < n → H.size ≤ q i) → (∀ i j, i < n → j < n → q i = q j → i = j) → G q H1 → va_S A s.heap H1 locs1 → W p l e R s m args below meth c H1 locs1 (cells + mc) (slots + ms) Q (F0 m (pc + 3) ls ((v q).toList ++ rest))) : W p l e R s m args below meth c H locs cells slots Q (F0 m pc ls st0) := by
  intro T hT X
  obtain ⟨v', st₀, t, T', L, h0, X', hL, e1, e2, ⟨q, hq1, hq2, hv, hP', hz, hk⟩, st⟩ := hr T hT X
  cases hv
  rw [h0] at hz hk hq1
  obtain ⟨t2, a1, b1⟩ := kk q T'.heap (locs ++ L) hq1 hq2 (by rw [e1]; exact hj q t.heap hz hk hP') ⟨by rw [e1]; exact Nat.le_trans hS.1 hz, fun q h1 h2 => by
    rw [e1, hk q (Nat.lt_of_lt_of_le h1 hS.1) (fun z => h2 (hA q z))]
    exact hS.2.1 q h1 h2, fun q hq => by
      rcases List.mem_append.mp hq with h | h
      · exact hS.2.2 q h
      · exact hA _ (hL q h)⟩ T' rfl X'
  exact ⟨t2, st t2 a1, b1⟩
end CRUNN
theorem bz_v {x : Int32} (h : x = 0 ∨ x = 1) : vp_nar .boolean x = x := by rcases h with rfl | rfl <;> rfl
section HROWO
variable {p : Program} {l : Launch} {e : Env} {R : Room} {s : State} {m : MethodId} {args : Array Value} {below : List Frame} {meth : Method} {c : Code} {H : Heap} {locs : List Loc} {cells slots : Nat} {Q : State → Prop}
variable {cc : ByteArray} {pc : Nat} {ls : Array Slot} {rest : List Value} {D : va_G} {A : Nat → Prop} {H0 : Heap} {a : Nat → Nat} {kb : Nat} {cs : Nat → ClassId} {Z : hZ} {X Y : va_W}
theorem hx_pstO (hexec : p.tables.exec = Jvm.exec) (hb : c.code = cc) (hK : va_K D vwCl (tysA cs) s) (hP : va_P D vwCl ((X ++ wH a kb cs Z) ++ Y) H) (hD : va_D A ((X ++ wH a kb cs Z) ++ Y)) (hS : va_S A H0 H locs) {i : Int32} {o : Option Nat} (hr : ∀ q, o = some q → va_Any "PledgeHouse$Pledge" s H q) (j : Nat) (hj : i = nI j) (hjn : j < 40) (hdg : decode cc pc = .ok (.aastore, 1))
    (kk : ∀ (H1 : Heap) (locs1 : List Loc), va_P D vwCl ((X ++ wH a kb cs (gpp Z j o)) ++ Y) H1 → va_S A H0 H1 locs1 → W p l e R s m args below meth c H1 locs1 cells slots Q (F0 m (pc + 1) ls rest)) : W p l e R s m args below meth c H locs cells slots Q (F0 m pc ls (va_rf o :: .int i :: .ref (a 2) :: rest)) := by
  cases o with
  | none => exact hx_pstN hexec hb hK hP hD hS j hj hjn hdg kk
  | some q => exact hx_pst hexec hb hK hP hD hS (hr q rfl) j hj hjn hdg kk
end HROWO
theorem bsOK_r {Z : hZ} {bs bs' : Nat → Nat → Nat} {sz i : Nat} (h : bsOK Z bs bs' sz i) (hg : gt Z i = some (bs i 0)) (ib : iT (bs i)) (hsz : ∀ x, pT (bs i) x → x < sz) (dS : ∀ j j', j < 511 → j' < 511 → j ≠ j' → gt Z j = some (bs j 0) → gt Z j' = some (bs j' 0) → ∀ x, pT (bs j) x → ¬ pT (bs j') x) (hi : i < 511) : bsOK Z bs (bsW bs' i (bs i)) sz (i + 1) := by
  have key : ∀ j, j < i → ∀ x, pT (bs' j) x → ¬ pT (bs i) x := fun j hj x h1 h2 => by
    rcases h.1 j hj with ⟨g1, g2⟩ | ⟨g1, g2⟩
    · rw [g2] at h1; exact dS j i (by omega) hi (by omega) g1 hg x h1 h2
    · obtain ⟨m, hm, e⟩ := h1
      have := g2 m hm
      have := hsz x h2
      omega
  refine ⟨fun j hj => ?_, fun j hj => ?_, fun j j' hj hj' hn x h1 h2 => ?_⟩
  · by_cases e : j = i
    · subst e; rw [bsW_eq]; exact Or.inl ⟨hg, rfl⟩
    · rw [bsW_ne e]; exact h.1 j (by omega)
  · by_cases e : j = i
    · subst e; rw [bsW_eq]; exact ib
    · rw [bsW_ne e]; exact h.2.1 j (by omega)
  · by_cases e : j = i
    · subst e
      rw [bsW_eq] at h1
      rw [bsW_ne (Ne.symm hn)] at h2
      exact key j' (by omega) x h2 h1
    · rw [bsW_ne e] at h1
      by_cases e' : j' = i
      · subst e'; rw [bsW_eq] at h2; exact key j (by omega) x h1 h2
      · rw [bsW_ne e'] at h2; exact h.2.2 j j' (by omega) (by omega) hn x h1 h2
theorem bsOK_n {Z : hZ} {bs bs' : Nat → Nat → Nat} {sz i : Nat} {b : Nat → Nat} (h : bsOK Z bs bs' sz i) (hg : gt Z i = none) (ib : iT b) (hb : ∀ m, m < 3 → sz ≤ b m) (hd : ∀ j, j < i → ∀ x, pT (bs' j) x → ¬ pT b x) : bsOK Z bs (bsW bs' i b) sz (i + 1) := by
  refine ⟨fun j hj => ?_, fun j hj => ?_, fun j j' hj hj' hn x h1 h2 => ?_⟩
  · by_cases e : j = i
    · subst e; rw [bsW_eq]; exact Or.inr ⟨hg, hb⟩
    · rw [bsW_ne e]; exact h.1 j (by omega)
  · by_cases e : j = i
    · subst e; rw [bsW_eq]; exact ib
    · rw [bsW_ne e]; exact h.2.1 j (by omega)
  · by_cases e : j = i
    · subst e
      rw [bsW_eq] at h1
      rw [bsW_ne (Ne.symm hn)] at h2
      exact hd j' (by omega) x h2 h1
    · rw [bsW_ne e] at h1
      by_cases e' : j' = i
      · subst e'; rw [bsW_eq] at h2; exact hd j (by omega) x h1 h2
      · rw [bsW_ne e'] at h2; exact h.2.2 j j' (by omega) (by omega) hn x h1 h2
theorem bz2_c {Z Z2 : hZ} {bs bs' : Nat → Nat → Nat} {i : Nat} (h : ∀ j, j < i → bs j 0 = bs' j 0) : bz2 Z Z2 bs i = bz2 Z Z2 bs' i :=
  congrArg (fun g => ((upd (gh (bz0 Z Z2)) 1 (gh Z2 1), gr (bz0 Z Z2), mix (gb Z2) (gb Z) 40, mix (go Z2) (go Z) 40, mix (gp Z2) (gp Z) 40, g) : hZ)) (funext fun j => by
    show (if j < i then some (bs j 0) else gt Z j) = if j < i then some (bs' j 0) else gt Z j
    by_cases h1 : j < i
    · rw [if_pos h1, if_pos h1, h j h1]
    · rw [if_neg h1, if_neg h1])
theorem bz2_rw {Z Z2 : hZ} {bs' : Nat → Nat → Nat} {i : Nat} {b : Nat → Nat} (h : gt Z i = some (b 0)) : bz2 Z Z2 bs' i = bz2 Z Z2 (bsW bs' i b) (i + 1) := by
  rw [← bz2_r (bs := bsW bs' i b) (by rw [bsW_eq]; exact h)]
  exact bz2_c (fun j hj => by rw [bsW_ne (by omega)])
theorem tks_s {D : va_G} {bs' : Nat → Nat → Nat} {vs2 : Nat → Nat → Int32} {i : Nat} {b : Nat → Nat} {H : Heap} (h : tks D bs' vs2 i H) (hb : va_P D vwCl (wT b (nI (i + 1)) (vs2 i)) H) : tks D (bsW bs' i b) vs2 (i + 1) H := fun j hj => by
  by_cases e : j = i
  · subst e; rw [bsW_eq]; exact hb
  · rw [bsW_ne e]; exact h j (by omega)
