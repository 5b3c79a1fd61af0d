/-! the relation: readings of a ticket; what changes a ticket alone -/
def sameK (F F' : mZ) : Prop := zyh F' = zyh F ∧ zys F' = zys F ∧ zyt F' = zyt F ∧ zyc F' = zyc F ∧ ze F' = ze F ∧ zik F' = zik F
/-- an act of the reference answers so, and leaves what the class's house has become -/
def AO (F : mZ) (r : Int32 × mZ) (a : Int32) (Z : hZ) (vs : Nat → Nat → Int32) (pl : Nat → pZ) (RW : Nat → Nat → Int64) (cn rc d : Nat) : Prop := r.1 = a ∧ HR Z vs pl RW cn rc d r.2 ∧ sameK F r.2 ∧ zst r.2 = a
theorem HR_zR {Z : hZ} {vs : Nat → Nat → Int32} {pl : Nat → pZ} {RW : Nat → Nat → Int64} {cn rc d : Nat} {F : mZ} {a : Int32} (h : HR Z vs pl RW cn rc d F) : HR Z vs pl RW cn rc d (zR F a) := h
theorem AO_no {Z : hZ} {vs : Nat → Nat → Int32} {pl : Nat → pZ} {RW : Nat → Nat → Int64} {cn rc d : Nat} {F : mZ} {a : Int32} (h : HR Z vs pl RW cn rc d F) : AO F (a, zR F a) a Z vs pl RW cn rc d := ⟨rfl, h, ⟨rfl, rfl, rfl, rfl, rfl, rfl⟩, rfl⟩
theorem vsW_id {vs : Nat → Nat → Int32} {i : Nat} : vsW vs i (vs i) = vs := funext fun j => by
  by_cases e : j = i
  · rw [e, vsW_eq]
  · rw [vsW_ne e]
theorem tk_no {Z : mZ} {n m k j : Nat} {v : Int32} (h : m ≠ n) (hk : k < 32) (hj : j < 32) : tk (tkp Z n j v) m k = tk Z m k := if_neg (fun e => h (by omega))
section RT
variable {Z : hZ} {vs : Nat → Nat → Int32} {pl : Nat → pZ} {RW : Nat → Nat → Int64} {cn rc d i : Nat} {F : mZ}
theorem HR.tkv (h : HR Z vs pl RW cn rc d F) (hi : i < cn) {k : Nat} (h1 : k ≤ 26) (h2 : k ≠ 13) (h3 : k ≠ 16) : tk F (tN (nI (i + 1))) k = vs i k := by
  have hc := h.1.2.2.2.2.2.1
  rw [tN_n (by omega)]
  exact (h.2.2.1.1 i hi).1.1 k h1 h2 h3
theorem HR.isT (h : HR Z vs pl RW cn rc d F) (hi : i < cn) : ¬ sp_isTicket F (nI (i + 1)) = 0 := by
  have hc := h.1.2.2.2.2.2.1
  unfold sp_isTicket
  rw [if_neg (show ¬ nI (i + 1) < 1 from fun z => absurd ((nI_ltI (a := i + 1) (b := 1) (by omega) (by omega)).mp z) (by omega)), if_neg (by rw [h.1.2.2.2.2.1]; exact fun z => absurd ((nI_ltI (a := cn) (b := i + 1) (by omega) (by omega)).mp z) (by omega))]
  decide
theorem HR.today (h : HR Z vs pl RW cn rc d F) : gh Z 0 = zh F 0 := h.1.1.trans h.1.2.1.symm
theorem HR.rule (h : HR Z vs pl RW cn rc d F) {j : Nat} (hj : j < 14) : gr Z j = zh F (3 + j) := (h.2.1 j hj).1
theorem HR.opn (h : HR Z vs pl RW cn rc d F) (hi : i < cn) : sp_isOpen F (nI (i + 1)) = sc_X9_isOpen (nI (i + 1)) (vs i) := by
  unfold sp_isOpen sc_X9_isOpen
  rw [h.tkv hi (by decide) (by decide) (by decide)]
theorem HR.free (h : HR Z vs pl RW cn rc d F) (hi : i < cn) : sp_isFree F (nI (i + 1)) = sc_X9_isHolders (nI (i + 1)) (vs i) := by
  unfold sp_isFree sc_X9_isHolders
  rw [h.opn hi, h.tkv hi (by decide) (by decide) (by decide)]
theorem HR.forf (h : HR Z vs pl RW cn rc d F) (hi : i < cn) : sp_isForfeit F (nI (i + 1)) = sc_X9_isForSale (nI (i + 1)) (vs i) := by
  unfold sp_isForfeit sc_X9_isForSale
  rw [h.opn hi, h.tkv hi (by decide) (by decide) (by decide)]
  rcases (h.2.2.1.1 i hi).2.2.2.2.1 with e | e <;> rw [e] <;> rfl
theorem HR.claimed (h : HR Z vs pl RW cn rc d F) (hi : i < cn) : sp_isClaimed F (nI (i + 1)) = sc_X9_isClaimed (nI (i + 1)) (vs i) := by
  unfold sp_isClaimed sc_X9_isClaimed
  rw [h.tkv hi (by decide) (by decide) (by decide)]
theorem HR.owed (h : HR Z vs pl RW cn rc d F) (hi : i < cn) : sp_owed F (nI (i + 1)) = sc_X9_owed (nI (i + 1)) (vs i) := by
  unfold sp_owed sc_X9_owed
  rw [h.tkv hi (by decide) (by decide) (by decide), h.tkv hi (by decide) (by decide) (by decide)]
theorem HR.ends (h : HR Z vs pl RW cn rc d F) (hi : i < cn) : sp_termEnds F (nI (i + 1)) = sc_X7_lastDay (nI (i + 1)) (vs i) := by
  unfold sp_termEnds sc_X7_lastDay
  rw [h.tkv hi (by decide) (by decide) (by decide), h.tkv hi (by decide) (by decide) (by decide)]
theorem HR.claims (h : HR Z vs pl RW cn rc d F) (hi : i < cn) : tk F (tN (nI (i + 1))) 9 + sp_claiming F (nI (i + 1)) = sc_X9_claimedDaysIfDropped (nI (i + 1)) (vs i) (gh Z 0) := by
  unfold sp_claiming sc_X9_claimedDaysIfDropped sc_X7_daysOfClaim
  rw [h.claimed hi, h.ends hi, h.tkv hi (by decide) (by decide) (by decide), h.tkv hi (by decide) (by decide) (by decide), h.today]
  by_cases c : sc_X9_isClaimed (nI (i + 1)) (vs i) = 0
  · rw [if_pos c, if_pos c, Int32.add_zero]
  · rw [if_neg c, if_neg c]
theorem HR.first (h : HR Z vs pl RW cn rc d F) (hi : i < cn) : sp_firstDay F (nI (i + 1)) = sc_X9_forfeitDay (nI (i + 1)) (vs i) (gh Z 0) (gr Z 0) := by
  unfold sp_firstDay sc_X9_forfeitDay
  rw [← h.claims hi, h.ends hi, h.rule (j := 0) (by decide), Int32.add_assoc]
theorem h1000 {half : Int32} {n : Nat} (hn : n ≤ 511) : (half ≤ 0 ∨ ¬ half / 1000 = nI n) ↔ (half < 1000 * nI n ∨ 1000 * nI n + 999 < half) ∨ n = 0 ∧ half ≤ 0 := by
  rw [show (1000 : Int32) = nI 1000 from rfl, show (999 : Int32) = nI 999 from rfl, pk_mul, nI_add]
  by_cases h0 : half < 0
  · have h1 : half ≤ 0 := Int32.le_of_lt h0
    have h2 : half < nI (1000 * n) := by
      rw [Int32.lt_iff_toInt_lt] at h0 ⊢
      rw [nI_toInt (by omega)]
      have e0 : (0 : Int32).toInt = 0 := by decide
      omega
    exact ⟨fun _ => Or.inl (Or.inl h2), fun _ => Or.inl h1⟩
  · obtain ⟨j, hj, rfl⟩ := nI_of (x := half) h0
    rw [pk_div hj (by decide) (by decide), nI_eq (by omega) (by omega), nI_ltI hj (by omega), nI_ltI (by omega) hj]
    have e1 : nI j ≤ 0 ↔ j = 0 := ⟨fun z => by have := (nI_leI (a := j) (b := 0) hj (by omega)).mp z; omega, fun z => by subst z; decide⟩
    rw [e1]
    omega
theorem h1000' {half : Int32} {n : Nat} (c0 : ¬ half = 0) (hn : n + 1 ≤ 511) : (if half ≤ 0 then (0 : Int32) else if half / 1000 = nI (n + 1) then 1 else 0) = (if half < 1000 * nI (n + 1) then 0 else if 1000 * nI (n + 1) + 999 < half then 0 else 1) := by
  have h := h1000 (half := half) hn
  by_cases a1 : half ≤ 0
  · rw [if_pos a1]
    rcases h.mp (Or.inl a1) with (b | b) | b
    · rw [if_pos b]
    · by_cases b2 : half < 1000 * nI (n + 1)
      · rw [if_pos b2]
      · rw [if_neg b2, if_pos b]
    · omega
  · rw [if_neg a1]
    by_cases a2 : half / 1000 = nI (n + 1)
    · rw [if_pos a2]
      have h3 : ¬ ((half < 1000 * nI (n + 1) ∨ 1000 * nI (n + 1) + 999 < half) ∨ n + 1 = 0 ∧ half ≤ 0) := fun z => (h.mpr z).elim a1 (fun q => q a2)
      rw [if_neg (fun z => h3 (Or.inl (Or.inl z))), if_neg (fun z => h3 (Or.inl (Or.inr z)))]
    · rw [if_neg a2]
      rcases h.mp (Or.inr a2) with (b | b) | b
      · rw [if_pos b]
      · by_cases b2 : half < 1000 * nI (n + 1)
        · rw [if_pos b2]
        · rw [if_neg b2, if_pos b]
      · omega
theorem HR.right (h : HR Z vs pl RW cn rc d F) (hi : i < cn) (half : Int32) : sp_isRight F (nI (i + 1)) half = sc_X9_isRight (nI (i + 1)) (vs i) half (gh Z 0) := by
  have hc := h.1.2.2.2.2.2.1
  unfold sp_isRight sc_X9_isRight sc_X9_isTorn
  rw [h.tkv hi (k := 18) (by decide) (by decide) (by decide), h.tkv hi (k := 17) (by decide) (by decide) (by decide), h.today, tN_n (by omega)]
  by_cases c0 : half = 0
  · rw [if_pos c0, if_pos c0]
  · rw [if_neg c0, if_neg c0]
    rcases (h.2.2.1.1 i hi).1.2.1 with ⟨e1, e2⟩ | ⟨e1, e2⟩ | ⟨e1, e2⟩
    · rw [e1, e2, if_pos rfl, if_pos rfl, if_pos rfl]
    · rw [e1, e2, if_neg (show ¬ (1 : Int32) = -1 by decide), if_neg (show ¬ (if (1 : Int32) = 0 then (0 : Int32) else 1) = 0 by decide)]
      exact h1000' (n := i) c0 (by omega)
    · rw [e1, e2, if_neg (show ¬ (0 : Int32) = -1 by decide), if_neg (show ¬ (if (2 : Int32) = 0 then (0 : Int32) else 1) = 0 by decide)]
      exact h1000' (n := i) c0 (by omega)
end RT
/-- a ticket changed in what stands alone -/
theorem HR_loc {Z : hZ} {vs : Nat → Nat → Int32} {pl : Nat → pZ} {RW : Nat → Nat → Int64} {cn rc d i : Nat} {F F' : mZ} {v : Nat → Int32} (h : HR Z vs pl RW cn rc d F) (hi : i < cn) (hv : ∀ k, k = 0 ∨ k = 1 ∨ k = 2 ∨ k = 3 ∨ k = 4 ∨ k = 6 ∨ k = 12 ∨ k = 14 ∨ k = 15 ∨ k = 17 ∨ k = 19 ∨ k = 30 ∨ k = 31 → v k = vs i k) (hR : tkR v (tk F' (i + 1))) (hI : tI d v) (e1 : zh F' = zh F) (e2 : zs F' = zs F) (e3 : zc F' = zc F) (e4 : ze F' = ze F) (e5 : ∀ n, n ≠ i + 1 → ∀ k, k < 32 → tk F' n k = tk F n k) : HR Z (vsW vs i v) pl RW cn rc d F' := by
  have hw : ∀ j k, k = 0 ∨ k = 1 ∨ k = 2 ∨ k = 3 ∨ k = 4 ∨ k = 6 ∨ k = 12 ∨ k = 14 ∨ k = 15 ∨ k = 17 ∨ k = 19 ∨ k = 30 ∨ k = 31 → vsW vs i v j k = vs j k := fun j k hk => by
    by_cases e : j = i
    · rw [e, vsW_eq]; exact hv k hk
    · rw [vsW_ne e]
  obtain ⟨h1, h2, h3, h4, h6, h7, h8, h9⟩ := h
  refine ⟨?_, ?_, ?_, ?_, ?_, ?_, ?_, ?_⟩
  · refine ⟨h1.1, by rw [e1]; exact h1.2.1, h1.2.2.1, h1.2.2.2.1, by rw [e1]; exact h1.2.2.2.2.1, h1.2.2.2.2.2.1, h1.2.2.2.2.2.2.1, ?_⟩
    rw [e1, hw _ 17 (by decide)]
    exact h1.2.2.2.2.2.2.2
  · intro j hj
    rw [e1]
    exact h2 j hj
  · refine ⟨fun j hj => ?_, fun n hn1 hn2 k hk => ?_⟩
    · by_cases e : j = i
      · rw [e, vsW_eq]; exact ⟨hR, hI⟩
      · rw [vsW_ne e]
        refine ⟨⟨fun k k1 k2 k3 => ?_, ?_, ?_⟩, (h3.1 j hj).2⟩
        · rw [e5 (j + 1) (by omega) k (by omega)]; exact (h3.1 j hj).1.1 k k1 k2 k3
        · rw [e5 (j + 1) (by omega) 16 (by decide)]; exact (h3.1 j hj).1.2.1
        · rw [e5 (j + 1) (by omega) 13 (by decide)]; exact (h3.1 j hj).1.2.2
    · rw [e5 n (by omega) k hk]; exact h3.2 n hn1 hn2 k hk
  · intro p hp
    have : sh F' p = sh F p := funext fun k => by show zs F' _ = zs F _; rw [e2]
    rw [this]
    exact h4 p hp
  · refine ⟨fun j hj h0 => ?_, fun p hp => ?_⟩
    · rw [hw j 0 (by decide)] at h0
      rw [hw j 15 (by decide), hw j 19 (by decide)]
      exact h6.1 j hj h0
    · rcases h6.2 p hp with q | ⟨j, j1, j2, j3, j4⟩
      · exact Or.inl q
      · exact Or.inr ⟨j, j1, j2, by rw [hw j 0 (by decide)]; exact j3, by rw [hw j 15 (by decide)]; exact j4⟩
  · unfold rC7
    rw [e3, prN_c (vs := vs) cn (fun j _ => ⟨hw j 0 (by decide), hw j 1 (by decide)⟩), prN_c (vs := vs) cn (fun j _ => ⟨hw j 0 (by decide), hw j 1 (by decide)⟩), opS_c (vs := vs) cn (fun j _ => hw j 0 (by decide))]
    exact h7
  · refine ⟨fun day => ?_, h8.2⟩
    rw [gS_c (vs := vs) cn (fun j _ => ⟨hw j 0 (by decide), hw j 1 (by decide), hw j 2 (by decide), hw j 3 (by decide), hw j 4 (by decide), hw j 6 (by decide)⟩)]
    exact h8.1 day
  · intro y hy w hw9
    rw [e4, ← h9 y hy w hw9]
    unfold sc_X3_sumOn sc_X3_oversOn
    rw [ovN_c (vs := vs) cn (fun j _ => ⟨hw j 12 (by decide), hw j 14 (by decide), hw j 30 (by decide), hw j 31 (by decide)⟩), ovN_c (vs := vs) cn (fun j _ => ⟨hw j 12 (by decide), hw j 14 (by decide), hw j 30 (by decide), hw j 31 (by decide)⟩)]
