/-! the class's house and the reference's: what they have alike -/
def tot (RW : Nat → Nat → Int64) (rc j : Nat) : Int64 := if rc = 0 then 0 else RW (rc - 1) j
/-- months begun up to a day -/
def bgN (s d : Nat) : Nat := if d < s then 0 else (d - s) / 30 + 1
/-- a ticket's fields, there and here -/
def tkR (v w : Nat → Int32) : Prop := (∀ k, k ≤ 26 → k ≠ 13 → k ≠ 16 → w k = v k) ∧ ((v 28 = 0 ∧ w 16 = -1) ∨ (v 28 = 1 ∧ w 16 = 1) ∨ (v 28 = 2 ∧ w 16 = 0)) ∧ ((v 31 = -1 ∧ w 13 = 0) ∨ (¬ v 31 = -1 ∧ w 13 = 1))
/-- a ticket's numbers on a day: the term and its interest -/
def tA (d : Nat) (v : Nat → Int32) : Prop := ∃ s b p r x : Nat, v 4 = nI s ∧ v 3 = nI b ∧ v 1 = nI p ∧ v 6 = nI r ∧ v 2 = nI x ∧ s ≤ d + 30 ∧ (v 0 = 0 → b = bgN s d) ∧ b ≤ 245 ∧ 1 ≤ p ∧ p ≤ 10000000 ∧ r ≤ 200 ∧ x ≤ 2000000 * b
/-- what a renewing of today put aside -/
def tU (d : Nat) (v : Nat → Int32) : Prop := v 20 = -1 ∨ ∃ y : Nat, v 20 = nI y ∧ y ≤ d ∧ (y = d → ∃ s b r x : Nat, v 21 = nI s ∧ v 24 = nI b ∧ v 23 = nI r ∧ v 25 = nI x ∧ s ≤ d + 30 ∧ b = bgN s d ∧ r ≤ 200 ∧ x ≤ 2000000 * b)
/-- what was left over -/
def tO (d : Nat) (v : Nat → Int32) : Prop := ∃ ov : Nat, v 12 = nI ov ∧ ov ≤ 10000000 ∧ (0 < ov → ∃ y : Nat, v 30 = nI y ∧ y ≤ d) ∧ (v 31 = -1 ∨ ∃ y : Nat, v 31 = nI y ∧ y ≤ d) ∧ (v 0 = 0 → ov = 0 ∧ v 31 = -1)
/-- the rest of it -/
def tB (v : Nat → Int32) : Prop := (v 7 = 0 ∨ v 7 = 1) ∧ (∃ kd : Nat, v 19 = nI kd ∧ kd ≤ 4) ∧ (∃ p : Nat, v 15 = nI p ∧ p < 40) ∧ (∃ hb : Nat, v 10 = nI hb ∧ hb ≤ 10000000)
def tI (d : Nat) (v : Nat → Int32) : Prop := tA d v ∧ tU d v ∧ tO d v ∧ tB v
/-- a pledge, there and here -/
def plR (d : Nat) (P : pZ) (w : Nat → Int32) : Prop := match P.1 with
  | 0 => w 2 = P.2.1 0 ∧ w 6 = 0 ∧ w 7 = 0 ∧ ∃ x : Nat, P.2.1 0 = nI x ∧ x ≤ 1000000
  | 1 => w 6 = P.2.1 0 ∧ w 7 = P.2.1 1 ∧ w 4 = P.2.1 2 ∧ (∃ x : Nat, P.2.1 0 = nI x ∧ x ≤ 1000000) ∧ ∃ x : Nat, P.2.1 2 = nI x ∧ x ≤ 1000
  | 2 => w 6 = 0 ∧ w 7 = 0 ∧ w 8 = P.2.1 6 ∧ (∃ x : Nat, P.2.1 6 = nI x ∧ x ≤ 6) ∧ ∀ k, k < 6 → w (9 + k) = P.2.1 k ∧ ∃ x : Nat, P.2.1 k = nI x ∧ x ≤ 1000000
  | 3 => w 2 = P.2.1 0 ∧ w 4 = P.2.1 1 ∧ w 5 = P.2.1 2 ∧ w 6 = 0 ∧ w 7 = 0 ∧ (∃ x : Nat, P.2.1 0 = nI x ∧ x ≤ 1000000) ∧ (∃ x : Nat, P.2.1 1 = nI x ∧ x ≤ 500) ∧ ∃ x : Nat, P.2.1 2 = nI x ∧ x ≤ d
  | 4 => w 6 = P.2.1 0 ∧ w 7 = P.2.1 1 ∧ w 8 = P.2.1 3 ∧ w 2 = P.2.1 4 ∧ w 3 = P.2.1 5 ∧ P.2.1 0 = FP.f2i (FP.fmul P.2.2 1120403456) ∧ P.2.1 1 = FP.f2i (FP.fmul (FP.fsub (FP.fmul P.2.2 1120403456) (FP.i2f (FP.f2i (FP.fmul P.2.2 1120403456)))) 1148846080) ∧ WOK P.2.2 ∧ (∃ x : Nat, P.2.1 4 = nI x ∧ x ≤ 1000000) ∧ ∃ x : Nat, P.2.1 5 = nI x ∧ x ≤ 1000000
  | _ => False
/-- a place, there and here -/
def shR (d : Nat) (o : Option Nat) (bx on : Int32) (P : pZ) (w : Nat → Int32) : Prop := w 1 = on ∧ match o with
  | none => on = 0 ∧ ((bx = 0 ∧ w 0 = -1) ∨ (bx = 1 ∧ w 0 = 5)) ∧ ∀ k, 1 ≤ k → k < 16 → k ≠ 5 → w k = 0
  | some _ => bx = 0 ∧ w 0 = nI P.1 ∧ plR d P w
/-- how many tickets are open; how many pledges there are -/
def opS (vs : Nat → Nat → Int32) : Nat → Int64
  | 0 => 0
  | i + 1 => if vs i 0 = 0 then opS vs i + 1 else opS vs i
def plS (Z : hZ) : Nat → Int64
  | 0 => 0
  | i + 1 => if gp Z i = none then plS Z i else plS Z i + 1
/-- how the interest of a ticket grows -/
def gF (v : Nat → Int32) (day : Int32) : Int64 := ((v 2).toInt64 - (sc_X11_cutUp (v 1) (v 6)).toInt64 * (v 3).toInt64) + (sc_X11_cutUp (v 1) (v 6)).toInt64 * (sc_X7_begunUpTo (v 4).toInt64 day.toInt64).toInt64
def gS (vs : Nat → Nat → Int32) (day : Int32) : Nat → Int64
  | 0 => 0
  | i + 1 => if vs i 0 = 0 then gS vs day i + gF (vs i) day else gS vs day i
/-- numbers and rules -/
def rC1 (Z : hZ) (vs : Nat → Nat → Int32) (cn rc d : Nat) (F : mZ) : Prop := gh Z 0 = nI d ∧ zh F 0 = nI d ∧ d ≤ 7300 ∧ gh Z 1 = nI cn ∧ zh F 1 = nI cn ∧ cn ≤ 511 ∧ gh Z 2 = nI rc ∧ zh F 2 = (if cn = 0 then 0 else vs (cn - 1) 17)
def rC2 (Z : hZ) (F : mZ) : Prop := ∀ j, j < 14 → gr Z j = zh F (3 + j) ∧ ∃ x : Nat, gr Z j = nI x ∧ x ≤ tN (tGREAT j)
/-- tickets -/
def rC3 (vs : Nat → Nat → Int32) (cn d : Nat) (F : mZ) : Prop := (∀ i, i < cn → tkR (vs i) (tk F (i + 1)) ∧ tI d (vs i)) ∧ ∀ n, cn < n → n ≤ 511 → ∀ k, k < 32 → tk F n k = 0
/-- places -/
def rC4 (Z : hZ) (pl : Nat → pZ) (d : Nat) (F : mZ) : Prop := ∀ p, p < 40 → shR d (gp Z p) (gb Z p) (go Z p) (pl p) (sh F p)
/-- tickets and places -/
def rC6 (Z : hZ) (vs : Nat → Nat → Int32) (pl : Nat → pZ) (cn : Nat) : Prop := (∀ i, i < cn → vs i 0 = 0 → ∃ p, p < 40 ∧ vs i 15 = nI p ∧ gp Z p ≠ none ∧ go Z p = nI (i + 1) ∧ vs i 19 = nI (pl p).1) ∧ ∀ p, p < 40 → go Z p = 0 ∨ ∃ i, i < cn ∧ go Z p = nI (i + 1) ∧ vs i 0 = 0 ∧ vs i 15 = nI p
/-- coins and counts -/
def rC7 (Z : hZ) (vs : Nat → Nat → Int32) (RW : Nat → Nat → Int64) (cn rc : Nat) (F : mZ) : Prop := (tot RW rc 0 = zc F 0 ∧ tot RW rc 1 = zc F 1 ∧ tot RW rc 2 = zc F 2 ∧ tot RW rc 3 = zc F 3 ∧ tot RW rc 5 = zc F 4 ∧ tot RW rc 7 = zc F 5 ∧ tot RW rc 13 = zc F 6) ∧ tot RW rc 8 = prN vs 0 cn ∧ tot RW rc 10 = opS vs cn ∧ tot RW rc 11 = plS Z 40 ∧ tot RW rc 12 = lN cn ∧ prN vs (tot RW rc 2 + tot RW rc 13) cn = tot RW rc 0
/-- the rows: their days, what they say of interest -/
def rC8 (vs : Nat → Nat → Int32) (RW : Nat → Nat → Int64) (cn rc d : Nat) : Prop := (∀ day : Int32, inN RW day rc = gS vs day cn) ∧ ∃ dy : Nat → Nat, (∀ i, i < rc → RW i 20 = lN (dy i) ∧ dy i ≤ d) ∧ ∀ i j, i ≤ j → j < rc → dy i ≤ dy j
/-- the days that have ended -/
def rC9 (Z : hZ) (vs : Nat → Nat → Int32) (RW : Nat → Nat → Int64) (cn rc d : Nat) (F : mZ) : Prop := ∀ y, y < d → ∀ w, w < 13 → sc_X3_sumOn Z RW vs cn rc (nI y) (nI w) = ze F (13 * y + w)
def HR (Z : hZ) (vs : Nat → Nat → Int32) (pl : Nat → pZ) (RW : Nat → Nat → Int64) (cn rc d : Nat) (F : mZ) : Prop := rC1 Z vs cn rc d F ∧ rC2 Z F ∧ rC3 vs cn d F ∧ rC4 Z pl d F ∧ rC6 Z vs pl cn ∧ rC7 Z vs RW cn rc F ∧ rC8 vs RW cn rc d ∧ rC9 Z vs RW cn rc d F
/-- one ticket anew -/
def vsW (vs : Nat → Nat → Int32) (i : Nat) (v : Nat → Int32) : Nat → Nat → Int32 := fun j => if j = i then v else vs j
theorem vsW_eq {vs : Nat → Nat → Int32} {i : Nat} {v : Nat → Int32} : vsW vs i v i = v := if_pos rfl
theorem vsW_ne {vs : Nat → Nat → Int32} {i j : Nat} {v : Nat → Int32} (h : j ≠ i) : vsW vs i v j = vs j := if_neg h
/-- sums that look at some fields of each ticket alone -/
theorem prN_c {vs vs' : Nat → Nat → Int32} {x : Int64} : ∀ n, (∀ i, i < n → vs' i 0 = vs i 0 ∧ vs' i 1 = vs i 1) → prN vs' x n = prN vs x n
  | 0, _ => rfl
  | n + 1, h => by
    have h1 := prN_c (vs := vs) (vs' := vs') (x := x) n (fun i hi => h i (by omega))
    have h2 := h n (by omega)
    unfold prN sc_X9_isOpen
    rw [h1, h2.1, h2.2]
theorem opS_c {vs vs' : Nat → Nat → Int32} : ∀ n, (∀ i, i < n → vs' i 0 = vs i 0) → opS vs' n = opS vs n
  | 0, _ => rfl
  | n + 1, h => by
    have h1 := opS_c (vs := vs) (vs' := vs') n (fun i hi => h i (by omega))
    unfold opS
    rw [h1, h n (by omega)]
theorem gS_c {vs vs' : Nat → Nat → Int32} {day : Int32} : ∀ n, (∀ i, i < n → vs' i 0 = vs i 0 ∧ vs' i 1 = vs i 1 ∧ vs' i 2 = vs i 2 ∧ vs' i 3 = vs i 3 ∧ vs' i 4 = vs i 4 ∧ vs' i 6 = vs i 6) → gS vs' day n = gS vs day n
  | 0, _ => rfl
  | n + 1, h => by
    have h1 := gS_c (vs := vs) (vs' := vs') (day := day) n (fun i hi => h i (by omega))
    obtain ⟨a0, a1, a2, a3, a4, a6⟩ := h n (by omega)
    unfold gS gF
    rw [h1, a0, a1, a2, a3, a4, a6]
theorem ovN_c {vs vs' : Nat → Nat → Int32} {day kept : Int32} : ∀ n, (∀ i, i < n → vs' i 12 = vs i 12 ∧ vs' i 14 = vs i 14 ∧ vs' i 30 = vs i 30 ∧ vs' i 31 = vs i 31) → ovN vs' day kept n = ovN vs day kept n
  | 0, _ => rfl
  | n + 1, h => by
    have h1 := ovN_c (vs := vs) (vs' := vs') (day := day) (kept := kept) n (fun i hi => h i (by omega))
    obtain ⟨a0, a1, a2, a3⟩ := h n (by omega)
    unfold ovN sc_X9_isHousesOver sc_X9_isKeptOver sc_X9_hasOverOn
    rw [h1, a0, a1, a2, a3]
