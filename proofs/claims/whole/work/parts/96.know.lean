/-! what is known at the law's start -/
theorem kn_law : ∀ w ∈ wsL_law, w ∈ lw_tbl := by
  unfold wsL_law
  exact List.forall_mem_append.mpr ⟨List.forall_mem_append.mpr ⟨List.forall_mem_append.mpr ⟨List.forall_mem_append.mpr ⟨List.forall_mem_append.mpr ⟨List.forall_mem_append.mpr ⟨List.forall_mem_append.mpr ⟨List.forall_mem_append.mpr ⟨List.forall_mem_append.mpr ⟨List.forall_mem_append.mpr ⟨List.forall_mem_append.mpr ⟨List.forall_mem_append.mpr ⟨List.forall_mem_append.mpr ⟨List.forall_mem_append.mpr ⟨wsL_i1, List.forall_mem_append.mpr ⟨wsL_i2, List.forall_mem_append.mpr ⟨wsL_i3, List.forall_mem_append.mpr ⟨wsL_i4, List.forall_mem_append.mpr ⟨wsL_i5, List.forall_mem_append.mpr ⟨wsL_i6, List.forall_mem_append.mpr ⟨wsL_i7, List.forall_mem_append.mpr ⟨wsL_i8, List.forall_mem_append.mpr ⟨wsL_i9, List.forall_mem_append.mpr ⟨wsL_i10, List.forall_mem_append.mpr ⟨wsL_i11, List.forall_mem_append.mpr ⟨wsL_i12, List.forall_mem_append.mpr ⟨wsL_i13, List.forall_mem_append.mpr ⟨wsL_i14, List.forall_mem_append.mpr ⟨wsL_i15, List.forall_mem_append.mpr ⟨wsL_i16, List.forall_mem_append.mpr ⟨wsL_i17, List.forall_mem_append.mpr ⟨wsL_i18, List.forall_mem_append.mpr ⟨wsL_i19, List.forall_mem_append.mpr ⟨wsL_i20, List.forall_mem_append.mpr ⟨wsL_i21, List.forall_mem_append.mpr ⟨wsL_i22, List.forall_mem_append.mpr ⟨wsL_i23, List.forall_mem_append.mpr ⟨wsL_i24, List.forall_mem_append.mpr ⟨wsL_i25, List.forall_mem_append.mpr ⟨wsL_i26, List.forall_mem_append.mpr ⟨wsL_i27, List.forall_mem_append.mpr ⟨wsL_i28, List.forall_mem_append.mpr ⟨wsL_i29, List.forall_mem_append.mpr ⟨wsL_i30, List.forall_mem_append.mpr ⟨wsL_i31, List.forall_mem_append.mpr ⟨wsL_i32, List.forall_mem_append.mpr ⟨wsL_i33, List.forall_mem_append.mpr ⟨wsL_i34, List.forall_mem_append.mpr ⟨wsL_i35, List.forall_mem_append.mpr ⟨wsL_i36, List.forall_mem_append.mpr ⟨wsL_i37, List.forall_mem_append.mpr ⟨wsL_i38, List.forall_mem_append.mpr ⟨wsL_i39, List.forall_mem_append.mpr ⟨wsL_i40, List.forall_mem_append.mpr ⟨wsL_i41, List.forall_mem_append.mpr ⟨wsL_i42, List.forall_mem_append.mpr ⟨wsL_i43, List.forall_mem_append.mpr ⟨wsL_i44, List.forall_mem_append.mpr ⟨wsL_i45, List.forall_mem_append.mpr ⟨wsL_i46, List.forall_mem_append.mpr ⟨wsL_i47, wsL_i48⟩⟩⟩⟩⟩⟩⟩⟩⟩⟩⟩⟩⟩⟩⟩⟩⟩⟩⟩⟩⟩⟩⟩⟩⟩⟩⟩⟩⟩⟩⟩⟩⟩⟩⟩⟩⟩⟩⟩⟩⟩⟩⟩⟩⟩⟩⟩, wsL_X110⟩, wsL_X130⟩, wsL_X00⟩, wsL_X30⟩, wsL_X120⟩, wsL_X90⟩, wsL_X70⟩, wsL_X80⟩, wsL_X20⟩, wsL_X60⟩, wsL_X10⟩, wsL_X40⟩, fun _ h => absurd h List.not_mem_nil⟩
def knW1 : List Cond := [.instantiable RX0 1, .instantiable RX1 3, .instantiable RX2 3, .instantiable RX3 9, .instantiable RX4 2, .instantiable RX6 6, .instantiable RX7 6, .instantiable RX8 1, .instantiable RX9 19, .instantiable RX11 4, .instantiable RX12 4, .instantiable RX13 6, .arrayClass .int, .arrayClass .long, .arrayClass .boolean, .arrayOver (.object "PledgeHouse$Pledge"), .arrayOver (.object "PledgeHouse$Ticket"), .arrayOver (.array .long)]
def knW2 : List Cond := [.castable "PledgeHouse$Thing" "PledgeHouse$Pledge", .castable "PledgeHouse$Gold" "PledgeHouse$Pledge", .castable "PledgeHouse$Lot" "PledgeHouse$Pledge", .castable "PledgeHouse$Coat" "PledgeHouse$Pledge", .castable "PledgeHouse$Rare" "PledgeHouse$Pledge", .castable "[I" "java/lang/Cloneable", .declares ⟨"PledgeHouse$Pledge", "kind", "()I"⟩, .declares ⟨"PledgeHouse$Pledge", "worth", "(II)I"⟩]
def knW3 : List Cond := [.fieldLinkNest RX13 24 "PledgeHouseModel$State" "house" "[I" "PledgeHouseModel", .fieldLinkNest RX13 31 "PledgeHouseModel$State" "shelf" "[I" "PledgeHouseModel", .fieldLinkNest RX13 41 "PledgeHouseModel$State" "ticket" "[I" "PledgeHouseModel", .fieldLinkNest RX13 140 "PledgeHouseModel$State" "coins" "[J" "PledgeHouseModel", .methodLinkNest RX13 9 yX12_init "PledgeHouseModel", .methodLinkNest RX13 187 yX12_copy "PledgeHouseModel"]
def knW4 : List Cond := [.laysStatic RX11 "RULES_AT_FIRST" "[I", .laysStatic RX11 "RULES_LOWEST" "[I", .laysStatic RX11 "RULES_HIGHEST" "[I", .laysStatic RX13 "AT_FIRST" "[I", .laysStatic RX13 "LEAST" "[I", .laysStatic RX13 "GREATEST" "[I", .initialized RX11, .initialized RX13]
set_option maxRecDepth 100000 in
theorem kn_w1 : ∀ w ∈ knW1, w ∈ lw_tbl := by decide +kernel
set_option maxRecDepth 100000 in
theorem kn_w2 : ∀ w ∈ knW2, w ∈ lw_tbl := by decide +kernel
set_option maxRecDepth 100000 in
theorem kn_w3 : ∀ w ∈ knW3, w ∈ lw_tbl := by decide +kernel
set_option maxRecDepth 100000 in
theorem kn_w4 : ∀ w ∈ knW4, w ∈ lw_tbl := by decide +kernel
set_option maxRecDepth 100000 in
theorem kn_wF : ∀ w ∈ cnF, w ∈ lw_tbl := by decide +kernel
set_option maxRecDepth 100000 in
theorem kn_wM : ∀ w ∈ cnM, w ∈ lw_tbl := by decide +kernel
theorem kn_arr {s : State} {args : Array Value} {ty : FieldType} (h : (Cond.arrayClass ty).before args s = true) : ∃ c : ClassId, ArrOfT s c ty ∧ s.vm.findClass ("[" ++ ty.toString) = some c := by
  obtain ⟨c, k, comp, h1, h2, h3⟩ := Cond.arrayClass_spec h
  exact ⟨c, fun n z => ⟨fun _ h => (by cases h), k, h2, comp, h3⟩, h1⟩
theorem kn_arrO {s : State} {args : Array Value} {C : String} (h : (Cond.arrayOver (.object C)).before args s = true) : ∃ c : ClassId, ArrOfT s c (.object C) ∧ va_RA s c (.object C) := by
  obtain ⟨comp, c, k, h1, -, h3, h4, h5⟩ := Cond.arrayOver_spec h
  exact ⟨c, fun n z => ⟨fun _ h => (by cases h), k, h3, comp, h4⟩, k, comp, h3, h4, h1, h5⟩
theorem kn_arrA {s : State} {args : Array Value} {t : FieldType} (h : (Cond.arrayOver (.array t)).before args s = true) : ∃ c : ClassId, ArrOfT s c (.array t) ∧ va_RA s c (.array t) := by
  obtain ⟨comp, c, k, h1, h3, h4, h5⟩ := Cond.arrayOver_specA h
  exact ⟨c, fun n z => ⟨fun _ h => (by cases h), k, h3, comp, h4⟩, h5⟩
def lsf (l : List (Nat → Nat)) : Nat → Nat → Nat := fun i => l.getD i (fun _ => 0)
theorem kn_K {s : State} {args : Array Value} (hts : ∀ w ∈ lw_tbl, w.before args s = true) : ∃ (D : va_G) (cs : Nat → ClassId), va_K D vwCl (tysA cs) s := by
  have h1 : ∀ w ∈ knW1, w.before args s = true := fun w hw => hts w (kn_w1 w hw)
  obtain ⟨c0, f0, k0⟩ := u_known (C := RX0) (T := TX0) (N := 1) (n := 1) hts wsL_X00 (h1 _ (List.mem_of_getElem? (i := 0) rfl))
  obtain ⟨c1, f1, k1⟩ := u_known (C := RX1) (T := TX1) (N := 3) (n := 3) hts wsL_X10 (h1 _ (List.mem_of_getElem? (i := 1) rfl))
  obtain ⟨c2, f2, k2⟩ := u_known (C := RX2) (T := TX2) (N := 3) (n := 3) hts wsL_X20 (h1 _ (List.mem_of_getElem? (i := 2) rfl))
  obtain ⟨c3, f3, k3⟩ := u_known (C := RX3) (T := TX3) (N := 9) (n := 9) hts wsL_X30 (h1 _ (List.mem_of_getElem? (i := 3) rfl))
  obtain ⟨c4, f4, k4⟩ := u_known (C := RX4) (T := TX4) (N := 2) (n := 2) hts wsL_X40 (h1 _ (List.mem_of_getElem? (i := 4) rfl))
  obtain ⟨c5, f5, k5⟩ := u_known (C := RX6) (T := TX6) (N := 6) (n := 6) hts wsL_X60 (h1 _ (List.mem_of_getElem? (i := 5) rfl))
  obtain ⟨c6, f6, k6⟩ := u_known (C := RX7) (T := TX7) (N := 6) (n := 6) hts wsL_X70 (h1 _ (List.mem_of_getElem? (i := 6) rfl))
  obtain ⟨c7, f7, k7⟩ := u_known (C := RX8) (T := TX8) (N := 1) (n := 1) hts wsL_X80 (h1 _ (List.mem_of_getElem? (i := 7) rfl))
  obtain ⟨c8, f8, k8⟩ := u_known (C := RX9) (T := TX9) (N := 19) (n := 19) hts wsL_X90 (h1 _ (List.mem_of_getElem? (i := 8) rfl))
  obtain ⟨c9, f9, k9⟩ := u_known (C := RX11) (T := TX11) (N := 4) (n := 4) hts wsL_X110 (h1 _ (List.mem_of_getElem? (i := 9) rfl))
  obtain ⟨c10, f10, k10⟩ := u_known (C := RX12) (T := TX12) (N := 4) (n := 4) hts wsL_X120 (h1 _ (List.mem_of_getElem? (i := 10) rfl))
  obtain ⟨c11, f11, k11⟩ := u_known (C := RX13) (T := TX13) (N := 6) (n := 6) hts wsL_X130 (h1 _ (List.mem_of_getElem? (i := 11) rfl))
  obtain ⟨a0, g0, e0⟩ := kn_arr (ty := .int) (h1 _ (List.mem_of_getElem? (i := 12) rfl))
  obtain ⟨a1, g1, e1⟩ := kn_arr (ty := .long) (h1 _ (List.mem_of_getElem? (i := 13) rfl))
  obtain ⟨a2, g2, e2⟩ := kn_arr (ty := .boolean) (h1 _ (List.mem_of_getElem? (i := 14) rfl))
  obtain ⟨a3, g3, e3⟩ := kn_arrO (C := "PledgeHouse$Pledge") (h1 _ (List.mem_of_getElem? (i := 15) rfl))
  obtain ⟨a4, g4, e4⟩ := kn_arrO (C := "PledgeHouse$Ticket") (h1 _ (List.mem_of_getElem? (i := 16) rfl))
  obtain ⟨a5, g5, e5⟩ := kn_arrA (t := .long) (h1 _ (List.mem_of_getElem? (i := 17) rfl))
  refine ⟨(lst [c0, c1, c2, c3, c4, c5, c6, c7, c8, c9, c10, c11], lsf [f0, f1, f2, f3, f4, f5, f6, f7, f8, f9, f10, f11]), lst [a0, a1, a2, a3, a4, a5], fun c q hq => ?_, fun k q hk => ?_⟩
  · match c with
    | 0 => cases hq; exact k0
    | 1 => cases hq; exact k1
    | 2 => cases hq; exact k2
    | 3 => cases hq; exact k3
    | 4 => cases hq; exact k4
    | 5 => cases hq; exact k5
    | 6 => cases hq; exact k6
    | 7 => cases hq; exact k7
    | 8 => cases hq; exact k8
    | 9 => cases hq; exact k9
    | 10 => cases hq; exact k10
    | 11 => cases hq; exact k11
    | n + 12 => cases hq
  · match k with
    | 0 => cases hk; exact ⟨g0, e0⟩
    | 1 => cases hk; exact ⟨g1, e1⟩
    | 2 => cases hk; exact ⟨g2, e2⟩
    | 3 => cases hk; exact ⟨g3, e3⟩
    | 4 => cases hk; exact ⟨g4, e4⟩
    | 5 => cases hk; exact ⟨g5, e5⟩
    | n + 6 => cases hk
theorem kn_fl : ∀ C ∈ cnL, (Cond.not (.castable C "PledgeHouse$Lot")) ∈ flatC (Jvm.Cond.and given_1 narrow_1) := by decide +kernel
theorem kn_fr : ∀ C ∈ cnR, (Cond.not (.castable C "PledgeHouse$Rare")) ∈ flatC (Jvm.Cond.and given_1 narrow_1) := by decide +kernel
theorem kn_cp : ∀ C ∈ cnP, (Cond.castable C "PledgeHouse$Pledge") ∈ knW2 := by decide +kernel
theorem kn_cd : ∀ x ∈ cnD, (Cond.declares x) ∈ knW2 := by decide +kernel
theorem kn_nF : ∀ w ∈ cnF, w.onTables = true := by decide +kernel
theorem kn_nM : ∀ w ∈ cnM, w.onTables = true := by decide +kernel
theorem kn_cK {s : State} {args : Array Value} {D : va_G} {cs : Nat → ClassId} (hts : ∀ w ∈ lw_tbl, w.before args s = true) (hg : (Jvm.Cond.and given_1 narrow_1).before args s = true) (hK : va_K D vwCl (tysA cs) s) : cK D cs s := by
  have hf := flat_of_before _ hg
  have h2 : ∀ w ∈ knW2, w.before args s = true := fun w hw => hts w (kn_w2 w hw)
  exact ⟨hK, fun w hw => va_Nw.of (kn_nF w hw) (hts w (kn_wF w hw)), fun w hw => va_Nw.of (kn_nM w hw) (hts w (kn_wM w hw)), fun C hC => va_Nw.of rfl (h2 _ (kn_cp C hC)), fun C hC => va_Nc.of (hf _ (kn_fl C hC)), fun C hC => va_Nc.of (hf _ (kn_fr C hC)), va_Nw.of rfl (h2 _ (List.mem_of_getElem? (i := 5) rfl)), fun x hx => va_Nw.of rfl (h2 _ (kn_cd x hx))⟩
theorem kn_mK {s : State} {args : Array Value} {D : va_G} {cs : Nat → ClassId} (hts : ∀ w ∈ lw_tbl, w.before args s = true) (hK : va_K D vwCl (tysA cs) s) : mK D (cs 0) (cs 1) s := by
  have h3 : ∀ w ∈ knW3, w.before args s = true := fun w hw => hts w (kn_w3 w hw)
  exact ⟨hK.sub [0, 1] rfl, va_Nw.of rfl (h3 _ (List.mem_of_getElem? (i := 0) rfl)), va_Nw.of rfl (h3 _ (List.mem_of_getElem? (i := 1) rfl)), va_Nw.of rfl (h3 _ (List.mem_of_getElem? (i := 2) rfl)), va_Nw.of rfl (h3 _ (List.mem_of_getElem? (i := 3) rfl))⟩
theorem kn_cA {s : State} {args : Array Value} (hts : ∀ w ∈ lw_tbl, w.before args s = true) : cA s := by
  have h1 : ∀ w ∈ knW1, w.before args s = true := fun w hw => hts w (kn_w1 w hw)
  exact ⟨aoW.of (h1 _ (List.mem_of_getElem? (i := 15) rfl)), aoW.of (h1 _ (List.mem_of_getElem? (i := 16) rfl)), aoW.of (h1 _ (List.mem_of_getElem? (i := 17) rfl))⟩
theorem kn_nest {s : State} {args : Array Value} (hts : ∀ w ∈ lw_tbl, w.before args s = true) : va_Nw (.methodLinkNest RX13 9 yX12_init "PledgeHouseModel") s ∧ va_Nw (.methodLinkNest RX13 187 yX12_copy "PledgeHouseModel") s := by
  have h3 : ∀ w ∈ knW3, w.before args s = true := fun w hw => hts w (kn_w3 w hw)
  exact ⟨va_Nw.of rfl (h3 _ (List.mem_of_getElem? (i := 4) rfl)), va_Nw.of rfl (h3 _ (List.mem_of_getElem? (i := 5) rfl))⟩
/-! the statics' arrays -/
def knE (C n : String) (f : Nat → Int32) : List Cond := .arrayOf (.static C n "[I") .int :: .exactly (.static C n "[I") "[I" :: .eq (.length (.static C n "[I")) (.int 14) :: (List.range 14).map (fun j => .eq (.elem (.static C n "[I") (.int (Int32.ofNat j))) (.int (f j)))
theorem kn_T {s : State} {args : Array Value} {C n : String} {f : Nat → Int32} {A : Nat → Prop} (hl : (Cond.laysStatic C n "[I").before args s = true) (hini : (Cond.initialized C).before args s = true) (hE : ∀ w ∈ knE C n f, w.before args s = true) (hA : ∀ a : Nat, a < s.heap.size → ¬ A a) : ∃ t : Nat, (Term.static C n "[I").eval args s none [] s = some (.ref t) ∧ va_Z C n "[I" (.ref t) A s s.heap ∧ va_T .int t 14 (fun j => .int (f j)) A s s.heap := by
  obtain ⟨t, h1, h2⟩ := va_Tof (tm := .static C n "[I") (ty := .int) (N := 14) (f := fun j => .int (f j)) (A := A) (by decide) (hE _ (List.mem_of_getElem? (i := 0) rfl)) (va_eqt (hE _ (List.mem_of_getElem? (i := 2) rfl))) (fun j hj => va_eqt (hE _ (List.mem_cons_of_mem _ (List.mem_cons_of_mem _ (List.mem_cons_of_mem _ (List.mem_map.mpr ⟨j, List.mem_range.mpr hj, rfl⟩)))))) hA
  exact ⟨t, h1, va_Zof hl hini h1 hA, h2⟩
theorem ln_sz {s : State} {args : Array Value} {tm : Term} {t : Nat} {cell : Cell} {v : Value} (ht : tm.eval args s none [] s = some (.ref t)) (hat : s.arrayAt? t = some cell) (hlen : (Term.length tm).eval args s none [] s = some v) : cell.slots.size < 2 ^ 31 := by
  simp only [Term.eval, ht, hat, Option.bind_eq_bind, Option.bind_some] at hlen
  by_cases hlt : cell.slots.size < 2147483648
  · exact hlt
  · simp [hlt] at hlen
theorem kn_U {s : State} {args : Array Value} {C n : String} {f : Nat → Int32} {A : Nat → Prop} {cI : ClassId} {t : Nat} (hE : ∀ w ∈ knE C n f, w.before args s = true) (hA : ∀ a : Nat, a < s.heap.size → ¬ A a) (hI : s.vm.findClass "[I" = some cI) (ht : (Term.static C n "[I").eval args s none [] s = some (.ref t)) : va_U cI t 14 f A s.heap := by
  have hlen : (Term.length (.static C n "[I")).eval args s none [] s = some (.int 14) := va_eqt (hE _ (List.mem_of_getElem? (i := 2) rfl))
  obtain ⟨t2, cell, ht2, hat, hv⟩ := Term.length_spec hlen
  cases ht.symm.trans ht2
  obtain ⟨hcell, hkn, hst, -⟩ := State.arrayAt?_spec hat
  have hsz : cell.slots.size < 2 ^ 31 := ln_sz ht hat hlen
  have h14 : cell.slots.size = 14 := by
    have h9 : cell.slots.size.toInt32 = 14 := (Value.int.inj hv).symm
    have h10 : (Int32.ofNat cell.slots.size).toNatClampNeg = (Int32.ofNat 14).toNatClampNeg := congrArg Int32.toNatClampNeg h9
    rwa [Int32.toNatClampNeg_ofNat_of_lt hsz, Int32.toNatClampNeg_ofNat_of_lt (by decide)] at h10
  obtain ⟨a2, c2, cell2, k2, q1, q2, q3, q4, q5, q6, -⟩ := Cond.exactly_spec (args := args) (first := s) (o := none) (s := s) (idx := []) (t := .static C n "[I") (cls := "[I") (hE _ (List.mem_of_getElem? (i := 1) rfl))
  cases ht.symm.trans q1
  cases hcell.symm.trans q3
  cases hI.symm.trans q2
  refine ⟨cell, hcell, q6, ?_, fun k h => (by rw [h] at q5; cases q5), hkn, hA t (Array.getElem?_eq_some_iff.mp hcell).1⟩
  refine Array.ext_getElem? (fun i => ?_)
  by_cases hi : i < 14
  · rw [arrV_read cI (fun j => Value.int (f j)) hi]
    obtain ⟨a, j, cell3, h1, h2, h3, h4, h5⟩ := Term.elem_spec (va_eqt (hE _ (List.mem_cons_of_mem _ (List.mem_cons_of_mem _ (List.mem_cons_of_mem _ (List.mem_map.mpr ⟨i, List.mem_range.mpr hi, rfl⟩))))))
    cases ht.symm.trans h1
    cases hat.symm.trans h3
    have hj : j = Int32.ofNat i := by
      have e : (Term.int (Int32.ofNat i)).eval args s none [] s = some (.int (Int32.ofNat i)) := rfl
      cases h2.symm.trans e
      rfl
    have hc : j.toNatClampNeg = i := by rw [hj]; exact Int32.toNatClampNeg_ofNat_of_lt (by omega)
    rw [hc] at h5
    exact h5
  · rw [Array.getElem?_eq_none (by omega), Array.getElem?_eq_none (by rw [arrV_size]; omega)]
theorem kn_e1 : ∀ w ∈ knE RX11 "RULES_AT_FIRST" tFIRST, w ∈ flatC (Jvm.Cond.and given_1 narrow_1) := by decide +kernel
theorem kn_e2 : ∀ w ∈ knE RX11 "RULES_LOWEST" tLEAST, w ∈ flatC (Jvm.Cond.and given_1 narrow_1) := by decide +kernel
theorem kn_e3 : ∀ w ∈ knE RX11 "RULES_HIGHEST" tGREAT, w ∈ flatC (Jvm.Cond.and given_1 narrow_1) := by decide +kernel
theorem kn_e4 : ∀ w ∈ knE RX13 "AT_FIRST" tFIRST, w ∈ flatC (Jvm.Cond.and given_1 narrow_1) := by decide +kernel
theorem kn_e5 : ∀ w ∈ knE RX13 "LEAST" tLEAST, w ∈ flatC (Jvm.Cond.and given_1 narrow_1) := by decide +kernel
theorem kn_e6 : ∀ w ∈ knE RX13 "GREATEST" tGREAT, w ∈ flatC (Jvm.Cond.and given_1 narrow_1) := by decide +kernel
/-- all statics, seen from a state where nothing old may be written -/
theorem kn_st {s : State} {args : Array Value} {D : va_G} {cs : Nat → ClassId} (hts : ∀ w ∈ lw_tbl, w.before args s = true) (hg : (Jvm.Cond.and given_1 narrow_1).before args s = true) (hK : va_K D vwCl (tysA cs) s) : ∃ rF rA rL rG sL sG : Nat, stFT cs (fun x => s.heap.size ≤ x) rF s ∧ stMT D cs (fun x => s.heap.size ≤ x) rA s ∧ stCT (fun x => s.heap.size ≤ x) rL rG s ∧ stRT (fun x => s.heap.size ≤ x) sL sG s := by
  have hf := flat_of_before _ hg
  have h4 : ∀ w ∈ knW4, w.before args s = true := fun w hw => hts w (kn_w4 w hw)
  have hA : ∀ a : Nat, a < s.heap.size → ¬ s.heap.size ≤ a := fun a h => Nat.not_le.mpr h
  have i11 := h4 (.initialized RX11) (List.mem_of_getElem? (i := 6) rfl)
  have i13 := h4 (.initialized RX13) (List.mem_of_getElem? (i := 7) rfl)
  obtain ⟨rF, t1, z1, T1⟩ := kn_T (C := RX11) (n := "RULES_AT_FIRST") (f := tFIRST) (A := fun x => s.heap.size ≤ x) (h4 _ (List.mem_of_getElem? (i := 0) rfl)) i11 (fun w hw => hf w (kn_e1 w hw)) hA
  obtain ⟨rL, t2, z2, T2⟩ := kn_T (C := RX11) (n := "RULES_LOWEST") (f := tLEAST) (A := fun x => s.heap.size ≤ x) (h4 _ (List.mem_of_getElem? (i := 1) rfl)) i11 (fun w hw => hf w (kn_e2 w hw)) hA
  obtain ⟨rG, t3, z3, T3⟩ := kn_T (C := RX11) (n := "RULES_HIGHEST") (f := tGREAT) (A := fun x => s.heap.size ≤ x) (h4 _ (List.mem_of_getElem? (i := 2) rfl)) i11 (fun w hw => hf w (kn_e3 w hw)) hA
  obtain ⟨rA, t4, z4, T4⟩ := kn_T (C := RX13) (n := "AT_FIRST") (f := tFIRST) (A := fun x => s.heap.size ≤ x) (h4 _ (List.mem_of_getElem? (i := 3) rfl)) i13 (fun w hw => hf w (kn_e4 w hw)) hA
  obtain ⟨sL, t5, z5, T5⟩ := kn_T (C := RX13) (n := "LEAST") (f := tLEAST) (A := fun x => s.heap.size ≤ x) (h4 _ (List.mem_of_getElem? (i := 4) rfl)) i13 (fun w hw => hf w (kn_e5 w hw)) hA
  obtain ⟨sG, t6, z6, T6⟩ := kn_T (C := RX13) (n := "GREATEST") (f := tGREAT) (A := fun x => s.heap.size ≤ x) (h4 _ (List.mem_of_getElem? (i := 5) rfl)) i13 (fun w hw => hf w (kn_e6 w hw)) hA
  have U1 := kn_U (f := tFIRST) (fun w hw => hf w (kn_e1 w hw)) hA (hK.2 0 _ rfl).2 t1
  exact ⟨rF, rA, rL, rG, sL, sG, ⟨z1, U1, kn_cA hts⟩, ⟨⟨kn_mK hts hK, (kn_nest hts).1⟩, z4, T4⟩, ⟨z2, z3, T2, T3⟩, ⟨z5, z6, T5, T6⟩⟩
