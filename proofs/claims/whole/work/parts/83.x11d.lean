/-! PledgeHouse: lending; taking an item out (by x11c.py) -/
theorem lend_k {Z : hZ} {RW : Nat → Nat → Int64} {q b : Nat → Nat} {P : pZ} {rc cn : Nat} {place amount months : Int32} (hcn : gh Z 1 = nI cn) (hc : cn ≤ 511) : ((sc_X3_lendOn Z RW q P b rc place amount months).2.2.2 = none → (sc_X3_lendOn Z RW q P b rc place amount months).2.1 = Z ∧ (sc_X3_lendOn Z RW q P b rc place amount months).2.2.1 = RW) ∧ ∀ x, (sc_X3_lendOn Z RW q P b rc place amount months).2.2.2 = some x → cn < 511 ∧ gt (sc_X3_lendOn Z RW q P b rc place amount months).2.1 cn = some (b 0) ∧ (∀ j, j ≠ cn → gt (sc_X3_lendOn Z RW q P b rc place amount months).2.1 j = gt Z j) ∧ gp (sc_X3_lendOn Z RW q P b rc place amount months).2.1 = gp Z ∧ ∀ j, j ≠ rc → (sc_X3_lendOn Z RW q P b rc place amount months).2.2.1 j = RW j := by
  have no : ∀ a : Int32, ((a, Z, RW, (none : Option (Int32 × (Nat → Int32)))).2.2.2 = none → (a, Z, RW, (none : Option (Int32 × (Nat → Int32)))).2.1 = Z ∧ (a, Z, RW, (none : Option (Int32 × (Nat → Int32)))).2.2.1 = RW) ∧ ∀ x, (a, Z, RW, (none : Option (Int32 × (Nat → Int32)))).2.2.2 = some x → cn < 511 ∧ gt (a, Z, RW, (none : Option (Int32 × (Nat → Int32)))).2.1 cn = some (b 0) ∧ (∀ j, j ≠ cn → gt (a, Z, RW, (none : Option (Int32 × (Nat → Int32)))).2.1 j = gt Z j) ∧ gp (a, Z, RW, (none : Option (Int32 × (Nat → Int32)))).2.1 = gp Z ∧ ∀ j, j ≠ rc → (a, Z, RW, (none : Option (Int32 × (Nat → Int32)))).2.2.1 j = RW j := fun a => ⟨fun _ => ⟨rfl, rfl⟩, fun x h => by cases h⟩
  unfold sc_X3_lendOn
  split
  · split
    · exact no _
    split
    · exact no _
    split
    · split
      · rename_i c
        have hlt : cn < 511 := by rw [hcn] at c; exact (nI_ltI (b := 511) (by omega) (by omega)).mp c
        refine ⟨fun h => (by cases h), fun x _ => ⟨hlt, ?_, fun j hj => ?_, rfl, wg_k (rw_k (rw_k (rw_k (rw_k rb_k))))⟩⟩
        · show va_up (gt Z) (tN (gh Z 1)) (some (b 0)) cn = some (b 0)
          rw [hcn, tN_n (by omega)]
          exact if_pos rfl
        · show va_up (gt Z) (tN (gh Z 1)) (some (b 0)) j = gt Z j
          rw [hcn, tN_n (by omega)]
          exact if_neg hj
      · exact no _
    · exact no _
  · exact no _
set_option maxHeartbeats 4000000 in
set_option maxRecDepth 100000 in
theorem cC_X11_lend (l : Launch) (D : va_G) (cs : Nat → ClassId) (o : Nat) (a1 a2 k r : Nat → Nat) (fz : Nat → Prop) (N : Nat) (F : mZ) (sz : Nat) (hN : N ≤ 511) (place : Int32) (amount : Int32) (months : Int32) : Met l yX11_lend wsX11_lend ({ frames := 5, cells := 3, slots := 31, locals := 116 }) (cPcF [.ref o, .int place, .int amount, .int months] D cs (wO o a1 a2 (zik F) (zst F)) (gT D cs o a1 a2 k r fz N F) sz) (cQF D (some (.int (sp_lend F place amount months).1)) (wO o a1 a2 (zik (sp_lend F place amount months).2) (zst (sp_lend F place amount months).2)) (gT D cs o a1 a2 k r fz (N + 1) (sp_lend F place amount months).2) (fun x => ¬ fz x)) 3 31 (fun x => ¬ fz x) := by
  refine c_inF (P := p1 o) (cc := cX11_lend) (maxL := 4) (ret := (some .int)) (lv := [(0, .ref o), (1, .int place), (2, .int amount), (3, .int months)]) (by decide) rfl (Nat.le_of_ble_eq_true rfl) rfl ?_
  intro p e s m below meth c ls S hr hlocks hin hsz hP hK hF hl hS0
  subst hsz
  obtain ⟨hx, hb, hml, hown, hts⟩ := id S
  have hX11 : ∀ w ∈ wsX110, w ∈ wsX11_lend := by decide +kernel
  have hS : va_S (fun x => ¬ fz x) s.heap s.heap [] := va_S.rf
  obtain ⟨h1, h2, RW, cn1, rc1, d1, cn2, rc2, d2, hR, hI, hH, hfz⟩ := id hF
  have hcn := hR.1.1.2.2.2.2.2.1
  have hrN := hR.2.2.2.2.1
  have hZ1 : va_P D vwCl (([] ++ wH a1 (k 0) cs (sZ h1)) ++ []) s.heap := by rw [List.nil_append, List.append_nil]; exact hH.1.1
  have hrv := va_recv hK.1 hH.1.1 (ci := 3) (q0 := 0) rfl rfl
  refine lv_aload_n hx hb dX11_lend_0 rfl (lv_at hl 0 rfl) ?_
  refine lv_aload_n hx hb dX11_lend_1 rfl (lv_at hl 0 rfl) ?_
  refine va_get (D := D) (ci := 9) (v := .ref (a1 0)) (C := RX11) (T := TX11) (N := 4) hx hb hts hX11 hown hK.1 hP 0 rfl rfl 0 (by decide) (hts (.fieldLink RX11 15 "PledgeHouse" "now" "LPledgeHouse$House;") (by decide +kernel)) (fun _ h9 => h9) rfl dX11_lend_2 ?_
  refine lv_iload_n hx hb dX11_lend_5 rfl (lv_at hl 1 rfl) ?_
  refine lv_iload_n hx hb dX11_lend_6 rfl (lv_at hl 2 rfl) ?_
  refine lv_iload_n hx hb dX11_lend_7 rfl (lv_at hl 3 rfl) ?_
  cases e : gp (sZ h1) (tN place) with
  | none =>
    refine c_rd S hK hZ1 hrv (As := [.int place, .int amount, .int months]) (rest := [.ref o]) (cC_X3_lendOn_n l D cs k a1 (sZ h1) _ place amount months e) (cwV 3 hts gX11_lend_X3_lendOn rfl rfl rfl (by decide +kernel) ⟨Nat.le_of_ble_eq_true rfl, Nat.le_of_ble_eq_true rfl⟩) rfl hl.1 rfl (Nat.le_of_ble_eq_true rfl) dX11_lend_8 ⟨Nat.zero_le _, Nat.zero_le _⟩ ?_
    have hA := r_lend_n hR.1 place amount months e
    refine W.widen (k := 3) (n := 31) (Nat.le_of_ble_eq_true rfl) (Nat.le_of_ble_eq_true rfl) ?_
    exact x11_end S hK hr hlocks hP (gT_no hP hR (by omega) hI hH hfz hA) hA.1 hA.2.2.2 hA.2.2.1.2.2.2.2.2 hS (cwV 1 hts gX11_lend_X11_answer rfl rfl rfl (by decide +kernel) ⟨Nat.le_of_ble_eq_true rfl, Nat.le_of_ble_eq_true rfl⟩) hl.1 dX11_lend_11 dX11_lend_14 ⟨Nat.le_of_ble_eq_true rfl, Nat.le_of_ble_eq_true rfl⟩
  | some x0 =>
    obtain ⟨hp4, hpq, hPP⟩ := pl_at hR hH e
    have hs : gp (sZ h1) (tN place) ≠ none := by rw [e]; simp
    have hc0 : ¬ gh (sZ h1) 1 < 0 := by rw [hR.1.1.2.2.2.1]; exact nI_pos (by omega)
    refine c_wNG (G := fun q H1 => (∀ i, i < 3 → s.heap.size ≤ q i) → (∀ i j, i < 3 → j < 3 → q i = q j → i = j) → va_P D vwCl (wO o a1 a2 (zik F) (zst F)) H1 ∧ gT D cs o a1 a2 k r fz (N + 1) (sp_lend F place amount months).2 H1) (va_runV S (cC_X3_lendOn l D cs (sq h1 (tN place)) (sl h1 (tN place)) k a1 (sZ h1) r RW _ hI.1.1 hI.1.2.2 (dj_HB hI) rc1 place amount months hR.1.1.2.2.2.2.2.2.1 (by omega) hpq hc0) (cwV 3 hts gX11_lend_X3_lendOn rfl rfl rfl (by decide +kernel) ⟨Nat.le_of_ble_eq_true rfl, Nat.le_of_ble_eq_true rfl⟩) (preV_x (As := [.int place, .int amount, .int months]) hK (va_P.app (by rw [List.nil_append]; exact hH.1.1) hH.2.2) hPP hrv) rfl rfl hl.1 rfl (lv_room (Nat.le_of_ble_eq_true rfl)) dX11_lend_8 ⟨Nat.le_of_ble_eq_true rfl, Nat.le_of_ble_eq_true rfl⟩) hS (fun x h => ?_) (fun q H1 hz hk hP1 hq hqi => ?_) (fun q H1 locs1 hq hqi hG hS => ?_)
    · rcases h with (h | h) | h
      · exact nf_H hI h
      · exact nf_B hI h
      · exact fun z => absurd (hfz x z) (Nat.not_lt.mpr h)
    · obtain ⟨cn', vs', rc', hrc, hv, hA⟩ := r_lend hR.1 (by omega) (sq h1 (tN place)) q place amount months hs
      have hk2 := lend_k (Z := sZ h1) (RW := RW) (q := sq h1 (tN place)) (b := q) (P := sl h1 (tN place)) (rc := rc1) (place := place) (amount := amount) (months := months) hR.1.1.2.2.2.1 hcn
      have hk3 : ∀ x, x < s.heap.size → ¬ pH a1 x → ¬ pB k r x → H1[x]? = s.heap[x]? := (fun x hx n1 n3 => hk x hx (fun z => by
        rcases z with (z | z) | z
        · exact n1 z
        · exact n3 z
        · exact absurd hx (Nat.not_lt.mpr z)))
      rcases hv with ⟨e1, e2, e3⟩ | ⟨e1, v, e2, e3⟩
      · subst e1; subst e2
        have z := hk2.1 e3
        exact gT_hb hP hR (by omega) hI hH hfz hrc hA (by rw [z.1, z.2]; exact KP_id) hz hk3 (vaR (vaL hP1)) (vaR hP1)
      · subst e1; subst e3
        obtain ⟨z1, z2, z3, z4, z5⟩ := hk2.2 _ e2
        have hP2 := vaL (vaL hP1)
        rw [e2] at hP2
        exact gT_nt hP hR (by omega) hI hH hfz z1 hq hqi z2 z3 z4 hrc hA z5 hz hk3 hP2 (vaR (vaL hP1)) (vaR hP1)
    · obtain ⟨cn', vs', rc', hrc, hv, hA⟩ := r_lend hR.1 (by omega) (sq h1 (tN place)) q place amount months hs
      exact x11_end S hK hr hlocks (hG hq hqi).1 (hG hq hqi).2 hA.1 hA.2.2.2 hA.2.2.1.2.2.2.2.2 hS (cwV 1 hts gX11_lend_X11_answer rfl rfl rfl (by decide +kernel) ⟨Nat.le_of_ble_eq_true rfl, Nat.le_of_ble_eq_true rfl⟩) hl.1 dX11_lend_11 dX11_lend_14 ⟨Nat.le_of_ble_eq_true rfl, Nat.le_of_ble_eq_true rfl⟩
set_option maxHeartbeats 4000000 in
set_option maxRecDepth 100000 in
theorem cC_X11_out (l : Launch) (D : va_G) (cs : Nat → ClassId) (o : Nat) (a1 a2 k r : Nat → Nat) (fz : Nat → Prop) (N : Nat) (F : mZ) (sz : Nat) (hN : N ≤ 511) (ticket : Int32) (half : Int32) (item : Int32) : Met l yX11_out wsX11_out ({ frames := 5, cells := 2, slots := 8, locals := 111 }) (cPcF [.ref o, .int ticket, .int half, .int item] D cs (wO o a1 a2 (zik F) (zst F)) (gT D cs o a1 a2 k r fz N F) sz) (cQF D (some (.int (sp_out F ticket half item).1)) (wO o a1 a2 (zik (sp_out F ticket half item).2) (zst (sp_out F ticket half item).2)) (gT D cs o a1 a2 k r fz (N + 1) (sp_out F ticket half item).2) (fun x => ¬ fz x)) 2 8 (fun x => ¬ fz x) := by
  refine c_inF (P := p1 o) (cc := cX11_out) (maxL := 4) (ret := (some .int)) (lv := [(0, .ref o), (1, .int ticket), (2, .int half), (3, .int item)]) (by decide) rfl (Nat.le_of_ble_eq_true rfl) rfl ?_
  intro p e s m below meth c ls S hr hlocks hin hsz hP hK hF hl hS0
  subst hsz
  obtain ⟨hx, hb, hml, hown, hts⟩ := id S
  have hX11 : ∀ w ∈ wsX110, w ∈ wsX11_out := by decide +kernel
  have hS : va_S (fun x => ¬ fz x) s.heap s.heap [] := va_S.rf
  obtain ⟨h1, h2, RW, cn1, rc1, d1, cn2, rc2, d2, hR, hI, hH, hfz⟩ := id hF
  have hcn := hR.1.1.2.2.2.2.2.1
  have hrN := hR.2.2.2.2.1
  have hZ1 : va_P D vwCl (([] ++ wH a1 (k 0) cs (sZ h1)) ++ []) s.heap := by rw [List.nil_append, List.append_nil]; exact hH.1.1
  have hrv := va_recv hK.1 hH.1.1 (ci := 3) (q0 := 0) rfl rfl
  refine lv_aload_n hx hb dX11_out_0 rfl (lv_at hl 0 rfl) ?_
  refine lv_aload_n hx hb dX11_out_1 rfl (lv_at hl 0 rfl) ?_
  refine va_get (D := D) (ci := 9) (v := .ref (a1 0)) (C := RX11) (T := TX11) (N := 4) hx hb hts hX11 hown hK.1 hP 0 rfl rfl 0 (by decide) (hts (.fieldLink RX11 15 "PledgeHouse" "now" "LPledgeHouse$House;") (by decide +kernel)) (fun _ h9 => h9) rfl dX11_out_2 ?_
  refine lv_aload_n hx hb dX11_out_5 rfl (lv_at hl 0 rfl) ?_
  refine va_get (D := D) (ci := 9) (v := .ref (a1 0)) (C := RX11) (T := TX11) (N := 4) hx hb hts hX11 hown hK.1 hP 0 rfl rfl 0 (by decide) (hts (.fieldLink RX11 15 "PledgeHouse" "now" "LPledgeHouse$House;") (by decide +kernel)) (fun _ h9 => h9) rfl dX11_out_6 ?_
  refine lv_iload_n hx hb dX11_out_9 rfl (lv_at hl 1 rfl) ?_
  refine c_rd S hK hZ1 hrv (As := [.int ticket]) (rest := [.ref (a1 0), .ref o]) (cC_X3_findTicket l D cs k a1 (sZ h1) _ ticket (cn_le hR.1.1.2.2.2.1 hcn)) (cwV 1 hts gX11_out_X3_findTicket rfl rfl rfl (by decide +kernel) ⟨Nat.le_of_ble_eq_true rfl, Nat.le_of_ble_eq_true rfl⟩) rfl hl.1 rfl (Nat.le_of_ble_eq_true rfl) dX11_out_10 ⟨Nat.zero_le _, Nat.zero_le _⟩ ?_
  rcases tick_cases hR.1 ticket with hn | ⟨i, hi, et⟩
  · refine wtop ((congrArg va_rf (ft_none hn)).trans rfl) ?_
    refine lv_iload_n hx hb dX11_out_13 rfl (lv_at hl 2 rfl) ?_
    refine lv_iload_n hx hb dX11_out_14 rfl (lv_at hl 3 rfl) ?_
    refine c_rd S hK hZ1 hrv (As := [.null, .int half, .int item]) (rest := [.ref o]) (cC_X3_takeItemOut_n l D cs k a1 (sZ h1) _ half item) (cwV 3 hts gX11_out_X3_takeItemOut rfl rfl rfl (by decide +kernel) ⟨Nat.le_of_ble_eq_true rfl, Nat.le_of_ble_eq_true rfl⟩) rfl hl.1 rfl (Nat.le_of_ble_eq_true rfl) dX11_out_15 ⟨Nat.zero_le _, Nat.zero_le _⟩ ?_
    have hA : AO F (sp_out F ticket half item) (-1) (sZ h1) (sv h1) (sl h1) RW cn1 rc1 d1 := by unfold sp_out; rw [if_pos (hR.1.noT hn)]; exact AO_no hR.1
    refine W.widen (k := 2) (n := 8) (Nat.le_of_ble_eq_true rfl) (Nat.le_of_ble_eq_true rfl) ?_
    exact x11_end S hK hr hlocks hP (gT_no hP hR (by omega) hI hH hfz hA) hA.1 hA.2.2.2 hA.2.2.1.2.2.2.2.2 hS (cwV 1 hts gX11_out_X11_answer rfl rfl rfl (by decide +kernel) ⟨Nat.le_of_ble_eq_true rfl, Nat.le_of_ble_eq_true rfl⟩) hl.1 dX11_out_18 dX11_out_21 ⟨Nat.le_of_ble_eq_true rfl, Nat.le_of_ble_eq_true rfl⟩
  · subst et
    refine wtop ((congrArg va_rf (ft_some hR.1.1.2.2.2.1 hcn (fun j hj => (hR.2.2.1.2.2.1 j hj).1) hi)).trans rfl) ?_
    refine lv_iload_n hx hb dX11_out_13 rfl (lv_at hl 2 rfl) ?_
    refine lv_iload_n hx hb dX11_out_14 rfl (lv_at hl 3 rfl) ?_
    have hi5 : i < 511 := by omega
    have hs := hR.2.2.1.2.2.1 i hi
    have hT := hH.1.2.1 i hi5 hs.1
    rw [hs.2] at hT
    cases e : gp (sZ h1) (tN (sv h1 i 15)) with
    | none =>
      refine c_rd S hK (va_P.app (va_P.app hT hH.1.1) nilP) hrv (As := [.ref (sb h1 i 0), .int half, .int item]) (rest := [.ref o]) (cC_X3_takeItemOut_p l D cs (sb h1 i) (nI (i + 1)) (sv h1 i) k a1 (sZ h1) _ half item e) (cwV 3 hts gX11_out_X3_takeItemOut rfl rfl rfl (by decide +kernel) ⟨Nat.le_of_ble_eq_true rfl, Nat.le_of_ble_eq_true rfl⟩) rfl hl.1 rfl (Nat.le_of_ble_eq_true rfl) dX11_out_15 ⟨Nat.zero_le _, Nat.zero_le _⟩ ?_
      have hA := r_out_p hR.1 hi half item e
      refine W.widen (k := 2) (n := 8) (Nat.le_of_ble_eq_true rfl) (Nat.le_of_ble_eq_true rfl) ?_
      exact x11_end S hK hr hlocks hP (gT_no hP hR (by omega) hI hH hfz hA) hA.1 hA.2.2.2 hA.2.2.1.2.2.2.2.2 hS (cwV 1 hts gX11_out_X11_answer rfl rfl rfl (by decide +kernel) ⟨Nat.le_of_ble_eq_true rfl, Nat.le_of_ble_eq_true rfl⟩) hl.1 dX11_out_18 dX11_out_21 ⟨Nat.le_of_ble_eq_true rfl, Nat.le_of_ble_eq_true rfl⟩
    | some x0 =>
      obtain ⟨hp4, hpq, hPP⟩ := pl_at hR hH e
      have hs2 : gp (sZ h1) (tN (sv h1 i 15)) ≠ none := by rw [e]; simp
      refine c_wNG (G := fun q H1 => (∀ i, i < 2 → s.heap.size ≤ q i) → va_P D vwCl (wO o a1 a2 (zik F) (zst F)) H1 ∧ gT D cs o a1 a2 k r fz (N + 1) (sp_out F (nI (i + 1)) half item).2 H1) (va_runV S (cC_X3_takeItemOut l D cs (sb h1 i) (nI (i + 1)) (sv h1 i) (sq h1 (tN (sv h1 i 15))) (sl h1 (tN (sv h1 i 15))) k a1 (sZ h1) _ (hR.2.2.1.2.1 i hi5 hs.1) hI.1.1 (dj_TH hI hi5 hs.1) half item hpq) (cwV 3 hts gX11_out_X3_takeItemOut rfl rfl rfl (by decide +kernel) ⟨Nat.le_of_ble_eq_true rfl, Nat.le_of_ble_eq_true rfl⟩) (preV_x (As := [.ref (sb h1 i 0), .int half, .int item]) hK (va_P.app (va_P.app hT hH.1.1) nilP) hPP hrv) rfl rfl hl.1 rfl (lv_room (Nat.le_of_ble_eq_true rfl)) dX11_out_15 ⟨Nat.le_of_ble_eq_true rfl, Nat.le_of_ble_eq_true rfl⟩) hS (fun x h => ?_) (fun q H1 hz hk hP1 hq => ?_) (fun q H1 locs1 hq _ hG hS => ?_)
      · rcases h with (h | h) | h
        · exact nf_T hI hi5 hs.1 h
        · exact nf_H hI h
        · exact fun z => absurd (hfz x z) (Nat.not_lt.mpr h)
      · have hk2 : ∀ x, x < s.heap.size → ¬ pH a1 x → ¬ pT (sb h1 i) x → H1[x]? = s.heap[x]? := fun x hx n1 n5 => hk x hx (fun z => by
          rcases z with (z | z) | z
          · exact n5 z
          · exact n1 z
          · exact absurd hx (Nat.not_lt.mpr z))
        have hB := keepW hH.2.2 wB_p (fun x hx b => hk2 x hx (fun z => dj_HB hI x z b) (fun z => dj_TB hI hi5 hs.1 x z b))
        have hPT := vaL (vaL (vaL hP1))
        have hPN := vaR (vaL (vaL hP1))
        have hPH := vaR (vaL hP1)
        obtain ⟨pl', hpl, hA⟩ := r_out hR.1 hi (sq h1 (tN (sv h1 i 15))) q half item hs2
        rcases hpl with ⟨e1, e2⟩ | ⟨P, e1, e2, e3⟩
        · subst e1
          exact gT_tk hP hR (by omega) hI hH hfz hi ⟨Nat.le_refl _, Nat.le_succ _⟩ hA (by rw [e2]; exact KP_id) hz (fun x hx n1 _ n5 => hk2 x hx n1 n5) hPT hPH hB
        · subst e2
          rw [e1] at hPN
          rw [e3] at hPH hA
          refine gT_pl (Z' := gpp (sZ h1) (tN (sv h1 i 15)) (some (q 0))) (I := fun j => j = i) hP hR (by omega) hI hH hfz hp4 rfl gp_gpp_eq (fun p h => gp_gpp_ne h) hq ⟨Nat.le_refl _, Nat.le_succ _⟩ hA (fun _ _ => rfl) hz (fun j hj ej => ?_) (fun x hx n1 _ n5 => hk2 x hx n1 (fun z => n5 i hi5 rfl ⟨hs.1, z⟩)) hPN hPH hB
          by_cases z : j = i
          · subst z
            exact Or.inl ⟨rfl, by rw [vsW_eq, hs.2]; exact hPT⟩
          · exact Or.inr ⟨z, vsW_ne z⟩
      · obtain ⟨pl', hpl, hA⟩ := r_out hR.1 hi (sq h1 (tN (sv h1 i 15))) q half item hs2
        exact x11_end S hK hr hlocks (hG hq).1 (hG hq).2 hA.1 hA.2.2.2 hA.2.2.1.2.2.2.2.2 hS (cwV 1 hts gX11_out_X11_answer rfl rfl rfl (by decide +kernel) ⟨Nat.le_of_ble_eq_true rfl, Nat.le_of_ble_eq_true rfl⟩) hl.1 dX11_out_18 dX11_out_21 ⟨Nat.le_of_ble_eq_true rfl, Nat.le_of_ble_eq_true rfl⟩
