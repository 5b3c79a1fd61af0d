/-! PledgeHouse's acts on a ticket (by x11.py) -/
section DJ
variable {o : Nat} {a1 a2 k r : Nat → Nat} {fz : Nat → Prop} {h1 h2 : hS} {i : Nat}
theorem dj_HB (hI : gI o a1 a2 k r fz h1 h2) : dHB a1 k r := fun q a b => absurd (hI.2.1 1 3 q (Or.inr (Or.inl ⟨rfl, a⟩)) (Or.inr (Or.inr (Or.inr (Or.inl ⟨rfl, b⟩))))) (by decide)
theorem dj_TH (hI : gI o a1 a2 k r fz h1 h2) (hi : i < 511) (hs : gt (sZ h1) i = some (sb h1 i 0)) : dTH (sb h1 i) a1 := fun q a b => absurd (hI.2.1 (5 + 2 * i) 1 q (Or.inr (Or.inr (Or.inr (Or.inr (Or.inr (Or.inl ⟨i, hi, rfl, hs, a⟩)))))) (Or.inr (Or.inl ⟨rfl, b⟩))) (by omega)
theorem dj_TB (hI : gI o a1 a2 k r fz h1 h2) (hi : i < 511) (hs : gt (sZ h1) i = some (sb h1 i 0)) : dTB (sb h1 i) k r := fun q a b => absurd (hI.2.1 (5 + 2 * i) 3 q (Or.inr (Or.inr (Or.inr (Or.inr (Or.inr (Or.inl ⟨i, hi, rfl, hs, a⟩)))))) (Or.inr (Or.inr (Or.inr (Or.inl ⟨rfl, b⟩))))) (by omega)
theorem dj_THB (hI : gI o a1 a2 k r fz h1 h2) (hi : i < 511) (hs : gt (sZ h1) i = some (sb h1 i 0)) : dTHB (sb h1 i) a1 k r := ⟨dj_TH hI hi hs, dj_TB hI hi hs, dj_HB hI⟩
theorem nf_T (hI : gI o a1 a2 k r fz h1 h2) (hi : i < 511) (hs : gt (sZ h1) i = some (sb h1 i 0)) {x : Nat} (h : pT (sb h1 i) x) : ¬ fz x := hI.2.2 (5 + 2 * i) x (Or.inr (Or.inr (Or.inr (Or.inr (Or.inr (Or.inl ⟨i, hi, rfl, hs, h⟩))))))
theorem nf_H (hI : gI o a1 a2 k r fz h1 h2) {x : Nat} (h : pH a1 x) : ¬ fz x := hI.2.2 1 x (Or.inr (Or.inl ⟨rfl, h⟩))
theorem nf_H2 (hI : gI o a1 a2 k r fz h1 h2) {x : Nat} (h : pH a2 x) : ¬ fz x := hI.2.2 2 x (Or.inr (Or.inr (Or.inl ⟨rfl, h⟩)))
theorem nf_B (hI : gI o a1 a2 k r fz h1 h2) {x : Nat} (h : pB k r x) : ¬ fz x := hI.2.2 3 x (Or.inr (Or.inr (Or.inr (Or.inl ⟨rfl, h⟩))))
end DJ
set_option maxHeartbeats 4000000 in
set_option maxRecDepth 100000 in
theorem cC_X11_pay (l : Launch) (D : va_G) (cs : Nat → ClassId) (o : Nat) (a1 a2 k r : Nat → Nat) (fz : Nat → Prop) (N : Nat) (F : mZ) (sz : Nat) (hN : N ≤ 511) (ticket : Int32) (half : Int32) (coins : Int32) : Met l yX11_pay wsX11_pay ({ frames := 4, cells := 0, slots := 0, locals := 93 }) (cPcF [.ref o, .int ticket, .int half, .int coins] D cs (wO o a1 a2 (zik F) (zst F)) (gT D cs o a1 a2 k r fz N F) sz) (cQF D (some (.int (sp_pay F ticket half coins).1)) (wO o a1 a2 (zik (sp_pay F ticket half coins).2) (zst (sp_pay F ticket half coins).2)) (gT D cs o a1 a2 k r fz (N + 1) (sp_pay F ticket half coins).2) (fun x => ¬ fz x)) 0 0 (fun x => ¬ fz x) := by
  refine c_inF (P := p1 o) (cc := cX11_pay) (maxL := 4) (ret := (some .int)) (lv := [(0, .ref o), (1, .int ticket), (2, .int half), (3, .int coins)]) (by decide) rfl (Nat.le_of_ble_eq_true rfl) rfl ?_
  intro p e s m below meth c ls S hr hlocks hin hsz hP hK hF hl hS0
  subst hsz
  obtain ⟨hx, hb, hml, hown, hts⟩ := id S
  have hX11 : ∀ w ∈ wsX110, w ∈ wsX11_pay := by decide +kernel
  have hS : va_S (fun x => ¬ fz x) s.heap s.heap [] := va_S.rf
  obtain ⟨h1, h2, RW, cn1, rc1, d1, cn2, rc2, d2, hR, hI, hH, hfz⟩ := id hF
  have hcn := hR.1.1.2.2.2.2.2.1
  have hrN := hR.2.2.2.2.1
  have hZ1 : va_P D vwCl (([] ++ wH a1 (k 0) cs (sZ h1)) ++ []) s.heap := by rw [List.nil_append, List.append_nil]; exact hH.1.1
  have hrv := va_recv hK.1 hH.1.1 (ci := 3) (q0 := 0) rfl rfl
  refine lv_aload_n hx hb dX11_pay_0 rfl (lv_at hl 0 rfl) ?_
  refine lv_aload_n hx hb dX11_pay_1 rfl (lv_at hl 0 rfl) ?_
  refine va_get (D := D) (ci := 9) (v := .ref (a1 0)) (C := RX11) (T := TX11) (N := 4) hx hb hts hX11 hown hK.1 hP 0 rfl rfl 0 (by decide) (hts (.fieldLink RX11 15 "PledgeHouse" "now" "LPledgeHouse$House;") (by decide +kernel)) (fun _ h9 => h9) rfl dX11_pay_2 ?_
  refine lv_aload_n hx hb dX11_pay_5 rfl (lv_at hl 0 rfl) ?_
  refine va_get (D := D) (ci := 9) (v := .ref (a1 0)) (C := RX11) (T := TX11) (N := 4) hx hb hts hX11 hown hK.1 hP 0 rfl rfl 0 (by decide) (hts (.fieldLink RX11 15 "PledgeHouse" "now" "LPledgeHouse$House;") (by decide +kernel)) (fun _ h9 => h9) rfl dX11_pay_6 ?_
  refine lv_iload_n hx hb dX11_pay_9 rfl (lv_at hl 1 rfl) ?_
  refine c_rd S hK hZ1 hrv (As := [.int ticket]) (rest := [.ref (a1 0), .ref o]) (cC_X3_findTicket l D cs k a1 (sZ h1) _ ticket (cn_le hR.1.1.2.2.2.1 hcn)) (cwV 1 hts gX11_pay_X3_findTicket rfl rfl rfl (by decide +kernel) ⟨Nat.le_of_ble_eq_true rfl, Nat.le_of_ble_eq_true rfl⟩) rfl hl.1 rfl (Nat.le_of_ble_eq_true rfl) dX11_pay_10 ⟨Nat.zero_le _, Nat.zero_le _⟩ ?_
  rcases tick_cases hR.1 ticket with hn | ⟨i, hi, et⟩
  · refine wtop ((congrArg va_rf (ft_none hn)).trans rfl) ?_
    refine lv_iload_n hx hb dX11_pay_13 rfl (lv_at hl 2 rfl) ?_
    refine lv_iload_n hx hb dX11_pay_14 rfl (lv_at hl 3 rfl) ?_
    refine c_rd S hK hZ1 hrv (As := [.null, .int half, .int coins]) (rest := [.ref o]) (cC_X3_payPart_n l D cs k a1 (sZ h1) _ half coins) (cwV 3 hts gX11_pay_X3_payPart rfl rfl rfl (by decide +kernel) ⟨Nat.le_of_ble_eq_true rfl, Nat.le_of_ble_eq_true rfl⟩) rfl hl.1 rfl (Nat.le_of_ble_eq_true rfl) dX11_pay_15 ⟨Nat.zero_le _, Nat.zero_le _⟩ ?_
    have hA : AO F (sp_pay F ticket half coins) (-1) (sZ h1) (sv h1) (sl h1) RW cn1 rc1 d1 := by unfold sp_pay; rw [if_pos (hR.1.noT hn)]; exact AO_no hR.1
    exact x11_end S hK hr hlocks hP (gT_no hP hR (by omega) hI hH hfz hA) hA.1 hA.2.2.2 hA.2.2.1.2.2.2.2.2 hS (cwV 1 hts gX11_pay_X11_answer rfl rfl rfl (by decide +kernel) ⟨Nat.le_of_ble_eq_true rfl, Nat.le_of_ble_eq_true rfl⟩) hl.1 dX11_pay_18 dX11_pay_21 ⟨Nat.zero_le _, Nat.zero_le _⟩
  · subst et
    refine wtop ((congrArg va_rf (ft_some hR.1.1.2.2.2.1 hcn (fun j hj => (hR.2.2.1.2.2.1 j hj).1) hi)).trans rfl) ?_
    refine lv_iload_n hx hb dX11_pay_13 rfl (lv_at hl 2 rfl) ?_
    refine lv_iload_n hx hb dX11_pay_14 rfl (lv_at hl 3 rfl) ?_
    have hi5 : i < 511 := by omega
    have hs := hR.2.2.1.2.2.1 i hi
    have hT := hH.1.2.1 i hi5 hs.1
    rw [hs.2] at hT
    obtain ⟨rc', hrc, hA⟩ := r_pay hR.1 hi (by omega) half coins
    refine c_wG (G := fun H1 => va_P D vwCl (wO o a1 a2 (zik F) (zst F)) H1 ∧ gT D cs o a1 a2 k r fz (N + 1) (sp_pay F (nI (i + 1)) half coins).2 H1) (va_runV S (cC_X3_payPart l D cs (sb h1 i) (nI (i + 1)) (sv h1 i) k a1 (sZ h1) r RW _ (hR.2.2.1.2.1 i hi5 hs.1) hI.1.1 hI.1.2.2 (dj_THB hI hi5 hs.1) rc1 half coins hR.1.1.2.2.2.2.2.2.1 (by omega)) (cwV 3 hts gX11_pay_X3_payPart rfl rfl rfl (by decide +kernel) ⟨Nat.le_of_ble_eq_true rfl, Nat.le_of_ble_eq_true rfl⟩) (preV_c (As := [.ref (sb h1 i 0), .int half, .int coins]) hK (va_P.app (va_P.app hT hH.1.1) hH.2.2) hrv) rfl rfl hl.1 rfl (lv_room (Nat.le_of_ble_eq_true rfl)) dX11_pay_15 ⟨Nat.zero_le _, Nat.zero_le _⟩) hS (fun x h => ?_) (fun H1 hz hk hP1 => ?_) (fun H1 locs1 hG hS => ?_)
    · rcases h with ((h | h) | h) | h
      · exact nf_T hI hi5 hs.1 h
      · exact nf_H hI h
      · exact nf_B hI h
      · exact fun z => absurd (hfz x z) (Nat.not_lt.mpr h)
    · exact gT_tk hP hR (by omega) hI hH hfz hi hrc hA kp_pay hz (fun x hx n1 n3 n5 => hk x hx (fun z => by
        rcases z with ((z | z) | z) | z
        · exact n5 z
        · exact n1 z
        · exact n3 z
        · exact absurd hx (Nat.not_lt.mpr z))) (vaL (vaL hP1)) (vaR (vaL hP1)) (vaR hP1)
    · exact x11_end S hK hr hlocks hG.1 hG.2 hA.1 hA.2.2.2 hA.2.2.1.2.2.2.2.2 hS (cwV 1 hts gX11_pay_X11_answer rfl rfl rfl (by decide +kernel) ⟨Nat.le_of_ble_eq_true rfl, Nat.le_of_ble_eq_true rfl⟩) hl.1 dX11_pay_18 dX11_pay_21 ⟨Nat.zero_le _, Nat.zero_le _⟩
set_option maxHeartbeats 4000000 in
set_option maxRecDepth 100000 in
theorem cC_X11_renew (l : Launch) (D : va_G) (cs : Nat → ClassId) (o : Nat) (a1 a2 k r : Nat → Nat) (fz : Nat → Prop) (N : Nat) (F : mZ) (sz : Nat) (hN : N ≤ 511) (ticket : Int32) (half : Int32) (months : Int32) : Met l yX11_renew wsX11_renew ({ frames := 4, cells := 0, slots := 0, locals := 93 }) (cPcF [.ref o, .int ticket, .int half, .int months] D cs (wO o a1 a2 (zik F) (zst F)) (gT D cs o a1 a2 k r fz N F) sz) (cQF D (some (.int (sp_renew F ticket half months).1)) (wO o a1 a2 (zik (sp_renew F ticket half months).2) (zst (sp_renew F ticket half months).2)) (gT D cs o a1 a2 k r fz (N + 1) (sp_renew F ticket half months).2) (fun x => ¬ fz x)) 0 0 (fun x => ¬ fz x) := by
  refine c_inF (P := p1 o) (cc := cX11_renew) (maxL := 4) (ret := (some .int)) (lv := [(0, .ref o), (1, .int ticket), (2, .int half), (3, .int months)]) (by decide) rfl (Nat.le_of_ble_eq_true rfl) rfl ?_
  intro p e s m below meth c ls S hr hlocks hin hsz hP hK hF hl hS0
  subst hsz
  obtain ⟨hx, hb, hml, hown, hts⟩ := id S
  have hX11 : ∀ w ∈ wsX110, w ∈ wsX11_renew := by decide +kernel
  have hS : va_S (fun x => ¬ fz x) s.heap s.heap [] := va_S.rf
  obtain ⟨h1, h2, RW, cn1, rc1, d1, cn2, rc2, d2, hR, hI, hH, hfz⟩ := id hF
  have hcn := hR.1.1.2.2.2.2.2.1
  have hrN := hR.2.2.2.2.1
  have hZ1 : va_P D vwCl (([] ++ wH a1 (k 0) cs (sZ h1)) ++ []) s.heap := by rw [List.nil_append, List.append_nil]; exact hH.1.1
  have hrv := va_recv hK.1 hH.1.1 (ci := 3) (q0 := 0) rfl rfl
  refine lv_aload_n hx hb dX11_renew_0 rfl (lv_at hl 0 rfl) ?_
  refine lv_aload_n hx hb dX11_renew_1 rfl (lv_at hl 0 rfl) ?_
  refine va_get (D := D) (ci := 9) (v := .ref (a1 0)) (C := RX11) (T := TX11) (N := 4) hx hb hts hX11 hown hK.1 hP 0 rfl rfl 0 (by decide) (hts (.fieldLink RX11 15 "PledgeHouse" "now" "LPledgeHouse$House;") (by decide +kernel)) (fun _ h9 => h9) rfl dX11_renew_2 ?_
  refine lv_aload_n hx hb dX11_renew_5 rfl (lv_at hl 0 rfl) ?_
  refine va_get (D := D) (ci := 9) (v := .ref (a1 0)) (C := RX11) (T := TX11) (N := 4) hx hb hts hX11 hown hK.1 hP 0 rfl rfl 0 (by decide) (hts (.fieldLink RX11 15 "PledgeHouse" "now" "LPledgeHouse$House;") (by decide +kernel)) (fun _ h9 => h9) rfl dX11_renew_6 ?_
  refine lv_iload_n hx hb dX11_renew_9 rfl (lv_at hl 1 rfl) ?_
  refine c_rd S hK hZ1 hrv (As := [.int ticket]) (rest := [.ref (a1 0), .ref o]) (cC_X3_findTicket l D cs k a1 (sZ h1) _ ticket (cn_le hR.1.1.2.2.2.1 hcn)) (cwV 1 hts gX11_renew_X3_findTicket rfl rfl rfl (by decide +kernel) ⟨Nat.le_of_ble_eq_true rfl, Nat.le_of_ble_eq_true rfl⟩) rfl hl.1 rfl (Nat.le_of_ble_eq_true rfl) dX11_renew_10 ⟨Nat.zero_le _, Nat.zero_le _⟩ ?_
  rcases tick_cases hR.1 ticket with hn | ⟨i, hi, et⟩
  · refine wtop ((congrArg va_rf (ft_none hn)).trans rfl) ?_
    refine lv_iload_n hx hb dX11_renew_13 rfl (lv_at hl 2 rfl) ?_
    refine lv_iload_n hx hb dX11_renew_14 rfl (lv_at hl 3 rfl) ?_
    refine c_rd S hK hZ1 hrv (As := [.null, .int half, .int months]) (rest := [.ref o]) (cC_X3_renewTerm_n l D cs k a1 (sZ h1) _ half months) (cwV 3 hts gX11_renew_X3_renewTerm rfl rfl rfl (by decide +kernel) ⟨Nat.le_of_ble_eq_true rfl, Nat.le_of_ble_eq_true rfl⟩) rfl hl.1 rfl (Nat.le_of_ble_eq_true rfl) dX11_renew_15 ⟨Nat.zero_le _, Nat.zero_le _⟩ ?_
    have hA : AO F (sp_renew F ticket half months) (-1) (sZ h1) (sv h1) (sl h1) RW cn1 rc1 d1 := by unfold sp_renew; rw [if_pos (hR.1.noT hn)]; exact AO_no hR.1
    exact x11_end S hK hr hlocks hP (gT_no hP hR (by omega) hI hH hfz hA) hA.1 hA.2.2.2 hA.2.2.1.2.2.2.2.2 hS (cwV 1 hts gX11_renew_X11_answer rfl rfl rfl (by decide +kernel) ⟨Nat.le_of_ble_eq_true rfl, Nat.le_of_ble_eq_true rfl⟩) hl.1 dX11_renew_18 dX11_renew_21 ⟨Nat.zero_le _, Nat.zero_le _⟩
  · subst et
    refine wtop ((congrArg va_rf (ft_some hR.1.1.2.2.2.1 hcn (fun j hj => (hR.2.2.1.2.2.1 j hj).1) hi)).trans rfl) ?_
    refine lv_iload_n hx hb dX11_renew_13 rfl (lv_at hl 2 rfl) ?_
    refine lv_iload_n hx hb dX11_renew_14 rfl (lv_at hl 3 rfl) ?_
    have hi5 : i < 511 := by omega
    have hs := hR.2.2.1.2.2.1 i hi
    have hT := hH.1.2.1 i hi5 hs.1
    rw [hs.2] at hT
    obtain ⟨rc', hrc, hA⟩ := r_renew hR.1 hi (by omega) half months
    refine c_wG (G := fun H1 => va_P D vwCl (wO o a1 a2 (zik F) (zst F)) H1 ∧ gT D cs o a1 a2 k r fz (N + 1) (sp_renew F (nI (i + 1)) half months).2 H1) (va_runV S (cC_X3_renewTerm l D cs (sb h1 i) (nI (i + 1)) (sv h1 i) k a1 (sZ h1) r RW _ (hR.2.2.1.2.1 i hi5 hs.1) hI.1.1 hI.1.2.2 (dj_THB hI hi5 hs.1) rc1 half months hR.1.1.2.2.2.2.2.2.1 (by omega)) (cwV 3 hts gX11_renew_X3_renewTerm rfl rfl rfl (by decide +kernel) ⟨Nat.le_of_ble_eq_true rfl, Nat.le_of_ble_eq_true rfl⟩) (preV_c (As := [.ref (sb h1 i 0), .int half, .int months]) hK (va_P.app (va_P.app hT hH.1.1) hH.2.2) hrv) rfl rfl hl.1 rfl (lv_room (Nat.le_of_ble_eq_true rfl)) dX11_renew_15 ⟨Nat.zero_le _, Nat.zero_le _⟩) hS (fun x h => ?_) (fun H1 hz hk hP1 => ?_) (fun H1 locs1 hG hS => ?_)
    · rcases h with ((h | h) | h) | h
      · exact nf_T hI hi5 hs.1 h
      · exact nf_H hI h
      · exact nf_B hI h
      · exact fun z => absurd (hfz x z) (Nat.not_lt.mpr h)
    · exact gT_tk hP hR (by omega) hI hH hfz hi hrc hA kp_renew hz (fun x hx n1 n3 n5 => hk x hx (fun z => by
        rcases z with ((z | z) | z) | z
        · exact n5 z
        · exact n1 z
        · exact n3 z
        · exact absurd hx (Nat.not_lt.mpr z))) (vaL (vaL hP1)) (vaR (vaL hP1)) (vaR hP1)
    · exact x11_end S hK hr hlocks hG.1 hG.2 hA.1 hA.2.2.2 hA.2.2.1.2.2.2.2.2 hS (cwV 1 hts gX11_renew_X11_answer rfl rfl rfl (by decide +kernel) ⟨Nat.le_of_ble_eq_true rfl, Nat.le_of_ble_eq_true rfl⟩) hl.1 dX11_renew_18 dX11_renew_21 ⟨Nat.zero_le _, Nat.zero_le _⟩
set_option maxHeartbeats 4000000 in
set_option maxRecDepth 100000 in
theorem cC_X11_undo (l : Launch) (D : va_G) (cs : Nat → ClassId) (o : Nat) (a1 a2 k r : Nat → Nat) (fz : Nat → Prop) (N : Nat) (F : mZ) (sz : Nat) (hN : N ≤ 511) (ticket : Int32) : Met l yX11_undo wsX11_undo ({ frames := 4, cells := 0, slots := 0, locals := 89 }) (cPcF [.ref o, .int ticket] D cs (wO o a1 a2 (zik F) (zst F)) (gT D cs o a1 a2 k r fz N F) sz) (cQF D (some (.int (sp_undo F ticket).1)) (wO o a1 a2 (zik (sp_undo F ticket).2) (zst (sp_undo F ticket).2)) (gT D cs o a1 a2 k r fz (N + 1) (sp_undo F ticket).2) (fun x => ¬ fz x)) 0 0 (fun x => ¬ fz x) := by
  refine c_inF (P := p1 o) (cc := cX11_undo) (maxL := 2) (ret := (some .int)) (lv := [(0, .ref o), (1, .int ticket)]) (by decide) rfl (Nat.le_of_ble_eq_true rfl) rfl ?_
  intro p e s m below meth c ls S hr hlocks hin hsz hP hK hF hl hS0
  subst hsz
  obtain ⟨hx, hb, hml, hown, hts⟩ := id S
  have hX11 : ∀ w ∈ wsX110, w ∈ wsX11_undo := by decide +kernel
  have hS : va_S (fun x => ¬ fz x) s.heap s.heap [] := va_S.rf
  obtain ⟨h1, h2, RW, cn1, rc1, d1, cn2, rc2, d2, hR, hI, hH, hfz⟩ := id hF
  have hcn := hR.1.1.2.2.2.2.2.1
  have hrN := hR.2.2.2.2.1
  have hZ1 : va_P D vwCl (([] ++ wH a1 (k 0) cs (sZ h1)) ++ []) s.heap := by rw [List.nil_append, List.append_nil]; exact hH.1.1
  have hrv := va_recv hK.1 hH.1.1 (ci := 3) (q0 := 0) rfl rfl
  refine lv_aload_n hx hb dX11_undo_0 rfl (lv_at hl 0 rfl) ?_
  refine lv_aload_n hx hb dX11_undo_1 rfl (lv_at hl 0 rfl) ?_
  refine va_get (D := D) (ci := 9) (v := .ref (a1 0)) (C := RX11) (T := TX11) (N := 4) hx hb hts hX11 hown hK.1 hP 0 rfl rfl 0 (by decide) (hts (.fieldLink RX11 15 "PledgeHouse" "now" "LPledgeHouse$House;") (by decide +kernel)) (fun _ h9 => h9) rfl dX11_undo_2 ?_
  refine lv_aload_n hx hb dX11_undo_5 rfl (lv_at hl 0 rfl) ?_
  refine va_get (D := D) (ci := 9) (v := .ref (a1 0)) (C := RX11) (T := TX11) (N := 4) hx hb hts hX11 hown hK.1 hP 0 rfl rfl 0 (by decide) (hts (.fieldLink RX11 15 "PledgeHouse" "now" "LPledgeHouse$House;") (by decide +kernel)) (fun _ h9 => h9) rfl dX11_undo_6 ?_
  refine lv_iload_n hx hb dX11_undo_9 rfl (lv_at hl 1 rfl) ?_
  refine c_rd S hK hZ1 hrv (As := [.int ticket]) (rest := [.ref (a1 0), .ref o]) (cC_X3_findTicket l D cs k a1 (sZ h1) _ ticket (cn_le hR.1.1.2.2.2.1 hcn)) (cwV 1 hts gX11_undo_X3_findTicket rfl rfl rfl (by decide +kernel) ⟨Nat.le_of_ble_eq_true rfl, Nat.le_of_ble_eq_true rfl⟩) rfl hl.1 rfl (Nat.le_of_ble_eq_true rfl) dX11_undo_10 ⟨Nat.zero_le _, Nat.zero_le _⟩ ?_
  rcases tick_cases hR.1 ticket with hn | ⟨i, hi, et⟩
  · refine wtop ((congrArg va_rf (ft_none hn)).trans rfl) ?_
    refine c_rd S hK hZ1 hrv (As := [.null]) (rest := [.ref o]) (cC_X3_undoRenewing_n l D cs k a1 (sZ h1) _) (cwV 1 hts gX11_undo_X3_undoRenewing rfl rfl rfl (by decide +kernel) ⟨Nat.le_of_ble_eq_true rfl, Nat.le_of_ble_eq_true rfl⟩) rfl hl.1 rfl (Nat.le_of_ble_eq_true rfl) dX11_undo_13 ⟨Nat.zero_le _, Nat.zero_le _⟩ ?_
    have hA : AO F (sp_undo F ticket) (-1) (sZ h1) (sv h1) (sl h1) RW cn1 rc1 d1 := by unfold sp_undo; rw [if_pos (hR.1.noT hn)]; exact AO_no hR.1
    exact x11_end S hK hr hlocks hP (gT_no hP hR (by omega) hI hH hfz hA) hA.1 hA.2.2.2 hA.2.2.1.2.2.2.2.2 hS (cwV 1 hts gX11_undo_X11_answer rfl rfl rfl (by decide +kernel) ⟨Nat.le_of_ble_eq_true rfl, Nat.le_of_ble_eq_true rfl⟩) hl.1 dX11_undo_16 dX11_undo_19 ⟨Nat.zero_le _, Nat.zero_le _⟩
  · subst et
    refine wtop ((congrArg va_rf (ft_some hR.1.1.2.2.2.1 hcn (fun j hj => (hR.2.2.1.2.2.1 j hj).1) hi)).trans rfl) ?_
    have hi5 : i < 511 := by omega
    have hs := hR.2.2.1.2.2.1 i hi
    have hT := hH.1.2.1 i hi5 hs.1
    rw [hs.2] at hT
    obtain ⟨rc', hrc, hA⟩ := r_undo hR.1 hi (by omega)
    refine c_wG (G := fun H1 => va_P D vwCl (wO o a1 a2 (zik F) (zst F)) H1 ∧ gT D cs o a1 a2 k r fz (N + 1) (sp_undo F (nI (i + 1))).2 H1) (va_runV S (cC_X3_undoRenewing l D cs (sb h1 i) (nI (i + 1)) (sv h1 i) k a1 (sZ h1) r RW _ (hR.2.2.1.2.1 i hi5 hs.1) hI.1.1 hI.1.2.2 (dj_THB hI hi5 hs.1) rc1 hR.1.1.2.2.2.2.2.2.1 (by omega)) (cwV 1 hts gX11_undo_X3_undoRenewing rfl rfl rfl (by decide +kernel) ⟨Nat.le_of_ble_eq_true rfl, Nat.le_of_ble_eq_true rfl⟩) (preV_c (As := [.ref (sb h1 i 0)]) hK (va_P.app (va_P.app hT hH.1.1) hH.2.2) hrv) rfl rfl hl.1 rfl (lv_room (Nat.le_of_ble_eq_true rfl)) dX11_undo_13 ⟨Nat.zero_le _, Nat.zero_le _⟩) hS (fun x h => ?_) (fun H1 hz hk hP1 => ?_) (fun H1 locs1 hG hS => ?_)
    · rcases h with ((h | h) | h) | h
      · exact nf_T hI hi5 hs.1 h
      · exact nf_H hI h
      · exact nf_B hI h
      · exact fun z => absurd (hfz x z) (Nat.not_lt.mpr h)
    · exact gT_tk hP hR (by omega) hI hH hfz hi hrc hA kp_undo hz (fun x hx n1 n3 n5 => hk x hx (fun z => by
        rcases z with ((z | z) | z) | z
        · exact n5 z
        · exact n1 z
        · exact n3 z
        · exact absurd hx (Nat.not_lt.mpr z))) (vaL (vaL hP1)) (vaR (vaL hP1)) (vaR hP1)
    · exact x11_end S hK hr hlocks hG.1 hG.2 hA.1 hA.2.2.2 hA.2.2.1.2.2.2.2.2 hS (cwV 1 hts gX11_undo_X11_answer rfl rfl rfl (by decide +kernel) ⟨Nat.le_of_ble_eq_true rfl, Nat.le_of_ble_eq_true rfl⟩) hl.1 dX11_undo_16 dX11_undo_19 ⟨Nat.zero_le _, Nat.zero_le _⟩
set_option maxHeartbeats 4000000 in
set_option maxRecDepth 100000 in
theorem cC_X11_redeem (l : Launch) (D : va_G) (cs : Nat → ClassId) (o : Nat) (a1 a2 k r : Nat → Nat) (fz : Nat → Prop) (N : Nat) (F : mZ) (sz : Nat) (hN : N ≤ 511) (ticket : Int32) (half : Int32) (coins : Int32) : Met l yX11_redeem wsX11_redeem ({ frames := 5, cells := 0, slots := 0, locals := 115 }) (cPcF [.ref o, .int ticket, .int half, .int coins] D cs (wO o a1 a2 (zik F) (zst F)) (gT D cs o a1 a2 k r fz N F) sz) (cQF D (some (.int (sp_redeem F ticket half coins).1)) (wO o a1 a2 (zik (sp_redeem F ticket half coins).2) (zst (sp_redeem F ticket half coins).2)) (gT D cs o a1 a2 k r fz (N + 1) (sp_redeem F ticket half coins).2) (fun x => ¬ fz x)) 0 0 (fun x => ¬ fz x) := by
  refine c_inF (P := p1 o) (cc := cX11_redeem) (maxL := 4) (ret := (some .int)) (lv := [(0, .ref o), (1, .int ticket), (2, .int half), (3, .int coins)]) (by decide) rfl (Nat.le_of_ble_eq_true rfl) rfl ?_
  intro p e s m below meth c ls S hr hlocks hin hsz hP hK hF hl hS0
  subst hsz
  obtain ⟨hx, hb, hml, hown, hts⟩ := id S
  have hX11 : ∀ w ∈ wsX110, w ∈ wsX11_redeem := by decide +kernel
  have hS : va_S (fun x => ¬ fz x) s.heap s.heap [] := va_S.rf
  obtain ⟨h1, h2, RW, cn1, rc1, d1, cn2, rc2, d2, hR, hI, hH, hfz⟩ := id hF
  have hcn := hR.1.1.2.2.2.2.2.1
  have hrN := hR.2.2.2.2.1
  have hZ1 : va_P D vwCl (([] ++ wH a1 (k 0) cs (sZ h1)) ++ []) s.heap := by rw [List.nil_append, List.append_nil]; exact hH.1.1
  have hrv := va_recv hK.1 hH.1.1 (ci := 3) (q0 := 0) rfl rfl
  refine lv_aload_n hx hb dX11_redeem_0 rfl (lv_at hl 0 rfl) ?_
  refine lv_aload_n hx hb dX11_redeem_1 rfl (lv_at hl 0 rfl) ?_
  refine va_get (D := D) (ci := 9) (v := .ref (a1 0)) (C := RX11) (T := TX11) (N := 4) hx hb hts hX11 hown hK.1 hP 0 rfl rfl 0 (by decide) (hts (.fieldLink RX11 15 "PledgeHouse" "now" "LPledgeHouse$House;") (by decide +kernel)) (fun _ h9 => h9) rfl dX11_redeem_2 ?_
  refine lv_aload_n hx hb dX11_redeem_5 rfl (lv_at hl 0 rfl) ?_
  refine va_get (D := D) (ci := 9) (v := .ref (a1 0)) (C := RX11) (T := TX11) (N := 4) hx hb hts hX11 hown hK.1 hP 0 rfl rfl 0 (by decide) (hts (.fieldLink RX11 15 "PledgeHouse" "now" "LPledgeHouse$House;") (by decide +kernel)) (fun _ h9 => h9) rfl dX11_redeem_6 ?_
  refine lv_iload_n hx hb dX11_redeem_9 rfl (lv_at hl 1 rfl) ?_
  refine c_rd S hK hZ1 hrv (As := [.int ticket]) (rest := [.ref (a1 0), .ref o]) (cC_X3_findTicket l D cs k a1 (sZ h1) _ ticket (cn_le hR.1.1.2.2.2.1 hcn)) (cwV 1 hts gX11_redeem_X3_findTicket rfl rfl rfl (by decide +kernel) ⟨Nat.le_of_ble_eq_true rfl, Nat.le_of_ble_eq_true rfl⟩) rfl hl.1 rfl (Nat.le_of_ble_eq_true rfl) dX11_redeem_10 ⟨Nat.zero_le _, Nat.zero_le _⟩ ?_
  rcases tick_cases hR.1 ticket with hn | ⟨i, hi, et⟩
  · refine wtop ((congrArg va_rf (ft_none hn)).trans rfl) ?_
    refine lv_iload_n hx hb dX11_redeem_13 rfl (lv_at hl 2 rfl) ?_
    refine lv_iload_n hx hb dX11_redeem_14 rfl (lv_at hl 3 rfl) ?_
    refine c_rd S hK hZ1 hrv (As := [.null, .int half, .int coins]) (rest := [.ref o]) (cC_X3_giveBack_n l D cs k a1 (sZ h1) _ half coins) (cwV 3 hts gX11_redeem_X3_giveBack rfl rfl rfl (by decide +kernel) ⟨Nat.le_of_ble_eq_true rfl, Nat.le_of_ble_eq_true rfl⟩) rfl hl.1 rfl (Nat.le_of_ble_eq_true rfl) dX11_redeem_15 ⟨Nat.zero_le _, Nat.zero_le _⟩ ?_
    have hA : AO F (sp_redeem F ticket half coins) (-1) (sZ h1) (sv h1) (sl h1) RW cn1 rc1 d1 := by unfold sp_redeem; rw [if_pos (hR.1.noT hn)]; exact AO_no hR.1
    exact x11_end S hK hr hlocks hP (gT_no hP hR (by omega) hI hH hfz hA) hA.1 hA.2.2.2 hA.2.2.1.2.2.2.2.2 hS (cwV 1 hts gX11_redeem_X11_answer rfl rfl rfl (by decide +kernel) ⟨Nat.le_of_ble_eq_true rfl, Nat.le_of_ble_eq_true rfl⟩) hl.1 dX11_redeem_18 dX11_redeem_21 ⟨Nat.zero_le _, Nat.zero_le _⟩
  · subst et
    refine wtop ((congrArg va_rf (ft_some hR.1.1.2.2.2.1 hcn (fun j hj => (hR.2.2.1.2.2.1 j hj).1) hi)).trans rfl) ?_
    refine lv_iload_n hx hb dX11_redeem_13 rfl (lv_at hl 2 rfl) ?_
    refine lv_iload_n hx hb dX11_redeem_14 rfl (lv_at hl 3 rfl) ?_
    have hi5 : i < 511 := by omega
    have hs := hR.2.2.1.2.2.1 i hi
    have hT := hH.1.2.1 i hi5 hs.1
    rw [hs.2] at hT
    obtain ⟨rc', hrc, hA⟩ := r_redeem hR.1 hi (by omega) half coins
    refine c_wG (G := fun H1 => va_P D vwCl (wO o a1 a2 (zik F) (zst F)) H1 ∧ gT D cs o a1 a2 k r fz (N + 1) (sp_redeem F (nI (i + 1)) half coins).2 H1) (va_runV S (cC_X3_giveBack l D cs (sb h1 i) (nI (i + 1)) (sv h1 i) k a1 (sZ h1) r RW _ (hR.2.2.1.2.1 i hi5 hs.1) hI.1.1 hI.1.2.2 (dj_THB hI hi5 hs.1) rc1 half coins hR.1.1.2.2.2.2.2.2.1 (by omega)) (cwV 3 hts gX11_redeem_X3_giveBack rfl rfl rfl (by decide +kernel) ⟨Nat.le_of_ble_eq_true rfl, Nat.le_of_ble_eq_true rfl⟩) (preV_c (As := [.ref (sb h1 i 0), .int half, .int coins]) hK (va_P.app (va_P.app hT hH.1.1) hH.2.2) hrv) rfl rfl hl.1 rfl (lv_room (Nat.le_of_ble_eq_true rfl)) dX11_redeem_15 ⟨Nat.zero_le _, Nat.zero_le _⟩) hS (fun x h => ?_) (fun H1 hz hk hP1 => ?_) (fun H1 locs1 hG hS => ?_)
    · rcases h with ((h | h) | h) | h
      · exact nf_T hI hi5 hs.1 h
      · exact nf_H hI h
      · exact nf_B hI h
      · exact fun z => absurd (hfz x z) (Nat.not_lt.mpr h)
    · exact gT_tk hP hR (by omega) hI hH hfz hi hrc hA kp_redeem hz (fun x hx n1 n3 n5 => hk x hx (fun z => by
        rcases z with ((z | z) | z) | z
        · exact n5 z
        · exact n1 z
        · exact n3 z
        · exact absurd hx (Nat.not_lt.mpr z))) (vaL (vaL hP1)) (vaR (vaL hP1)) (vaR hP1)
    · exact x11_end S hK hr hlocks hG.1 hG.2 hA.1 hA.2.2.2 hA.2.2.1.2.2.2.2.2 hS (cwV 1 hts gX11_redeem_X11_answer rfl rfl rfl (by decide +kernel) ⟨Nat.le_of_ble_eq_true rfl, Nat.le_of_ble_eq_true rfl⟩) hl.1 dX11_redeem_18 dX11_redeem_21 ⟨Nat.zero_le _, Nat.zero_le _⟩
set_option maxHeartbeats 4000000 in
set_option maxRecDepth 100000 in
theorem cC_X11_sale (l : Launch) (D : va_G) (cs : Nat → ClassId) (o : Nat) (a1 a2 k r : Nat → Nat) (fz : Nat → Prop) (N : Nat) (F : mZ) (sz : Nat) (hN : N ≤ 511) (ticket : Int32) : Met l yX11_sale wsX11_sale ({ frames := 5, cells := 0, slots := 0, locals := 116 }) (cPcF [.ref o, .int ticket] D cs (wO o a1 a2 (zik F) (zst F)) (gT D cs o a1 a2 k r fz N F) sz) (cQF D (some (.int (sp_sale F ticket).1)) (wO o a1 a2 (zik (sp_sale F ticket).2) (zst (sp_sale F ticket).2)) (gT D cs o a1 a2 k r fz (N + 1) (sp_sale F ticket).2) (fun x => ¬ fz x)) 0 0 (fun x => ¬ fz x) := by
  refine c_inF (P := p1 o) (cc := cX11_sale) (maxL := 2) (ret := (some .int)) (lv := [(0, .ref o), (1, .int ticket)]) (by decide) rfl (Nat.le_of_ble_eq_true rfl) rfl ?_
  intro p e s m below meth c ls S hr hlocks hin hsz hP hK hF hl hS0
  subst hsz
  obtain ⟨hx, hb, hml, hown, hts⟩ := id S
  have hX11 : ∀ w ∈ wsX110, w ∈ wsX11_sale := by decide +kernel
  have hS : va_S (fun x => ¬ fz x) s.heap s.heap [] := va_S.rf
  obtain ⟨h1, h2, RW, cn1, rc1, d1, cn2, rc2, d2, hR, hI, hH, hfz⟩ := id hF
  have hcn := hR.1.1.2.2.2.2.2.1
  have hrN := hR.2.2.2.2.1
  have hZ1 : va_P D vwCl (([] ++ wH a1 (k 0) cs (sZ h1)) ++ []) s.heap := by rw [List.nil_append, List.append_nil]; exact hH.1.1
  have hrv := va_recv hK.1 hH.1.1 (ci := 3) (q0 := 0) rfl rfl
  refine lv_aload_n hx hb dX11_sale_0 rfl (lv_at hl 0 rfl) ?_
  refine lv_aload_n hx hb dX11_sale_1 rfl (lv_at hl 0 rfl) ?_
  refine va_get (D := D) (ci := 9) (v := .ref (a1 0)) (C := RX11) (T := TX11) (N := 4) hx hb hts hX11 hown hK.1 hP 0 rfl rfl 0 (by decide) (hts (.fieldLink RX11 15 "PledgeHouse" "now" "LPledgeHouse$House;") (by decide +kernel)) (fun _ h9 => h9) rfl dX11_sale_2 ?_
  refine lv_aload_n hx hb dX11_sale_5 rfl (lv_at hl 0 rfl) ?_
  refine va_get (D := D) (ci := 9) (v := .ref (a1 0)) (C := RX11) (T := TX11) (N := 4) hx hb hts hX11 hown hK.1 hP 0 rfl rfl 0 (by decide) (hts (.fieldLink RX11 15 "PledgeHouse" "now" "LPledgeHouse$House;") (by decide +kernel)) (fun _ h9 => h9) rfl dX11_sale_6 ?_
  refine lv_iload_n hx hb dX11_sale_9 rfl (lv_at hl 1 rfl) ?_
  refine c_rd S hK hZ1 hrv (As := [.int ticket]) (rest := [.ref (a1 0), .ref o]) (cC_X3_findTicket l D cs k a1 (sZ h1) _ ticket (cn_le hR.1.1.2.2.2.1 hcn)) (cwV 1 hts gX11_sale_X3_findTicket rfl rfl rfl (by decide +kernel) ⟨Nat.le_of_ble_eq_true rfl, Nat.le_of_ble_eq_true rfl⟩) rfl hl.1 rfl (Nat.le_of_ble_eq_true rfl) dX11_sale_10 ⟨Nat.zero_le _, Nat.zero_le _⟩ ?_
  rcases tick_cases hR.1 ticket with hn | ⟨i, hi, et⟩
  · refine wtop ((congrArg va_rf (ft_none hn)).trans rfl) ?_
    refine c_rd S hK hZ1 hrv (As := [.null]) (rest := [.ref o]) (cC_X3_sellPledge_n l D cs k a1 (sZ h1) _) (cwV 1 hts gX11_sale_X3_sellPledge rfl rfl rfl (by decide +kernel) ⟨Nat.le_of_ble_eq_true rfl, Nat.le_of_ble_eq_true rfl⟩) rfl hl.1 rfl (Nat.le_of_ble_eq_true rfl) dX11_sale_13 ⟨Nat.zero_le _, Nat.zero_le _⟩ ?_
    have hA : AO F (sp_sale F ticket) (-1) (sZ h1) (sv h1) (sl h1) RW cn1 rc1 d1 := by unfold sp_sale; rw [if_pos (hR.1.noT hn)]; exact AO_no hR.1
    exact x11_end S hK hr hlocks hP (gT_no hP hR (by omega) hI hH hfz hA) hA.1 hA.2.2.2 hA.2.2.1.2.2.2.2.2 hS (cwV 1 hts gX11_sale_X11_answer rfl rfl rfl (by decide +kernel) ⟨Nat.le_of_ble_eq_true rfl, Nat.le_of_ble_eq_true rfl⟩) hl.1 dX11_sale_16 dX11_sale_19 ⟨Nat.zero_le _, Nat.zero_le _⟩
  · subst et
    refine wtop ((congrArg va_rf (ft_some hR.1.1.2.2.2.1 hcn (fun j hj => (hR.2.2.1.2.2.1 j hj).1) hi)).trans rfl) ?_
    have hi5 : i < 511 := by omega
    have hs := hR.2.2.1.2.2.1 i hi
    have hT := hH.1.2.1 i hi5 hs.1
    rw [hs.2] at hT
    obtain ⟨rc', hrc, hA⟩ := r_sale hR.1 hi (by omega)
    refine c_wG (G := fun H1 => va_P D vwCl (wO o a1 a2 (zik F) (zst F)) H1 ∧ gT D cs o a1 a2 k r fz (N + 1) (sp_sale F (nI (i + 1))).2 H1) (va_runV S (cC_X3_sellPledge l D cs (sb h1 i) (nI (i + 1)) (sv h1 i) k a1 (sZ h1) r RW _ (hR.2.2.1.2.1 i hi5 hs.1) hI.1.1 hI.1.2.2 (dj_THB hI hi5 hs.1) rc1 hR.1.1.2.2.2.2.2.2.1 (by omega)) (cwV 1 hts gX11_sale_X3_sellPledge rfl rfl rfl (by decide +kernel) ⟨Nat.le_of_ble_eq_true rfl, Nat.le_of_ble_eq_true rfl⟩) (preV_c (As := [.ref (sb h1 i 0)]) hK (va_P.app (va_P.app hT hH.1.1) hH.2.2) hrv) rfl rfl hl.1 rfl (lv_room (Nat.le_of_ble_eq_true rfl)) dX11_sale_13 ⟨Nat.zero_le _, Nat.zero_le _⟩) hS (fun x h => ?_) (fun H1 hz hk hP1 => ?_) (fun H1 locs1 hG hS => ?_)
    · rcases h with ((h | h) | h) | h
      · exact nf_T hI hi5 hs.1 h
      · exact nf_H hI h
      · exact nf_B hI h
      · exact fun z => absurd (hfz x z) (Nat.not_lt.mpr h)
    · exact gT_tk hP hR (by omega) hI hH hfz hi hrc hA kp_sale hz (fun x hx n1 n3 n5 => hk x hx (fun z => by
        rcases z with ((z | z) | z) | z
        · exact n5 z
        · exact n1 z
        · exact n3 z
        · exact absurd hx (Nat.not_lt.mpr z))) (vaL (vaL hP1)) (vaR (vaL hP1)) (vaR hP1)
    · exact x11_end S hK hr hlocks hG.1 hG.2 hA.1 hA.2.2.2 hA.2.2.1.2.2.2.2.2 hS (cwV 1 hts gX11_sale_X11_answer rfl rfl rfl (by decide +kernel) ⟨Nat.le_of_ble_eq_true rfl, Nat.le_of_ble_eq_true rfl⟩) hl.1 dX11_sale_16 dX11_sale_19 ⟨Nat.zero_le _, Nat.zero_le _⟩
set_option maxHeartbeats 4000000 in
set_option maxRecDepth 100000 in
theorem cC_X11_fetch (l : Launch) (D : va_G) (cs : Nat → ClassId) (o : Nat) (a1 a2 k r : Nat → Nat) (fz : Nat → Prop) (N : Nat) (F : mZ) (sz : Nat) (hN : N ≤ 511) (ticket : Int32) (half : Int32) : Met l yX11_fetch wsX11_fetch ({ frames := 4, cells := 0, slots := 0, locals := 89 }) (cPcF [.ref o, .int ticket, .int half] D cs (wO o a1 a2 (zik F) (zst F)) (gT D cs o a1 a2 k r fz N F) sz) (cQF D (some (.int (sp_fetch F ticket half).1)) (wO o a1 a2 (zik (sp_fetch F ticket half).2) (zst (sp_fetch F ticket half).2)) (gT D cs o a1 a2 k r fz (N + 1) (sp_fetch F ticket half).2) (fun x => ¬ fz x)) 0 0 (fun x => ¬ fz x) := by
  refine c_inF (P := p1 o) (cc := cX11_fetch) (maxL := 3) (ret := (some .int)) (lv := [(0, .ref o), (1, .int ticket), (2, .int half)]) (by decide) rfl (Nat.le_of_ble_eq_true rfl) rfl ?_
  intro p e s m below meth c ls S hr hlocks hin hsz hP hK hF hl hS0
  subst hsz
  obtain ⟨hx, hb, hml, hown, hts⟩ := id S
  have hX11 : ∀ w ∈ wsX110, w ∈ wsX11_fetch := by decide +kernel
  have hS : va_S (fun x => ¬ fz x) s.heap s.heap [] := va_S.rf
  obtain ⟨h1, h2, RW, cn1, rc1, d1, cn2, rc2, d2, hR, hI, hH, hfz⟩ := id hF
  have hcn := hR.1.1.2.2.2.2.2.1
  have hrN := hR.2.2.2.2.1
  have hZ1 : va_P D vwCl (([] ++ wH a1 (k 0) cs (sZ h1)) ++ []) s.heap := by rw [List.nil_append, List.append_nil]; exact hH.1.1
  have hrv := va_recv hK.1 hH.1.1 (ci := 3) (q0 := 0) rfl rfl
  refine lv_aload_n hx hb dX11_fetch_0 rfl (lv_at hl 0 rfl) ?_
  refine lv_aload_n hx hb dX11_fetch_1 rfl (lv_at hl 0 rfl) ?_
  refine va_get (D := D) (ci := 9) (v := .ref (a1 0)) (C := RX11) (T := TX11) (N := 4) hx hb hts hX11 hown hK.1 hP 0 rfl rfl 0 (by decide) (hts (.fieldLink RX11 15 "PledgeHouse" "now" "LPledgeHouse$House;") (by decide +kernel)) (fun _ h9 => h9) rfl dX11_fetch_2 ?_
  refine lv_aload_n hx hb dX11_fetch_5 rfl (lv_at hl 0 rfl) ?_
  refine va_get (D := D) (ci := 9) (v := .ref (a1 0)) (C := RX11) (T := TX11) (N := 4) hx hb hts hX11 hown hK.1 hP 0 rfl rfl 0 (by decide) (hts (.fieldLink RX11 15 "PledgeHouse" "now" "LPledgeHouse$House;") (by decide +kernel)) (fun _ h9 => h9) rfl dX11_fetch_6 ?_
  refine lv_iload_n hx hb dX11_fetch_9 rfl (lv_at hl 1 rfl) ?_
  refine c_rd S hK hZ1 hrv (As := [.int ticket]) (rest := [.ref (a1 0), .ref o]) (cC_X3_findTicket l D cs k a1 (sZ h1) _ ticket (cn_le hR.1.1.2.2.2.1 hcn)) (cwV 1 hts gX11_fetch_X3_findTicket rfl rfl rfl (by decide +kernel) ⟨Nat.le_of_ble_eq_true rfl, Nat.le_of_ble_eq_true rfl⟩) rfl hl.1 rfl (Nat.le_of_ble_eq_true rfl) dX11_fetch_10 ⟨Nat.zero_le _, Nat.zero_le _⟩ ?_
  rcases tick_cases hR.1 ticket with hn | ⟨i, hi, et⟩
  · refine wtop ((congrArg va_rf (ft_none hn)).trans rfl) ?_
    refine lv_iload_n hx hb dX11_fetch_13 rfl (lv_at hl 2 rfl) ?_
    refine c_rd S hK hZ1 hrv (As := [.null, .int half]) (rest := [.ref o]) (cC_X3_handOver_n l D cs k a1 (sZ h1) _ half) (cwV 2 hts gX11_fetch_X3_handOver rfl rfl rfl (by decide +kernel) ⟨Nat.le_of_ble_eq_true rfl, Nat.le_of_ble_eq_true rfl⟩) rfl hl.1 rfl (Nat.le_of_ble_eq_true rfl) dX11_fetch_14 ⟨Nat.zero_le _, Nat.zero_le _⟩ ?_
    have hA : AO F (sp_fetch F ticket half) (-1) (sZ h1) (sv h1) (sl h1) RW cn1 rc1 d1 := by unfold sp_fetch; rw [if_pos (hR.1.noT hn)]; exact AO_no hR.1
    exact x11_end S hK hr hlocks hP (gT_no hP hR (by omega) hI hH hfz hA) hA.1 hA.2.2.2 hA.2.2.1.2.2.2.2.2 hS (cwV 1 hts gX11_fetch_X11_answer rfl rfl rfl (by decide +kernel) ⟨Nat.le_of_ble_eq_true rfl, Nat.le_of_ble_eq_true rfl⟩) hl.1 dX11_fetch_17 dX11_fetch_20 ⟨Nat.zero_le _, Nat.zero_le _⟩
  · subst et
    refine wtop ((congrArg va_rf (ft_some hR.1.1.2.2.2.1 hcn (fun j hj => (hR.2.2.1.2.2.1 j hj).1) hi)).trans rfl) ?_
    refine lv_iload_n hx hb dX11_fetch_13 rfl (lv_at hl 2 rfl) ?_
    have hi5 : i < 511 := by omega
    have hs := hR.2.2.1.2.2.1 i hi
    have hT := hH.1.2.1 i hi5 hs.1
    rw [hs.2] at hT
    obtain ⟨rc', hrc, hA⟩ := r_fetch hR.1 hi (by omega) half
    refine c_wG (G := fun H1 => va_P D vwCl (wO o a1 a2 (zik F) (zst F)) H1 ∧ gT D cs o a1 a2 k r fz (N + 1) (sp_fetch F (nI (i + 1)) half).2 H1) (va_runV S (cC_X3_handOver l D cs (sb h1 i) (nI (i + 1)) (sv h1 i) k a1 (sZ h1) r RW _ (hR.2.2.1.2.1 i hi5 hs.1) hI.1.1 hI.1.2.2 (dj_THB hI hi5 hs.1) rc1 half hR.1.1.2.2.2.2.2.2.1 (by omega)) (cwV 2 hts gX11_fetch_X3_handOver rfl rfl rfl (by decide +kernel) ⟨Nat.le_of_ble_eq_true rfl, Nat.le_of_ble_eq_true rfl⟩) (preV_c (As := [.ref (sb h1 i 0), .int half]) hK (va_P.app (va_P.app hT hH.1.1) hH.2.2) hrv) rfl rfl hl.1 rfl (lv_room (Nat.le_of_ble_eq_true rfl)) dX11_fetch_14 ⟨Nat.zero_le _, Nat.zero_le _⟩) hS (fun x h => ?_) (fun H1 hz hk hP1 => ?_) (fun H1 locs1 hG hS => ?_)
    · rcases h with ((h | h) | h) | h
      · exact nf_T hI hi5 hs.1 h
      · exact nf_H hI h
      · exact nf_B hI h
      · exact fun z => absurd (hfz x z) (Nat.not_lt.mpr h)
    · exact gT_tk hP hR (by omega) hI hH hfz hi hrc hA kp_fetch hz (fun x hx n1 n3 n5 => hk x hx (fun z => by
        rcases z with ((z | z) | z) | z
        · exact n5 z
        · exact n1 z
        · exact n3 z
        · exact absurd hx (Nat.not_lt.mpr z))) (vaL (vaL hP1)) (vaR (vaL hP1)) (vaR hP1)
    · exact x11_end S hK hr hlocks hG.1 hG.2 hA.1 hA.2.2.2 hA.2.2.1.2.2.2.2.2 hS (cwV 1 hts gX11_fetch_X11_answer rfl rfl rfl (by decide +kernel) ⟨Nat.le_of_ble_eq_true rfl, Nat.le_of_ble_eq_true rfl⟩) hl.1 dX11_fetch_17 dX11_fetch_20 ⟨Nat.zero_le _, Nat.zero_le _⟩
set_option maxHeartbeats 4000000 in
set_option maxRecDepth 100000 in
theorem cC_X11_prove (l : Launch) (D : va_G) (cs : Nat → ClassId) (o : Nat) (a1 a2 k r : Nat → Nat) (fz : Nat → Prop) (N : Nat) (F : mZ) (sz : Nat) (hN : N ≤ 511) (ticket : Int32) : Met l yX11_prove wsX11_prove ({ frames := 5, cells := 0, slots := 0, locals := 113 }) (cPcF [.ref o, .int ticket] D cs (wO o a1 a2 (zik F) (zst F)) (gT D cs o a1 a2 k r fz N F) sz) (cQF D (some (.int (sp_prove F ticket).1)) (wO o a1 a2 (zik (sp_prove F ticket).2) (zst (sp_prove F ticket).2)) (gT D cs o a1 a2 k r fz (N + 1) (sp_prove F ticket).2) (fun x => ¬ fz x)) 0 0 (fun x => ¬ fz x) := by
  refine c_inF (P := p1 o) (cc := cX11_prove) (maxL := 2) (ret := (some .int)) (lv := [(0, .ref o), (1, .int ticket)]) (by decide) rfl (Nat.le_of_ble_eq_true rfl) rfl ?_
  intro p e s m below meth c ls S hr hlocks hin hsz hP hK hF hl hS0
  subst hsz
  obtain ⟨hx, hb, hml, hown, hts⟩ := id S
  have hX11 : ∀ w ∈ wsX110, w ∈ wsX11_prove := by decide +kernel
  have hS : va_S (fun x => ¬ fz x) s.heap s.heap [] := va_S.rf
  obtain ⟨h1, h2, RW, cn1, rc1, d1, cn2, rc2, d2, hR, hI, hH, hfz⟩ := id hF
  have hcn := hR.1.1.2.2.2.2.2.1
  have hrN := hR.2.2.2.2.1
  have hZ1 : va_P D vwCl (([] ++ wH a1 (k 0) cs (sZ h1)) ++ []) s.heap := by rw [List.nil_append, List.append_nil]; exact hH.1.1
  have hrv := va_recv hK.1 hH.1.1 (ci := 3) (q0 := 0) rfl rfl
  refine lv_aload_n hx hb dX11_prove_0 rfl (lv_at hl 0 rfl) ?_
  refine lv_aload_n hx hb dX11_prove_1 rfl (lv_at hl 0 rfl) ?_
  refine va_get (D := D) (ci := 9) (v := .ref (a1 0)) (C := RX11) (T := TX11) (N := 4) hx hb hts hX11 hown hK.1 hP 0 rfl rfl 0 (by decide) (hts (.fieldLink RX11 15 "PledgeHouse" "now" "LPledgeHouse$House;") (by decide +kernel)) (fun _ h9 => h9) rfl dX11_prove_2 ?_
  refine lv_aload_n hx hb dX11_prove_5 rfl (lv_at hl 0 rfl) ?_
  refine va_get (D := D) (ci := 9) (v := .ref (a1 0)) (C := RX11) (T := TX11) (N := 4) hx hb hts hX11 hown hK.1 hP 0 rfl rfl 0 (by decide) (hts (.fieldLink RX11 15 "PledgeHouse" "now" "LPledgeHouse$House;") (by decide +kernel)) (fun _ h9 => h9) rfl dX11_prove_6 ?_
  refine lv_iload_n hx hb dX11_prove_9 rfl (lv_at hl 1 rfl) ?_
  refine c_rd S hK hZ1 hrv (As := [.int ticket]) (rest := [.ref (a1 0), .ref o]) (cC_X3_findTicket l D cs k a1 (sZ h1) _ ticket (cn_le hR.1.1.2.2.2.1 hcn)) (cwV 1 hts gX11_prove_X3_findTicket rfl rfl rfl (by decide +kernel) ⟨Nat.le_of_ble_eq_true rfl, Nat.le_of_ble_eq_true rfl⟩) rfl hl.1 rfl (Nat.le_of_ble_eq_true rfl) dX11_prove_10 ⟨Nat.zero_le _, Nat.zero_le _⟩ ?_
  rcases tick_cases hR.1 ticket with hn | ⟨i, hi, et⟩
  · refine wtop ((congrArg va_rf (ft_none hn)).trans rfl) ?_
    refine c_rd S hK hZ1 hrv (As := [.null]) (rest := [.ref o]) (cC_X3_proveClaim_n l D cs k a1 (sZ h1) _) (cwV 1 hts gX11_prove_X3_proveClaim rfl rfl rfl (by decide +kernel) ⟨Nat.le_of_ble_eq_true rfl, Nat.le_of_ble_eq_true rfl⟩) rfl hl.1 rfl (Nat.le_of_ble_eq_true rfl) dX11_prove_13 ⟨Nat.zero_le _, Nat.zero_le _⟩ ?_
    have hA : AO F (sp_prove F ticket) (-1) (sZ h1) (sv h1) (sl h1) RW cn1 rc1 d1 := by unfold sp_prove; rw [if_pos (hR.1.noT hn)]; exact AO_no hR.1
    exact x11_end S hK hr hlocks hP (gT_no hP hR (by omega) hI hH hfz hA) hA.1 hA.2.2.2 hA.2.2.1.2.2.2.2.2 hS (cwV 1 hts gX11_prove_X11_answer rfl rfl rfl (by decide +kernel) ⟨Nat.le_of_ble_eq_true rfl, Nat.le_of_ble_eq_true rfl⟩) hl.1 dX11_prove_16 dX11_prove_19 ⟨Nat.zero_le _, Nat.zero_le _⟩
  · subst et
    refine wtop ((congrArg va_rf (ft_some hR.1.1.2.2.2.1 hcn (fun j hj => (hR.2.2.1.2.2.1 j hj).1) hi)).trans rfl) ?_
    have hi5 : i < 511 := by omega
    have hs := hR.2.2.1.2.2.1 i hi
    have hT := hH.1.2.1 i hi5 hs.1
    rw [hs.2] at hT
    obtain ⟨rc', hrc, hA⟩ := r_prove hR.1 hi (by omega)
    refine c_wG (G := fun H1 => va_P D vwCl (wO o a1 a2 (zik F) (zst F)) H1 ∧ gT D cs o a1 a2 k r fz (N + 1) (sp_prove F (nI (i + 1))).2 H1) (va_runV S (cC_X3_proveClaim l D cs (sb h1 i) (nI (i + 1)) (sv h1 i) k a1 (sZ h1) r RW _ (hR.2.2.1.2.1 i hi5 hs.1) hI.1.1 hI.1.2.2 (dj_THB hI hi5 hs.1) rc1 hR.1.1.2.2.2.2.2.2.1 (by omega)) (cwV 1 hts gX11_prove_X3_proveClaim rfl rfl rfl (by decide +kernel) ⟨Nat.le_of_ble_eq_true rfl, Nat.le_of_ble_eq_true rfl⟩) (preV_c (As := [.ref (sb h1 i 0)]) hK (va_P.app (va_P.app hT hH.1.1) hH.2.2) hrv) rfl rfl hl.1 rfl (lv_room (Nat.le_of_ble_eq_true rfl)) dX11_prove_13 ⟨Nat.zero_le _, Nat.zero_le _⟩) hS (fun x h => ?_) (fun H1 hz hk hP1 => ?_) (fun H1 locs1 hG hS => ?_)
    · rcases h with ((h | h) | h) | h
      · exact nf_T hI hi5 hs.1 h
      · exact nf_H hI h
      · exact nf_B hI h
      · exact fun z => absurd (hfz x z) (Nat.not_lt.mpr h)
    · exact gT_tk hP hR (by omega) hI hH hfz hi hrc hA kp_prove hz (fun x hx n1 n3 n5 => hk x hx (fun z => by
        rcases z with ((z | z) | z) | z
        · exact n5 z
        · exact n1 z
        · exact n3 z
        · exact absurd hx (Nat.not_lt.mpr z))) (vaL (vaL hP1)) (vaR (vaL hP1)) (vaR hP1)
    · exact x11_end S hK hr hlocks hG.1 hG.2 hA.1 hA.2.2.2 hA.2.2.1.2.2.2.2.2 hS (cwV 1 hts gX11_prove_X11_answer rfl rfl rfl (by decide +kernel) ⟨Nat.le_of_ble_eq_true rfl, Nat.le_of_ble_eq_true rfl⟩) hl.1 dX11_prove_16 dX11_prove_19 ⟨Nat.zero_le _, Nat.zero_le _⟩
set_option maxHeartbeats 4000000 in
set_option maxRecDepth 100000 in
theorem cC_X11_tear (l : Launch) (D : va_G) (cs : Nat → ClassId) (o : Nat) (a1 a2 k r : Nat → Nat) (fz : Nat → Prop) (N : Nat) (F : mZ) (sz : Nat) (hN : N ≤ 511) (ticket : Int32) (how : Int32) : Met l yX11_tear wsX11_tear ({ frames := 2, cells := 0, slots := 0, locals := 42 }) (cPcF [.ref o, .int ticket, .int how] D cs (wO o a1 a2 (zik F) (zst F)) (gT D cs o a1 a2 k r fz N F) sz) (cQF D (some (.int (sp_tear F ticket how).1)) (wO o a1 a2 (zik (sp_tear F ticket how).2) (zst (sp_tear F ticket how).2)) (gT D cs o a1 a2 k r fz (N + 1) (sp_tear F ticket how).2) (fun x => ¬ fz x)) 0 0 (fun x => ¬ fz x) := by
  refine c_inF (P := p1 o) (cc := cX11_tear) (maxL := 3) (ret := (some .int)) (lv := [(0, .ref o), (1, .int ticket), (2, .int how)]) (by decide) rfl (Nat.le_of_ble_eq_true rfl) rfl ?_
  intro p e s m below meth c ls S hr hlocks hin hsz hP hK hF hl hS0
  subst hsz
  obtain ⟨hx, hb, hml, hown, hts⟩ := id S
  have hX11 : ∀ w ∈ wsX110, w ∈ wsX11_tear := by decide +kernel
  have hS : va_S (fun x => ¬ fz x) s.heap s.heap [] := va_S.rf
  obtain ⟨h1, h2, RW, cn1, rc1, d1, cn2, rc2, d2, hR, hI, hH, hfz⟩ := id hF
  have hcn := hR.1.1.2.2.2.2.2.1
  have hrN := hR.2.2.2.2.1
  have hZ1 : va_P D vwCl (([] ++ wH a1 (k 0) cs (sZ h1)) ++ []) s.heap := by rw [List.nil_append, List.append_nil]; exact hH.1.1
  have hrv := va_recv hK.1 hH.1.1 (ci := 3) (q0 := 0) rfl rfl
  refine lv_aload_n hx hb dX11_tear_0 rfl (lv_at hl 0 rfl) ?_
  refine lv_aload_n hx hb dX11_tear_1 rfl (lv_at hl 0 rfl) ?_
  refine va_get (D := D) (ci := 9) (v := .ref (a1 0)) (C := RX11) (T := TX11) (N := 4) hx hb hts hX11 hown hK.1 hP 0 rfl rfl 0 (by decide) (hts (.fieldLink RX11 15 "PledgeHouse" "now" "LPledgeHouse$House;") (by decide +kernel)) (fun _ h9 => h9) rfl dX11_tear_2 ?_
  refine lv_aload_n hx hb dX11_tear_5 rfl (lv_at hl 0 rfl) ?_
  refine va_get (D := D) (ci := 9) (v := .ref (a1 0)) (C := RX11) (T := TX11) (N := 4) hx hb hts hX11 hown hK.1 hP 0 rfl rfl 0 (by decide) (hts (.fieldLink RX11 15 "PledgeHouse" "now" "LPledgeHouse$House;") (by decide +kernel)) (fun _ h9 => h9) rfl dX11_tear_6 ?_
  refine lv_iload_n hx hb dX11_tear_9 rfl (lv_at hl 1 rfl) ?_
  refine c_rd S hK hZ1 hrv (As := [.int ticket]) (rest := [.ref (a1 0), .ref o]) (cC_X3_findTicket l D cs k a1 (sZ h1) _ ticket (cn_le hR.1.1.2.2.2.1 hcn)) (cwV 1 hts gX11_tear_X3_findTicket rfl rfl rfl (by decide +kernel) ⟨Nat.le_of_ble_eq_true rfl, Nat.le_of_ble_eq_true rfl⟩) rfl hl.1 rfl (Nat.le_of_ble_eq_true rfl) dX11_tear_10 ⟨Nat.zero_le _, Nat.zero_le _⟩ ?_
  rcases tick_cases hR.1 ticket with hn | ⟨i, hi, et⟩
  · refine wtop ((congrArg va_rf (ft_none hn)).trans rfl) ?_
    refine lv_iload_n hx hb dX11_tear_13 rfl (lv_at hl 2 rfl) ?_
    refine c_rd S hK hZ1 hrv (As := [.null, .int how]) (rest := [.ref o]) (cC_X3_tearHalf_n l D cs k a1 (sZ h1) _ how) (cwV 2 hts gX11_tear_X3_tearHalf rfl rfl rfl (by decide +kernel) ⟨Nat.le_of_ble_eq_true rfl, Nat.le_of_ble_eq_true rfl⟩) rfl hl.1 rfl (Nat.le_of_ble_eq_true rfl) dX11_tear_14 ⟨Nat.zero_le _, Nat.zero_le _⟩ ?_
    have hA : AO F (sp_tear F ticket how) (-1) (sZ h1) (sv h1) (sl h1) RW cn1 rc1 d1 := by unfold sp_tear; rw [if_pos (hR.1.noT hn)]; exact AO_no hR.1
    exact x11_end S hK hr hlocks hP (gT_no hP hR (by omega) hI hH hfz hA) hA.1 hA.2.2.2 hA.2.2.1.2.2.2.2.2 hS (cwV 1 hts gX11_tear_X11_answer rfl rfl rfl (by decide +kernel) ⟨Nat.le_of_ble_eq_true rfl, Nat.le_of_ble_eq_true rfl⟩) hl.1 dX11_tear_17 dX11_tear_20 ⟨Nat.zero_le _, Nat.zero_le _⟩
  · subst et
    refine wtop ((congrArg va_rf (ft_some hR.1.1.2.2.2.1 hcn (fun j hj => (hR.2.2.1.2.2.1 j hj).1) hi)).trans rfl) ?_
    refine lv_iload_n hx hb dX11_tear_13 rfl (lv_at hl 2 rfl) ?_
    have hi5 : i < 511 := by omega
    have hs := hR.2.2.1.2.2.1 i hi
    have hT := hH.1.2.1 i hi5 hs.1
    rw [hs.2] at hT
    have hA := r_tear hR.1 hi how
    refine c_wG (G := fun H1 => va_P D vwCl (wO o a1 a2 (zik F) (zst F)) H1 ∧ gT D cs o a1 a2 k r fz (N + 1) (sp_tear F (nI (i + 1)) how).2 H1) (va_runV S (cC_X3_tearHalf l D cs (sb h1 i) (nI (i + 1)) (sv h1 i) k a1 (sZ h1) _ (hR.2.2.1.2.1 i hi5 hs.1) hI.1.1 (dj_TH hI hi5 hs.1) how) (cwV 2 hts gX11_tear_X3_tearHalf rfl rfl rfl (by decide +kernel) ⟨Nat.le_of_ble_eq_true rfl, Nat.le_of_ble_eq_true rfl⟩) (preV_c (As := [.ref (sb h1 i 0), .int how]) hK (va_P.app (va_P.app hT hH.1.1) nilP) hrv) rfl rfl hl.1 rfl (lv_room (Nat.le_of_ble_eq_true rfl)) dX11_tear_14 ⟨Nat.zero_le _, Nat.zero_le _⟩) hS (fun x h => ?_) (fun H1 hz hk hP1 => ?_) (fun H1 locs1 hG hS => ?_)
    · rcases h with (h | h) | h
      · exact nf_T hI hi5 hs.1 h
      · exact nf_H hI h
      · exact fun z => absurd (hfz x z) (Nat.not_lt.mpr h)
    · have hk2 : ∀ x, x < s.heap.size → ¬ pH a1 x → ¬ pT (sb h1 i) x → H1[x]? = s.heap[x]? := fun x hx n1 n5 => hk x hx (fun z => by
        rcases z with (z | z) | z
        · exact n5 z
        · exact n1 z
        · exact absurd hx (Nat.not_lt.mpr z))
      exact gT_tk hP hR (by omega) hI hH hfz hi ⟨Nat.le_refl _, Nat.le_succ _⟩ hA (by rw [z_tear]; exact KP_id) hz (fun x hx n1 _ n5 => hk2 x hx n1 n5) (vaL (vaL hP1)) (vaR (vaL hP1)) (keepW hH.2.2 wB_p (fun x hx b => hk2 x hx (fun z => dj_HB hI x z b) (fun z => dj_TB hI hi5 hs.1 x z b)))
    · exact x11_end S hK hr hlocks hG.1 hG.2 hA.1 hA.2.2.2 hA.2.2.1.2.2.2.2.2 hS (cwV 1 hts gX11_tear_X11_answer rfl rfl rfl (by decide +kernel) ⟨Nat.le_of_ble_eq_true rfl, Nat.le_of_ble_eq_true rfl⟩) hl.1 dX11_tear_17 dX11_tear_20 ⟨Nat.zero_le _, Nat.zero_le _⟩
set_option maxHeartbeats 4000000 in
set_option maxRecDepth 100000 in
theorem cC_X11_oath (l : Launch) (D : va_G) (cs : Nat → ClassId) (o : Nat) (a1 a2 k r : Nat → Nat) (fz : Nat → Prop) (N : Nat) (F : mZ) (sz : Nat) (hN : N ≤ 511) (ticket : Int32) : Met l yX11_oath wsX11_oath ({ frames := 2, cells := 0, slots := 0, locals := 41 }) (cPcF [.ref o, .int ticket] D cs (wO o a1 a2 (zik F) (zst F)) (gT D cs o a1 a2 k r fz N F) sz) (cQF D (some (.int (sp_oath F ticket).1)) (wO o a1 a2 (zik (sp_oath F ticket).2) (zst (sp_oath F ticket).2)) (gT D cs o a1 a2 k r fz (N + 1) (sp_oath F ticket).2) (fun x => ¬ fz x)) 0 0 (fun x => ¬ fz x) := by
  refine c_inF (P := p1 o) (cc := cX11_oath) (maxL := 2) (ret := (some .int)) (lv := [(0, .ref o), (1, .int ticket)]) (by decide) rfl (Nat.le_of_ble_eq_true rfl) rfl ?_
  intro p e s m below meth c ls S hr hlocks hin hsz hP hK hF hl hS0
  subst hsz
  obtain ⟨hx, hb, hml, hown, hts⟩ := id S
  have hX11 : ∀ w ∈ wsX110, w ∈ wsX11_oath := by decide +kernel
  have hS : va_S (fun x => ¬ fz x) s.heap s.heap [] := va_S.rf
  obtain ⟨h1, h2, RW, cn1, rc1, d1, cn2, rc2, d2, hR, hI, hH, hfz⟩ := id hF
  have hcn := hR.1.1.2.2.2.2.2.1
  have hrN := hR.2.2.2.2.1
  have hZ1 : va_P D vwCl (([] ++ wH a1 (k 0) cs (sZ h1)) ++ []) s.heap := by rw [List.nil_append, List.append_nil]; exact hH.1.1
  have hrv := va_recv hK.1 hH.1.1 (ci := 3) (q0 := 0) rfl rfl
  refine lv_aload_n hx hb dX11_oath_0 rfl (lv_at hl 0 rfl) ?_
  refine lv_aload_n hx hb dX11_oath_1 rfl (lv_at hl 0 rfl) ?_
  refine va_get (D := D) (ci := 9) (v := .ref (a1 0)) (C := RX11) (T := TX11) (N := 4) hx hb hts hX11 hown hK.1 hP 0 rfl rfl 0 (by decide) (hts (.fieldLink RX11 15 "PledgeHouse" "now" "LPledgeHouse$House;") (by decide +kernel)) (fun _ h9 => h9) rfl dX11_oath_2 ?_
  refine lv_aload_n hx hb dX11_oath_5 rfl (lv_at hl 0 rfl) ?_
  refine va_get (D := D) (ci := 9) (v := .ref (a1 0)) (C := RX11) (T := TX11) (N := 4) hx hb hts hX11 hown hK.1 hP 0 rfl rfl 0 (by decide) (hts (.fieldLink RX11 15 "PledgeHouse" "now" "LPledgeHouse$House;") (by decide +kernel)) (fun _ h9 => h9) rfl dX11_oath_6 ?_
  refine lv_iload_n hx hb dX11_oath_9 rfl (lv_at hl 1 rfl) ?_
  refine c_rd S hK hZ1 hrv (As := [.int ticket]) (rest := [.ref (a1 0), .ref o]) (cC_X3_findTicket l D cs k a1 (sZ h1) _ ticket (cn_le hR.1.1.2.2.2.1 hcn)) (cwV 1 hts gX11_oath_X3_findTicket rfl rfl rfl (by decide +kernel) ⟨Nat.le_of_ble_eq_true rfl, Nat.le_of_ble_eq_true rfl⟩) rfl hl.1 rfl (Nat.le_of_ble_eq_true rfl) dX11_oath_10 ⟨Nat.zero_le _, Nat.zero_le _⟩ ?_
  rcases tick_cases hR.1 ticket with hn | ⟨i, hi, et⟩
  · refine wtop ((congrArg va_rf (ft_none hn)).trans rfl) ?_
    refine c_rd S hK hZ1 hrv (As := [.null]) (rest := [.ref o]) (cC_X3_hearOath_n l D cs k a1 (sZ h1) _) (cwV 1 hts gX11_oath_X3_hearOath rfl rfl rfl (by decide +kernel) ⟨Nat.le_of_ble_eq_true rfl, Nat.le_of_ble_eq_true rfl⟩) rfl hl.1 rfl (Nat.le_of_ble_eq_true rfl) dX11_oath_13 ⟨Nat.zero_le _, Nat.zero_le _⟩ ?_
    have hA : AO F (sp_oath F ticket) (-1) (sZ h1) (sv h1) (sl h1) RW cn1 rc1 d1 := by unfold sp_oath; rw [if_pos (hR.1.noT hn)]; exact AO_no hR.1
    exact x11_end S hK hr hlocks hP (gT_no hP hR (by omega) hI hH hfz hA) hA.1 hA.2.2.2 hA.2.2.1.2.2.2.2.2 hS (cwV 1 hts gX11_oath_X11_answer rfl rfl rfl (by decide +kernel) ⟨Nat.le_of_ble_eq_true rfl, Nat.le_of_ble_eq_true rfl⟩) hl.1 dX11_oath_16 dX11_oath_19 ⟨Nat.zero_le _, Nat.zero_le _⟩
  · subst et
    refine wtop ((congrArg va_rf (ft_some hR.1.1.2.2.2.1 hcn (fun j hj => (hR.2.2.1.2.2.1 j hj).1) hi)).trans rfl) ?_
    have hi5 : i < 511 := by omega
    have hs := hR.2.2.1.2.2.1 i hi
    have hT := hH.1.2.1 i hi5 hs.1
    rw [hs.2] at hT
    have hA := r_oath hR.1 hi
    refine c_wG (G := fun H1 => va_P D vwCl (wO o a1 a2 (zik F) (zst F)) H1 ∧ gT D cs o a1 a2 k r fz (N + 1) (sp_oath F (nI (i + 1))).2 H1) (va_runV S (cC_X3_hearOath l D cs (sb h1 i) (nI (i + 1)) (sv h1 i) k a1 (sZ h1) _ (hR.2.2.1.2.1 i hi5 hs.1) hI.1.1 (dj_TH hI hi5 hs.1)) (cwV 1 hts gX11_oath_X3_hearOath rfl rfl rfl (by decide +kernel) ⟨Nat.le_of_ble_eq_true rfl, Nat.le_of_ble_eq_true rfl⟩) (preV_c (As := [.ref (sb h1 i 0)]) hK (va_P.app (va_P.app hT hH.1.1) nilP) hrv) rfl rfl hl.1 rfl (lv_room (Nat.le_of_ble_eq_true rfl)) dX11_oath_13 ⟨Nat.zero_le _, Nat.zero_le _⟩) hS (fun x h => ?_) (fun H1 hz hk hP1 => ?_) (fun H1 locs1 hG hS => ?_)
    · rcases h with (h | h) | h
      · exact nf_T hI hi5 hs.1 h
      · exact nf_H hI h
      · exact fun z => absurd (hfz x z) (Nat.not_lt.mpr h)
    · have hk2 : ∀ x, x < s.heap.size → ¬ pH a1 x → ¬ pT (sb h1 i) x → H1[x]? = s.heap[x]? := fun x hx n1 n5 => hk x hx (fun z => by
        rcases z with (z | z) | z
        · exact n5 z
        · exact n1 z
        · exact absurd hx (Nat.not_lt.mpr z))
      exact gT_tk hP hR (by omega) hI hH hfz hi ⟨Nat.le_refl _, Nat.le_succ _⟩ hA (by rw [z_oath]; exact KP_id) hz (fun x hx n1 _ n5 => hk2 x hx n1 n5) (vaL (vaL hP1)) (vaR (vaL hP1)) (keepW hH.2.2 wB_p (fun x hx b => hk2 x hx (fun z => dj_HB hI x z b) (fun z => dj_TB hI hi5 hs.1 x z b)))
    · exact x11_end S hK hr hlocks hG.1 hG.2 hA.1 hA.2.2.2 hA.2.2.1.2.2.2.2.2 hS (cwV 1 hts gX11_oath_X11_answer rfl rfl rfl (by decide +kernel) ⟨Nat.le_of_ble_eq_true rfl, Nat.le_of_ble_eq_true rfl⟩) hl.1 dX11_oath_16 dX11_oath_19 ⟨Nat.zero_le _, Nat.zero_le _⟩
set_option maxHeartbeats 4000000 in
set_option maxRecDepth 100000 in
theorem cC_X11_forfeit (l : Launch) (D : va_G) (cs : Nat → ClassId) (o : Nat) (a1 a2 k r : Nat → Nat) (fz : Nat → Prop) (N : Nat) (F : mZ) (sz : Nat) (hN : N ≤ 511) (ticket : Int32) : Met l yX11_forfeit wsX11_forfeit ({ frames := 5, cells := 0, slots := 0, locals := 107 }) (cPcF [.ref o, .int ticket] D cs (wO o a1 a2 (zik F) (zst F)) (gT D cs o a1 a2 k r fz N F) sz) (cQF D (some (.int (sp_forfeit F ticket).1)) (wO o a1 a2 (zik (sp_forfeit F ticket).2) (zst (sp_forfeit F ticket).2)) (gT D cs o a1 a2 k r fz (N + 1) (sp_forfeit F ticket).2) (fun x => ¬ fz x)) 0 0 (fun x => ¬ fz x) := by
  refine c_inF (P := p1 o) (cc := cX11_forfeit) (maxL := 2) (ret := (some .int)) (lv := [(0, .ref o), (1, .int ticket)]) (by decide) rfl (Nat.le_of_ble_eq_true rfl) rfl ?_
  intro p e s m below meth c ls S hr hlocks hin hsz hP hK hF hl hS0
  subst hsz
  obtain ⟨hx, hb, hml, hown, hts⟩ := id S
  have hX11 : ∀ w ∈ wsX110, w ∈ wsX11_forfeit := by decide +kernel
  have hS : va_S (fun x => ¬ fz x) s.heap s.heap [] := va_S.rf
  obtain ⟨h1, h2, RW, cn1, rc1, d1, cn2, rc2, d2, hR, hI, hH, hfz⟩ := id hF
  have hcn := hR.1.1.2.2.2.2.2.1
  have hrN := hR.2.2.2.2.1
  have hZ1 : va_P D vwCl (([] ++ wH a1 (k 0) cs (sZ h1)) ++ []) s.heap := by rw [List.nil_append, List.append_nil]; exact hH.1.1
  have hrv := va_recv hK.1 hH.1.1 (ci := 3) (q0 := 0) rfl rfl
  refine lv_aload_n hx hb dX11_forfeit_0 rfl (lv_at hl 0 rfl) ?_
  refine lv_aload_n hx hb dX11_forfeit_1 rfl (lv_at hl 0 rfl) ?_
  refine va_get (D := D) (ci := 9) (v := .ref (a1 0)) (C := RX11) (T := TX11) (N := 4) hx hb hts hX11 hown hK.1 hP 0 rfl rfl 0 (by decide) (hts (.fieldLink RX11 15 "PledgeHouse" "now" "LPledgeHouse$House;") (by decide +kernel)) (fun _ h9 => h9) rfl dX11_forfeit_2 ?_
  refine lv_aload_n hx hb dX11_forfeit_5 rfl (lv_at hl 0 rfl) ?_
  refine va_get (D := D) (ci := 9) (v := .ref (a1 0)) (C := RX11) (T := TX11) (N := 4) hx hb hts hX11 hown hK.1 hP 0 rfl rfl 0 (by decide) (hts (.fieldLink RX11 15 "PledgeHouse" "now" "LPledgeHouse$House;") (by decide +kernel)) (fun _ h9 => h9) rfl dX11_forfeit_6 ?_
  refine lv_iload_n hx hb dX11_forfeit_9 rfl (lv_at hl 1 rfl) ?_
  refine c_rd S hK hZ1 hrv (As := [.int ticket]) (rest := [.ref (a1 0), .ref o]) (cC_X3_findTicket l D cs k a1 (sZ h1) _ ticket (cn_le hR.1.1.2.2.2.1 hcn)) (cwV 1 hts gX11_forfeit_X3_findTicket rfl rfl rfl (by decide +kernel) ⟨Nat.le_of_ble_eq_true rfl, Nat.le_of_ble_eq_true rfl⟩) rfl hl.1 rfl (Nat.le_of_ble_eq_true rfl) dX11_forfeit_10 ⟨Nat.zero_le _, Nat.zero_le _⟩ ?_
  rcases tick_cases hR.1 ticket with hn | ⟨i, hi, et⟩
  · refine wtop ((congrArg va_rf (ft_none hn)).trans rfl) ?_
    refine c_rd S hK hZ1 hrv (As := [.null]) (rest := [.ref o]) (cC_X3_makeForfeit_n l D cs k a1 (sZ h1) _) (cwV 1 hts gX11_forfeit_X3_makeForfeit rfl rfl rfl (by decide +kernel) ⟨Nat.le_of_ble_eq_true rfl, Nat.le_of_ble_eq_true rfl⟩) rfl hl.1 rfl (Nat.le_of_ble_eq_true rfl) dX11_forfeit_13 ⟨Nat.zero_le _, Nat.zero_le _⟩ ?_
    have hA : AO F (sp_forfeit F ticket) (-1) (sZ h1) (sv h1) (sl h1) RW cn1 rc1 d1 := by unfold sp_forfeit; rw [if_pos (hR.1.noT hn)]; exact AO_no hR.1
    exact x11_end S hK hr hlocks hP (gT_no hP hR (by omega) hI hH hfz hA) hA.1 hA.2.2.2 hA.2.2.1.2.2.2.2.2 hS (cwV 1 hts gX11_forfeit_X11_answer rfl rfl rfl (by decide +kernel) ⟨Nat.le_of_ble_eq_true rfl, Nat.le_of_ble_eq_true rfl⟩) hl.1 dX11_forfeit_16 dX11_forfeit_19 ⟨Nat.zero_le _, Nat.zero_le _⟩
  · subst et
    refine wtop ((congrArg va_rf (ft_some hR.1.1.2.2.2.1 hcn (fun j hj => (hR.2.2.1.2.2.1 j hj).1) hi)).trans rfl) ?_
    have hi5 : i < 511 := by omega
    have hs := hR.2.2.1.2.2.1 i hi
    have hT := hH.1.2.1 i hi5 hs.1
    rw [hs.2] at hT
    have hA := r_forfeit hR.1 hi
    refine c_wG (G := fun H1 => va_P D vwCl (wO o a1 a2 (zik F) (zst F)) H1 ∧ gT D cs o a1 a2 k r fz (N + 1) (sp_forfeit F (nI (i + 1))).2 H1) (va_runV S (cC_X3_makeForfeit l D cs (sb h1 i) (nI (i + 1)) (sv h1 i) k a1 (sZ h1) _ (hR.2.2.1.2.1 i hi5 hs.1) hI.1.1 (dj_TH hI hi5 hs.1)) (cwV 1 hts gX11_forfeit_X3_makeForfeit rfl rfl rfl (by decide +kernel) ⟨Nat.le_of_ble_eq_true rfl, Nat.le_of_ble_eq_true rfl⟩) (preV_c (As := [.ref (sb h1 i 0)]) hK (va_P.app (va_P.app hT hH.1.1) nilP) hrv) rfl rfl hl.1 rfl (lv_room (Nat.le_of_ble_eq_true rfl)) dX11_forfeit_13 ⟨Nat.zero_le _, Nat.zero_le _⟩) hS (fun x h => ?_) (fun H1 hz hk hP1 => ?_) (fun H1 locs1 hG hS => ?_)
    · rcases h with (h | h) | h
      · exact nf_T hI hi5 hs.1 h
      · exact nf_H hI h
      · exact fun z => absurd (hfz x z) (Nat.not_lt.mpr h)
    · have hk2 : ∀ x, x < s.heap.size → ¬ pH a1 x → ¬ pT (sb h1 i) x → H1[x]? = s.heap[x]? := fun x hx n1 n5 => hk x hx (fun z => by
        rcases z with (z | z) | z
        · exact n5 z
        · exact n1 z
        · exact absurd hx (Nat.not_lt.mpr z))
      exact gT_tk hP hR (by omega) hI hH hfz hi ⟨Nat.le_refl _, Nat.le_succ _⟩ hA (by rw [z_forfeit]; exact KP_id) hz (fun x hx n1 _ n5 => hk2 x hx n1 n5) (vaL (vaL hP1)) (vaR (vaL hP1)) (keepW hH.2.2 wB_p (fun x hx b => hk2 x hx (fun z => dj_HB hI x z b) (fun z => dj_TB hI hi5 hs.1 x z b)))
    · exact x11_end S hK hr hlocks hG.1 hG.2 hA.1 hA.2.2.2 hA.2.2.1.2.2.2.2.2 hS (cwV 1 hts gX11_forfeit_X11_answer rfl rfl rfl (by decide +kernel) ⟨Nat.le_of_ble_eq_true rfl, Nat.le_of_ble_eq_true rfl⟩) hl.1 dX11_forfeit_16 dX11_forfeit_19 ⟨Nat.zero_le _, Nat.zero_le _⟩
set_option maxHeartbeats 4000000 in
set_option maxRecDepth 100000 in
theorem cC_X11_bid (l : Launch) (D : va_G) (cs : Nat → ClassId) (o : Nat) (a1 a2 k r : Nat → Nat) (fz : Nat → Prop) (N : Nat) (F : mZ) (sz : Nat) (hN : N ≤ 511) (ticket : Int32) (coins : Int32) : Met l yX11_bid wsX11_bid ({ frames := 3, cells := 0, slots := 0, locals := 62 }) (cPcF [.ref o, .int ticket, .int coins] D cs (wO o a1 a2 (zik F) (zst F)) (gT D cs o a1 a2 k r fz N F) sz) (cQF D (some (.int (sp_bid F ticket coins).1)) (wO o a1 a2 (zik (sp_bid F ticket coins).2) (zst (sp_bid F ticket coins).2)) (gT D cs o a1 a2 k r fz (N + 1) (sp_bid F ticket coins).2) (fun x => ¬ fz x)) 0 0 (fun x => ¬ fz x) := by
  refine c_inF (P := p1 o) (cc := cX11_bid) (maxL := 3) (ret := (some .int)) (lv := [(0, .ref o), (1, .int ticket), (2, .int coins)]) (by decide) rfl (Nat.le_of_ble_eq_true rfl) rfl ?_
  intro p e s m below meth c ls S hr hlocks hin hsz hP hK hF hl hS0
  subst hsz
  obtain ⟨hx, hb, hml, hown, hts⟩ := id S
  have hX11 : ∀ w ∈ wsX110, w ∈ wsX11_bid := by decide +kernel
  have hS : va_S (fun x => ¬ fz x) s.heap s.heap [] := va_S.rf
  obtain ⟨h1, h2, RW, cn1, rc1, d1, cn2, rc2, d2, hR, hI, hH, hfz⟩ := id hF
  have hcn := hR.1.1.2.2.2.2.2.1
  have hrN := hR.2.2.2.2.1
  have hZ1 : va_P D vwCl (([] ++ wH a1 (k 0) cs (sZ h1)) ++ []) s.heap := by rw [List.nil_append, List.append_nil]; exact hH.1.1
  have hrv := va_recv hK.1 hH.1.1 (ci := 3) (q0 := 0) rfl rfl
  refine lv_aload_n hx hb dX11_bid_0 rfl (lv_at hl 0 rfl) ?_
  refine lv_aload_n hx hb dX11_bid_1 rfl (lv_at hl 0 rfl) ?_
  refine va_get (D := D) (ci := 9) (v := .ref (a1 0)) (C := RX11) (T := TX11) (N := 4) hx hb hts hX11 hown hK.1 hP 0 rfl rfl 0 (by decide) (hts (.fieldLink RX11 15 "PledgeHouse" "now" "LPledgeHouse$House;") (by decide +kernel)) (fun _ h9 => h9) rfl dX11_bid_2 ?_
  refine lv_aload_n hx hb dX11_bid_5 rfl (lv_at hl 0 rfl) ?_
  refine va_get (D := D) (ci := 9) (v := .ref (a1 0)) (C := RX11) (T := TX11) (N := 4) hx hb hts hX11 hown hK.1 hP 0 rfl rfl 0 (by decide) (hts (.fieldLink RX11 15 "PledgeHouse" "now" "LPledgeHouse$House;") (by decide +kernel)) (fun _ h9 => h9) rfl dX11_bid_6 ?_
  refine lv_iload_n hx hb dX11_bid_9 rfl (lv_at hl 1 rfl) ?_
  refine c_rd S hK hZ1 hrv (As := [.int ticket]) (rest := [.ref (a1 0), .ref o]) (cC_X3_findTicket l D cs k a1 (sZ h1) _ ticket (cn_le hR.1.1.2.2.2.1 hcn)) (cwV 1 hts gX11_bid_X3_findTicket rfl rfl rfl (by decide +kernel) ⟨Nat.le_of_ble_eq_true rfl, Nat.le_of_ble_eq_true rfl⟩) rfl hl.1 rfl (Nat.le_of_ble_eq_true rfl) dX11_bid_10 ⟨Nat.zero_le _, Nat.zero_le _⟩ ?_
  rcases tick_cases hR.1 ticket with hn | ⟨i, hi, et⟩
  · refine wtop ((congrArg va_rf (ft_none hn)).trans rfl) ?_
    refine lv_iload_n hx hb dX11_bid_13 rfl (lv_at hl 2 rfl) ?_
    refine c_rd S hK hZ1 hrv (As := [.null, .int coins]) (rest := [.ref o]) (cC_X3_hearBid_n l D cs k a1 (sZ h1) _ coins) (cwV 2 hts gX11_bid_X3_hearBid rfl rfl rfl (by decide +kernel) ⟨Nat.le_of_ble_eq_true rfl, Nat.le_of_ble_eq_true rfl⟩) rfl hl.1 rfl (Nat.le_of_ble_eq_true rfl) dX11_bid_14 ⟨Nat.zero_le _, Nat.zero_le _⟩ ?_
    have hA : AO F (sp_bid F ticket coins) (-1) (sZ h1) (sv h1) (sl h1) RW cn1 rc1 d1 := by unfold sp_bid; rw [if_pos (hR.1.noT hn)]; exact AO_no hR.1
    exact x11_end S hK hr hlocks hP (gT_no hP hR (by omega) hI hH hfz hA) hA.1 hA.2.2.2 hA.2.2.1.2.2.2.2.2 hS (cwV 1 hts gX11_bid_X11_answer rfl rfl rfl (by decide +kernel) ⟨Nat.le_of_ble_eq_true rfl, Nat.le_of_ble_eq_true rfl⟩) hl.1 dX11_bid_17 dX11_bid_20 ⟨Nat.zero_le _, Nat.zero_le _⟩
  · subst et
    refine wtop ((congrArg va_rf (ft_some hR.1.1.2.2.2.1 hcn (fun j hj => (hR.2.2.1.2.2.1 j hj).1) hi)).trans rfl) ?_
    refine lv_iload_n hx hb dX11_bid_13 rfl (lv_at hl 2 rfl) ?_
    have hi5 : i < 511 := by omega
    have hs := hR.2.2.1.2.2.1 i hi
    have hT := hH.1.2.1 i hi5 hs.1
    rw [hs.2] at hT
    have hA := r_bid hR.1 hi coins
    refine c_wG (G := fun H1 => va_P D vwCl (wO o a1 a2 (zik F) (zst F)) H1 ∧ gT D cs o a1 a2 k r fz (N + 1) (sp_bid F (nI (i + 1)) coins).2 H1) (va_runV S (cC_X3_hearBid l D cs (sb h1 i) (nI (i + 1)) (sv h1 i) k a1 (sZ h1) _ (hR.2.2.1.2.1 i hi5 hs.1) hI.1.1 (dj_TH hI hi5 hs.1) coins) (cwV 2 hts gX11_bid_X3_hearBid rfl rfl rfl (by decide +kernel) ⟨Nat.le_of_ble_eq_true rfl, Nat.le_of_ble_eq_true rfl⟩) (preV_c (As := [.ref (sb h1 i 0), .int coins]) hK (va_P.app (va_P.app hT hH.1.1) nilP) hrv) rfl rfl hl.1 rfl (lv_room (Nat.le_of_ble_eq_true rfl)) dX11_bid_14 ⟨Nat.zero_le _, Nat.zero_le _⟩) hS (fun x h => ?_) (fun H1 hz hk hP1 => ?_) (fun H1 locs1 hG hS => ?_)
    · rcases h with (h | h) | h
      · exact nf_T hI hi5 hs.1 h
      · exact nf_H hI h
      · exact fun z => absurd (hfz x z) (Nat.not_lt.mpr h)
    · have hk2 : ∀ x, x < s.heap.size → ¬ pH a1 x → ¬ pT (sb h1 i) x → H1[x]? = s.heap[x]? := fun x hx n1 n5 => hk x hx (fun z => by
        rcases z with (z | z) | z
        · exact n5 z
        · exact n1 z
        · exact absurd hx (Nat.not_lt.mpr z))
      exact gT_tk hP hR (by omega) hI hH hfz hi ⟨Nat.le_refl _, Nat.le_succ _⟩ hA (by rw [z_bid]; exact KP_id) hz (fun x hx n1 _ n5 => hk2 x hx n1 n5) (vaL (vaL hP1)) (vaR (vaL hP1)) (keepW hH.2.2 wB_p (fun x hx b => hk2 x hx (fun z => dj_HB hI x z b) (fun z => dj_TB hI hi5 hs.1 x z b)))
    · exact x11_end S hK hr hlocks hG.1 hG.2 hA.1 hA.2.2.2 hA.2.2.1.2.2.2.2.2 hS (cwV 1 hts gX11_bid_X11_answer rfl rfl rfl (by decide +kernel) ⟨Nat.le_of_ble_eq_true rfl, Nat.le_of_ble_eq_true rfl⟩) hl.1 dX11_bid_17 dX11_bid_20 ⟨Nat.zero_le _, Nat.zero_le _⟩
set_option maxHeartbeats 4000000 in
set_option maxRecDepth 100000 in
theorem cC_X11_claim (l : Launch) (D : va_G) (cs : Nat → ClassId) (o : Nat) (a1 a2 k r : Nat → Nat) (fz : Nat → Prop) (N : Nat) (F : mZ) (sz : Nat) (hN : N ≤ 511) (ticket : Int32) : Met l yX11_claim wsX11_claim ({ frames := 2, cells := 0, slots := 0, locals := 41 }) (cPcF [.ref o, .int ticket] D cs (wO o a1 a2 (zik F) (zst F)) (gT D cs o a1 a2 k r fz N F) sz) (cQF D (some (.int (sp_claim F ticket).1)) (wO o a1 a2 (zik (sp_claim F ticket).2) (zst (sp_claim F ticket).2)) (gT D cs o a1 a2 k r fz (N + 1) (sp_claim F ticket).2) (fun x => ¬ fz x)) 0 0 (fun x => ¬ fz x) := by
  refine c_inF (P := p1 o) (cc := cX11_claim) (maxL := 2) (ret := (some .int)) (lv := [(0, .ref o), (1, .int ticket)]) (by decide) rfl (Nat.le_of_ble_eq_true rfl) rfl ?_
  intro p e s m below meth c ls S hr hlocks hin hsz hP hK hF hl hS0
  subst hsz
  obtain ⟨hx, hb, hml, hown, hts⟩ := id S
  have hX11 : ∀ w ∈ wsX110, w ∈ wsX11_claim := by decide +kernel
  have hS : va_S (fun x => ¬ fz x) s.heap s.heap [] := va_S.rf
  obtain ⟨h1, h2, RW, cn1, rc1, d1, cn2, rc2, d2, hR, hI, hH, hfz⟩ := id hF
  have hcn := hR.1.1.2.2.2.2.2.1
  have hrN := hR.2.2.2.2.1
  have hZ1 : va_P D vwCl (([] ++ wH a1 (k 0) cs (sZ h1)) ++ []) s.heap := by rw [List.nil_append, List.append_nil]; exact hH.1.1
  have hrv := va_recv hK.1 hH.1.1 (ci := 3) (q0 := 0) rfl rfl
  refine lv_aload_n hx hb dX11_claim_0 rfl (lv_at hl 0 rfl) ?_
  refine lv_aload_n hx hb dX11_claim_1 rfl (lv_at hl 0 rfl) ?_
  refine va_get (D := D) (ci := 9) (v := .ref (a1 0)) (C := RX11) (T := TX11) (N := 4) hx hb hts hX11 hown hK.1 hP 0 rfl rfl 0 (by decide) (hts (.fieldLink RX11 15 "PledgeHouse" "now" "LPledgeHouse$House;") (by decide +kernel)) (fun _ h9 => h9) rfl dX11_claim_2 ?_
  refine lv_aload_n hx hb dX11_claim_5 rfl (lv_at hl 0 rfl) ?_
  refine va_get (D := D) (ci := 9) (v := .ref (a1 0)) (C := RX11) (T := TX11) (N := 4) hx hb hts hX11 hown hK.1 hP 0 rfl rfl 0 (by decide) (hts (.fieldLink RX11 15 "PledgeHouse" "now" "LPledgeHouse$House;") (by decide +kernel)) (fun _ h9 => h9) rfl dX11_claim_6 ?_
  refine lv_iload_n hx hb dX11_claim_9 rfl (lv_at hl 1 rfl) ?_
  refine c_rd S hK hZ1 hrv (As := [.int ticket]) (rest := [.ref (a1 0), .ref o]) (cC_X3_findTicket l D cs k a1 (sZ h1) _ ticket (cn_le hR.1.1.2.2.2.1 hcn)) (cwV 1 hts gX11_claim_X3_findTicket rfl rfl rfl (by decide +kernel) ⟨Nat.le_of_ble_eq_true rfl, Nat.le_of_ble_eq_true rfl⟩) rfl hl.1 rfl (Nat.le_of_ble_eq_true rfl) dX11_claim_10 ⟨Nat.zero_le _, Nat.zero_le _⟩ ?_
  rcases tick_cases hR.1 ticket with hn | ⟨i, hi, et⟩
  · refine wtop ((congrArg va_rf (ft_none hn)).trans rfl) ?_
    refine c_rd S hK hZ1 hrv (As := [.null]) (rest := [.ref o]) (cC_X3_raiseClaim_n l D cs k a1 (sZ h1) _) (cwV 1 hts gX11_claim_X3_raiseClaim rfl rfl rfl (by decide +kernel) ⟨Nat.le_of_ble_eq_true rfl, Nat.le_of_ble_eq_true rfl⟩) rfl hl.1 rfl (Nat.le_of_ble_eq_true rfl) dX11_claim_13 ⟨Nat.zero_le _, Nat.zero_le _⟩ ?_
    have hA : AO F (sp_claim F ticket) (-1) (sZ h1) (sv h1) (sl h1) RW cn1 rc1 d1 := by unfold sp_claim; rw [if_pos (hR.1.noT hn)]; exact AO_no hR.1
    exact x11_end S hK hr hlocks hP (gT_no hP hR (by omega) hI hH hfz hA) hA.1 hA.2.2.2 hA.2.2.1.2.2.2.2.2 hS (cwV 1 hts gX11_claim_X11_answer rfl rfl rfl (by decide +kernel) ⟨Nat.le_of_ble_eq_true rfl, Nat.le_of_ble_eq_true rfl⟩) hl.1 dX11_claim_16 dX11_claim_19 ⟨Nat.zero_le _, Nat.zero_le _⟩
  · subst et
    refine wtop ((congrArg va_rf (ft_some hR.1.1.2.2.2.1 hcn (fun j hj => (hR.2.2.1.2.2.1 j hj).1) hi)).trans rfl) ?_
    have hi5 : i < 511 := by omega
    have hs := hR.2.2.1.2.2.1 i hi
    have hT := hH.1.2.1 i hi5 hs.1
    rw [hs.2] at hT
    have hA := r_claim hR.1 hi
    refine c_wG (G := fun H1 => va_P D vwCl (wO o a1 a2 (zik F) (zst F)) H1 ∧ gT D cs o a1 a2 k r fz (N + 1) (sp_claim F (nI (i + 1))).2 H1) (va_runV S (cC_X3_raiseClaim l D cs (sb h1 i) (nI (i + 1)) (sv h1 i) k a1 (sZ h1) _ (hR.2.2.1.2.1 i hi5 hs.1) hI.1.1 (dj_TH hI hi5 hs.1)) (cwV 1 hts gX11_claim_X3_raiseClaim rfl rfl rfl (by decide +kernel) ⟨Nat.le_of_ble_eq_true rfl, Nat.le_of_ble_eq_true rfl⟩) (preV_c (As := [.ref (sb h1 i 0)]) hK (va_P.app (va_P.app hT hH.1.1) nilP) hrv) rfl rfl hl.1 rfl (lv_room (Nat.le_of_ble_eq_true rfl)) dX11_claim_13 ⟨Nat.zero_le _, Nat.zero_le _⟩) hS (fun x h => ?_) (fun H1 hz hk hP1 => ?_) (fun H1 locs1 hG hS => ?_)
    · rcases h with (h | h) | h
      · exact nf_T hI hi5 hs.1 h
      · exact nf_H hI h
      · exact fun z => absurd (hfz x z) (Nat.not_lt.mpr h)
    · have hk2 : ∀ x, x < s.heap.size → ¬ pH a1 x → ¬ pT (sb h1 i) x → H1[x]? = s.heap[x]? := fun x hx n1 n5 => hk x hx (fun z => by
        rcases z with (z | z) | z
        · exact n5 z
        · exact n1 z
        · exact absurd hx (Nat.not_lt.mpr z))
      exact gT_tk hP hR (by omega) hI hH hfz hi ⟨Nat.le_refl _, Nat.le_succ _⟩ hA (by rw [z_claim]; exact KP_id) hz (fun x hx n1 _ n5 => hk2 x hx n1 n5) (vaL (vaL hP1)) (vaR (vaL hP1)) (keepW hH.2.2 wB_p (fun x hx b => hk2 x hx (fun z => dj_HB hI x z b) (fun z => dj_TB hI hi5 hs.1 x z b)))
    · exact x11_end S hK hr hlocks hG.1 hG.2 hA.1 hA.2.2.2 hA.2.2.1.2.2.2.2.2 hS (cwV 1 hts gX11_claim_X11_answer rfl rfl rfl (by decide +kernel) ⟨Nat.le_of_ble_eq_true rfl, Nat.le_of_ble_eq_true rfl⟩) hl.1 dX11_claim_16 dX11_claim_19 ⟨Nat.zero_le _, Nat.zero_le _⟩
set_option maxHeartbeats 4000000 in
set_option maxRecDepth 100000 in
theorem cC_X11_drop (l : Launch) (D : va_G) (cs : Nat → ClassId) (o : Nat) (a1 a2 k r : Nat → Nat) (fz : Nat → Prop) (N : Nat) (F : mZ) (sz : Nat) (hN : N ≤ 511) (ticket : Int32) : Met l yX11_drop wsX11_drop ({ frames := 5, cells := 0, slots := 0, locals := 107 }) (cPcF [.ref o, .int ticket] D cs (wO o a1 a2 (zik F) (zst F)) (gT D cs o a1 a2 k r fz N F) sz) (cQF D (some (.int (sp_drop F ticket).1)) (wO o a1 a2 (zik (sp_drop F ticket).2) (zst (sp_drop F ticket).2)) (gT D cs o a1 a2 k r fz (N + 1) (sp_drop F ticket).2) (fun x => ¬ fz x)) 0 0 (fun x => ¬ fz x) := by
  refine c_inF (P := p1 o) (cc := cX11_drop) (maxL := 2) (ret := (some .int)) (lv := [(0, .ref o), (1, .int ticket)]) (by decide) rfl (Nat.le_of_ble_eq_true rfl) rfl ?_
  intro p e s m below meth c ls S hr hlocks hin hsz hP hK hF hl hS0
  subst hsz
  obtain ⟨hx, hb, hml, hown, hts⟩ := id S
  have hX11 : ∀ w ∈ wsX110, w ∈ wsX11_drop := by decide +kernel
  have hS : va_S (fun x => ¬ fz x) s.heap s.heap [] := va_S.rf
  obtain ⟨h1, h2, RW, cn1, rc1, d1, cn2, rc2, d2, hR, hI, hH, hfz⟩ := id hF
  have hcn := hR.1.1.2.2.2.2.2.1
  have hrN := hR.2.2.2.2.1
  have hZ1 : va_P D vwCl (([] ++ wH a1 (k 0) cs (sZ h1)) ++ []) s.heap := by rw [List.nil_append, List.append_nil]; exact hH.1.1
  have hrv := va_recv hK.1 hH.1.1 (ci := 3) (q0 := 0) rfl rfl
  refine lv_aload_n hx hb dX11_drop_0 rfl (lv_at hl 0 rfl) ?_
  refine lv_aload_n hx hb dX11_drop_1 rfl (lv_at hl 0 rfl) ?_
  refine va_get (D := D) (ci := 9) (v := .ref (a1 0)) (C := RX11) (T := TX11) (N := 4) hx hb hts hX11 hown hK.1 hP 0 rfl rfl 0 (by decide) (hts (.fieldLink RX11 15 "PledgeHouse" "now" "LPledgeHouse$House;") (by decide +kernel)) (fun _ h9 => h9) rfl dX11_drop_2 ?_
  refine lv_aload_n hx hb dX11_drop_5 rfl (lv_at hl 0 rfl) ?_
  refine va_get (D := D) (ci := 9) (v := .ref (a1 0)) (C := RX11) (T := TX11) (N := 4) hx hb hts hX11 hown hK.1 hP 0 rfl rfl 0 (by decide) (hts (.fieldLink RX11 15 "PledgeHouse" "now" "LPledgeHouse$House;") (by decide +kernel)) (fun _ h9 => h9) rfl dX11_drop_6 ?_
  refine lv_iload_n hx hb dX11_drop_9 rfl (lv_at hl 1 rfl) ?_
  refine c_rd S hK hZ1 hrv (As := [.int ticket]) (rest := [.ref (a1 0), .ref o]) (cC_X3_findTicket l D cs k a1 (sZ h1) _ ticket (cn_le hR.1.1.2.2.2.1 hcn)) (cwV 1 hts gX11_drop_X3_findTicket rfl rfl rfl (by decide +kernel) ⟨Nat.le_of_ble_eq_true rfl, Nat.le_of_ble_eq_true rfl⟩) rfl hl.1 rfl (Nat.le_of_ble_eq_true rfl) dX11_drop_10 ⟨Nat.zero_le _, Nat.zero_le _⟩ ?_
  rcases tick_cases hR.1 ticket with hn | ⟨i, hi, et⟩
  · refine wtop ((congrArg va_rf (ft_none hn)).trans rfl) ?_
    refine c_rd S hK hZ1 hrv (As := [.null]) (rest := [.ref o]) (cC_X3_dropClaim_n l D cs k a1 (sZ h1) _) (cwV 1 hts gX11_drop_X3_dropClaim rfl rfl rfl (by decide +kernel) ⟨Nat.le_of_ble_eq_true rfl, Nat.le_of_ble_eq_true rfl⟩) rfl hl.1 rfl (Nat.le_of_ble_eq_true rfl) dX11_drop_13 ⟨Nat.zero_le _, Nat.zero_le _⟩ ?_
    have hA : AO F (sp_drop F ticket) (-1) (sZ h1) (sv h1) (sl h1) RW cn1 rc1 d1 := by unfold sp_drop; rw [if_pos (hR.1.noT hn)]; exact AO_no hR.1
    exact x11_end S hK hr hlocks hP (gT_no hP hR (by omega) hI hH hfz hA) hA.1 hA.2.2.2 hA.2.2.1.2.2.2.2.2 hS (cwV 1 hts gX11_drop_X11_answer rfl rfl rfl (by decide +kernel) ⟨Nat.le_of_ble_eq_true rfl, Nat.le_of_ble_eq_true rfl⟩) hl.1 dX11_drop_16 dX11_drop_19 ⟨Nat.zero_le _, Nat.zero_le _⟩
  · subst et
    refine wtop ((congrArg va_rf (ft_some hR.1.1.2.2.2.1 hcn (fun j hj => (hR.2.2.1.2.2.1 j hj).1) hi)).trans rfl) ?_
    have hi5 : i < 511 := by omega
    have hs := hR.2.2.1.2.2.1 i hi
    have hT := hH.1.2.1 i hi5 hs.1
    rw [hs.2] at hT
    have hA := r_drop hR.1 hi
    refine c_wG (G := fun H1 => va_P D vwCl (wO o a1 a2 (zik F) (zst F)) H1 ∧ gT D cs o a1 a2 k r fz (N + 1) (sp_drop F (nI (i + 1))).2 H1) (va_runV S (cC_X3_dropClaim l D cs (sb h1 i) (nI (i + 1)) (sv h1 i) k a1 (sZ h1) _ (hR.2.2.1.2.1 i hi5 hs.1) hI.1.1 (dj_TH hI hi5 hs.1)) (cwV 1 hts gX11_drop_X3_dropClaim rfl rfl rfl (by decide +kernel) ⟨Nat.le_of_ble_eq_true rfl, Nat.le_of_ble_eq_true rfl⟩) (preV_c (As := [.ref (sb h1 i 0)]) hK (va_P.app (va_P.app hT hH.1.1) nilP) hrv) rfl rfl hl.1 rfl (lv_room (Nat.le_of_ble_eq_true rfl)) dX11_drop_13 ⟨Nat.zero_le _, Nat.zero_le _⟩) hS (fun x h => ?_) (fun H1 hz hk hP1 => ?_) (fun H1 locs1 hG hS => ?_)
    · rcases h with (h | h) | h
      · exact nf_T hI hi5 hs.1 h
      · exact nf_H hI h
      · exact fun z => absurd (hfz x z) (Nat.not_lt.mpr h)
    · have hk2 : ∀ x, x < s.heap.size → ¬ pH a1 x → ¬ pT (sb h1 i) x → H1[x]? = s.heap[x]? := fun x hx n1 n5 => hk x hx (fun z => by
        rcases z with (z | z) | z
        · exact n5 z
        · exact n1 z
        · exact absurd hx (Nat.not_lt.mpr z))
      exact gT_tk hP hR (by omega) hI hH hfz hi ⟨Nat.le_refl _, Nat.le_succ _⟩ hA (by rw [z_drop]; exact KP_id) hz (fun x hx n1 _ n5 => hk2 x hx n1 n5) (vaL (vaL hP1)) (vaR (vaL hP1)) (keepW hH.2.2 wB_p (fun x hx b => hk2 x hx (fun z => dj_HB hI x z b) (fun z => dj_TB hI hi5 hs.1 x z b)))
    · exact x11_end S hK hr hlocks hG.1 hG.2 hA.1 hA.2.2.2 hA.2.2.1.2.2.2.2.2 hS (cwV 1 hts gX11_drop_X11_answer rfl rfl rfl (by decide +kernel) ⟨Nat.le_of_ble_eq_true rfl, Nat.le_of_ble_eq_true rfl⟩) hl.1 dX11_drop_16 dX11_drop_19 ⟨Nat.zero_le _, Nat.zero_le _⟩
