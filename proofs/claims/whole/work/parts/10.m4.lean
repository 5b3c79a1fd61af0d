/-! the reference's public methods (by gen_model.py) -/
theorem tk_shown {Z : mZ} {t half : Int32} {n k : Nat} (h : k ≠ 18) (hn : n = tN t) : tk (sp_shown Z t half) n k = tk Z n k := by
  subst hn
  unfold sp_shown
  by_cases h0 : half = 0
  · rw [if_pos h0]
  · rw [if_neg h0]; exact tk_ne h
theorem tk_dropped {Z : mZ} {t : Int32} {n k : Nat} (h : k ≠ 8) (h2 : k ≠ 9) (hn : n = tN t) : tk (sp_dropped Z t) n k = tk Z n k := by
  subst hn
  exact (tk_ne h).trans (tk_ne h2)
theorem clr_s {Z : mZ} {n k : Nat} : ∀ i, k < i → sh (clr Z n i) n k = 0
  | 0, h => absurd h (Nat.not_lt_zero k)
  | i + 1, h => by
    by_cases e : k = i
    · subst e; exact sh_eq
    · exact (sh_ne e).trans (clr_s i (by omega))
theorem sh_comes {Z : mZ} {p kind : Int32} {n k : Nat} (h0 : k ≠ 0) (h5 : k ≠ 5) (hk : k < 16) (hn : n = tN p) : sh (sp_comes Z p kind) n k = 0 := by
  subst hn
  exact (sh_ne h5).trans ((sh_ne h0).trans (clr_s 16 hk))
theorem sh_comes0 {Z : mZ} {p kind : Int32} {n : Nat} (hn : n = tN p) : sh (sp_comes Z p kind) n 0 = kind := by
  subst hn
  exact (sh_ne (by decide)).trans sh_eq
def kok (v : Int32) : Prop := ∃ k : Nat, k < 5 ∧ v = nI k
theorem kok_ix {v : Int32} (j : Nat) {c : Int32} (hc : c = nI j) (h : kok v) : c + v = nI (j + tN v) := by
  obtain ⟨k, hk, rfl⟩ := h
  rw [hc, nI_add, tN_n (by omega)]
theorem kok_lt {v : Int32} (h : kok v) : tN v < 5 := by
  obtain ⟨k, hk, rfl⟩ := h
  rw [tN_n (by omega)]; exact hk
theorem iok_of {x : Int32} {N : Nat} {c : Int32} (hc : c = nI N) (hN : N < 2 ^ 31) (h1 : ¬ x < 0) (h2 : ¬ c ≤ x) : tN x < N ∧ x = nI (tN x) := by
  obtain ⟨j, hj, rfl⟩ := nI_of (x := x) h1
  rw [tN_n hj]
  refine ⟨?_, rfl⟩
  have := (nI_leI (a := N) (b := j) hN hj).mpr
  exact Nat.lt_of_not_le (fun h => h2 (hc ▸ this h))
theorem kok_pledge {Z : mZ} {p : Int32} (h : ¬ sp_isPledge Z p = 0) : kok (sh Z (tN p) 0) := by
  unfold sp_isPledge at h
  by_cases h1 : sh Z (tN p) 0 < 0
  · rw [if_pos h1] at h; exact absurd rfl h
  · by_cases h2 : 4 < sh Z (tN p) 0
    · rw [if_neg h1, if_pos h2] at h; exact absurd rfl h
    · obtain ⟨j, hj, e⟩ := nI_of (x := sh Z (tN p) 0) h1
      refine ⟨j, ?_, e⟩
      rw [e] at h2
      have := (nI_ltI (a := 4) (b := j) (by omega) hj).mpr
      exact Nat.lt_of_not_le (fun h => h2 (this h))
def mok (v : Int32) : Prop := ∃ k : Nat, k ≤ 6 ∧ v = nI k
theorem mok_ix {v : Int32} (h : mok v) : 9 + v = nI (9 + tN v) := by
  obtain ⟨k, hk, rfl⟩ := h
  rw [tN_n (by omega), show (9 : Int32) = nI 9 from rfl, nI_add]
theorem mok_lt {v : Int32} (h : mok v) (h6 : ¬ v = 6) : 9 + tN v < 16 := by
  obtain ⟨k, hk, rfl⟩ := h
  rw [tN_n (by omega)]
  have : k ≠ 6 := fun e => h6 (by rw [e]; rfl)
  omega

def sp_tear (Z : mZ) (ticket : Int32) (how : Int32) : Int32 × mZ :=
  if (sp_isTicket Z ticket) = 0 then
    ((-1), zR Z (-1))
  else
    if (tk Z (tN ticket) 16) = (-1) then
      if how = 0 then
        (0, zR (tkp Z (tN ticket) 16 how) 0)
      else
        if how = 1 then
          (0, zR (tkp Z (tN ticket) 16 how) 0)
        else
          ((-6), zR Z (-6))
    else
      ((-2), zR Z (-2))
set_option maxHeartbeats 4000000 in
set_option maxRecDepth 100000 in
theorem cM_tear (l : Launch) (D : va_G) (cI cJ : ClassId) (ad : Nat → Nat) (Z : mZ) (sz : Nat) (hi : mI ad) (ticket : Int32) (how : Int32) (hC : cok Z) : Met l yX13_tear wsX13_tear ({ frames := 1, cells := 0, slots := 0, locals := 23 }) (mPc [.ref (ad 0), .int ticket, .int how] D cI cJ ad Z sz) (mQ D cI cJ ad (some (.int (sp_tear Z ticket how).1)) (sp_tear Z ticket how).2 sz) 0 0 (mA ad sz) := by
  refine m_in (cc := cX13_tear) (maxL := 3) (ret := (some .int)) (lv := [(0, .ref (ad 0)), (1, .int ticket), (2, .int how)]) (by decide) rfl (Nat.le_of_ble_eq_true rfl) rfl ?_
  intro p e s m below meth c ls S hr hlocks hin hsz hP hK hl hS
  subst hsz
  obtain ⟨hx, hb, hml, hown, hts⟩ := id S
  refine lv_aload_n hx hb dX13_tear_0 rfl (lv_at hl 0 rfl) ?_
  refine lv_iload_n hx hb dX13_tear_1 rfl (lv_at hl 1 rfl) ?_
  refine m_rd S hK hP (As := [.int ticket]) (rest := []) (cM_isTicket l D cI cJ ad Z _ ticket ) (cwV 1 hts gX13_tear_X13_isTicket rfl rfl rfl (by decide +kernel) ⟨Nat.le_of_ble_eq_true rfl, Nat.le_of_ble_eq_true rfl⟩) rfl hl.1 rfl (Nat.le_of_ble_eq_true rfl) dX13_tear_2 ⟨Nat.zero_le _, Nat.zero_le _⟩ ?_
  refine lv_if_ne (tgt := 14) hx hb dX13_tear_5 (by decide) (fun c_1 => ?_) (fun c_1 => ?_)
  · refine lv_aload_n hx hb dX13_tear_14 rfl (lv_at hl 0 rfl) ?_
    refine lv_iload_n hx hb dX13_tear_15 rfl (lv_at hl 1 rfl) ?_
    refine lv_bipush (v := 16) hx hb dX13_tear_16 (by decide) ?_
    refine m_rd S hK hP (As := [.int ticket, .int 16]) (rest := []) (cM_of l D cI cJ ad Z _ ticket 16 (tok_of hC c_1) 16 rfl (by decide)) (cwV 2 hts gX13_tear_X13_of rfl rfl rfl (by decide +kernel) ⟨Nat.le_of_ble_eq_true rfl, Nat.le_of_ble_eq_true rfl⟩) rfl hl.1 rfl (Nat.le_of_ble_eq_true rfl) dX13_tear_18 ⟨Nat.zero_le _, Nat.zero_le _⟩ ?_
    refine lv_iconst (v := (-1)) hx hb dX13_tear_21 (by decide) ?_
    refine lv_icmp_eq (tgt := 32) hx hb dX13_tear_22 (by decide) (fun c_2 => ?_) (fun c_2 => ?_)
    · refine lv_iload_n hx hb dX13_tear_32 rfl (lv_at hl 2 rfl) ?_
      refine lv_if_eq (tgt := 48) hx hb dX13_tear_33 (by decide) (fun c_3 => ?_) (fun c_3 => ?_)
      · refine lv_aload_n hx hb dX13_tear_48 rfl (lv_at hl 0 rfl) ?_
        refine lv_iload_n hx hb dX13_tear_49 rfl (lv_at hl 1 rfl) ?_
        refine lv_bipush (v := 16) hx hb dX13_tear_50 (by decide) ?_
        refine lv_iload_n hx hb dX13_tear_52 rfl (lv_at hl 2 rfl) ?_
        refine m_wv S hK hP hS (As := [.int ticket, .int 16, .int how]) (rest := []) (cM_put l D cI cJ ad Z _ hi ticket 16 how (tok_of hC c_1) 16 rfl (by decide)) (cwV 3 hts gX13_tear_X13_put rfl rfl rfl (by decide +kernel) ⟨Nat.le_of_ble_eq_true rfl, Nat.le_of_ble_eq_true rfl⟩) rfl hl.1 rfl (Nat.le_of_ble_eq_true rfl) dX13_tear_53 ⟨Nat.zero_le _, Nat.zero_le _⟩ (fun H locs hP hS => ?_)
        refine lv_aload_n hx hb dX13_tear_56 rfl (lv_at hl 0 rfl) ?_
        refine lv_iconst (v := 0) hx hb dX13_tear_57 (by decide) ?_
        refine m_wr S hK hP hS (As := [.int 0]) (rest := []) (cM_says l D cI cJ ad (tkp Z (tN ticket) 16 how) _ hi 0) (cwV 1 hts gX13_tear_X13_says rfl rfl rfl (by decide +kernel) ⟨Nat.le_of_ble_eq_true rfl, Nat.le_of_ble_eq_true rfl⟩) rfl hl.1 rfl (Nat.le_of_ble_eq_true rfl) dX13_tear_58 ⟨Nat.zero_le _, Nat.zero_le _⟩ (fun H locs hP hS => ?_)
        have hsp : sp_tear Z ticket how = (0, zR (tkp Z (tN ticket) 16 how) 0) := by unfold sp_tear; rw [if_neg c_1, if_pos c_2, if_pos c_3]
        exact W.iret hx hb hr (fun t2 ht2 hW => by rw [hsp]; exact ⟨rfl, by rw [ht2]; exact hP, hS.F ht2⟩) hS.2.2 dX13_tear_61 hlocks
      · refine lv_iload_n hx hb dX13_tear_36 rfl (lv_at hl 2 rfl) ?_
        refine lv_iconst (v := 1) hx hb dX13_tear_37 (by decide) ?_
        refine lv_icmp_eq (tgt := 48) hx hb dX13_tear_38 (by decide) (fun c_4 => ?_) (fun c_4 => ?_)
        · refine lv_aload_n hx hb dX13_tear_48 rfl (lv_at hl 0 rfl) ?_
          refine lv_iload_n hx hb dX13_tear_49 rfl (lv_at hl 1 rfl) ?_
          refine lv_bipush (v := 16) hx hb dX13_tear_50 (by decide) ?_
          refine lv_iload_n hx hb dX13_tear_52 rfl (lv_at hl 2 rfl) ?_
          refine m_wv S hK hP hS (As := [.int ticket, .int 16, .int how]) (rest := []) (cM_put l D cI cJ ad Z _ hi ticket 16 how (tok_of hC c_1) 16 rfl (by decide)) (cwV 3 hts gX13_tear_X13_put rfl rfl rfl (by decide +kernel) ⟨Nat.le_of_ble_eq_true rfl, Nat.le_of_ble_eq_true rfl⟩) rfl hl.1 rfl (Nat.le_of_ble_eq_true rfl) dX13_tear_53 ⟨Nat.zero_le _, Nat.zero_le _⟩ (fun H locs hP hS => ?_)
          refine lv_aload_n hx hb dX13_tear_56 rfl (lv_at hl 0 rfl) ?_
          refine lv_iconst (v := 0) hx hb dX13_tear_57 (by decide) ?_
          refine m_wr S hK hP hS (As := [.int 0]) (rest := []) (cM_says l D cI cJ ad (tkp Z (tN ticket) 16 how) _ hi 0) (cwV 1 hts gX13_tear_X13_says rfl rfl rfl (by decide +kernel) ⟨Nat.le_of_ble_eq_true rfl, Nat.le_of_ble_eq_true rfl⟩) rfl hl.1 rfl (Nat.le_of_ble_eq_true rfl) dX13_tear_58 ⟨Nat.zero_le _, Nat.zero_le _⟩ (fun H locs hP hS => ?_)
          have hsp : sp_tear Z ticket how = (0, zR (tkp Z (tN ticket) 16 how) 0) := by unfold sp_tear; rw [if_neg c_1, if_pos c_2, if_neg c_3, if_pos c_4]
          exact W.iret hx hb hr (fun t2 ht2 hW => by rw [hsp]; exact ⟨rfl, by rw [ht2]; exact hP, hS.F ht2⟩) hS.2.2 dX13_tear_61 hlocks
        · refine lv_aload_n hx hb dX13_tear_41 rfl (lv_at hl 0 rfl) ?_
          refine lv_bipush (v := (-6)) hx hb dX13_tear_42 (by decide) ?_
          refine m_wr S hK hP hS (As := [.int (-6)]) (rest := []) (cM_says l D cI cJ ad Z _ hi (-6)) (cwV 1 hts gX13_tear_X13_says rfl rfl rfl (by decide +kernel) ⟨Nat.le_of_ble_eq_true rfl, Nat.le_of_ble_eq_true rfl⟩) rfl hl.1 rfl (Nat.le_of_ble_eq_true rfl) dX13_tear_44 ⟨Nat.zero_le _, Nat.zero_le _⟩ (fun H locs hP hS => ?_)
          have hsp : sp_tear Z ticket how = ((-6), zR Z (-6)) := by unfold sp_tear; rw [if_neg c_1, if_pos c_2, if_neg c_3, if_neg c_4]
          exact W.iret hx hb hr (fun t2 ht2 hW => by rw [hsp]; exact ⟨rfl, by rw [ht2]; exact hP, hS.F ht2⟩) hS.2.2 dX13_tear_47 hlocks
    · refine lv_aload_n hx hb dX13_tear_25 rfl (lv_at hl 0 rfl) ?_
      refine lv_bipush (v := (-2)) hx hb dX13_tear_26 (by decide) ?_
      refine m_wr S hK hP hS (As := [.int (-2)]) (rest := []) (cM_says l D cI cJ ad Z _ hi (-2)) (cwV 1 hts gX13_tear_X13_says rfl rfl rfl (by decide +kernel) ⟨Nat.le_of_ble_eq_true rfl, Nat.le_of_ble_eq_true rfl⟩) rfl hl.1 rfl (Nat.le_of_ble_eq_true rfl) dX13_tear_28 ⟨Nat.zero_le _, Nat.zero_le _⟩ (fun H locs hP hS => ?_)
      have hsp : sp_tear Z ticket how = ((-2), zR Z (-2)) := by unfold sp_tear; rw [if_neg c_1, if_neg c_2]
      exact W.iret hx hb hr (fun t2 ht2 hW => by rw [hsp]; exact ⟨rfl, by rw [ht2]; exact hP, hS.F ht2⟩) hS.2.2 dX13_tear_31 hlocks
  · refine lv_aload_n hx hb dX13_tear_8 rfl (lv_at hl 0 rfl) ?_
    refine lv_iconst (v := (-1)) hx hb dX13_tear_9 (by decide) ?_
    refine m_wr S hK hP hS (As := [.int (-1)]) (rest := []) (cM_says l D cI cJ ad Z _ hi (-1)) (cwV 1 hts gX13_tear_X13_says rfl rfl rfl (by decide +kernel) ⟨Nat.le_of_ble_eq_true rfl, Nat.le_of_ble_eq_true rfl⟩) rfl hl.1 rfl (Nat.le_of_ble_eq_true rfl) dX13_tear_10 ⟨Nat.zero_le _, Nat.zero_le _⟩ (fun H locs hP hS => ?_)
    have hsp : sp_tear Z ticket how = ((-1), zR Z (-1)) := by unfold sp_tear; rw [if_pos c_1]
    exact W.iret hx hb hr (fun t2 ht2 hW => by rw [hsp]; exact ⟨rfl, by rw [ht2]; exact hP, hS.F ht2⟩) hS.2.2 dX13_tear_13 hlocks
def sp_oath (Z : mZ) (ticket : Int32) : Int32 × mZ :=
  if (sp_isTicket Z ticket) = 0 then
    ((-1), zR Z (-1))
  else
    if (sp_isOpen Z ticket) = 0 then
      ((-2), zR Z (-2))
    else
      (0, zR (tkp Z (tN ticket) 18 (zh Z 0)) 0)
set_option maxHeartbeats 4000000 in
set_option maxRecDepth 100000 in
theorem cM_oath (l : Launch) (D : va_G) (cI cJ : ClassId) (ad : Nat → Nat) (Z : mZ) (sz : Nat) (hi : mI ad) (ticket : Int32) (hC : cok Z) : Met l yX13_oath wsX13_oath ({ frames := 2, cells := 0, slots := 0, locals := 43 }) (mPc [.ref (ad 0), .int ticket] D cI cJ ad Z sz) (mQ D cI cJ ad (some (.int (sp_oath Z ticket).1)) (sp_oath Z ticket).2 sz) 0 0 (mA ad sz) := by
  refine m_in (cc := cX13_oath) (maxL := 2) (ret := (some .int)) (lv := [(0, .ref (ad 0)), (1, .int ticket)]) (by decide) rfl (Nat.le_of_ble_eq_true rfl) rfl ?_
  intro p e s m below meth c ls S hr hlocks hin hsz hP hK hl hS
  subst hsz
  obtain ⟨hx, hb, hml, hown, hts⟩ := id S
  refine lv_aload_n hx hb dX13_oath_0 rfl (lv_at hl 0 rfl) ?_
  refine lv_iload_n hx hb dX13_oath_1 rfl (lv_at hl 1 rfl) ?_
  refine m_rd S hK hP (As := [.int ticket]) (rest := []) (cM_isTicket l D cI cJ ad Z _ ticket ) (cwV 1 hts gX13_oath_X13_isTicket rfl rfl rfl (by decide +kernel) ⟨Nat.le_of_ble_eq_true rfl, Nat.le_of_ble_eq_true rfl⟩) rfl hl.1 rfl (Nat.le_of_ble_eq_true rfl) dX13_oath_2 ⟨Nat.zero_le _, Nat.zero_le _⟩ ?_
  refine lv_if_ne (tgt := 14) hx hb dX13_oath_5 (by decide) (fun c_1 => ?_) (fun c_1 => ?_)
  · refine lv_aload_n hx hb dX13_oath_14 rfl (lv_at hl 0 rfl) ?_
    refine lv_iload_n hx hb dX13_oath_15 rfl (lv_at hl 1 rfl) ?_
    refine m_rd S hK hP (As := [.int ticket]) (rest := []) (cM_isOpen l D cI cJ ad Z _ ticket (tok_of hC c_1)) (cwV 1 hts gX13_oath_X13_isOpen rfl rfl rfl (by decide +kernel) ⟨Nat.le_of_ble_eq_true rfl, Nat.le_of_ble_eq_true rfl⟩) rfl hl.1 rfl (Nat.le_of_ble_eq_true rfl) dX13_oath_16 ⟨Nat.zero_le _, Nat.zero_le _⟩ ?_
    refine lv_if_ne (tgt := 29) hx hb dX13_oath_19 (by decide) (fun c_2 => ?_) (fun c_2 => ?_)
    · refine lv_aload_n hx hb dX13_oath_29 rfl (lv_at hl 0 rfl) ?_
      refine lv_iload_n hx hb dX13_oath_30 rfl (lv_at hl 1 rfl) ?_
      refine lv_bipush (v := 18) hx hb dX13_oath_31 (by decide) ?_
      refine lv_aload_n hx hb dX13_oath_33 rfl (lv_at hl 0 rfl) ?_
      refine m_rd S hK hP (As := []) (rest := [.int 18, .int ticket, .ref (ad 0)]) (cM_today l D cI cJ ad Z _) (cwV 0 hts gX13_oath_X13_today rfl rfl rfl (by decide +kernel) ⟨Nat.le_of_ble_eq_true rfl, Nat.le_of_ble_eq_true rfl⟩) rfl hl.1 rfl (Nat.le_of_ble_eq_true rfl) dX13_oath_34 ⟨Nat.zero_le _, Nat.zero_le _⟩ ?_
      refine m_wv S hK hP hS (As := [.int ticket, .int 18, .int (zh Z 0)]) (rest := []) (cM_put l D cI cJ ad Z _ hi ticket 18 (zh Z 0) (tok_of hC c_1) 18 rfl (by decide)) (cwV 3 hts gX13_oath_X13_put rfl rfl rfl (by decide +kernel) ⟨Nat.le_of_ble_eq_true rfl, Nat.le_of_ble_eq_true rfl⟩) rfl hl.1 rfl (Nat.le_of_ble_eq_true rfl) dX13_oath_37 ⟨Nat.zero_le _, Nat.zero_le _⟩ (fun H locs hP hS => ?_)
      refine lv_aload_n hx hb dX13_oath_40 rfl (lv_at hl 0 rfl) ?_
      refine lv_iconst (v := 0) hx hb dX13_oath_41 (by decide) ?_
      refine m_wr S hK hP hS (As := [.int 0]) (rest := []) (cM_says l D cI cJ ad (tkp Z (tN ticket) 18 (zh Z 0)) _ hi 0) (cwV 1 hts gX13_oath_X13_says rfl rfl rfl (by decide +kernel) ⟨Nat.le_of_ble_eq_true rfl, Nat.le_of_ble_eq_true rfl⟩) rfl hl.1 rfl (Nat.le_of_ble_eq_true rfl) dX13_oath_42 ⟨Nat.zero_le _, Nat.zero_le _⟩ (fun H locs hP hS => ?_)
      have hsp : sp_oath Z ticket = (0, zR (tkp Z (tN ticket) 18 (zh Z 0)) 0) := by unfold sp_oath; rw [if_neg c_1, if_neg c_2]
      exact W.iret hx hb hr (fun t2 ht2 hW => by rw [hsp]; exact ⟨rfl, by rw [ht2]; exact hP, hS.F ht2⟩) hS.2.2 dX13_oath_45 hlocks
    · refine lv_aload_n hx hb dX13_oath_22 rfl (lv_at hl 0 rfl) ?_
      refine lv_bipush (v := (-2)) hx hb dX13_oath_23 (by decide) ?_
      refine m_wr S hK hP hS (As := [.int (-2)]) (rest := []) (cM_says l D cI cJ ad Z _ hi (-2)) (cwV 1 hts gX13_oath_X13_says rfl rfl rfl (by decide +kernel) ⟨Nat.le_of_ble_eq_true rfl, Nat.le_of_ble_eq_true rfl⟩) rfl hl.1 rfl (Nat.le_of_ble_eq_true rfl) dX13_oath_25 ⟨Nat.zero_le _, Nat.zero_le _⟩ (fun H locs hP hS => ?_)
      have hsp : sp_oath Z ticket = ((-2), zR Z (-2)) := by unfold sp_oath; rw [if_neg c_1, if_pos c_2]
      exact W.iret hx hb hr (fun t2 ht2 hW => by rw [hsp]; exact ⟨rfl, by rw [ht2]; exact hP, hS.F ht2⟩) hS.2.2 dX13_oath_28 hlocks
  · refine lv_aload_n hx hb dX13_oath_8 rfl (lv_at hl 0 rfl) ?_
    refine lv_iconst (v := (-1)) hx hb dX13_oath_9 (by decide) ?_
    refine m_wr S hK hP hS (As := [.int (-1)]) (rest := []) (cM_says l D cI cJ ad Z _ hi (-1)) (cwV 1 hts gX13_oath_X13_says rfl rfl rfl (by decide +kernel) ⟨Nat.le_of_ble_eq_true rfl, Nat.le_of_ble_eq_true rfl⟩) rfl hl.1 rfl (Nat.le_of_ble_eq_true rfl) dX13_oath_10 ⟨Nat.zero_le _, Nat.zero_le _⟩ (fun H locs hP hS => ?_)
    have hsp : sp_oath Z ticket = ((-1), zR Z (-1)) := by unfold sp_oath; rw [if_pos c_1]
    exact W.iret hx hb hr (fun t2 ht2 hW => by rw [hsp]; exact ⟨rfl, by rw [ht2]; exact hP, hS.F ht2⟩) hS.2.2 dX13_oath_13 hlocks
def sp_forfeit (Z : mZ) (ticket : Int32) : Int32 × mZ :=
  if (sp_isTicket Z ticket) = 0 then
    ((-1), zR Z (-1))
  else
    if (sp_isFree Z ticket) = 0 then
      ((-2), zR Z (-2))
    else
      if (sp_isClaimed Z ticket) = 0 then
        if (sp_firstDay Z ticket) ≤ (zh Z 0) then
          (sp_owed (tkp Z (tN ticket) 7 1) ticket, zR (tkp Z (tN ticket) 7 1) (sp_owed (tkp Z (tN ticket) 7 1) ticket))
        else
          ((-5), zR Z (-5))
      else
        ((-3), zR Z (-3))
set_option maxHeartbeats 4000000 in
set_option maxRecDepth 100000 in
theorem cM_forfeit (l : Launch) (D : va_G) (cI cJ : ClassId) (ad : Nat → Nat) (Z : mZ) (sz : Nat) (hi : mI ad) (ticket : Int32) (hC : cok Z) : Met l yX13_forfeit wsX13_forfeit ({ frames := 4, cells := 0, slots := 0, locals := 85 }) (mPc [.ref (ad 0), .int ticket] D cI cJ ad Z sz) (mQ D cI cJ ad (some (.int (sp_forfeit Z ticket).1)) (sp_forfeit Z ticket).2 sz) 0 0 (mA ad sz) := by
  refine m_in (cc := cX13_forfeit) (maxL := 2) (ret := (some .int)) (lv := [(0, .ref (ad 0)), (1, .int ticket)]) (by decide) rfl (Nat.le_of_ble_eq_true rfl) rfl ?_
  intro p e s m below meth c ls S hr hlocks hin hsz hP hK hl hS
  subst hsz
  obtain ⟨hx, hb, hml, hown, hts⟩ := id S
  refine lv_aload_n hx hb dX13_forfeit_0 rfl (lv_at hl 0 rfl) ?_
  refine lv_iload_n hx hb dX13_forfeit_1 rfl (lv_at hl 1 rfl) ?_
  refine m_rd S hK hP (As := [.int ticket]) (rest := []) (cM_isTicket l D cI cJ ad Z _ ticket ) (cwV 1 hts gX13_forfeit_X13_isTicket rfl rfl rfl (by decide +kernel) ⟨Nat.le_of_ble_eq_true rfl, Nat.le_of_ble_eq_true rfl⟩) rfl hl.1 rfl (Nat.le_of_ble_eq_true rfl) dX13_forfeit_2 ⟨Nat.zero_le _, Nat.zero_le _⟩ ?_
  refine lv_if_ne (tgt := 14) hx hb dX13_forfeit_5 (by decide) (fun c_1 => ?_) (fun c_1 => ?_)
  · refine lv_aload_n hx hb dX13_forfeit_14 rfl (lv_at hl 0 rfl) ?_
    refine lv_iload_n hx hb dX13_forfeit_15 rfl (lv_at hl 1 rfl) ?_
    refine m_rd S hK hP (As := [.int ticket]) (rest := []) (cM_isFree l D cI cJ ad Z _ ticket (tok_of hC c_1)) (cwV 1 hts gX13_forfeit_X13_isFree rfl rfl rfl (by decide +kernel) ⟨Nat.le_of_ble_eq_true rfl, Nat.le_of_ble_eq_true rfl⟩) rfl hl.1 rfl (Nat.le_of_ble_eq_true rfl) dX13_forfeit_16 ⟨Nat.zero_le _, Nat.zero_le _⟩ ?_
    refine lv_if_ne (tgt := 29) hx hb dX13_forfeit_19 (by decide) (fun c_2 => ?_) (fun c_2 => ?_)
    · refine lv_aload_n hx hb dX13_forfeit_29 rfl (lv_at hl 0 rfl) ?_
      refine lv_iload_n hx hb dX13_forfeit_30 rfl (lv_at hl 1 rfl) ?_
      refine m_rd S hK hP (As := [.int ticket]) (rest := []) (cM_isClaimed l D cI cJ ad Z _ ticket (tok_of hC c_1)) (cwV 1 hts gX13_forfeit_X13_isClaimed rfl rfl rfl (by decide +kernel) ⟨Nat.le_of_ble_eq_true rfl, Nat.le_of_ble_eq_true rfl⟩) rfl hl.1 rfl (Nat.le_of_ble_eq_true rfl) dX13_forfeit_31 ⟨Nat.zero_le _, Nat.zero_le _⟩ ?_
      refine lv_if_eq (tgt := 44) hx hb dX13_forfeit_34 (by decide) (fun c_3 => ?_) (fun c_3 => ?_)
      · refine lv_aload_n hx hb dX13_forfeit_44 rfl (lv_at hl 0 rfl) ?_
        refine m_rd S hK hP (As := []) (rest := []) (cM_today l D cI cJ ad Z _) (cwV 0 hts gX13_forfeit_X13_today rfl rfl rfl (by decide +kernel) ⟨Nat.le_of_ble_eq_true rfl, Nat.le_of_ble_eq_true rfl⟩) rfl hl.1 rfl (Nat.le_of_ble_eq_true rfl) dX13_forfeit_45 ⟨Nat.zero_le _, Nat.zero_le _⟩ ?_
        refine lv_aload_n hx hb dX13_forfeit_48 rfl (lv_at hl 0 rfl) ?_
        refine lv_iload_n hx hb dX13_forfeit_49 rfl (lv_at hl 1 rfl) ?_
        refine m_rd S hK hP (As := [.int ticket]) (rest := [.int (zh Z 0)]) (cM_firstDay l D cI cJ ad Z _ ticket (tok_of hC c_1)) (cwV 1 hts gX13_forfeit_X13_firstDay rfl rfl rfl (by decide +kernel) ⟨Nat.le_of_ble_eq_true rfl, Nat.le_of_ble_eq_true rfl⟩) rfl hl.1 rfl (Nat.le_of_ble_eq_true rfl) dX13_forfeit_50 ⟨Nat.zero_le _, Nat.zero_le _⟩ ?_
        refine lv_icmp_ge (tgt := 63) hx hb dX13_forfeit_53 (by decide) (fun c_4 => ?_) (fun c_4 => ?_)
        · refine lv_aload_n hx hb dX13_forfeit_63 rfl (lv_at hl 0 rfl) ?_
          refine lv_iload_n hx hb dX13_forfeit_64 rfl (lv_at hl 1 rfl) ?_
          refine lv_bipush (v := 7) hx hb dX13_forfeit_65 (by decide) ?_
          refine lv_iconst (v := 1) hx hb dX13_forfeit_67 (by decide) ?_
          refine m_wv S hK hP hS (As := [.int ticket, .int 7, .int 1]) (rest := []) (cM_put l D cI cJ ad Z _ hi ticket 7 1 (tok_of hC c_1) 7 rfl (by decide)) (cwV 3 hts gX13_forfeit_X13_put rfl rfl rfl (by decide +kernel) ⟨Nat.le_of_ble_eq_true rfl, Nat.le_of_ble_eq_true rfl⟩) rfl hl.1 rfl (Nat.le_of_ble_eq_true rfl) dX13_forfeit_68 ⟨Nat.zero_le _, Nat.zero_le _⟩ (fun H locs hP hS => ?_)
          refine lv_aload_n hx hb dX13_forfeit_71 rfl (lv_at hl 0 rfl) ?_
          refine lv_aload_n hx hb dX13_forfeit_72 rfl (lv_at hl 0 rfl) ?_
          refine lv_iload_n hx hb dX13_forfeit_73 rfl (lv_at hl 1 rfl) ?_
          refine m_rd S hK hP (As := [.int ticket]) (rest := [.ref (ad 0)]) (cM_owed l D cI cJ ad (tkp Z (tN ticket) 7 1) _ ticket (tok_of hC c_1)) (cwV 1 hts gX13_forfeit_X13_owed rfl rfl rfl (by decide +kernel) ⟨Nat.le_of_ble_eq_true rfl, Nat.le_of_ble_eq_true rfl⟩) rfl hl.1 rfl (Nat.le_of_ble_eq_true rfl) dX13_forfeit_74 ⟨Nat.zero_le _, Nat.zero_le _⟩ ?_
          refine m_wr S hK hP hS (As := [.int (sp_owed (tkp Z (tN ticket) 7 1) ticket)]) (rest := []) (cM_says l D cI cJ ad (tkp Z (tN ticket) 7 1) _ hi (sp_owed (tkp Z (tN ticket) 7 1) ticket)) (cwV 1 hts gX13_forfeit_X13_says rfl rfl rfl (by decide +kernel) ⟨Nat.le_of_ble_eq_true rfl, Nat.le_of_ble_eq_true rfl⟩) rfl hl.1 rfl (Nat.le_of_ble_eq_true rfl) dX13_forfeit_77 ⟨Nat.zero_le _, Nat.zero_le _⟩ (fun H locs hP hS => ?_)
          have hsp : sp_forfeit Z ticket = (sp_owed (tkp Z (tN ticket) 7 1) ticket, zR (tkp Z (tN ticket) 7 1) (sp_owed (tkp Z (tN ticket) 7 1) ticket)) := by unfold sp_forfeit; rw [if_neg c_1, if_neg c_2, if_pos c_3, if_pos c_4]
          exact W.iret hx hb hr (fun t2 ht2 hW => by rw [hsp]; exact ⟨rfl, by rw [ht2]; exact hP, hS.F ht2⟩) hS.2.2 dX13_forfeit_80 hlocks
        · refine lv_aload_n hx hb dX13_forfeit_56 rfl (lv_at hl 0 rfl) ?_
          refine lv_bipush (v := (-5)) hx hb dX13_forfeit_57 (by decide) ?_
          refine m_wr S hK hP hS (As := [.int (-5)]) (rest := []) (cM_says l D cI cJ ad Z _ hi (-5)) (cwV 1 hts gX13_forfeit_X13_says rfl rfl rfl (by decide +kernel) ⟨Nat.le_of_ble_eq_true rfl, Nat.le_of_ble_eq_true rfl⟩) rfl hl.1 rfl (Nat.le_of_ble_eq_true rfl) dX13_forfeit_59 ⟨Nat.zero_le _, Nat.zero_le _⟩ (fun H locs hP hS => ?_)
          have hsp : sp_forfeit Z ticket = ((-5), zR Z (-5)) := by unfold sp_forfeit; rw [if_neg c_1, if_neg c_2, if_pos c_3, if_neg c_4]
          exact W.iret hx hb hr (fun t2 ht2 hW => by rw [hsp]; exact ⟨rfl, by rw [ht2]; exact hP, hS.F ht2⟩) hS.2.2 dX13_forfeit_62 hlocks
      · refine lv_aload_n hx hb dX13_forfeit_37 rfl (lv_at hl 0 rfl) ?_
        refine lv_bipush (v := (-3)) hx hb dX13_forfeit_38 (by decide) ?_
        refine m_wr S hK hP hS (As := [.int (-3)]) (rest := []) (cM_says l D cI cJ ad Z _ hi (-3)) (cwV 1 hts gX13_forfeit_X13_says rfl rfl rfl (by decide +kernel) ⟨Nat.le_of_ble_eq_true rfl, Nat.le_of_ble_eq_true rfl⟩) rfl hl.1 rfl (Nat.le_of_ble_eq_true rfl) dX13_forfeit_40 ⟨Nat.zero_le _, Nat.zero_le _⟩ (fun H locs hP hS => ?_)
        have hsp : sp_forfeit Z ticket = ((-3), zR Z (-3)) := by unfold sp_forfeit; rw [if_neg c_1, if_neg c_2, if_neg c_3]
        exact W.iret hx hb hr (fun t2 ht2 hW => by rw [hsp]; exact ⟨rfl, by rw [ht2]; exact hP, hS.F ht2⟩) hS.2.2 dX13_forfeit_43 hlocks
    · refine lv_aload_n hx hb dX13_forfeit_22 rfl (lv_at hl 0 rfl) ?_
      refine lv_bipush (v := (-2)) hx hb dX13_forfeit_23 (by decide) ?_
      refine m_wr S hK hP hS (As := [.int (-2)]) (rest := []) (cM_says l D cI cJ ad Z _ hi (-2)) (cwV 1 hts gX13_forfeit_X13_says rfl rfl rfl (by decide +kernel) ⟨Nat.le_of_ble_eq_true rfl, Nat.le_of_ble_eq_true rfl⟩) rfl hl.1 rfl (Nat.le_of_ble_eq_true rfl) dX13_forfeit_25 ⟨Nat.zero_le _, Nat.zero_le _⟩ (fun H locs hP hS => ?_)
      have hsp : sp_forfeit Z ticket = ((-2), zR Z (-2)) := by unfold sp_forfeit; rw [if_neg c_1, if_pos c_2]
      exact W.iret hx hb hr (fun t2 ht2 hW => by rw [hsp]; exact ⟨rfl, by rw [ht2]; exact hP, hS.F ht2⟩) hS.2.2 dX13_forfeit_28 hlocks
  · refine lv_aload_n hx hb dX13_forfeit_8 rfl (lv_at hl 0 rfl) ?_
    refine lv_iconst (v := (-1)) hx hb dX13_forfeit_9 (by decide) ?_
    refine m_wr S hK hP hS (As := [.int (-1)]) (rest := []) (cM_says l D cI cJ ad Z _ hi (-1)) (cwV 1 hts gX13_forfeit_X13_says rfl rfl rfl (by decide +kernel) ⟨Nat.le_of_ble_eq_true rfl, Nat.le_of_ble_eq_true rfl⟩) rfl hl.1 rfl (Nat.le_of_ble_eq_true rfl) dX13_forfeit_10 ⟨Nat.zero_le _, Nat.zero_le _⟩ (fun H locs hP hS => ?_)
    have hsp : sp_forfeit Z ticket = ((-1), zR Z (-1)) := by unfold sp_forfeit; rw [if_pos c_1]
    exact W.iret hx hb hr (fun t2 ht2 hW => by rw [hsp]; exact ⟨rfl, by rw [ht2]; exact hP, hS.F ht2⟩) hS.2.2 dX13_forfeit_13 hlocks
def sp_bid (Z : mZ) (ticket : Int32) (coins : Int32) : Int32 × mZ :=
  if (sp_isTicket Z ticket) = 0 then
    ((-1), zR Z (-1))
  else
    if (sp_isForfeit Z ticket) = 0 then
      ((-2), zR Z (-2))
    else
      if coins < 1 then
        ((-6), zR Z (-6))
      else
        if coins ≤ 10000000 then
          ((tk Z (tN ticket) 11) + 1, zR (tkp (tkp Z (tN ticket) 11 ((tk Z (tN ticket) 11) + 1)) (tN ticket) 10 (if (tk Z (tN ticket) 10) < coins then coins else (tk Z (tN ticket) 10))) ((tk Z (tN ticket) 11) + 1))
        else
          ((-6), zR Z (-6))
set_option maxHeartbeats 4000000 in
set_option maxRecDepth 100000 in
theorem cM_bid (l : Launch) (D : va_G) (cI cJ : ClassId) (ad : Nat → Nat) (Z : mZ) (sz : Nat) (hi : mI ad) (ticket : Int32) (coins : Int32) (hC : cok Z) : Met l yX13_bid wsX13_bid ({ frames := 3, cells := 0, slots := 0, locals := 64 }) (mPc [.ref (ad 0), .int ticket, .int coins] D cI cJ ad Z sz) (mQ D cI cJ ad (some (.int (sp_bid Z ticket coins).1)) (sp_bid Z ticket coins).2 sz) 0 0 (mA ad sz) := by
  refine m_in (cc := cX13_bid) (maxL := 3) (ret := (some .int)) (lv := [(0, .ref (ad 0)), (1, .int ticket), (2, .int coins)]) (by decide) rfl (Nat.le_of_ble_eq_true rfl) rfl ?_
  intro p e s m below meth c ls S hr hlocks hin hsz hP hK hl hS
  subst hsz
  obtain ⟨hx, hb, hml, hown, hts⟩ := id S
  refine lv_aload_n hx hb dX13_bid_0 rfl (lv_at hl 0 rfl) ?_
  refine lv_iload_n hx hb dX13_bid_1 rfl (lv_at hl 1 rfl) ?_
  refine m_rd S hK hP (As := [.int ticket]) (rest := []) (cM_isTicket l D cI cJ ad Z _ ticket ) (cwV 1 hts gX13_bid_X13_isTicket rfl rfl rfl (by decide +kernel) ⟨Nat.le_of_ble_eq_true rfl, Nat.le_of_ble_eq_true rfl⟩) rfl hl.1 rfl (Nat.le_of_ble_eq_true rfl) dX13_bid_2 ⟨Nat.zero_le _, Nat.zero_le _⟩ ?_
  refine lv_if_ne (tgt := 14) hx hb dX13_bid_5 (by decide) (fun c_1 => ?_) (fun c_1 => ?_)
  · refine lv_aload_n hx hb dX13_bid_14 rfl (lv_at hl 0 rfl) ?_
    refine lv_iload_n hx hb dX13_bid_15 rfl (lv_at hl 1 rfl) ?_
    refine m_rd S hK hP (As := [.int ticket]) (rest := []) (cM_isForfeit l D cI cJ ad Z _ ticket (tok_of hC c_1)) (cwV 1 hts gX13_bid_X13_isForfeit rfl rfl rfl (by decide +kernel) ⟨Nat.le_of_ble_eq_true rfl, Nat.le_of_ble_eq_true rfl⟩) rfl hl.1 rfl (Nat.le_of_ble_eq_true rfl) dX13_bid_16 ⟨Nat.zero_le _, Nat.zero_le _⟩ ?_
    refine lv_if_ne (tgt := 29) hx hb dX13_bid_19 (by decide) (fun c_2 => ?_) (fun c_2 => ?_)
    · refine lv_iload_n hx hb dX13_bid_29 rfl (lv_at hl 2 rfl) ?_
      refine lv_iconst (v := 1) hx hb dX13_bid_30 (by decide) ?_
      refine lv_icmp_lt (tgt := 40) hx hb dX13_bid_31 (by decide) (fun c_3 => ?_) (fun c_3 => ?_)
      · refine lv_aload_n hx hb dX13_bid_40 rfl (lv_at hl 0 rfl) ?_
        refine lv_bipush (v := (-6)) hx hb dX13_bid_41 (by decide) ?_
        refine m_wr S hK hP hS (As := [.int (-6)]) (rest := []) (cM_says l D cI cJ ad Z _ hi (-6)) (cwV 1 hts gX13_bid_X13_says rfl rfl rfl (by decide +kernel) ⟨Nat.le_of_ble_eq_true rfl, Nat.le_of_ble_eq_true rfl⟩) rfl hl.1 rfl (Nat.le_of_ble_eq_true rfl) dX13_bid_43 ⟨Nat.zero_le _, Nat.zero_le _⟩ (fun H locs hP hS => ?_)
        have hsp : sp_bid Z ticket coins = ((-6), zR Z (-6)) := by unfold sp_bid; rw [if_neg c_1, if_neg c_2, if_pos c_3]
        exact W.iret hx hb hr (fun t2 ht2 hW => by rw [hsp]; exact ⟨rfl, by rw [ht2]; exact hP, hS.F ht2⟩) hS.2.2 dX13_bid_46 hlocks
      · refine lv_iload_n hx hb dX13_bid_34 rfl (lv_at hl 2 rfl) ?_
        refine lv_ldc (v := 10000000) hx hb hown (hts (.constant RX13 183 (10000000)) (by decide +kernel)) dX13_bid_35 ?_
        refine lv_icmp_le (tgt := 47) hx hb dX13_bid_37 (by decide) (fun c_4 => ?_) (fun c_4 => ?_)
        · refine lv_aload_n hx hb dX13_bid_47 rfl (lv_at hl 0 rfl) ?_
          refine lv_iload_n hx hb dX13_bid_48 rfl (lv_at hl 1 rfl) ?_
          refine lv_bipush (v := 11) hx hb dX13_bid_49 (by decide) ?_
          refine lv_aload_n hx hb dX13_bid_51 rfl (lv_at hl 0 rfl) ?_
          refine lv_iload_n hx hb dX13_bid_52 rfl (lv_at hl 1 rfl) ?_
          refine lv_bipush (v := 11) hx hb dX13_bid_53 (by decide) ?_
          refine m_rd S hK hP (As := [.int ticket, .int 11]) (rest := [.int 11, .int ticket, .ref (ad 0)]) (cM_of l D cI cJ ad Z _ ticket 11 (tok_of hC c_1) 11 rfl (by decide)) (cwV 2 hts gX13_bid_X13_of rfl rfl rfl (by decide +kernel) ⟨Nat.le_of_ble_eq_true rfl, Nat.le_of_ble_eq_true rfl⟩) rfl hl.1 rfl (Nat.le_of_ble_eq_true rfl) dX13_bid_55 ⟨Nat.zero_le _, Nat.zero_le _⟩ ?_
          refine lv_iconst (v := 1) hx hb dX13_bid_58 (by decide) ?_
          refine lv_iadd hx hb dX13_bid_59 ?_
          refine m_wv S hK hP hS (As := [.int ticket, .int 11, .int ((tk Z (tN ticket) 11) + 1)]) (rest := []) (cM_put l D cI cJ ad Z _ hi ticket 11 ((tk Z (tN ticket) 11) + 1) (tok_of hC c_1) 11 rfl (by decide)) (cwV 3 hts gX13_bid_X13_put rfl rfl rfl (by decide +kernel) ⟨Nat.le_of_ble_eq_true rfl, Nat.le_of_ble_eq_true rfl⟩) rfl hl.1 rfl (Nat.le_of_ble_eq_true rfl) dX13_bid_60 ⟨Nat.zero_le _, Nat.zero_le _⟩ (fun H locs hP hS => ?_)
          refine lv_aload_n hx hb dX13_bid_63 rfl (lv_at hl 0 rfl) ?_
          refine lv_iload_n hx hb dX13_bid_64 rfl (lv_at hl 1 rfl) ?_
          refine lv_bipush (v := 10) hx hb dX13_bid_65 (by decide) ?_
          refine lv_aload_n hx hb dX13_bid_67 rfl (lv_at hl 0 rfl) ?_
          refine lv_iload_n hx hb dX13_bid_68 rfl (lv_at hl 1 rfl) ?_
          refine lv_bipush (v := 10) hx hb dX13_bid_69 (by decide) ?_
          refine m_rd S hK hP (As := [.int ticket, .int 10]) (rest := [.int 10, .int ticket, .ref (ad 0)]) (met_r (show tk (tkp Z (tN ticket) 11 ((tk Z (tN ticket) 11) + 1)) (tN ticket) 10 = tk Z (tN ticket) 10 from (tk_ne (by decide))) (cM_of l D cI cJ ad (tkp Z (tN ticket) 11 ((tk Z (tN ticket) 11) + 1)) _ ticket 10 (tok_of hC c_1) 10 rfl (by decide))) (cwV 2 hts gX13_bid_X13_of rfl rfl rfl (by decide +kernel) ⟨Nat.le_of_ble_eq_true rfl, Nat.le_of_ble_eq_true rfl⟩) rfl hl.1 rfl (Nat.le_of_ble_eq_true rfl) dX13_bid_71 ⟨Nat.zero_le _, Nat.zero_le _⟩ ?_
          refine lv_iload_n hx hb dX13_bid_74 rfl (lv_at hl 2 rfl) ?_
          refine va_mmax hx hb (hml.trans hl.1.symm) hown (hts (.methodLink RX13 171 Lib.Math.max.name) (by decide +kernel)) (hts (.static Lib.Math.max.name) (by decide +kernel)) (hts (.initialized "java/lang/Math") (by decide +kernel)) (hts (.code Lib.Math.max.name Lib.Math.max.code 2 (some .int)) (by decide +kernel)) (Nat.le_of_ble_eq_true rfl) (Nat.le_of_ble_eq_true rfl) (Nat.zero_le _) (Nat.zero_le _) dX13_bid_75 ?_
          refine m_wv S hK hP hS (As := [.int ticket, .int 10, .int (if (tk Z (tN ticket) 10) < coins then coins else (tk Z (tN ticket) 10))]) (rest := []) (cM_put l D cI cJ ad (tkp Z (tN ticket) 11 ((tk Z (tN ticket) 11) + 1)) _ hi ticket 10 (if (tk Z (tN ticket) 10) < coins then coins else (tk Z (tN ticket) 10)) (tok_of hC c_1) 10 rfl (by decide)) (cwV 3 hts gX13_bid_X13_put rfl rfl rfl (by decide +kernel) ⟨Nat.le_of_ble_eq_true rfl, Nat.le_of_ble_eq_true rfl⟩) rfl hl.1 rfl (Nat.le_of_ble_eq_true rfl) dX13_bid_78 ⟨Nat.zero_le _, Nat.zero_le _⟩ (fun H locs hP hS => ?_)
          refine lv_aload_n hx hb dX13_bid_81 rfl (lv_at hl 0 rfl) ?_
          refine lv_aload_n hx hb dX13_bid_82 rfl (lv_at hl 0 rfl) ?_
          refine lv_iload_n hx hb dX13_bid_83 rfl (lv_at hl 1 rfl) ?_
          refine lv_bipush (v := 11) hx hb dX13_bid_84 (by decide) ?_
          refine m_rd S hK hP (As := [.int ticket, .int 11]) (rest := [.ref (ad 0)]) (met_r (show tk (tkp (tkp Z (tN ticket) 11 ((tk Z (tN ticket) 11) + 1)) (tN ticket) 10 (if (tk Z (tN ticket) 10) < coins then coins else (tk Z (tN ticket) 10))) (tN ticket) 11 = (tk Z (tN ticket) 11) + 1 from ((tk_ne (by decide)).trans tk_eq)) (cM_of l D cI cJ ad (tkp (tkp Z (tN ticket) 11 ((tk Z (tN ticket) 11) + 1)) (tN ticket) 10 (if (tk Z (tN ticket) 10) < coins then coins else (tk Z (tN ticket) 10))) _ ticket 11 (tok_of hC c_1) 11 rfl (by decide))) (cwV 2 hts gX13_bid_X13_of rfl rfl rfl (by decide +kernel) ⟨Nat.le_of_ble_eq_true rfl, Nat.le_of_ble_eq_true rfl⟩) rfl hl.1 rfl (Nat.le_of_ble_eq_true rfl) dX13_bid_86 ⟨Nat.zero_le _, Nat.zero_le _⟩ ?_
          refine m_wr S hK hP hS (As := [.int ((tk Z (tN ticket) 11) + 1)]) (rest := []) (cM_says l D cI cJ ad (tkp (tkp Z (tN ticket) 11 ((tk Z (tN ticket) 11) + 1)) (tN ticket) 10 (if (tk Z (tN ticket) 10) < coins then coins else (tk Z (tN ticket) 10))) _ hi ((tk Z (tN ticket) 11) + 1)) (cwV 1 hts gX13_bid_X13_says rfl rfl rfl (by decide +kernel) ⟨Nat.le_of_ble_eq_true rfl, Nat.le_of_ble_eq_true rfl⟩) rfl hl.1 rfl (Nat.le_of_ble_eq_true rfl) dX13_bid_89 ⟨Nat.zero_le _, Nat.zero_le _⟩ (fun H locs hP hS => ?_)
          have hsp : sp_bid Z ticket coins = ((tk Z (tN ticket) 11) + 1, zR (tkp (tkp Z (tN ticket) 11 ((tk Z (tN ticket) 11) + 1)) (tN ticket) 10 (if (tk Z (tN ticket) 10) < coins then coins else (tk Z (tN ticket) 10))) ((tk Z (tN ticket) 11) + 1)) := by unfold sp_bid; rw [if_neg c_1, if_neg c_2, if_neg c_3, if_pos c_4]
          exact W.iret hx hb hr (fun t2 ht2 hW => by rw [hsp]; exact ⟨rfl, by rw [ht2]; exact hP, hS.F ht2⟩) hS.2.2 dX13_bid_92 hlocks
        · refine lv_aload_n hx hb dX13_bid_40 rfl (lv_at hl 0 rfl) ?_
          refine lv_bipush (v := (-6)) hx hb dX13_bid_41 (by decide) ?_
          refine m_wr S hK hP hS (As := [.int (-6)]) (rest := []) (cM_says l D cI cJ ad Z _ hi (-6)) (cwV 1 hts gX13_bid_X13_says rfl rfl rfl (by decide +kernel) ⟨Nat.le_of_ble_eq_true rfl, Nat.le_of_ble_eq_true rfl⟩) rfl hl.1 rfl (Nat.le_of_ble_eq_true rfl) dX13_bid_43 ⟨Nat.zero_le _, Nat.zero_le _⟩ (fun H locs hP hS => ?_)
          have hsp : sp_bid Z ticket coins = ((-6), zR Z (-6)) := by unfold sp_bid; rw [if_neg c_1, if_neg c_2, if_neg c_3, if_neg c_4]
          exact W.iret hx hb hr (fun t2 ht2 hW => by rw [hsp]; exact ⟨rfl, by rw [ht2]; exact hP, hS.F ht2⟩) hS.2.2 dX13_bid_46 hlocks
    · refine lv_aload_n hx hb dX13_bid_22 rfl (lv_at hl 0 rfl) ?_
      refine lv_bipush (v := (-2)) hx hb dX13_bid_23 (by decide) ?_
      refine m_wr S hK hP hS (As := [.int (-2)]) (rest := []) (cM_says l D cI cJ ad Z _ hi (-2)) (cwV 1 hts gX13_bid_X13_says rfl rfl rfl (by decide +kernel) ⟨Nat.le_of_ble_eq_true rfl, Nat.le_of_ble_eq_true rfl⟩) rfl hl.1 rfl (Nat.le_of_ble_eq_true rfl) dX13_bid_25 ⟨Nat.zero_le _, Nat.zero_le _⟩ (fun H locs hP hS => ?_)
      have hsp : sp_bid Z ticket coins = ((-2), zR Z (-2)) := by unfold sp_bid; rw [if_neg c_1, if_pos c_2]
      exact W.iret hx hb hr (fun t2 ht2 hW => by rw [hsp]; exact ⟨rfl, by rw [ht2]; exact hP, hS.F ht2⟩) hS.2.2 dX13_bid_28 hlocks
  · refine lv_aload_n hx hb dX13_bid_8 rfl (lv_at hl 0 rfl) ?_
    refine lv_iconst (v := (-1)) hx hb dX13_bid_9 (by decide) ?_
    refine m_wr S hK hP hS (As := [.int (-1)]) (rest := []) (cM_says l D cI cJ ad Z _ hi (-1)) (cwV 1 hts gX13_bid_X13_says rfl rfl rfl (by decide +kernel) ⟨Nat.le_of_ble_eq_true rfl, Nat.le_of_ble_eq_true rfl⟩) rfl hl.1 rfl (Nat.le_of_ble_eq_true rfl) dX13_bid_10 ⟨Nat.zero_le _, Nat.zero_le _⟩ (fun H locs hP hS => ?_)
    have hsp : sp_bid Z ticket coins = ((-1), zR Z (-1)) := by unfold sp_bid; rw [if_pos c_1]
    exact W.iret hx hb hr (fun t2 ht2 hW => by rw [hsp]; exact ⟨rfl, by rw [ht2]; exact hP, hS.F ht2⟩) hS.2.2 dX13_bid_13 hlocks
def sp_fetch (Z : mZ) (ticket : Int32) (half : Int32) : Int32 × mZ :=
  if (sp_isTicket Z ticket) = 0 then
    ((-1), zR Z (-1))
  else
    if (tk Z (tN ticket) 12) = 0 then
      ((-2), zR Z (-2))
    else
      if (tk Z (tN ticket) 13) = 1 then
        ((-2), zR Z (-2))
      else
        if (sp_isRight Z ticket half) = 0 then
          ((-4), zR Z (-4))
        else
          if (zh Z 0) ≤ (tk Z (tN ticket) 14) then
            (tk Z (tN ticket) 12, zR (sp_shown (zcp (tkp Z (tN ticket) 13 1) 4 ((zc Z 4) + ((tk Z (tN ticket) 12).toInt64))) ticket half) (tk Z (tN ticket) 12))
          else
            ((-5), zR Z (-5))
set_option maxHeartbeats 4000000 in
set_option maxRecDepth 100000 in
theorem cM_fetch (l : Launch) (D : va_G) (cI cJ : ClassId) (ad : Nat → Nat) (Z : mZ) (sz : Nat) (hi : mI ad) (ticket : Int32) (half : Int32) (hC : cok Z) : Met l yX13_fetch wsX13_fetch ({ frames := 2, cells := 0, slots := 0, locals := 45 }) (mPc [.ref (ad 0), .int ticket, .int half] D cI cJ ad Z sz) (mQ D cI cJ ad (some (.int (sp_fetch Z ticket half).1)) (sp_fetch Z ticket half).2 sz) 0 0 (mA ad sz) := by
  refine m_in (cc := cX13_fetch) (maxL := 3) (ret := (some .int)) (lv := [(0, .ref (ad 0)), (1, .int ticket), (2, .int half)]) (by decide) rfl (Nat.le_of_ble_eq_true rfl) rfl ?_
  intro p e s m below meth c ls S hr hlocks hin hsz hP hK hl hS
  subst hsz
  obtain ⟨hx, hb, hml, hown, hts⟩ := id S
  have hX12 : ∀ w ∈ wsX120, w ∈ wsX13_fetch := by decide +kernel
  have hX13 : ∀ w ∈ wsX130, w ∈ wsX13_fetch := by decide +kernel
  refine lv_aload_n hx hb dX13_fetch_0 rfl (lv_at hl 0 rfl) ?_
  refine lv_iload_n hx hb dX13_fetch_1 rfl (lv_at hl 1 rfl) ?_
  refine m_rd S hK hP (As := [.int ticket]) (rest := []) (cM_isTicket l D cI cJ ad Z _ ticket ) (cwV 1 hts gX13_fetch_X13_isTicket rfl rfl rfl (by decide +kernel) ⟨Nat.le_of_ble_eq_true rfl, Nat.le_of_ble_eq_true rfl⟩) rfl hl.1 rfl (Nat.le_of_ble_eq_true rfl) dX13_fetch_2 ⟨Nat.zero_le _, Nat.zero_le _⟩ ?_
  refine lv_if_ne (tgt := 14) hx hb dX13_fetch_5 (by decide) (fun c_1 => ?_) (fun c_1 => ?_)
  · refine lv_aload_n hx hb dX13_fetch_14 rfl (lv_at hl 0 rfl) ?_
    refine lv_iload_n hx hb dX13_fetch_15 rfl (lv_at hl 1 rfl) ?_
    refine lv_bipush (v := 12) hx hb dX13_fetch_16 (by decide) ?_
    refine m_rd S hK hP (As := [.int ticket, .int 12]) (rest := []) (cM_of l D cI cJ ad Z _ ticket 12 (tok_of hC c_1) 12 rfl (by decide)) (cwV 2 hts gX13_fetch_X13_of rfl rfl rfl (by decide +kernel) ⟨Nat.le_of_ble_eq_true rfl, Nat.le_of_ble_eq_true rfl⟩) rfl hl.1 rfl (Nat.le_of_ble_eq_true rfl) dX13_fetch_18 ⟨Nat.zero_le _, Nat.zero_le _⟩ ?_
    refine lv_if_eq (tgt := 35) hx hb dX13_fetch_21 (by decide) (fun c_2 => ?_) (fun c_2 => ?_)
    · refine lv_aload_n hx hb dX13_fetch_35 rfl (lv_at hl 0 rfl) ?_
      refine lv_bipush (v := (-2)) hx hb dX13_fetch_36 (by decide) ?_
      refine m_wr S hK hP hS (As := [.int (-2)]) (rest := []) (cM_says l D cI cJ ad Z _ hi (-2)) (cwV 1 hts gX13_fetch_X13_says rfl rfl rfl (by decide +kernel) ⟨Nat.le_of_ble_eq_true rfl, Nat.le_of_ble_eq_true rfl⟩) rfl hl.1 rfl (Nat.le_of_ble_eq_true rfl) dX13_fetch_38 ⟨Nat.zero_le _, Nat.zero_le _⟩ (fun H locs hP hS => ?_)
      have hsp : sp_fetch Z ticket half = ((-2), zR Z (-2)) := by unfold sp_fetch; rw [if_neg c_1, if_pos c_2]
      exact W.iret hx hb hr (fun t2 ht2 hW => by rw [hsp]; exact ⟨rfl, by rw [ht2]; exact hP, hS.F ht2⟩) hS.2.2 dX13_fetch_41 hlocks
    · refine lv_aload_n hx hb dX13_fetch_24 rfl (lv_at hl 0 rfl) ?_
      refine lv_iload_n hx hb dX13_fetch_25 rfl (lv_at hl 1 rfl) ?_
      refine lv_bipush (v := 13) hx hb dX13_fetch_26 (by decide) ?_
      refine m_rd S hK hP (As := [.int ticket, .int 13]) (rest := []) (cM_of l D cI cJ ad Z _ ticket 13 (tok_of hC c_1) 13 rfl (by decide)) (cwV 2 hts gX13_fetch_X13_of rfl rfl rfl (by decide +kernel) ⟨Nat.le_of_ble_eq_true rfl, Nat.le_of_ble_eq_true rfl⟩) rfl hl.1 rfl (Nat.le_of_ble_eq_true rfl) dX13_fetch_28 ⟨Nat.zero_le _, Nat.zero_le _⟩ ?_
      refine lv_iconst (v := 1) hx hb dX13_fetch_31 (by decide) ?_
      refine lv_icmp_ne (tgt := 42) hx hb dX13_fetch_32 (by decide) (fun c_3 => ?_) (fun c_3 => ?_)
      · refine lv_aload_n hx hb dX13_fetch_42 rfl (lv_at hl 0 rfl) ?_
        refine lv_iload_n hx hb dX13_fetch_43 rfl (lv_at hl 1 rfl) ?_
        refine lv_iload_n hx hb dX13_fetch_44 rfl (lv_at hl 2 rfl) ?_
        refine m_rd S hK hP (As := [.int ticket, .int half]) (rest := []) (cM_isRight l D cI cJ ad Z _ ticket half (tok_of hC c_1)) (cwV 2 hts gX13_fetch_X13_isRight rfl rfl rfl (by decide +kernel) ⟨Nat.le_of_ble_eq_true rfl, Nat.le_of_ble_eq_true rfl⟩) rfl hl.1 rfl (Nat.le_of_ble_eq_true rfl) dX13_fetch_45 ⟨Nat.zero_le _, Nat.zero_le _⟩ ?_
        refine lv_if_ne (tgt := 58) hx hb dX13_fetch_48 (by decide) (fun c_4 => ?_) (fun c_4 => ?_)
        · refine lv_aload_n hx hb dX13_fetch_58 rfl (lv_at hl 0 rfl) ?_
          refine m_rd S hK hP (As := []) (rest := []) (cM_today l D cI cJ ad Z _) (cwV 0 hts gX13_fetch_X13_today rfl rfl rfl (by decide +kernel) ⟨Nat.le_of_ble_eq_true rfl, Nat.le_of_ble_eq_true rfl⟩) rfl hl.1 rfl (Nat.le_of_ble_eq_true rfl) dX13_fetch_59 ⟨Nat.zero_le _, Nat.zero_le _⟩ ?_
          refine lv_aload_n hx hb dX13_fetch_62 rfl (lv_at hl 0 rfl) ?_
          refine lv_iload_n hx hb dX13_fetch_63 rfl (lv_at hl 1 rfl) ?_
          refine lv_bipush (v := 14) hx hb dX13_fetch_64 (by decide) ?_
          refine m_rd S hK hP (As := [.int ticket, .int 14]) (rest := [.int (zh Z 0)]) (cM_of l D cI cJ ad Z _ ticket 14 (tok_of hC c_1) 14 rfl (by decide)) (cwV 2 hts gX13_fetch_X13_of rfl rfl rfl (by decide +kernel) ⟨Nat.le_of_ble_eq_true rfl, Nat.le_of_ble_eq_true rfl⟩) rfl hl.1 rfl (Nat.le_of_ble_eq_true rfl) dX13_fetch_66 ⟨Nat.zero_le _, Nat.zero_le _⟩ ?_
          refine lv_icmp_le (tgt := 79) hx hb dX13_fetch_69 (by decide) (fun c_5 => ?_) (fun c_5 => ?_)
          · refine lv_aload_n hx hb dX13_fetch_79 rfl (lv_at hl 0 rfl) ?_
            refine lv_iload_n hx hb dX13_fetch_80 rfl (lv_at hl 1 rfl) ?_
            refine lv_bipush (v := 13) hx hb dX13_fetch_81 (by decide) ?_
            refine lv_iconst (v := 1) hx hb dX13_fetch_83 (by decide) ?_
            refine m_wv S hK hP hS (As := [.int ticket, .int 13, .int 1]) (rest := []) (cM_put l D cI cJ ad Z _ hi ticket 13 1 (tok_of hC c_1) 13 rfl (by decide)) (cwV 3 hts gX13_fetch_X13_put rfl rfl rfl (by decide +kernel) ⟨Nat.le_of_ble_eq_true rfl, Nat.le_of_ble_eq_true rfl⟩) rfl hl.1 rfl (Nat.le_of_ble_eq_true rfl) dX13_fetch_84 ⟨Nat.zero_le _, Nat.zero_le _⟩ (fun H locs hP hS => ?_)
            refine lv_aload_n hx hb dX13_fetch_87 rfl (lv_at hl 0 rfl) ?_
            refine va_get (D := D) (ci := 11) (v := .ref (ad 1)) (C := RX13) (T := TX13) (N := 6) hx hb hts hX13 hown hK.1 hP 0 rfl rfl 0 (by decide) (hts (.fieldLink RX13 10 "PledgeHouseModel" "now" "LPledgeHouseModel$State;") (by decide +kernel)) (fun _ h9 => h9) rfl dX13_fetch_88 ?_
            refine va_getN (D := D) (ci := 10) (v := .ref (ad 6)) (C := RX12) (T := TX12) (N := 4) hx hb hts hX12 hown hK.1 hP 1 rfl rfl 3 (by decide) (va_Nw.use rfl hK.2.2.2.2) (fun _ h9 => h9) rfl dX13_fetch_91 ?_
            refine lv_iconst (v := 4) hx hb dX13_fetch_94 (by decide) ?_
            refine lv_dup2_11 hx hb dX13_fetch_95 rfl rfl ?_
            refine mx_cld hx hb hK.1 hP 4 rfl (by decide) (v := zc Z 4) zc_tkp dX13_fetch_96 ?_
            refine lv_aload_n hx hb dX13_fetch_97 rfl (lv_at hl 0 rfl) ?_
            refine lv_iload_n hx hb dX13_fetch_98 rfl (lv_at hl 1 rfl) ?_
            refine lv_bipush (v := 12) hx hb dX13_fetch_99 (by decide) ?_
            refine m_rd S hK hP (As := [.int ticket, .int 12]) (rest := [.long (zc Z 4), .int 4, .ref (ad 6)]) (met_r (show tk (tkp Z (tN ticket) 13 1) (tN ticket) 12 = tk Z (tN ticket) 12 from (tk_ne (by decide))) (cM_of l D cI cJ ad (tkp Z (tN ticket) 13 1) _ ticket 12 (tok_of hC c_1) 12 rfl (by decide))) (cwV 2 hts gX13_fetch_X13_of rfl rfl rfl (by decide +kernel) ⟨Nat.le_of_ble_eq_true rfl, Nat.le_of_ble_eq_true rfl⟩) rfl hl.1 rfl (Nat.le_of_ble_eq_true rfl) dX13_fetch_101 ⟨Nat.zero_le _, Nat.zero_le _⟩ ?_
            refine lv_i2l (v := (tk Z (tN ticket) 12).toInt64) hx hb dX13_fetch_104 rfl ?_
            refine lv_ladd hx hb dX13_fetch_105 ?_
            refine mx_cst hx hb hK.1 hP (wM_D hi s.heap.size _) hS 4 rfl (by decide) dX13_fetch_106 (fun H locs hP hS => ?_)
            refine lv_aload_n hx hb dX13_fetch_107 rfl (lv_at hl 0 rfl) ?_
            refine lv_iload_n hx hb dX13_fetch_108 rfl (lv_at hl 1 rfl) ?_
            refine lv_iload_n hx hb dX13_fetch_109 rfl (lv_at hl 2 rfl) ?_
            refine m_wv S hK hP hS (As := [.int ticket, .int half]) (rest := []) (cM_shown l D cI cJ ad (zcp (tkp Z (tN ticket) 13 1) 4 ((zc Z 4) + ((tk Z (tN ticket) 12).toInt64))) _ hi ticket half (tok_of hC c_1)) (cwV 2 hts gX13_fetch_X13_shown rfl rfl rfl (by decide +kernel) ⟨Nat.le_of_ble_eq_true rfl, Nat.le_of_ble_eq_true rfl⟩) rfl hl.1 rfl (Nat.le_of_ble_eq_true rfl) dX13_fetch_110 ⟨Nat.zero_le _, Nat.zero_le _⟩ (fun H locs hP hS => ?_)
            refine lv_aload_n hx hb dX13_fetch_113 rfl (lv_at hl 0 rfl) ?_
            refine lv_aload_n hx hb dX13_fetch_114 rfl (lv_at hl 0 rfl) ?_
            refine lv_iload_n hx hb dX13_fetch_115 rfl (lv_at hl 1 rfl) ?_
            refine lv_bipush (v := 12) hx hb dX13_fetch_116 (by decide) ?_
            refine m_rd S hK hP (As := [.int ticket, .int 12]) (rest := [.ref (ad 0)]) (met_r (show tk (sp_shown (zcp (tkp Z (tN ticket) 13 1) 4 ((zc Z 4) + ((tk Z (tN ticket) 12).toInt64))) ticket half) (tN ticket) 12 = tk Z (tN ticket) 12 from ((tk_shown (by decide) rfl).trans ((tk_zcp).trans (tk_ne (by decide))))) (cM_of l D cI cJ ad (sp_shown (zcp (tkp Z (tN ticket) 13 1) 4 ((zc Z 4) + ((tk Z (tN ticket) 12).toInt64))) ticket half) _ ticket 12 (tok_of hC c_1) 12 rfl (by decide))) (cwV 2 hts gX13_fetch_X13_of rfl rfl rfl (by decide +kernel) ⟨Nat.le_of_ble_eq_true rfl, Nat.le_of_ble_eq_true rfl⟩) rfl hl.1 rfl (Nat.le_of_ble_eq_true rfl) dX13_fetch_118 ⟨Nat.zero_le _, Nat.zero_le _⟩ ?_
            refine m_wr S hK hP hS (As := [.int (tk Z (tN ticket) 12)]) (rest := []) (cM_says l D cI cJ ad (sp_shown (zcp (tkp Z (tN ticket) 13 1) 4 ((zc Z 4) + ((tk Z (tN ticket) 12).toInt64))) ticket half) _ hi (tk Z (tN ticket) 12)) (cwV 1 hts gX13_fetch_X13_says rfl rfl rfl (by decide +kernel) ⟨Nat.le_of_ble_eq_true rfl, Nat.le_of_ble_eq_true rfl⟩) rfl hl.1 rfl (Nat.le_of_ble_eq_true rfl) dX13_fetch_121 ⟨Nat.zero_le _, Nat.zero_le _⟩ (fun H locs hP hS => ?_)
            have hsp : sp_fetch Z ticket half = (tk Z (tN ticket) 12, zR (sp_shown (zcp (tkp Z (tN ticket) 13 1) 4 ((zc Z 4) + ((tk Z (tN ticket) 12).toInt64))) ticket half) (tk Z (tN ticket) 12)) := by unfold sp_fetch; rw [if_neg c_1, if_neg c_2, if_neg c_3, if_neg c_4, if_pos c_5]
            exact W.iret hx hb hr (fun t2 ht2 hW => by rw [hsp]; exact ⟨rfl, by rw [ht2]; exact hP, hS.F ht2⟩) hS.2.2 dX13_fetch_124 hlocks
          · refine lv_aload_n hx hb dX13_fetch_72 rfl (lv_at hl 0 rfl) ?_
            refine lv_bipush (v := (-5)) hx hb dX13_fetch_73 (by decide) ?_
            refine m_wr S hK hP hS (As := [.int (-5)]) (rest := []) (cM_says l D cI cJ ad Z _ hi (-5)) (cwV 1 hts gX13_fetch_X13_says rfl rfl rfl (by decide +kernel) ⟨Nat.le_of_ble_eq_true rfl, Nat.le_of_ble_eq_true rfl⟩) rfl hl.1 rfl (Nat.le_of_ble_eq_true rfl) dX13_fetch_75 ⟨Nat.zero_le _, Nat.zero_le _⟩ (fun H locs hP hS => ?_)
            have hsp : sp_fetch Z ticket half = ((-5), zR Z (-5)) := by unfold sp_fetch; rw [if_neg c_1, if_neg c_2, if_neg c_3, if_neg c_4, if_neg c_5]
            exact W.iret hx hb hr (fun t2 ht2 hW => by rw [hsp]; exact ⟨rfl, by rw [ht2]; exact hP, hS.F ht2⟩) hS.2.2 dX13_fetch_78 hlocks
        · refine lv_aload_n hx hb dX13_fetch_51 rfl (lv_at hl 0 rfl) ?_
          refine lv_bipush (v := (-4)) hx hb dX13_fetch_52 (by decide) ?_
          refine m_wr S hK hP hS (As := [.int (-4)]) (rest := []) (cM_says l D cI cJ ad Z _ hi (-4)) (cwV 1 hts gX13_fetch_X13_says rfl rfl rfl (by decide +kernel) ⟨Nat.le_of_ble_eq_true rfl, Nat.le_of_ble_eq_true rfl⟩) rfl hl.1 rfl (Nat.le_of_ble_eq_true rfl) dX13_fetch_54 ⟨Nat.zero_le _, Nat.zero_le _⟩ (fun H locs hP hS => ?_)
          have hsp : sp_fetch Z ticket half = ((-4), zR Z (-4)) := by unfold sp_fetch; rw [if_neg c_1, if_neg c_2, if_neg c_3, if_pos c_4]
          exact W.iret hx hb hr (fun t2 ht2 hW => by rw [hsp]; exact ⟨rfl, by rw [ht2]; exact hP, hS.F ht2⟩) hS.2.2 dX13_fetch_57 hlocks
      · refine lv_aload_n hx hb dX13_fetch_35 rfl (lv_at hl 0 rfl) ?_
        refine lv_bipush (v := (-2)) hx hb dX13_fetch_36 (by decide) ?_
        refine m_wr S hK hP hS (As := [.int (-2)]) (rest := []) (cM_says l D cI cJ ad Z _ hi (-2)) (cwV 1 hts gX13_fetch_X13_says rfl rfl rfl (by decide +kernel) ⟨Nat.le_of_ble_eq_true rfl, Nat.le_of_ble_eq_true rfl⟩) rfl hl.1 rfl (Nat.le_of_ble_eq_true rfl) dX13_fetch_38 ⟨Nat.zero_le _, Nat.zero_le _⟩ (fun H locs hP hS => ?_)
        have hsp : sp_fetch Z ticket half = ((-2), zR Z (-2)) := by unfold sp_fetch; rw [if_neg c_1, if_neg c_2, if_pos c_3]
        exact W.iret hx hb hr (fun t2 ht2 hW => by rw [hsp]; exact ⟨rfl, by rw [ht2]; exact hP, hS.F ht2⟩) hS.2.2 dX13_fetch_41 hlocks
  · refine lv_aload_n hx hb dX13_fetch_8 rfl (lv_at hl 0 rfl) ?_
    refine lv_iconst (v := (-1)) hx hb dX13_fetch_9 (by decide) ?_
    refine m_wr S hK hP hS (As := [.int (-1)]) (rest := []) (cM_says l D cI cJ ad Z _ hi (-1)) (cwV 1 hts gX13_fetch_X13_says rfl rfl rfl (by decide +kernel) ⟨Nat.le_of_ble_eq_true rfl, Nat.le_of_ble_eq_true rfl⟩) rfl hl.1 rfl (Nat.le_of_ble_eq_true rfl) dX13_fetch_10 ⟨Nat.zero_le _, Nat.zero_le _⟩ (fun H locs hP hS => ?_)
    have hsp : sp_fetch Z ticket half = ((-1), zR Z (-1)) := by unfold sp_fetch; rw [if_pos c_1]
    exact W.iret hx hb hr (fun t2 ht2 hW => by rw [hsp]; exact ⟨rfl, by rw [ht2]; exact hP, hS.F ht2⟩) hS.2.2 dX13_fetch_13 hlocks
def sp_claim (Z : mZ) (ticket : Int32) : Int32 × mZ :=
  if (sp_isTicket Z ticket) = 0 then
    ((-1), zR Z (-1))
  else
    if (sp_isOpen Z ticket) = 0 then
      ((-2), zR Z (-2))
    else
      if (sp_isClaimed Z ticket) = 0 then
        (0, zR (tkp (tkp Z (tN ticket) 8 (zh Z 0)) (tN ticket) 20 (-1)) 0)
      else
        ((-3), zR Z (-3))
set_option maxHeartbeats 4000000 in
set_option maxRecDepth 100000 in
theorem cM_claim (l : Launch) (D : va_G) (cI cJ : ClassId) (ad : Nat → Nat) (Z : mZ) (sz : Nat) (hi : mI ad) (ticket : Int32) (hC : cok Z) : Met l yX13_claim wsX13_claim ({ frames := 2, cells := 0, slots := 0, locals := 43 }) (mPc [.ref (ad 0), .int ticket] D cI cJ ad Z sz) (mQ D cI cJ ad (some (.int (sp_claim Z ticket).1)) (sp_claim Z ticket).2 sz) 0 0 (mA ad sz) := by
  refine m_in (cc := cX13_claim) (maxL := 2) (ret := (some .int)) (lv := [(0, .ref (ad 0)), (1, .int ticket)]) (by decide) rfl (Nat.le_of_ble_eq_true rfl) rfl ?_
  intro p e s m below meth c ls S hr hlocks hin hsz hP hK hl hS
  subst hsz
  obtain ⟨hx, hb, hml, hown, hts⟩ := id S
  refine lv_aload_n hx hb dX13_claim_0 rfl (lv_at hl 0 rfl) ?_
  refine lv_iload_n hx hb dX13_claim_1 rfl (lv_at hl 1 rfl) ?_
  refine m_rd S hK hP (As := [.int ticket]) (rest := []) (cM_isTicket l D cI cJ ad Z _ ticket ) (cwV 1 hts gX13_claim_X13_isTicket rfl rfl rfl (by decide +kernel) ⟨Nat.le_of_ble_eq_true rfl, Nat.le_of_ble_eq_true rfl⟩) rfl hl.1 rfl (Nat.le_of_ble_eq_true rfl) dX13_claim_2 ⟨Nat.zero_le _, Nat.zero_le _⟩ ?_
  refine lv_if_ne (tgt := 14) hx hb dX13_claim_5 (by decide) (fun c_1 => ?_) (fun c_1 => ?_)
  · refine lv_aload_n hx hb dX13_claim_14 rfl (lv_at hl 0 rfl) ?_
    refine lv_iload_n hx hb dX13_claim_15 rfl (lv_at hl 1 rfl) ?_
    refine m_rd S hK hP (As := [.int ticket]) (rest := []) (cM_isOpen l D cI cJ ad Z _ ticket (tok_of hC c_1)) (cwV 1 hts gX13_claim_X13_isOpen rfl rfl rfl (by decide +kernel) ⟨Nat.le_of_ble_eq_true rfl, Nat.le_of_ble_eq_true rfl⟩) rfl hl.1 rfl (Nat.le_of_ble_eq_true rfl) dX13_claim_16 ⟨Nat.zero_le _, Nat.zero_le _⟩ ?_
    refine lv_if_ne (tgt := 29) hx hb dX13_claim_19 (by decide) (fun c_2 => ?_) (fun c_2 => ?_)
    · refine lv_aload_n hx hb dX13_claim_29 rfl (lv_at hl 0 rfl) ?_
      refine lv_iload_n hx hb dX13_claim_30 rfl (lv_at hl 1 rfl) ?_
      refine m_rd S hK hP (As := [.int ticket]) (rest := []) (cM_isClaimed l D cI cJ ad Z _ ticket (tok_of hC c_1)) (cwV 1 hts gX13_claim_X13_isClaimed rfl rfl rfl (by decide +kernel) ⟨Nat.le_of_ble_eq_true rfl, Nat.le_of_ble_eq_true rfl⟩) rfl hl.1 rfl (Nat.le_of_ble_eq_true rfl) dX13_claim_31 ⟨Nat.zero_le _, Nat.zero_le _⟩ ?_
      refine lv_if_eq (tgt := 44) hx hb dX13_claim_34 (by decide) (fun c_3 => ?_) (fun c_3 => ?_)
      · refine lv_aload_n hx hb dX13_claim_44 rfl (lv_at hl 0 rfl) ?_
        refine lv_iload_n hx hb dX13_claim_45 rfl (lv_at hl 1 rfl) ?_
        refine lv_bipush (v := 8) hx hb dX13_claim_46 (by decide) ?_
        refine lv_aload_n hx hb dX13_claim_48 rfl (lv_at hl 0 rfl) ?_
        refine m_rd S hK hP (As := []) (rest := [.int 8, .int ticket, .ref (ad 0)]) (cM_today l D cI cJ ad Z _) (cwV 0 hts gX13_claim_X13_today rfl rfl rfl (by decide +kernel) ⟨Nat.le_of_ble_eq_true rfl, Nat.le_of_ble_eq_true rfl⟩) rfl hl.1 rfl (Nat.le_of_ble_eq_true rfl) dX13_claim_49 ⟨Nat.zero_le _, Nat.zero_le _⟩ ?_
        refine m_wv S hK hP hS (As := [.int ticket, .int 8, .int (zh Z 0)]) (rest := []) (cM_put l D cI cJ ad Z _ hi ticket 8 (zh Z 0) (tok_of hC c_1) 8 rfl (by decide)) (cwV 3 hts gX13_claim_X13_put rfl rfl rfl (by decide +kernel) ⟨Nat.le_of_ble_eq_true rfl, Nat.le_of_ble_eq_true rfl⟩) rfl hl.1 rfl (Nat.le_of_ble_eq_true rfl) dX13_claim_52 ⟨Nat.zero_le _, Nat.zero_le _⟩ (fun H locs hP hS => ?_)
        refine lv_aload_n hx hb dX13_claim_55 rfl (lv_at hl 0 rfl) ?_
        refine lv_iload_n hx hb dX13_claim_56 rfl (lv_at hl 1 rfl) ?_
        refine lv_bipush (v := 20) hx hb dX13_claim_57 (by decide) ?_
        refine lv_iconst (v := (-1)) hx hb dX13_claim_59 (by decide) ?_
        refine m_wv S hK hP hS (As := [.int ticket, .int 20, .int (-1)]) (rest := []) (cM_put l D cI cJ ad (tkp Z (tN ticket) 8 (zh Z 0)) _ hi ticket 20 (-1) (tok_of hC c_1) 20 rfl (by decide)) (cwV 3 hts gX13_claim_X13_put rfl rfl rfl (by decide +kernel) ⟨Nat.le_of_ble_eq_true rfl, Nat.le_of_ble_eq_true rfl⟩) rfl hl.1 rfl (Nat.le_of_ble_eq_true rfl) dX13_claim_60 ⟨Nat.zero_le _, Nat.zero_le _⟩ (fun H locs hP hS => ?_)
        refine lv_aload_n hx hb dX13_claim_63 rfl (lv_at hl 0 rfl) ?_
        refine lv_iconst (v := 0) hx hb dX13_claim_64 (by decide) ?_
        refine m_wr S hK hP hS (As := [.int 0]) (rest := []) (cM_says l D cI cJ ad (tkp (tkp Z (tN ticket) 8 (zh Z 0)) (tN ticket) 20 (-1)) _ hi 0) (cwV 1 hts gX13_claim_X13_says rfl rfl rfl (by decide +kernel) ⟨Nat.le_of_ble_eq_true rfl, Nat.le_of_ble_eq_true rfl⟩) rfl hl.1 rfl (Nat.le_of_ble_eq_true rfl) dX13_claim_65 ⟨Nat.zero_le _, Nat.zero_le _⟩ (fun H locs hP hS => ?_)
        have hsp : sp_claim Z ticket = (0, zR (tkp (tkp Z (tN ticket) 8 (zh Z 0)) (tN ticket) 20 (-1)) 0) := by unfold sp_claim; rw [if_neg c_1, if_neg c_2, if_pos c_3]
        exact W.iret hx hb hr (fun t2 ht2 hW => by rw [hsp]; exact ⟨rfl, by rw [ht2]; exact hP, hS.F ht2⟩) hS.2.2 dX13_claim_68 hlocks
      · refine lv_aload_n hx hb dX13_claim_37 rfl (lv_at hl 0 rfl) ?_
        refine lv_bipush (v := (-3)) hx hb dX13_claim_38 (by decide) ?_
        refine m_wr S hK hP hS (As := [.int (-3)]) (rest := []) (cM_says l D cI cJ ad Z _ hi (-3)) (cwV 1 hts gX13_claim_X13_says rfl rfl rfl (by decide +kernel) ⟨Nat.le_of_ble_eq_true rfl, Nat.le_of_ble_eq_true rfl⟩) rfl hl.1 rfl (Nat.le_of_ble_eq_true rfl) dX13_claim_40 ⟨Nat.zero_le _, Nat.zero_le _⟩ (fun H locs hP hS => ?_)
        have hsp : sp_claim Z ticket = ((-3), zR Z (-3)) := by unfold sp_claim; rw [if_neg c_1, if_neg c_2, if_neg c_3]
        exact W.iret hx hb hr (fun t2 ht2 hW => by rw [hsp]; exact ⟨rfl, by rw [ht2]; exact hP, hS.F ht2⟩) hS.2.2 dX13_claim_43 hlocks
    · refine lv_aload_n hx hb dX13_claim_22 rfl (lv_at hl 0 rfl) ?_
      refine lv_bipush (v := (-2)) hx hb dX13_claim_23 (by decide) ?_
      refine m_wr S hK hP hS (As := [.int (-2)]) (rest := []) (cM_says l D cI cJ ad Z _ hi (-2)) (cwV 1 hts gX13_claim_X13_says rfl rfl rfl (by decide +kernel) ⟨Nat.le_of_ble_eq_true rfl, Nat.le_of_ble_eq_true rfl⟩) rfl hl.1 rfl (Nat.le_of_ble_eq_true rfl) dX13_claim_25 ⟨Nat.zero_le _, Nat.zero_le _⟩ (fun H locs hP hS => ?_)
      have hsp : sp_claim Z ticket = ((-2), zR Z (-2)) := by unfold sp_claim; rw [if_neg c_1, if_pos c_2]
      exact W.iret hx hb hr (fun t2 ht2 hW => by rw [hsp]; exact ⟨rfl, by rw [ht2]; exact hP, hS.F ht2⟩) hS.2.2 dX13_claim_28 hlocks
  · refine lv_aload_n hx hb dX13_claim_8 rfl (lv_at hl 0 rfl) ?_
    refine lv_iconst (v := (-1)) hx hb dX13_claim_9 (by decide) ?_
    refine m_wr S hK hP hS (As := [.int (-1)]) (rest := []) (cM_says l D cI cJ ad Z _ hi (-1)) (cwV 1 hts gX13_claim_X13_says rfl rfl rfl (by decide +kernel) ⟨Nat.le_of_ble_eq_true rfl, Nat.le_of_ble_eq_true rfl⟩) rfl hl.1 rfl (Nat.le_of_ble_eq_true rfl) dX13_claim_10 ⟨Nat.zero_le _, Nat.zero_le _⟩ (fun H locs hP hS => ?_)
    have hsp : sp_claim Z ticket = ((-1), zR Z (-1)) := by unfold sp_claim; rw [if_pos c_1]
    exact W.iret hx hb hr (fun t2 ht2 hW => by rw [hsp]; exact ⟨rfl, by rw [ht2]; exact hP, hS.F ht2⟩) hS.2.2 dX13_claim_13 hlocks
def sp_drop (Z : mZ) (ticket : Int32) : Int32 × mZ :=
  if (sp_isTicket Z ticket) = 0 then
    ((-1), zR Z (-1))
  else
    if (sp_isOpen Z ticket) = 0 then
      ((-2), zR Z (-2))
    else
      if (sp_isClaimed Z ticket) = 0 then
        ((-3), zR Z (-3))
      else
        (tk (sp_dropped Z ticket) (tN ticket) 9, zR (sp_dropped Z ticket) (tk (sp_dropped Z ticket) (tN ticket) 9))
set_option maxHeartbeats 4000000 in
set_option maxRecDepth 100000 in
theorem cM_drop (l : Launch) (D : va_G) (cI cJ : ClassId) (ad : Nat → Nat) (Z : mZ) (sz : Nat) (hi : mI ad) (ticket : Int32) (hC : cok Z) : Met l yX13_drop wsX13_drop ({ frames := 4, cells := 0, slots := 0, locals := 85 }) (mPc [.ref (ad 0), .int ticket] D cI cJ ad Z sz) (mQ D cI cJ ad (some (.int (sp_drop Z ticket).1)) (sp_drop Z ticket).2 sz) 0 0 (mA ad sz) := by
  refine m_in (cc := cX13_drop) (maxL := 2) (ret := (some .int)) (lv := [(0, .ref (ad 0)), (1, .int ticket)]) (by decide) rfl (Nat.le_of_ble_eq_true rfl) rfl ?_
  intro p e s m below meth c ls S hr hlocks hin hsz hP hK hl hS
  subst hsz
  obtain ⟨hx, hb, hml, hown, hts⟩ := id S
  refine lv_aload_n hx hb dX13_drop_0 rfl (lv_at hl 0 rfl) ?_
  refine lv_iload_n hx hb dX13_drop_1 rfl (lv_at hl 1 rfl) ?_
  refine m_rd S hK hP (As := [.int ticket]) (rest := []) (cM_isTicket l D cI cJ ad Z _ ticket ) (cwV 1 hts gX13_drop_X13_isTicket rfl rfl rfl (by decide +kernel) ⟨Nat.le_of_ble_eq_true rfl, Nat.le_of_ble_eq_true rfl⟩) rfl hl.1 rfl (Nat.le_of_ble_eq_true rfl) dX13_drop_2 ⟨Nat.zero_le _, Nat.zero_le _⟩ ?_
  refine lv_if_ne (tgt := 14) hx hb dX13_drop_5 (by decide) (fun c_1 => ?_) (fun c_1 => ?_)
  · refine lv_aload_n hx hb dX13_drop_14 rfl (lv_at hl 0 rfl) ?_
    refine lv_iload_n hx hb dX13_drop_15 rfl (lv_at hl 1 rfl) ?_
    refine m_rd S hK hP (As := [.int ticket]) (rest := []) (cM_isOpen l D cI cJ ad Z _ ticket (tok_of hC c_1)) (cwV 1 hts gX13_drop_X13_isOpen rfl rfl rfl (by decide +kernel) ⟨Nat.le_of_ble_eq_true rfl, Nat.le_of_ble_eq_true rfl⟩) rfl hl.1 rfl (Nat.le_of_ble_eq_true rfl) dX13_drop_16 ⟨Nat.zero_le _, Nat.zero_le _⟩ ?_
    refine lv_if_ne (tgt := 29) hx hb dX13_drop_19 (by decide) (fun c_2 => ?_) (fun c_2 => ?_)
    · refine lv_aload_n hx hb dX13_drop_29 rfl (lv_at hl 0 rfl) ?_
      refine lv_iload_n hx hb dX13_drop_30 rfl (lv_at hl 1 rfl) ?_
      refine m_rd S hK hP (As := [.int ticket]) (rest := []) (cM_isClaimed l D cI cJ ad Z _ ticket (tok_of hC c_1)) (cwV 1 hts gX13_drop_X13_isClaimed rfl rfl rfl (by decide +kernel) ⟨Nat.le_of_ble_eq_true rfl, Nat.le_of_ble_eq_true rfl⟩) rfl hl.1 rfl (Nat.le_of_ble_eq_true rfl) dX13_drop_31 ⟨Nat.zero_le _, Nat.zero_le _⟩ ?_
      refine lv_if_ne (tgt := 44) hx hb dX13_drop_34 (by decide) (fun c_3 => ?_) (fun c_3 => ?_)
      · refine lv_aload_n hx hb dX13_drop_44 rfl (lv_at hl 0 rfl) ?_
        refine lv_iload_n hx hb dX13_drop_45 rfl (lv_at hl 1 rfl) ?_
        refine m_wv S hK hP hS (As := [.int ticket]) (rest := []) (cM_dropped l D cI cJ ad Z _ hi ticket (tok_of hC c_1)) (cwV 1 hts gX13_drop_X13_dropped rfl rfl rfl (by decide +kernel) ⟨Nat.le_of_ble_eq_true rfl, Nat.le_of_ble_eq_true rfl⟩) rfl hl.1 rfl (Nat.le_of_ble_eq_true rfl) dX13_drop_46 ⟨Nat.zero_le _, Nat.zero_le _⟩ (fun H locs hP hS => ?_)
        refine lv_aload_n hx hb dX13_drop_49 rfl (lv_at hl 0 rfl) ?_
        refine lv_aload_n hx hb dX13_drop_50 rfl (lv_at hl 0 rfl) ?_
        refine lv_iload_n hx hb dX13_drop_51 rfl (lv_at hl 1 rfl) ?_
        refine lv_bipush (v := 9) hx hb dX13_drop_52 (by decide) ?_
        refine m_rd S hK hP (As := [.int ticket, .int 9]) (rest := [.ref (ad 0)]) (cM_of l D cI cJ ad (sp_dropped Z ticket) _ ticket 9 (tok_of hC c_1) 9 rfl (by decide)) (cwV 2 hts gX13_drop_X13_of rfl rfl rfl (by decide +kernel) ⟨Nat.le_of_ble_eq_true rfl, Nat.le_of_ble_eq_true rfl⟩) rfl hl.1 rfl (Nat.le_of_ble_eq_true rfl) dX13_drop_54 ⟨Nat.zero_le _, Nat.zero_le _⟩ ?_
        refine m_wr S hK hP hS (As := [.int (tk (sp_dropped Z ticket) (tN ticket) 9)]) (rest := []) (cM_says l D cI cJ ad (sp_dropped Z ticket) _ hi (tk (sp_dropped Z ticket) (tN ticket) 9)) (cwV 1 hts gX13_drop_X13_says rfl rfl rfl (by decide +kernel) ⟨Nat.le_of_ble_eq_true rfl, Nat.le_of_ble_eq_true rfl⟩) rfl hl.1 rfl (Nat.le_of_ble_eq_true rfl) dX13_drop_57 ⟨Nat.zero_le _, Nat.zero_le _⟩ (fun H locs hP hS => ?_)
        have hsp : sp_drop Z ticket = (tk (sp_dropped Z ticket) (tN ticket) 9, zR (sp_dropped Z ticket) (tk (sp_dropped Z ticket) (tN ticket) 9)) := by unfold sp_drop; rw [if_neg c_1, if_neg c_2, if_neg c_3]
        exact W.iret hx hb hr (fun t2 ht2 hW => by rw [hsp]; exact ⟨rfl, by rw [ht2]; exact hP, hS.F ht2⟩) hS.2.2 dX13_drop_60 hlocks
      · refine lv_aload_n hx hb dX13_drop_37 rfl (lv_at hl 0 rfl) ?_
        refine lv_bipush (v := (-3)) hx hb dX13_drop_38 (by decide) ?_
        refine m_wr S hK hP hS (As := [.int (-3)]) (rest := []) (cM_says l D cI cJ ad Z _ hi (-3)) (cwV 1 hts gX13_drop_X13_says rfl rfl rfl (by decide +kernel) ⟨Nat.le_of_ble_eq_true rfl, Nat.le_of_ble_eq_true rfl⟩) rfl hl.1 rfl (Nat.le_of_ble_eq_true rfl) dX13_drop_40 ⟨Nat.zero_le _, Nat.zero_le _⟩ (fun H locs hP hS => ?_)
        have hsp : sp_drop Z ticket = ((-3), zR Z (-3)) := by unfold sp_drop; rw [if_neg c_1, if_neg c_2, if_pos c_3]
        exact W.iret hx hb hr (fun t2 ht2 hW => by rw [hsp]; exact ⟨rfl, by rw [ht2]; exact hP, hS.F ht2⟩) hS.2.2 dX13_drop_43 hlocks
    · refine lv_aload_n hx hb dX13_drop_22 rfl (lv_at hl 0 rfl) ?_
      refine lv_bipush (v := (-2)) hx hb dX13_drop_23 (by decide) ?_
      refine m_wr S hK hP hS (As := [.int (-2)]) (rest := []) (cM_says l D cI cJ ad Z _ hi (-2)) (cwV 1 hts gX13_drop_X13_says rfl rfl rfl (by decide +kernel) ⟨Nat.le_of_ble_eq_true rfl, Nat.le_of_ble_eq_true rfl⟩) rfl hl.1 rfl (Nat.le_of_ble_eq_true rfl) dX13_drop_25 ⟨Nat.zero_le _, Nat.zero_le _⟩ (fun H locs hP hS => ?_)
      have hsp : sp_drop Z ticket = ((-2), zR Z (-2)) := by unfold sp_drop; rw [if_neg c_1, if_pos c_2]
      exact W.iret hx hb hr (fun t2 ht2 hW => by rw [hsp]; exact ⟨rfl, by rw [ht2]; exact hP, hS.F ht2⟩) hS.2.2 dX13_drop_28 hlocks
  · refine lv_aload_n hx hb dX13_drop_8 rfl (lv_at hl 0 rfl) ?_
    refine lv_iconst (v := (-1)) hx hb dX13_drop_9 (by decide) ?_
    refine m_wr S hK hP hS (As := [.int (-1)]) (rest := []) (cM_says l D cI cJ ad Z _ hi (-1)) (cwV 1 hts gX13_drop_X13_says rfl rfl rfl (by decide +kernel) ⟨Nat.le_of_ble_eq_true rfl, Nat.le_of_ble_eq_true rfl⟩) rfl hl.1 rfl (Nat.le_of_ble_eq_true rfl) dX13_drop_10 ⟨Nat.zero_le _, Nat.zero_le _⟩ (fun H locs hP hS => ?_)
    have hsp : sp_drop Z ticket = ((-1), zR Z (-1)) := by unfold sp_drop; rw [if_pos c_1]
    exact W.iret hx hb hr (fun t2 ht2 hW => by rw [hsp]; exact ⟨rfl, by rw [ht2]; exact hP, hS.F ht2⟩) hS.2.2 dX13_drop_13 hlocks
def sp_pay (Z : mZ) (ticket : Int32) (half : Int32) (coins : Int32) : Int32 × mZ :=
  if (sp_isTicket Z ticket) = 0 then
    ((-1), zR Z (-1))
  else
    if (sp_isFree Z ticket) = 0 then
      ((-2), zR Z (-2))
    else
      if (sp_isRight Z ticket half) = 0 then
        ((-4), zR Z (-4))
      else
        if coins < 1 then
          ((-6), zR Z (-6))
        else
          if coins < (sp_owed Z ticket) then
            (sp_owed (sp_shown (tkp (zcp (zcp (tkp (tkp Z (tN ticket) 2 ((tk Z (tN ticket) 2) - (if (tk Z (tN ticket) 2) < coins then (tk Z (tN ticket) 2) else coins))) (tN ticket) 1 ((tk Z (tN ticket) 1) - (coins - (if (tk Z (tN ticket) 2) < coins then (tk Z (tN ticket) 2) else coins)))) 1 ((zc Z 1) + ((if (tk Z (tN ticket) 2) < coins then (tk Z (tN ticket) 2) else coins).toInt64))) 2 ((zc Z 2) + ((coins - (if (tk Z (tN ticket) 2) < coins then (tk Z (tN ticket) 2) else coins)).toInt64))) (tN ticket) 20 (-1)) ticket half) ticket, zR (sp_shown (tkp (zcp (zcp (tkp (tkp Z (tN ticket) 2 ((tk Z (tN ticket) 2) - (if (tk Z (tN ticket) 2) < coins then (tk Z (tN ticket) 2) else coins))) (tN ticket) 1 ((tk Z (tN ticket) 1) - (coins - (if (tk Z (tN ticket) 2) < coins then (tk Z (tN ticket) 2) else coins)))) 1 ((zc Z 1) + ((if (tk Z (tN ticket) 2) < coins then (tk Z (tN ticket) 2) else coins).toInt64))) 2 ((zc Z 2) + ((coins - (if (tk Z (tN ticket) 2) < coins then (tk Z (tN ticket) 2) else coins)).toInt64))) (tN ticket) 20 (-1)) ticket half) (sp_owed (sp_shown (tkp (zcp (zcp (tkp (tkp Z (tN ticket) 2 ((tk Z (tN ticket) 2) - (if (tk Z (tN ticket) 2) < coins then (tk Z (tN ticket) 2) else coins))) (tN ticket) 1 ((tk Z (tN ticket) 1) - (coins - (if (tk Z (tN ticket) 2) < coins then (tk Z (tN ticket) 2) else coins)))) 1 ((zc Z 1) + ((if (tk Z (tN ticket) 2) < coins then (tk Z (tN ticket) 2) else coins).toInt64))) 2 ((zc Z 2) + ((coins - (if (tk Z (tN ticket) 2) < coins then (tk Z (tN ticket) 2) else coins)).toInt64))) (tN ticket) 20 (-1)) ticket half) ticket))
          else
            ((-6), zR Z (-6))
set_option maxHeartbeats 4000000 in
set_option maxRecDepth 100000 in
theorem cM_pay (l : Launch) (D : va_G) (cI cJ : ClassId) (ad : Nat → Nat) (Z : mZ) (sz : Nat) (hi : mI ad) (ticket : Int32) (half : Int32) (coins : Int32) (hC : cok Z) : Met l yX13_pay wsX13_pay ({ frames := 3, cells := 0, slots := 0, locals := 64 }) (mPc [.ref (ad 0), .int ticket, .int half, .int coins] D cI cJ ad Z sz) (mQ D cI cJ ad (some (.int (sp_pay Z ticket half coins).1)) (sp_pay Z ticket half coins).2 sz) 0 0 (mA ad sz) := by
  refine m_in (cc := cX13_pay) (maxL := 5) (ret := (some .int)) (lv := [(0, .ref (ad 0)), (1, .int ticket), (2, .int half), (3, .int coins)]) (by decide) rfl (Nat.le_of_ble_eq_true rfl) rfl ?_
  intro p e s m below meth c ls S hr hlocks hin hsz hP hK hl hS
  subst hsz
  obtain ⟨hx, hb, hml, hown, hts⟩ := id S
  have hX12 : ∀ w ∈ wsX120, w ∈ wsX13_pay := by decide +kernel
  have hX13 : ∀ w ∈ wsX130, w ∈ wsX13_pay := by decide +kernel
  refine lv_aload_n hx hb dX13_pay_0 rfl (lv_at hl 0 rfl) ?_
  refine lv_iload_n hx hb dX13_pay_1 rfl (lv_at hl 1 rfl) ?_
  refine m_rd S hK hP (As := [.int ticket]) (rest := []) (cM_isTicket l D cI cJ ad Z _ ticket ) (cwV 1 hts gX13_pay_X13_isTicket rfl rfl rfl (by decide +kernel) ⟨Nat.le_of_ble_eq_true rfl, Nat.le_of_ble_eq_true rfl⟩) rfl hl.1 rfl (Nat.le_of_ble_eq_true rfl) dX13_pay_2 ⟨Nat.zero_le _, Nat.zero_le _⟩ ?_
  refine lv_if_ne (tgt := 14) hx hb dX13_pay_5 (by decide) (fun c_1 => ?_) (fun c_1 => ?_)
  · refine lv_aload_n hx hb dX13_pay_14 rfl (lv_at hl 0 rfl) ?_
    refine lv_iload_n hx hb dX13_pay_15 rfl (lv_at hl 1 rfl) ?_
    refine m_rd S hK hP (As := [.int ticket]) (rest := []) (cM_isFree l D cI cJ ad Z _ ticket (tok_of hC c_1)) (cwV 1 hts gX13_pay_X13_isFree rfl rfl rfl (by decide +kernel) ⟨Nat.le_of_ble_eq_true rfl, Nat.le_of_ble_eq_true rfl⟩) rfl hl.1 rfl (Nat.le_of_ble_eq_true rfl) dX13_pay_16 ⟨Nat.zero_le _, Nat.zero_le _⟩ ?_
    refine lv_if_ne (tgt := 29) hx hb dX13_pay_19 (by decide) (fun c_2 => ?_) (fun c_2 => ?_)
    · refine lv_aload_n hx hb dX13_pay_29 rfl (lv_at hl 0 rfl) ?_
      refine lv_iload_n hx hb dX13_pay_30 rfl (lv_at hl 1 rfl) ?_
      refine lv_iload_n hx hb dX13_pay_31 rfl (lv_at hl 2 rfl) ?_
      refine m_rd S hK hP (As := [.int ticket, .int half]) (rest := []) (cM_isRight l D cI cJ ad Z _ ticket half (tok_of hC c_1)) (cwV 2 hts gX13_pay_X13_isRight rfl rfl rfl (by decide +kernel) ⟨Nat.le_of_ble_eq_true rfl, Nat.le_of_ble_eq_true rfl⟩) rfl hl.1 rfl (Nat.le_of_ble_eq_true rfl) dX13_pay_32 ⟨Nat.zero_le _, Nat.zero_le _⟩ ?_
      refine lv_if_ne (tgt := 45) hx hb dX13_pay_35 (by decide) (fun c_3 => ?_) (fun c_3 => ?_)
      · refine lv_iload_n hx hb dX13_pay_45 rfl (lv_at hl 3 rfl) ?_
        refine lv_iconst (v := 1) hx hb dX13_pay_46 (by decide) ?_
        refine lv_icmp_lt (tgt := 59) hx hb dX13_pay_47 (by decide) (fun c_4 => ?_) (fun c_4 => ?_)
        · refine lv_aload_n hx hb dX13_pay_59 rfl (lv_at hl 0 rfl) ?_
          refine lv_bipush (v := (-6)) hx hb dX13_pay_60 (by decide) ?_
          refine m_wr S hK hP hS (As := [.int (-6)]) (rest := []) (cM_says l D cI cJ ad Z _ hi (-6)) (cwV 1 hts gX13_pay_X13_says rfl rfl rfl (by decide +kernel) ⟨Nat.le_of_ble_eq_true rfl, Nat.le_of_ble_eq_true rfl⟩) rfl hl.1 rfl (Nat.le_of_ble_eq_true rfl) dX13_pay_62 ⟨Nat.zero_le _, Nat.zero_le _⟩ (fun H locs hP hS => ?_)
          have hsp : sp_pay Z ticket half coins = ((-6), zR Z (-6)) := by unfold sp_pay; rw [if_neg c_1, if_neg c_2, if_neg c_3, if_pos c_4]
          exact W.iret hx hb hr (fun t2 ht2 hW => by rw [hsp]; exact ⟨rfl, by rw [ht2]; exact hP, hS.F ht2⟩) hS.2.2 dX13_pay_65 hlocks
        · refine lv_iload_n hx hb dX13_pay_50 rfl (lv_at hl 3 rfl) ?_
          refine lv_aload_n hx hb dX13_pay_51 rfl (lv_at hl 0 rfl) ?_
          refine lv_iload_n hx hb dX13_pay_52 rfl (lv_at hl 1 rfl) ?_
          refine m_rd S hK hP (As := [.int ticket]) (rest := [.int coins]) (cM_owed l D cI cJ ad Z _ ticket (tok_of hC c_1)) (cwV 1 hts gX13_pay_X13_owed rfl rfl rfl (by decide +kernel) ⟨Nat.le_of_ble_eq_true rfl, Nat.le_of_ble_eq_true rfl⟩) rfl hl.1 rfl (Nat.le_of_ble_eq_true rfl) dX13_pay_53 ⟨Nat.zero_le _, Nat.zero_le _⟩ ?_
          refine lv_icmp_lt (tgt := 66) hx hb dX13_pay_56 (by decide) (fun c_5 => ?_) (fun c_5 => ?_)
          · refine lv_iload_n hx hb dX13_pay_66 rfl (lv_at hl 3 rfl) ?_
            refine lv_aload_n hx hb dX13_pay_67 rfl (lv_at hl 0 rfl) ?_
            refine lv_iload_n hx hb dX13_pay_68 rfl (lv_at hl 1 rfl) ?_
            refine lv_iconst (v := 2) hx hb dX13_pay_69 (by decide) ?_
            refine m_rd S hK hP (As := [.int ticket, .int 2]) (rest := [.int coins]) (cM_of l D cI cJ ad Z _ ticket 2 (tok_of hC c_1) 2 rfl (by decide)) (cwV 2 hts gX13_pay_X13_of rfl rfl rfl (by decide +kernel) ⟨Nat.le_of_ble_eq_true rfl, Nat.le_of_ble_eq_true rfl⟩) rfl hl.1 rfl (Nat.le_of_ble_eq_true rfl) dX13_pay_70 ⟨Nat.zero_le _, Nat.zero_le _⟩ ?_
            refine va_mmin hx hb (hml.trans hl.1.symm) hown (hts (.methodLink RX13 128 Lib.Math.min.name) (by decide +kernel)) (hts (.static Lib.Math.min.name) (by decide +kernel)) (hts (.initialized "java/lang/Math") (by decide +kernel)) (hts (.code Lib.Math.min.name Lib.Math.min.code 2 (some .int)) (by decide +kernel)) (Nat.le_of_ble_eq_true rfl) (Nat.le_of_ble_eq_true rfl) (Nat.zero_le _) (Nat.zero_le _) dX13_pay_73 ?_
            refine lv_istore (lv' := [(4, .int (if (tk Z (tN ticket) 2) < coins then (tk Z (tN ticket) 2) else coins)), (0, .ref (ad 0)), (1, .int ticket), (2, .int half), (3, .int coins)]) hx hb dX13_pay_76 hl (by decide) rfl (fun ls hl => ?_)
            refine lv_aload_n hx hb dX13_pay_78 rfl (lv_at hl 1 rfl) ?_
            refine lv_iload_n hx hb dX13_pay_79 rfl (lv_at hl 2 rfl) ?_
            refine lv_iconst (v := 2) hx hb dX13_pay_80 (by decide) ?_
            refine lv_aload_n hx hb dX13_pay_81 rfl (lv_at hl 1 rfl) ?_
            refine lv_iload_n hx hb dX13_pay_82 rfl (lv_at hl 2 rfl) ?_
            refine lv_iconst (v := 2) hx hb dX13_pay_83 (by decide) ?_
            refine m_rd S hK hP (As := [.int ticket, .int 2]) (rest := [.int 2, .int ticket, .ref (ad 0)]) (cM_of l D cI cJ ad Z _ ticket 2 (tok_of hC c_1) 2 rfl (by decide)) (cwV 2 hts gX13_pay_X13_of rfl rfl rfl (by decide +kernel) ⟨Nat.le_of_ble_eq_true rfl, Nat.le_of_ble_eq_true rfl⟩) rfl hl.1 rfl (Nat.le_of_ble_eq_true rfl) dX13_pay_84 ⟨Nat.zero_le _, Nat.zero_le _⟩ ?_
            refine lv_iload hx hb dX13_pay_87 (lv_at hl 0 rfl) ?_
            refine lv_isub hx hb dX13_pay_89 ?_
            refine m_wv S hK hP hS (As := [.int ticket, .int 2, .int ((tk Z (tN ticket) 2) - (if (tk Z (tN ticket) 2) < coins then (tk Z (tN ticket) 2) else coins))]) (rest := []) (cM_put l D cI cJ ad Z _ hi ticket 2 ((tk Z (tN ticket) 2) - (if (tk Z (tN ticket) 2) < coins then (tk Z (tN ticket) 2) else coins)) (tok_of hC c_1) 2 rfl (by decide)) (cwV 3 hts gX13_pay_X13_put rfl rfl rfl (by decide +kernel) ⟨Nat.le_of_ble_eq_true rfl, Nat.le_of_ble_eq_true rfl⟩) rfl hl.1 rfl (Nat.le_of_ble_eq_true rfl) dX13_pay_90 ⟨Nat.zero_le _, Nat.zero_le _⟩ (fun H locs hP hS => ?_)
            refine lv_aload_n hx hb dX13_pay_93 rfl (lv_at hl 1 rfl) ?_
            refine lv_iload_n hx hb dX13_pay_94 rfl (lv_at hl 2 rfl) ?_
            refine lv_iconst (v := 1) hx hb dX13_pay_95 (by decide) ?_
            refine lv_aload_n hx hb dX13_pay_96 rfl (lv_at hl 1 rfl) ?_
            refine lv_iload_n hx hb dX13_pay_97 rfl (lv_at hl 2 rfl) ?_
            refine lv_iconst (v := 1) hx hb dX13_pay_98 (by decide) ?_
            refine m_rd S hK hP (As := [.int ticket, .int 1]) (rest := [.int 1, .int ticket, .ref (ad 0)]) (met_r (show tk (tkp Z (tN ticket) 2 ((tk Z (tN ticket) 2) - (if (tk Z (tN ticket) 2) < coins then (tk Z (tN ticket) 2) else coins))) (tN ticket) 1 = tk Z (tN ticket) 1 from (tk_ne (by decide))) (cM_of l D cI cJ ad (tkp Z (tN ticket) 2 ((tk Z (tN ticket) 2) - (if (tk Z (tN ticket) 2) < coins then (tk Z (tN ticket) 2) else coins))) _ ticket 1 (tok_of hC c_1) 1 rfl (by decide))) (cwV 2 hts gX13_pay_X13_of rfl rfl rfl (by decide +kernel) ⟨Nat.le_of_ble_eq_true rfl, Nat.le_of_ble_eq_true rfl⟩) rfl hl.1 rfl (Nat.le_of_ble_eq_true rfl) dX13_pay_99 ⟨Nat.zero_le _, Nat.zero_le _⟩ ?_
            refine lv_iload_n hx hb dX13_pay_102 rfl (lv_at hl 4 rfl) ?_
            refine lv_iload hx hb dX13_pay_103 (lv_at hl 0 rfl) ?_
            refine lv_isub hx hb dX13_pay_105 ?_
            refine lv_isub hx hb dX13_pay_106 ?_
            refine m_wv S hK hP hS (As := [.int ticket, .int 1, .int ((tk Z (tN ticket) 1) - (coins - (if (tk Z (tN ticket) 2) < coins then (tk Z (tN ticket) 2) else coins)))]) (rest := []) (cM_put l D cI cJ ad (tkp Z (tN ticket) 2 ((tk Z (tN ticket) 2) - (if (tk Z (tN ticket) 2) < coins then (tk Z (tN ticket) 2) else coins))) _ hi ticket 1 ((tk Z (tN ticket) 1) - (coins - (if (tk Z (tN ticket) 2) < coins then (tk Z (tN ticket) 2) else coins))) (tok_of hC c_1) 1 rfl (by decide)) (cwV 3 hts gX13_pay_X13_put rfl rfl rfl (by decide +kernel) ⟨Nat.le_of_ble_eq_true rfl, Nat.le_of_ble_eq_true rfl⟩) rfl hl.1 rfl (Nat.le_of_ble_eq_true rfl) dX13_pay_107 ⟨Nat.zero_le _, Nat.zero_le _⟩ (fun H locs hP hS => ?_)
            refine lv_aload_n hx hb dX13_pay_110 rfl (lv_at hl 1 rfl) ?_
            refine va_get (D := D) (ci := 11) (v := .ref (ad 1)) (C := RX13) (T := TX13) (N := 6) hx hb hts hX13 hown hK.1 hP 0 rfl rfl 0 (by decide) (hts (.fieldLink RX13 10 "PledgeHouseModel" "now" "LPledgeHouseModel$State;") (by decide +kernel)) (fun _ h9 => h9) rfl dX13_pay_111 ?_
            refine va_getN (D := D) (ci := 10) (v := .ref (ad 6)) (C := RX12) (T := TX12) (N := 4) hx hb hts hX12 hown hK.1 hP 1 rfl rfl 3 (by decide) (va_Nw.use rfl hK.2.2.2.2) (fun _ h9 => h9) rfl dX13_pay_114 ?_
            refine lv_iconst (v := 1) hx hb dX13_pay_117 (by decide) ?_
            refine lv_dup2_11 hx hb dX13_pay_118 rfl rfl ?_
            refine mx_cld hx hb hK.1 hP 1 rfl (by decide) (v := zc Z 1) ((zc_tkp).trans zc_tkp) dX13_pay_119 ?_
            refine lv_iload hx hb dX13_pay_120 (lv_at hl 0 rfl) ?_
            refine lv_i2l (v := (if (tk Z (tN ticket) 2) < coins then (tk Z (tN ticket) 2) else coins).toInt64) hx hb dX13_pay_122 rfl ?_
            refine lv_ladd hx hb dX13_pay_123 ?_
            refine mx_cst hx hb hK.1 hP (wM_D hi s.heap.size _) hS 1 rfl (by decide) dX13_pay_124 (fun H locs hP hS => ?_)
            refine lv_aload_n hx hb dX13_pay_125 rfl (lv_at hl 1 rfl) ?_
            refine va_get (D := D) (ci := 11) (v := .ref (ad 1)) (C := RX13) (T := TX13) (N := 6) hx hb hts hX13 hown hK.1 hP 0 rfl rfl 0 (by decide) (hts (.fieldLink RX13 10 "PledgeHouseModel" "now" "LPledgeHouseModel$State;") (by decide +kernel)) (fun _ h9 => h9) rfl dX13_pay_126 ?_
            refine va_getN (D := D) (ci := 10) (v := .ref (ad 6)) (C := RX12) (T := TX12) (N := 4) hx hb hts hX12 hown hK.1 hP 1 rfl rfl 3 (by decide) (va_Nw.use rfl hK.2.2.2.2) (fun _ h9 => h9) rfl dX13_pay_129 ?_
            refine lv_iconst (v := 2) hx hb dX13_pay_132 (by decide) ?_
            refine lv_dup2_11 hx hb dX13_pay_133 rfl rfl ?_
            refine mx_cld hx hb hK.1 hP 2 rfl (by decide) (v := zc Z 2) ((zc_zcp_ne (by decide)).trans ((zc_tkp).trans zc_tkp)) dX13_pay_134 ?_
            refine lv_iload_n hx hb dX13_pay_135 rfl (lv_at hl 4 rfl) ?_
            refine lv_iload hx hb dX13_pay_136 (lv_at hl 0 rfl) ?_
            refine lv_isub hx hb dX13_pay_138 ?_
            refine lv_i2l (v := (coins - (if (tk Z (tN ticket) 2) < coins then (tk Z (tN ticket) 2) else coins)).toInt64) hx hb dX13_pay_139 rfl ?_
            refine lv_ladd hx hb dX13_pay_140 ?_
            refine mx_cst hx hb hK.1 hP (wM_D hi s.heap.size _) hS 2 rfl (by decide) dX13_pay_141 (fun H locs hP hS => ?_)
            refine lv_aload_n hx hb dX13_pay_142 rfl (lv_at hl 1 rfl) ?_
            refine lv_iload_n hx hb dX13_pay_143 rfl (lv_at hl 2 rfl) ?_
            refine lv_bipush (v := 20) hx hb dX13_pay_144 (by decide) ?_
            refine lv_iconst (v := (-1)) hx hb dX13_pay_146 (by decide) ?_
            refine m_wv S hK hP hS (As := [.int ticket, .int 20, .int (-1)]) (rest := []) (cM_put l D cI cJ ad (zcp (zcp (tkp (tkp Z (tN ticket) 2 ((tk Z (tN ticket) 2) - (if (tk Z (tN ticket) 2) < coins then (tk Z (tN ticket) 2) else coins))) (tN ticket) 1 ((tk Z (tN ticket) 1) - (coins - (if (tk Z (tN ticket) 2) < coins then (tk Z (tN ticket) 2) else coins)))) 1 ((zc Z 1) + ((if (tk Z (tN ticket) 2) < coins then (tk Z (tN ticket) 2) else coins).toInt64))) 2 ((zc Z 2) + ((coins - (if (tk Z (tN ticket) 2) < coins then (tk Z (tN ticket) 2) else coins)).toInt64))) _ hi ticket 20 (-1) (tok_of hC c_1) 20 rfl (by decide)) (cwV 3 hts gX13_pay_X13_put rfl rfl rfl (by decide +kernel) ⟨Nat.le_of_ble_eq_true rfl, Nat.le_of_ble_eq_true rfl⟩) rfl hl.1 rfl (Nat.le_of_ble_eq_true rfl) dX13_pay_147 ⟨Nat.zero_le _, Nat.zero_le _⟩ (fun H locs hP hS => ?_)
            refine lv_aload_n hx hb dX13_pay_150 rfl (lv_at hl 1 rfl) ?_
            refine lv_iload_n hx hb dX13_pay_151 rfl (lv_at hl 2 rfl) ?_
            refine lv_iload_n hx hb dX13_pay_152 rfl (lv_at hl 3 rfl) ?_
            refine m_wv S hK hP hS (As := [.int ticket, .int half]) (rest := []) (cM_shown l D cI cJ ad (tkp (zcp (zcp (tkp (tkp Z (tN ticket) 2 ((tk Z (tN ticket) 2) - (if (tk Z (tN ticket) 2) < coins then (tk Z (tN ticket) 2) else coins))) (tN ticket) 1 ((tk Z (tN ticket) 1) - (coins - (if (tk Z (tN ticket) 2) < coins then (tk Z (tN ticket) 2) else coins)))) 1 ((zc Z 1) + ((if (tk Z (tN ticket) 2) < coins then (tk Z (tN ticket) 2) else coins).toInt64))) 2 ((zc Z 2) + ((coins - (if (tk Z (tN ticket) 2) < coins then (tk Z (tN ticket) 2) else coins)).toInt64))) (tN ticket) 20 (-1)) _ hi ticket half (tok_of hC c_1)) (cwV 2 hts gX13_pay_X13_shown rfl rfl rfl (by decide +kernel) ⟨Nat.le_of_ble_eq_true rfl, Nat.le_of_ble_eq_true rfl⟩) rfl hl.1 rfl (Nat.le_of_ble_eq_true rfl) dX13_pay_153 ⟨Nat.zero_le _, Nat.zero_le _⟩ (fun H locs hP hS => ?_)
            refine lv_aload_n hx hb dX13_pay_156 rfl (lv_at hl 1 rfl) ?_
            refine lv_aload_n hx hb dX13_pay_157 rfl (lv_at hl 1 rfl) ?_
            refine lv_iload_n hx hb dX13_pay_158 rfl (lv_at hl 2 rfl) ?_
            refine m_rd S hK hP (As := [.int ticket]) (rest := [.ref (ad 0)]) (cM_owed l D cI cJ ad (sp_shown (tkp (zcp (zcp (tkp (tkp Z (tN ticket) 2 ((tk Z (tN ticket) 2) - (if (tk Z (tN ticket) 2) < coins then (tk Z (tN ticket) 2) else coins))) (tN ticket) 1 ((tk Z (tN ticket) 1) - (coins - (if (tk Z (tN ticket) 2) < coins then (tk Z (tN ticket) 2) else coins)))) 1 ((zc Z 1) + ((if (tk Z (tN ticket) 2) < coins then (tk Z (tN ticket) 2) else coins).toInt64))) 2 ((zc Z 2) + ((coins - (if (tk Z (tN ticket) 2) < coins then (tk Z (tN ticket) 2) else coins)).toInt64))) (tN ticket) 20 (-1)) ticket half) _ ticket (tok_of hC c_1)) (cwV 1 hts gX13_pay_X13_owed rfl rfl rfl (by decide +kernel) ⟨Nat.le_of_ble_eq_true rfl, Nat.le_of_ble_eq_true rfl⟩) rfl hl.1 rfl (Nat.le_of_ble_eq_true rfl) dX13_pay_159 ⟨Nat.zero_le _, Nat.zero_le _⟩ ?_
            refine m_wr S hK hP hS (As := [.int (sp_owed (sp_shown (tkp (zcp (zcp (tkp (tkp Z (tN ticket) 2 ((tk Z (tN ticket) 2) - (if (tk Z (tN ticket) 2) < coins then (tk Z (tN ticket) 2) else coins))) (tN ticket) 1 ((tk Z (tN ticket) 1) - (coins - (if (tk Z (tN ticket) 2) < coins then (tk Z (tN ticket) 2) else coins)))) 1 ((zc Z 1) + ((if (tk Z (tN ticket) 2) < coins then (tk Z (tN ticket) 2) else coins).toInt64))) 2 ((zc Z 2) + ((coins - (if (tk Z (tN ticket) 2) < coins then (tk Z (tN ticket) 2) else coins)).toInt64))) (tN ticket) 20 (-1)) ticket half) ticket)]) (rest := []) (cM_says l D cI cJ ad (sp_shown (tkp (zcp (zcp (tkp (tkp Z (tN ticket) 2 ((tk Z (tN ticket) 2) - (if (tk Z (tN ticket) 2) < coins then (tk Z (tN ticket) 2) else coins))) (tN ticket) 1 ((tk Z (tN ticket) 1) - (coins - (if (tk Z (tN ticket) 2) < coins then (tk Z (tN ticket) 2) else coins)))) 1 ((zc Z 1) + ((if (tk Z (tN ticket) 2) < coins then (tk Z (tN ticket) 2) else coins).toInt64))) 2 ((zc Z 2) + ((coins - (if (tk Z (tN ticket) 2) < coins then (tk Z (tN ticket) 2) else coins)).toInt64))) (tN ticket) 20 (-1)) ticket half) _ hi (sp_owed (sp_shown (tkp (zcp (zcp (tkp (tkp Z (tN ticket) 2 ((tk Z (tN ticket) 2) - (if (tk Z (tN ticket) 2) < coins then (tk Z (tN ticket) 2) else coins))) (tN ticket) 1 ((tk Z (tN ticket) 1) - (coins - (if (tk Z (tN ticket) 2) < coins then (tk Z (tN ticket) 2) else coins)))) 1 ((zc Z 1) + ((if (tk Z (tN ticket) 2) < coins then (tk Z (tN ticket) 2) else coins).toInt64))) 2 ((zc Z 2) + ((coins - (if (tk Z (tN ticket) 2) < coins then (tk Z (tN ticket) 2) else coins)).toInt64))) (tN ticket) 20 (-1)) ticket half) ticket)) (cwV 1 hts gX13_pay_X13_says rfl rfl rfl (by decide +kernel) ⟨Nat.le_of_ble_eq_true rfl, Nat.le_of_ble_eq_true rfl⟩) rfl hl.1 rfl (Nat.le_of_ble_eq_true rfl) dX13_pay_162 ⟨Nat.zero_le _, Nat.zero_le _⟩ (fun H locs hP hS => ?_)
            have hsp : sp_pay Z ticket half coins = (sp_owed (sp_shown (tkp (zcp (zcp (tkp (tkp Z (tN ticket) 2 ((tk Z (tN ticket) 2) - (if (tk Z (tN ticket) 2) < coins then (tk Z (tN ticket) 2) else coins))) (tN ticket) 1 ((tk Z (tN ticket) 1) - (coins - (if (tk Z (tN ticket) 2) < coins then (tk Z (tN ticket) 2) else coins)))) 1 ((zc Z 1) + ((if (tk Z (tN ticket) 2) < coins then (tk Z (tN ticket) 2) else coins).toInt64))) 2 ((zc Z 2) + ((coins - (if (tk Z (tN ticket) 2) < coins then (tk Z (tN ticket) 2) else coins)).toInt64))) (tN ticket) 20 (-1)) ticket half) ticket, zR (sp_shown (tkp (zcp (zcp (tkp (tkp Z (tN ticket) 2 ((tk Z (tN ticket) 2) - (if (tk Z (tN ticket) 2) < coins then (tk Z (tN ticket) 2) else coins))) (tN ticket) 1 ((tk Z (tN ticket) 1) - (coins - (if (tk Z (tN ticket) 2) < coins then (tk Z (tN ticket) 2) else coins)))) 1 ((zc Z 1) + ((if (tk Z (tN ticket) 2) < coins then (tk Z (tN ticket) 2) else coins).toInt64))) 2 ((zc Z 2) + ((coins - (if (tk Z (tN ticket) 2) < coins then (tk Z (tN ticket) 2) else coins)).toInt64))) (tN ticket) 20 (-1)) ticket half) (sp_owed (sp_shown (tkp (zcp (zcp (tkp (tkp Z (tN ticket) 2 ((tk Z (tN ticket) 2) - (if (tk Z (tN ticket) 2) < coins then (tk Z (tN ticket) 2) else coins))) (tN ticket) 1 ((tk Z (tN ticket) 1) - (coins - (if (tk Z (tN ticket) 2) < coins then (tk Z (tN ticket) 2) else coins)))) 1 ((zc Z 1) + ((if (tk Z (tN ticket) 2) < coins then (tk Z (tN ticket) 2) else coins).toInt64))) 2 ((zc Z 2) + ((coins - (if (tk Z (tN ticket) 2) < coins then (tk Z (tN ticket) 2) else coins)).toInt64))) (tN ticket) 20 (-1)) ticket half) ticket)) := by unfold sp_pay; rw [if_neg c_1, if_neg c_2, if_neg c_3, if_neg c_4, if_pos c_5]
            exact W.iret hx hb hr (fun t2 ht2 hW => by rw [hsp]; exact ⟨rfl, by rw [ht2]; exact hP, hS.F ht2⟩) hS.2.2 dX13_pay_165 hlocks
          · refine lv_aload_n hx hb dX13_pay_59 rfl (lv_at hl 0 rfl) ?_
            refine lv_bipush (v := (-6)) hx hb dX13_pay_60 (by decide) ?_
            refine m_wr S hK hP hS (As := [.int (-6)]) (rest := []) (cM_says l D cI cJ ad Z _ hi (-6)) (cwV 1 hts gX13_pay_X13_says rfl rfl rfl (by decide +kernel) ⟨Nat.le_of_ble_eq_true rfl, Nat.le_of_ble_eq_true rfl⟩) rfl hl.1 rfl (Nat.le_of_ble_eq_true rfl) dX13_pay_62 ⟨Nat.zero_le _, Nat.zero_le _⟩ (fun H locs hP hS => ?_)
            have hsp : sp_pay Z ticket half coins = ((-6), zR Z (-6)) := by unfold sp_pay; rw [if_neg c_1, if_neg c_2, if_neg c_3, if_neg c_4, if_neg c_5]
            exact W.iret hx hb hr (fun t2 ht2 hW => by rw [hsp]; exact ⟨rfl, by rw [ht2]; exact hP, hS.F ht2⟩) hS.2.2 dX13_pay_65 hlocks
      · refine lv_aload_n hx hb dX13_pay_38 rfl (lv_at hl 0 rfl) ?_
        refine lv_bipush (v := (-4)) hx hb dX13_pay_39 (by decide) ?_
        refine m_wr S hK hP hS (As := [.int (-4)]) (rest := []) (cM_says l D cI cJ ad Z _ hi (-4)) (cwV 1 hts gX13_pay_X13_says rfl rfl rfl (by decide +kernel) ⟨Nat.le_of_ble_eq_true rfl, Nat.le_of_ble_eq_true rfl⟩) rfl hl.1 rfl (Nat.le_of_ble_eq_true rfl) dX13_pay_41 ⟨Nat.zero_le _, Nat.zero_le _⟩ (fun H locs hP hS => ?_)
        have hsp : sp_pay Z ticket half coins = ((-4), zR Z (-4)) := by unfold sp_pay; rw [if_neg c_1, if_neg c_2, if_pos c_3]
        exact W.iret hx hb hr (fun t2 ht2 hW => by rw [hsp]; exact ⟨rfl, by rw [ht2]; exact hP, hS.F ht2⟩) hS.2.2 dX13_pay_44 hlocks
    · refine lv_aload_n hx hb dX13_pay_22 rfl (lv_at hl 0 rfl) ?_
      refine lv_bipush (v := (-2)) hx hb dX13_pay_23 (by decide) ?_
      refine m_wr S hK hP hS (As := [.int (-2)]) (rest := []) (cM_says l D cI cJ ad Z _ hi (-2)) (cwV 1 hts gX13_pay_X13_says rfl rfl rfl (by decide +kernel) ⟨Nat.le_of_ble_eq_true rfl, Nat.le_of_ble_eq_true rfl⟩) rfl hl.1 rfl (Nat.le_of_ble_eq_true rfl) dX13_pay_25 ⟨Nat.zero_le _, Nat.zero_le _⟩ (fun H locs hP hS => ?_)
      have hsp : sp_pay Z ticket half coins = ((-2), zR Z (-2)) := by unfold sp_pay; rw [if_neg c_1, if_pos c_2]
      exact W.iret hx hb hr (fun t2 ht2 hW => by rw [hsp]; exact ⟨rfl, by rw [ht2]; exact hP, hS.F ht2⟩) hS.2.2 dX13_pay_28 hlocks
  · refine lv_aload_n hx hb dX13_pay_8 rfl (lv_at hl 0 rfl) ?_
    refine lv_iconst (v := (-1)) hx hb dX13_pay_9 (by decide) ?_
    refine m_wr S hK hP hS (As := [.int (-1)]) (rest := []) (cM_says l D cI cJ ad Z _ hi (-1)) (cwV 1 hts gX13_pay_X13_says rfl rfl rfl (by decide +kernel) ⟨Nat.le_of_ble_eq_true rfl, Nat.le_of_ble_eq_true rfl⟩) rfl hl.1 rfl (Nat.le_of_ble_eq_true rfl) dX13_pay_10 ⟨Nat.zero_le _, Nat.zero_le _⟩ (fun H locs hP hS => ?_)
    have hsp : sp_pay Z ticket half coins = ((-1), zR Z (-1)) := by unfold sp_pay; rw [if_pos c_1]
    exact W.iret hx hb hr (fun t2 ht2 hW => by rw [hsp]; exact ⟨rfl, by rw [ht2]; exact hP, hS.F ht2⟩) hS.2.2 dX13_pay_13 hlocks
def sp_undo (Z : mZ) (ticket : Int32) : Int32 × mZ :=
  if (sp_isTicket Z ticket) = 0 then
    ((-1), zR Z (-1))
  else
    if (sp_isOpen Z ticket) = 0 then
      ((-2), zR Z (-2))
    else
      if (tk Z (tN ticket) 20) = (-1) then
        ((-2), zR Z (-2))
      else
        if (tk Z (tN ticket) 20) = (zh Z 0) then
          (tk Z (tN ticket) 25, zR (zcp (tkp (tkp (tkp (tkp (tkp (tkp (tkp Z (tN ticket) 4 (tk Z (tN ticket) 21)) (tN ticket) 5 (tk Z (tN ticket) 22)) (tN ticket) 6 (tk Z (tN ticket) 23)) (tN ticket) 3 (tk Z (tN ticket) 24)) (tN ticket) 2 (tk Z (tN ticket) 25)) (tN ticket) 9 (tk Z (tN ticket) 26)) (tN ticket) 20 (-1)) 1 ((zc Z 1) - ((tk Z (tN ticket) 25).toInt64))) (tk Z (tN ticket) 25))
        else
          ((-5), zR Z (-5))
set_option maxHeartbeats 4000000 in
set_option maxRecDepth 100000 in
theorem cM_undo (l : Launch) (D : va_G) (cI cJ : ClassId) (ad : Nat → Nat) (Z : mZ) (sz : Nat) (hi : mI ad) (ticket : Int32) (hC : cok Z) : Met l yX13_undo wsX13_undo ({ frames := 2, cells := 0, slots := 0, locals := 43 }) (mPc [.ref (ad 0), .int ticket] D cI cJ ad Z sz) (mQ D cI cJ ad (some (.int (sp_undo Z ticket).1)) (sp_undo Z ticket).2 sz) 0 0 (mA ad sz) := by
  refine m_in (cc := cX13_undo) (maxL := 3) (ret := (some .int)) (lv := [(0, .ref (ad 0)), (1, .int ticket)]) (by decide) rfl (Nat.le_of_ble_eq_true rfl) rfl ?_
  intro p e s m below meth c ls S hr hlocks hin hsz hP hK hl hS
  subst hsz
  obtain ⟨hx, hb, hml, hown, hts⟩ := id S
  have hX12 : ∀ w ∈ wsX120, w ∈ wsX13_undo := by decide +kernel
  have hX13 : ∀ w ∈ wsX130, w ∈ wsX13_undo := by decide +kernel
  refine lv_aload_n hx hb dX13_undo_0 rfl (lv_at hl 0 rfl) ?_
  refine lv_iload_n hx hb dX13_undo_1 rfl (lv_at hl 1 rfl) ?_
  refine m_rd S hK hP (As := [.int ticket]) (rest := []) (cM_isTicket l D cI cJ ad Z _ ticket ) (cwV 1 hts gX13_undo_X13_isTicket rfl rfl rfl (by decide +kernel) ⟨Nat.le_of_ble_eq_true rfl, Nat.le_of_ble_eq_true rfl⟩) rfl hl.1 rfl (Nat.le_of_ble_eq_true rfl) dX13_undo_2 ⟨Nat.zero_le _, Nat.zero_le _⟩ ?_
  refine lv_if_ne (tgt := 14) hx hb dX13_undo_5 (by decide) (fun c_1 => ?_) (fun c_1 => ?_)
  · refine lv_aload_n hx hb dX13_undo_14 rfl (lv_at hl 0 rfl) ?_
    refine lv_iload_n hx hb dX13_undo_15 rfl (lv_at hl 1 rfl) ?_
    refine m_rd S hK hP (As := [.int ticket]) (rest := []) (cM_isOpen l D cI cJ ad Z _ ticket (tok_of hC c_1)) (cwV 1 hts gX13_undo_X13_isOpen rfl rfl rfl (by decide +kernel) ⟨Nat.le_of_ble_eq_true rfl, Nat.le_of_ble_eq_true rfl⟩) rfl hl.1 rfl (Nat.le_of_ble_eq_true rfl) dX13_undo_16 ⟨Nat.zero_le _, Nat.zero_le _⟩ ?_
    refine lv_if_eq (tgt := 33) hx hb dX13_undo_19 (by decide) (fun c_2 => ?_) (fun c_2 => ?_)
    · refine lv_aload_n hx hb dX13_undo_33 rfl (lv_at hl 0 rfl) ?_
      refine lv_bipush (v := (-2)) hx hb dX13_undo_34 (by decide) ?_
      refine m_wr S hK hP hS (As := [.int (-2)]) (rest := []) (cM_says l D cI cJ ad Z _ hi (-2)) (cwV 1 hts gX13_undo_X13_says rfl rfl rfl (by decide +kernel) ⟨Nat.le_of_ble_eq_true rfl, Nat.le_of_ble_eq_true rfl⟩) rfl hl.1 rfl (Nat.le_of_ble_eq_true rfl) dX13_undo_36 ⟨Nat.zero_le _, Nat.zero_le _⟩ (fun H locs hP hS => ?_)
      have hsp : sp_undo Z ticket = ((-2), zR Z (-2)) := by unfold sp_undo; rw [if_neg c_1, if_pos c_2]
      exact W.iret hx hb hr (fun t2 ht2 hW => by rw [hsp]; exact ⟨rfl, by rw [ht2]; exact hP, hS.F ht2⟩) hS.2.2 dX13_undo_39 hlocks
    · refine lv_aload_n hx hb dX13_undo_22 rfl (lv_at hl 0 rfl) ?_
      refine lv_iload_n hx hb dX13_undo_23 rfl (lv_at hl 1 rfl) ?_
      refine lv_bipush (v := 20) hx hb dX13_undo_24 (by decide) ?_
      refine m_rd S hK hP (As := [.int ticket, .int 20]) (rest := []) (cM_of l D cI cJ ad Z _ ticket 20 (tok_of hC c_1) 20 rfl (by decide)) (cwV 2 hts gX13_undo_X13_of rfl rfl rfl (by decide +kernel) ⟨Nat.le_of_ble_eq_true rfl, Nat.le_of_ble_eq_true rfl⟩) rfl hl.1 rfl (Nat.le_of_ble_eq_true rfl) dX13_undo_26 ⟨Nat.zero_le _, Nat.zero_le _⟩ ?_
      refine lv_iconst (v := (-1)) hx hb dX13_undo_29 (by decide) ?_
      refine lv_icmp_ne (tgt := 40) hx hb dX13_undo_30 (by decide) (fun c_3 => ?_) (fun c_3 => ?_)
      · refine lv_aload_n hx hb dX13_undo_40 rfl (lv_at hl 0 rfl) ?_
        refine lv_iload_n hx hb dX13_undo_41 rfl (lv_at hl 1 rfl) ?_
        refine lv_bipush (v := 20) hx hb dX13_undo_42 (by decide) ?_
        refine m_rd S hK hP (As := [.int ticket, .int 20]) (rest := []) (cM_of l D cI cJ ad Z _ ticket 20 (tok_of hC c_1) 20 rfl (by decide)) (cwV 2 hts gX13_undo_X13_of rfl rfl rfl (by decide +kernel) ⟨Nat.le_of_ble_eq_true rfl, Nat.le_of_ble_eq_true rfl⟩) rfl hl.1 rfl (Nat.le_of_ble_eq_true rfl) dX13_undo_44 ⟨Nat.zero_le _, Nat.zero_le _⟩ ?_
        refine lv_aload_n hx hb dX13_undo_47 rfl (lv_at hl 0 rfl) ?_
        refine m_rd S hK hP (As := []) (rest := [.int (tk Z (tN ticket) 20)]) (cM_today l D cI cJ ad Z _) (cwV 0 hts gX13_undo_X13_today rfl rfl rfl (by decide +kernel) ⟨Nat.le_of_ble_eq_true rfl, Nat.le_of_ble_eq_true rfl⟩) rfl hl.1 rfl (Nat.le_of_ble_eq_true rfl) dX13_undo_48 ⟨Nat.zero_le _, Nat.zero_le _⟩ ?_
        refine lv_icmp_eq (tgt := 61) hx hb dX13_undo_51 (by decide) (fun c_4 => ?_) (fun c_4 => ?_)
        · refine lv_aload_n hx hb dX13_undo_61 rfl (lv_at hl 0 rfl) ?_
          refine lv_iload_n hx hb dX13_undo_62 rfl (lv_at hl 1 rfl) ?_
          refine lv_bipush (v := 25) hx hb dX13_undo_63 (by decide) ?_
          refine m_rd S hK hP (As := [.int ticket, .int 25]) (rest := []) (cM_of l D cI cJ ad Z _ ticket 25 (tok_of hC c_1) 25 rfl (by decide)) (cwV 2 hts gX13_undo_X13_of rfl rfl rfl (by decide +kernel) ⟨Nat.le_of_ble_eq_true rfl, Nat.le_of_ble_eq_true rfl⟩) rfl hl.1 rfl (Nat.le_of_ble_eq_true rfl) dX13_undo_65 ⟨Nat.zero_le _, Nat.zero_le _⟩ ?_
          refine lv_istore_n (lv' := [(2, .int (tk Z (tN ticket) 25)), (0, .ref (ad 0)), (1, .int ticket)]) hx hb dX13_undo_68 rfl hl (by decide) rfl (fun ls hl => ?_)
          refine lv_aload_n hx hb dX13_undo_69 rfl (lv_at hl 1 rfl) ?_
          refine lv_iload_n hx hb dX13_undo_70 rfl (lv_at hl 2 rfl) ?_
          refine lv_iconst (v := 4) hx hb dX13_undo_71 (by decide) ?_
          refine lv_aload_n hx hb dX13_undo_72 rfl (lv_at hl 1 rfl) ?_
          refine lv_iload_n hx hb dX13_undo_73 rfl (lv_at hl 2 rfl) ?_
          refine lv_bipush (v := 21) hx hb dX13_undo_74 (by decide) ?_
          refine m_rd S hK hP (As := [.int ticket, .int 21]) (rest := [.int 4, .int ticket, .ref (ad 0)]) (cM_of l D cI cJ ad Z _ ticket 21 (tok_of hC c_1) 21 rfl (by decide)) (cwV 2 hts gX13_undo_X13_of rfl rfl rfl (by decide +kernel) ⟨Nat.le_of_ble_eq_true rfl, Nat.le_of_ble_eq_true rfl⟩) rfl hl.1 rfl (Nat.le_of_ble_eq_true rfl) dX13_undo_76 ⟨Nat.zero_le _, Nat.zero_le _⟩ ?_
          refine m_wv S hK hP hS (As := [.int ticket, .int 4, .int (tk Z (tN ticket) 21)]) (rest := []) (cM_put l D cI cJ ad Z _ hi ticket 4 (tk Z (tN ticket) 21) (tok_of hC c_1) 4 rfl (by decide)) (cwV 3 hts gX13_undo_X13_put rfl rfl rfl (by decide +kernel) ⟨Nat.le_of_ble_eq_true rfl, Nat.le_of_ble_eq_true rfl⟩) rfl hl.1 rfl (Nat.le_of_ble_eq_true rfl) dX13_undo_79 ⟨Nat.zero_le _, Nat.zero_le _⟩ (fun H locs hP hS => ?_)
          refine lv_aload_n hx hb dX13_undo_82 rfl (lv_at hl 1 rfl) ?_
          refine lv_iload_n hx hb dX13_undo_83 rfl (lv_at hl 2 rfl) ?_
          refine lv_iconst (v := 5) hx hb dX13_undo_84 (by decide) ?_
          refine lv_aload_n hx hb dX13_undo_85 rfl (lv_at hl 1 rfl) ?_
          refine lv_iload_n hx hb dX13_undo_86 rfl (lv_at hl 2 rfl) ?_
          refine lv_bipush (v := 22) hx hb dX13_undo_87 (by decide) ?_
          refine m_rd S hK hP (As := [.int ticket, .int 22]) (rest := [.int 5, .int ticket, .ref (ad 0)]) (met_r (show tk (tkp Z (tN ticket) 4 (tk Z (tN ticket) 21)) (tN ticket) 22 = tk Z (tN ticket) 22 from (tk_ne (by decide))) (cM_of l D cI cJ ad (tkp Z (tN ticket) 4 (tk Z (tN ticket) 21)) _ ticket 22 (tok_of hC c_1) 22 rfl (by decide))) (cwV 2 hts gX13_undo_X13_of rfl rfl rfl (by decide +kernel) ⟨Nat.le_of_ble_eq_true rfl, Nat.le_of_ble_eq_true rfl⟩) rfl hl.1 rfl (Nat.le_of_ble_eq_true rfl) dX13_undo_89 ⟨Nat.zero_le _, Nat.zero_le _⟩ ?_
          refine m_wv S hK hP hS (As := [.int ticket, .int 5, .int (tk Z (tN ticket) 22)]) (rest := []) (cM_put l D cI cJ ad (tkp Z (tN ticket) 4 (tk Z (tN ticket) 21)) _ hi ticket 5 (tk Z (tN ticket) 22) (tok_of hC c_1) 5 rfl (by decide)) (cwV 3 hts gX13_undo_X13_put rfl rfl rfl (by decide +kernel) ⟨Nat.le_of_ble_eq_true rfl, Nat.le_of_ble_eq_true rfl⟩) rfl hl.1 rfl (Nat.le_of_ble_eq_true rfl) dX13_undo_92 ⟨Nat.zero_le _, Nat.zero_le _⟩ (fun H locs hP hS => ?_)
          refine lv_aload_n hx hb dX13_undo_95 rfl (lv_at hl 1 rfl) ?_
          refine lv_iload_n hx hb dX13_undo_96 rfl (lv_at hl 2 rfl) ?_
          refine lv_bipush (v := 6) hx hb dX13_undo_97 (by decide) ?_
          refine lv_aload_n hx hb dX13_undo_99 rfl (lv_at hl 1 rfl) ?_
          refine lv_iload_n hx hb dX13_undo_100 rfl (lv_at hl 2 rfl) ?_
          refine lv_bipush (v := 23) hx hb dX13_undo_101 (by decide) ?_
          refine m_rd S hK hP (As := [.int ticket, .int 23]) (rest := [.int 6, .int ticket, .ref (ad 0)]) (met_r (show tk (tkp (tkp Z (tN ticket) 4 (tk Z (tN ticket) 21)) (tN ticket) 5 (tk Z (tN ticket) 22)) (tN ticket) 23 = tk Z (tN ticket) 23 from ((tk_ne (by decide)).trans (tk_ne (by decide)))) (cM_of l D cI cJ ad (tkp (tkp Z (tN ticket) 4 (tk Z (tN ticket) 21)) (tN ticket) 5 (tk Z (tN ticket) 22)) _ ticket 23 (tok_of hC c_1) 23 rfl (by decide))) (cwV 2 hts gX13_undo_X13_of rfl rfl rfl (by decide +kernel) ⟨Nat.le_of_ble_eq_true rfl, Nat.le_of_ble_eq_true rfl⟩) rfl hl.1 rfl (Nat.le_of_ble_eq_true rfl) dX13_undo_103 ⟨Nat.zero_le _, Nat.zero_le _⟩ ?_
          refine m_wv S hK hP hS (As := [.int ticket, .int 6, .int (tk Z (tN ticket) 23)]) (rest := []) (cM_put l D cI cJ ad (tkp (tkp Z (tN ticket) 4 (tk Z (tN ticket) 21)) (tN ticket) 5 (tk Z (tN ticket) 22)) _ hi ticket 6 (tk Z (tN ticket) 23) (tok_of hC c_1) 6 rfl (by decide)) (cwV 3 hts gX13_undo_X13_put rfl rfl rfl (by decide +kernel) ⟨Nat.le_of_ble_eq_true rfl, Nat.le_of_ble_eq_true rfl⟩) rfl hl.1 rfl (Nat.le_of_ble_eq_true rfl) dX13_undo_106 ⟨Nat.zero_le _, Nat.zero_le _⟩ (fun H locs hP hS => ?_)
          refine lv_aload_n hx hb dX13_undo_109 rfl (lv_at hl 1 rfl) ?_
          refine lv_iload_n hx hb dX13_undo_110 rfl (lv_at hl 2 rfl) ?_
          refine lv_iconst (v := 3) hx hb dX13_undo_111 (by decide) ?_
          refine lv_aload_n hx hb dX13_undo_112 rfl (lv_at hl 1 rfl) ?_
          refine lv_iload_n hx hb dX13_undo_113 rfl (lv_at hl 2 rfl) ?_
          refine lv_bipush (v := 24) hx hb dX13_undo_114 (by decide) ?_
          refine m_rd S hK hP (As := [.int ticket, .int 24]) (rest := [.int 3, .int ticket, .ref (ad 0)]) (met_r (show tk (tkp (tkp (tkp Z (tN ticket) 4 (tk Z (tN ticket) 21)) (tN ticket) 5 (tk Z (tN ticket) 22)) (tN ticket) 6 (tk Z (tN ticket) 23)) (tN ticket) 24 = tk Z (tN ticket) 24 from ((tk_ne (by decide)).trans ((tk_ne (by decide)).trans (tk_ne (by decide))))) (cM_of l D cI cJ ad (tkp (tkp (tkp Z (tN ticket) 4 (tk Z (tN ticket) 21)) (tN ticket) 5 (tk Z (tN ticket) 22)) (tN ticket) 6 (tk Z (tN ticket) 23)) _ ticket 24 (tok_of hC c_1) 24 rfl (by decide))) (cwV 2 hts gX13_undo_X13_of rfl rfl rfl (by decide +kernel) ⟨Nat.le_of_ble_eq_true rfl, Nat.le_of_ble_eq_true rfl⟩) rfl hl.1 rfl (Nat.le_of_ble_eq_true rfl) dX13_undo_116 ⟨Nat.zero_le _, Nat.zero_le _⟩ ?_
          refine m_wv S hK hP hS (As := [.int ticket, .int 3, .int (tk Z (tN ticket) 24)]) (rest := []) (cM_put l D cI cJ ad (tkp (tkp (tkp Z (tN ticket) 4 (tk Z (tN ticket) 21)) (tN ticket) 5 (tk Z (tN ticket) 22)) (tN ticket) 6 (tk Z (tN ticket) 23)) _ hi ticket 3 (tk Z (tN ticket) 24) (tok_of hC c_1) 3 rfl (by decide)) (cwV 3 hts gX13_undo_X13_put rfl rfl rfl (by decide +kernel) ⟨Nat.le_of_ble_eq_true rfl, Nat.le_of_ble_eq_true rfl⟩) rfl hl.1 rfl (Nat.le_of_ble_eq_true rfl) dX13_undo_119 ⟨Nat.zero_le _, Nat.zero_le _⟩ (fun H locs hP hS => ?_)
          refine lv_aload_n hx hb dX13_undo_122 rfl (lv_at hl 1 rfl) ?_
          refine lv_iload_n hx hb dX13_undo_123 rfl (lv_at hl 2 rfl) ?_
          refine lv_iconst (v := 2) hx hb dX13_undo_124 (by decide) ?_
          refine lv_iload_n hx hb dX13_undo_125 rfl (lv_at hl 0 rfl) ?_
          refine m_wv S hK hP hS (As := [.int ticket, .int 2, .int (tk Z (tN ticket) 25)]) (rest := []) (cM_put l D cI cJ ad (tkp (tkp (tkp (tkp Z (tN ticket) 4 (tk Z (tN ticket) 21)) (tN ticket) 5 (tk Z (tN ticket) 22)) (tN ticket) 6 (tk Z (tN ticket) 23)) (tN ticket) 3 (tk Z (tN ticket) 24)) _ hi ticket 2 (tk Z (tN ticket) 25) (tok_of hC c_1) 2 rfl (by decide)) (cwV 3 hts gX13_undo_X13_put rfl rfl rfl (by decide +kernel) ⟨Nat.le_of_ble_eq_true rfl, Nat.le_of_ble_eq_true rfl⟩) rfl hl.1 rfl (Nat.le_of_ble_eq_true rfl) dX13_undo_126 ⟨Nat.zero_le _, Nat.zero_le _⟩ (fun H locs hP hS => ?_)
          refine lv_aload_n hx hb dX13_undo_129 rfl (lv_at hl 1 rfl) ?_
          refine lv_iload_n hx hb dX13_undo_130 rfl (lv_at hl 2 rfl) ?_
          refine lv_bipush (v := 9) hx hb dX13_undo_131 (by decide) ?_
          refine lv_aload_n hx hb dX13_undo_133 rfl (lv_at hl 1 rfl) ?_
          refine lv_iload_n hx hb dX13_undo_134 rfl (lv_at hl 2 rfl) ?_
          refine lv_bipush (v := 26) hx hb dX13_undo_135 (by decide) ?_
          refine m_rd S hK hP (As := [.int ticket, .int 26]) (rest := [.int 9, .int ticket, .ref (ad 0)]) (met_r (show tk (tkp (tkp (tkp (tkp (tkp Z (tN ticket) 4 (tk Z (tN ticket) 21)) (tN ticket) 5 (tk Z (tN ticket) 22)) (tN ticket) 6 (tk Z (tN ticket) 23)) (tN ticket) 3 (tk Z (tN ticket) 24)) (tN ticket) 2 (tk Z (tN ticket) 25)) (tN ticket) 26 = tk Z (tN ticket) 26 from ((tk_ne (by decide)).trans ((tk_ne (by decide)).trans ((tk_ne (by decide)).trans ((tk_ne (by decide)).trans (tk_ne (by decide))))))) (cM_of l D cI cJ ad (tkp (tkp (tkp (tkp (tkp Z (tN ticket) 4 (tk Z (tN ticket) 21)) (tN ticket) 5 (tk Z (tN ticket) 22)) (tN ticket) 6 (tk Z (tN ticket) 23)) (tN ticket) 3 (tk Z (tN ticket) 24)) (tN ticket) 2 (tk Z (tN ticket) 25)) _ ticket 26 (tok_of hC c_1) 26 rfl (by decide))) (cwV 2 hts gX13_undo_X13_of rfl rfl rfl (by decide +kernel) ⟨Nat.le_of_ble_eq_true rfl, Nat.le_of_ble_eq_true rfl⟩) rfl hl.1 rfl (Nat.le_of_ble_eq_true rfl) dX13_undo_137 ⟨Nat.zero_le _, Nat.zero_le _⟩ ?_
          refine m_wv S hK hP hS (As := [.int ticket, .int 9, .int (tk Z (tN ticket) 26)]) (rest := []) (cM_put l D cI cJ ad (tkp (tkp (tkp (tkp (tkp Z (tN ticket) 4 (tk Z (tN ticket) 21)) (tN ticket) 5 (tk Z (tN ticket) 22)) (tN ticket) 6 (tk Z (tN ticket) 23)) (tN ticket) 3 (tk Z (tN ticket) 24)) (tN ticket) 2 (tk Z (tN ticket) 25)) _ hi ticket 9 (tk Z (tN ticket) 26) (tok_of hC c_1) 9 rfl (by decide)) (cwV 3 hts gX13_undo_X13_put rfl rfl rfl (by decide +kernel) ⟨Nat.le_of_ble_eq_true rfl, Nat.le_of_ble_eq_true rfl⟩) rfl hl.1 rfl (Nat.le_of_ble_eq_true rfl) dX13_undo_140 ⟨Nat.zero_le _, Nat.zero_le _⟩ (fun H locs hP hS => ?_)
          refine lv_aload_n hx hb dX13_undo_143 rfl (lv_at hl 1 rfl) ?_
          refine lv_iload_n hx hb dX13_undo_144 rfl (lv_at hl 2 rfl) ?_
          refine lv_bipush (v := 20) hx hb dX13_undo_145 (by decide) ?_
          refine lv_iconst (v := (-1)) hx hb dX13_undo_147 (by decide) ?_
          refine m_wv S hK hP hS (As := [.int ticket, .int 20, .int (-1)]) (rest := []) (cM_put l D cI cJ ad (tkp (tkp (tkp (tkp (tkp (tkp Z (tN ticket) 4 (tk Z (tN ticket) 21)) (tN ticket) 5 (tk Z (tN ticket) 22)) (tN ticket) 6 (tk Z (tN ticket) 23)) (tN ticket) 3 (tk Z (tN ticket) 24)) (tN ticket) 2 (tk Z (tN ticket) 25)) (tN ticket) 9 (tk Z (tN ticket) 26)) _ hi ticket 20 (-1) (tok_of hC c_1) 20 rfl (by decide)) (cwV 3 hts gX13_undo_X13_put rfl rfl rfl (by decide +kernel) ⟨Nat.le_of_ble_eq_true rfl, Nat.le_of_ble_eq_true rfl⟩) rfl hl.1 rfl (Nat.le_of_ble_eq_true rfl) dX13_undo_148 ⟨Nat.zero_le _, Nat.zero_le _⟩ (fun H locs hP hS => ?_)
          refine lv_aload_n hx hb dX13_undo_151 rfl (lv_at hl 1 rfl) ?_
          refine va_get (D := D) (ci := 11) (v := .ref (ad 1)) (C := RX13) (T := TX13) (N := 6) hx hb hts hX13 hown hK.1 hP 0 rfl rfl 0 (by decide) (hts (.fieldLink RX13 10 "PledgeHouseModel" "now" "LPledgeHouseModel$State;") (by decide +kernel)) (fun _ h9 => h9) rfl dX13_undo_152 ?_
          refine va_getN (D := D) (ci := 10) (v := .ref (ad 6)) (C := RX12) (T := TX12) (N := 4) hx hb hts hX12 hown hK.1 hP 1 rfl rfl 3 (by decide) (va_Nw.use rfl hK.2.2.2.2) (fun _ h9 => h9) rfl dX13_undo_155 ?_
          refine lv_iconst (v := 1) hx hb dX13_undo_158 (by decide) ?_
          refine lv_dup2_11 hx hb dX13_undo_159 rfl rfl ?_
          refine mx_cld hx hb hK.1 hP 1 rfl (by decide) (v := zc Z 1) ((zc_tkp).trans ((zc_tkp).trans ((zc_tkp).trans ((zc_tkp).trans ((zc_tkp).trans ((zc_tkp).trans zc_tkp)))))) dX13_undo_160 ?_
          refine lv_iload_n hx hb dX13_undo_161 rfl (lv_at hl 0 rfl) ?_
          refine lv_i2l (v := (tk Z (tN ticket) 25).toInt64) hx hb dX13_undo_162 rfl ?_
          refine lv_lsub hx hb dX13_undo_163 ?_
          refine mx_cst hx hb hK.1 hP (wM_D hi s.heap.size _) hS 1 rfl (by decide) dX13_undo_164 (fun H locs hP hS => ?_)
          refine lv_aload_n hx hb dX13_undo_165 rfl (lv_at hl 1 rfl) ?_
          refine lv_iload_n hx hb dX13_undo_166 rfl (lv_at hl 0 rfl) ?_
          refine m_wr S hK hP hS (As := [.int (tk Z (tN ticket) 25)]) (rest := []) (cM_says l D cI cJ ad (zcp (tkp (tkp (tkp (tkp (tkp (tkp (tkp Z (tN ticket) 4 (tk Z (tN ticket) 21)) (tN ticket) 5 (tk Z (tN ticket) 22)) (tN ticket) 6 (tk Z (tN ticket) 23)) (tN ticket) 3 (tk Z (tN ticket) 24)) (tN ticket) 2 (tk Z (tN ticket) 25)) (tN ticket) 9 (tk Z (tN ticket) 26)) (tN ticket) 20 (-1)) 1 ((zc Z 1) - ((tk Z (tN ticket) 25).toInt64))) _ hi (tk Z (tN ticket) 25)) (cwV 1 hts gX13_undo_X13_says rfl rfl rfl (by decide +kernel) ⟨Nat.le_of_ble_eq_true rfl, Nat.le_of_ble_eq_true rfl⟩) rfl hl.1 rfl (Nat.le_of_ble_eq_true rfl) dX13_undo_167 ⟨Nat.zero_le _, Nat.zero_le _⟩ (fun H locs hP hS => ?_)
          have hsp : sp_undo Z ticket = (tk Z (tN ticket) 25, zR (zcp (tkp (tkp (tkp (tkp (tkp (tkp (tkp Z (tN ticket) 4 (tk Z (tN ticket) 21)) (tN ticket) 5 (tk Z (tN ticket) 22)) (tN ticket) 6 (tk Z (tN ticket) 23)) (tN ticket) 3 (tk Z (tN ticket) 24)) (tN ticket) 2 (tk Z (tN ticket) 25)) (tN ticket) 9 (tk Z (tN ticket) 26)) (tN ticket) 20 (-1)) 1 ((zc Z 1) - ((tk Z (tN ticket) 25).toInt64))) (tk Z (tN ticket) 25)) := by unfold sp_undo; rw [if_neg c_1, if_neg c_2, if_neg c_3, if_pos c_4]
          exact W.iret hx hb hr (fun t2 ht2 hW => by rw [hsp]; exact ⟨rfl, by rw [ht2]; exact hP, hS.F ht2⟩) hS.2.2 dX13_undo_170 hlocks
        · refine lv_aload_n hx hb dX13_undo_54 rfl (lv_at hl 0 rfl) ?_
          refine lv_bipush (v := (-5)) hx hb dX13_undo_55 (by decide) ?_
          refine m_wr S hK hP hS (As := [.int (-5)]) (rest := []) (cM_says l D cI cJ ad Z _ hi (-5)) (cwV 1 hts gX13_undo_X13_says rfl rfl rfl (by decide +kernel) ⟨Nat.le_of_ble_eq_true rfl, Nat.le_of_ble_eq_true rfl⟩) rfl hl.1 rfl (Nat.le_of_ble_eq_true rfl) dX13_undo_57 ⟨Nat.zero_le _, Nat.zero_le _⟩ (fun H locs hP hS => ?_)
          have hsp : sp_undo Z ticket = ((-5), zR Z (-5)) := by unfold sp_undo; rw [if_neg c_1, if_neg c_2, if_neg c_3, if_neg c_4]
          exact W.iret hx hb hr (fun t2 ht2 hW => by rw [hsp]; exact ⟨rfl, by rw [ht2]; exact hP, hS.F ht2⟩) hS.2.2 dX13_undo_60 hlocks
      · refine lv_aload_n hx hb dX13_undo_33 rfl (lv_at hl 0 rfl) ?_
        refine lv_bipush (v := (-2)) hx hb dX13_undo_34 (by decide) ?_
        refine m_wr S hK hP hS (As := [.int (-2)]) (rest := []) (cM_says l D cI cJ ad Z _ hi (-2)) (cwV 1 hts gX13_undo_X13_says rfl rfl rfl (by decide +kernel) ⟨Nat.le_of_ble_eq_true rfl, Nat.le_of_ble_eq_true rfl⟩) rfl hl.1 rfl (Nat.le_of_ble_eq_true rfl) dX13_undo_36 ⟨Nat.zero_le _, Nat.zero_le _⟩ (fun H locs hP hS => ?_)
        have hsp : sp_undo Z ticket = ((-2), zR Z (-2)) := by unfold sp_undo; rw [if_neg c_1, if_neg c_2, if_pos c_3]
        exact W.iret hx hb hr (fun t2 ht2 hW => by rw [hsp]; exact ⟨rfl, by rw [ht2]; exact hP, hS.F ht2⟩) hS.2.2 dX13_undo_39 hlocks
  · refine lv_aload_n hx hb dX13_undo_8 rfl (lv_at hl 0 rfl) ?_
    refine lv_iconst (v := (-1)) hx hb dX13_undo_9 (by decide) ?_
    refine m_wr S hK hP hS (As := [.int (-1)]) (rest := []) (cM_says l D cI cJ ad Z _ hi (-1)) (cwV 1 hts gX13_undo_X13_says rfl rfl rfl (by decide +kernel) ⟨Nat.le_of_ble_eq_true rfl, Nat.le_of_ble_eq_true rfl⟩) rfl hl.1 rfl (Nat.le_of_ble_eq_true rfl) dX13_undo_10 ⟨Nat.zero_le _, Nat.zero_le _⟩ (fun H locs hP hS => ?_)
    have hsp : sp_undo Z ticket = ((-1), zR Z (-1)) := by unfold sp_undo; rw [if_pos c_1]
    exact W.iret hx hb hr (fun t2 ht2 hW => by rw [hsp]; exact ⟨rfl, by rw [ht2]; exact hP, hS.F ht2⟩) hS.2.2 dX13_undo_13 hlocks
def sp_renew (Z : mZ) (ticket : Int32) (half : Int32) (months : Int32) : Int32 × mZ :=
  if (sp_isTicket Z ticket) = 0 then
    ((-1), zR Z (-1))
  else
    if (sp_isFree Z ticket) = 0 then
      ((-2), zR Z (-2))
    else
      if (sp_isClaimed Z ticket) = 0 then
        if (sp_isRight Z ticket half) = 0 then
          ((-4), zR Z (-4))
        else
          if months < 1 then
            ((-6), zR Z (-6))
          else
            if months ≤ 12 then
              (tk Z (tN ticket) 2, zR (sp_shown (zcp (tkp (tkp (tkp (tkp (tkp (tkp (tkp (tkp (tkp (tkp (tkp (tkp (tkp Z (tN ticket) 20 (zh Z 0)) (tN ticket) 21 (tk Z (tN ticket) 4)) (tN ticket) 22 (tk Z (tN ticket) 5)) (tN ticket) 23 (tk Z (tN ticket) 6)) (tN ticket) 24 (tk Z (tN ticket) 3)) (tN ticket) 25 (tk Z (tN ticket) 2)) (tN ticket) 26 (tk Z (tN ticket) 9)) (tN ticket) 4 ((tk Z (tN ticket) 4) + (30 * (tk Z (tN ticket) 3)))) (tN ticket) 5 months) (tN ticket) 6 (zh Z (3 + (4 + tN (tk Z (tN ticket) 19))))) (tN ticket) 3 0) (tN ticket) 2 0) (tN ticket) 9 0) 1 ((zc Z 1) + ((tk Z (tN ticket) 2).toInt64))) ticket half) (tk Z (tN ticket) 2))
            else
              ((-6), zR Z (-6))
      else
        ((-3), zR Z (-3))
set_option maxHeartbeats 4000000 in
set_option maxRecDepth 100000 in
theorem cM_renew (l : Launch) (D : va_G) (cI cJ : ClassId) (ad : Nat → Nat) (Z : mZ) (sz : Nat) (hi : mI ad) (ticket : Int32) (half : Int32) (months : Int32) (hC : cok Z) (hkd : ¬ sp_isTicket Z ticket = 0 → kok (tk Z (tN ticket) 19)) : Met l yX13_renew wsX13_renew ({ frames := 3, cells := 0, slots := 0, locals := 64 }) (mPc [.ref (ad 0), .int ticket, .int half, .int months] D cI cJ ad Z sz) (mQ D cI cJ ad (some (.int (sp_renew Z ticket half months).1)) (sp_renew Z ticket half months).2 sz) 0 0 (mA ad sz) := by
  refine m_in (cc := cX13_renew) (maxL := 5) (ret := (some .int)) (lv := [(0, .ref (ad 0)), (1, .int ticket), (2, .int half), (3, .int months)]) (by decide) rfl (Nat.le_of_ble_eq_true rfl) rfl ?_
  intro p e s m below meth c ls S hr hlocks hin hsz hP hK hl hS
  subst hsz
  obtain ⟨hx, hb, hml, hown, hts⟩ := id S
  have hX12 : ∀ w ∈ wsX120, w ∈ wsX13_renew := by decide +kernel
  have hX13 : ∀ w ∈ wsX130, w ∈ wsX13_renew := by decide +kernel
  refine lv_aload_n hx hb dX13_renew_0 rfl (lv_at hl 0 rfl) ?_
  refine lv_iload_n hx hb dX13_renew_1 rfl (lv_at hl 1 rfl) ?_
  refine m_rd S hK hP (As := [.int ticket]) (rest := []) (cM_isTicket l D cI cJ ad Z _ ticket ) (cwV 1 hts gX13_renew_X13_isTicket rfl rfl rfl (by decide +kernel) ⟨Nat.le_of_ble_eq_true rfl, Nat.le_of_ble_eq_true rfl⟩) rfl hl.1 rfl (Nat.le_of_ble_eq_true rfl) dX13_renew_2 ⟨Nat.zero_le _, Nat.zero_le _⟩ ?_
  refine lv_if_ne (tgt := 14) hx hb dX13_renew_5 (by decide) (fun c_1 => ?_) (fun c_1 => ?_)
  · refine lv_aload_n hx hb dX13_renew_14 rfl (lv_at hl 0 rfl) ?_
    refine lv_iload_n hx hb dX13_renew_15 rfl (lv_at hl 1 rfl) ?_
    refine m_rd S hK hP (As := [.int ticket]) (rest := []) (cM_isFree l D cI cJ ad Z _ ticket (tok_of hC c_1)) (cwV 1 hts gX13_renew_X13_isFree rfl rfl rfl (by decide +kernel) ⟨Nat.le_of_ble_eq_true rfl, Nat.le_of_ble_eq_true rfl⟩) rfl hl.1 rfl (Nat.le_of_ble_eq_true rfl) dX13_renew_16 ⟨Nat.zero_le _, Nat.zero_le _⟩ ?_
    refine lv_if_ne (tgt := 29) hx hb dX13_renew_19 (by decide) (fun c_2 => ?_) (fun c_2 => ?_)
    · refine lv_aload_n hx hb dX13_renew_29 rfl (lv_at hl 0 rfl) ?_
      refine lv_iload_n hx hb dX13_renew_30 rfl (lv_at hl 1 rfl) ?_
      refine m_rd S hK hP (As := [.int ticket]) (rest := []) (cM_isClaimed l D cI cJ ad Z _ ticket (tok_of hC c_1)) (cwV 1 hts gX13_renew_X13_isClaimed rfl rfl rfl (by decide +kernel) ⟨Nat.le_of_ble_eq_true rfl, Nat.le_of_ble_eq_true rfl⟩) rfl hl.1 rfl (Nat.le_of_ble_eq_true rfl) dX13_renew_31 ⟨Nat.zero_le _, Nat.zero_le _⟩ ?_
      refine lv_if_eq (tgt := 44) hx hb dX13_renew_34 (by decide) (fun c_3 => ?_) (fun c_3 => ?_)
      · refine lv_aload_n hx hb dX13_renew_44 rfl (lv_at hl 0 rfl) ?_
        refine lv_iload_n hx hb dX13_renew_45 rfl (lv_at hl 1 rfl) ?_
        refine lv_iload_n hx hb dX13_renew_46 rfl (lv_at hl 2 rfl) ?_
        refine m_rd S hK hP (As := [.int ticket, .int half]) (rest := []) (cM_isRight l D cI cJ ad Z _ ticket half (tok_of hC c_1)) (cwV 2 hts gX13_renew_X13_isRight rfl rfl rfl (by decide +kernel) ⟨Nat.le_of_ble_eq_true rfl, Nat.le_of_ble_eq_true rfl⟩) rfl hl.1 rfl (Nat.le_of_ble_eq_true rfl) dX13_renew_47 ⟨Nat.zero_le _, Nat.zero_le _⟩ ?_
        refine lv_if_ne (tgt := 60) hx hb dX13_renew_50 (by decide) (fun c_4 => ?_) (fun c_4 => ?_)
        · refine lv_iload_n hx hb dX13_renew_60 rfl (lv_at hl 3 rfl) ?_
          refine lv_iconst (v := 1) hx hb dX13_renew_61 (by decide) ?_
          refine lv_icmp_lt (tgt := 71) hx hb dX13_renew_62 (by decide) (fun c_5 => ?_) (fun c_5 => ?_)
          · refine lv_aload_n hx hb dX13_renew_71 rfl (lv_at hl 0 rfl) ?_
            refine lv_bipush (v := (-6)) hx hb dX13_renew_72 (by decide) ?_
            refine m_wr S hK hP hS (As := [.int (-6)]) (rest := []) (cM_says l D cI cJ ad Z _ hi (-6)) (cwV 1 hts gX13_renew_X13_says rfl rfl rfl (by decide +kernel) ⟨Nat.le_of_ble_eq_true rfl, Nat.le_of_ble_eq_true rfl⟩) rfl hl.1 rfl (Nat.le_of_ble_eq_true rfl) dX13_renew_74 ⟨Nat.zero_le _, Nat.zero_le _⟩ (fun H locs hP hS => ?_)
            have hsp : sp_renew Z ticket half months = ((-6), zR Z (-6)) := by unfold sp_renew; rw [if_neg c_1, if_neg c_2, if_pos c_3, if_neg c_4, if_pos c_5]
            exact W.iret hx hb hr (fun t2 ht2 hW => by rw [hsp]; exact ⟨rfl, by rw [ht2]; exact hP, hS.F ht2⟩) hS.2.2 dX13_renew_77 hlocks
          · refine lv_iload_n hx hb dX13_renew_65 rfl (lv_at hl 3 rfl) ?_
            refine lv_bipush (v := 12) hx hb dX13_renew_66 (by decide) ?_
            refine lv_icmp_le (tgt := 78) hx hb dX13_renew_68 (by decide) (fun c_6 => ?_) (fun c_6 => ?_)
            · refine lv_aload_n hx hb dX13_renew_78 rfl (lv_at hl 0 rfl) ?_
              refine lv_iload_n hx hb dX13_renew_79 rfl (lv_at hl 1 rfl) ?_
              refine lv_iconst (v := 2) hx hb dX13_renew_80 (by decide) ?_
              refine m_rd S hK hP (As := [.int ticket, .int 2]) (rest := []) (cM_of l D cI cJ ad Z _ ticket 2 (tok_of hC c_1) 2 rfl (by decide)) (cwV 2 hts gX13_renew_X13_of rfl rfl rfl (by decide +kernel) ⟨Nat.le_of_ble_eq_true rfl, Nat.le_of_ble_eq_true rfl⟩) rfl hl.1 rfl (Nat.le_of_ble_eq_true rfl) dX13_renew_81 ⟨Nat.zero_le _, Nat.zero_le _⟩ ?_
              refine lv_istore (lv' := [(4, .int (tk Z (tN ticket) 2)), (0, .ref (ad 0)), (1, .int ticket), (2, .int half), (3, .int months)]) hx hb dX13_renew_84 hl (by decide) rfl (fun ls hl => ?_)
              refine lv_aload_n hx hb dX13_renew_86 rfl (lv_at hl 1 rfl) ?_
              refine lv_iload_n hx hb dX13_renew_87 rfl (lv_at hl 2 rfl) ?_
              refine lv_bipush (v := 20) hx hb dX13_renew_88 (by decide) ?_
              refine lv_aload_n hx hb dX13_renew_90 rfl (lv_at hl 1 rfl) ?_
              refine m_rd S hK hP (As := []) (rest := [.int 20, .int ticket, .ref (ad 0)]) (cM_today l D cI cJ ad Z _) (cwV 0 hts gX13_renew_X13_today rfl rfl rfl (by decide +kernel) ⟨Nat.le_of_ble_eq_true rfl, Nat.le_of_ble_eq_true rfl⟩) rfl hl.1 rfl (Nat.le_of_ble_eq_true rfl) dX13_renew_91 ⟨Nat.zero_le _, Nat.zero_le _⟩ ?_
              refine m_wv S hK hP hS (As := [.int ticket, .int 20, .int (zh Z 0)]) (rest := []) (cM_put l D cI cJ ad Z _ hi ticket 20 (zh Z 0) (tok_of hC c_1) 20 rfl (by decide)) (cwV 3 hts gX13_renew_X13_put rfl rfl rfl (by decide +kernel) ⟨Nat.le_of_ble_eq_true rfl, Nat.le_of_ble_eq_true rfl⟩) rfl hl.1 rfl (Nat.le_of_ble_eq_true rfl) dX13_renew_94 ⟨Nat.zero_le _, Nat.zero_le _⟩ (fun H locs hP hS => ?_)
              refine lv_aload_n hx hb dX13_renew_97 rfl (lv_at hl 1 rfl) ?_
              refine lv_iload_n hx hb dX13_renew_98 rfl (lv_at hl 2 rfl) ?_
              refine lv_bipush (v := 21) hx hb dX13_renew_99 (by decide) ?_
              refine lv_aload_n hx hb dX13_renew_101 rfl (lv_at hl 1 rfl) ?_
              refine lv_iload_n hx hb dX13_renew_102 rfl (lv_at hl 2 rfl) ?_
              refine lv_iconst (v := 4) hx hb dX13_renew_103 (by decide) ?_
              refine m_rd S hK hP (As := [.int ticket, .int 4]) (rest := [.int 21, .int ticket, .ref (ad 0)]) (met_r (show tk (tkp Z (tN ticket) 20 (zh Z 0)) (tN ticket) 4 = tk Z (tN ticket) 4 from (tk_ne (by decide))) (cM_of l D cI cJ ad (tkp Z (tN ticket) 20 (zh Z 0)) _ ticket 4 (tok_of hC c_1) 4 rfl (by decide))) (cwV 2 hts gX13_renew_X13_of rfl rfl rfl (by decide +kernel) ⟨Nat.le_of_ble_eq_true rfl, Nat.le_of_ble_eq_true rfl⟩) rfl hl.1 rfl (Nat.le_of_ble_eq_true rfl) dX13_renew_104 ⟨Nat.zero_le _, Nat.zero_le _⟩ ?_
              refine m_wv S hK hP hS (As := [.int ticket, .int 21, .int (tk Z (tN ticket) 4)]) (rest := []) (cM_put l D cI cJ ad (tkp Z (tN ticket) 20 (zh Z 0)) _ hi ticket 21 (tk Z (tN ticket) 4) (tok_of hC c_1) 21 rfl (by decide)) (cwV 3 hts gX13_renew_X13_put rfl rfl rfl (by decide +kernel) ⟨Nat.le_of_ble_eq_true rfl, Nat.le_of_ble_eq_true rfl⟩) rfl hl.1 rfl (Nat.le_of_ble_eq_true rfl) dX13_renew_107 ⟨Nat.zero_le _, Nat.zero_le _⟩ (fun H locs hP hS => ?_)
              refine lv_aload_n hx hb dX13_renew_110 rfl (lv_at hl 1 rfl) ?_
              refine lv_iload_n hx hb dX13_renew_111 rfl (lv_at hl 2 rfl) ?_
              refine lv_bipush (v := 22) hx hb dX13_renew_112 (by decide) ?_
              refine lv_aload_n hx hb dX13_renew_114 rfl (lv_at hl 1 rfl) ?_
              refine lv_iload_n hx hb dX13_renew_115 rfl (lv_at hl 2 rfl) ?_
              refine lv_iconst (v := 5) hx hb dX13_renew_116 (by decide) ?_
              refine m_rd S hK hP (As := [.int ticket, .int 5]) (rest := [.int 22, .int ticket, .ref (ad 0)]) (met_r (show tk (tkp (tkp Z (tN ticket) 20 (zh Z 0)) (tN ticket) 21 (tk Z (tN ticket) 4)) (tN ticket) 5 = tk Z (tN ticket) 5 from ((tk_ne (by decide)).trans (tk_ne (by decide)))) (cM_of l D cI cJ ad (tkp (tkp Z (tN ticket) 20 (zh Z 0)) (tN ticket) 21 (tk Z (tN ticket) 4)) _ ticket 5 (tok_of hC c_1) 5 rfl (by decide))) (cwV 2 hts gX13_renew_X13_of rfl rfl rfl (by decide +kernel) ⟨Nat.le_of_ble_eq_true rfl, Nat.le_of_ble_eq_true rfl⟩) rfl hl.1 rfl (Nat.le_of_ble_eq_true rfl) dX13_renew_117 ⟨Nat.zero_le _, Nat.zero_le _⟩ ?_
              refine m_wv S hK hP hS (As := [.int ticket, .int 22, .int (tk Z (tN ticket) 5)]) (rest := []) (cM_put l D cI cJ ad (tkp (tkp Z (tN ticket) 20 (zh Z 0)) (tN ticket) 21 (tk Z (tN ticket) 4)) _ hi ticket 22 (tk Z (tN ticket) 5) (tok_of hC c_1) 22 rfl (by decide)) (cwV 3 hts gX13_renew_X13_put rfl rfl rfl (by decide +kernel) ⟨Nat.le_of_ble_eq_true rfl, Nat.le_of_ble_eq_true rfl⟩) rfl hl.1 rfl (Nat.le_of_ble_eq_true rfl) dX13_renew_120 ⟨Nat.zero_le _, Nat.zero_le _⟩ (fun H locs hP hS => ?_)
              refine lv_aload_n hx hb dX13_renew_123 rfl (lv_at hl 1 rfl) ?_
              refine lv_iload_n hx hb dX13_renew_124 rfl (lv_at hl 2 rfl) ?_
              refine lv_bipush (v := 23) hx hb dX13_renew_125 (by decide) ?_
              refine lv_aload_n hx hb dX13_renew_127 rfl (lv_at hl 1 rfl) ?_
              refine lv_iload_n hx hb dX13_renew_128 rfl (lv_at hl 2 rfl) ?_
              refine lv_bipush (v := 6) hx hb dX13_renew_129 (by decide) ?_
              refine m_rd S hK hP (As := [.int ticket, .int 6]) (rest := [.int 23, .int ticket, .ref (ad 0)]) (met_r (show tk (tkp (tkp (tkp Z (tN ticket) 20 (zh Z 0)) (tN ticket) 21 (tk Z (tN ticket) 4)) (tN ticket) 22 (tk Z (tN ticket) 5)) (tN ticket) 6 = tk Z (tN ticket) 6 from ((tk_ne (by decide)).trans ((tk_ne (by decide)).trans (tk_ne (by decide))))) (cM_of l D cI cJ ad (tkp (tkp (tkp Z (tN ticket) 20 (zh Z 0)) (tN ticket) 21 (tk Z (tN ticket) 4)) (tN ticket) 22 (tk Z (tN ticket) 5)) _ ticket 6 (tok_of hC c_1) 6 rfl (by decide))) (cwV 2 hts gX13_renew_X13_of rfl rfl rfl (by decide +kernel) ⟨Nat.le_of_ble_eq_true rfl, Nat.le_of_ble_eq_true rfl⟩) rfl hl.1 rfl (Nat.le_of_ble_eq_true rfl) dX13_renew_131 ⟨Nat.zero_le _, Nat.zero_le _⟩ ?_
              refine m_wv S hK hP hS (As := [.int ticket, .int 23, .int (tk Z (tN ticket) 6)]) (rest := []) (cM_put l D cI cJ ad (tkp (tkp (tkp Z (tN ticket) 20 (zh Z 0)) (tN ticket) 21 (tk Z (tN ticket) 4)) (tN ticket) 22 (tk Z (tN ticket) 5)) _ hi ticket 23 (tk Z (tN ticket) 6) (tok_of hC c_1) 23 rfl (by decide)) (cwV 3 hts gX13_renew_X13_put rfl rfl rfl (by decide +kernel) ⟨Nat.le_of_ble_eq_true rfl, Nat.le_of_ble_eq_true rfl⟩) rfl hl.1 rfl (Nat.le_of_ble_eq_true rfl) dX13_renew_134 ⟨Nat.zero_le _, Nat.zero_le _⟩ (fun H locs hP hS => ?_)
              refine lv_aload_n hx hb dX13_renew_137 rfl (lv_at hl 1 rfl) ?_
              refine lv_iload_n hx hb dX13_renew_138 rfl (lv_at hl 2 rfl) ?_
              refine lv_bipush (v := 24) hx hb dX13_renew_139 (by decide) ?_
              refine lv_aload_n hx hb dX13_renew_141 rfl (lv_at hl 1 rfl) ?_
              refine lv_iload_n hx hb dX13_renew_142 rfl (lv_at hl 2 rfl) ?_
              refine lv_iconst (v := 3) hx hb dX13_renew_143 (by decide) ?_
              refine m_rd S hK hP (As := [.int ticket, .int 3]) (rest := [.int 24, .int ticket, .ref (ad 0)]) (met_r (show tk (tkp (tkp (tkp (tkp Z (tN ticket) 20 (zh Z 0)) (tN ticket) 21 (tk Z (tN ticket) 4)) (tN ticket) 22 (tk Z (tN ticket) 5)) (tN ticket) 23 (tk Z (tN ticket) 6)) (tN ticket) 3 = tk Z (tN ticket) 3 from ((tk_ne (by decide)).trans ((tk_ne (by decide)).trans ((tk_ne (by decide)).trans (tk_ne (by decide)))))) (cM_of l D cI cJ ad (tkp (tkp (tkp (tkp Z (tN ticket) 20 (zh Z 0)) (tN ticket) 21 (tk Z (tN ticket) 4)) (tN ticket) 22 (tk Z (tN ticket) 5)) (tN ticket) 23 (tk Z (tN ticket) 6)) _ ticket 3 (tok_of hC c_1) 3 rfl (by decide))) (cwV 2 hts gX13_renew_X13_of rfl rfl rfl (by decide +kernel) ⟨Nat.le_of_ble_eq_true rfl, Nat.le_of_ble_eq_true rfl⟩) rfl hl.1 rfl (Nat.le_of_ble_eq_true rfl) dX13_renew_144 ⟨Nat.zero_le _, Nat.zero_le _⟩ ?_
              refine m_wv S hK hP hS (As := [.int ticket, .int 24, .int (tk Z (tN ticket) 3)]) (rest := []) (cM_put l D cI cJ ad (tkp (tkp (tkp (tkp Z (tN ticket) 20 (zh Z 0)) (tN ticket) 21 (tk Z (tN ticket) 4)) (tN ticket) 22 (tk Z (tN ticket) 5)) (tN ticket) 23 (tk Z (tN ticket) 6)) _ hi ticket 24 (tk Z (tN ticket) 3) (tok_of hC c_1) 24 rfl (by decide)) (cwV 3 hts gX13_renew_X13_put rfl rfl rfl (by decide +kernel) ⟨Nat.le_of_ble_eq_true rfl, Nat.le_of_ble_eq_true rfl⟩) rfl hl.1 rfl (Nat.le_of_ble_eq_true rfl) dX13_renew_147 ⟨Nat.zero_le _, Nat.zero_le _⟩ (fun H locs hP hS => ?_)
              refine lv_aload_n hx hb dX13_renew_150 rfl (lv_at hl 1 rfl) ?_
              refine lv_iload_n hx hb dX13_renew_151 rfl (lv_at hl 2 rfl) ?_
              refine lv_bipush (v := 25) hx hb dX13_renew_152 (by decide) ?_
              refine lv_iload hx hb dX13_renew_154 (lv_at hl 0 rfl) ?_
              refine m_wv S hK hP hS (As := [.int ticket, .int 25, .int (tk Z (tN ticket) 2)]) (rest := []) (cM_put l D cI cJ ad (tkp (tkp (tkp (tkp (tkp Z (tN ticket) 20 (zh Z 0)) (tN ticket) 21 (tk Z (tN ticket) 4)) (tN ticket) 22 (tk Z (tN ticket) 5)) (tN ticket) 23 (tk Z (tN ticket) 6)) (tN ticket) 24 (tk Z (tN ticket) 3)) _ hi ticket 25 (tk Z (tN ticket) 2) (tok_of hC c_1) 25 rfl (by decide)) (cwV 3 hts gX13_renew_X13_put rfl rfl rfl (by decide +kernel) ⟨Nat.le_of_ble_eq_true rfl, Nat.le_of_ble_eq_true rfl⟩) rfl hl.1 rfl (Nat.le_of_ble_eq_true rfl) dX13_renew_156 ⟨Nat.zero_le _, Nat.zero_le _⟩ (fun H locs hP hS => ?_)
              refine lv_aload_n hx hb dX13_renew_159 rfl (lv_at hl 1 rfl) ?_
              refine lv_iload_n hx hb dX13_renew_160 rfl (lv_at hl 2 rfl) ?_
              refine lv_bipush (v := 26) hx hb dX13_renew_161 (by decide) ?_
              refine lv_aload_n hx hb dX13_renew_163 rfl (lv_at hl 1 rfl) ?_
              refine lv_iload_n hx hb dX13_renew_164 rfl (lv_at hl 2 rfl) ?_
              refine lv_bipush (v := 9) hx hb dX13_renew_165 (by decide) ?_
              refine m_rd S hK hP (As := [.int ticket, .int 9]) (rest := [.int 26, .int ticket, .ref (ad 0)]) (met_r (show tk (tkp (tkp (tkp (tkp (tkp (tkp Z (tN ticket) 20 (zh Z 0)) (tN ticket) 21 (tk Z (tN ticket) 4)) (tN ticket) 22 (tk Z (tN ticket) 5)) (tN ticket) 23 (tk Z (tN ticket) 6)) (tN ticket) 24 (tk Z (tN ticket) 3)) (tN ticket) 25 (tk Z (tN ticket) 2)) (tN ticket) 9 = tk Z (tN ticket) 9 from ((tk_ne (by decide)).trans ((tk_ne (by decide)).trans ((tk_ne (by decide)).trans ((tk_ne (by decide)).trans ((tk_ne (by decide)).trans (tk_ne (by decide)))))))) (cM_of l D cI cJ ad (tkp (tkp (tkp (tkp (tkp (tkp Z (tN ticket) 20 (zh Z 0)) (tN ticket) 21 (tk Z (tN ticket) 4)) (tN ticket) 22 (tk Z (tN ticket) 5)) (tN ticket) 23 (tk Z (tN ticket) 6)) (tN ticket) 24 (tk Z (tN ticket) 3)) (tN ticket) 25 (tk Z (tN ticket) 2)) _ ticket 9 (tok_of hC c_1) 9 rfl (by decide))) (cwV 2 hts gX13_renew_X13_of rfl rfl rfl (by decide +kernel) ⟨Nat.le_of_ble_eq_true rfl, Nat.le_of_ble_eq_true rfl⟩) rfl hl.1 rfl (Nat.le_of_ble_eq_true rfl) dX13_renew_167 ⟨Nat.zero_le _, Nat.zero_le _⟩ ?_
              refine m_wv S hK hP hS (As := [.int ticket, .int 26, .int (tk Z (tN ticket) 9)]) (rest := []) (cM_put l D cI cJ ad (tkp (tkp (tkp (tkp (tkp (tkp Z (tN ticket) 20 (zh Z 0)) (tN ticket) 21 (tk Z (tN ticket) 4)) (tN ticket) 22 (tk Z (tN ticket) 5)) (tN ticket) 23 (tk Z (tN ticket) 6)) (tN ticket) 24 (tk Z (tN ticket) 3)) (tN ticket) 25 (tk Z (tN ticket) 2)) _ hi ticket 26 (tk Z (tN ticket) 9) (tok_of hC c_1) 26 rfl (by decide)) (cwV 3 hts gX13_renew_X13_put rfl rfl rfl (by decide +kernel) ⟨Nat.le_of_ble_eq_true rfl, Nat.le_of_ble_eq_true rfl⟩) rfl hl.1 rfl (Nat.le_of_ble_eq_true rfl) dX13_renew_170 ⟨Nat.zero_le _, Nat.zero_le _⟩ (fun H locs hP hS => ?_)
              refine lv_aload_n hx hb dX13_renew_173 rfl (lv_at hl 1 rfl) ?_
              refine lv_iload_n hx hb dX13_renew_174 rfl (lv_at hl 2 rfl) ?_
              refine lv_iconst (v := 4) hx hb dX13_renew_175 (by decide) ?_
              refine lv_aload_n hx hb dX13_renew_176 rfl (lv_at hl 1 rfl) ?_
              refine lv_iload_n hx hb dX13_renew_177 rfl (lv_at hl 2 rfl) ?_
              refine lv_iconst (v := 4) hx hb dX13_renew_178 (by decide) ?_
              refine m_rd S hK hP (As := [.int ticket, .int 4]) (rest := [.int 4, .int ticket, .ref (ad 0)]) (met_r (show tk (tkp (tkp (tkp (tkp (tkp (tkp (tkp Z (tN ticket) 20 (zh Z 0)) (tN ticket) 21 (tk Z (tN ticket) 4)) (tN ticket) 22 (tk Z (tN ticket) 5)) (tN ticket) 23 (tk Z (tN ticket) 6)) (tN ticket) 24 (tk Z (tN ticket) 3)) (tN ticket) 25 (tk Z (tN ticket) 2)) (tN ticket) 26 (tk Z (tN ticket) 9)) (tN ticket) 4 = tk Z (tN ticket) 4 from ((tk_ne (by decide)).trans ((tk_ne (by decide)).trans ((tk_ne (by decide)).trans ((tk_ne (by decide)).trans ((tk_ne (by decide)).trans ((tk_ne (by decide)).trans (tk_ne (by decide))))))))) (cM_of l D cI cJ ad (tkp (tkp (tkp (tkp (tkp (tkp (tkp Z (tN ticket) 20 (zh Z 0)) (tN ticket) 21 (tk Z (tN ticket) 4)) (tN ticket) 22 (tk Z (tN ticket) 5)) (tN ticket) 23 (tk Z (tN ticket) 6)) (tN ticket) 24 (tk Z (tN ticket) 3)) (tN ticket) 25 (tk Z (tN ticket) 2)) (tN ticket) 26 (tk Z (tN ticket) 9)) _ ticket 4 (tok_of hC c_1) 4 rfl (by decide))) (cwV 2 hts gX13_renew_X13_of rfl rfl rfl (by decide +kernel) ⟨Nat.le_of_ble_eq_true rfl, Nat.le_of_ble_eq_true rfl⟩) rfl hl.1 rfl (Nat.le_of_ble_eq_true rfl) dX13_renew_179 ⟨Nat.zero_le _, Nat.zero_le _⟩ ?_
              refine lv_bipush (v := 30) hx hb dX13_renew_182 (by decide) ?_
              refine lv_aload_n hx hb dX13_renew_184 rfl (lv_at hl 1 rfl) ?_
              refine lv_iload_n hx hb dX13_renew_185 rfl (lv_at hl 2 rfl) ?_
              refine lv_iconst (v := 3) hx hb dX13_renew_186 (by decide) ?_
              refine m_rd S hK hP (As := [.int ticket, .int 3]) (rest := [.int 30, .int (tk Z (tN ticket) 4), .int 4, .int ticket, .ref (ad 0)]) (met_r (show tk (tkp (tkp (tkp (tkp (tkp (tkp (tkp Z (tN ticket) 20 (zh Z 0)) (tN ticket) 21 (tk Z (tN ticket) 4)) (tN ticket) 22 (tk Z (tN ticket) 5)) (tN ticket) 23 (tk Z (tN ticket) 6)) (tN ticket) 24 (tk Z (tN ticket) 3)) (tN ticket) 25 (tk Z (tN ticket) 2)) (tN ticket) 26 (tk Z (tN ticket) 9)) (tN ticket) 3 = tk Z (tN ticket) 3 from ((tk_ne (by decide)).trans ((tk_ne (by decide)).trans ((tk_ne (by decide)).trans ((tk_ne (by decide)).trans ((tk_ne (by decide)).trans ((tk_ne (by decide)).trans (tk_ne (by decide))))))))) (cM_of l D cI cJ ad (tkp (tkp (tkp (tkp (tkp (tkp (tkp Z (tN ticket) 20 (zh Z 0)) (tN ticket) 21 (tk Z (tN ticket) 4)) (tN ticket) 22 (tk Z (tN ticket) 5)) (tN ticket) 23 (tk Z (tN ticket) 6)) (tN ticket) 24 (tk Z (tN ticket) 3)) (tN ticket) 25 (tk Z (tN ticket) 2)) (tN ticket) 26 (tk Z (tN ticket) 9)) _ ticket 3 (tok_of hC c_1) 3 rfl (by decide))) (cwV 2 hts gX13_renew_X13_of rfl rfl rfl (by decide +kernel) ⟨Nat.le_of_ble_eq_true rfl, Nat.le_of_ble_eq_true rfl⟩) rfl hl.1 rfl (Nat.le_of_ble_eq_true rfl) dX13_renew_187 ⟨Nat.zero_le _, Nat.zero_le _⟩ ?_
              refine lv_imul hx hb dX13_renew_190 ?_
              refine lv_iadd hx hb dX13_renew_191 ?_
              refine m_wv S hK hP hS (As := [.int ticket, .int 4, .int ((tk Z (tN ticket) 4) + (30 * (tk Z (tN ticket) 3)))]) (rest := []) (cM_put l D cI cJ ad (tkp (tkp (tkp (tkp (tkp (tkp (tkp Z (tN ticket) 20 (zh Z 0)) (tN ticket) 21 (tk Z (tN ticket) 4)) (tN ticket) 22 (tk Z (tN ticket) 5)) (tN ticket) 23 (tk Z (tN ticket) 6)) (tN ticket) 24 (tk Z (tN ticket) 3)) (tN ticket) 25 (tk Z (tN ticket) 2)) (tN ticket) 26 (tk Z (tN ticket) 9)) _ hi ticket 4 ((tk Z (tN ticket) 4) + (30 * (tk Z (tN ticket) 3))) (tok_of hC c_1) 4 rfl (by decide)) (cwV 3 hts gX13_renew_X13_put rfl rfl rfl (by decide +kernel) ⟨Nat.le_of_ble_eq_true rfl, Nat.le_of_ble_eq_true rfl⟩) rfl hl.1 rfl (Nat.le_of_ble_eq_true rfl) dX13_renew_192 ⟨Nat.zero_le _, Nat.zero_le _⟩ (fun H locs hP hS => ?_)
              refine lv_aload_n hx hb dX13_renew_195 rfl (lv_at hl 1 rfl) ?_
              refine lv_iload_n hx hb dX13_renew_196 rfl (lv_at hl 2 rfl) ?_
              refine lv_iconst (v := 5) hx hb dX13_renew_197 (by decide) ?_
              refine lv_iload_n hx hb dX13_renew_198 rfl (lv_at hl 4 rfl) ?_
              refine m_wv S hK hP hS (As := [.int ticket, .int 5, .int months]) (rest := []) (cM_put l D cI cJ ad (tkp (tkp (tkp (tkp (tkp (tkp (tkp (tkp Z (tN ticket) 20 (zh Z 0)) (tN ticket) 21 (tk Z (tN ticket) 4)) (tN ticket) 22 (tk Z (tN ticket) 5)) (tN ticket) 23 (tk Z (tN ticket) 6)) (tN ticket) 24 (tk Z (tN ticket) 3)) (tN ticket) 25 (tk Z (tN ticket) 2)) (tN ticket) 26 (tk Z (tN ticket) 9)) (tN ticket) 4 ((tk Z (tN ticket) 4) + (30 * (tk Z (tN ticket) 3)))) _ hi ticket 5 months (tok_of hC c_1) 5 rfl (by decide)) (cwV 3 hts gX13_renew_X13_put rfl rfl rfl (by decide +kernel) ⟨Nat.le_of_ble_eq_true rfl, Nat.le_of_ble_eq_true rfl⟩) rfl hl.1 rfl (Nat.le_of_ble_eq_true rfl) dX13_renew_199 ⟨Nat.zero_le _, Nat.zero_le _⟩ (fun H locs hP hS => ?_)
              refine lv_aload_n hx hb dX13_renew_202 rfl (lv_at hl 1 rfl) ?_
              refine lv_iload_n hx hb dX13_renew_203 rfl (lv_at hl 2 rfl) ?_
              refine lv_bipush (v := 6) hx hb dX13_renew_204 (by decide) ?_
              refine lv_aload_n hx hb dX13_renew_206 rfl (lv_at hl 1 rfl) ?_
              refine lv_iconst (v := 4) hx hb dX13_renew_207 (by decide) ?_
              refine lv_aload_n hx hb dX13_renew_208 rfl (lv_at hl 1 rfl) ?_
              refine lv_iload_n hx hb dX13_renew_209 rfl (lv_at hl 2 rfl) ?_
              refine lv_bipush (v := 19) hx hb dX13_renew_210 (by decide) ?_
              refine m_rd S hK hP (As := [.int ticket, .int 19]) (rest := [.int 4, .ref (ad 0), .int 6, .int ticket, .ref (ad 0)]) (met_r (show tk (tkp (tkp (tkp (tkp (tkp (tkp (tkp (tkp (tkp Z (tN ticket) 20 (zh Z 0)) (tN ticket) 21 (tk Z (tN ticket) 4)) (tN ticket) 22 (tk Z (tN ticket) 5)) (tN ticket) 23 (tk Z (tN ticket) 6)) (tN ticket) 24 (tk Z (tN ticket) 3)) (tN ticket) 25 (tk Z (tN ticket) 2)) (tN ticket) 26 (tk Z (tN ticket) 9)) (tN ticket) 4 ((tk Z (tN ticket) 4) + (30 * (tk Z (tN ticket) 3)))) (tN ticket) 5 months) (tN ticket) 19 = tk Z (tN ticket) 19 from ((tk_ne (by decide)).trans ((tk_ne (by decide)).trans ((tk_ne (by decide)).trans ((tk_ne (by decide)).trans ((tk_ne (by decide)).trans ((tk_ne (by decide)).trans ((tk_ne (by decide)).trans ((tk_ne (by decide)).trans (tk_ne (by decide))))))))))) (cM_of l D cI cJ ad (tkp (tkp (tkp (tkp (tkp (tkp (tkp (tkp (tkp Z (tN ticket) 20 (zh Z 0)) (tN ticket) 21 (tk Z (tN ticket) 4)) (tN ticket) 22 (tk Z (tN ticket) 5)) (tN ticket) 23 (tk Z (tN ticket) 6)) (tN ticket) 24 (tk Z (tN ticket) 3)) (tN ticket) 25 (tk Z (tN ticket) 2)) (tN ticket) 26 (tk Z (tN ticket) 9)) (tN ticket) 4 ((tk Z (tN ticket) 4) + (30 * (tk Z (tN ticket) 3)))) (tN ticket) 5 months) _ ticket 19 (tok_of hC c_1) 19 rfl (by decide))) (cwV 2 hts gX13_renew_X13_of rfl rfl rfl (by decide +kernel) ⟨Nat.le_of_ble_eq_true rfl, Nat.le_of_ble_eq_true rfl⟩) rfl hl.1 rfl (Nat.le_of_ble_eq_true rfl) dX13_renew_212 ⟨Nat.zero_le _, Nat.zero_le _⟩ ?_
              refine lv_iadd hx hb dX13_renew_215 ?_
              refine m_rd S hK hP (As := [.int (4 + (tk Z (tN ticket) 19))]) (rest := [.int 6, .int ticket, .ref (ad 0)]) (met_r (show zh (tkp (tkp (tkp (tkp (tkp (tkp (tkp (tkp (tkp Z (tN ticket) 20 (zh Z 0)) (tN ticket) 21 (tk Z (tN ticket) 4)) (tN ticket) 22 (tk Z (tN ticket) 5)) (tN ticket) 23 (tk Z (tN ticket) 6)) (tN ticket) 24 (tk Z (tN ticket) 3)) (tN ticket) 25 (tk Z (tN ticket) 2)) (tN ticket) 26 (tk Z (tN ticket) 9)) (tN ticket) 4 ((tk Z (tN ticket) 4) + (30 * (tk Z (tN ticket) 3)))) (tN ticket) 5 months) (3 + (4 + tN (tk Z (tN ticket) 19))) = zh Z (3 + (4 + tN (tk Z (tN ticket) 19))) from ((zh_tkp).trans ((zh_tkp).trans ((zh_tkp).trans ((zh_tkp).trans ((zh_tkp).trans ((zh_tkp).trans ((zh_tkp).trans ((zh_tkp).trans zh_tkp))))))))) (cM_ruleOf l D cI cJ ad (tkp (tkp (tkp (tkp (tkp (tkp (tkp (tkp (tkp Z (tN ticket) 20 (zh Z 0)) (tN ticket) 21 (tk Z (tN ticket) 4)) (tN ticket) 22 (tk Z (tN ticket) 5)) (tN ticket) 23 (tk Z (tN ticket) 6)) (tN ticket) 24 (tk Z (tN ticket) 3)) (tN ticket) 25 (tk Z (tN ticket) 2)) (tN ticket) 26 (tk Z (tN ticket) 9)) (tN ticket) 4 ((tk Z (tN ticket) 4) + (30 * (tk Z (tN ticket) 3)))) (tN ticket) 5 months) _ (4 + (tk Z (tN ticket) 19)) (4 + tN (tk Z (tN ticket) 19)) (kok_ix 4 rfl (hkd c_1)) (by have := kok_lt (hkd c_1); omega))) (cwV 1 hts gX13_renew_X13_ruleOf rfl rfl rfl (by decide +kernel) ⟨Nat.le_of_ble_eq_true rfl, Nat.le_of_ble_eq_true rfl⟩) rfl hl.1 rfl (Nat.le_of_ble_eq_true rfl) dX13_renew_216 ⟨Nat.zero_le _, Nat.zero_le _⟩ ?_
              refine m_wv S hK hP hS (As := [.int ticket, .int 6, .int (zh Z (3 + (4 + tN (tk Z (tN ticket) 19))))]) (rest := []) (cM_put l D cI cJ ad (tkp (tkp (tkp (tkp (tkp (tkp (tkp (tkp (tkp Z (tN ticket) 20 (zh Z 0)) (tN ticket) 21 (tk Z (tN ticket) 4)) (tN ticket) 22 (tk Z (tN ticket) 5)) (tN ticket) 23 (tk Z (tN ticket) 6)) (tN ticket) 24 (tk Z (tN ticket) 3)) (tN ticket) 25 (tk Z (tN ticket) 2)) (tN ticket) 26 (tk Z (tN ticket) 9)) (tN ticket) 4 ((tk Z (tN ticket) 4) + (30 * (tk Z (tN ticket) 3)))) (tN ticket) 5 months) _ hi ticket 6 (zh Z (3 + (4 + tN (tk Z (tN ticket) 19)))) (tok_of hC c_1) 6 rfl (by decide)) (cwV 3 hts gX13_renew_X13_put rfl rfl rfl (by decide +kernel) ⟨Nat.le_of_ble_eq_true rfl, Nat.le_of_ble_eq_true rfl⟩) rfl hl.1 rfl (Nat.le_of_ble_eq_true rfl) dX13_renew_219 ⟨Nat.zero_le _, Nat.zero_le _⟩ (fun H locs hP hS => ?_)
              refine lv_aload_n hx hb dX13_renew_222 rfl (lv_at hl 1 rfl) ?_
              refine lv_iload_n hx hb dX13_renew_223 rfl (lv_at hl 2 rfl) ?_
              refine lv_iconst (v := 3) hx hb dX13_renew_224 (by decide) ?_
              refine lv_iconst (v := 0) hx hb dX13_renew_225 (by decide) ?_
              refine m_wv S hK hP hS (As := [.int ticket, .int 3, .int 0]) (rest := []) (cM_put l D cI cJ ad (tkp (tkp (tkp (tkp (tkp (tkp (tkp (tkp (tkp (tkp Z (tN ticket) 20 (zh Z 0)) (tN ticket) 21 (tk Z (tN ticket) 4)) (tN ticket) 22 (tk Z (tN ticket) 5)) (tN ticket) 23 (tk Z (tN ticket) 6)) (tN ticket) 24 (tk Z (tN ticket) 3)) (tN ticket) 25 (tk Z (tN ticket) 2)) (tN ticket) 26 (tk Z (tN ticket) 9)) (tN ticket) 4 ((tk Z (tN ticket) 4) + (30 * (tk Z (tN ticket) 3)))) (tN ticket) 5 months) (tN ticket) 6 (zh Z (3 + (4 + tN (tk Z (tN ticket) 19))))) _ hi ticket 3 0 (tok_of hC c_1) 3 rfl (by decide)) (cwV 3 hts gX13_renew_X13_put rfl rfl rfl (by decide +kernel) ⟨Nat.le_of_ble_eq_true rfl, Nat.le_of_ble_eq_true rfl⟩) rfl hl.1 rfl (Nat.le_of_ble_eq_true rfl) dX13_renew_226 ⟨Nat.zero_le _, Nat.zero_le _⟩ (fun H locs hP hS => ?_)
              refine lv_aload_n hx hb dX13_renew_229 rfl (lv_at hl 1 rfl) ?_
              refine lv_iload_n hx hb dX13_renew_230 rfl (lv_at hl 2 rfl) ?_
              refine lv_iconst (v := 2) hx hb dX13_renew_231 (by decide) ?_
              refine lv_iconst (v := 0) hx hb dX13_renew_232 (by decide) ?_
              refine m_wv S hK hP hS (As := [.int ticket, .int 2, .int 0]) (rest := []) (cM_put l D cI cJ ad (tkp (tkp (tkp (tkp (tkp (tkp (tkp (tkp (tkp (tkp (tkp Z (tN ticket) 20 (zh Z 0)) (tN ticket) 21 (tk Z (tN ticket) 4)) (tN ticket) 22 (tk Z (tN ticket) 5)) (tN ticket) 23 (tk Z (tN ticket) 6)) (tN ticket) 24 (tk Z (tN ticket) 3)) (tN ticket) 25 (tk Z (tN ticket) 2)) (tN ticket) 26 (tk Z (tN ticket) 9)) (tN ticket) 4 ((tk Z (tN ticket) 4) + (30 * (tk Z (tN ticket) 3)))) (tN ticket) 5 months) (tN ticket) 6 (zh Z (3 + (4 + tN (tk Z (tN ticket) 19))))) (tN ticket) 3 0) _ hi ticket 2 0 (tok_of hC c_1) 2 rfl (by decide)) (cwV 3 hts gX13_renew_X13_put rfl rfl rfl (by decide +kernel) ⟨Nat.le_of_ble_eq_true rfl, Nat.le_of_ble_eq_true rfl⟩) rfl hl.1 rfl (Nat.le_of_ble_eq_true rfl) dX13_renew_233 ⟨Nat.zero_le _, Nat.zero_le _⟩ (fun H locs hP hS => ?_)
              refine lv_aload_n hx hb dX13_renew_236 rfl (lv_at hl 1 rfl) ?_
              refine lv_iload_n hx hb dX13_renew_237 rfl (lv_at hl 2 rfl) ?_
              refine lv_bipush (v := 9) hx hb dX13_renew_238 (by decide) ?_
              refine lv_iconst (v := 0) hx hb dX13_renew_240 (by decide) ?_
              refine m_wv S hK hP hS (As := [.int ticket, .int 9, .int 0]) (rest := []) (cM_put l D cI cJ ad (tkp (tkp (tkp (tkp (tkp (tkp (tkp (tkp (tkp (tkp (tkp (tkp Z (tN ticket) 20 (zh Z 0)) (tN ticket) 21 (tk Z (tN ticket) 4)) (tN ticket) 22 (tk Z (tN ticket) 5)) (tN ticket) 23 (tk Z (tN ticket) 6)) (tN ticket) 24 (tk Z (tN ticket) 3)) (tN ticket) 25 (tk Z (tN ticket) 2)) (tN ticket) 26 (tk Z (tN ticket) 9)) (tN ticket) 4 ((tk Z (tN ticket) 4) + (30 * (tk Z (tN ticket) 3)))) (tN ticket) 5 months) (tN ticket) 6 (zh Z (3 + (4 + tN (tk Z (tN ticket) 19))))) (tN ticket) 3 0) (tN ticket) 2 0) _ hi ticket 9 0 (tok_of hC c_1) 9 rfl (by decide)) (cwV 3 hts gX13_renew_X13_put rfl rfl rfl (by decide +kernel) ⟨Nat.le_of_ble_eq_true rfl, Nat.le_of_ble_eq_true rfl⟩) rfl hl.1 rfl (Nat.le_of_ble_eq_true rfl) dX13_renew_241 ⟨Nat.zero_le _, Nat.zero_le _⟩ (fun H locs hP hS => ?_)
              refine lv_aload_n hx hb dX13_renew_244 rfl (lv_at hl 1 rfl) ?_
              refine va_get (D := D) (ci := 11) (v := .ref (ad 1)) (C := RX13) (T := TX13) (N := 6) hx hb hts hX13 hown hK.1 hP 0 rfl rfl 0 (by decide) (hts (.fieldLink RX13 10 "PledgeHouseModel" "now" "LPledgeHouseModel$State;") (by decide +kernel)) (fun _ h9 => h9) rfl dX13_renew_245 ?_
              refine va_getN (D := D) (ci := 10) (v := .ref (ad 6)) (C := RX12) (T := TX12) (N := 4) hx hb hts hX12 hown hK.1 hP 1 rfl rfl 3 (by decide) (va_Nw.use rfl hK.2.2.2.2) (fun _ h9 => h9) rfl dX13_renew_248 ?_
              refine lv_iconst (v := 1) hx hb dX13_renew_251 (by decide) ?_
              refine lv_dup2_11 hx hb dX13_renew_252 rfl rfl ?_
              refine mx_cld hx hb hK.1 hP 1 rfl (by decide) (v := zc Z 1) ((zc_tkp).trans ((zc_tkp).trans ((zc_tkp).trans ((zc_tkp).trans ((zc_tkp).trans ((zc_tkp).trans ((zc_tkp).trans ((zc_tkp).trans ((zc_tkp).trans ((zc_tkp).trans ((zc_tkp).trans ((zc_tkp).trans zc_tkp)))))))))))) dX13_renew_253 ?_
              refine lv_iload hx hb dX13_renew_254 (lv_at hl 0 rfl) ?_
              refine lv_i2l (v := (tk Z (tN ticket) 2).toInt64) hx hb dX13_renew_256 rfl ?_
              refine lv_ladd hx hb dX13_renew_257 ?_
              refine mx_cst hx hb hK.1 hP (wM_D hi s.heap.size _) hS 1 rfl (by decide) dX13_renew_258 (fun H locs hP hS => ?_)
              refine lv_aload_n hx hb dX13_renew_259 rfl (lv_at hl 1 rfl) ?_
              refine lv_iload_n hx hb dX13_renew_260 rfl (lv_at hl 2 rfl) ?_
              refine lv_iload_n hx hb dX13_renew_261 rfl (lv_at hl 3 rfl) ?_
              refine m_wv S hK hP hS (As := [.int ticket, .int half]) (rest := []) (cM_shown l D cI cJ ad (zcp (tkp (tkp (tkp (tkp (tkp (tkp (tkp (tkp (tkp (tkp (tkp (tkp (tkp Z (tN ticket) 20 (zh Z 0)) (tN ticket) 21 (tk Z (tN ticket) 4)) (tN ticket) 22 (tk Z (tN ticket) 5)) (tN ticket) 23 (tk Z (tN ticket) 6)) (tN ticket) 24 (tk Z (tN ticket) 3)) (tN ticket) 25 (tk Z (tN ticket) 2)) (tN ticket) 26 (tk Z (tN ticket) 9)) (tN ticket) 4 ((tk Z (tN ticket) 4) + (30 * (tk Z (tN ticket) 3)))) (tN ticket) 5 months) (tN ticket) 6 (zh Z (3 + (4 + tN (tk Z (tN ticket) 19))))) (tN ticket) 3 0) (tN ticket) 2 0) (tN ticket) 9 0) 1 ((zc Z 1) + ((tk Z (tN ticket) 2).toInt64))) _ hi ticket half (tok_of hC c_1)) (cwV 2 hts gX13_renew_X13_shown rfl rfl rfl (by decide +kernel) ⟨Nat.le_of_ble_eq_true rfl, Nat.le_of_ble_eq_true rfl⟩) rfl hl.1 rfl (Nat.le_of_ble_eq_true rfl) dX13_renew_262 ⟨Nat.zero_le _, Nat.zero_le _⟩ (fun H locs hP hS => ?_)
              refine lv_aload_n hx hb dX13_renew_265 rfl (lv_at hl 1 rfl) ?_
              refine lv_iload hx hb dX13_renew_266 (lv_at hl 0 rfl) ?_
              refine m_wr S hK hP hS (As := [.int (tk Z (tN ticket) 2)]) (rest := []) (cM_says l D cI cJ ad (sp_shown (zcp (tkp (tkp (tkp (tkp (tkp (tkp (tkp (tkp (tkp (tkp (tkp (tkp (tkp Z (tN ticket) 20 (zh Z 0)) (tN ticket) 21 (tk Z (tN ticket) 4)) (tN ticket) 22 (tk Z (tN ticket) 5)) (tN ticket) 23 (tk Z (tN ticket) 6)) (tN ticket) 24 (tk Z (tN ticket) 3)) (tN ticket) 25 (tk Z (tN ticket) 2)) (tN ticket) 26 (tk Z (tN ticket) 9)) (tN ticket) 4 ((tk Z (tN ticket) 4) + (30 * (tk Z (tN ticket) 3)))) (tN ticket) 5 months) (tN ticket) 6 (zh Z (3 + (4 + tN (tk Z (tN ticket) 19))))) (tN ticket) 3 0) (tN ticket) 2 0) (tN ticket) 9 0) 1 ((zc Z 1) + ((tk Z (tN ticket) 2).toInt64))) ticket half) _ hi (tk Z (tN ticket) 2)) (cwV 1 hts gX13_renew_X13_says rfl rfl rfl (by decide +kernel) ⟨Nat.le_of_ble_eq_true rfl, Nat.le_of_ble_eq_true rfl⟩) rfl hl.1 rfl (Nat.le_of_ble_eq_true rfl) dX13_renew_268 ⟨Nat.zero_le _, Nat.zero_le _⟩ (fun H locs hP hS => ?_)
              have hsp : sp_renew Z ticket half months = (tk Z (tN ticket) 2, zR (sp_shown (zcp (tkp (tkp (tkp (tkp (tkp (tkp (tkp (tkp (tkp (tkp (tkp (tkp (tkp Z (tN ticket) 20 (zh Z 0)) (tN ticket) 21 (tk Z (tN ticket) 4)) (tN ticket) 22 (tk Z (tN ticket) 5)) (tN ticket) 23 (tk Z (tN ticket) 6)) (tN ticket) 24 (tk Z (tN ticket) 3)) (tN ticket) 25 (tk Z (tN ticket) 2)) (tN ticket) 26 (tk Z (tN ticket) 9)) (tN ticket) 4 ((tk Z (tN ticket) 4) + (30 * (tk Z (tN ticket) 3)))) (tN ticket) 5 months) (tN ticket) 6 (zh Z (3 + (4 + tN (tk Z (tN ticket) 19))))) (tN ticket) 3 0) (tN ticket) 2 0) (tN ticket) 9 0) 1 ((zc Z 1) + ((tk Z (tN ticket) 2).toInt64))) ticket half) (tk Z (tN ticket) 2)) := by unfold sp_renew; rw [if_neg c_1, if_neg c_2, if_pos c_3, if_neg c_4, if_neg c_5, if_pos c_6]
              exact W.iret hx hb hr (fun t2 ht2 hW => by rw [hsp]; exact ⟨rfl, by rw [ht2]; exact hP, hS.F ht2⟩) hS.2.2 dX13_renew_271 hlocks
            · refine lv_aload_n hx hb dX13_renew_71 rfl (lv_at hl 0 rfl) ?_
              refine lv_bipush (v := (-6)) hx hb dX13_renew_72 (by decide) ?_
              refine m_wr S hK hP hS (As := [.int (-6)]) (rest := []) (cM_says l D cI cJ ad Z _ hi (-6)) (cwV 1 hts gX13_renew_X13_says rfl rfl rfl (by decide +kernel) ⟨Nat.le_of_ble_eq_true rfl, Nat.le_of_ble_eq_true rfl⟩) rfl hl.1 rfl (Nat.le_of_ble_eq_true rfl) dX13_renew_74 ⟨Nat.zero_le _, Nat.zero_le _⟩ (fun H locs hP hS => ?_)
              have hsp : sp_renew Z ticket half months = ((-6), zR Z (-6)) := by unfold sp_renew; rw [if_neg c_1, if_neg c_2, if_pos c_3, if_neg c_4, if_neg c_5, if_neg c_6]
              exact W.iret hx hb hr (fun t2 ht2 hW => by rw [hsp]; exact ⟨rfl, by rw [ht2]; exact hP, hS.F ht2⟩) hS.2.2 dX13_renew_77 hlocks
        · refine lv_aload_n hx hb dX13_renew_53 rfl (lv_at hl 0 rfl) ?_
          refine lv_bipush (v := (-4)) hx hb dX13_renew_54 (by decide) ?_
          refine m_wr S hK hP hS (As := [.int (-4)]) (rest := []) (cM_says l D cI cJ ad Z _ hi (-4)) (cwV 1 hts gX13_renew_X13_says rfl rfl rfl (by decide +kernel) ⟨Nat.le_of_ble_eq_true rfl, Nat.le_of_ble_eq_true rfl⟩) rfl hl.1 rfl (Nat.le_of_ble_eq_true rfl) dX13_renew_56 ⟨Nat.zero_le _, Nat.zero_le _⟩ (fun H locs hP hS => ?_)
          have hsp : sp_renew Z ticket half months = ((-4), zR Z (-4)) := by unfold sp_renew; rw [if_neg c_1, if_neg c_2, if_pos c_3, if_pos c_4]
          exact W.iret hx hb hr (fun t2 ht2 hW => by rw [hsp]; exact ⟨rfl, by rw [ht2]; exact hP, hS.F ht2⟩) hS.2.2 dX13_renew_59 hlocks
      · refine lv_aload_n hx hb dX13_renew_37 rfl (lv_at hl 0 rfl) ?_
        refine lv_bipush (v := (-3)) hx hb dX13_renew_38 (by decide) ?_
        refine m_wr S hK hP hS (As := [.int (-3)]) (rest := []) (cM_says l D cI cJ ad Z _ hi (-3)) (cwV 1 hts gX13_renew_X13_says rfl rfl rfl (by decide +kernel) ⟨Nat.le_of_ble_eq_true rfl, Nat.le_of_ble_eq_true rfl⟩) rfl hl.1 rfl (Nat.le_of_ble_eq_true rfl) dX13_renew_40 ⟨Nat.zero_le _, Nat.zero_le _⟩ (fun H locs hP hS => ?_)
        have hsp : sp_renew Z ticket half months = ((-3), zR Z (-3)) := by unfold sp_renew; rw [if_neg c_1, if_neg c_2, if_neg c_3]
        exact W.iret hx hb hr (fun t2 ht2 hW => by rw [hsp]; exact ⟨rfl, by rw [ht2]; exact hP, hS.F ht2⟩) hS.2.2 dX13_renew_43 hlocks
    · refine lv_aload_n hx hb dX13_renew_22 rfl (lv_at hl 0 rfl) ?_
      refine lv_bipush (v := (-2)) hx hb dX13_renew_23 (by decide) ?_
      refine m_wr S hK hP hS (As := [.int (-2)]) (rest := []) (cM_says l D cI cJ ad Z _ hi (-2)) (cwV 1 hts gX13_renew_X13_says rfl rfl rfl (by decide +kernel) ⟨Nat.le_of_ble_eq_true rfl, Nat.le_of_ble_eq_true rfl⟩) rfl hl.1 rfl (Nat.le_of_ble_eq_true rfl) dX13_renew_25 ⟨Nat.zero_le _, Nat.zero_le _⟩ (fun H locs hP hS => ?_)
      have hsp : sp_renew Z ticket half months = ((-2), zR Z (-2)) := by unfold sp_renew; rw [if_neg c_1, if_pos c_2]
      exact W.iret hx hb hr (fun t2 ht2 hW => by rw [hsp]; exact ⟨rfl, by rw [ht2]; exact hP, hS.F ht2⟩) hS.2.2 dX13_renew_28 hlocks
  · refine lv_aload_n hx hb dX13_renew_8 rfl (lv_at hl 0 rfl) ?_
    refine lv_iconst (v := (-1)) hx hb dX13_renew_9 (by decide) ?_
    refine m_wr S hK hP hS (As := [.int (-1)]) (rest := []) (cM_says l D cI cJ ad Z _ hi (-1)) (cwV 1 hts gX13_renew_X13_says rfl rfl rfl (by decide +kernel) ⟨Nat.le_of_ble_eq_true rfl, Nat.le_of_ble_eq_true rfl⟩) rfl hl.1 rfl (Nat.le_of_ble_eq_true rfl) dX13_renew_10 ⟨Nat.zero_le _, Nat.zero_le _⟩ (fun H locs hP hS => ?_)
    have hsp : sp_renew Z ticket half months = ((-1), zR Z (-1)) := by unfold sp_renew; rw [if_pos c_1]
    exact W.iret hx hb hr (fun t2 ht2 hW => by rw [hsp]; exact ⟨rfl, by rw [ht2]; exact hP, hS.F ht2⟩) hS.2.2 dX13_renew_13 hlocks
def sp_redeem (Z : mZ) (ticket : Int32) (half : Int32) (coins : Int32) : Int32 × mZ :=
  if (sp_isTicket Z ticket) = 0 then
    ((-1), zR Z (-1))
  else
    if (sp_isFree Z ticket) = 0 then
      ((-2), zR Z (-2))
    else
      if (sp_isClaimed Z ticket) = 0 then
        if (sp_isRight Z ticket half) = 0 then
          ((-4), zR Z (-4))
        else
          if coins = (sp_owed Z ticket) then
            (0, zR (sp_closes (sp_shown (zcp (zcp Z 1 ((zc Z 1) + ((tk Z (tN ticket) 2).toInt64))) 2 ((zc Z 2) + ((tk Z (tN ticket) 1).toInt64))) ticket half) ticket 1) 0)
          else
            ((-6), zR Z (-6))
      else
        ((-3), zR Z (-3))
set_option maxHeartbeats 4000000 in
set_option maxRecDepth 100000 in
theorem cM_redeem (l : Launch) (D : va_G) (cI cJ : ClassId) (ad : Nat → Nat) (Z : mZ) (sz : Nat) (hi : mI ad) (ticket : Int32) (half : Int32) (coins : Int32) (hC : cok Z) (hpl : ¬ sp_isTicket Z ticket = 0 → pok (tk Z (tN ticket) 15)) : Met l yX13_redeem wsX13_redeem ({ frames := 4, cells := 0, slots := 0, locals := 89 }) (mPc [.ref (ad 0), .int ticket, .int half, .int coins] D cI cJ ad Z sz) (mQ D cI cJ ad (some (.int (sp_redeem Z ticket half coins).1)) (sp_redeem Z ticket half coins).2 sz) 0 0 (mA ad sz) := by
  refine m_in (cc := cX13_redeem) (maxL := 4) (ret := (some .int)) (lv := [(0, .ref (ad 0)), (1, .int ticket), (2, .int half), (3, .int coins)]) (by decide) rfl (Nat.le_of_ble_eq_true rfl) rfl ?_
  intro p e s m below meth c ls S hr hlocks hin hsz hP hK hl hS
  subst hsz
  obtain ⟨hx, hb, hml, hown, hts⟩ := id S
  have hX12 : ∀ w ∈ wsX120, w ∈ wsX13_redeem := by decide +kernel
  have hX13 : ∀ w ∈ wsX130, w ∈ wsX13_redeem := by decide +kernel
  refine lv_aload_n hx hb dX13_redeem_0 rfl (lv_at hl 0 rfl) ?_
  refine lv_iload_n hx hb dX13_redeem_1 rfl (lv_at hl 1 rfl) ?_
  refine m_rd S hK hP (As := [.int ticket]) (rest := []) (cM_isTicket l D cI cJ ad Z _ ticket ) (cwV 1 hts gX13_redeem_X13_isTicket rfl rfl rfl (by decide +kernel) ⟨Nat.le_of_ble_eq_true rfl, Nat.le_of_ble_eq_true rfl⟩) rfl hl.1 rfl (Nat.le_of_ble_eq_true rfl) dX13_redeem_2 ⟨Nat.zero_le _, Nat.zero_le _⟩ ?_
  refine lv_if_ne (tgt := 14) hx hb dX13_redeem_5 (by decide) (fun c_1 => ?_) (fun c_1 => ?_)
  · refine lv_aload_n hx hb dX13_redeem_14 rfl (lv_at hl 0 rfl) ?_
    refine lv_iload_n hx hb dX13_redeem_15 rfl (lv_at hl 1 rfl) ?_
    refine m_rd S hK hP (As := [.int ticket]) (rest := []) (cM_isFree l D cI cJ ad Z _ ticket (tok_of hC c_1)) (cwV 1 hts gX13_redeem_X13_isFree rfl rfl rfl (by decide +kernel) ⟨Nat.le_of_ble_eq_true rfl, Nat.le_of_ble_eq_true rfl⟩) rfl hl.1 rfl (Nat.le_of_ble_eq_true rfl) dX13_redeem_16 ⟨Nat.zero_le _, Nat.zero_le _⟩ ?_
    refine lv_if_ne (tgt := 29) hx hb dX13_redeem_19 (by decide) (fun c_2 => ?_) (fun c_2 => ?_)
    · refine lv_aload_n hx hb dX13_redeem_29 rfl (lv_at hl 0 rfl) ?_
      refine lv_iload_n hx hb dX13_redeem_30 rfl (lv_at hl 1 rfl) ?_
      refine m_rd S hK hP (As := [.int ticket]) (rest := []) (cM_isClaimed l D cI cJ ad Z _ ticket (tok_of hC c_1)) (cwV 1 hts gX13_redeem_X13_isClaimed rfl rfl rfl (by decide +kernel) ⟨Nat.le_of_ble_eq_true rfl, Nat.le_of_ble_eq_true rfl⟩) rfl hl.1 rfl (Nat.le_of_ble_eq_true rfl) dX13_redeem_31 ⟨Nat.zero_le _, Nat.zero_le _⟩ ?_
      refine lv_if_eq (tgt := 44) hx hb dX13_redeem_34 (by decide) (fun c_3 => ?_) (fun c_3 => ?_)
      · refine lv_aload_n hx hb dX13_redeem_44 rfl (lv_at hl 0 rfl) ?_
        refine lv_iload_n hx hb dX13_redeem_45 rfl (lv_at hl 1 rfl) ?_
        refine lv_iload_n hx hb dX13_redeem_46 rfl (lv_at hl 2 rfl) ?_
        refine m_rd S hK hP (As := [.int ticket, .int half]) (rest := []) (cM_isRight l D cI cJ ad Z _ ticket half (tok_of hC c_1)) (cwV 2 hts gX13_redeem_X13_isRight rfl rfl rfl (by decide +kernel) ⟨Nat.le_of_ble_eq_true rfl, Nat.le_of_ble_eq_true rfl⟩) rfl hl.1 rfl (Nat.le_of_ble_eq_true rfl) dX13_redeem_47 ⟨Nat.zero_le _, Nat.zero_le _⟩ ?_
        refine lv_if_ne (tgt := 60) hx hb dX13_redeem_50 (by decide) (fun c_4 => ?_) (fun c_4 => ?_)
        · refine lv_iload_n hx hb dX13_redeem_60 rfl (lv_at hl 3 rfl) ?_
          refine lv_aload_n hx hb dX13_redeem_61 rfl (lv_at hl 0 rfl) ?_
          refine lv_iload_n hx hb dX13_redeem_62 rfl (lv_at hl 1 rfl) ?_
          refine m_rd S hK hP (As := [.int ticket]) (rest := [.int coins]) (cM_owed l D cI cJ ad Z _ ticket (tok_of hC c_1)) (cwV 1 hts gX13_redeem_X13_owed rfl rfl rfl (by decide +kernel) ⟨Nat.le_of_ble_eq_true rfl, Nat.le_of_ble_eq_true rfl⟩) rfl hl.1 rfl (Nat.le_of_ble_eq_true rfl) dX13_redeem_63 ⟨Nat.zero_le _, Nat.zero_le _⟩ ?_
          refine lv_icmp_eq (tgt := 76) hx hb dX13_redeem_66 (by decide) (fun c_5 => ?_) (fun c_5 => ?_)
          · refine lv_aload_n hx hb dX13_redeem_76 rfl (lv_at hl 0 rfl) ?_
            refine va_get (D := D) (ci := 11) (v := .ref (ad 1)) (C := RX13) (T := TX13) (N := 6) hx hb hts hX13 hown hK.1 hP 0 rfl rfl 0 (by decide) (hts (.fieldLink RX13 10 "PledgeHouseModel" "now" "LPledgeHouseModel$State;") (by decide +kernel)) (fun _ h9 => h9) rfl dX13_redeem_77 ?_
            refine va_getN (D := D) (ci := 10) (v := .ref (ad 6)) (C := RX12) (T := TX12) (N := 4) hx hb hts hX12 hown hK.1 hP 1 rfl rfl 3 (by decide) (va_Nw.use rfl hK.2.2.2.2) (fun _ h9 => h9) rfl dX13_redeem_80 ?_
            refine lv_iconst (v := 1) hx hb dX13_redeem_83 (by decide) ?_
            refine lv_dup2_11 hx hb dX13_redeem_84 rfl rfl ?_
            refine mx_cld hx hb hK.1 hP 1 rfl (by decide) (v := zc Z 1) rfl dX13_redeem_85 ?_
            refine lv_aload_n hx hb dX13_redeem_86 rfl (lv_at hl 0 rfl) ?_
            refine lv_iload_n hx hb dX13_redeem_87 rfl (lv_at hl 1 rfl) ?_
            refine lv_iconst (v := 2) hx hb dX13_redeem_88 (by decide) ?_
            refine m_rd S hK hP (As := [.int ticket, .int 2]) (rest := [.long (zc Z 1), .int 1, .ref (ad 6)]) (cM_of l D cI cJ ad Z _ ticket 2 (tok_of hC c_1) 2 rfl (by decide)) (cwV 2 hts gX13_redeem_X13_of rfl rfl rfl (by decide +kernel) ⟨Nat.le_of_ble_eq_true rfl, Nat.le_of_ble_eq_true rfl⟩) rfl hl.1 rfl (Nat.le_of_ble_eq_true rfl) dX13_redeem_89 ⟨Nat.zero_le _, Nat.zero_le _⟩ ?_
            refine lv_i2l (v := (tk Z (tN ticket) 2).toInt64) hx hb dX13_redeem_92 rfl ?_
            refine lv_ladd hx hb dX13_redeem_93 ?_
            refine mx_cst hx hb hK.1 hP (wM_D hi s.heap.size _) hS 1 rfl (by decide) dX13_redeem_94 (fun H locs hP hS => ?_)
            refine lv_aload_n hx hb dX13_redeem_95 rfl (lv_at hl 0 rfl) ?_
            refine va_get (D := D) (ci := 11) (v := .ref (ad 1)) (C := RX13) (T := TX13) (N := 6) hx hb hts hX13 hown hK.1 hP 0 rfl rfl 0 (by decide) (hts (.fieldLink RX13 10 "PledgeHouseModel" "now" "LPledgeHouseModel$State;") (by decide +kernel)) (fun _ h9 => h9) rfl dX13_redeem_96 ?_
            refine va_getN (D := D) (ci := 10) (v := .ref (ad 6)) (C := RX12) (T := TX12) (N := 4) hx hb hts hX12 hown hK.1 hP 1 rfl rfl 3 (by decide) (va_Nw.use rfl hK.2.2.2.2) (fun _ h9 => h9) rfl dX13_redeem_99 ?_
            refine lv_iconst (v := 2) hx hb dX13_redeem_102 (by decide) ?_
            refine lv_dup2_11 hx hb dX13_redeem_103 rfl rfl ?_
            refine mx_cld hx hb hK.1 hP 2 rfl (by decide) (v := zc Z 2) (zc_zcp_ne (by decide)) dX13_redeem_104 ?_
            refine lv_aload_n hx hb dX13_redeem_105 rfl (lv_at hl 0 rfl) ?_
            refine lv_iload_n hx hb dX13_redeem_106 rfl (lv_at hl 1 rfl) ?_
            refine lv_iconst (v := 1) hx hb dX13_redeem_107 (by decide) ?_
            refine m_rd S hK hP (As := [.int ticket, .int 1]) (rest := [.long (zc Z 2), .int 2, .ref (ad 6)]) (met_r (show tk (zcp Z 1 ((zc Z 1) + ((tk Z (tN ticket) 2).toInt64))) (tN ticket) 1 = tk Z (tN ticket) 1 from tk_zcp) (cM_of l D cI cJ ad (zcp Z 1 ((zc Z 1) + ((tk Z (tN ticket) 2).toInt64))) _ ticket 1 (tok_of hC c_1) 1 rfl (by decide))) (cwV 2 hts gX13_redeem_X13_of rfl rfl rfl (by decide +kernel) ⟨Nat.le_of_ble_eq_true rfl, Nat.le_of_ble_eq_true rfl⟩) rfl hl.1 rfl (Nat.le_of_ble_eq_true rfl) dX13_redeem_108 ⟨Nat.zero_le _, Nat.zero_le _⟩ ?_
            refine lv_i2l (v := (tk Z (tN ticket) 1).toInt64) hx hb dX13_redeem_111 rfl ?_
            refine lv_ladd hx hb dX13_redeem_112 ?_
            refine mx_cst hx hb hK.1 hP (wM_D hi s.heap.size _) hS 2 rfl (by decide) dX13_redeem_113 (fun H locs hP hS => ?_)
            refine lv_aload_n hx hb dX13_redeem_114 rfl (lv_at hl 0 rfl) ?_
            refine lv_iload_n hx hb dX13_redeem_115 rfl (lv_at hl 1 rfl) ?_
            refine lv_iload_n hx hb dX13_redeem_116 rfl (lv_at hl 2 rfl) ?_
            refine m_wv S hK hP hS (As := [.int ticket, .int half]) (rest := []) (cM_shown l D cI cJ ad (zcp (zcp Z 1 ((zc Z 1) + ((tk Z (tN ticket) 2).toInt64))) 2 ((zc Z 2) + ((tk Z (tN ticket) 1).toInt64))) _ hi ticket half (tok_of hC c_1)) (cwV 2 hts gX13_redeem_X13_shown rfl rfl rfl (by decide +kernel) ⟨Nat.le_of_ble_eq_true rfl, Nat.le_of_ble_eq_true rfl⟩) rfl hl.1 rfl (Nat.le_of_ble_eq_true rfl) dX13_redeem_117 ⟨Nat.zero_le _, Nat.zero_le _⟩ (fun H locs hP hS => ?_)
            refine lv_aload_n hx hb dX13_redeem_120 rfl (lv_at hl 0 rfl) ?_
            refine lv_iload_n hx hb dX13_redeem_121 rfl (lv_at hl 1 rfl) ?_
            refine lv_iconst (v := 1) hx hb dX13_redeem_122 (by decide) ?_
            refine m_wv S hK hP hS (As := [.int ticket, .int 1]) (rest := []) (cM_closes l D cI cJ ad (sp_shown (zcp (zcp Z 1 ((zc Z 1) + ((tk Z (tN ticket) 2).toInt64))) 2 ((zc Z 2) + ((tk Z (tN ticket) 1).toInt64))) ticket half) _ hi ticket 1 (tok_of hC c_1) (show pok (tk (sp_shown (zcp (zcp Z 1 ((zc Z 1) + ((tk Z (tN ticket) 2).toInt64))) 2 ((zc Z 2) + ((tk Z (tN ticket) 1).toInt64))) ticket half) (tN ticket) 15) from (show tk (sp_shown (zcp (zcp Z 1 ((zc Z 1) + ((tk Z (tN ticket) 2).toInt64))) 2 ((zc Z 2) + ((tk Z (tN ticket) 1).toInt64))) ticket half) (tN ticket) 15 = tk Z (tN ticket) 15 from ((tk_shown (by decide) rfl).trans ((tk_zcp).trans tk_zcp))) ▸ (hpl c_1))) (cwV 2 hts gX13_redeem_X13_closes rfl rfl rfl (by decide +kernel) ⟨Nat.le_of_ble_eq_true rfl, Nat.le_of_ble_eq_true rfl⟩) rfl hl.1 rfl (Nat.le_of_ble_eq_true rfl) dX13_redeem_123 ⟨Nat.zero_le _, Nat.zero_le _⟩ (fun H locs hP hS => ?_)
            refine lv_aload_n hx hb dX13_redeem_126 rfl (lv_at hl 0 rfl) ?_
            refine lv_iconst (v := 0) hx hb dX13_redeem_127 (by decide) ?_
            refine m_wr S hK hP hS (As := [.int 0]) (rest := []) (cM_says l D cI cJ ad (sp_closes (sp_shown (zcp (zcp Z 1 ((zc Z 1) + ((tk Z (tN ticket) 2).toInt64))) 2 ((zc Z 2) + ((tk Z (tN ticket) 1).toInt64))) ticket half) ticket 1) _ hi 0) (cwV 1 hts gX13_redeem_X13_says rfl rfl rfl (by decide +kernel) ⟨Nat.le_of_ble_eq_true rfl, Nat.le_of_ble_eq_true rfl⟩) rfl hl.1 rfl (Nat.le_of_ble_eq_true rfl) dX13_redeem_128 ⟨Nat.zero_le _, Nat.zero_le _⟩ (fun H locs hP hS => ?_)
            have hsp : sp_redeem Z ticket half coins = (0, zR (sp_closes (sp_shown (zcp (zcp Z 1 ((zc Z 1) + ((tk Z (tN ticket) 2).toInt64))) 2 ((zc Z 2) + ((tk Z (tN ticket) 1).toInt64))) ticket half) ticket 1) 0) := by unfold sp_redeem; rw [if_neg c_1, if_neg c_2, if_pos c_3, if_neg c_4, if_pos c_5]
            exact W.iret hx hb hr (fun t2 ht2 hW => by rw [hsp]; exact ⟨rfl, by rw [ht2]; exact hP, hS.F ht2⟩) hS.2.2 dX13_redeem_131 hlocks
          · refine lv_aload_n hx hb dX13_redeem_69 rfl (lv_at hl 0 rfl) ?_
            refine lv_bipush (v := (-6)) hx hb dX13_redeem_70 (by decide) ?_
            refine m_wr S hK hP hS (As := [.int (-6)]) (rest := []) (cM_says l D cI cJ ad Z _ hi (-6)) (cwV 1 hts gX13_redeem_X13_says rfl rfl rfl (by decide +kernel) ⟨Nat.le_of_ble_eq_true rfl, Nat.le_of_ble_eq_true rfl⟩) rfl hl.1 rfl (Nat.le_of_ble_eq_true rfl) dX13_redeem_72 ⟨Nat.zero_le _, Nat.zero_le _⟩ (fun H locs hP hS => ?_)
            have hsp : sp_redeem Z ticket half coins = ((-6), zR Z (-6)) := by unfold sp_redeem; rw [if_neg c_1, if_neg c_2, if_pos c_3, if_neg c_4, if_neg c_5]
            exact W.iret hx hb hr (fun t2 ht2 hW => by rw [hsp]; exact ⟨rfl, by rw [ht2]; exact hP, hS.F ht2⟩) hS.2.2 dX13_redeem_75 hlocks
        · refine lv_aload_n hx hb dX13_redeem_53 rfl (lv_at hl 0 rfl) ?_
          refine lv_bipush (v := (-4)) hx hb dX13_redeem_54 (by decide) ?_
          refine m_wr S hK hP hS (As := [.int (-4)]) (rest := []) (cM_says l D cI cJ ad Z _ hi (-4)) (cwV 1 hts gX13_redeem_X13_says rfl rfl rfl (by decide +kernel) ⟨Nat.le_of_ble_eq_true rfl, Nat.le_of_ble_eq_true rfl⟩) rfl hl.1 rfl (Nat.le_of_ble_eq_true rfl) dX13_redeem_56 ⟨Nat.zero_le _, Nat.zero_le _⟩ (fun H locs hP hS => ?_)
          have hsp : sp_redeem Z ticket half coins = ((-4), zR Z (-4)) := by unfold sp_redeem; rw [if_neg c_1, if_neg c_2, if_pos c_3, if_pos c_4]
          exact W.iret hx hb hr (fun t2 ht2 hW => by rw [hsp]; exact ⟨rfl, by rw [ht2]; exact hP, hS.F ht2⟩) hS.2.2 dX13_redeem_59 hlocks
      · refine lv_aload_n hx hb dX13_redeem_37 rfl (lv_at hl 0 rfl) ?_
        refine lv_bipush (v := (-3)) hx hb dX13_redeem_38 (by decide) ?_
        refine m_wr S hK hP hS (As := [.int (-3)]) (rest := []) (cM_says l D cI cJ ad Z _ hi (-3)) (cwV 1 hts gX13_redeem_X13_says rfl rfl rfl (by decide +kernel) ⟨Nat.le_of_ble_eq_true rfl, Nat.le_of_ble_eq_true rfl⟩) rfl hl.1 rfl (Nat.le_of_ble_eq_true rfl) dX13_redeem_40 ⟨Nat.zero_le _, Nat.zero_le _⟩ (fun H locs hP hS => ?_)
        have hsp : sp_redeem Z ticket half coins = ((-3), zR Z (-3)) := by unfold sp_redeem; rw [if_neg c_1, if_neg c_2, if_neg c_3]
        exact W.iret hx hb hr (fun t2 ht2 hW => by rw [hsp]; exact ⟨rfl, by rw [ht2]; exact hP, hS.F ht2⟩) hS.2.2 dX13_redeem_43 hlocks
    · refine lv_aload_n hx hb dX13_redeem_22 rfl (lv_at hl 0 rfl) ?_
      refine lv_bipush (v := (-2)) hx hb dX13_redeem_23 (by decide) ?_
      refine m_wr S hK hP hS (As := [.int (-2)]) (rest := []) (cM_says l D cI cJ ad Z _ hi (-2)) (cwV 1 hts gX13_redeem_X13_says rfl rfl rfl (by decide +kernel) ⟨Nat.le_of_ble_eq_true rfl, Nat.le_of_ble_eq_true rfl⟩) rfl hl.1 rfl (Nat.le_of_ble_eq_true rfl) dX13_redeem_25 ⟨Nat.zero_le _, Nat.zero_le _⟩ (fun H locs hP hS => ?_)
      have hsp : sp_redeem Z ticket half coins = ((-2), zR Z (-2)) := by unfold sp_redeem; rw [if_neg c_1, if_pos c_2]
      exact W.iret hx hb hr (fun t2 ht2 hW => by rw [hsp]; exact ⟨rfl, by rw [ht2]; exact hP, hS.F ht2⟩) hS.2.2 dX13_redeem_28 hlocks
  · refine lv_aload_n hx hb dX13_redeem_8 rfl (lv_at hl 0 rfl) ?_
    refine lv_iconst (v := (-1)) hx hb dX13_redeem_9 (by decide) ?_
    refine m_wr S hK hP hS (As := [.int (-1)]) (rest := []) (cM_says l D cI cJ ad Z _ hi (-1)) (cwV 1 hts gX13_redeem_X13_says rfl rfl rfl (by decide +kernel) ⟨Nat.le_of_ble_eq_true rfl, Nat.le_of_ble_eq_true rfl⟩) rfl hl.1 rfl (Nat.le_of_ble_eq_true rfl) dX13_redeem_10 ⟨Nat.zero_le _, Nat.zero_le _⟩ (fun H locs hP hS => ?_)
    have hsp : sp_redeem Z ticket half coins = ((-1), zR Z (-1)) := by unfold sp_redeem; rw [if_pos c_1]
    exact W.iret hx hb hr (fun t2 ht2 hW => by rw [hsp]; exact ⟨rfl, by rw [ht2]; exact hP, hS.F ht2⟩) hS.2.2 dX13_redeem_13 hlocks
def sp_sale (Z : mZ) (ticket : Int32) : Int32 × mZ :=
  if (sp_isTicket Z ticket) = 0 then
    ((-1), zR Z (-1))
  else
    if (sp_isForfeit Z ticket) = 0 then
      ((-2), zR Z (-2))
    else
      if (tk Z (tN ticket) 11) = 0 then
        ((-2), zR Z (-2))
      else
        if (sp_isClaimed Z ticket) = 0 then
          (tk Z (tN ticket) 10, zR (sp_closes (tkp (tkp (zcp (zcp (zcp (zcp (zcp Z 3 ((zc Z 3) + ((sp_cutUp (((tk Z (tN ticket) 10).toInt64) * ((zh Z 4).toInt64)) 1000).toInt64))) 1 ((zc Z 1) + ((if (tk Z (tN ticket) 2) < ((tk Z (tN ticket) 10) - (sp_cutUp (((tk Z (tN ticket) 10).toInt64) * ((zh Z 4).toInt64)) 1000)) then (tk Z (tN ticket) 2) else ((tk Z (tN ticket) 10) - (sp_cutUp (((tk Z (tN ticket) 10).toInt64) * ((zh Z 4).toInt64)) 1000))).toInt64))) 2 ((zc Z 2) + ((if (tk Z (tN ticket) 1) < (((tk Z (tN ticket) 10) - (sp_cutUp (((tk Z (tN ticket) 10).toInt64) * ((zh Z 4).toInt64)) 1000)) - (if (tk Z (tN ticket) 2) < ((tk Z (tN ticket) 10) - (sp_cutUp (((tk Z (tN ticket) 10).toInt64) * ((zh Z 4).toInt64)) 1000)) then (tk Z (tN ticket) 2) else ((tk Z (tN ticket) 10) - (sp_cutUp (((tk Z (tN ticket) 10).toInt64) * ((zh Z 4).toInt64)) 1000)))) then (tk Z (tN ticket) 1) else (((tk Z (tN ticket) 10) - (sp_cutUp (((tk Z (tN ticket) 10).toInt64) * ((zh Z 4).toInt64)) 1000)) - (if (tk Z (tN ticket) 2) < ((tk Z (tN ticket) 10) - (sp_cutUp (((tk Z (tN ticket) 10).toInt64) * ((zh Z 4).toInt64)) 1000)) then (tk Z (tN ticket) 2) else ((tk Z (tN ticket) 10) - (sp_cutUp (((tk Z (tN ticket) 10).toInt64) * ((zh Z 4).toInt64)) 1000))))).toInt64))) 5 ((zc Z 5) + ((((sp_owed (zcp (zcp (zcp Z 3 ((zc Z 3) + ((sp_cutUp (((tk Z (tN ticket) 10).toInt64) * ((zh Z 4).toInt64)) 1000).toInt64))) 1 ((zc Z 1) + ((if (tk Z (tN ticket) 2) < ((tk Z (tN ticket) 10) - (sp_cutUp (((tk Z (tN ticket) 10).toInt64) * ((zh Z 4).toInt64)) 1000)) then (tk Z (tN ticket) 2) else ((tk Z (tN ticket) 10) - (sp_cutUp (((tk Z (tN ticket) 10).toInt64) * ((zh Z 4).toInt64)) 1000))).toInt64))) 2 ((zc Z 2) + ((if (tk Z (tN ticket) 1) < (((tk Z (tN ticket) 10) - (sp_cutUp (((tk Z (tN ticket) 10).toInt64) * ((zh Z 4).toInt64)) 1000)) - (if (tk Z (tN ticket) 2) < ((tk Z (tN ticket) 10) - (sp_cutUp (((tk Z (tN ticket) 10).toInt64) * ((zh Z 4).toInt64)) 1000)) then (tk Z (tN ticket) 2) else ((tk Z (tN ticket) 10) - (sp_cutUp (((tk Z (tN ticket) 10).toInt64) * ((zh Z 4).toInt64)) 1000)))) then (tk Z (tN ticket) 1) else (((tk Z (tN ticket) 10) - (sp_cutUp (((tk Z (tN ticket) 10).toInt64) * ((zh Z 4).toInt64)) 1000)) - (if (tk Z (tN ticket) 2) < ((tk Z (tN ticket) 10) - (sp_cutUp (((tk Z (tN ticket) 10).toInt64) * ((zh Z 4).toInt64)) 1000)) then (tk Z (tN ticket) 2) else ((tk Z (tN ticket) 10) - (sp_cutUp (((tk Z (tN ticket) 10).toInt64) * ((zh Z 4).toInt64)) 1000))))).toInt64))) ticket) - (if (tk Z (tN ticket) 2) < ((tk Z (tN ticket) 10) - (sp_cutUp (((tk Z (tN ticket) 10).toInt64) * ((zh Z 4).toInt64)) 1000)) then (tk Z (tN ticket) 2) else ((tk Z (tN ticket) 10) - (sp_cutUp (((tk Z (tN ticket) 10).toInt64) * ((zh Z 4).toInt64)) 1000)))) - (if (tk Z (tN ticket) 1) < (((tk Z (tN ticket) 10) - (sp_cutUp (((tk Z (tN ticket) 10).toInt64) * ((zh Z 4).toInt64)) 1000)) - (if (tk Z (tN ticket) 2) < ((tk Z (tN ticket) 10) - (sp_cutUp (((tk Z (tN ticket) 10).toInt64) * ((zh Z 4).toInt64)) 1000)) then (tk Z (tN ticket) 2) else ((tk Z (tN ticket) 10) - (sp_cutUp (((tk Z (tN ticket) 10).toInt64) * ((zh Z 4).toInt64)) 1000)))) then (tk Z (tN ticket) 1) else (((tk Z (tN ticket) 10) - (sp_cutUp (((tk Z (tN ticket) 10).toInt64) * ((zh Z 4).toInt64)) 1000)) - (if (tk Z (tN ticket) 2) < ((tk Z (tN ticket) 10) - (sp_cutUp (((tk Z (tN ticket) 10).toInt64) * ((zh Z 4).toInt64)) 1000)) then (tk Z (tN ticket) 2) else ((tk Z (tN ticket) 10) - (sp_cutUp (((tk Z (tN ticket) 10).toInt64) * ((zh Z 4).toInt64)) 1000)))))).toInt64))) 6 ((zc Z 6) + (((tk Z (tN ticket) 1) - (if (tk Z (tN ticket) 1) < (((tk Z (tN ticket) 10) - (sp_cutUp (((tk Z (tN ticket) 10).toInt64) * ((zh Z 4).toInt64)) 1000)) - (if (tk Z (tN ticket) 2) < ((tk Z (tN ticket) 10) - (sp_cutUp (((tk Z (tN ticket) 10).toInt64) * ((zh Z 4).toInt64)) 1000)) then (tk Z (tN ticket) 2) else ((tk Z (tN ticket) 10) - (sp_cutUp (((tk Z (tN ticket) 10).toInt64) * ((zh Z 4).toInt64)) 1000)))) then (tk Z (tN ticket) 1) else (((tk Z (tN ticket) 10) - (sp_cutUp (((tk Z (tN ticket) 10).toInt64) * ((zh Z 4).toInt64)) 1000)) - (if (tk Z (tN ticket) 2) < ((tk Z (tN ticket) 10) - (sp_cutUp (((tk Z (tN ticket) 10).toInt64) * ((zh Z 4).toInt64)) 1000)) then (tk Z (tN ticket) 2) else ((tk Z (tN ticket) 10) - (sp_cutUp (((tk Z (tN ticket) 10).toInt64) * ((zh Z 4).toInt64)) 1000)))))).toInt64))) (tN ticket) 12 ((((tk Z (tN ticket) 10) - (sp_cutUp (((tk Z (tN ticket) 10).toInt64) * ((zh Z 4).toInt64)) 1000)) - (if (tk Z (tN ticket) 2) < ((tk Z (tN ticket) 10) - (sp_cutUp (((tk Z (tN ticket) 10).toInt64) * ((zh Z 4).toInt64)) 1000)) then (tk Z (tN ticket) 2) else ((tk Z (tN ticket) 10) - (sp_cutUp (((tk Z (tN ticket) 10).toInt64) * ((zh Z 4).toInt64)) 1000)))) - (if (tk Z (tN ticket) 1) < (((tk Z (tN ticket) 10) - (sp_cutUp (((tk Z (tN ticket) 10).toInt64) * ((zh Z 4).toInt64)) 1000)) - (if (tk Z (tN ticket) 2) < ((tk Z (tN ticket) 10) - (sp_cutUp (((tk Z (tN ticket) 10).toInt64) * ((zh Z 4).toInt64)) 1000)) then (tk Z (tN ticket) 2) else ((tk Z (tN ticket) 10) - (sp_cutUp (((tk Z (tN ticket) 10).toInt64) * ((zh Z 4).toInt64)) 1000)))) then (tk Z (tN ticket) 1) else (((tk Z (tN ticket) 10) - (sp_cutUp (((tk Z (tN ticket) 10).toInt64) * ((zh Z 4).toInt64)) 1000)) - (if (tk Z (tN ticket) 2) < ((tk Z (tN ticket) 10) - (sp_cutUp (((tk Z (tN ticket) 10).toInt64) * ((zh Z 4).toInt64)) 1000)) then (tk Z (tN ticket) 2) else ((tk Z (tN ticket) 10) - (sp_cutUp (((tk Z (tN ticket) 10).toInt64) * ((zh Z 4).toInt64)) 1000))))))) (tN ticket) 14 ((zh Z 0) + (zh Z 5))) ticket 2) (tk Z (tN ticket) 10))
        else
          ((-3), zR Z (-3))
set_option maxHeartbeats 4000000 in
set_option maxRecDepth 100000 in
theorem cM_sale (l : Launch) (D : va_G) (cI cJ : ClassId) (ad : Nat → Nat) (Z : mZ) (sz : Nat) (hi : mI ad) (ticket : Int32) (hC : cok Z) (hpl : ¬ sp_isTicket Z ticket = 0 → pok (tk Z (tN ticket) 15)) : Met l yX13_sale wsX13_sale ({ frames := 4, cells := 0, slots := 0, locals := 89 }) (mPc [.ref (ad 0), .int ticket] D cI cJ ad Z sz) (mQ D cI cJ ad (some (.int (sp_sale Z ticket).1)) (sp_sale Z ticket).2 sz) 0 0 (mA ad sz) := by
  refine m_in (cc := cX13_sale) (maxL := 7) (ret := (some .int)) (lv := [(0, .ref (ad 0)), (1, .int ticket)]) (by decide) rfl (Nat.le_of_ble_eq_true rfl) rfl ?_
  intro p e s m below meth c ls S hr hlocks hin hsz hP hK hl hS
  subst hsz
  obtain ⟨hx, hb, hml, hown, hts⟩ := id S
  have hX12 : ∀ w ∈ wsX120, w ∈ wsX13_sale := by decide +kernel
  have hX13 : ∀ w ∈ wsX130, w ∈ wsX13_sale := by decide +kernel
  refine lv_aload_n hx hb dX13_sale_0 rfl (lv_at hl 0 rfl) ?_
  refine lv_iload_n hx hb dX13_sale_1 rfl (lv_at hl 1 rfl) ?_
  refine m_rd S hK hP (As := [.int ticket]) (rest := []) (cM_isTicket l D cI cJ ad Z _ ticket ) (cwV 1 hts gX13_sale_X13_isTicket rfl rfl rfl (by decide +kernel) ⟨Nat.le_of_ble_eq_true rfl, Nat.le_of_ble_eq_true rfl⟩) rfl hl.1 rfl (Nat.le_of_ble_eq_true rfl) dX13_sale_2 ⟨Nat.zero_le _, Nat.zero_le _⟩ ?_
  refine lv_if_ne (tgt := 14) hx hb dX13_sale_5 (by decide) (fun c_1 => ?_) (fun c_1 => ?_)
  · refine lv_aload_n hx hb dX13_sale_14 rfl (lv_at hl 0 rfl) ?_
    refine lv_iload_n hx hb dX13_sale_15 rfl (lv_at hl 1 rfl) ?_
    refine m_rd S hK hP (As := [.int ticket]) (rest := []) (cM_isForfeit l D cI cJ ad Z _ ticket (tok_of hC c_1)) (cwV 1 hts gX13_sale_X13_isForfeit rfl rfl rfl (by decide +kernel) ⟨Nat.le_of_ble_eq_true rfl, Nat.le_of_ble_eq_true rfl⟩) rfl hl.1 rfl (Nat.le_of_ble_eq_true rfl) dX13_sale_16 ⟨Nat.zero_le _, Nat.zero_le _⟩ ?_
    refine lv_if_eq (tgt := 32) hx hb dX13_sale_19 (by decide) (fun c_2 => ?_) (fun c_2 => ?_)
    · refine lv_aload_n hx hb dX13_sale_32 rfl (lv_at hl 0 rfl) ?_
      refine lv_bipush (v := (-2)) hx hb dX13_sale_33 (by decide) ?_
      refine m_wr S hK hP hS (As := [.int (-2)]) (rest := []) (cM_says l D cI cJ ad Z _ hi (-2)) (cwV 1 hts gX13_sale_X13_says rfl rfl rfl (by decide +kernel) ⟨Nat.le_of_ble_eq_true rfl, Nat.le_of_ble_eq_true rfl⟩) rfl hl.1 rfl (Nat.le_of_ble_eq_true rfl) dX13_sale_35 ⟨Nat.zero_le _, Nat.zero_le _⟩ (fun H locs hP hS => ?_)
      have hsp : sp_sale Z ticket = ((-2), zR Z (-2)) := by unfold sp_sale; rw [if_neg c_1, if_pos c_2]
      exact W.iret hx hb hr (fun t2 ht2 hW => by rw [hsp]; exact ⟨rfl, by rw [ht2]; exact hP, hS.F ht2⟩) hS.2.2 dX13_sale_38 hlocks
    · refine lv_aload_n hx hb dX13_sale_22 rfl (lv_at hl 0 rfl) ?_
      refine lv_iload_n hx hb dX13_sale_23 rfl (lv_at hl 1 rfl) ?_
      refine lv_bipush (v := 11) hx hb dX13_sale_24 (by decide) ?_
      refine m_rd S hK hP (As := [.int ticket, .int 11]) (rest := []) (cM_of l D cI cJ ad Z _ ticket 11 (tok_of hC c_1) 11 rfl (by decide)) (cwV 2 hts gX13_sale_X13_of rfl rfl rfl (by decide +kernel) ⟨Nat.le_of_ble_eq_true rfl, Nat.le_of_ble_eq_true rfl⟩) rfl hl.1 rfl (Nat.le_of_ble_eq_true rfl) dX13_sale_26 ⟨Nat.zero_le _, Nat.zero_le _⟩ ?_
      refine lv_if_ne (tgt := 39) hx hb dX13_sale_29 (by decide) (fun c_3 => ?_) (fun c_3 => ?_)
      · refine lv_aload_n hx hb dX13_sale_39 rfl (lv_at hl 0 rfl) ?_
        refine lv_iload_n hx hb dX13_sale_40 rfl (lv_at hl 1 rfl) ?_
        refine m_rd S hK hP (As := [.int ticket]) (rest := []) (cM_isClaimed l D cI cJ ad Z _ ticket (tok_of hC c_1)) (cwV 1 hts gX13_sale_X13_isClaimed rfl rfl rfl (by decide +kernel) ⟨Nat.le_of_ble_eq_true rfl, Nat.le_of_ble_eq_true rfl⟩) rfl hl.1 rfl (Nat.le_of_ble_eq_true rfl) dX13_sale_41 ⟨Nat.zero_le _, Nat.zero_le _⟩ ?_
        refine lv_if_eq (tgt := 54) hx hb dX13_sale_44 (by decide) (fun c_4 => ?_) (fun c_4 => ?_)
        · refine lv_aload_n hx hb dX13_sale_54 rfl (lv_at hl 0 rfl) ?_
          refine lv_iload_n hx hb dX13_sale_55 rfl (lv_at hl 1 rfl) ?_
          refine lv_bipush (v := 10) hx hb dX13_sale_56 (by decide) ?_
          refine m_rd S hK hP (As := [.int ticket, .int 10]) (rest := []) (cM_of l D cI cJ ad Z _ ticket 10 (tok_of hC c_1) 10 rfl (by decide)) (cwV 2 hts gX13_sale_X13_of rfl rfl rfl (by decide +kernel) ⟨Nat.le_of_ble_eq_true rfl, Nat.le_of_ble_eq_true rfl⟩) rfl hl.1 rfl (Nat.le_of_ble_eq_true rfl) dX13_sale_58 ⟨Nat.zero_le _, Nat.zero_le _⟩ ?_
          refine lv_istore_n (lv' := [(2, .int (tk Z (tN ticket) 10)), (0, .ref (ad 0)), (1, .int ticket)]) hx hb dX13_sale_61 rfl hl (by decide) rfl (fun ls hl => ?_)
          refine lv_iload_n hx hb dX13_sale_62 rfl (lv_at hl 0 rfl) ?_
          refine lv_i2l (v := (tk Z (tN ticket) 10).toInt64) hx hb dX13_sale_63 rfl ?_
          refine lv_aload_n hx hb dX13_sale_64 rfl (lv_at hl 1 rfl) ?_
          refine lv_iconst (v := 1) hx hb dX13_sale_65 (by decide) ?_
          refine m_rd S hK hP (As := [.int 1]) (rest := [.long ((tk Z (tN ticket) 10).toInt64)]) (cM_ruleOf l D cI cJ ad Z _ 1 1 rfl (by decide)) (cwV 1 hts gX13_sale_X13_ruleOf rfl rfl rfl (by decide +kernel) ⟨Nat.le_of_ble_eq_true rfl, Nat.le_of_ble_eq_true rfl⟩) rfl hl.1 rfl (Nat.le_of_ble_eq_true rfl) dX13_sale_66 ⟨Nat.zero_le _, Nat.zero_le _⟩ ?_
          refine lv_i2l (v := (zh Z 4).toInt64) hx hb dX13_sale_69 rfl ?_
          refine lv_lmul hx hb dX13_sale_70 ?_
          refine lv_ldc2 (v := 1000) hx hb hown (hts (.constantLong RX13 61 (1000)) (by decide +kernel)) dX13_sale_71 ?_
          refine m_st S (As := [.long (((tk Z (tN ticket) 10).toInt64) * ((zh Z 4).toInt64)), .long 1000]) (rest := []) (cM_cutUp l (((tk Z (tN ticket) 10).toInt64) * ((zh Z 4).toInt64)) 1000 (by decide)) (cwS 2 hts gX13_sale_X13_cutUp rfl rfl rfl (by decide +kernel) ⟨Nat.le_of_ble_eq_true rfl, Nat.le_of_ble_eq_true rfl⟩) rfl hl.1 rfl (Nat.le_of_ble_eq_true rfl) dX13_sale_74 ⟨Nat.zero_le _, Nat.zero_le _⟩ ?_
          refine lv_istore_n (lv' := [(3, .int (sp_cutUp (((tk Z (tN ticket) 10).toInt64) * ((zh Z 4).toInt64)) 1000)), (2, .int (tk Z (tN ticket) 10)), (0, .ref (ad 0)), (1, .int ticket)]) hx hb dX13_sale_77 rfl hl (by decide) rfl (fun ls hl => ?_)
          refine lv_iload_n hx hb dX13_sale_78 rfl (lv_at hl 1 rfl) ?_
          refine lv_iload_n hx hb dX13_sale_79 rfl (lv_at hl 0 rfl) ?_
          refine lv_isub hx hb dX13_sale_80 ?_
          refine lv_istore (lv' := [(4, .int ((tk Z (tN ticket) 10) - (sp_cutUp (((tk Z (tN ticket) 10).toInt64) * ((zh Z 4).toInt64)) 1000))), (3, .int (sp_cutUp (((tk Z (tN ticket) 10).toInt64) * ((zh Z 4).toInt64)) 1000)), (2, .int (tk Z (tN ticket) 10)), (0, .ref (ad 0)), (1, .int ticket)]) hx hb dX13_sale_81 hl (by decide) rfl (fun ls hl => ?_)
          refine lv_iload hx hb dX13_sale_83 (lv_at hl 0 rfl) ?_
          refine lv_aload_n hx hb dX13_sale_85 rfl (lv_at hl 3 rfl) ?_
          refine lv_iload_n hx hb dX13_sale_86 rfl (lv_at hl 4 rfl) ?_
          refine lv_iconst (v := 2) hx hb dX13_sale_87 (by decide) ?_
          refine m_rd S hK hP (As := [.int ticket, .int 2]) (rest := [.int ((tk Z (tN ticket) 10) - (sp_cutUp (((tk Z (tN ticket) 10).toInt64) * ((zh Z 4).toInt64)) 1000))]) (cM_of l D cI cJ ad Z _ ticket 2 (tok_of hC c_1) 2 rfl (by decide)) (cwV 2 hts gX13_sale_X13_of rfl rfl rfl (by decide +kernel) ⟨Nat.le_of_ble_eq_true rfl, Nat.le_of_ble_eq_true rfl⟩) rfl hl.1 rfl (Nat.le_of_ble_eq_true rfl) dX13_sale_88 ⟨Nat.zero_le _, Nat.zero_le _⟩ ?_
          refine va_mmin hx hb (hml.trans hl.1.symm) hown (hts (.methodLink RX13 128 Lib.Math.min.name) (by decide +kernel)) (hts (.static Lib.Math.min.name) (by decide +kernel)) (hts (.initialized "java/lang/Math") (by decide +kernel)) (hts (.code Lib.Math.min.name Lib.Math.min.code 2 (some .int)) (by decide +kernel)) (Nat.le_of_ble_eq_true rfl) (Nat.le_of_ble_eq_true rfl) (Nat.zero_le _) (Nat.zero_le _) dX13_sale_91 ?_
          refine lv_istore (lv' := [(5, .int (if (tk Z (tN ticket) 2) < ((tk Z (tN ticket) 10) - (sp_cutUp (((tk Z (tN ticket) 10).toInt64) * ((zh Z 4).toInt64)) 1000)) then (tk Z (tN ticket) 2) else ((tk Z (tN ticket) 10) - (sp_cutUp (((tk Z (tN ticket) 10).toInt64) * ((zh Z 4).toInt64)) 1000)))), (4, .int ((tk Z (tN ticket) 10) - (sp_cutUp (((tk Z (tN ticket) 10).toInt64) * ((zh Z 4).toInt64)) 1000))), (3, .int (sp_cutUp (((tk Z (tN ticket) 10).toInt64) * ((zh Z 4).toInt64)) 1000)), (2, .int (tk Z (tN ticket) 10)), (0, .ref (ad 0)), (1, .int ticket)]) hx hb dX13_sale_94 hl (by decide) rfl (fun ls hl => ?_)
          refine lv_iload hx hb dX13_sale_96 (lv_at hl 1 rfl) ?_
          refine lv_iload hx hb dX13_sale_98 (lv_at hl 0 rfl) ?_
          refine lv_isub hx hb dX13_sale_100 ?_
          refine lv_aload_n hx hb dX13_sale_101 rfl (lv_at hl 4 rfl) ?_
          refine lv_iload_n hx hb dX13_sale_102 rfl (lv_at hl 5 rfl) ?_
          refine lv_iconst (v := 1) hx hb dX13_sale_103 (by decide) ?_
          refine m_rd S hK hP (As := [.int ticket, .int 1]) (rest := [.int (((tk Z (tN ticket) 10) - (sp_cutUp (((tk Z (tN ticket) 10).toInt64) * ((zh Z 4).toInt64)) 1000)) - (if (tk Z (tN ticket) 2) < ((tk Z (tN ticket) 10) - (sp_cutUp (((tk Z (tN ticket) 10).toInt64) * ((zh Z 4).toInt64)) 1000)) then (tk Z (tN ticket) 2) else ((tk Z (tN ticket) 10) - (sp_cutUp (((tk Z (tN ticket) 10).toInt64) * ((zh Z 4).toInt64)) 1000))))]) (cM_of l D cI cJ ad Z _ ticket 1 (tok_of hC c_1) 1 rfl (by decide)) (cwV 2 hts gX13_sale_X13_of rfl rfl rfl (by decide +kernel) ⟨Nat.le_of_ble_eq_true rfl, Nat.le_of_ble_eq_true rfl⟩) rfl hl.1 rfl (Nat.le_of_ble_eq_true rfl) dX13_sale_104 ⟨Nat.zero_le _, Nat.zero_le _⟩ ?_
          refine va_mmin hx hb (hml.trans hl.1.symm) hown (hts (.methodLink RX13 128 Lib.Math.min.name) (by decide +kernel)) (hts (.static Lib.Math.min.name) (by decide +kernel)) (hts (.initialized "java/lang/Math") (by decide +kernel)) (hts (.code Lib.Math.min.name Lib.Math.min.code 2 (some .int)) (by decide +kernel)) (Nat.le_of_ble_eq_true rfl) (Nat.le_of_ble_eq_true rfl) (Nat.zero_le _) (Nat.zero_le _) dX13_sale_107 ?_
          refine lv_istore (lv' := [(6, .int (if (tk Z (tN ticket) 1) < (((tk Z (tN ticket) 10) - (sp_cutUp (((tk Z (tN ticket) 10).toInt64) * ((zh Z 4).toInt64)) 1000)) - (if (tk Z (tN ticket) 2) < ((tk Z (tN ticket) 10) - (sp_cutUp (((tk Z (tN ticket) 10).toInt64) * ((zh Z 4).toInt64)) 1000)) then (tk Z (tN ticket) 2) else ((tk Z (tN ticket) 10) - (sp_cutUp (((tk Z (tN ticket) 10).toInt64) * ((zh Z 4).toInt64)) 1000)))) then (tk Z (tN ticket) 1) else (((tk Z (tN ticket) 10) - (sp_cutUp (((tk Z (tN ticket) 10).toInt64) * ((zh Z 4).toInt64)) 1000)) - (if (tk Z (tN ticket) 2) < ((tk Z (tN ticket) 10) - (sp_cutUp (((tk Z (tN ticket) 10).toInt64) * ((zh Z 4).toInt64)) 1000)) then (tk Z (tN ticket) 2) else ((tk Z (tN ticket) 10) - (sp_cutUp (((tk Z (tN ticket) 10).toInt64) * ((zh Z 4).toInt64)) 1000)))))), (5, .int (if (tk Z (tN ticket) 2) < ((tk Z (tN ticket) 10) - (sp_cutUp (((tk Z (tN ticket) 10).toInt64) * ((zh Z 4).toInt64)) 1000)) then (tk Z (tN ticket) 2) else ((tk Z (tN ticket) 10) - (sp_cutUp (((tk Z (tN ticket) 10).toInt64) * ((zh Z 4).toInt64)) 1000)))), (4, .int ((tk Z (tN ticket) 10) - (sp_cutUp (((tk Z (tN ticket) 10).toInt64) * ((zh Z 4).toInt64)) 1000))), (3, .int (sp_cutUp (((tk Z (tN ticket) 10).toInt64) * ((zh Z 4).toInt64)) 1000)), (2, .int (tk Z (tN ticket) 10)), (0, .ref (ad 0)), (1, .int ticket)]) hx hb dX13_sale_110 hl (by decide) rfl (fun ls hl => ?_)
          refine lv_aload_n hx hb dX13_sale_112 rfl (lv_at hl 5 rfl) ?_
          refine va_get (D := D) (ci := 11) (v := .ref (ad 1)) (C := RX13) (T := TX13) (N := 6) hx hb hts hX13 hown hK.1 hP 0 rfl rfl 0 (by decide) (hts (.fieldLink RX13 10 "PledgeHouseModel" "now" "LPledgeHouseModel$State;") (by decide +kernel)) (fun _ h9 => h9) rfl dX13_sale_113 ?_
          refine va_getN (D := D) (ci := 10) (v := .ref (ad 6)) (C := RX12) (T := TX12) (N := 4) hx hb hts hX12 hown hK.1 hP 1 rfl rfl 3 (by decide) (va_Nw.use rfl hK.2.2.2.2) (fun _ h9 => h9) rfl dX13_sale_116 ?_
          refine lv_iconst (v := 3) hx hb dX13_sale_119 (by decide) ?_
          refine lv_dup2_11 hx hb dX13_sale_120 rfl rfl ?_
          refine mx_cld hx hb hK.1 hP 3 rfl (by decide) (v := zc Z 3) rfl dX13_sale_121 ?_
          refine lv_iload_n hx hb dX13_sale_122 rfl (lv_at hl 3 rfl) ?_
          refine lv_i2l (v := (sp_cutUp (((tk Z (tN ticket) 10).toInt64) * ((zh Z 4).toInt64)) 1000).toInt64) hx hb dX13_sale_123 rfl ?_
          refine lv_ladd hx hb dX13_sale_124 ?_
          refine mx_cst hx hb hK.1 hP (wM_D hi s.heap.size _) hS 3 rfl (by decide) dX13_sale_125 (fun H locs hP hS => ?_)
          refine lv_aload_n hx hb dX13_sale_126 rfl (lv_at hl 5 rfl) ?_
          refine va_get (D := D) (ci := 11) (v := .ref (ad 1)) (C := RX13) (T := TX13) (N := 6) hx hb hts hX13 hown hK.1 hP 0 rfl rfl 0 (by decide) (hts (.fieldLink RX13 10 "PledgeHouseModel" "now" "LPledgeHouseModel$State;") (by decide +kernel)) (fun _ h9 => h9) rfl dX13_sale_127 ?_
          refine va_getN (D := D) (ci := 10) (v := .ref (ad 6)) (C := RX12) (T := TX12) (N := 4) hx hb hts hX12 hown hK.1 hP 1 rfl rfl 3 (by decide) (va_Nw.use rfl hK.2.2.2.2) (fun _ h9 => h9) rfl dX13_sale_130 ?_
          refine lv_iconst (v := 1) hx hb dX13_sale_133 (by decide) ?_
          refine lv_dup2_11 hx hb dX13_sale_134 rfl rfl ?_
          refine mx_cld hx hb hK.1 hP 1 rfl (by decide) (v := zc Z 1) (zc_zcp_ne (by decide)) dX13_sale_135 ?_
          refine lv_iload hx hb dX13_sale_136 (lv_at hl 1 rfl) ?_
          refine lv_i2l (v := (if (tk Z (tN ticket) 2) < ((tk Z (tN ticket) 10) - (sp_cutUp (((tk Z (tN ticket) 10).toInt64) * ((zh Z 4).toInt64)) 1000)) then (tk Z (tN ticket) 2) else ((tk Z (tN ticket) 10) - (sp_cutUp (((tk Z (tN ticket) 10).toInt64) * ((zh Z 4).toInt64)) 1000))).toInt64) hx hb dX13_sale_138 rfl ?_
          refine lv_ladd hx hb dX13_sale_139 ?_
          refine mx_cst hx hb hK.1 hP (wM_D hi s.heap.size _) hS 1 rfl (by decide) dX13_sale_140 (fun H locs hP hS => ?_)
          refine lv_aload_n hx hb dX13_sale_141 rfl (lv_at hl 5 rfl) ?_
          refine va_get (D := D) (ci := 11) (v := .ref (ad 1)) (C := RX13) (T := TX13) (N := 6) hx hb hts hX13 hown hK.1 hP 0 rfl rfl 0 (by decide) (hts (.fieldLink RX13 10 "PledgeHouseModel" "now" "LPledgeHouseModel$State;") (by decide +kernel)) (fun _ h9 => h9) rfl dX13_sale_142 ?_
          refine va_getN (D := D) (ci := 10) (v := .ref (ad 6)) (C := RX12) (T := TX12) (N := 4) hx hb hts hX12 hown hK.1 hP 1 rfl rfl 3 (by decide) (va_Nw.use rfl hK.2.2.2.2) (fun _ h9 => h9) rfl dX13_sale_145 ?_
          refine lv_iconst (v := 2) hx hb dX13_sale_148 (by decide) ?_
          refine lv_dup2_11 hx hb dX13_sale_149 rfl rfl ?_
          refine mx_cld hx hb hK.1 hP 2 rfl (by decide) (v := zc Z 2) ((zc_zcp_ne (by decide)).trans (zc_zcp_ne (by decide))) dX13_sale_150 ?_
          refine lv_iload hx hb dX13_sale_151 (lv_at hl 0 rfl) ?_
          refine lv_i2l (v := (if (tk Z (tN ticket) 1) < (((tk Z (tN ticket) 10) - (sp_cutUp (((tk Z (tN ticket) 10).toInt64) * ((zh Z 4).toInt64)) 1000)) - (if (tk Z (tN ticket) 2) < ((tk Z (tN ticket) 10) - (sp_cutUp (((tk Z (tN ticket) 10).toInt64) * ((zh Z 4).toInt64)) 1000)) then (tk Z (tN ticket) 2) else ((tk Z (tN ticket) 10) - (sp_cutUp (((tk Z (tN ticket) 10).toInt64) * ((zh Z 4).toInt64)) 1000)))) then (tk Z (tN ticket) 1) else (((tk Z (tN ticket) 10) - (sp_cutUp (((tk Z (tN ticket) 10).toInt64) * ((zh Z 4).toInt64)) 1000)) - (if (tk Z (tN ticket) 2) < ((tk Z (tN ticket) 10) - (sp_cutUp (((tk Z (tN ticket) 10).toInt64) * ((zh Z 4).toInt64)) 1000)) then (tk Z (tN ticket) 2) else ((tk Z (tN ticket) 10) - (sp_cutUp (((tk Z (tN ticket) 10).toInt64) * ((zh Z 4).toInt64)) 1000))))).toInt64) hx hb dX13_sale_153 rfl ?_
          refine lv_ladd hx hb dX13_sale_154 ?_
          refine mx_cst hx hb hK.1 hP (wM_D hi s.heap.size _) hS 2 rfl (by decide) dX13_sale_155 (fun H locs hP hS => ?_)
          refine lv_aload_n hx hb dX13_sale_156 rfl (lv_at hl 5 rfl) ?_
          refine va_get (D := D) (ci := 11) (v := .ref (ad 1)) (C := RX13) (T := TX13) (N := 6) hx hb hts hX13 hown hK.1 hP 0 rfl rfl 0 (by decide) (hts (.fieldLink RX13 10 "PledgeHouseModel" "now" "LPledgeHouseModel$State;") (by decide +kernel)) (fun _ h9 => h9) rfl dX13_sale_157 ?_
          refine va_getN (D := D) (ci := 10) (v := .ref (ad 6)) (C := RX12) (T := TX12) (N := 4) hx hb hts hX12 hown hK.1 hP 1 rfl rfl 3 (by decide) (va_Nw.use rfl hK.2.2.2.2) (fun _ h9 => h9) rfl dX13_sale_160 ?_
          refine lv_iconst (v := 5) hx hb dX13_sale_163 (by decide) ?_
          refine lv_dup2_11 hx hb dX13_sale_164 rfl rfl ?_
          refine mx_cld hx hb hK.1 hP 5 rfl (by decide) (v := zc Z 5) ((zc_zcp_ne (by decide)).trans ((zc_zcp_ne (by decide)).trans (zc_zcp_ne (by decide)))) dX13_sale_165 ?_
          refine lv_aload_n hx hb dX13_sale_166 rfl (lv_at hl 5 rfl) ?_
          refine lv_iload_n hx hb dX13_sale_167 rfl (lv_at hl 6 rfl) ?_
          refine m_rd S hK hP (As := [.int ticket]) (rest := [.long (zc Z 5), .int 5, .ref (ad 6)]) (cM_owed l D cI cJ ad (zcp (zcp (zcp Z 3 ((zc Z 3) + ((sp_cutUp (((tk Z (tN ticket) 10).toInt64) * ((zh Z 4).toInt64)) 1000).toInt64))) 1 ((zc Z 1) + ((if (tk Z (tN ticket) 2) < ((tk Z (tN ticket) 10) - (sp_cutUp (((tk Z (tN ticket) 10).toInt64) * ((zh Z 4).toInt64)) 1000)) then (tk Z (tN ticket) 2) else ((tk Z (tN ticket) 10) - (sp_cutUp (((tk Z (tN ticket) 10).toInt64) * ((zh Z 4).toInt64)) 1000))).toInt64))) 2 ((zc Z 2) + ((if (tk Z (tN ticket) 1) < (((tk Z (tN ticket) 10) - (sp_cutUp (((tk Z (tN ticket) 10).toInt64) * ((zh Z 4).toInt64)) 1000)) - (if (tk Z (tN ticket) 2) < ((tk Z (tN ticket) 10) - (sp_cutUp (((tk Z (tN ticket) 10).toInt64) * ((zh Z 4).toInt64)) 1000)) then (tk Z (tN ticket) 2) else ((tk Z (tN ticket) 10) - (sp_cutUp (((tk Z (tN ticket) 10).toInt64) * ((zh Z 4).toInt64)) 1000)))) then (tk Z (tN ticket) 1) else (((tk Z (tN ticket) 10) - (sp_cutUp (((tk Z (tN ticket) 10).toInt64) * ((zh Z 4).toInt64)) 1000)) - (if (tk Z (tN ticket) 2) < ((tk Z (tN ticket) 10) - (sp_cutUp (((tk Z (tN ticket) 10).toInt64) * ((zh Z 4).toInt64)) 1000)) then (tk Z (tN ticket) 2) else ((tk Z (tN ticket) 10) - (sp_cutUp (((tk Z (tN ticket) 10).toInt64) * ((zh Z 4).toInt64)) 1000))))).toInt64))) _ ticket (tok_of hC c_1)) (cwV 1 hts gX13_sale_X13_owed rfl rfl rfl (by decide +kernel) ⟨Nat.le_of_ble_eq_true rfl, Nat.le_of_ble_eq_true rfl⟩) rfl hl.1 rfl (Nat.le_of_ble_eq_true rfl) dX13_sale_168 ⟨Nat.zero_le _, Nat.zero_le _⟩ ?_
          refine lv_iload hx hb dX13_sale_171 (lv_at hl 1 rfl) ?_
          refine lv_isub hx hb dX13_sale_173 ?_
          refine lv_iload hx hb dX13_sale_174 (lv_at hl 0 rfl) ?_
          refine lv_isub hx hb dX13_sale_176 ?_
          refine lv_i2l (v := (((sp_owed (zcp (zcp (zcp Z 3 ((zc Z 3) + ((sp_cutUp (((tk Z (tN ticket) 10).toInt64) * ((zh Z 4).toInt64)) 1000).toInt64))) 1 ((zc Z 1) + ((if (tk Z (tN ticket) 2) < ((tk Z (tN ticket) 10) - (sp_cutUp (((tk Z (tN ticket) 10).toInt64) * ((zh Z 4).toInt64)) 1000)) then (tk Z (tN ticket) 2) else ((tk Z (tN ticket) 10) - (sp_cutUp (((tk Z (tN ticket) 10).toInt64) * ((zh Z 4).toInt64)) 1000))).toInt64))) 2 ((zc Z 2) + ((if (tk Z (tN ticket) 1) < (((tk Z (tN ticket) 10) - (sp_cutUp (((tk Z (tN ticket) 10).toInt64) * ((zh Z 4).toInt64)) 1000)) - (if (tk Z (tN ticket) 2) < ((tk Z (tN ticket) 10) - (sp_cutUp (((tk Z (tN ticket) 10).toInt64) * ((zh Z 4).toInt64)) 1000)) then (tk Z (tN ticket) 2) else ((tk Z (tN ticket) 10) - (sp_cutUp (((tk Z (tN ticket) 10).toInt64) * ((zh Z 4).toInt64)) 1000)))) then (tk Z (tN ticket) 1) else (((tk Z (tN ticket) 10) - (sp_cutUp (((tk Z (tN ticket) 10).toInt64) * ((zh Z 4).toInt64)) 1000)) - (if (tk Z (tN ticket) 2) < ((tk Z (tN ticket) 10) - (sp_cutUp (((tk Z (tN ticket) 10).toInt64) * ((zh Z 4).toInt64)) 1000)) then (tk Z (tN ticket) 2) else ((tk Z (tN ticket) 10) - (sp_cutUp (((tk Z (tN ticket) 10).toInt64) * ((zh Z 4).toInt64)) 1000))))).toInt64))) ticket) - (if (tk Z (tN ticket) 2) < ((tk Z (tN ticket) 10) - (sp_cutUp (((tk Z (tN ticket) 10).toInt64) * ((zh Z 4).toInt64)) 1000)) then (tk Z (tN ticket) 2) else ((tk Z (tN ticket) 10) - (sp_cutUp (((tk Z (tN ticket) 10).toInt64) * ((zh Z 4).toInt64)) 1000)))) - (if (tk Z (tN ticket) 1) < (((tk Z (tN ticket) 10) - (sp_cutUp (((tk Z (tN ticket) 10).toInt64) * ((zh Z 4).toInt64)) 1000)) - (if (tk Z (tN ticket) 2) < ((tk Z (tN ticket) 10) - (sp_cutUp (((tk Z (tN ticket) 10).toInt64) * ((zh Z 4).toInt64)) 1000)) then (tk Z (tN ticket) 2) else ((tk Z (tN ticket) 10) - (sp_cutUp (((tk Z (tN ticket) 10).toInt64) * ((zh Z 4).toInt64)) 1000)))) then (tk Z (tN ticket) 1) else (((tk Z (tN ticket) 10) - (sp_cutUp (((tk Z (tN ticket) 10).toInt64) * ((zh Z 4).toInt64)) 1000)) - (if (tk Z (tN ticket) 2) < ((tk Z (tN ticket) 10) - (sp_cutUp (((tk Z (tN ticket) 10).toInt64) * ((zh Z 4).toInt64)) 1000)) then (tk Z (tN ticket) 2) else ((tk Z (tN ticket) 10) - (sp_cutUp (((tk Z (tN ticket) 10).toInt64) * ((zh Z 4).toInt64)) 1000)))))).toInt64) hx hb dX13_sale_177 rfl ?_
          refine lv_ladd hx hb dX13_sale_178 ?_
          refine mx_cst hx hb hK.1 hP (wM_D hi s.heap.size _) hS 5 rfl (by decide) dX13_sale_179 (fun H locs hP hS => ?_)
          refine lv_aload_n hx hb dX13_sale_180 rfl (lv_at hl 5 rfl) ?_
          refine va_get (D := D) (ci := 11) (v := .ref (ad 1)) (C := RX13) (T := TX13) (N := 6) hx hb hts hX13 hown hK.1 hP 0 rfl rfl 0 (by decide) (hts (.fieldLink RX13 10 "PledgeHouseModel" "now" "LPledgeHouseModel$State;") (by decide +kernel)) (fun _ h9 => h9) rfl dX13_sale_181 ?_
          refine va_getN (D := D) (ci := 10) (v := .ref (ad 6)) (C := RX12) (T := TX12) (N := 4) hx hb hts hX12 hown hK.1 hP 1 rfl rfl 3 (by decide) (va_Nw.use rfl hK.2.2.2.2) (fun _ h9 => h9) rfl dX13_sale_184 ?_
          refine lv_bipush (v := 6) hx hb dX13_sale_187 (by decide) ?_
          refine lv_dup2_11 hx hb dX13_sale_189 rfl rfl ?_
          refine mx_cld hx hb hK.1 hP 6 rfl (by decide) (v := zc Z 6) ((zc_zcp_ne (by decide)).trans ((zc_zcp_ne (by decide)).trans ((zc_zcp_ne (by decide)).trans (zc_zcp_ne (by decide))))) dX13_sale_190 ?_
          refine lv_aload_n hx hb dX13_sale_191 rfl (lv_at hl 5 rfl) ?_
          refine lv_iload_n hx hb dX13_sale_192 rfl (lv_at hl 6 rfl) ?_
          refine lv_iconst (v := 1) hx hb dX13_sale_193 (by decide) ?_
          refine m_rd S hK hP (As := [.int ticket, .int 1]) (rest := [.long (zc Z 6), .int 6, .ref (ad 6)]) (met_r (show tk (zcp (zcp (zcp (zcp Z 3 ((zc Z 3) + ((sp_cutUp (((tk Z (tN ticket) 10).toInt64) * ((zh Z 4).toInt64)) 1000).toInt64))) 1 ((zc Z 1) + ((if (tk Z (tN ticket) 2) < ((tk Z (tN ticket) 10) - (sp_cutUp (((tk Z (tN ticket) 10).toInt64) * ((zh Z 4).toInt64)) 1000)) then (tk Z (tN ticket) 2) else ((tk Z (tN ticket) 10) - (sp_cutUp (((tk Z (tN ticket) 10).toInt64) * ((zh Z 4).toInt64)) 1000))).toInt64))) 2 ((zc Z 2) + ((if (tk Z (tN ticket) 1) < (((tk Z (tN ticket) 10) - (sp_cutUp (((tk Z (tN ticket) 10).toInt64) * ((zh Z 4).toInt64)) 1000)) - (if (tk Z (tN ticket) 2) < ((tk Z (tN ticket) 10) - (sp_cutUp (((tk Z (tN ticket) 10).toInt64) * ((zh Z 4).toInt64)) 1000)) then (tk Z (tN ticket) 2) else ((tk Z (tN ticket) 10) - (sp_cutUp (((tk Z (tN ticket) 10).toInt64) * ((zh Z 4).toInt64)) 1000)))) then (tk Z (tN ticket) 1) else (((tk Z (tN ticket) 10) - (sp_cutUp (((tk Z (tN ticket) 10).toInt64) * ((zh Z 4).toInt64)) 1000)) - (if (tk Z (tN ticket) 2) < ((tk Z (tN ticket) 10) - (sp_cutUp (((tk Z (tN ticket) 10).toInt64) * ((zh Z 4).toInt64)) 1000)) then (tk Z (tN ticket) 2) else ((tk Z (tN ticket) 10) - (sp_cutUp (((tk Z (tN ticket) 10).toInt64) * ((zh Z 4).toInt64)) 1000))))).toInt64))) 5 ((zc Z 5) + ((((sp_owed (zcp (zcp (zcp Z 3 ((zc Z 3) + ((sp_cutUp (((tk Z (tN ticket) 10).toInt64) * ((zh Z 4).toInt64)) 1000).toInt64))) 1 ((zc Z 1) + ((if (tk Z (tN ticket) 2) < ((tk Z (tN ticket) 10) - (sp_cutUp (((tk Z (tN ticket) 10).toInt64) * ((zh Z 4).toInt64)) 1000)) then (tk Z (tN ticket) 2) else ((tk Z (tN ticket) 10) - (sp_cutUp (((tk Z (tN ticket) 10).toInt64) * ((zh Z 4).toInt64)) 1000))).toInt64))) 2 ((zc Z 2) + ((if (tk Z (tN ticket) 1) < (((tk Z (tN ticket) 10) - (sp_cutUp (((tk Z (tN ticket) 10).toInt64) * ((zh Z 4).toInt64)) 1000)) - (if (tk Z (tN ticket) 2) < ((tk Z (tN ticket) 10) - (sp_cutUp (((tk Z (tN ticket) 10).toInt64) * ((zh Z 4).toInt64)) 1000)) then (tk Z (tN ticket) 2) else ((tk Z (tN ticket) 10) - (sp_cutUp (((tk Z (tN ticket) 10).toInt64) * ((zh Z 4).toInt64)) 1000)))) then (tk Z (tN ticket) 1) else (((tk Z (tN ticket) 10) - (sp_cutUp (((tk Z (tN ticket) 10).toInt64) * ((zh Z 4).toInt64)) 1000)) - (if (tk Z (tN ticket) 2) < ((tk Z (tN ticket) 10) - (sp_cutUp (((tk Z (tN ticket) 10).toInt64) * ((zh Z 4).toInt64)) 1000)) then (tk Z (tN ticket) 2) else ((tk Z (tN ticket) 10) - (sp_cutUp (((tk Z (tN ticket) 10).toInt64) * ((zh Z 4).toInt64)) 1000))))).toInt64))) ticket) - (if (tk Z (tN ticket) 2) < ((tk Z (tN ticket) 10) - (sp_cutUp (((tk Z (tN ticket) 10).toInt64) * ((zh Z 4).toInt64)) 1000)) then (tk Z (tN ticket) 2) else ((tk Z (tN ticket) 10) - (sp_cutUp (((tk Z (tN ticket) 10).toInt64) * ((zh Z 4).toInt64)) 1000)))) - (if (tk Z (tN ticket) 1) < (((tk Z (tN ticket) 10) - (sp_cutUp (((tk Z (tN ticket) 10).toInt64) * ((zh Z 4).toInt64)) 1000)) - (if (tk Z (tN ticket) 2) < ((tk Z (tN ticket) 10) - (sp_cutUp (((tk Z (tN ticket) 10).toInt64) * ((zh Z 4).toInt64)) 1000)) then (tk Z (tN ticket) 2) else ((tk Z (tN ticket) 10) - (sp_cutUp (((tk Z (tN ticket) 10).toInt64) * ((zh Z 4).toInt64)) 1000)))) then (tk Z (tN ticket) 1) else (((tk Z (tN ticket) 10) - (sp_cutUp (((tk Z (tN ticket) 10).toInt64) * ((zh Z 4).toInt64)) 1000)) - (if (tk Z (tN ticket) 2) < ((tk Z (tN ticket) 10) - (sp_cutUp (((tk Z (tN ticket) 10).toInt64) * ((zh Z 4).toInt64)) 1000)) then (tk Z (tN ticket) 2) else ((tk Z (tN ticket) 10) - (sp_cutUp (((tk Z (tN ticket) 10).toInt64) * ((zh Z 4).toInt64)) 1000)))))).toInt64))) (tN ticket) 1 = tk Z (tN ticket) 1 from ((tk_zcp).trans ((tk_zcp).trans ((tk_zcp).trans tk_zcp)))) (cM_of l D cI cJ ad (zcp (zcp (zcp (zcp Z 3 ((zc Z 3) + ((sp_cutUp (((tk Z (tN ticket) 10).toInt64) * ((zh Z 4).toInt64)) 1000).toInt64))) 1 ((zc Z 1) + ((if (tk Z (tN ticket) 2) < ((tk Z (tN ticket) 10) - (sp_cutUp (((tk Z (tN ticket) 10).toInt64) * ((zh Z 4).toInt64)) 1000)) then (tk Z (tN ticket) 2) else ((tk Z (tN ticket) 10) - (sp_cutUp (((tk Z (tN ticket) 10).toInt64) * ((zh Z 4).toInt64)) 1000))).toInt64))) 2 ((zc Z 2) + ((if (tk Z (tN ticket) 1) < (((tk Z (tN ticket) 10) - (sp_cutUp (((tk Z (tN ticket) 10).toInt64) * ((zh Z 4).toInt64)) 1000)) - (if (tk Z (tN ticket) 2) < ((tk Z (tN ticket) 10) - (sp_cutUp (((tk Z (tN ticket) 10).toInt64) * ((zh Z 4).toInt64)) 1000)) then (tk Z (tN ticket) 2) else ((tk Z (tN ticket) 10) - (sp_cutUp (((tk Z (tN ticket) 10).toInt64) * ((zh Z 4).toInt64)) 1000)))) then (tk Z (tN ticket) 1) else (((tk Z (tN ticket) 10) - (sp_cutUp (((tk Z (tN ticket) 10).toInt64) * ((zh Z 4).toInt64)) 1000)) - (if (tk Z (tN ticket) 2) < ((tk Z (tN ticket) 10) - (sp_cutUp (((tk Z (tN ticket) 10).toInt64) * ((zh Z 4).toInt64)) 1000)) then (tk Z (tN ticket) 2) else ((tk Z (tN ticket) 10) - (sp_cutUp (((tk Z (tN ticket) 10).toInt64) * ((zh Z 4).toInt64)) 1000))))).toInt64))) 5 ((zc Z 5) + ((((sp_owed (zcp (zcp (zcp Z 3 ((zc Z 3) + ((sp_cutUp (((tk Z (tN ticket) 10).toInt64) * ((zh Z 4).toInt64)) 1000).toInt64))) 1 ((zc Z 1) + ((if (tk Z (tN ticket) 2) < ((tk Z (tN ticket) 10) - (sp_cutUp (((tk Z (tN ticket) 10).toInt64) * ((zh Z 4).toInt64)) 1000)) then (tk Z (tN ticket) 2) else ((tk Z (tN ticket) 10) - (sp_cutUp (((tk Z (tN ticket) 10).toInt64) * ((zh Z 4).toInt64)) 1000))).toInt64))) 2 ((zc Z 2) + ((if (tk Z (tN ticket) 1) < (((tk Z (tN ticket) 10) - (sp_cutUp (((tk Z (tN ticket) 10).toInt64) * ((zh Z 4).toInt64)) 1000)) - (if (tk Z (tN ticket) 2) < ((tk Z (tN ticket) 10) - (sp_cutUp (((tk Z (tN ticket) 10).toInt64) * ((zh Z 4).toInt64)) 1000)) then (tk Z (tN ticket) 2) else ((tk Z (tN ticket) 10) - (sp_cutUp (((tk Z (tN ticket) 10).toInt64) * ((zh Z 4).toInt64)) 1000)))) then (tk Z (tN ticket) 1) else (((tk Z (tN ticket) 10) - (sp_cutUp (((tk Z (tN ticket) 10).toInt64) * ((zh Z 4).toInt64)) 1000)) - (if (tk Z (tN ticket) 2) < ((tk Z (tN ticket) 10) - (sp_cutUp (((tk Z (tN ticket) 10).toInt64) * ((zh Z 4).toInt64)) 1000)) then (tk Z (tN ticket) 2) else ((tk Z (tN ticket) 10) - (sp_cutUp (((tk Z (tN ticket) 10).toInt64) * ((zh Z 4).toInt64)) 1000))))).toInt64))) ticket) - (if (tk Z (tN ticket) 2) < ((tk Z (tN ticket) 10) - (sp_cutUp (((tk Z (tN ticket) 10).toInt64) * ((zh Z 4).toInt64)) 1000)) then (tk Z (tN ticket) 2) else ((tk Z (tN ticket) 10) - (sp_cutUp (((tk Z (tN ticket) 10).toInt64) * ((zh Z 4).toInt64)) 1000)))) - (if (tk Z (tN ticket) 1) < (((tk Z (tN ticket) 10) - (sp_cutUp (((tk Z (tN ticket) 10).toInt64) * ((zh Z 4).toInt64)) 1000)) - (if (tk Z (tN ticket) 2) < ((tk Z (tN ticket) 10) - (sp_cutUp (((tk Z (tN ticket) 10).toInt64) * ((zh Z 4).toInt64)) 1000)) then (tk Z (tN ticket) 2) else ((tk Z (tN ticket) 10) - (sp_cutUp (((tk Z (tN ticket) 10).toInt64) * ((zh Z 4).toInt64)) 1000)))) then (tk Z (tN ticket) 1) else (((tk Z (tN ticket) 10) - (sp_cutUp (((tk Z (tN ticket) 10).toInt64) * ((zh Z 4).toInt64)) 1000)) - (if (tk Z (tN ticket) 2) < ((tk Z (tN ticket) 10) - (sp_cutUp (((tk Z (tN ticket) 10).toInt64) * ((zh Z 4).toInt64)) 1000)) then (tk Z (tN ticket) 2) else ((tk Z (tN ticket) 10) - (sp_cutUp (((tk Z (tN ticket) 10).toInt64) * ((zh Z 4).toInt64)) 1000)))))).toInt64))) _ ticket 1 (tok_of hC c_1) 1 rfl (by decide))) (cwV 2 hts gX13_sale_X13_of rfl rfl rfl (by decide +kernel) ⟨Nat.le_of_ble_eq_true rfl, Nat.le_of_ble_eq_true rfl⟩) rfl hl.1 rfl (Nat.le_of_ble_eq_true rfl) dX13_sale_194 ⟨Nat.zero_le _, Nat.zero_le _⟩ ?_
          refine lv_iload hx hb dX13_sale_197 (lv_at hl 0 rfl) ?_
          refine lv_isub hx hb dX13_sale_199 ?_
          refine lv_i2l (v := ((tk Z (tN ticket) 1) - (if (tk Z (tN ticket) 1) < (((tk Z (tN ticket) 10) - (sp_cutUp (((tk Z (tN ticket) 10).toInt64) * ((zh Z 4).toInt64)) 1000)) - (if (tk Z (tN ticket) 2) < ((tk Z (tN ticket) 10) - (sp_cutUp (((tk Z (tN ticket) 10).toInt64) * ((zh Z 4).toInt64)) 1000)) then (tk Z (tN ticket) 2) else ((tk Z (tN ticket) 10) - (sp_cutUp (((tk Z (tN ticket) 10).toInt64) * ((zh Z 4).toInt64)) 1000)))) then (tk Z (tN ticket) 1) else (((tk Z (tN ticket) 10) - (sp_cutUp (((tk Z (tN ticket) 10).toInt64) * ((zh Z 4).toInt64)) 1000)) - (if (tk Z (tN ticket) 2) < ((tk Z (tN ticket) 10) - (sp_cutUp (((tk Z (tN ticket) 10).toInt64) * ((zh Z 4).toInt64)) 1000)) then (tk Z (tN ticket) 2) else ((tk Z (tN ticket) 10) - (sp_cutUp (((tk Z (tN ticket) 10).toInt64) * ((zh Z 4).toInt64)) 1000)))))).toInt64) hx hb dX13_sale_200 rfl ?_
          refine lv_ladd hx hb dX13_sale_201 ?_
          refine mx_cst hx hb hK.1 hP (wM_D hi s.heap.size _) hS 6 rfl (by decide) dX13_sale_202 (fun H locs hP hS => ?_)
          refine lv_aload_n hx hb dX13_sale_203 rfl (lv_at hl 5 rfl) ?_
          refine lv_iload_n hx hb dX13_sale_204 rfl (lv_at hl 6 rfl) ?_
          refine lv_bipush (v := 12) hx hb dX13_sale_205 (by decide) ?_
          refine lv_iload hx hb dX13_sale_207 (lv_at hl 2 rfl) ?_
          refine lv_iload hx hb dX13_sale_209 (lv_at hl 1 rfl) ?_
          refine lv_isub hx hb dX13_sale_211 ?_
          refine lv_iload hx hb dX13_sale_212 (lv_at hl 0 rfl) ?_
          refine lv_isub hx hb dX13_sale_214 ?_
          refine m_wv S hK hP hS (As := [.int ticket, .int 12, .int ((((tk Z (tN ticket) 10) - (sp_cutUp (((tk Z (tN ticket) 10).toInt64) * ((zh Z 4).toInt64)) 1000)) - (if (tk Z (tN ticket) 2) < ((tk Z (tN ticket) 10) - (sp_cutUp (((tk Z (tN ticket) 10).toInt64) * ((zh Z 4).toInt64)) 1000)) then (tk Z (tN ticket) 2) else ((tk Z (tN ticket) 10) - (sp_cutUp (((tk Z (tN ticket) 10).toInt64) * ((zh Z 4).toInt64)) 1000)))) - (if (tk Z (tN ticket) 1) < (((tk Z (tN ticket) 10) - (sp_cutUp (((tk Z (tN ticket) 10).toInt64) * ((zh Z 4).toInt64)) 1000)) - (if (tk Z (tN ticket) 2) < ((tk Z (tN ticket) 10) - (sp_cutUp (((tk Z (tN ticket) 10).toInt64) * ((zh Z 4).toInt64)) 1000)) then (tk Z (tN ticket) 2) else ((tk Z (tN ticket) 10) - (sp_cutUp (((tk Z (tN ticket) 10).toInt64) * ((zh Z 4).toInt64)) 1000)))) then (tk Z (tN ticket) 1) else (((tk Z (tN ticket) 10) - (sp_cutUp (((tk Z (tN ticket) 10).toInt64) * ((zh Z 4).toInt64)) 1000)) - (if (tk Z (tN ticket) 2) < ((tk Z (tN ticket) 10) - (sp_cutUp (((tk Z (tN ticket) 10).toInt64) * ((zh Z 4).toInt64)) 1000)) then (tk Z (tN ticket) 2) else ((tk Z (tN ticket) 10) - (sp_cutUp (((tk Z (tN ticket) 10).toInt64) * ((zh Z 4).toInt64)) 1000))))))]) (rest := []) (cM_put l D cI cJ ad (zcp (zcp (zcp (zcp (zcp Z 3 ((zc Z 3) + ((sp_cutUp (((tk Z (tN ticket) 10).toInt64) * ((zh Z 4).toInt64)) 1000).toInt64))) 1 ((zc Z 1) + ((if (tk Z (tN ticket) 2) < ((tk Z (tN ticket) 10) - (sp_cutUp (((tk Z (tN ticket) 10).toInt64) * ((zh Z 4).toInt64)) 1000)) then (tk Z (tN ticket) 2) else ((tk Z (tN ticket) 10) - (sp_cutUp (((tk Z (tN ticket) 10).toInt64) * ((zh Z 4).toInt64)) 1000))).toInt64))) 2 ((zc Z 2) + ((if (tk Z (tN ticket) 1) < (((tk Z (tN ticket) 10) - (sp_cutUp (((tk Z (tN ticket) 10).toInt64) * ((zh Z 4).toInt64)) 1000)) - (if (tk Z (tN ticket) 2) < ((tk Z (tN ticket) 10) - (sp_cutUp (((tk Z (tN ticket) 10).toInt64) * ((zh Z 4).toInt64)) 1000)) then (tk Z (tN ticket) 2) else ((tk Z (tN ticket) 10) - (sp_cutUp (((tk Z (tN ticket) 10).toInt64) * ((zh Z 4).toInt64)) 1000)))) then (tk Z (tN ticket) 1) else (((tk Z (tN ticket) 10) - (sp_cutUp (((tk Z (tN ticket) 10).toInt64) * ((zh Z 4).toInt64)) 1000)) - (if (tk Z (tN ticket) 2) < ((tk Z (tN ticket) 10) - (sp_cutUp (((tk Z (tN ticket) 10).toInt64) * ((zh Z 4).toInt64)) 1000)) then (tk Z (tN ticket) 2) else ((tk Z (tN ticket) 10) - (sp_cutUp (((tk Z (tN ticket) 10).toInt64) * ((zh Z 4).toInt64)) 1000))))).toInt64))) 5 ((zc Z 5) + ((((sp_owed (zcp (zcp (zcp Z 3 ((zc Z 3) + ((sp_cutUp (((tk Z (tN ticket) 10).toInt64) * ((zh Z 4).toInt64)) 1000).toInt64))) 1 ((zc Z 1) + ((if (tk Z (tN ticket) 2) < ((tk Z (tN ticket) 10) - (sp_cutUp (((tk Z (tN ticket) 10).toInt64) * ((zh Z 4).toInt64)) 1000)) then (tk Z (tN ticket) 2) else ((tk Z (tN ticket) 10) - (sp_cutUp (((tk Z (tN ticket) 10).toInt64) * ((zh Z 4).toInt64)) 1000))).toInt64))) 2 ((zc Z 2) + ((if (tk Z (tN ticket) 1) < (((tk Z (tN ticket) 10) - (sp_cutUp (((tk Z (tN ticket) 10).toInt64) * ((zh Z 4).toInt64)) 1000)) - (if (tk Z (tN ticket) 2) < ((tk Z (tN ticket) 10) - (sp_cutUp (((tk Z (tN ticket) 10).toInt64) * ((zh Z 4).toInt64)) 1000)) then (tk Z (tN ticket) 2) else ((tk Z (tN ticket) 10) - (sp_cutUp (((tk Z (tN ticket) 10).toInt64) * ((zh Z 4).toInt64)) 1000)))) then (tk Z (tN ticket) 1) else (((tk Z (tN ticket) 10) - (sp_cutUp (((tk Z (tN ticket) 10).toInt64) * ((zh Z 4).toInt64)) 1000)) - (if (tk Z (tN ticket) 2) < ((tk Z (tN ticket) 10) - (sp_cutUp (((tk Z (tN ticket) 10).toInt64) * ((zh Z 4).toInt64)) 1000)) then (tk Z (tN ticket) 2) else ((tk Z (tN ticket) 10) - (sp_cutUp (((tk Z (tN ticket) 10).toInt64) * ((zh Z 4).toInt64)) 1000))))).toInt64))) ticket) - (if (tk Z (tN ticket) 2) < ((tk Z (tN ticket) 10) - (sp_cutUp (((tk Z (tN ticket) 10).toInt64) * ((zh Z 4).toInt64)) 1000)) then (tk Z (tN ticket) 2) else ((tk Z (tN ticket) 10) - (sp_cutUp (((tk Z (tN ticket) 10).toInt64) * ((zh Z 4).toInt64)) 1000)))) - (if (tk Z (tN ticket) 1) < (((tk Z (tN ticket) 10) - (sp_cutUp (((tk Z (tN ticket) 10).toInt64) * ((zh Z 4).toInt64)) 1000)) - (if (tk Z (tN ticket) 2) < ((tk Z (tN ticket) 10) - (sp_cutUp (((tk Z (tN ticket) 10).toInt64) * ((zh Z 4).toInt64)) 1000)) then (tk Z (tN ticket) 2) else ((tk Z (tN ticket) 10) - (sp_cutUp (((tk Z (tN ticket) 10).toInt64) * ((zh Z 4).toInt64)) 1000)))) then (tk Z (tN ticket) 1) else (((tk Z (tN ticket) 10) - (sp_cutUp (((tk Z (tN ticket) 10).toInt64) * ((zh Z 4).toInt64)) 1000)) - (if (tk Z (tN ticket) 2) < ((tk Z (tN ticket) 10) - (sp_cutUp (((tk Z (tN ticket) 10).toInt64) * ((zh Z 4).toInt64)) 1000)) then (tk Z (tN ticket) 2) else ((tk Z (tN ticket) 10) - (sp_cutUp (((tk Z (tN ticket) 10).toInt64) * ((zh Z 4).toInt64)) 1000)))))).toInt64))) 6 ((zc Z 6) + (((tk Z (tN ticket) 1) - (if (tk Z (tN ticket) 1) < (((tk Z (tN ticket) 10) - (sp_cutUp (((tk Z (tN ticket) 10).toInt64) * ((zh Z 4).toInt64)) 1000)) - (if (tk Z (tN ticket) 2) < ((tk Z (tN ticket) 10) - (sp_cutUp (((tk Z (tN ticket) 10).toInt64) * ((zh Z 4).toInt64)) 1000)) then (tk Z (tN ticket) 2) else ((tk Z (tN ticket) 10) - (sp_cutUp (((tk Z (tN ticket) 10).toInt64) * ((zh Z 4).toInt64)) 1000)))) then (tk Z (tN ticket) 1) else (((tk Z (tN ticket) 10) - (sp_cutUp (((tk Z (tN ticket) 10).toInt64) * ((zh Z 4).toInt64)) 1000)) - (if (tk Z (tN ticket) 2) < ((tk Z (tN ticket) 10) - (sp_cutUp (((tk Z (tN ticket) 10).toInt64) * ((zh Z 4).toInt64)) 1000)) then (tk Z (tN ticket) 2) else ((tk Z (tN ticket) 10) - (sp_cutUp (((tk Z (tN ticket) 10).toInt64) * ((zh Z 4).toInt64)) 1000)))))).toInt64))) _ hi ticket 12 ((((tk Z (tN ticket) 10) - (sp_cutUp (((tk Z (tN ticket) 10).toInt64) * ((zh Z 4).toInt64)) 1000)) - (if (tk Z (tN ticket) 2) < ((tk Z (tN ticket) 10) - (sp_cutUp (((tk Z (tN ticket) 10).toInt64) * ((zh Z 4).toInt64)) 1000)) then (tk Z (tN ticket) 2) else ((tk Z (tN ticket) 10) - (sp_cutUp (((tk Z (tN ticket) 10).toInt64) * ((zh Z 4).toInt64)) 1000)))) - (if (tk Z (tN ticket) 1) < (((tk Z (tN ticket) 10) - (sp_cutUp (((tk Z (tN ticket) 10).toInt64) * ((zh Z 4).toInt64)) 1000)) - (if (tk Z (tN ticket) 2) < ((tk Z (tN ticket) 10) - (sp_cutUp (((tk Z (tN ticket) 10).toInt64) * ((zh Z 4).toInt64)) 1000)) then (tk Z (tN ticket) 2) else ((tk Z (tN ticket) 10) - (sp_cutUp (((tk Z (tN ticket) 10).toInt64) * ((zh Z 4).toInt64)) 1000)))) then (tk Z (tN ticket) 1) else (((tk Z (tN ticket) 10) - (sp_cutUp (((tk Z (tN ticket) 10).toInt64) * ((zh Z 4).toInt64)) 1000)) - (if (tk Z (tN ticket) 2) < ((tk Z (tN ticket) 10) - (sp_cutUp (((tk Z (tN ticket) 10).toInt64) * ((zh Z 4).toInt64)) 1000)) then (tk Z (tN ticket) 2) else ((tk Z (tN ticket) 10) - (sp_cutUp (((tk Z (tN ticket) 10).toInt64) * ((zh Z 4).toInt64)) 1000)))))) (tok_of hC c_1) 12 rfl (by decide)) (cwV 3 hts gX13_sale_X13_put rfl rfl rfl (by decide +kernel) ⟨Nat.le_of_ble_eq_true rfl, Nat.le_of_ble_eq_true rfl⟩) rfl hl.1 rfl (Nat.le_of_ble_eq_true rfl) dX13_sale_215 ⟨Nat.zero_le _, Nat.zero_le _⟩ (fun H locs hP hS => ?_)
          refine lv_aload_n hx hb dX13_sale_218 rfl (lv_at hl 5 rfl) ?_
          refine lv_iload_n hx hb dX13_sale_219 rfl (lv_at hl 6 rfl) ?_
          refine lv_bipush (v := 14) hx hb dX13_sale_220 (by decide) ?_
          refine lv_aload_n hx hb dX13_sale_222 rfl (lv_at hl 5 rfl) ?_
          refine m_rd S hK hP (As := []) (rest := [.int 14, .int ticket, .ref (ad 0)]) (met_r (show zh (tkp (zcp (zcp (zcp (zcp (zcp Z 3 ((zc Z 3) + ((sp_cutUp (((tk Z (tN ticket) 10).toInt64) * ((zh Z 4).toInt64)) 1000).toInt64))) 1 ((zc Z 1) + ((if (tk Z (tN ticket) 2) < ((tk Z (tN ticket) 10) - (sp_cutUp (((tk Z (tN ticket) 10).toInt64) * ((zh Z 4).toInt64)) 1000)) then (tk Z (tN ticket) 2) else ((tk Z (tN ticket) 10) - (sp_cutUp (((tk Z (tN ticket) 10).toInt64) * ((zh Z 4).toInt64)) 1000))).toInt64))) 2 ((zc Z 2) + ((if (tk Z (tN ticket) 1) < (((tk Z (tN ticket) 10) - (sp_cutUp (((tk Z (tN ticket) 10).toInt64) * ((zh Z 4).toInt64)) 1000)) - (if (tk Z (tN ticket) 2) < ((tk Z (tN ticket) 10) - (sp_cutUp (((tk Z (tN ticket) 10).toInt64) * ((zh Z 4).toInt64)) 1000)) then (tk Z (tN ticket) 2) else ((tk Z (tN ticket) 10) - (sp_cutUp (((tk Z (tN ticket) 10).toInt64) * ((zh Z 4).toInt64)) 1000)))) then (tk Z (tN ticket) 1) else (((tk Z (tN ticket) 10) - (sp_cutUp (((tk Z (tN ticket) 10).toInt64) * ((zh Z 4).toInt64)) 1000)) - (if (tk Z (tN ticket) 2) < ((tk Z (tN ticket) 10) - (sp_cutUp (((tk Z (tN ticket) 10).toInt64) * ((zh Z 4).toInt64)) 1000)) then (tk Z (tN ticket) 2) else ((tk Z (tN ticket) 10) - (sp_cutUp (((tk Z (tN ticket) 10).toInt64) * ((zh Z 4).toInt64)) 1000))))).toInt64))) 5 ((zc Z 5) + ((((sp_owed (zcp (zcp (zcp Z 3 ((zc Z 3) + ((sp_cutUp (((tk Z (tN ticket) 10).toInt64) * ((zh Z 4).toInt64)) 1000).toInt64))) 1 ((zc Z 1) + ((if (tk Z (tN ticket) 2) < ((tk Z (tN ticket) 10) - (sp_cutUp (((tk Z (tN ticket) 10).toInt64) * ((zh Z 4).toInt64)) 1000)) then (tk Z (tN ticket) 2) else ((tk Z (tN ticket) 10) - (sp_cutUp (((tk Z (tN ticket) 10).toInt64) * ((zh Z 4).toInt64)) 1000))).toInt64))) 2 ((zc Z 2) + ((if (tk Z (tN ticket) 1) < (((tk Z (tN ticket) 10) - (sp_cutUp (((tk Z (tN ticket) 10).toInt64) * ((zh Z 4).toInt64)) 1000)) - (if (tk Z (tN ticket) 2) < ((tk Z (tN ticket) 10) - (sp_cutUp (((tk Z (tN ticket) 10).toInt64) * ((zh Z 4).toInt64)) 1000)) then (tk Z (tN ticket) 2) else ((tk Z (tN ticket) 10) - (sp_cutUp (((tk Z (tN ticket) 10).toInt64) * ((zh Z 4).toInt64)) 1000)))) then (tk Z (tN ticket) 1) else (((tk Z (tN ticket) 10) - (sp_cutUp (((tk Z (tN ticket) 10).toInt64) * ((zh Z 4).toInt64)) 1000)) - (if (tk Z (tN ticket) 2) < ((tk Z (tN ticket) 10) - (sp_cutUp (((tk Z (tN ticket) 10).toInt64) * ((zh Z 4).toInt64)) 1000)) then (tk Z (tN ticket) 2) else ((tk Z (tN ticket) 10) - (sp_cutUp (((tk Z (tN ticket) 10).toInt64) * ((zh Z 4).toInt64)) 1000))))).toInt64))) ticket) - (if (tk Z (tN ticket) 2) < ((tk Z (tN ticket) 10) - (sp_cutUp (((tk Z (tN ticket) 10).toInt64) * ((zh Z 4).toInt64)) 1000)) then (tk Z (tN ticket) 2) else ((tk Z (tN ticket) 10) - (sp_cutUp (((tk Z (tN ticket) 10).toInt64) * ((zh Z 4).toInt64)) 1000)))) - (if (tk Z (tN ticket) 1) < (((tk Z (tN ticket) 10) - (sp_cutUp (((tk Z (tN ticket) 10).toInt64) * ((zh Z 4).toInt64)) 1000)) - (if (tk Z (tN ticket) 2) < ((tk Z (tN ticket) 10) - (sp_cutUp (((tk Z (tN ticket) 10).toInt64) * ((zh Z 4).toInt64)) 1000)) then (tk Z (tN ticket) 2) else ((tk Z (tN ticket) 10) - (sp_cutUp (((tk Z (tN ticket) 10).toInt64) * ((zh Z 4).toInt64)) 1000)))) then (tk Z (tN ticket) 1) else (((tk Z (tN ticket) 10) - (sp_cutUp (((tk Z (tN ticket) 10).toInt64) * ((zh Z 4).toInt64)) 1000)) - (if (tk Z (tN ticket) 2) < ((tk Z (tN ticket) 10) - (sp_cutUp (((tk Z (tN ticket) 10).toInt64) * ((zh Z 4).toInt64)) 1000)) then (tk Z (tN ticket) 2) else ((tk Z (tN ticket) 10) - (sp_cutUp (((tk Z (tN ticket) 10).toInt64) * ((zh Z 4).toInt64)) 1000)))))).toInt64))) 6 ((zc Z 6) + (((tk Z (tN ticket) 1) - (if (tk Z (tN ticket) 1) < (((tk Z (tN ticket) 10) - (sp_cutUp (((tk Z (tN ticket) 10).toInt64) * ((zh Z 4).toInt64)) 1000)) - (if (tk Z (tN ticket) 2) < ((tk Z (tN ticket) 10) - (sp_cutUp (((tk Z (tN ticket) 10).toInt64) * ((zh Z 4).toInt64)) 1000)) then (tk Z (tN ticket) 2) else ((tk Z (tN ticket) 10) - (sp_cutUp (((tk Z (tN ticket) 10).toInt64) * ((zh Z 4).toInt64)) 1000)))) then (tk Z (tN ticket) 1) else (((tk Z (tN ticket) 10) - (sp_cutUp (((tk Z (tN ticket) 10).toInt64) * ((zh Z 4).toInt64)) 1000)) - (if (tk Z (tN ticket) 2) < ((tk Z (tN ticket) 10) - (sp_cutUp (((tk Z (tN ticket) 10).toInt64) * ((zh Z 4).toInt64)) 1000)) then (tk Z (tN ticket) 2) else ((tk Z (tN ticket) 10) - (sp_cutUp (((tk Z (tN ticket) 10).toInt64) * ((zh Z 4).toInt64)) 1000)))))).toInt64))) (tN ticket) 12 ((((tk Z (tN ticket) 10) - (sp_cutUp (((tk Z (tN ticket) 10).toInt64) * ((zh Z 4).toInt64)) 1000)) - (if (tk Z (tN ticket) 2) < ((tk Z (tN ticket) 10) - (sp_cutUp (((tk Z (tN ticket) 10).toInt64) * ((zh Z 4).toInt64)) 1000)) then (tk Z (tN ticket) 2) else ((tk Z (tN ticket) 10) - (sp_cutUp (((tk Z (tN ticket) 10).toInt64) * ((zh Z 4).toInt64)) 1000)))) - (if (tk Z (tN ticket) 1) < (((tk Z (tN ticket) 10) - (sp_cutUp (((tk Z (tN ticket) 10).toInt64) * ((zh Z 4).toInt64)) 1000)) - (if (tk Z (tN ticket) 2) < ((tk Z (tN ticket) 10) - (sp_cutUp (((tk Z (tN ticket) 10).toInt64) * ((zh Z 4).toInt64)) 1000)) then (tk Z (tN ticket) 2) else ((tk Z (tN ticket) 10) - (sp_cutUp (((tk Z (tN ticket) 10).toInt64) * ((zh Z 4).toInt64)) 1000)))) then (tk Z (tN ticket) 1) else (((tk Z (tN ticket) 10) - (sp_cutUp (((tk Z (tN ticket) 10).toInt64) * ((zh Z 4).toInt64)) 1000)) - (if (tk Z (tN ticket) 2) < ((tk Z (tN ticket) 10) - (sp_cutUp (((tk Z (tN ticket) 10).toInt64) * ((zh Z 4).toInt64)) 1000)) then (tk Z (tN ticket) 2) else ((tk Z (tN ticket) 10) - (sp_cutUp (((tk Z (tN ticket) 10).toInt64) * ((zh Z 4).toInt64)) 1000))))))) 0 = zh Z 0 from ((zh_tkp).trans ((zh_zcp).trans ((zh_zcp).trans ((zh_zcp).trans ((zh_zcp).trans zh_zcp)))))) (cM_today l D cI cJ ad (tkp (zcp (zcp (zcp (zcp (zcp Z 3 ((zc Z 3) + ((sp_cutUp (((tk Z (tN ticket) 10).toInt64) * ((zh Z 4).toInt64)) 1000).toInt64))) 1 ((zc Z 1) + ((if (tk Z (tN ticket) 2) < ((tk Z (tN ticket) 10) - (sp_cutUp (((tk Z (tN ticket) 10).toInt64) * ((zh Z 4).toInt64)) 1000)) then (tk Z (tN ticket) 2) else ((tk Z (tN ticket) 10) - (sp_cutUp (((tk Z (tN ticket) 10).toInt64) * ((zh Z 4).toInt64)) 1000))).toInt64))) 2 ((zc Z 2) + ((if (tk Z (tN ticket) 1) < (((tk Z (tN ticket) 10) - (sp_cutUp (((tk Z (tN ticket) 10).toInt64) * ((zh Z 4).toInt64)) 1000)) - (if (tk Z (tN ticket) 2) < ((tk Z (tN ticket) 10) - (sp_cutUp (((tk Z (tN ticket) 10).toInt64) * ((zh Z 4).toInt64)) 1000)) then (tk Z (tN ticket) 2) else ((tk Z (tN ticket) 10) - (sp_cutUp (((tk Z (tN ticket) 10).toInt64) * ((zh Z 4).toInt64)) 1000)))) then (tk Z (tN ticket) 1) else (((tk Z (tN ticket) 10) - (sp_cutUp (((tk Z (tN ticket) 10).toInt64) * ((zh Z 4).toInt64)) 1000)) - (if (tk Z (tN ticket) 2) < ((tk Z (tN ticket) 10) - (sp_cutUp (((tk Z (tN ticket) 10).toInt64) * ((zh Z 4).toInt64)) 1000)) then (tk Z (tN ticket) 2) else ((tk Z (tN ticket) 10) - (sp_cutUp (((tk Z (tN ticket) 10).toInt64) * ((zh Z 4).toInt64)) 1000))))).toInt64))) 5 ((zc Z 5) + ((((sp_owed (zcp (zcp (zcp Z 3 ((zc Z 3) + ((sp_cutUp (((tk Z (tN ticket) 10).toInt64) * ((zh Z 4).toInt64)) 1000).toInt64))) 1 ((zc Z 1) + ((if (tk Z (tN ticket) 2) < ((tk Z (tN ticket) 10) - (sp_cutUp (((tk Z (tN ticket) 10).toInt64) * ((zh Z 4).toInt64)) 1000)) then (tk Z (tN ticket) 2) else ((tk Z (tN ticket) 10) - (sp_cutUp (((tk Z (tN ticket) 10).toInt64) * ((zh Z 4).toInt64)) 1000))).toInt64))) 2 ((zc Z 2) + ((if (tk Z (tN ticket) 1) < (((tk Z (tN ticket) 10) - (sp_cutUp (((tk Z (tN ticket) 10).toInt64) * ((zh Z 4).toInt64)) 1000)) - (if (tk Z (tN ticket) 2) < ((tk Z (tN ticket) 10) - (sp_cutUp (((tk Z (tN ticket) 10).toInt64) * ((zh Z 4).toInt64)) 1000)) then (tk Z (tN ticket) 2) else ((tk Z (tN ticket) 10) - (sp_cutUp (((tk Z (tN ticket) 10).toInt64) * ((zh Z 4).toInt64)) 1000)))) then (tk Z (tN ticket) 1) else (((tk Z (tN ticket) 10) - (sp_cutUp (((tk Z (tN ticket) 10).toInt64) * ((zh Z 4).toInt64)) 1000)) - (if (tk Z (tN ticket) 2) < ((tk Z (tN ticket) 10) - (sp_cutUp (((tk Z (tN ticket) 10).toInt64) * ((zh Z 4).toInt64)) 1000)) then (tk Z (tN ticket) 2) else ((tk Z (tN ticket) 10) - (sp_cutUp (((tk Z (tN ticket) 10).toInt64) * ((zh Z 4).toInt64)) 1000))))).toInt64))) ticket) - (if (tk Z (tN ticket) 2) < ((tk Z (tN ticket) 10) - (sp_cutUp (((tk Z (tN ticket) 10).toInt64) * ((zh Z 4).toInt64)) 1000)) then (tk Z (tN ticket) 2) else ((tk Z (tN ticket) 10) - (sp_cutUp (((tk Z (tN ticket) 10).toInt64) * ((zh Z 4).toInt64)) 1000)))) - (if (tk Z (tN ticket) 1) < (((tk Z (tN ticket) 10) - (sp_cutUp (((tk Z (tN ticket) 10).toInt64) * ((zh Z 4).toInt64)) 1000)) - (if (tk Z (tN ticket) 2) < ((tk Z (tN ticket) 10) - (sp_cutUp (((tk Z (tN ticket) 10).toInt64) * ((zh Z 4).toInt64)) 1000)) then (tk Z (tN ticket) 2) else ((tk Z (tN ticket) 10) - (sp_cutUp (((tk Z (tN ticket) 10).toInt64) * ((zh Z 4).toInt64)) 1000)))) then (tk Z (tN ticket) 1) else (((tk Z (tN ticket) 10) - (sp_cutUp (((tk Z (tN ticket) 10).toInt64) * ((zh Z 4).toInt64)) 1000)) - (if (tk Z (tN ticket) 2) < ((tk Z (tN ticket) 10) - (sp_cutUp (((tk Z (tN ticket) 10).toInt64) * ((zh Z 4).toInt64)) 1000)) then (tk Z (tN ticket) 2) else ((tk Z (tN ticket) 10) - (sp_cutUp (((tk Z (tN ticket) 10).toInt64) * ((zh Z 4).toInt64)) 1000)))))).toInt64))) 6 ((zc Z 6) + (((tk Z (tN ticket) 1) - (if (tk Z (tN ticket) 1) < (((tk Z (tN ticket) 10) - (sp_cutUp (((tk Z (tN ticket) 10).toInt64) * ((zh Z 4).toInt64)) 1000)) - (if (tk Z (tN ticket) 2) < ((tk Z (tN ticket) 10) - (sp_cutUp (((tk Z (tN ticket) 10).toInt64) * ((zh Z 4).toInt64)) 1000)) then (tk Z (tN ticket) 2) else ((tk Z (tN ticket) 10) - (sp_cutUp (((tk Z (tN ticket) 10).toInt64) * ((zh Z 4).toInt64)) 1000)))) then (tk Z (tN ticket) 1) else (((tk Z (tN ticket) 10) - (sp_cutUp (((tk Z (tN ticket) 10).toInt64) * ((zh Z 4).toInt64)) 1000)) - (if (tk Z (tN ticket) 2) < ((tk Z (tN ticket) 10) - (sp_cutUp (((tk Z (tN ticket) 10).toInt64) * ((zh Z 4).toInt64)) 1000)) then (tk Z (tN ticket) 2) else ((tk Z (tN ticket) 10) - (sp_cutUp (((tk Z (tN ticket) 10).toInt64) * ((zh Z 4).toInt64)) 1000)))))).toInt64))) (tN ticket) 12 ((((tk Z (tN ticket) 10) - (sp_cutUp (((tk Z (tN ticket) 10).toInt64) * ((zh Z 4).toInt64)) 1000)) - (if (tk Z (tN ticket) 2) < ((tk Z (tN ticket) 10) - (sp_cutUp (((tk Z (tN ticket) 10).toInt64) * ((zh Z 4).toInt64)) 1000)) then (tk Z (tN ticket) 2) else ((tk Z (tN ticket) 10) - (sp_cutUp (((tk Z (tN ticket) 10).toInt64) * ((zh Z 4).toInt64)) 1000)))) - (if (tk Z (tN ticket) 1) < (((tk Z (tN ticket) 10) - (sp_cutUp (((tk Z (tN ticket) 10).toInt64) * ((zh Z 4).toInt64)) 1000)) - (if (tk Z (tN ticket) 2) < ((tk Z (tN ticket) 10) - (sp_cutUp (((tk Z (tN ticket) 10).toInt64) * ((zh Z 4).toInt64)) 1000)) then (tk Z (tN ticket) 2) else ((tk Z (tN ticket) 10) - (sp_cutUp (((tk Z (tN ticket) 10).toInt64) * ((zh Z 4).toInt64)) 1000)))) then (tk Z (tN ticket) 1) else (((tk Z (tN ticket) 10) - (sp_cutUp (((tk Z (tN ticket) 10).toInt64) * ((zh Z 4).toInt64)) 1000)) - (if (tk Z (tN ticket) 2) < ((tk Z (tN ticket) 10) - (sp_cutUp (((tk Z (tN ticket) 10).toInt64) * ((zh Z 4).toInt64)) 1000)) then (tk Z (tN ticket) 2) else ((tk Z (tN ticket) 10) - (sp_cutUp (((tk Z (tN ticket) 10).toInt64) * ((zh Z 4).toInt64)) 1000))))))) _)) (cwV 0 hts gX13_sale_X13_today rfl rfl rfl (by decide +kernel) ⟨Nat.le_of_ble_eq_true rfl, Nat.le_of_ble_eq_true rfl⟩) rfl hl.1 rfl (Nat.le_of_ble_eq_true rfl) dX13_sale_223 ⟨Nat.zero_le _, Nat.zero_le _⟩ ?_
          refine lv_aload_n hx hb dX13_sale_226 rfl (lv_at hl 5 rfl) ?_
          refine lv_iconst (v := 2) hx hb dX13_sale_227 (by decide) ?_
          refine m_rd S hK hP (As := [.int 2]) (rest := [.int (zh Z 0), .int 14, .int ticket, .ref (ad 0)]) (met_r (show zh (tkp (zcp (zcp (zcp (zcp (zcp Z 3 ((zc Z 3) + ((sp_cutUp (((tk Z (tN ticket) 10).toInt64) * ((zh Z 4).toInt64)) 1000).toInt64))) 1 ((zc Z 1) + ((if (tk Z (tN ticket) 2) < ((tk Z (tN ticket) 10) - (sp_cutUp (((tk Z (tN ticket) 10).toInt64) * ((zh Z 4).toInt64)) 1000)) then (tk Z (tN ticket) 2) else ((tk Z (tN ticket) 10) - (sp_cutUp (((tk Z (tN ticket) 10).toInt64) * ((zh Z 4).toInt64)) 1000))).toInt64))) 2 ((zc Z 2) + ((if (tk Z (tN ticket) 1) < (((tk Z (tN ticket) 10) - (sp_cutUp (((tk Z (tN ticket) 10).toInt64) * ((zh Z 4).toInt64)) 1000)) - (if (tk Z (tN ticket) 2) < ((tk Z (tN ticket) 10) - (sp_cutUp (((tk Z (tN ticket) 10).toInt64) * ((zh Z 4).toInt64)) 1000)) then (tk Z (tN ticket) 2) else ((tk Z (tN ticket) 10) - (sp_cutUp (((tk Z (tN ticket) 10).toInt64) * ((zh Z 4).toInt64)) 1000)))) then (tk Z (tN ticket) 1) else (((tk Z (tN ticket) 10) - (sp_cutUp (((tk Z (tN ticket) 10).toInt64) * ((zh Z 4).toInt64)) 1000)) - (if (tk Z (tN ticket) 2) < ((tk Z (tN ticket) 10) - (sp_cutUp (((tk Z (tN ticket) 10).toInt64) * ((zh Z 4).toInt64)) 1000)) then (tk Z (tN ticket) 2) else ((tk Z (tN ticket) 10) - (sp_cutUp (((tk Z (tN ticket) 10).toInt64) * ((zh Z 4).toInt64)) 1000))))).toInt64))) 5 ((zc Z 5) + ((((sp_owed (zcp (zcp (zcp Z 3 ((zc Z 3) + ((sp_cutUp (((tk Z (tN ticket) 10).toInt64) * ((zh Z 4).toInt64)) 1000).toInt64))) 1 ((zc Z 1) + ((if (tk Z (tN ticket) 2) < ((tk Z (tN ticket) 10) - (sp_cutUp (((tk Z (tN ticket) 10).toInt64) * ((zh Z 4).toInt64)) 1000)) then (tk Z (tN ticket) 2) else ((tk Z (tN ticket) 10) - (sp_cutUp (((tk Z (tN ticket) 10).toInt64) * ((zh Z 4).toInt64)) 1000))).toInt64))) 2 ((zc Z 2) + ((if (tk Z (tN ticket) 1) < (((tk Z (tN ticket) 10) - (sp_cutUp (((tk Z (tN ticket) 10).toInt64) * ((zh Z 4).toInt64)) 1000)) - (if (tk Z (tN ticket) 2) < ((tk Z (tN ticket) 10) - (sp_cutUp (((tk Z (tN ticket) 10).toInt64) * ((zh Z 4).toInt64)) 1000)) then (tk Z (tN ticket) 2) else ((tk Z (tN ticket) 10) - (sp_cutUp (((tk Z (tN ticket) 10).toInt64) * ((zh Z 4).toInt64)) 1000)))) then (tk Z (tN ticket) 1) else (((tk Z (tN ticket) 10) - (sp_cutUp (((tk Z (tN ticket) 10).toInt64) * ((zh Z 4).toInt64)) 1000)) - (if (tk Z (tN ticket) 2) < ((tk Z (tN ticket) 10) - (sp_cutUp (((tk Z (tN ticket) 10).toInt64) * ((zh Z 4).toInt64)) 1000)) then (tk Z (tN ticket) 2) else ((tk Z (tN ticket) 10) - (sp_cutUp (((tk Z (tN ticket) 10).toInt64) * ((zh Z 4).toInt64)) 1000))))).toInt64))) ticket) - (if (tk Z (tN ticket) 2) < ((tk Z (tN ticket) 10) - (sp_cutUp (((tk Z (tN ticket) 10).toInt64) * ((zh Z 4).toInt64)) 1000)) then (tk Z (tN ticket) 2) else ((tk Z (tN ticket) 10) - (sp_cutUp (((tk Z (tN ticket) 10).toInt64) * ((zh Z 4).toInt64)) 1000)))) - (if (tk Z (tN ticket) 1) < (((tk Z (tN ticket) 10) - (sp_cutUp (((tk Z (tN ticket) 10).toInt64) * ((zh Z 4).toInt64)) 1000)) - (if (tk Z (tN ticket) 2) < ((tk Z (tN ticket) 10) - (sp_cutUp (((tk Z (tN ticket) 10).toInt64) * ((zh Z 4).toInt64)) 1000)) then (tk Z (tN ticket) 2) else ((tk Z (tN ticket) 10) - (sp_cutUp (((tk Z (tN ticket) 10).toInt64) * ((zh Z 4).toInt64)) 1000)))) then (tk Z (tN ticket) 1) else (((tk Z (tN ticket) 10) - (sp_cutUp (((tk Z (tN ticket) 10).toInt64) * ((zh Z 4).toInt64)) 1000)) - (if (tk Z (tN ticket) 2) < ((tk Z (tN ticket) 10) - (sp_cutUp (((tk Z (tN ticket) 10).toInt64) * ((zh Z 4).toInt64)) 1000)) then (tk Z (tN ticket) 2) else ((tk Z (tN ticket) 10) - (sp_cutUp (((tk Z (tN ticket) 10).toInt64) * ((zh Z 4).toInt64)) 1000)))))).toInt64))) 6 ((zc Z 6) + (((tk Z (tN ticket) 1) - (if (tk Z (tN ticket) 1) < (((tk Z (tN ticket) 10) - (sp_cutUp (((tk Z (tN ticket) 10).toInt64) * ((zh Z 4).toInt64)) 1000)) - (if (tk Z (tN ticket) 2) < ((tk Z (tN ticket) 10) - (sp_cutUp (((tk Z (tN ticket) 10).toInt64) * ((zh Z 4).toInt64)) 1000)) then (tk Z (tN ticket) 2) else ((tk Z (tN ticket) 10) - (sp_cutUp (((tk Z (tN ticket) 10).toInt64) * ((zh Z 4).toInt64)) 1000)))) then (tk Z (tN ticket) 1) else (((tk Z (tN ticket) 10) - (sp_cutUp (((tk Z (tN ticket) 10).toInt64) * ((zh Z 4).toInt64)) 1000)) - (if (tk Z (tN ticket) 2) < ((tk Z (tN ticket) 10) - (sp_cutUp (((tk Z (tN ticket) 10).toInt64) * ((zh Z 4).toInt64)) 1000)) then (tk Z (tN ticket) 2) else ((tk Z (tN ticket) 10) - (sp_cutUp (((tk Z (tN ticket) 10).toInt64) * ((zh Z 4).toInt64)) 1000)))))).toInt64))) (tN ticket) 12 ((((tk Z (tN ticket) 10) - (sp_cutUp (((tk Z (tN ticket) 10).toInt64) * ((zh Z 4).toInt64)) 1000)) - (if (tk Z (tN ticket) 2) < ((tk Z (tN ticket) 10) - (sp_cutUp (((tk Z (tN ticket) 10).toInt64) * ((zh Z 4).toInt64)) 1000)) then (tk Z (tN ticket) 2) else ((tk Z (tN ticket) 10) - (sp_cutUp (((tk Z (tN ticket) 10).toInt64) * ((zh Z 4).toInt64)) 1000)))) - (if (tk Z (tN ticket) 1) < (((tk Z (tN ticket) 10) - (sp_cutUp (((tk Z (tN ticket) 10).toInt64) * ((zh Z 4).toInt64)) 1000)) - (if (tk Z (tN ticket) 2) < ((tk Z (tN ticket) 10) - (sp_cutUp (((tk Z (tN ticket) 10).toInt64) * ((zh Z 4).toInt64)) 1000)) then (tk Z (tN ticket) 2) else ((tk Z (tN ticket) 10) - (sp_cutUp (((tk Z (tN ticket) 10).toInt64) * ((zh Z 4).toInt64)) 1000)))) then (tk Z (tN ticket) 1) else (((tk Z (tN ticket) 10) - (sp_cutUp (((tk Z (tN ticket) 10).toInt64) * ((zh Z 4).toInt64)) 1000)) - (if (tk Z (tN ticket) 2) < ((tk Z (tN ticket) 10) - (sp_cutUp (((tk Z (tN ticket) 10).toInt64) * ((zh Z 4).toInt64)) 1000)) then (tk Z (tN ticket) 2) else ((tk Z (tN ticket) 10) - (sp_cutUp (((tk Z (tN ticket) 10).toInt64) * ((zh Z 4).toInt64)) 1000))))))) 5 = zh Z 5 from ((zh_tkp).trans ((zh_zcp).trans ((zh_zcp).trans ((zh_zcp).trans ((zh_zcp).trans zh_zcp)))))) (cM_ruleOf l D cI cJ ad (tkp (zcp (zcp (zcp (zcp (zcp Z 3 ((zc Z 3) + ((sp_cutUp (((tk Z (tN ticket) 10).toInt64) * ((zh Z 4).toInt64)) 1000).toInt64))) 1 ((zc Z 1) + ((if (tk Z (tN ticket) 2) < ((tk Z (tN ticket) 10) - (sp_cutUp (((tk Z (tN ticket) 10).toInt64) * ((zh Z 4).toInt64)) 1000)) then (tk Z (tN ticket) 2) else ((tk Z (tN ticket) 10) - (sp_cutUp (((tk Z (tN ticket) 10).toInt64) * ((zh Z 4).toInt64)) 1000))).toInt64))) 2 ((zc Z 2) + ((if (tk Z (tN ticket) 1) < (((tk Z (tN ticket) 10) - (sp_cutUp (((tk Z (tN ticket) 10).toInt64) * ((zh Z 4).toInt64)) 1000)) - (if (tk Z (tN ticket) 2) < ((tk Z (tN ticket) 10) - (sp_cutUp (((tk Z (tN ticket) 10).toInt64) * ((zh Z 4).toInt64)) 1000)) then (tk Z (tN ticket) 2) else ((tk Z (tN ticket) 10) - (sp_cutUp (((tk Z (tN ticket) 10).toInt64) * ((zh Z 4).toInt64)) 1000)))) then (tk Z (tN ticket) 1) else (((tk Z (tN ticket) 10) - (sp_cutUp (((tk Z (tN ticket) 10).toInt64) * ((zh Z 4).toInt64)) 1000)) - (if (tk Z (tN ticket) 2) < ((tk Z (tN ticket) 10) - (sp_cutUp (((tk Z (tN ticket) 10).toInt64) * ((zh Z 4).toInt64)) 1000)) then (tk Z (tN ticket) 2) else ((tk Z (tN ticket) 10) - (sp_cutUp (((tk Z (tN ticket) 10).toInt64) * ((zh Z 4).toInt64)) 1000))))).toInt64))) 5 ((zc Z 5) + ((((sp_owed (zcp (zcp (zcp Z 3 ((zc Z 3) + ((sp_cutUp (((tk Z (tN ticket) 10).toInt64) * ((zh Z 4).toInt64)) 1000).toInt64))) 1 ((zc Z 1) + ((if (tk Z (tN ticket) 2) < ((tk Z (tN ticket) 10) - (sp_cutUp (((tk Z (tN ticket) 10).toInt64) * ((zh Z 4).toInt64)) 1000)) then (tk Z (tN ticket) 2) else ((tk Z (tN ticket) 10) - (sp_cutUp (((tk Z (tN ticket) 10).toInt64) * ((zh Z 4).toInt64)) 1000))).toInt64))) 2 ((zc Z 2) + ((if (tk Z (tN ticket) 1) < (((tk Z (tN ticket) 10) - (sp_cutUp (((tk Z (tN ticket) 10).toInt64) * ((zh Z 4).toInt64)) 1000)) - (if (tk Z (tN ticket) 2) < ((tk Z (tN ticket) 10) - (sp_cutUp (((tk Z (tN ticket) 10).toInt64) * ((zh Z 4).toInt64)) 1000)) then (tk Z (tN ticket) 2) else ((tk Z (tN ticket) 10) - (sp_cutUp (((tk Z (tN ticket) 10).toInt64) * ((zh Z 4).toInt64)) 1000)))) then (tk Z (tN ticket) 1) else (((tk Z (tN ticket) 10) - (sp_cutUp (((tk Z (tN ticket) 10).toInt64) * ((zh Z 4).toInt64)) 1000)) - (if (tk Z (tN ticket) 2) < ((tk Z (tN ticket) 10) - (sp_cutUp (((tk Z (tN ticket) 10).toInt64) * ((zh Z 4).toInt64)) 1000)) then (tk Z (tN ticket) 2) else ((tk Z (tN ticket) 10) - (sp_cutUp (((tk Z (tN ticket) 10).toInt64) * ((zh Z 4).toInt64)) 1000))))).toInt64))) ticket) - (if (tk Z (tN ticket) 2) < ((tk Z (tN ticket) 10) - (sp_cutUp (((tk Z (tN ticket) 10).toInt64) * ((zh Z 4).toInt64)) 1000)) then (tk Z (tN ticket) 2) else ((tk Z (tN ticket) 10) - (sp_cutUp (((tk Z (tN ticket) 10).toInt64) * ((zh Z 4).toInt64)) 1000)))) - (if (tk Z (tN ticket) 1) < (((tk Z (tN ticket) 10) - (sp_cutUp (((tk Z (tN ticket) 10).toInt64) * ((zh Z 4).toInt64)) 1000)) - (if (tk Z (tN ticket) 2) < ((tk Z (tN ticket) 10) - (sp_cutUp (((tk Z (tN ticket) 10).toInt64) * ((zh Z 4).toInt64)) 1000)) then (tk Z (tN ticket) 2) else ((tk Z (tN ticket) 10) - (sp_cutUp (((tk Z (tN ticket) 10).toInt64) * ((zh Z 4).toInt64)) 1000)))) then (tk Z (tN ticket) 1) else (((tk Z (tN ticket) 10) - (sp_cutUp (((tk Z (tN ticket) 10).toInt64) * ((zh Z 4).toInt64)) 1000)) - (if (tk Z (tN ticket) 2) < ((tk Z (tN ticket) 10) - (sp_cutUp (((tk Z (tN ticket) 10).toInt64) * ((zh Z 4).toInt64)) 1000)) then (tk Z (tN ticket) 2) else ((tk Z (tN ticket) 10) - (sp_cutUp (((tk Z (tN ticket) 10).toInt64) * ((zh Z 4).toInt64)) 1000)))))).toInt64))) 6 ((zc Z 6) + (((tk Z (tN ticket) 1) - (if (tk Z (tN ticket) 1) < (((tk Z (tN ticket) 10) - (sp_cutUp (((tk Z (tN ticket) 10).toInt64) * ((zh Z 4).toInt64)) 1000)) - (if (tk Z (tN ticket) 2) < ((tk Z (tN ticket) 10) - (sp_cutUp (((tk Z (tN ticket) 10).toInt64) * ((zh Z 4).toInt64)) 1000)) then (tk Z (tN ticket) 2) else ((tk Z (tN ticket) 10) - (sp_cutUp (((tk Z (tN ticket) 10).toInt64) * ((zh Z 4).toInt64)) 1000)))) then (tk Z (tN ticket) 1) else (((tk Z (tN ticket) 10) - (sp_cutUp (((tk Z (tN ticket) 10).toInt64) * ((zh Z 4).toInt64)) 1000)) - (if (tk Z (tN ticket) 2) < ((tk Z (tN ticket) 10) - (sp_cutUp (((tk Z (tN ticket) 10).toInt64) * ((zh Z 4).toInt64)) 1000)) then (tk Z (tN ticket) 2) else ((tk Z (tN ticket) 10) - (sp_cutUp (((tk Z (tN ticket) 10).toInt64) * ((zh Z 4).toInt64)) 1000)))))).toInt64))) (tN ticket) 12 ((((tk Z (tN ticket) 10) - (sp_cutUp (((tk Z (tN ticket) 10).toInt64) * ((zh Z 4).toInt64)) 1000)) - (if (tk Z (tN ticket) 2) < ((tk Z (tN ticket) 10) - (sp_cutUp (((tk Z (tN ticket) 10).toInt64) * ((zh Z 4).toInt64)) 1000)) then (tk Z (tN ticket) 2) else ((tk Z (tN ticket) 10) - (sp_cutUp (((tk Z (tN ticket) 10).toInt64) * ((zh Z 4).toInt64)) 1000)))) - (if (tk Z (tN ticket) 1) < (((tk Z (tN ticket) 10) - (sp_cutUp (((tk Z (tN ticket) 10).toInt64) * ((zh Z 4).toInt64)) 1000)) - (if (tk Z (tN ticket) 2) < ((tk Z (tN ticket) 10) - (sp_cutUp (((tk Z (tN ticket) 10).toInt64) * ((zh Z 4).toInt64)) 1000)) then (tk Z (tN ticket) 2) else ((tk Z (tN ticket) 10) - (sp_cutUp (((tk Z (tN ticket) 10).toInt64) * ((zh Z 4).toInt64)) 1000)))) then (tk Z (tN ticket) 1) else (((tk Z (tN ticket) 10) - (sp_cutUp (((tk Z (tN ticket) 10).toInt64) * ((zh Z 4).toInt64)) 1000)) - (if (tk Z (tN ticket) 2) < ((tk Z (tN ticket) 10) - (sp_cutUp (((tk Z (tN ticket) 10).toInt64) * ((zh Z 4).toInt64)) 1000)) then (tk Z (tN ticket) 2) else ((tk Z (tN ticket) 10) - (sp_cutUp (((tk Z (tN ticket) 10).toInt64) * ((zh Z 4).toInt64)) 1000))))))) _ 2 2 rfl (by decide))) (cwV 1 hts gX13_sale_X13_ruleOf rfl rfl rfl (by decide +kernel) ⟨Nat.le_of_ble_eq_true rfl, Nat.le_of_ble_eq_true rfl⟩) rfl hl.1 rfl (Nat.le_of_ble_eq_true rfl) dX13_sale_228 ⟨Nat.zero_le _, Nat.zero_le _⟩ ?_
          refine lv_iadd hx hb dX13_sale_231 ?_
          refine m_wv S hK hP hS (As := [.int ticket, .int 14, .int ((zh Z 0) + (zh Z 5))]) (rest := []) (cM_put l D cI cJ ad (tkp (zcp (zcp (zcp (zcp (zcp Z 3 ((zc Z 3) + ((sp_cutUp (((tk Z (tN ticket) 10).toInt64) * ((zh Z 4).toInt64)) 1000).toInt64))) 1 ((zc Z 1) + ((if (tk Z (tN ticket) 2) < ((tk Z (tN ticket) 10) - (sp_cutUp (((tk Z (tN ticket) 10).toInt64) * ((zh Z 4).toInt64)) 1000)) then (tk Z (tN ticket) 2) else ((tk Z (tN ticket) 10) - (sp_cutUp (((tk Z (tN ticket) 10).toInt64) * ((zh Z 4).toInt64)) 1000))).toInt64))) 2 ((zc Z 2) + ((if (tk Z (tN ticket) 1) < (((tk Z (tN ticket) 10) - (sp_cutUp (((tk Z (tN ticket) 10).toInt64) * ((zh Z 4).toInt64)) 1000)) - (if (tk Z (tN ticket) 2) < ((tk Z (tN ticket) 10) - (sp_cutUp (((tk Z (tN ticket) 10).toInt64) * ((zh Z 4).toInt64)) 1000)) then (tk Z (tN ticket) 2) else ((tk Z (tN ticket) 10) - (sp_cutUp (((tk Z (tN ticket) 10).toInt64) * ((zh Z 4).toInt64)) 1000)))) then (tk Z (tN ticket) 1) else (((tk Z (tN ticket) 10) - (sp_cutUp (((tk Z (tN ticket) 10).toInt64) * ((zh Z 4).toInt64)) 1000)) - (if (tk Z (tN ticket) 2) < ((tk Z (tN ticket) 10) - (sp_cutUp (((tk Z (tN ticket) 10).toInt64) * ((zh Z 4).toInt64)) 1000)) then (tk Z (tN ticket) 2) else ((tk Z (tN ticket) 10) - (sp_cutUp (((tk Z (tN ticket) 10).toInt64) * ((zh Z 4).toInt64)) 1000))))).toInt64))) 5 ((zc Z 5) + ((((sp_owed (zcp (zcp (zcp Z 3 ((zc Z 3) + ((sp_cutUp (((tk Z (tN ticket) 10).toInt64) * ((zh Z 4).toInt64)) 1000).toInt64))) 1 ((zc Z 1) + ((if (tk Z (tN ticket) 2) < ((tk Z (tN ticket) 10) - (sp_cutUp (((tk Z (tN ticket) 10).toInt64) * ((zh Z 4).toInt64)) 1000)) then (tk Z (tN ticket) 2) else ((tk Z (tN ticket) 10) - (sp_cutUp (((tk Z (tN ticket) 10).toInt64) * ((zh Z 4).toInt64)) 1000))).toInt64))) 2 ((zc Z 2) + ((if (tk Z (tN ticket) 1) < (((tk Z (tN ticket) 10) - (sp_cutUp (((tk Z (tN ticket) 10).toInt64) * ((zh Z 4).toInt64)) 1000)) - (if (tk Z (tN ticket) 2) < ((tk Z (tN ticket) 10) - (sp_cutUp (((tk Z (tN ticket) 10).toInt64) * ((zh Z 4).toInt64)) 1000)) then (tk Z (tN ticket) 2) else ((tk Z (tN ticket) 10) - (sp_cutUp (((tk Z (tN ticket) 10).toInt64) * ((zh Z 4).toInt64)) 1000)))) then (tk Z (tN ticket) 1) else (((tk Z (tN ticket) 10) - (sp_cutUp (((tk Z (tN ticket) 10).toInt64) * ((zh Z 4).toInt64)) 1000)) - (if (tk Z (tN ticket) 2) < ((tk Z (tN ticket) 10) - (sp_cutUp (((tk Z (tN ticket) 10).toInt64) * ((zh Z 4).toInt64)) 1000)) then (tk Z (tN ticket) 2) else ((tk Z (tN ticket) 10) - (sp_cutUp (((tk Z (tN ticket) 10).toInt64) * ((zh Z 4).toInt64)) 1000))))).toInt64))) ticket) - (if (tk Z (tN ticket) 2) < ((tk Z (tN ticket) 10) - (sp_cutUp (((tk Z (tN ticket) 10).toInt64) * ((zh Z 4).toInt64)) 1000)) then (tk Z (tN ticket) 2) else ((tk Z (tN ticket) 10) - (sp_cutUp (((tk Z (tN ticket) 10).toInt64) * ((zh Z 4).toInt64)) 1000)))) - (if (tk Z (tN ticket) 1) < (((tk Z (tN ticket) 10) - (sp_cutUp (((tk Z (tN ticket) 10).toInt64) * ((zh Z 4).toInt64)) 1000)) - (if (tk Z (tN ticket) 2) < ((tk Z (tN ticket) 10) - (sp_cutUp (((tk Z (tN ticket) 10).toInt64) * ((zh Z 4).toInt64)) 1000)) then (tk Z (tN ticket) 2) else ((tk Z (tN ticket) 10) - (sp_cutUp (((tk Z (tN ticket) 10).toInt64) * ((zh Z 4).toInt64)) 1000)))) then (tk Z (tN ticket) 1) else (((tk Z (tN ticket) 10) - (sp_cutUp (((tk Z (tN ticket) 10).toInt64) * ((zh Z 4).toInt64)) 1000)) - (if (tk Z (tN ticket) 2) < ((tk Z (tN ticket) 10) - (sp_cutUp (((tk Z (tN ticket) 10).toInt64) * ((zh Z 4).toInt64)) 1000)) then (tk Z (tN ticket) 2) else ((tk Z (tN ticket) 10) - (sp_cutUp (((tk Z (tN ticket) 10).toInt64) * ((zh Z 4).toInt64)) 1000)))))).toInt64))) 6 ((zc Z 6) + (((tk Z (tN ticket) 1) - (if (tk Z (tN ticket) 1) < (((tk Z (tN ticket) 10) - (sp_cutUp (((tk Z (tN ticket) 10).toInt64) * ((zh Z 4).toInt64)) 1000)) - (if (tk Z (tN ticket) 2) < ((tk Z (tN ticket) 10) - (sp_cutUp (((tk Z (tN ticket) 10).toInt64) * ((zh Z 4).toInt64)) 1000)) then (tk Z (tN ticket) 2) else ((tk Z (tN ticket) 10) - (sp_cutUp (((tk Z (tN ticket) 10).toInt64) * ((zh Z 4).toInt64)) 1000)))) then (tk Z (tN ticket) 1) else (((tk Z (tN ticket) 10) - (sp_cutUp (((tk Z (tN ticket) 10).toInt64) * ((zh Z 4).toInt64)) 1000)) - (if (tk Z (tN ticket) 2) < ((tk Z (tN ticket) 10) - (sp_cutUp (((tk Z (tN ticket) 10).toInt64) * ((zh Z 4).toInt64)) 1000)) then (tk Z (tN ticket) 2) else ((tk Z (tN ticket) 10) - (sp_cutUp (((tk Z (tN ticket) 10).toInt64) * ((zh Z 4).toInt64)) 1000)))))).toInt64))) (tN ticket) 12 ((((tk Z (tN ticket) 10) - (sp_cutUp (((tk Z (tN ticket) 10).toInt64) * ((zh Z 4).toInt64)) 1000)) - (if (tk Z (tN ticket) 2) < ((tk Z (tN ticket) 10) - (sp_cutUp (((tk Z (tN ticket) 10).toInt64) * ((zh Z 4).toInt64)) 1000)) then (tk Z (tN ticket) 2) else ((tk Z (tN ticket) 10) - (sp_cutUp (((tk Z (tN ticket) 10).toInt64) * ((zh Z 4).toInt64)) 1000)))) - (if (tk Z (tN ticket) 1) < (((tk Z (tN ticket) 10) - (sp_cutUp (((tk Z (tN ticket) 10).toInt64) * ((zh Z 4).toInt64)) 1000)) - (if (tk Z (tN ticket) 2) < ((tk Z (tN ticket) 10) - (sp_cutUp (((tk Z (tN ticket) 10).toInt64) * ((zh Z 4).toInt64)) 1000)) then (tk Z (tN ticket) 2) else ((tk Z (tN ticket) 10) - (sp_cutUp (((tk Z (tN ticket) 10).toInt64) * ((zh Z 4).toInt64)) 1000)))) then (tk Z (tN ticket) 1) else (((tk Z (tN ticket) 10) - (sp_cutUp (((tk Z (tN ticket) 10).toInt64) * ((zh Z 4).toInt64)) 1000)) - (if (tk Z (tN ticket) 2) < ((tk Z (tN ticket) 10) - (sp_cutUp (((tk Z (tN ticket) 10).toInt64) * ((zh Z 4).toInt64)) 1000)) then (tk Z (tN ticket) 2) else ((tk Z (tN ticket) 10) - (sp_cutUp (((tk Z (tN ticket) 10).toInt64) * ((zh Z 4).toInt64)) 1000))))))) _ hi ticket 14 ((zh Z 0) + (zh Z 5)) (tok_of hC c_1) 14 rfl (by decide)) (cwV 3 hts gX13_sale_X13_put rfl rfl rfl (by decide +kernel) ⟨Nat.le_of_ble_eq_true rfl, Nat.le_of_ble_eq_true rfl⟩) rfl hl.1 rfl (Nat.le_of_ble_eq_true rfl) dX13_sale_232 ⟨Nat.zero_le _, Nat.zero_le _⟩ (fun H locs hP hS => ?_)
          refine lv_aload_n hx hb dX13_sale_235 rfl (lv_at hl 5 rfl) ?_
          refine lv_iload_n hx hb dX13_sale_236 rfl (lv_at hl 6 rfl) ?_
          refine lv_iconst (v := 2) hx hb dX13_sale_237 (by decide) ?_
          refine m_wv S hK hP hS (As := [.int ticket, .int 2]) (rest := []) (cM_closes l D cI cJ ad (tkp (tkp (zcp (zcp (zcp (zcp (zcp Z 3 ((zc Z 3) + ((sp_cutUp (((tk Z (tN ticket) 10).toInt64) * ((zh Z 4).toInt64)) 1000).toInt64))) 1 ((zc Z 1) + ((if (tk Z (tN ticket) 2) < ((tk Z (tN ticket) 10) - (sp_cutUp (((tk Z (tN ticket) 10).toInt64) * ((zh Z 4).toInt64)) 1000)) then (tk Z (tN ticket) 2) else ((tk Z (tN ticket) 10) - (sp_cutUp (((tk Z (tN ticket) 10).toInt64) * ((zh Z 4).toInt64)) 1000))).toInt64))) 2 ((zc Z 2) + ((if (tk Z (tN ticket) 1) < (((tk Z (tN ticket) 10) - (sp_cutUp (((tk Z (tN ticket) 10).toInt64) * ((zh Z 4).toInt64)) 1000)) - (if (tk Z (tN ticket) 2) < ((tk Z (tN ticket) 10) - (sp_cutUp (((tk Z (tN ticket) 10).toInt64) * ((zh Z 4).toInt64)) 1000)) then (tk Z (tN ticket) 2) else ((tk Z (tN ticket) 10) - (sp_cutUp (((tk Z (tN ticket) 10).toInt64) * ((zh Z 4).toInt64)) 1000)))) then (tk Z (tN ticket) 1) else (((tk Z (tN ticket) 10) - (sp_cutUp (((tk Z (tN ticket) 10).toInt64) * ((zh Z 4).toInt64)) 1000)) - (if (tk Z (tN ticket) 2) < ((tk Z (tN ticket) 10) - (sp_cutUp (((tk Z (tN ticket) 10).toInt64) * ((zh Z 4).toInt64)) 1000)) then (tk Z (tN ticket) 2) else ((tk Z (tN ticket) 10) - (sp_cutUp (((tk Z (tN ticket) 10).toInt64) * ((zh Z 4).toInt64)) 1000))))).toInt64))) 5 ((zc Z 5) + ((((sp_owed (zcp (zcp (zcp Z 3 ((zc Z 3) + ((sp_cutUp (((tk Z (tN ticket) 10).toInt64) * ((zh Z 4).toInt64)) 1000).toInt64))) 1 ((zc Z 1) + ((if (tk Z (tN ticket) 2) < ((tk Z (tN ticket) 10) - (sp_cutUp (((tk Z (tN ticket) 10).toInt64) * ((zh Z 4).toInt64)) 1000)) then (tk Z (tN ticket) 2) else ((tk Z (tN ticket) 10) - (sp_cutUp (((tk Z (tN ticket) 10).toInt64) * ((zh Z 4).toInt64)) 1000))).toInt64))) 2 ((zc Z 2) + ((if (tk Z (tN ticket) 1) < (((tk Z (tN ticket) 10) - (sp_cutUp (((tk Z (tN ticket) 10).toInt64) * ((zh Z 4).toInt64)) 1000)) - (if (tk Z (tN ticket) 2) < ((tk Z (tN ticket) 10) - (sp_cutUp (((tk Z (tN ticket) 10).toInt64) * ((zh Z 4).toInt64)) 1000)) then (tk Z (tN ticket) 2) else ((tk Z (tN ticket) 10) - (sp_cutUp (((tk Z (tN ticket) 10).toInt64) * ((zh Z 4).toInt64)) 1000)))) then (tk Z (tN ticket) 1) else (((tk Z (tN ticket) 10) - (sp_cutUp (((tk Z (tN ticket) 10).toInt64) * ((zh Z 4).toInt64)) 1000)) - (if (tk Z (tN ticket) 2) < ((tk Z (tN ticket) 10) - (sp_cutUp (((tk Z (tN ticket) 10).toInt64) * ((zh Z 4).toInt64)) 1000)) then (tk Z (tN ticket) 2) else ((tk Z (tN ticket) 10) - (sp_cutUp (((tk Z (tN ticket) 10).toInt64) * ((zh Z 4).toInt64)) 1000))))).toInt64))) ticket) - (if (tk Z (tN ticket) 2) < ((tk Z (tN ticket) 10) - (sp_cutUp (((tk Z (tN ticket) 10).toInt64) * ((zh Z 4).toInt64)) 1000)) then (tk Z (tN ticket) 2) else ((tk Z (tN ticket) 10) - (sp_cutUp (((tk Z (tN ticket) 10).toInt64) * ((zh Z 4).toInt64)) 1000)))) - (if (tk Z (tN ticket) 1) < (((tk Z (tN ticket) 10) - (sp_cutUp (((tk Z (tN ticket) 10).toInt64) * ((zh Z 4).toInt64)) 1000)) - (if (tk Z (tN ticket) 2) < ((tk Z (tN ticket) 10) - (sp_cutUp (((tk Z (tN ticket) 10).toInt64) * ((zh Z 4).toInt64)) 1000)) then (tk Z (tN ticket) 2) else ((tk Z (tN ticket) 10) - (sp_cutUp (((tk Z (tN ticket) 10).toInt64) * ((zh Z 4).toInt64)) 1000)))) then (tk Z (tN ticket) 1) else (((tk Z (tN ticket) 10) - (sp_cutUp (((tk Z (tN ticket) 10).toInt64) * ((zh Z 4).toInt64)) 1000)) - (if (tk Z (tN ticket) 2) < ((tk Z (tN ticket) 10) - (sp_cutUp (((tk Z (tN ticket) 10).toInt64) * ((zh Z 4).toInt64)) 1000)) then (tk Z (tN ticket) 2) else ((tk Z (tN ticket) 10) - (sp_cutUp (((tk Z (tN ticket) 10).toInt64) * ((zh Z 4).toInt64)) 1000)))))).toInt64))) 6 ((zc Z 6) + (((tk Z (tN ticket) 1) - (if (tk Z (tN ticket) 1) < (((tk Z (tN ticket) 10) - (sp_cutUp (((tk Z (tN ticket) 10).toInt64) * ((zh Z 4).toInt64)) 1000)) - (if (tk Z (tN ticket) 2) < ((tk Z (tN ticket) 10) - (sp_cutUp (((tk Z (tN ticket) 10).toInt64) * ((zh Z 4).toInt64)) 1000)) then (tk Z (tN ticket) 2) else ((tk Z (tN ticket) 10) - (sp_cutUp (((tk Z (tN ticket) 10).toInt64) * ((zh Z 4).toInt64)) 1000)))) then (tk Z (tN ticket) 1) else (((tk Z (tN ticket) 10) - (sp_cutUp (((tk Z (tN ticket) 10).toInt64) * ((zh Z 4).toInt64)) 1000)) - (if (tk Z (tN ticket) 2) < ((tk Z (tN ticket) 10) - (sp_cutUp (((tk Z (tN ticket) 10).toInt64) * ((zh Z 4).toInt64)) 1000)) then (tk Z (tN ticket) 2) else ((tk Z (tN ticket) 10) - (sp_cutUp (((tk Z (tN ticket) 10).toInt64) * ((zh Z 4).toInt64)) 1000)))))).toInt64))) (tN ticket) 12 ((((tk Z (tN ticket) 10) - (sp_cutUp (((tk Z (tN ticket) 10).toInt64) * ((zh Z 4).toInt64)) 1000)) - (if (tk Z (tN ticket) 2) < ((tk Z (tN ticket) 10) - (sp_cutUp (((tk Z (tN ticket) 10).toInt64) * ((zh Z 4).toInt64)) 1000)) then (tk Z (tN ticket) 2) else ((tk Z (tN ticket) 10) - (sp_cutUp (((tk Z (tN ticket) 10).toInt64) * ((zh Z 4).toInt64)) 1000)))) - (if (tk Z (tN ticket) 1) < (((tk Z (tN ticket) 10) - (sp_cutUp (((tk Z (tN ticket) 10).toInt64) * ((zh Z 4).toInt64)) 1000)) - (if (tk Z (tN ticket) 2) < ((tk Z (tN ticket) 10) - (sp_cutUp (((tk Z (tN ticket) 10).toInt64) * ((zh Z 4).toInt64)) 1000)) then (tk Z (tN ticket) 2) else ((tk Z (tN ticket) 10) - (sp_cutUp (((tk Z (tN ticket) 10).toInt64) * ((zh Z 4).toInt64)) 1000)))) then (tk Z (tN ticket) 1) else (((tk Z (tN ticket) 10) - (sp_cutUp (((tk Z (tN ticket) 10).toInt64) * ((zh Z 4).toInt64)) 1000)) - (if (tk Z (tN ticket) 2) < ((tk Z (tN ticket) 10) - (sp_cutUp (((tk Z (tN ticket) 10).toInt64) * ((zh Z 4).toInt64)) 1000)) then (tk Z (tN ticket) 2) else ((tk Z (tN ticket) 10) - (sp_cutUp (((tk Z (tN ticket) 10).toInt64) * ((zh Z 4).toInt64)) 1000))))))) (tN ticket) 14 ((zh Z 0) + (zh Z 5))) _ hi ticket 2 (tok_of hC c_1) (show pok (tk (tkp (tkp (zcp (zcp (zcp (zcp (zcp Z 3 ((zc Z 3) + ((sp_cutUp (((tk Z (tN ticket) 10).toInt64) * ((zh Z 4).toInt64)) 1000).toInt64))) 1 ((zc Z 1) + ((if (tk Z (tN ticket) 2) < ((tk Z (tN ticket) 10) - (sp_cutUp (((tk Z (tN ticket) 10).toInt64) * ((zh Z 4).toInt64)) 1000)) then (tk Z (tN ticket) 2) else ((tk Z (tN ticket) 10) - (sp_cutUp (((tk Z (tN ticket) 10).toInt64) * ((zh Z 4).toInt64)) 1000))).toInt64))) 2 ((zc Z 2) + ((if (tk Z (tN ticket) 1) < (((tk Z (tN ticket) 10) - (sp_cutUp (((tk Z (tN ticket) 10).toInt64) * ((zh Z 4).toInt64)) 1000)) - (if (tk Z (tN ticket) 2) < ((tk Z (tN ticket) 10) - (sp_cutUp (((tk Z (tN ticket) 10).toInt64) * ((zh Z 4).toInt64)) 1000)) then (tk Z (tN ticket) 2) else ((tk Z (tN ticket) 10) - (sp_cutUp (((tk Z (tN ticket) 10).toInt64) * ((zh Z 4).toInt64)) 1000)))) then (tk Z (tN ticket) 1) else (((tk Z (tN ticket) 10) - (sp_cutUp (((tk Z (tN ticket) 10).toInt64) * ((zh Z 4).toInt64)) 1000)) - (if (tk Z (tN ticket) 2) < ((tk Z (tN ticket) 10) - (sp_cutUp (((tk Z (tN ticket) 10).toInt64) * ((zh Z 4).toInt64)) 1000)) then (tk Z (tN ticket) 2) else ((tk Z (tN ticket) 10) - (sp_cutUp (((tk Z (tN ticket) 10).toInt64) * ((zh Z 4).toInt64)) 1000))))).toInt64))) 5 ((zc Z 5) + ((((sp_owed (zcp (zcp (zcp Z 3 ((zc Z 3) + ((sp_cutUp (((tk Z (tN ticket) 10).toInt64) * ((zh Z 4).toInt64)) 1000).toInt64))) 1 ((zc Z 1) + ((if (tk Z (tN ticket) 2) < ((tk Z (tN ticket) 10) - (sp_cutUp (((tk Z (tN ticket) 10).toInt64) * ((zh Z 4).toInt64)) 1000)) then (tk Z (tN ticket) 2) else ((tk Z (tN ticket) 10) - (sp_cutUp (((tk Z (tN ticket) 10).toInt64) * ((zh Z 4).toInt64)) 1000))).toInt64))) 2 ((zc Z 2) + ((if (tk Z (tN ticket) 1) < (((tk Z (tN ticket) 10) - (sp_cutUp (((tk Z (tN ticket) 10).toInt64) * ((zh Z 4).toInt64)) 1000)) - (if (tk Z (tN ticket) 2) < ((tk Z (tN ticket) 10) - (sp_cutUp (((tk Z (tN ticket) 10).toInt64) * ((zh Z 4).toInt64)) 1000)) then (tk Z (tN ticket) 2) else ((tk Z (tN ticket) 10) - (sp_cutUp (((tk Z (tN ticket) 10).toInt64) * ((zh Z 4).toInt64)) 1000)))) then (tk Z (tN ticket) 1) else (((tk Z (tN ticket) 10) - (sp_cutUp (((tk Z (tN ticket) 10).toInt64) * ((zh Z 4).toInt64)) 1000)) - (if (tk Z (tN ticket) 2) < ((tk Z (tN ticket) 10) - (sp_cutUp (((tk Z (tN ticket) 10).toInt64) * ((zh Z 4).toInt64)) 1000)) then (tk Z (tN ticket) 2) else ((tk Z (tN ticket) 10) - (sp_cutUp (((tk Z (tN ticket) 10).toInt64) * ((zh Z 4).toInt64)) 1000))))).toInt64))) ticket) - (if (tk Z (tN ticket) 2) < ((tk Z (tN ticket) 10) - (sp_cutUp (((tk Z (tN ticket) 10).toInt64) * ((zh Z 4).toInt64)) 1000)) then (tk Z (tN ticket) 2) else ((tk Z (tN ticket) 10) - (sp_cutUp (((tk Z (tN ticket) 10).toInt64) * ((zh Z 4).toInt64)) 1000)))) - (if (tk Z (tN ticket) 1) < (((tk Z (tN ticket) 10) - (sp_cutUp (((tk Z (tN ticket) 10).toInt64) * ((zh Z 4).toInt64)) 1000)) - (if (tk Z (tN ticket) 2) < ((tk Z (tN ticket) 10) - (sp_cutUp (((tk Z (tN ticket) 10).toInt64) * ((zh Z 4).toInt64)) 1000)) then (tk Z (tN ticket) 2) else ((tk Z (tN ticket) 10) - (sp_cutUp (((tk Z (tN ticket) 10).toInt64) * ((zh Z 4).toInt64)) 1000)))) then (tk Z (tN ticket) 1) else (((tk Z (tN ticket) 10) - (sp_cutUp (((tk Z (tN ticket) 10).toInt64) * ((zh Z 4).toInt64)) 1000)) - (if (tk Z (tN ticket) 2) < ((tk Z (tN ticket) 10) - (sp_cutUp (((tk Z (tN ticket) 10).toInt64) * ((zh Z 4).toInt64)) 1000)) then (tk Z (tN ticket) 2) else ((tk Z (tN ticket) 10) - (sp_cutUp (((tk Z (tN ticket) 10).toInt64) * ((zh Z 4).toInt64)) 1000)))))).toInt64))) 6 ((zc Z 6) + (((tk Z (tN ticket) 1) - (if (tk Z (tN ticket) 1) < (((tk Z (tN ticket) 10) - (sp_cutUp (((tk Z (tN ticket) 10).toInt64) * ((zh Z 4).toInt64)) 1000)) - (if (tk Z (tN ticket) 2) < ((tk Z (tN ticket) 10) - (sp_cutUp (((tk Z (tN ticket) 10).toInt64) * ((zh Z 4).toInt64)) 1000)) then (tk Z (tN ticket) 2) else ((tk Z (tN ticket) 10) - (sp_cutUp (((tk Z (tN ticket) 10).toInt64) * ((zh Z 4).toInt64)) 1000)))) then (tk Z (tN ticket) 1) else (((tk Z (tN ticket) 10) - (sp_cutUp (((tk Z (tN ticket) 10).toInt64) * ((zh Z 4).toInt64)) 1000)) - (if (tk Z (tN ticket) 2) < ((tk Z (tN ticket) 10) - (sp_cutUp (((tk Z (tN ticket) 10).toInt64) * ((zh Z 4).toInt64)) 1000)) then (tk Z (tN ticket) 2) else ((tk Z (tN ticket) 10) - (sp_cutUp (((tk Z (tN ticket) 10).toInt64) * ((zh Z 4).toInt64)) 1000)))))).toInt64))) (tN ticket) 12 ((((tk Z (tN ticket) 10) - (sp_cutUp (((tk Z (tN ticket) 10).toInt64) * ((zh Z 4).toInt64)) 1000)) - (if (tk Z (tN ticket) 2) < ((tk Z (tN ticket) 10) - (sp_cutUp (((tk Z (tN ticket) 10).toInt64) * ((zh Z 4).toInt64)) 1000)) then (tk Z (tN ticket) 2) else ((tk Z (tN ticket) 10) - (sp_cutUp (((tk Z (tN ticket) 10).toInt64) * ((zh Z 4).toInt64)) 1000)))) - (if (tk Z (tN ticket) 1) < (((tk Z (tN ticket) 10) - (sp_cutUp (((tk Z (tN ticket) 10).toInt64) * ((zh Z 4).toInt64)) 1000)) - (if (tk Z (tN ticket) 2) < ((tk Z (tN ticket) 10) - (sp_cutUp (((tk Z (tN ticket) 10).toInt64) * ((zh Z 4).toInt64)) 1000)) then (tk Z (tN ticket) 2) else ((tk Z (tN ticket) 10) - (sp_cutUp (((tk Z (tN ticket) 10).toInt64) * ((zh Z 4).toInt64)) 1000)))) then (tk Z (tN ticket) 1) else (((tk Z (tN ticket) 10) - (sp_cutUp (((tk Z (tN ticket) 10).toInt64) * ((zh Z 4).toInt64)) 1000)) - (if (tk Z (tN ticket) 2) < ((tk Z (tN ticket) 10) - (sp_cutUp (((tk Z (tN ticket) 10).toInt64) * ((zh Z 4).toInt64)) 1000)) then (tk Z (tN ticket) 2) else ((tk Z (tN ticket) 10) - (sp_cutUp (((tk Z (tN ticket) 10).toInt64) * ((zh Z 4).toInt64)) 1000))))))) (tN ticket) 14 ((zh Z 0) + (zh Z 5))) (tN ticket) 15) from (show tk (tkp (tkp (zcp (zcp (zcp (zcp (zcp Z 3 ((zc Z 3) + ((sp_cutUp (((tk Z (tN ticket) 10).toInt64) * ((zh Z 4).toInt64)) 1000).toInt64))) 1 ((zc Z 1) + ((if (tk Z (tN ticket) 2) < ((tk Z (tN ticket) 10) - (sp_cutUp (((tk Z (tN ticket) 10).toInt64) * ((zh Z 4).toInt64)) 1000)) then (tk Z (tN ticket) 2) else ((tk Z (tN ticket) 10) - (sp_cutUp (((tk Z (tN ticket) 10).toInt64) * ((zh Z 4).toInt64)) 1000))).toInt64))) 2 ((zc Z 2) + ((if (tk Z (tN ticket) 1) < (((tk Z (tN ticket) 10) - (sp_cutUp (((tk Z (tN ticket) 10).toInt64) * ((zh Z 4).toInt64)) 1000)) - (if (tk Z (tN ticket) 2) < ((tk Z (tN ticket) 10) - (sp_cutUp (((tk Z (tN ticket) 10).toInt64) * ((zh Z 4).toInt64)) 1000)) then (tk Z (tN ticket) 2) else ((tk Z (tN ticket) 10) - (sp_cutUp (((tk Z (tN ticket) 10).toInt64) * ((zh Z 4).toInt64)) 1000)))) then (tk Z (tN ticket) 1) else (((tk Z (tN ticket) 10) - (sp_cutUp (((tk Z (tN ticket) 10).toInt64) * ((zh Z 4).toInt64)) 1000)) - (if (tk Z (tN ticket) 2) < ((tk Z (tN ticket) 10) - (sp_cutUp (((tk Z (tN ticket) 10).toInt64) * ((zh Z 4).toInt64)) 1000)) then (tk Z (tN ticket) 2) else ((tk Z (tN ticket) 10) - (sp_cutUp (((tk Z (tN ticket) 10).toInt64) * ((zh Z 4).toInt64)) 1000))))).toInt64))) 5 ((zc Z 5) + ((((sp_owed (zcp (zcp (zcp Z 3 ((zc Z 3) + ((sp_cutUp (((tk Z (tN ticket) 10).toInt64) * ((zh Z 4).toInt64)) 1000).toInt64))) 1 ((zc Z 1) + ((if (tk Z (tN ticket) 2) < ((tk Z (tN ticket) 10) - (sp_cutUp (((tk Z (tN ticket) 10).toInt64) * ((zh Z 4).toInt64)) 1000)) then (tk Z (tN ticket) 2) else ((tk Z (tN ticket) 10) - (sp_cutUp (((tk Z (tN ticket) 10).toInt64) * ((zh Z 4).toInt64)) 1000))).toInt64))) 2 ((zc Z 2) + ((if (tk Z (tN ticket) 1) < (((tk Z (tN ticket) 10) - (sp_cutUp (((tk Z (tN ticket) 10).toInt64) * ((zh Z 4).toInt64)) 1000)) - (if (tk Z (tN ticket) 2) < ((tk Z (tN ticket) 10) - (sp_cutUp (((tk Z (tN ticket) 10).toInt64) * ((zh Z 4).toInt64)) 1000)) then (tk Z (tN ticket) 2) else ((tk Z (tN ticket) 10) - (sp_cutUp (((tk Z (tN ticket) 10).toInt64) * ((zh Z 4).toInt64)) 1000)))) then (tk Z (tN ticket) 1) else (((tk Z (tN ticket) 10) - (sp_cutUp (((tk Z (tN ticket) 10).toInt64) * ((zh Z 4).toInt64)) 1000)) - (if (tk Z (tN ticket) 2) < ((tk Z (tN ticket) 10) - (sp_cutUp (((tk Z (tN ticket) 10).toInt64) * ((zh Z 4).toInt64)) 1000)) then (tk Z (tN ticket) 2) else ((tk Z (tN ticket) 10) - (sp_cutUp (((tk Z (tN ticket) 10).toInt64) * ((zh Z 4).toInt64)) 1000))))).toInt64))) ticket) - (if (tk Z (tN ticket) 2) < ((tk Z (tN ticket) 10) - (sp_cutUp (((tk Z (tN ticket) 10).toInt64) * ((zh Z 4).toInt64)) 1000)) then (tk Z (tN ticket) 2) else ((tk Z (tN ticket) 10) - (sp_cutUp (((tk Z (tN ticket) 10).toInt64) * ((zh Z 4).toInt64)) 1000)))) - (if (tk Z (tN ticket) 1) < (((tk Z (tN ticket) 10) - (sp_cutUp (((tk Z (tN ticket) 10).toInt64) * ((zh Z 4).toInt64)) 1000)) - (if (tk Z (tN ticket) 2) < ((tk Z (tN ticket) 10) - (sp_cutUp (((tk Z (tN ticket) 10).toInt64) * ((zh Z 4).toInt64)) 1000)) then (tk Z (tN ticket) 2) else ((tk Z (tN ticket) 10) - (sp_cutUp (((tk Z (tN ticket) 10).toInt64) * ((zh Z 4).toInt64)) 1000)))) then (tk Z (tN ticket) 1) else (((tk Z (tN ticket) 10) - (sp_cutUp (((tk Z (tN ticket) 10).toInt64) * ((zh Z 4).toInt64)) 1000)) - (if (tk Z (tN ticket) 2) < ((tk Z (tN ticket) 10) - (sp_cutUp (((tk Z (tN ticket) 10).toInt64) * ((zh Z 4).toInt64)) 1000)) then (tk Z (tN ticket) 2) else ((tk Z (tN ticket) 10) - (sp_cutUp (((tk Z (tN ticket) 10).toInt64) * ((zh Z 4).toInt64)) 1000)))))).toInt64))) 6 ((zc Z 6) + (((tk Z (tN ticket) 1) - (if (tk Z (tN ticket) 1) < (((tk Z (tN ticket) 10) - (sp_cutUp (((tk Z (tN ticket) 10).toInt64) * ((zh Z 4).toInt64)) 1000)) - (if (tk Z (tN ticket) 2) < ((tk Z (tN ticket) 10) - (sp_cutUp (((tk Z (tN ticket) 10).toInt64) * ((zh Z 4).toInt64)) 1000)) then (tk Z (tN ticket) 2) else ((tk Z (tN ticket) 10) - (sp_cutUp (((tk Z (tN ticket) 10).toInt64) * ((zh Z 4).toInt64)) 1000)))) then (tk Z (tN ticket) 1) else (((tk Z (tN ticket) 10) - (sp_cutUp (((tk Z (tN ticket) 10).toInt64) * ((zh Z 4).toInt64)) 1000)) - (if (tk Z (tN ticket) 2) < ((tk Z (tN ticket) 10) - (sp_cutUp (((tk Z (tN ticket) 10).toInt64) * ((zh Z 4).toInt64)) 1000)) then (tk Z (tN ticket) 2) else ((tk Z (tN ticket) 10) - (sp_cutUp (((tk Z (tN ticket) 10).toInt64) * ((zh Z 4).toInt64)) 1000)))))).toInt64))) (tN ticket) 12 ((((tk Z (tN ticket) 10) - (sp_cutUp (((tk Z (tN ticket) 10).toInt64) * ((zh Z 4).toInt64)) 1000)) - (if (tk Z (tN ticket) 2) < ((tk Z (tN ticket) 10) - (sp_cutUp (((tk Z (tN ticket) 10).toInt64) * ((zh Z 4).toInt64)) 1000)) then (tk Z (tN ticket) 2) else ((tk Z (tN ticket) 10) - (sp_cutUp (((tk Z (tN ticket) 10).toInt64) * ((zh Z 4).toInt64)) 1000)))) - (if (tk Z (tN ticket) 1) < (((tk Z (tN ticket) 10) - (sp_cutUp (((tk Z (tN ticket) 10).toInt64) * ((zh Z 4).toInt64)) 1000)) - (if (tk Z (tN ticket) 2) < ((tk Z (tN ticket) 10) - (sp_cutUp (((tk Z (tN ticket) 10).toInt64) * ((zh Z 4).toInt64)) 1000)) then (tk Z (tN ticket) 2) else ((tk Z (tN ticket) 10) - (sp_cutUp (((tk Z (tN ticket) 10).toInt64) * ((zh Z 4).toInt64)) 1000)))) then (tk Z (tN ticket) 1) else (((tk Z (tN ticket) 10) - (sp_cutUp (((tk Z (tN ticket) 10).toInt64) * ((zh Z 4).toInt64)) 1000)) - (if (tk Z (tN ticket) 2) < ((tk Z (tN ticket) 10) - (sp_cutUp (((tk Z (tN ticket) 10).toInt64) * ((zh Z 4).toInt64)) 1000)) then (tk Z (tN ticket) 2) else ((tk Z (tN ticket) 10) - (sp_cutUp (((tk Z (tN ticket) 10).toInt64) * ((zh Z 4).toInt64)) 1000))))))) (tN ticket) 14 ((zh Z 0) + (zh Z 5))) (tN ticket) 15 = tk Z (tN ticket) 15 from ((tk_ne (by decide)).trans ((tk_ne (by decide)).trans ((tk_zcp).trans ((tk_zcp).trans ((tk_zcp).trans ((tk_zcp).trans tk_zcp))))))) ▸ (hpl c_1))) (cwV 2 hts gX13_sale_X13_closes rfl rfl rfl (by decide +kernel) ⟨Nat.le_of_ble_eq_true rfl, Nat.le_of_ble_eq_true rfl⟩) rfl hl.1 rfl (Nat.le_of_ble_eq_true rfl) dX13_sale_238 ⟨Nat.zero_le _, Nat.zero_le _⟩ (fun H locs hP hS => ?_)
          refine lv_aload_n hx hb dX13_sale_241 rfl (lv_at hl 5 rfl) ?_
          refine lv_iload_n hx hb dX13_sale_242 rfl (lv_at hl 4 rfl) ?_
          refine m_wr S hK hP hS (As := [.int (tk Z (tN ticket) 10)]) (rest := []) (cM_says l D cI cJ ad (sp_closes (tkp (tkp (zcp (zcp (zcp (zcp (zcp Z 3 ((zc Z 3) + ((sp_cutUp (((tk Z (tN ticket) 10).toInt64) * ((zh Z 4).toInt64)) 1000).toInt64))) 1 ((zc Z 1) + ((if (tk Z (tN ticket) 2) < ((tk Z (tN ticket) 10) - (sp_cutUp (((tk Z (tN ticket) 10).toInt64) * ((zh Z 4).toInt64)) 1000)) then (tk Z (tN ticket) 2) else ((tk Z (tN ticket) 10) - (sp_cutUp (((tk Z (tN ticket) 10).toInt64) * ((zh Z 4).toInt64)) 1000))).toInt64))) 2 ((zc Z 2) + ((if (tk Z (tN ticket) 1) < (((tk Z (tN ticket) 10) - (sp_cutUp (((tk Z (tN ticket) 10).toInt64) * ((zh Z 4).toInt64)) 1000)) - (if (tk Z (tN ticket) 2) < ((tk Z (tN ticket) 10) - (sp_cutUp (((tk Z (tN ticket) 10).toInt64) * ((zh Z 4).toInt64)) 1000)) then (tk Z (tN ticket) 2) else ((tk Z (tN ticket) 10) - (sp_cutUp (((tk Z (tN ticket) 10).toInt64) * ((zh Z 4).toInt64)) 1000)))) then (tk Z (tN ticket) 1) else (((tk Z (tN ticket) 10) - (sp_cutUp (((tk Z (tN ticket) 10).toInt64) * ((zh Z 4).toInt64)) 1000)) - (if (tk Z (tN ticket) 2) < ((tk Z (tN ticket) 10) - (sp_cutUp (((tk Z (tN ticket) 10).toInt64) * ((zh Z 4).toInt64)) 1000)) then (tk Z (tN ticket) 2) else ((tk Z (tN ticket) 10) - (sp_cutUp (((tk Z (tN ticket) 10).toInt64) * ((zh Z 4).toInt64)) 1000))))).toInt64))) 5 ((zc Z 5) + ((((sp_owed (zcp (zcp (zcp Z 3 ((zc Z 3) + ((sp_cutUp (((tk Z (tN ticket) 10).toInt64) * ((zh Z 4).toInt64)) 1000).toInt64))) 1 ((zc Z 1) + ((if (tk Z (tN ticket) 2) < ((tk Z (tN ticket) 10) - (sp_cutUp (((tk Z (tN ticket) 10).toInt64) * ((zh Z 4).toInt64)) 1000)) then (tk Z (tN ticket) 2) else ((tk Z (tN ticket) 10) - (sp_cutUp (((tk Z (tN ticket) 10).toInt64) * ((zh Z 4).toInt64)) 1000))).toInt64))) 2 ((zc Z 2) + ((if (tk Z (tN ticket) 1) < (((tk Z (tN ticket) 10) - (sp_cutUp (((tk Z (tN ticket) 10).toInt64) * ((zh Z 4).toInt64)) 1000)) - (if (tk Z (tN ticket) 2) < ((tk Z (tN ticket) 10) - (sp_cutUp (((tk Z (tN ticket) 10).toInt64) * ((zh Z 4).toInt64)) 1000)) then (tk Z (tN ticket) 2) else ((tk Z (tN ticket) 10) - (sp_cutUp (((tk Z (tN ticket) 10).toInt64) * ((zh Z 4).toInt64)) 1000)))) then (tk Z (tN ticket) 1) else (((tk Z (tN ticket) 10) - (sp_cutUp (((tk Z (tN ticket) 10).toInt64) * ((zh Z 4).toInt64)) 1000)) - (if (tk Z (tN ticket) 2) < ((tk Z (tN ticket) 10) - (sp_cutUp (((tk Z (tN ticket) 10).toInt64) * ((zh Z 4).toInt64)) 1000)) then (tk Z (tN ticket) 2) else ((tk Z (tN ticket) 10) - (sp_cutUp (((tk Z (tN ticket) 10).toInt64) * ((zh Z 4).toInt64)) 1000))))).toInt64))) ticket) - (if (tk Z (tN ticket) 2) < ((tk Z (tN ticket) 10) - (sp_cutUp (((tk Z (tN ticket) 10).toInt64) * ((zh Z 4).toInt64)) 1000)) then (tk Z (tN ticket) 2) else ((tk Z (tN ticket) 10) - (sp_cutUp (((tk Z (tN ticket) 10).toInt64) * ((zh Z 4).toInt64)) 1000)))) - (if (tk Z (tN ticket) 1) < (((tk Z (tN ticket) 10) - (sp_cutUp (((tk Z (tN ticket) 10).toInt64) * ((zh Z 4).toInt64)) 1000)) - (if (tk Z (tN ticket) 2) < ((tk Z (tN ticket) 10) - (sp_cutUp (((tk Z (tN ticket) 10).toInt64) * ((zh Z 4).toInt64)) 1000)) then (tk Z (tN ticket) 2) else ((tk Z (tN ticket) 10) - (sp_cutUp (((tk Z (tN ticket) 10).toInt64) * ((zh Z 4).toInt64)) 1000)))) then (tk Z (tN ticket) 1) else (((tk Z (tN ticket) 10) - (sp_cutUp (((tk Z (tN ticket) 10).toInt64) * ((zh Z 4).toInt64)) 1000)) - (if (tk Z (tN ticket) 2) < ((tk Z (tN ticket) 10) - (sp_cutUp (((tk Z (tN ticket) 10).toInt64) * ((zh Z 4).toInt64)) 1000)) then (tk Z (tN ticket) 2) else ((tk Z (tN ticket) 10) - (sp_cutUp (((tk Z (tN ticket) 10).toInt64) * ((zh Z 4).toInt64)) 1000)))))).toInt64))) 6 ((zc Z 6) + (((tk Z (tN ticket) 1) - (if (tk Z (tN ticket) 1) < (((tk Z (tN ticket) 10) - (sp_cutUp (((tk Z (tN ticket) 10).toInt64) * ((zh Z 4).toInt64)) 1000)) - (if (tk Z (tN ticket) 2) < ((tk Z (tN ticket) 10) - (sp_cutUp (((tk Z (tN ticket) 10).toInt64) * ((zh Z 4).toInt64)) 1000)) then (tk Z (tN ticket) 2) else ((tk Z (tN ticket) 10) - (sp_cutUp (((tk Z (tN ticket) 10).toInt64) * ((zh Z 4).toInt64)) 1000)))) then (tk Z (tN ticket) 1) else (((tk Z (tN ticket) 10) - (sp_cutUp (((tk Z (tN ticket) 10).toInt64) * ((zh Z 4).toInt64)) 1000)) - (if (tk Z (tN ticket) 2) < ((tk Z (tN ticket) 10) - (sp_cutUp (((tk Z (tN ticket) 10).toInt64) * ((zh Z 4).toInt64)) 1000)) then (tk Z (tN ticket) 2) else ((tk Z (tN ticket) 10) - (sp_cutUp (((tk Z (tN ticket) 10).toInt64) * ((zh Z 4).toInt64)) 1000)))))).toInt64))) (tN ticket) 12 ((((tk Z (tN ticket) 10) - (sp_cutUp (((tk Z (tN ticket) 10).toInt64) * ((zh Z 4).toInt64)) 1000)) - (if (tk Z (tN ticket) 2) < ((tk Z (tN ticket) 10) - (sp_cutUp (((tk Z (tN ticket) 10).toInt64) * ((zh Z 4).toInt64)) 1000)) then (tk Z (tN ticket) 2) else ((tk Z (tN ticket) 10) - (sp_cutUp (((tk Z (tN ticket) 10).toInt64) * ((zh Z 4).toInt64)) 1000)))) - (if (tk Z (tN ticket) 1) < (((tk Z (tN ticket) 10) - (sp_cutUp (((tk Z (tN ticket) 10).toInt64) * ((zh Z 4).toInt64)) 1000)) - (if (tk Z (tN ticket) 2) < ((tk Z (tN ticket) 10) - (sp_cutUp (((tk Z (tN ticket) 10).toInt64) * ((zh Z 4).toInt64)) 1000)) then (tk Z (tN ticket) 2) else ((tk Z (tN ticket) 10) - (sp_cutUp (((tk Z (tN ticket) 10).toInt64) * ((zh Z 4).toInt64)) 1000)))) then (tk Z (tN ticket) 1) else (((tk Z (tN ticket) 10) - (sp_cutUp (((tk Z (tN ticket) 10).toInt64) * ((zh Z 4).toInt64)) 1000)) - (if (tk Z (tN ticket) 2) < ((tk Z (tN ticket) 10) - (sp_cutUp (((tk Z (tN ticket) 10).toInt64) * ((zh Z 4).toInt64)) 1000)) then (tk Z (tN ticket) 2) else ((tk Z (tN ticket) 10) - (sp_cutUp (((tk Z (tN ticket) 10).toInt64) * ((zh Z 4).toInt64)) 1000))))))) (tN ticket) 14 ((zh Z 0) + (zh Z 5))) ticket 2) _ hi (tk Z (tN ticket) 10)) (cwV 1 hts gX13_sale_X13_says rfl rfl rfl (by decide +kernel) ⟨Nat.le_of_ble_eq_true rfl, Nat.le_of_ble_eq_true rfl⟩) rfl hl.1 rfl (Nat.le_of_ble_eq_true rfl) dX13_sale_243 ⟨Nat.zero_le _, Nat.zero_le _⟩ (fun H locs hP hS => ?_)
          have hsp : sp_sale Z ticket = (tk Z (tN ticket) 10, zR (sp_closes (tkp (tkp (zcp (zcp (zcp (zcp (zcp Z 3 ((zc Z 3) + ((sp_cutUp (((tk Z (tN ticket) 10).toInt64) * ((zh Z 4).toInt64)) 1000).toInt64))) 1 ((zc Z 1) + ((if (tk Z (tN ticket) 2) < ((tk Z (tN ticket) 10) - (sp_cutUp (((tk Z (tN ticket) 10).toInt64) * ((zh Z 4).toInt64)) 1000)) then (tk Z (tN ticket) 2) else ((tk Z (tN ticket) 10) - (sp_cutUp (((tk Z (tN ticket) 10).toInt64) * ((zh Z 4).toInt64)) 1000))).toInt64))) 2 ((zc Z 2) + ((if (tk Z (tN ticket) 1) < (((tk Z (tN ticket) 10) - (sp_cutUp (((tk Z (tN ticket) 10).toInt64) * ((zh Z 4).toInt64)) 1000)) - (if (tk Z (tN ticket) 2) < ((tk Z (tN ticket) 10) - (sp_cutUp (((tk Z (tN ticket) 10).toInt64) * ((zh Z 4).toInt64)) 1000)) then (tk Z (tN ticket) 2) else ((tk Z (tN ticket) 10) - (sp_cutUp (((tk Z (tN ticket) 10).toInt64) * ((zh Z 4).toInt64)) 1000)))) then (tk Z (tN ticket) 1) else (((tk Z (tN ticket) 10) - (sp_cutUp (((tk Z (tN ticket) 10).toInt64) * ((zh Z 4).toInt64)) 1000)) - (if (tk Z (tN ticket) 2) < ((tk Z (tN ticket) 10) - (sp_cutUp (((tk Z (tN ticket) 10).toInt64) * ((zh Z 4).toInt64)) 1000)) then (tk Z (tN ticket) 2) else ((tk Z (tN ticket) 10) - (sp_cutUp (((tk Z (tN ticket) 10).toInt64) * ((zh Z 4).toInt64)) 1000))))).toInt64))) 5 ((zc Z 5) + ((((sp_owed (zcp (zcp (zcp Z 3 ((zc Z 3) + ((sp_cutUp (((tk Z (tN ticket) 10).toInt64) * ((zh Z 4).toInt64)) 1000).toInt64))) 1 ((zc Z 1) + ((if (tk Z (tN ticket) 2) < ((tk Z (tN ticket) 10) - (sp_cutUp (((tk Z (tN ticket) 10).toInt64) * ((zh Z 4).toInt64)) 1000)) then (tk Z (tN ticket) 2) else ((tk Z (tN ticket) 10) - (sp_cutUp (((tk Z (tN ticket) 10).toInt64) * ((zh Z 4).toInt64)) 1000))).toInt64))) 2 ((zc Z 2) + ((if (tk Z (tN ticket) 1) < (((tk Z (tN ticket) 10) - (sp_cutUp (((tk Z (tN ticket) 10).toInt64) * ((zh Z 4).toInt64)) 1000)) - (if (tk Z (tN ticket) 2) < ((tk Z (tN ticket) 10) - (sp_cutUp (((tk Z (tN ticket) 10).toInt64) * ((zh Z 4).toInt64)) 1000)) then (tk Z (tN ticket) 2) else ((tk Z (tN ticket) 10) - (sp_cutUp (((tk Z (tN ticket) 10).toInt64) * ((zh Z 4).toInt64)) 1000)))) then (tk Z (tN ticket) 1) else (((tk Z (tN ticket) 10) - (sp_cutUp (((tk Z (tN ticket) 10).toInt64) * ((zh Z 4).toInt64)) 1000)) - (if (tk Z (tN ticket) 2) < ((tk Z (tN ticket) 10) - (sp_cutUp (((tk Z (tN ticket) 10).toInt64) * ((zh Z 4).toInt64)) 1000)) then (tk Z (tN ticket) 2) else ((tk Z (tN ticket) 10) - (sp_cutUp (((tk Z (tN ticket) 10).toInt64) * ((zh Z 4).toInt64)) 1000))))).toInt64))) ticket) - (if (tk Z (tN ticket) 2) < ((tk Z (tN ticket) 10) - (sp_cutUp (((tk Z (tN ticket) 10).toInt64) * ((zh Z 4).toInt64)) 1000)) then (tk Z (tN ticket) 2) else ((tk Z (tN ticket) 10) - (sp_cutUp (((tk Z (tN ticket) 10).toInt64) * ((zh Z 4).toInt64)) 1000)))) - (if (tk Z (tN ticket) 1) < (((tk Z (tN ticket) 10) - (sp_cutUp (((tk Z (tN ticket) 10).toInt64) * ((zh Z 4).toInt64)) 1000)) - (if (tk Z (tN ticket) 2) < ((tk Z (tN ticket) 10) - (sp_cutUp (((tk Z (tN ticket) 10).toInt64) * ((zh Z 4).toInt64)) 1000)) then (tk Z (tN ticket) 2) else ((tk Z (tN ticket) 10) - (sp_cutUp (((tk Z (tN ticket) 10).toInt64) * ((zh Z 4).toInt64)) 1000)))) then (tk Z (tN ticket) 1) else (((tk Z (tN ticket) 10) - (sp_cutUp (((tk Z (tN ticket) 10).toInt64) * ((zh Z 4).toInt64)) 1000)) - (if (tk Z (tN ticket) 2) < ((tk Z (tN ticket) 10) - (sp_cutUp (((tk Z (tN ticket) 10).toInt64) * ((zh Z 4).toInt64)) 1000)) then (tk Z (tN ticket) 2) else ((tk Z (tN ticket) 10) - (sp_cutUp (((tk Z (tN ticket) 10).toInt64) * ((zh Z 4).toInt64)) 1000)))))).toInt64))) 6 ((zc Z 6) + (((tk Z (tN ticket) 1) - (if (tk Z (tN ticket) 1) < (((tk Z (tN ticket) 10) - (sp_cutUp (((tk Z (tN ticket) 10).toInt64) * ((zh Z 4).toInt64)) 1000)) - (if (tk Z (tN ticket) 2) < ((tk Z (tN ticket) 10) - (sp_cutUp (((tk Z (tN ticket) 10).toInt64) * ((zh Z 4).toInt64)) 1000)) then (tk Z (tN ticket) 2) else ((tk Z (tN ticket) 10) - (sp_cutUp (((tk Z (tN ticket) 10).toInt64) * ((zh Z 4).toInt64)) 1000)))) then (tk Z (tN ticket) 1) else (((tk Z (tN ticket) 10) - (sp_cutUp (((tk Z (tN ticket) 10).toInt64) * ((zh Z 4).toInt64)) 1000)) - (if (tk Z (tN ticket) 2) < ((tk Z (tN ticket) 10) - (sp_cutUp (((tk Z (tN ticket) 10).toInt64) * ((zh Z 4).toInt64)) 1000)) then (tk Z (tN ticket) 2) else ((tk Z (tN ticket) 10) - (sp_cutUp (((tk Z (tN ticket) 10).toInt64) * ((zh Z 4).toInt64)) 1000)))))).toInt64))) (tN ticket) 12 ((((tk Z (tN ticket) 10) - (sp_cutUp (((tk Z (tN ticket) 10).toInt64) * ((zh Z 4).toInt64)) 1000)) - (if (tk Z (tN ticket) 2) < ((tk Z (tN ticket) 10) - (sp_cutUp (((tk Z (tN ticket) 10).toInt64) * ((zh Z 4).toInt64)) 1000)) then (tk Z (tN ticket) 2) else ((tk Z (tN ticket) 10) - (sp_cutUp (((tk Z (tN ticket) 10).toInt64) * ((zh Z 4).toInt64)) 1000)))) - (if (tk Z (tN ticket) 1) < (((tk Z (tN ticket) 10) - (sp_cutUp (((tk Z (tN ticket) 10).toInt64) * ((zh Z 4).toInt64)) 1000)) - (if (tk Z (tN ticket) 2) < ((tk Z (tN ticket) 10) - (sp_cutUp (((tk Z (tN ticket) 10).toInt64) * ((zh Z 4).toInt64)) 1000)) then (tk Z (tN ticket) 2) else ((tk Z (tN ticket) 10) - (sp_cutUp (((tk Z (tN ticket) 10).toInt64) * ((zh Z 4).toInt64)) 1000)))) then (tk Z (tN ticket) 1) else (((tk Z (tN ticket) 10) - (sp_cutUp (((tk Z (tN ticket) 10).toInt64) * ((zh Z 4).toInt64)) 1000)) - (if (tk Z (tN ticket) 2) < ((tk Z (tN ticket) 10) - (sp_cutUp (((tk Z (tN ticket) 10).toInt64) * ((zh Z 4).toInt64)) 1000)) then (tk Z (tN ticket) 2) else ((tk Z (tN ticket) 10) - (sp_cutUp (((tk Z (tN ticket) 10).toInt64) * ((zh Z 4).toInt64)) 1000))))))) (tN ticket) 14 ((zh Z 0) + (zh Z 5))) ticket 2) (tk Z (tN ticket) 10)) := by unfold sp_sale; rw [if_neg c_1, if_neg c_2, if_neg c_3, if_pos c_4]
          exact W.iret hx hb hr (fun t2 ht2 hW => by rw [hsp]; exact ⟨rfl, by rw [ht2]; exact hP, hS.F ht2⟩) hS.2.2 dX13_sale_246 hlocks
        · refine lv_aload_n hx hb dX13_sale_47 rfl (lv_at hl 0 rfl) ?_
          refine lv_bipush (v := (-3)) hx hb dX13_sale_48 (by decide) ?_
          refine m_wr S hK hP hS (As := [.int (-3)]) (rest := []) (cM_says l D cI cJ ad Z _ hi (-3)) (cwV 1 hts gX13_sale_X13_says rfl rfl rfl (by decide +kernel) ⟨Nat.le_of_ble_eq_true rfl, Nat.le_of_ble_eq_true rfl⟩) rfl hl.1 rfl (Nat.le_of_ble_eq_true rfl) dX13_sale_50 ⟨Nat.zero_le _, Nat.zero_le _⟩ (fun H locs hP hS => ?_)
          have hsp : sp_sale Z ticket = ((-3), zR Z (-3)) := by unfold sp_sale; rw [if_neg c_1, if_neg c_2, if_neg c_3, if_neg c_4]
          exact W.iret hx hb hr (fun t2 ht2 hW => by rw [hsp]; exact ⟨rfl, by rw [ht2]; exact hP, hS.F ht2⟩) hS.2.2 dX13_sale_53 hlocks
      · refine lv_aload_n hx hb dX13_sale_32 rfl (lv_at hl 0 rfl) ?_
        refine lv_bipush (v := (-2)) hx hb dX13_sale_33 (by decide) ?_
        refine m_wr S hK hP hS (As := [.int (-2)]) (rest := []) (cM_says l D cI cJ ad Z _ hi (-2)) (cwV 1 hts gX13_sale_X13_says rfl rfl rfl (by decide +kernel) ⟨Nat.le_of_ble_eq_true rfl, Nat.le_of_ble_eq_true rfl⟩) rfl hl.1 rfl (Nat.le_of_ble_eq_true rfl) dX13_sale_35 ⟨Nat.zero_le _, Nat.zero_le _⟩ (fun H locs hP hS => ?_)
        have hsp : sp_sale Z ticket = ((-2), zR Z (-2)) := by unfold sp_sale; rw [if_neg c_1, if_neg c_2, if_pos c_3]
        exact W.iret hx hb hr (fun t2 ht2 hW => by rw [hsp]; exact ⟨rfl, by rw [ht2]; exact hP, hS.F ht2⟩) hS.2.2 dX13_sale_38 hlocks
  · refine lv_aload_n hx hb dX13_sale_8 rfl (lv_at hl 0 rfl) ?_
    refine lv_iconst (v := (-1)) hx hb dX13_sale_9 (by decide) ?_
    refine m_wr S hK hP hS (As := [.int (-1)]) (rest := []) (cM_says l D cI cJ ad Z _ hi (-1)) (cwV 1 hts gX13_sale_X13_says rfl rfl rfl (by decide +kernel) ⟨Nat.le_of_ble_eq_true rfl, Nat.le_of_ble_eq_true rfl⟩) rfl hl.1 rfl (Nat.le_of_ble_eq_true rfl) dX13_sale_10 ⟨Nat.zero_le _, Nat.zero_le _⟩ (fun H locs hP hS => ?_)
    have hsp : sp_sale Z ticket = ((-1), zR Z (-1)) := by unfold sp_sale; rw [if_pos c_1]
    exact W.iret hx hb hr (fun t2 ht2 hW => by rw [hsp]; exact ⟨rfl, by rw [ht2]; exact hP, hS.F ht2⟩) hS.2.2 dX13_sale_13 hlocks
def sp_prove (Z : mZ) (ticket : Int32) : Int32 × mZ :=
  if (sp_isTicket Z ticket) = 0 then
    ((-1), zR Z (-1))
  else
    if (sp_isOpen Z ticket) = 0 then
      ((-2), zR Z (-2))
    else
      if (sp_isClaimed Z ticket) = 0 then
        ((-3), zR Z (-3))
      else
        (sp_owed (sp_closes (zcp (zcp (sp_dropped Z ticket) 5 ((zc (sp_dropped Z ticket) 5) + ((sp_owed (sp_dropped Z ticket) ticket).toInt64))) 6 ((zc (sp_dropped Z ticket) 6) + ((tk Z (tN ticket) 1).toInt64))) ticket 3) ticket, zR (sp_closes (zcp (zcp (sp_dropped Z ticket) 5 ((zc (sp_dropped Z ticket) 5) + ((sp_owed (sp_dropped Z ticket) ticket).toInt64))) 6 ((zc (sp_dropped Z ticket) 6) + ((tk Z (tN ticket) 1).toInt64))) ticket 3) (sp_owed (sp_closes (zcp (zcp (sp_dropped Z ticket) 5 ((zc (sp_dropped Z ticket) 5) + ((sp_owed (sp_dropped Z ticket) ticket).toInt64))) 6 ((zc (sp_dropped Z ticket) 6) + ((tk Z (tN ticket) 1).toInt64))) ticket 3) ticket))
set_option maxHeartbeats 4000000 in
set_option maxRecDepth 100000 in
theorem cM_prove (l : Launch) (D : va_G) (cI cJ : ClassId) (ad : Nat → Nat) (Z : mZ) (sz : Nat) (hi : mI ad) (ticket : Int32) (hC : cok Z) (hpl : ¬ sp_isTicket Z ticket = 0 → pok (tk Z (tN ticket) 15)) : Met l yX13_prove wsX13_prove ({ frames := 4, cells := 0, slots := 0, locals := 89 }) (mPc [.ref (ad 0), .int ticket] D cI cJ ad Z sz) (mQ D cI cJ ad (some (.int (sp_prove Z ticket).1)) (sp_prove Z ticket).2 sz) 0 0 (mA ad sz) := by
  refine m_in (cc := cX13_prove) (maxL := 2) (ret := (some .int)) (lv := [(0, .ref (ad 0)), (1, .int ticket)]) (by decide) rfl (Nat.le_of_ble_eq_true rfl) rfl ?_
  intro p e s m below meth c ls S hr hlocks hin hsz hP hK hl hS
  subst hsz
  obtain ⟨hx, hb, hml, hown, hts⟩ := id S
  have hX12 : ∀ w ∈ wsX120, w ∈ wsX13_prove := by decide +kernel
  have hX13 : ∀ w ∈ wsX130, w ∈ wsX13_prove := by decide +kernel
  refine lv_aload_n hx hb dX13_prove_0 rfl (lv_at hl 0 rfl) ?_
  refine lv_iload_n hx hb dX13_prove_1 rfl (lv_at hl 1 rfl) ?_
  refine m_rd S hK hP (As := [.int ticket]) (rest := []) (cM_isTicket l D cI cJ ad Z _ ticket ) (cwV 1 hts gX13_prove_X13_isTicket rfl rfl rfl (by decide +kernel) ⟨Nat.le_of_ble_eq_true rfl, Nat.le_of_ble_eq_true rfl⟩) rfl hl.1 rfl (Nat.le_of_ble_eq_true rfl) dX13_prove_2 ⟨Nat.zero_le _, Nat.zero_le _⟩ ?_
  refine lv_if_ne (tgt := 14) hx hb dX13_prove_5 (by decide) (fun c_1 => ?_) (fun c_1 => ?_)
  · refine lv_aload_n hx hb dX13_prove_14 rfl (lv_at hl 0 rfl) ?_
    refine lv_iload_n hx hb dX13_prove_15 rfl (lv_at hl 1 rfl) ?_
    refine m_rd S hK hP (As := [.int ticket]) (rest := []) (cM_isOpen l D cI cJ ad Z _ ticket (tok_of hC c_1)) (cwV 1 hts gX13_prove_X13_isOpen rfl rfl rfl (by decide +kernel) ⟨Nat.le_of_ble_eq_true rfl, Nat.le_of_ble_eq_true rfl⟩) rfl hl.1 rfl (Nat.le_of_ble_eq_true rfl) dX13_prove_16 ⟨Nat.zero_le _, Nat.zero_le _⟩ ?_
    refine lv_if_ne (tgt := 29) hx hb dX13_prove_19 (by decide) (fun c_2 => ?_) (fun c_2 => ?_)
    · refine lv_aload_n hx hb dX13_prove_29 rfl (lv_at hl 0 rfl) ?_
      refine lv_iload_n hx hb dX13_prove_30 rfl (lv_at hl 1 rfl) ?_
      refine m_rd S hK hP (As := [.int ticket]) (rest := []) (cM_isClaimed l D cI cJ ad Z _ ticket (tok_of hC c_1)) (cwV 1 hts gX13_prove_X13_isClaimed rfl rfl rfl (by decide +kernel) ⟨Nat.le_of_ble_eq_true rfl, Nat.le_of_ble_eq_true rfl⟩) rfl hl.1 rfl (Nat.le_of_ble_eq_true rfl) dX13_prove_31 ⟨Nat.zero_le _, Nat.zero_le _⟩ ?_
      refine lv_if_ne (tgt := 44) hx hb dX13_prove_34 (by decide) (fun c_3 => ?_) (fun c_3 => ?_)
      · refine lv_aload_n hx hb dX13_prove_44 rfl (lv_at hl 0 rfl) ?_
        refine lv_iload_n hx hb dX13_prove_45 rfl (lv_at hl 1 rfl) ?_
        refine m_wv S hK hP hS (As := [.int ticket]) (rest := []) (cM_dropped l D cI cJ ad Z _ hi ticket (tok_of hC c_1)) (cwV 1 hts gX13_prove_X13_dropped rfl rfl rfl (by decide +kernel) ⟨Nat.le_of_ble_eq_true rfl, Nat.le_of_ble_eq_true rfl⟩) rfl hl.1 rfl (Nat.le_of_ble_eq_true rfl) dX13_prove_46 ⟨Nat.zero_le _, Nat.zero_le _⟩ (fun H locs hP hS => ?_)
        refine lv_aload_n hx hb dX13_prove_49 rfl (lv_at hl 0 rfl) ?_
        refine va_get (D := D) (ci := 11) (v := .ref (ad 1)) (C := RX13) (T := TX13) (N := 6) hx hb hts hX13 hown hK.1 hP 0 rfl rfl 0 (by decide) (hts (.fieldLink RX13 10 "PledgeHouseModel" "now" "LPledgeHouseModel$State;") (by decide +kernel)) (fun _ h9 => h9) rfl dX13_prove_50 ?_
        refine va_getN (D := D) (ci := 10) (v := .ref (ad 6)) (C := RX12) (T := TX12) (N := 4) hx hb hts hX12 hown hK.1 hP 1 rfl rfl 3 (by decide) (va_Nw.use rfl hK.2.2.2.2) (fun _ h9 => h9) rfl dX13_prove_53 ?_
        refine lv_iconst (v := 5) hx hb dX13_prove_56 (by decide) ?_
        refine lv_dup2_11 hx hb dX13_prove_57 rfl rfl ?_
        refine mx_cld hx hb hK.1 hP 5 rfl (by decide) (v := zc (sp_dropped Z ticket) 5) rfl dX13_prove_58 ?_
        refine lv_aload_n hx hb dX13_prove_59 rfl (lv_at hl 0 rfl) ?_
        refine lv_iload_n hx hb dX13_prove_60 rfl (lv_at hl 1 rfl) ?_
        refine m_rd S hK hP (As := [.int ticket]) (rest := [.long (zc (sp_dropped Z ticket) 5), .int 5, .ref (ad 6)]) (cM_owed l D cI cJ ad (sp_dropped Z ticket) _ ticket (tok_of hC c_1)) (cwV 1 hts gX13_prove_X13_owed rfl rfl rfl (by decide +kernel) ⟨Nat.le_of_ble_eq_true rfl, Nat.le_of_ble_eq_true rfl⟩) rfl hl.1 rfl (Nat.le_of_ble_eq_true rfl) dX13_prove_61 ⟨Nat.zero_le _, Nat.zero_le _⟩ ?_
        refine lv_i2l (v := (sp_owed (sp_dropped Z ticket) ticket).toInt64) hx hb dX13_prove_64 rfl ?_
        refine lv_ladd hx hb dX13_prove_65 ?_
        refine mx_cst hx hb hK.1 hP (wM_D hi s.heap.size _) hS 5 rfl (by decide) dX13_prove_66 (fun H locs hP hS => ?_)
        refine lv_aload_n hx hb dX13_prove_67 rfl (lv_at hl 0 rfl) ?_
        refine va_get (D := D) (ci := 11) (v := .ref (ad 1)) (C := RX13) (T := TX13) (N := 6) hx hb hts hX13 hown hK.1 hP 0 rfl rfl 0 (by decide) (hts (.fieldLink RX13 10 "PledgeHouseModel" "now" "LPledgeHouseModel$State;") (by decide +kernel)) (fun _ h9 => h9) rfl dX13_prove_68 ?_
        refine va_getN (D := D) (ci := 10) (v := .ref (ad 6)) (C := RX12) (T := TX12) (N := 4) hx hb hts hX12 hown hK.1 hP 1 rfl rfl 3 (by decide) (va_Nw.use rfl hK.2.2.2.2) (fun _ h9 => h9) rfl dX13_prove_71 ?_
        refine lv_bipush (v := 6) hx hb dX13_prove_74 (by decide) ?_
        refine lv_dup2_11 hx hb dX13_prove_76 rfl rfl ?_
        refine mx_cld hx hb hK.1 hP 6 rfl (by decide) (v := zc (sp_dropped Z ticket) 6) (zc_zcp_ne (by decide)) dX13_prove_77 ?_
        refine lv_aload_n hx hb dX13_prove_78 rfl (lv_at hl 0 rfl) ?_
        refine lv_iload_n hx hb dX13_prove_79 rfl (lv_at hl 1 rfl) ?_
        refine lv_iconst (v := 1) hx hb dX13_prove_80 (by decide) ?_
        refine m_rd S hK hP (As := [.int ticket, .int 1]) (rest := [.long (zc (sp_dropped Z ticket) 6), .int 6, .ref (ad 6)]) (met_r (show tk (zcp (sp_dropped Z ticket) 5 ((zc (sp_dropped Z ticket) 5) + ((sp_owed (sp_dropped Z ticket) ticket).toInt64))) (tN ticket) 1 = tk Z (tN ticket) 1 from ((tk_zcp).trans (tk_dropped (by decide) (by decide) rfl))) (cM_of l D cI cJ ad (zcp (sp_dropped Z ticket) 5 ((zc (sp_dropped Z ticket) 5) + ((sp_owed (sp_dropped Z ticket) ticket).toInt64))) _ ticket 1 (tok_of hC c_1) 1 rfl (by decide))) (cwV 2 hts gX13_prove_X13_of rfl rfl rfl (by decide +kernel) ⟨Nat.le_of_ble_eq_true rfl, Nat.le_of_ble_eq_true rfl⟩) rfl hl.1 rfl (Nat.le_of_ble_eq_true rfl) dX13_prove_81 ⟨Nat.zero_le _, Nat.zero_le _⟩ ?_
        refine lv_i2l (v := (tk Z (tN ticket) 1).toInt64) hx hb dX13_prove_84 rfl ?_
        refine lv_ladd hx hb dX13_prove_85 ?_
        refine mx_cst hx hb hK.1 hP (wM_D hi s.heap.size _) hS 6 rfl (by decide) dX13_prove_86 (fun H locs hP hS => ?_)
        refine lv_aload_n hx hb dX13_prove_87 rfl (lv_at hl 0 rfl) ?_
        refine lv_iload_n hx hb dX13_prove_88 rfl (lv_at hl 1 rfl) ?_
        refine lv_iconst (v := 3) hx hb dX13_prove_89 (by decide) ?_
        refine m_wv S hK hP hS (As := [.int ticket, .int 3]) (rest := []) (cM_closes l D cI cJ ad (zcp (zcp (sp_dropped Z ticket) 5 ((zc (sp_dropped Z ticket) 5) + ((sp_owed (sp_dropped Z ticket) ticket).toInt64))) 6 ((zc (sp_dropped Z ticket) 6) + ((tk Z (tN ticket) 1).toInt64))) _ hi ticket 3 (tok_of hC c_1) (show pok (tk (zcp (zcp (sp_dropped Z ticket) 5 ((zc (sp_dropped Z ticket) 5) + ((sp_owed (sp_dropped Z ticket) ticket).toInt64))) 6 ((zc (sp_dropped Z ticket) 6) + ((tk Z (tN ticket) 1).toInt64))) (tN ticket) 15) from (show tk (zcp (zcp (sp_dropped Z ticket) 5 ((zc (sp_dropped Z ticket) 5) + ((sp_owed (sp_dropped Z ticket) ticket).toInt64))) 6 ((zc (sp_dropped Z ticket) 6) + ((tk Z (tN ticket) 1).toInt64))) (tN ticket) 15 = tk Z (tN ticket) 15 from ((tk_zcp).trans ((tk_zcp).trans (tk_dropped (by decide) (by decide) rfl)))) ▸ (hpl c_1))) (cwV 2 hts gX13_prove_X13_closes rfl rfl rfl (by decide +kernel) ⟨Nat.le_of_ble_eq_true rfl, Nat.le_of_ble_eq_true rfl⟩) rfl hl.1 rfl (Nat.le_of_ble_eq_true rfl) dX13_prove_90 ⟨Nat.zero_le _, Nat.zero_le _⟩ (fun H locs hP hS => ?_)
        refine lv_aload_n hx hb dX13_prove_93 rfl (lv_at hl 0 rfl) ?_
        refine lv_aload_n hx hb dX13_prove_94 rfl (lv_at hl 0 rfl) ?_
        refine lv_iload_n hx hb dX13_prove_95 rfl (lv_at hl 1 rfl) ?_
        refine m_rd S hK hP (As := [.int ticket]) (rest := [.ref (ad 0)]) (cM_owed l D cI cJ ad (sp_closes (zcp (zcp (sp_dropped Z ticket) 5 ((zc (sp_dropped Z ticket) 5) + ((sp_owed (sp_dropped Z ticket) ticket).toInt64))) 6 ((zc (sp_dropped Z ticket) 6) + ((tk Z (tN ticket) 1).toInt64))) ticket 3) _ ticket (tok_of hC c_1)) (cwV 1 hts gX13_prove_X13_owed rfl rfl rfl (by decide +kernel) ⟨Nat.le_of_ble_eq_true rfl, Nat.le_of_ble_eq_true rfl⟩) rfl hl.1 rfl (Nat.le_of_ble_eq_true rfl) dX13_prove_96 ⟨Nat.zero_le _, Nat.zero_le _⟩ ?_
        refine m_wr S hK hP hS (As := [.int (sp_owed (sp_closes (zcp (zcp (sp_dropped Z ticket) 5 ((zc (sp_dropped Z ticket) 5) + ((sp_owed (sp_dropped Z ticket) ticket).toInt64))) 6 ((zc (sp_dropped Z ticket) 6) + ((tk Z (tN ticket) 1).toInt64))) ticket 3) ticket)]) (rest := []) (cM_says l D cI cJ ad (sp_closes (zcp (zcp (sp_dropped Z ticket) 5 ((zc (sp_dropped Z ticket) 5) + ((sp_owed (sp_dropped Z ticket) ticket).toInt64))) 6 ((zc (sp_dropped Z ticket) 6) + ((tk Z (tN ticket) 1).toInt64))) ticket 3) _ hi (sp_owed (sp_closes (zcp (zcp (sp_dropped Z ticket) 5 ((zc (sp_dropped Z ticket) 5) + ((sp_owed (sp_dropped Z ticket) ticket).toInt64))) 6 ((zc (sp_dropped Z ticket) 6) + ((tk Z (tN ticket) 1).toInt64))) ticket 3) ticket)) (cwV 1 hts gX13_prove_X13_says rfl rfl rfl (by decide +kernel) ⟨Nat.le_of_ble_eq_true rfl, Nat.le_of_ble_eq_true rfl⟩) rfl hl.1 rfl (Nat.le_of_ble_eq_true rfl) dX13_prove_99 ⟨Nat.zero_le _, Nat.zero_le _⟩ (fun H locs hP hS => ?_)
        have hsp : sp_prove Z ticket = (sp_owed (sp_closes (zcp (zcp (sp_dropped Z ticket) 5 ((zc (sp_dropped Z ticket) 5) + ((sp_owed (sp_dropped Z ticket) ticket).toInt64))) 6 ((zc (sp_dropped Z ticket) 6) + ((tk Z (tN ticket) 1).toInt64))) ticket 3) ticket, zR (sp_closes (zcp (zcp (sp_dropped Z ticket) 5 ((zc (sp_dropped Z ticket) 5) + ((sp_owed (sp_dropped Z ticket) ticket).toInt64))) 6 ((zc (sp_dropped Z ticket) 6) + ((tk Z (tN ticket) 1).toInt64))) ticket 3) (sp_owed (sp_closes (zcp (zcp (sp_dropped Z ticket) 5 ((zc (sp_dropped Z ticket) 5) + ((sp_owed (sp_dropped Z ticket) ticket).toInt64))) 6 ((zc (sp_dropped Z ticket) 6) + ((tk Z (tN ticket) 1).toInt64))) ticket 3) ticket)) := by unfold sp_prove; rw [if_neg c_1, if_neg c_2, if_neg c_3]
        exact W.iret hx hb hr (fun t2 ht2 hW => by rw [hsp]; exact ⟨rfl, by rw [ht2]; exact hP, hS.F ht2⟩) hS.2.2 dX13_prove_102 hlocks
      · refine lv_aload_n hx hb dX13_prove_37 rfl (lv_at hl 0 rfl) ?_
        refine lv_bipush (v := (-3)) hx hb dX13_prove_38 (by decide) ?_
        refine m_wr S hK hP hS (As := [.int (-3)]) (rest := []) (cM_says l D cI cJ ad Z _ hi (-3)) (cwV 1 hts gX13_prove_X13_says rfl rfl rfl (by decide +kernel) ⟨Nat.le_of_ble_eq_true rfl, Nat.le_of_ble_eq_true rfl⟩) rfl hl.1 rfl (Nat.le_of_ble_eq_true rfl) dX13_prove_40 ⟨Nat.zero_le _, Nat.zero_le _⟩ (fun H locs hP hS => ?_)
        have hsp : sp_prove Z ticket = ((-3), zR Z (-3)) := by unfold sp_prove; rw [if_neg c_1, if_neg c_2, if_pos c_3]
        exact W.iret hx hb hr (fun t2 ht2 hW => by rw [hsp]; exact ⟨rfl, by rw [ht2]; exact hP, hS.F ht2⟩) hS.2.2 dX13_prove_43 hlocks
    · refine lv_aload_n hx hb dX13_prove_22 rfl (lv_at hl 0 rfl) ?_
      refine lv_bipush (v := (-2)) hx hb dX13_prove_23 (by decide) ?_
      refine m_wr S hK hP hS (As := [.int (-2)]) (rest := []) (cM_says l D cI cJ ad Z _ hi (-2)) (cwV 1 hts gX13_prove_X13_says rfl rfl rfl (by decide +kernel) ⟨Nat.le_of_ble_eq_true rfl, Nat.le_of_ble_eq_true rfl⟩) rfl hl.1 rfl (Nat.le_of_ble_eq_true rfl) dX13_prove_25 ⟨Nat.zero_le _, Nat.zero_le _⟩ (fun H locs hP hS => ?_)
      have hsp : sp_prove Z ticket = ((-2), zR Z (-2)) := by unfold sp_prove; rw [if_neg c_1, if_pos c_2]
      exact W.iret hx hb hr (fun t2 ht2 hW => by rw [hsp]; exact ⟨rfl, by rw [ht2]; exact hP, hS.F ht2⟩) hS.2.2 dX13_prove_28 hlocks
  · refine lv_aload_n hx hb dX13_prove_8 rfl (lv_at hl 0 rfl) ?_
    refine lv_iconst (v := (-1)) hx hb dX13_prove_9 (by decide) ?_
    refine m_wr S hK hP hS (As := [.int (-1)]) (rest := []) (cM_says l D cI cJ ad Z _ hi (-1)) (cwV 1 hts gX13_prove_X13_says rfl rfl rfl (by decide +kernel) ⟨Nat.le_of_ble_eq_true rfl, Nat.le_of_ble_eq_true rfl⟩) rfl hl.1 rfl (Nat.le_of_ble_eq_true rfl) dX13_prove_10 ⟨Nat.zero_le _, Nat.zero_le _⟩ (fun H locs hP hS => ?_)
    have hsp : sp_prove Z ticket = ((-1), zR Z (-1)) := by unfold sp_prove; rw [if_pos c_1]
    exact W.iret hx hb hr (fun t2 ht2 hW => by rw [hsp]; exact ⟨rfl, by rw [ht2]; exact hP, hS.F ht2⟩) hS.2.2 dX13_prove_13 hlocks
def sp_out (Z : mZ) (ticket : Int32) (half : Int32) (item : Int32) : Int32 × mZ :=
  if (sp_isTicket Z ticket) = 0 then
    ((-1), zR Z (-1))
  else
    if item < 0 then
      ((-1), zR Z (-1))
    else
      if item < 6 then
        if (sp_isFree Z ticket) = 0 then
          ((-2), zR Z (-2))
        else
          if (tk Z (tN ticket) 19) = 2 then
            if (sh Z (tN (tk Z (tN ticket) 15)) (9 + tN item)) = 0 then
              ((-2), zR Z (-2))
            else
              if (sp_isClaimed Z ticket) = 0 then
                if (sp_isRight Z ticket half) = 0 then
                  ((-4), zR Z (-4))
                else
                  if (sp_items Z (tk Z (tN ticket) 15)) = 1 then
                    ((-6), zR Z (-6))
                  else
                    if ((sp_owed Z ticket).toInt64) ≤ ((((sp_worth Z (tk Z (tN ticket) 15)) - ((sh Z (tN (tk Z (tN ticket) 15)) (9 + tN item)).toInt64)) * ((zh Z 14).toInt64)) / 1000) then
                      (((sp_worth Z (tk Z (tN ticket) 15)) - ((sh Z (tN (tk Z (tN ticket) 15)) (9 + tN item)).toInt64)).toInt32, zR (sp_shown (tkp (shp Z (tN (tk Z (tN ticket) 15)) (9 + tN item) 0) (tN ticket) 20 (-1)) ticket half) (((sp_worth Z (tk Z (tN ticket) 15)) - ((sh Z (tN (tk Z (tN ticket) 15)) (9 + tN item)).toInt64)).toInt32))
                    else
                      ((-6), zR Z (-6))
              else
                ((-3), zR Z (-3))
          else
            ((-2), zR Z (-2))
      else
        ((-1), zR Z (-1))
set_option maxHeartbeats 4000000 in
set_option maxRecDepth 100000 in
theorem cM_out (l : Launch) (D : va_G) (cI cJ : ClassId) (ad : Nat → Nat) (Z : mZ) (sz : Nat) (hi : mI ad) (ticket : Int32) (half : Int32) (item : Int32) (hC : cok Z) (hpl : ¬ sp_isTicket Z ticket = 0 → pok (tk Z (tN ticket) 15)) : Met l yX13_out wsX13_out ({ frames := 3, cells := 0, slots := 0, locals := 64 }) (mPc [.ref (ad 0), .int ticket, .int half, .int item] D cI cJ ad Z sz) (mQ D cI cJ ad (some (.int (sp_out Z ticket half item).1)) (sp_out Z ticket half item).2 sz) 0 0 (mA ad sz) := by
  refine m_in (cc := cX13_out) (maxL := 7) (ret := (some .int)) (lv := [(0, .ref (ad 0)), (1, .int ticket), (2, .int half), (3, .int item)]) (by decide) rfl (Nat.le_of_ble_eq_true rfl) rfl ?_
  intro p e s m below meth c ls S hr hlocks hin hsz hP hK hl hS
  subst hsz
  obtain ⟨hx, hb, hml, hown, hts⟩ := id S
  refine lv_aload_n hx hb dX13_out_0 rfl (lv_at hl 0 rfl) ?_
  refine lv_iload_n hx hb dX13_out_1 rfl (lv_at hl 1 rfl) ?_
  refine m_rd S hK hP (As := [.int ticket]) (rest := []) (cM_isTicket l D cI cJ ad Z _ ticket ) (cwV 1 hts gX13_out_X13_isTicket rfl rfl rfl (by decide +kernel) ⟨Nat.le_of_ble_eq_true rfl, Nat.le_of_ble_eq_true rfl⟩) rfl hl.1 rfl (Nat.le_of_ble_eq_true rfl) dX13_out_2 ⟨Nat.zero_le _, Nat.zero_le _⟩ ?_
  refine lv_if_eq (tgt := 18) hx hb dX13_out_5 (by decide) (fun c_1 => ?_) (fun c_1 => ?_)
  · refine lv_aload_n hx hb dX13_out_18 rfl (lv_at hl 0 rfl) ?_
    refine lv_iconst (v := (-1)) hx hb dX13_out_19 (by decide) ?_
    refine m_wr S hK hP hS (As := [.int (-1)]) (rest := []) (cM_says l D cI cJ ad Z _ hi (-1)) (cwV 1 hts gX13_out_X13_says rfl rfl rfl (by decide +kernel) ⟨Nat.le_of_ble_eq_true rfl, Nat.le_of_ble_eq_true rfl⟩) rfl hl.1 rfl (Nat.le_of_ble_eq_true rfl) dX13_out_20 ⟨Nat.zero_le _, Nat.zero_le _⟩ (fun H locs hP hS => ?_)
    have hsp : sp_out Z ticket half item = ((-1), zR Z (-1)) := by unfold sp_out; rw [if_pos c_1]
    exact W.iret hx hb hr (fun t2 ht2 hW => by rw [hsp]; exact ⟨rfl, by rw [ht2]; exact hP, hS.F ht2⟩) hS.2.2 dX13_out_23 hlocks
  · refine lv_iload_n hx hb dX13_out_8 rfl (lv_at hl 3 rfl) ?_
    refine lv_if_lt (tgt := 18) hx hb dX13_out_9 (by decide) (fun c_2 => ?_) (fun c_2 => ?_)
    · refine lv_aload_n hx hb dX13_out_18 rfl (lv_at hl 0 rfl) ?_
      refine lv_iconst (v := (-1)) hx hb dX13_out_19 (by decide) ?_
      refine m_wr S hK hP hS (As := [.int (-1)]) (rest := []) (cM_says l D cI cJ ad Z _ hi (-1)) (cwV 1 hts gX13_out_X13_says rfl rfl rfl (by decide +kernel) ⟨Nat.le_of_ble_eq_true rfl, Nat.le_of_ble_eq_true rfl⟩) rfl hl.1 rfl (Nat.le_of_ble_eq_true rfl) dX13_out_20 ⟨Nat.zero_le _, Nat.zero_le _⟩ (fun H locs hP hS => ?_)
      have hsp : sp_out Z ticket half item = ((-1), zR Z (-1)) := by unfold sp_out; rw [if_neg c_1, if_pos c_2]
      exact W.iret hx hb hr (fun t2 ht2 hW => by rw [hsp]; exact ⟨rfl, by rw [ht2]; exact hP, hS.F ht2⟩) hS.2.2 dX13_out_23 hlocks
    · refine lv_iload_n hx hb dX13_out_12 rfl (lv_at hl 3 rfl) ?_
      refine lv_bipush (v := 6) hx hb dX13_out_13 (by decide) ?_
      refine lv_icmp_lt (tgt := 24) hx hb dX13_out_15 (by decide) (fun c_3 => ?_) (fun c_3 => ?_)
      · refine lv_aload_n hx hb dX13_out_24 rfl (lv_at hl 0 rfl) ?_
        refine lv_iload_n hx hb dX13_out_25 rfl (lv_at hl 1 rfl) ?_
        refine lv_bipush (v := 15) hx hb dX13_out_26 (by decide) ?_
        refine m_rd S hK hP (As := [.int ticket, .int 15]) (rest := []) (cM_of l D cI cJ ad Z _ ticket 15 (tok_of hC c_1) 15 rfl (by decide)) (cwV 2 hts gX13_out_X13_of rfl rfl rfl (by decide +kernel) ⟨Nat.le_of_ble_eq_true rfl, Nat.le_of_ble_eq_true rfl⟩) rfl hl.1 rfl (Nat.le_of_ble_eq_true rfl) dX13_out_28 ⟨Nat.zero_le _, Nat.zero_le _⟩ ?_
        refine lv_istore (lv' := [(4, .int (tk Z (tN ticket) 15)), (0, .ref (ad 0)), (1, .int ticket), (2, .int half), (3, .int item)]) hx hb dX13_out_31 hl (by decide) rfl (fun ls hl => ?_)
        refine lv_aload_n hx hb dX13_out_33 rfl (lv_at hl 1 rfl) ?_
        refine lv_iload_n hx hb dX13_out_34 rfl (lv_at hl 2 rfl) ?_
        refine m_rd S hK hP (As := [.int ticket]) (rest := []) (cM_isFree l D cI cJ ad Z _ ticket (tok_of hC c_1)) (cwV 1 hts gX13_out_X13_isFree rfl rfl rfl (by decide +kernel) ⟨Nat.le_of_ble_eq_true rfl, Nat.le_of_ble_eq_true rfl⟩) rfl hl.1 rfl (Nat.le_of_ble_eq_true rfl) dX13_out_35 ⟨Nat.zero_le _, Nat.zero_le _⟩ ?_
        refine lv_if_eq (tgt := 65) hx hb dX13_out_38 (by decide) (fun c_4 => ?_) (fun c_4 => ?_)
        · refine lv_aload_n hx hb dX13_out_65 rfl (lv_at hl 1 rfl) ?_
          refine lv_bipush (v := (-2)) hx hb dX13_out_66 (by decide) ?_
          refine m_wr S hK hP hS (As := [.int (-2)]) (rest := []) (cM_says l D cI cJ ad Z _ hi (-2)) (cwV 1 hts gX13_out_X13_says rfl rfl rfl (by decide +kernel) ⟨Nat.le_of_ble_eq_true rfl, Nat.le_of_ble_eq_true rfl⟩) rfl hl.1 rfl (Nat.le_of_ble_eq_true rfl) dX13_out_68 ⟨Nat.zero_le _, Nat.zero_le _⟩ (fun H locs hP hS => ?_)
          have hsp : sp_out Z ticket half item = ((-2), zR Z (-2)) := by unfold sp_out; rw [if_neg c_1, if_neg c_2, if_pos c_3, if_pos c_4]
          exact W.iret hx hb hr (fun t2 ht2 hW => by rw [hsp]; exact ⟨rfl, by rw [ht2]; exact hP, hS.F ht2⟩) hS.2.2 dX13_out_71 hlocks
        · refine lv_aload_n hx hb dX13_out_41 rfl (lv_at hl 1 rfl) ?_
          refine lv_iload_n hx hb dX13_out_42 rfl (lv_at hl 2 rfl) ?_
          refine lv_bipush (v := 19) hx hb dX13_out_43 (by decide) ?_
          refine m_rd S hK hP (As := [.int ticket, .int 19]) (rest := []) (cM_of l D cI cJ ad Z _ ticket 19 (tok_of hC c_1) 19 rfl (by decide)) (cwV 2 hts gX13_out_X13_of rfl rfl rfl (by decide +kernel) ⟨Nat.le_of_ble_eq_true rfl, Nat.le_of_ble_eq_true rfl⟩) rfl hl.1 rfl (Nat.le_of_ble_eq_true rfl) dX13_out_45 ⟨Nat.zero_le _, Nat.zero_le _⟩ ?_
          refine lv_iconst (v := 2) hx hb dX13_out_48 (by decide) ?_
          refine lv_icmp_ne (tgt := 65) hx hb dX13_out_49 (by decide) (fun c_5 => ?_) (fun c_5 => ?_)
          · refine lv_aload_n hx hb dX13_out_65 rfl (lv_at hl 1 rfl) ?_
            refine lv_bipush (v := (-2)) hx hb dX13_out_66 (by decide) ?_
            refine m_wr S hK hP hS (As := [.int (-2)]) (rest := []) (cM_says l D cI cJ ad Z _ hi (-2)) (cwV 1 hts gX13_out_X13_says rfl rfl rfl (by decide +kernel) ⟨Nat.le_of_ble_eq_true rfl, Nat.le_of_ble_eq_true rfl⟩) rfl hl.1 rfl (Nat.le_of_ble_eq_true rfl) dX13_out_68 ⟨Nat.zero_le _, Nat.zero_le _⟩ (fun H locs hP hS => ?_)
            have hsp : sp_out Z ticket half item = ((-2), zR Z (-2)) := by unfold sp_out; rw [if_neg c_1, if_neg c_2, if_pos c_3, if_neg c_4, if_neg c_5]
            exact W.iret hx hb hr (fun t2 ht2 hW => by rw [hsp]; exact ⟨rfl, by rw [ht2]; exact hP, hS.F ht2⟩) hS.2.2 dX13_out_71 hlocks
          · refine lv_aload_n hx hb dX13_out_52 rfl (lv_at hl 1 rfl) ?_
            refine lv_iload hx hb dX13_out_53 (lv_at hl 0 rfl) ?_
            refine lv_bipush (v := 9) hx hb dX13_out_55 (by decide) ?_
            refine lv_iload_n hx hb dX13_out_57 rfl (lv_at hl 4 rfl) ?_
            refine lv_iadd hx hb dX13_out_58 ?_
            refine m_rd S hK hP (As := [.int (tk Z (tN ticket) 15), .int (9 + item)]) (rest := []) (cM_at l D cI cJ ad Z _ (tk Z (tN ticket) 15) (9 + item) (hpl c_1) (9 + tN item) (ix_add rfl (iok_of (N := 6) rfl (by decide) c_2 (Int32.not_le.mpr c_3)).2) (by have := (iok_of (N := 6) rfl (by decide) c_2 (Int32.not_le.mpr c_3)).1; omega)) (cwV 2 hts gX13_out_X13_at rfl rfl rfl (by decide +kernel) ⟨Nat.le_of_ble_eq_true rfl, Nat.le_of_ble_eq_true rfl⟩) rfl hl.1 rfl (Nat.le_of_ble_eq_true rfl) dX13_out_59 ⟨Nat.zero_le _, Nat.zero_le _⟩ ?_
            refine lv_if_ne (tgt := 72) hx hb dX13_out_62 (by decide) (fun c_6 => ?_) (fun c_6 => ?_)
            · refine lv_aload_n hx hb dX13_out_72 rfl (lv_at hl 1 rfl) ?_
              refine lv_iload_n hx hb dX13_out_73 rfl (lv_at hl 2 rfl) ?_
              refine m_rd S hK hP (As := [.int ticket]) (rest := []) (cM_isClaimed l D cI cJ ad Z _ ticket (tok_of hC c_1)) (cwV 1 hts gX13_out_X13_isClaimed rfl rfl rfl (by decide +kernel) ⟨Nat.le_of_ble_eq_true rfl, Nat.le_of_ble_eq_true rfl⟩) rfl hl.1 rfl (Nat.le_of_ble_eq_true rfl) dX13_out_74 ⟨Nat.zero_le _, Nat.zero_le _⟩ ?_
              refine lv_if_eq (tgt := 87) hx hb dX13_out_77 (by decide) (fun c_7 => ?_) (fun c_7 => ?_)
              · refine lv_aload_n hx hb dX13_out_87 rfl (lv_at hl 1 rfl) ?_
                refine lv_iload_n hx hb dX13_out_88 rfl (lv_at hl 2 rfl) ?_
                refine lv_iload_n hx hb dX13_out_89 rfl (lv_at hl 3 rfl) ?_
                refine m_rd S hK hP (As := [.int ticket, .int half]) (rest := []) (cM_isRight l D cI cJ ad Z _ ticket half (tok_of hC c_1)) (cwV 2 hts gX13_out_X13_isRight rfl rfl rfl (by decide +kernel) ⟨Nat.le_of_ble_eq_true rfl, Nat.le_of_ble_eq_true rfl⟩) rfl hl.1 rfl (Nat.le_of_ble_eq_true rfl) dX13_out_90 ⟨Nat.zero_le _, Nat.zero_le _⟩ ?_
                refine lv_if_ne (tgt := 103) hx hb dX13_out_93 (by decide) (fun c_8 => ?_) (fun c_8 => ?_)
                · refine lv_aload_n hx hb dX13_out_103 rfl (lv_at hl 1 rfl) ?_
                  refine lv_iload hx hb dX13_out_104 (lv_at hl 0 rfl) ?_
                  refine m_rd S hK hP (As := [.int (tk Z (tN ticket) 15)]) (rest := []) (cM_worth l D cI cJ ad Z _ (tk Z (tN ticket) 15) (hpl c_1)) (cwV 1 hts gX13_out_X13_worth rfl rfl rfl (by decide +kernel) ⟨Nat.le_of_ble_eq_true rfl, Nat.le_of_ble_eq_true rfl⟩) rfl hl.1 rfl (Nat.le_of_ble_eq_true rfl) dX13_out_106 ⟨Nat.zero_le _, Nat.zero_le _⟩ ?_
                  refine lv_aload_n hx hb dX13_out_109 rfl (lv_at hl 1 rfl) ?_
                  refine lv_iload hx hb dX13_out_110 (lv_at hl 0 rfl) ?_
                  refine lv_bipush (v := 9) hx hb dX13_out_112 (by decide) ?_
                  refine lv_iload_n hx hb dX13_out_114 rfl (lv_at hl 4 rfl) ?_
                  refine lv_iadd hx hb dX13_out_115 ?_
                  refine m_rd S hK hP (As := [.int (tk Z (tN ticket) 15), .int (9 + item)]) (rest := [.long (sp_worth Z (tk Z (tN ticket) 15))]) (cM_at l D cI cJ ad Z _ (tk Z (tN ticket) 15) (9 + item) (hpl c_1) (9 + tN item) (ix_add rfl (iok_of (N := 6) rfl (by decide) c_2 (Int32.not_le.mpr c_3)).2) (by have := (iok_of (N := 6) rfl (by decide) c_2 (Int32.not_le.mpr c_3)).1; omega)) (cwV 2 hts gX13_out_X13_at rfl rfl rfl (by decide +kernel) ⟨Nat.le_of_ble_eq_true rfl, Nat.le_of_ble_eq_true rfl⟩) rfl hl.1 rfl (Nat.le_of_ble_eq_true rfl) dX13_out_116 ⟨Nat.zero_le _, Nat.zero_le _⟩ ?_
                  refine lv_i2l (v := (sh Z (tN (tk Z (tN ticket) 15)) (9 + tN item)).toInt64) hx hb dX13_out_119 rfl ?_
                  refine lv_lsub hx hb dX13_out_120 ?_
                  refine lv_lstore (lv' := [(5, .long ((sp_worth Z (tk Z (tN ticket) 15)) - ((sh Z (tN (tk Z (tN ticket) 15)) (9 + tN item)).toInt64))), (4, .int (tk Z (tN ticket) 15)), (0, .ref (ad 0)), (1, .int ticket), (2, .int half), (3, .int item)]) hx hb dX13_out_121 hl (by decide) rfl (fun ls hl => ?_)
                  refine lv_aload_n hx hb dX13_out_123 rfl (lv_at hl 2 rfl) ?_
                  refine lv_iload hx hb dX13_out_124 (lv_at hl 1 rfl) ?_
                  refine m_rd S hK hP (As := [.int (tk Z (tN ticket) 15)]) (rest := []) (cM_items l D cI cJ ad Z _ (tk Z (tN ticket) 15) (hpl c_1)) (cwV 1 hts gX13_out_X13_items rfl rfl rfl (by decide +kernel) ⟨Nat.le_of_ble_eq_true rfl, Nat.le_of_ble_eq_true rfl⟩) rfl hl.1 rfl (Nat.le_of_ble_eq_true rfl) dX13_out_126 ⟨Nat.zero_le _, Nat.zero_le _⟩ ?_
                  refine lv_iconst (v := 1) hx hb dX13_out_129 (by decide) ?_
                  refine lv_icmp_eq (tgt := 157) hx hb dX13_out_130 (by decide) (fun c_9 => ?_) (fun c_9 => ?_)
                  · refine lv_aload_n hx hb dX13_out_157 rfl (lv_at hl 2 rfl) ?_
                    refine lv_bipush (v := (-6)) hx hb dX13_out_158 (by decide) ?_
                    refine m_wr S hK hP hS (As := [.int (-6)]) (rest := []) (cM_says l D cI cJ ad Z _ hi (-6)) (cwV 1 hts gX13_out_X13_says rfl rfl rfl (by decide +kernel) ⟨Nat.le_of_ble_eq_true rfl, Nat.le_of_ble_eq_true rfl⟩) rfl hl.1 rfl (Nat.le_of_ble_eq_true rfl) dX13_out_160 ⟨Nat.zero_le _, Nat.zero_le _⟩ (fun H locs hP hS => ?_)
                    have hsp : sp_out Z ticket half item = ((-6), zR Z (-6)) := by unfold sp_out; rw [if_neg c_1, if_neg c_2, if_pos c_3, if_neg c_4, if_pos c_5, if_neg c_6, if_pos c_7, if_neg c_8, if_pos c_9]
                    exact W.iret hx hb hr (fun t2 ht2 hW => by rw [hsp]; exact ⟨rfl, by rw [ht2]; exact hP, hS.F ht2⟩) hS.2.2 dX13_out_163 hlocks
                  · refine lv_aload_n hx hb dX13_out_133 rfl (lv_at hl 2 rfl) ?_
                    refine lv_iload_n hx hb dX13_out_134 rfl (lv_at hl 3 rfl) ?_
                    refine m_rd S hK hP (As := [.int ticket]) (rest := []) (cM_owed l D cI cJ ad Z _ ticket (tok_of hC c_1)) (cwV 1 hts gX13_out_X13_owed rfl rfl rfl (by decide +kernel) ⟨Nat.le_of_ble_eq_true rfl, Nat.le_of_ble_eq_true rfl⟩) rfl hl.1 rfl (Nat.le_of_ble_eq_true rfl) dX13_out_135 ⟨Nat.zero_le _, Nat.zero_le _⟩ ?_
                    refine lv_i2l (v := (sp_owed Z ticket).toInt64) hx hb dX13_out_138 rfl ?_
                    refine lv_lload hx hb dX13_out_139 (lv_at hl 0 rfl) ?_
                    refine lv_aload_n hx hb dX13_out_141 rfl (lv_at hl 2 rfl) ?_
                    refine lv_bipush (v := 11) hx hb dX13_out_142 (by decide) ?_
                    refine m_rd S hK hP (As := [.int 11]) (rest := [.long ((sp_worth Z (tk Z (tN ticket) 15)) - ((sh Z (tN (tk Z (tN ticket) 15)) (9 + tN item)).toInt64)), .long ((sp_owed Z ticket).toInt64)]) (cM_ruleOf l D cI cJ ad Z _ 11 11 rfl (by decide)) (cwV 1 hts gX13_out_X13_ruleOf rfl rfl rfl (by decide +kernel) ⟨Nat.le_of_ble_eq_true rfl, Nat.le_of_ble_eq_true rfl⟩) rfl hl.1 rfl (Nat.le_of_ble_eq_true rfl) dX13_out_144 ⟨Nat.zero_le _, Nat.zero_le _⟩ ?_
                    refine lv_i2l (v := (zh Z 14).toInt64) hx hb dX13_out_147 rfl ?_
                    refine lv_lmul hx hb dX13_out_148 ?_
                    refine lv_ldc2 (v := 1000) hx hb hown (hts (.constantLong RX13 61 (1000)) (by decide +kernel)) dX13_out_149 ?_
                    refine lv_ldiv hx hb dX13_out_152 (by decide) ?_
                    refine W.lcmp hx hb dX13_out_153 ?_
                    refine lv_if_le (tgt := 164) hx hb dX13_out_154 (by decide) (fun c_10 => ?_) (fun c_10 => ?_)
                    · have c_10 := (lg_cmp_le _ _).mp c_10
                      refine lv_aload_n hx hb dX13_out_164 rfl (lv_at hl 2 rfl) ?_
                      refine lv_iload hx hb dX13_out_165 (lv_at hl 1 rfl) ?_
                      refine lv_bipush (v := 9) hx hb dX13_out_167 (by decide) ?_
                      refine lv_iload_n hx hb dX13_out_169 rfl (lv_at hl 5 rfl) ?_
                      refine lv_iadd hx hb dX13_out_170 ?_
                      refine lv_iconst (v := 0) hx hb dX13_out_171 (by decide) ?_
                      refine m_wv S hK hP hS (As := [.int (tk Z (tN ticket) 15), .int (9 + item), .int 0]) (rest := []) (cM_set l D cI cJ ad Z _ hi (tk Z (tN ticket) 15) (9 + item) 0 (hpl c_1) (9 + tN item) (ix_add rfl (iok_of (N := 6) rfl (by decide) c_2 (Int32.not_le.mpr c_3)).2) (by have := (iok_of (N := 6) rfl (by decide) c_2 (Int32.not_le.mpr c_3)).1; omega)) (cwV 3 hts gX13_out_X13_set rfl rfl rfl (by decide +kernel) ⟨Nat.le_of_ble_eq_true rfl, Nat.le_of_ble_eq_true rfl⟩) rfl hl.1 rfl (Nat.le_of_ble_eq_true rfl) dX13_out_172 ⟨Nat.zero_le _, Nat.zero_le _⟩ (fun H locs hP hS => ?_)
                      refine lv_aload_n hx hb dX13_out_175 rfl (lv_at hl 2 rfl) ?_
                      refine lv_iload_n hx hb dX13_out_176 rfl (lv_at hl 3 rfl) ?_
                      refine lv_bipush (v := 20) hx hb dX13_out_177 (by decide) ?_
                      refine lv_iconst (v := (-1)) hx hb dX13_out_179 (by decide) ?_
                      refine m_wv S hK hP hS (As := [.int ticket, .int 20, .int (-1)]) (rest := []) (cM_put l D cI cJ ad (shp Z (tN (tk Z (tN ticket) 15)) (9 + tN item) 0) _ hi ticket 20 (-1) (tok_of hC c_1) 20 rfl (by decide)) (cwV 3 hts gX13_out_X13_put rfl rfl rfl (by decide +kernel) ⟨Nat.le_of_ble_eq_true rfl, Nat.le_of_ble_eq_true rfl⟩) rfl hl.1 rfl (Nat.le_of_ble_eq_true rfl) dX13_out_180 ⟨Nat.zero_le _, Nat.zero_le _⟩ (fun H locs hP hS => ?_)
                      refine lv_aload_n hx hb dX13_out_183 rfl (lv_at hl 2 rfl) ?_
                      refine lv_iload_n hx hb dX13_out_184 rfl (lv_at hl 3 rfl) ?_
                      refine lv_iload_n hx hb dX13_out_185 rfl (lv_at hl 4 rfl) ?_
                      refine m_wv S hK hP hS (As := [.int ticket, .int half]) (rest := []) (cM_shown l D cI cJ ad (tkp (shp Z (tN (tk Z (tN ticket) 15)) (9 + tN item) 0) (tN ticket) 20 (-1)) _ hi ticket half (tok_of hC c_1)) (cwV 2 hts gX13_out_X13_shown rfl rfl rfl (by decide +kernel) ⟨Nat.le_of_ble_eq_true rfl, Nat.le_of_ble_eq_true rfl⟩) rfl hl.1 rfl (Nat.le_of_ble_eq_true rfl) dX13_out_186 ⟨Nat.zero_le _, Nat.zero_le _⟩ (fun H locs hP hS => ?_)
                      refine lv_aload_n hx hb dX13_out_189 rfl (lv_at hl 2 rfl) ?_
                      refine lv_lload hx hb dX13_out_190 (lv_at hl 0 rfl) ?_
                      refine lv_l2i (v := ((sp_worth Z (tk Z (tN ticket) 15)) - ((sh Z (tN (tk Z (tN ticket) 15)) (9 + tN item)).toInt64)).toInt32) hx hb dX13_out_192 rfl ?_
                      refine m_wr S hK hP hS (As := [.int (((sp_worth Z (tk Z (tN ticket) 15)) - ((sh Z (tN (tk Z (tN ticket) 15)) (9 + tN item)).toInt64)).toInt32)]) (rest := []) (cM_says l D cI cJ ad (sp_shown (tkp (shp Z (tN (tk Z (tN ticket) 15)) (9 + tN item) 0) (tN ticket) 20 (-1)) ticket half) _ hi (((sp_worth Z (tk Z (tN ticket) 15)) - ((sh Z (tN (tk Z (tN ticket) 15)) (9 + tN item)).toInt64)).toInt32)) (cwV 1 hts gX13_out_X13_says rfl rfl rfl (by decide +kernel) ⟨Nat.le_of_ble_eq_true rfl, Nat.le_of_ble_eq_true rfl⟩) rfl hl.1 rfl (Nat.le_of_ble_eq_true rfl) dX13_out_193 ⟨Nat.zero_le _, Nat.zero_le _⟩ (fun H locs hP hS => ?_)
                      have hsp : sp_out Z ticket half item = (((sp_worth Z (tk Z (tN ticket) 15)) - ((sh Z (tN (tk Z (tN ticket) 15)) (9 + tN item)).toInt64)).toInt32, zR (sp_shown (tkp (shp Z (tN (tk Z (tN ticket) 15)) (9 + tN item) 0) (tN ticket) 20 (-1)) ticket half) (((sp_worth Z (tk Z (tN ticket) 15)) - ((sh Z (tN (tk Z (tN ticket) 15)) (9 + tN item)).toInt64)).toInt32)) := by unfold sp_out; rw [if_neg c_1, if_neg c_2, if_pos c_3, if_neg c_4, if_pos c_5, if_neg c_6, if_pos c_7, if_neg c_8, if_neg c_9, if_pos c_10]
                      exact W.iret hx hb hr (fun t2 ht2 hW => by rw [hsp]; exact ⟨rfl, by rw [ht2]; exact hP, hS.F ht2⟩) hS.2.2 dX13_out_196 hlocks
                    · have c_10 : ¬ ((sp_owed Z ticket).toInt64) ≤ ((((sp_worth Z (tk Z (tN ticket) 15)) - ((sh Z (tN (tk Z (tN ticket) 15)) (9 + tN item)).toInt64)) * ((zh Z 14).toInt64)) / 1000) := fun h => c_10 ((lg_cmp_le _ _).mpr h)
                      refine lv_aload_n hx hb dX13_out_157 rfl (lv_at hl 2 rfl) ?_
                      refine lv_bipush (v := (-6)) hx hb dX13_out_158 (by decide) ?_
                      refine m_wr S hK hP hS (As := [.int (-6)]) (rest := []) (cM_says l D cI cJ ad Z _ hi (-6)) (cwV 1 hts gX13_out_X13_says rfl rfl rfl (by decide +kernel) ⟨Nat.le_of_ble_eq_true rfl, Nat.le_of_ble_eq_true rfl⟩) rfl hl.1 rfl (Nat.le_of_ble_eq_true rfl) dX13_out_160 ⟨Nat.zero_le _, Nat.zero_le _⟩ (fun H locs hP hS => ?_)
                      have hsp : sp_out Z ticket half item = ((-6), zR Z (-6)) := by unfold sp_out; rw [if_neg c_1, if_neg c_2, if_pos c_3, if_neg c_4, if_pos c_5, if_neg c_6, if_pos c_7, if_neg c_8, if_neg c_9, if_neg c_10]
                      exact W.iret hx hb hr (fun t2 ht2 hW => by rw [hsp]; exact ⟨rfl, by rw [ht2]; exact hP, hS.F ht2⟩) hS.2.2 dX13_out_163 hlocks
                · refine lv_aload_n hx hb dX13_out_96 rfl (lv_at hl 1 rfl) ?_
                  refine lv_bipush (v := (-4)) hx hb dX13_out_97 (by decide) ?_
                  refine m_wr S hK hP hS (As := [.int (-4)]) (rest := []) (cM_says l D cI cJ ad Z _ hi (-4)) (cwV 1 hts gX13_out_X13_says rfl rfl rfl (by decide +kernel) ⟨Nat.le_of_ble_eq_true rfl, Nat.le_of_ble_eq_true rfl⟩) rfl hl.1 rfl (Nat.le_of_ble_eq_true rfl) dX13_out_99 ⟨Nat.zero_le _, Nat.zero_le _⟩ (fun H locs hP hS => ?_)
                  have hsp : sp_out Z ticket half item = ((-4), zR Z (-4)) := by unfold sp_out; rw [if_neg c_1, if_neg c_2, if_pos c_3, if_neg c_4, if_pos c_5, if_neg c_6, if_pos c_7, if_pos c_8]
                  exact W.iret hx hb hr (fun t2 ht2 hW => by rw [hsp]; exact ⟨rfl, by rw [ht2]; exact hP, hS.F ht2⟩) hS.2.2 dX13_out_102 hlocks
              · refine lv_aload_n hx hb dX13_out_80 rfl (lv_at hl 1 rfl) ?_
                refine lv_bipush (v := (-3)) hx hb dX13_out_81 (by decide) ?_
                refine m_wr S hK hP hS (As := [.int (-3)]) (rest := []) (cM_says l D cI cJ ad Z _ hi (-3)) (cwV 1 hts gX13_out_X13_says rfl rfl rfl (by decide +kernel) ⟨Nat.le_of_ble_eq_true rfl, Nat.le_of_ble_eq_true rfl⟩) rfl hl.1 rfl (Nat.le_of_ble_eq_true rfl) dX13_out_83 ⟨Nat.zero_le _, Nat.zero_le _⟩ (fun H locs hP hS => ?_)
                have hsp : sp_out Z ticket half item = ((-3), zR Z (-3)) := by unfold sp_out; rw [if_neg c_1, if_neg c_2, if_pos c_3, if_neg c_4, if_pos c_5, if_neg c_6, if_neg c_7]
                exact W.iret hx hb hr (fun t2 ht2 hW => by rw [hsp]; exact ⟨rfl, by rw [ht2]; exact hP, hS.F ht2⟩) hS.2.2 dX13_out_86 hlocks
            · refine lv_aload_n hx hb dX13_out_65 rfl (lv_at hl 1 rfl) ?_
              refine lv_bipush (v := (-2)) hx hb dX13_out_66 (by decide) ?_
              refine m_wr S hK hP hS (As := [.int (-2)]) (rest := []) (cM_says l D cI cJ ad Z _ hi (-2)) (cwV 1 hts gX13_out_X13_says rfl rfl rfl (by decide +kernel) ⟨Nat.le_of_ble_eq_true rfl, Nat.le_of_ble_eq_true rfl⟩) rfl hl.1 rfl (Nat.le_of_ble_eq_true rfl) dX13_out_68 ⟨Nat.zero_le _, Nat.zero_le _⟩ (fun H locs hP hS => ?_)
              have hsp : sp_out Z ticket half item = ((-2), zR Z (-2)) := by unfold sp_out; rw [if_neg c_1, if_neg c_2, if_pos c_3, if_neg c_4, if_pos c_5, if_pos c_6]
              exact W.iret hx hb hr (fun t2 ht2 hW => by rw [hsp]; exact ⟨rfl, by rw [ht2]; exact hP, hS.F ht2⟩) hS.2.2 dX13_out_71 hlocks
      · refine lv_aload_n hx hb dX13_out_18 rfl (lv_at hl 0 rfl) ?_
        refine lv_iconst (v := (-1)) hx hb dX13_out_19 (by decide) ?_
        refine m_wr S hK hP hS (As := [.int (-1)]) (rest := []) (cM_says l D cI cJ ad Z _ hi (-1)) (cwV 1 hts gX13_out_X13_says rfl rfl rfl (by decide +kernel) ⟨Nat.le_of_ble_eq_true rfl, Nat.le_of_ble_eq_true rfl⟩) rfl hl.1 rfl (Nat.le_of_ble_eq_true rfl) dX13_out_20 ⟨Nat.zero_le _, Nat.zero_le _⟩ (fun H locs hP hS => ?_)
        have hsp : sp_out Z ticket half item = ((-1), zR Z (-1)) := by unfold sp_out; rw [if_neg c_1, if_neg c_2, if_neg c_3]
        exact W.iret hx hb hr (fun t2 ht2 hW => by rw [hsp]; exact ⟨rfl, by rw [ht2]; exact hP, hS.F ht2⟩) hS.2.2 dX13_out_23 hlocks
theorem pok_bare {Z : mZ} {p : Int32} (h : 0 ≤ sp_bare Z p) : pok p := by
  unfold sp_bare at h
  by_cases h1 : sp_isPlace p = 0
  · rw [if_pos h1] at h; exact absurd h (by decide)
  · exact pok_of h1
def sp_thing (Z : mZ) (place : Int32) (value : Int32) : Int32 × mZ :=
  if 0 ≤ (sp_bare Z place) then
    if (sp_isValue value) = 0 then
      ((-6), zR Z (-6))
    else
      (0, zR (shp (sp_comes Z place 0) (tN place) 2 value) 0)
  else
    (sp_bare Z place, zR Z (sp_bare Z place))
set_option maxHeartbeats 4000000 in
set_option maxRecDepth 100000 in
theorem cM_thing (l : Launch) (D : va_G) (cI cJ : ClassId) (ad : Nat → Nat) (Z : mZ) (sz : Nat) (hi : mI ad) (place : Int32) (value : Int32) : Met l yX13_thing wsX13_thing ({ frames := 2, cells := 0, slots := 0, locals := 46 }) (mPc [.ref (ad 0), .int place, .int value] D cI cJ ad Z sz) (mQ D cI cJ ad (some (.int (sp_thing Z place value).1)) (sp_thing Z place value).2 sz) 0 0 (mA ad sz) := by
  refine m_in (cc := cX13_thing) (maxL := 4) (ret := (some .int)) (lv := [(0, .ref (ad 0)), (1, .int place), (2, .int value)]) (by decide) rfl (Nat.le_of_ble_eq_true rfl) rfl ?_
  intro p e s m below meth c ls S hr hlocks hin hsz hP hK hl hS
  subst hsz
  obtain ⟨hx, hb, hml, hown, hts⟩ := id S
  refine lv_aload_n hx hb dX13_thing_0 rfl (lv_at hl 0 rfl) ?_
  refine lv_iload_n hx hb dX13_thing_1 rfl (lv_at hl 1 rfl) ?_
  refine m_rd S hK hP (As := [.int place]) (rest := []) (cM_bare l D cI cJ ad Z _ place ) (cwV 1 hts gX13_thing_X13_bare rfl rfl rfl (by decide +kernel) ⟨Nat.le_of_ble_eq_true rfl, Nat.le_of_ble_eq_true rfl⟩) rfl hl.1 rfl (Nat.le_of_ble_eq_true rfl) dX13_thing_2 ⟨Nat.zero_le _, Nat.zero_le _⟩ ?_
  refine lv_istore_n (lv' := [(3, .int (sp_bare Z place)), (0, .ref (ad 0)), (1, .int place), (2, .int value)]) hx hb dX13_thing_5 rfl hl (by decide) rfl (fun ls hl => ?_)
  refine lv_iload_n hx hb dX13_thing_6 rfl (lv_at hl 0 rfl) ?_
  refine lv_if_ge (tgt := 16) hx hb dX13_thing_7 (by decide) (fun c_1 => ?_) (fun c_1 => ?_)
  · refine lv_iload_n hx hb dX13_thing_16 rfl (lv_at hl 3 rfl) ?_
    refine m_st S (As := [.int value]) (rest := []) (cM_isValue l value ) (cwS 1 hts gX13_thing_X13_isValue rfl rfl rfl (by decide +kernel) ⟨Nat.le_of_ble_eq_true rfl, Nat.le_of_ble_eq_true rfl⟩) rfl hl.1 rfl (Nat.le_of_ble_eq_true rfl) dX13_thing_17 ⟨Nat.zero_le _, Nat.zero_le _⟩ ?_
    refine lv_if_ne (tgt := 30) hx hb dX13_thing_20 (by decide) (fun c_2 => ?_) (fun c_2 => ?_)
    · refine lv_aload_n hx hb dX13_thing_30 rfl (lv_at hl 1 rfl) ?_
      refine lv_iload_n hx hb dX13_thing_31 rfl (lv_at hl 2 rfl) ?_
      refine lv_iconst (v := 0) hx hb dX13_thing_32 (by decide) ?_
      refine m_wv S hK hP hS (As := [.int place, .int 0]) (rest := []) (cM_comes l D cI cJ ad Z _ hi place 0 (pok_bare c_1)) (cwV 2 hts gX13_thing_X13_comes rfl rfl rfl (by decide +kernel) ⟨Nat.le_of_ble_eq_true rfl, Nat.le_of_ble_eq_true rfl⟩) rfl hl.1 rfl (Nat.le_of_ble_eq_true rfl) dX13_thing_33 ⟨Nat.zero_le _, Nat.zero_le _⟩ (fun H locs hP hS => ?_)
      refine lv_aload_n hx hb dX13_thing_36 rfl (lv_at hl 1 rfl) ?_
      refine lv_iload_n hx hb dX13_thing_37 rfl (lv_at hl 2 rfl) ?_
      refine lv_iconst (v := 2) hx hb dX13_thing_38 (by decide) ?_
      refine lv_iload_n hx hb dX13_thing_39 rfl (lv_at hl 3 rfl) ?_
      refine m_wv S hK hP hS (As := [.int place, .int 2, .int value]) (rest := []) (cM_set l D cI cJ ad (sp_comes Z place 0) _ hi place 2 value (pok_bare c_1) 2 rfl (by decide)) (cwV 3 hts gX13_thing_X13_set rfl rfl rfl (by decide +kernel) ⟨Nat.le_of_ble_eq_true rfl, Nat.le_of_ble_eq_true rfl⟩) rfl hl.1 rfl (Nat.le_of_ble_eq_true rfl) dX13_thing_40 ⟨Nat.zero_le _, Nat.zero_le _⟩ (fun H locs hP hS => ?_)
      refine lv_aload_n hx hb dX13_thing_43 rfl (lv_at hl 1 rfl) ?_
      refine lv_iconst (v := 0) hx hb dX13_thing_44 (by decide) ?_
      refine m_wr S hK hP hS (As := [.int 0]) (rest := []) (cM_says l D cI cJ ad (shp (sp_comes Z place 0) (tN place) 2 value) _ hi 0) (cwV 1 hts gX13_thing_X13_says rfl rfl rfl (by decide +kernel) ⟨Nat.le_of_ble_eq_true rfl, Nat.le_of_ble_eq_true rfl⟩) rfl hl.1 rfl (Nat.le_of_ble_eq_true rfl) dX13_thing_45 ⟨Nat.zero_le _, Nat.zero_le _⟩ (fun H locs hP hS => ?_)
      have hsp : sp_thing Z place value = (0, zR (shp (sp_comes Z place 0) (tN place) 2 value) 0) := by unfold sp_thing; rw [if_pos c_1, if_neg c_2]
      exact W.iret hx hb hr (fun t2 ht2 hW => by rw [hsp]; exact ⟨rfl, by rw [ht2]; exact hP, hS.F ht2⟩) hS.2.2 dX13_thing_48 hlocks
    · refine lv_aload_n hx hb dX13_thing_23 rfl (lv_at hl 1 rfl) ?_
      refine lv_bipush (v := (-6)) hx hb dX13_thing_24 (by decide) ?_
      refine m_wr S hK hP hS (As := [.int (-6)]) (rest := []) (cM_says l D cI cJ ad Z _ hi (-6)) (cwV 1 hts gX13_thing_X13_says rfl rfl rfl (by decide +kernel) ⟨Nat.le_of_ble_eq_true rfl, Nat.le_of_ble_eq_true rfl⟩) rfl hl.1 rfl (Nat.le_of_ble_eq_true rfl) dX13_thing_26 ⟨Nat.zero_le _, Nat.zero_le _⟩ (fun H locs hP hS => ?_)
      have hsp : sp_thing Z place value = ((-6), zR Z (-6)) := by unfold sp_thing; rw [if_pos c_1, if_pos c_2]
      exact W.iret hx hb hr (fun t2 ht2 hW => by rw [hsp]; exact ⟨rfl, by rw [ht2]; exact hP, hS.F ht2⟩) hS.2.2 dX13_thing_29 hlocks
  · refine lv_aload_n hx hb dX13_thing_10 rfl (lv_at hl 1 rfl) ?_
    refine lv_iload_n hx hb dX13_thing_11 rfl (lv_at hl 0 rfl) ?_
    refine m_wr S hK hP hS (As := [.int (sp_bare Z place)]) (rest := []) (cM_says l D cI cJ ad Z _ hi (sp_bare Z place)) (cwV 1 hts gX13_thing_X13_says rfl rfl rfl (by decide +kernel) ⟨Nat.le_of_ble_eq_true rfl, Nat.le_of_ble_eq_true rfl⟩) rfl hl.1 rfl (Nat.le_of_ble_eq_true rfl) dX13_thing_12 ⟨Nat.zero_le _, Nat.zero_le _⟩ (fun H locs hP hS => ?_)
    have hsp : sp_thing Z place value = (sp_bare Z place, zR Z (sp_bare Z place)) := by unfold sp_thing; rw [if_neg c_1]
    exact W.iret hx hb hr (fun t2 ht2 hW => by rw [hsp]; exact ⟨rfl, by rw [ht2]; exact hP, hS.F ht2⟩) hS.2.2 dX13_thing_15 hlocks
def sp_coat (Z : mZ) (place : Int32) (value : Int32) (wear : Int32) : Int32 × mZ :=
  if 0 ≤ (sp_bare Z place) then
    if (sp_isValue value) = 0 then
      ((-6), zR Z (-6))
    else
      if wear < 0 then
        ((-6), zR Z (-6))
      else
        if wear ≤ 500 then
          (0, zR (shp (shp (sp_comes Z place 3) (tN place) 2 value) (tN place) 4 wear) 0)
        else
          ((-6), zR Z (-6))
  else
    (sp_bare Z place, zR Z (sp_bare Z place))
set_option maxHeartbeats 4000000 in
set_option maxRecDepth 100000 in
theorem cM_coat (l : Launch) (D : va_G) (cI cJ : ClassId) (ad : Nat → Nat) (Z : mZ) (sz : Nat) (hi : mI ad) (place : Int32) (value : Int32) (wear : Int32) : Met l yX13_coat wsX13_coat ({ frames := 2, cells := 0, slots := 0, locals := 46 }) (mPc [.ref (ad 0), .int place, .int value, .int wear] D cI cJ ad Z sz) (mQ D cI cJ ad (some (.int (sp_coat Z place value wear).1)) (sp_coat Z place value wear).2 sz) 0 0 (mA ad sz) := by
  refine m_in (cc := cX13_coat) (maxL := 5) (ret := (some .int)) (lv := [(0, .ref (ad 0)), (1, .int place), (2, .int value), (3, .int wear)]) (by decide) rfl (Nat.le_of_ble_eq_true rfl) rfl ?_
  intro p e s m below meth c ls S hr hlocks hin hsz hP hK hl hS
  subst hsz
  obtain ⟨hx, hb, hml, hown, hts⟩ := id S
  refine lv_aload_n hx hb dX13_coat_0 rfl (lv_at hl 0 rfl) ?_
  refine lv_iload_n hx hb dX13_coat_1 rfl (lv_at hl 1 rfl) ?_
  refine m_rd S hK hP (As := [.int place]) (rest := []) (cM_bare l D cI cJ ad Z _ place ) (cwV 1 hts gX13_coat_X13_bare rfl rfl rfl (by decide +kernel) ⟨Nat.le_of_ble_eq_true rfl, Nat.le_of_ble_eq_true rfl⟩) rfl hl.1 rfl (Nat.le_of_ble_eq_true rfl) dX13_coat_2 ⟨Nat.zero_le _, Nat.zero_le _⟩ ?_
  refine lv_istore (lv' := [(4, .int (sp_bare Z place)), (0, .ref (ad 0)), (1, .int place), (2, .int value), (3, .int wear)]) hx hb dX13_coat_5 hl (by decide) rfl (fun ls hl => ?_)
  refine lv_iload hx hb dX13_coat_7 (lv_at hl 0 rfl) ?_
  refine lv_if_ge (tgt := 19) hx hb dX13_coat_9 (by decide) (fun c_1 => ?_) (fun c_1 => ?_)
  · refine lv_iload_n hx hb dX13_coat_19 rfl (lv_at hl 3 rfl) ?_
    refine m_st S (As := [.int value]) (rest := []) (cM_isValue l value ) (cwS 1 hts gX13_coat_X13_isValue rfl rfl rfl (by decide +kernel) ⟨Nat.le_of_ble_eq_true rfl, Nat.le_of_ble_eq_true rfl⟩) rfl hl.1 rfl (Nat.le_of_ble_eq_true rfl) dX13_coat_20 ⟨Nat.zero_le _, Nat.zero_le _⟩ ?_
    refine lv_if_eq (tgt := 37) hx hb dX13_coat_23 (by decide) (fun c_2 => ?_) (fun c_2 => ?_)
    · refine lv_aload_n hx hb dX13_coat_37 rfl (lv_at hl 1 rfl) ?_
      refine lv_bipush (v := (-6)) hx hb dX13_coat_38 (by decide) ?_
      refine m_wr S hK hP hS (As := [.int (-6)]) (rest := []) (cM_says l D cI cJ ad Z _ hi (-6)) (cwV 1 hts gX13_coat_X13_says rfl rfl rfl (by decide +kernel) ⟨Nat.le_of_ble_eq_true rfl, Nat.le_of_ble_eq_true rfl⟩) rfl hl.1 rfl (Nat.le_of_ble_eq_true rfl) dX13_coat_40 ⟨Nat.zero_le _, Nat.zero_le _⟩ (fun H locs hP hS => ?_)
      have hsp : sp_coat Z place value wear = ((-6), zR Z (-6)) := by unfold sp_coat; rw [if_pos c_1, if_pos c_2]
      exact W.iret hx hb hr (fun t2 ht2 hW => by rw [hsp]; exact ⟨rfl, by rw [ht2]; exact hP, hS.F ht2⟩) hS.2.2 dX13_coat_43 hlocks
    · refine lv_iload_n hx hb dX13_coat_26 rfl (lv_at hl 4 rfl) ?_
      refine lv_if_lt (tgt := 37) hx hb dX13_coat_27 (by decide) (fun c_3 => ?_) (fun c_3 => ?_)
      · refine lv_aload_n hx hb dX13_coat_37 rfl (lv_at hl 1 rfl) ?_
        refine lv_bipush (v := (-6)) hx hb dX13_coat_38 (by decide) ?_
        refine m_wr S hK hP hS (As := [.int (-6)]) (rest := []) (cM_says l D cI cJ ad Z _ hi (-6)) (cwV 1 hts gX13_coat_X13_says rfl rfl rfl (by decide +kernel) ⟨Nat.le_of_ble_eq_true rfl, Nat.le_of_ble_eq_true rfl⟩) rfl hl.1 rfl (Nat.le_of_ble_eq_true rfl) dX13_coat_40 ⟨Nat.zero_le _, Nat.zero_le _⟩ (fun H locs hP hS => ?_)
        have hsp : sp_coat Z place value wear = ((-6), zR Z (-6)) := by unfold sp_coat; rw [if_pos c_1, if_neg c_2, if_pos c_3]
        exact W.iret hx hb hr (fun t2 ht2 hW => by rw [hsp]; exact ⟨rfl, by rw [ht2]; exact hP, hS.F ht2⟩) hS.2.2 dX13_coat_43 hlocks
      · refine lv_iload_n hx hb dX13_coat_30 rfl (lv_at hl 4 rfl) ?_
        refine lv_sipush (v := 500) hx hb dX13_coat_31 (by decide) ?_
        refine lv_icmp_le (tgt := 44) hx hb dX13_coat_34 (by decide) (fun c_4 => ?_) (fun c_4 => ?_)
        · refine lv_aload_n hx hb dX13_coat_44 rfl (lv_at hl 1 rfl) ?_
          refine lv_iload_n hx hb dX13_coat_45 rfl (lv_at hl 2 rfl) ?_
          refine lv_iconst (v := 3) hx hb dX13_coat_46 (by decide) ?_
          refine m_wv S hK hP hS (As := [.int place, .int 3]) (rest := []) (cM_comes l D cI cJ ad Z _ hi place 3 (pok_bare c_1)) (cwV 2 hts gX13_coat_X13_comes rfl rfl rfl (by decide +kernel) ⟨Nat.le_of_ble_eq_true rfl, Nat.le_of_ble_eq_true rfl⟩) rfl hl.1 rfl (Nat.le_of_ble_eq_true rfl) dX13_coat_47 ⟨Nat.zero_le _, Nat.zero_le _⟩ (fun H locs hP hS => ?_)
          refine lv_aload_n hx hb dX13_coat_50 rfl (lv_at hl 1 rfl) ?_
          refine lv_iload_n hx hb dX13_coat_51 rfl (lv_at hl 2 rfl) ?_
          refine lv_iconst (v := 2) hx hb dX13_coat_52 (by decide) ?_
          refine lv_iload_n hx hb dX13_coat_53 rfl (lv_at hl 3 rfl) ?_
          refine m_wv S hK hP hS (As := [.int place, .int 2, .int value]) (rest := []) (cM_set l D cI cJ ad (sp_comes Z place 3) _ hi place 2 value (pok_bare c_1) 2 rfl (by decide)) (cwV 3 hts gX13_coat_X13_set rfl rfl rfl (by decide +kernel) ⟨Nat.le_of_ble_eq_true rfl, Nat.le_of_ble_eq_true rfl⟩) rfl hl.1 rfl (Nat.le_of_ble_eq_true rfl) dX13_coat_54 ⟨Nat.zero_le _, Nat.zero_le _⟩ (fun H locs hP hS => ?_)
          refine lv_aload_n hx hb dX13_coat_57 rfl (lv_at hl 1 rfl) ?_
          refine lv_iload_n hx hb dX13_coat_58 rfl (lv_at hl 2 rfl) ?_
          refine lv_iconst (v := 4) hx hb dX13_coat_59 (by decide) ?_
          refine lv_iload_n hx hb dX13_coat_60 rfl (lv_at hl 4 rfl) ?_
          refine m_wv S hK hP hS (As := [.int place, .int 4, .int wear]) (rest := []) (cM_set l D cI cJ ad (shp (sp_comes Z place 3) (tN place) 2 value) _ hi place 4 wear (pok_bare c_1) 4 rfl (by decide)) (cwV 3 hts gX13_coat_X13_set rfl rfl rfl (by decide +kernel) ⟨Nat.le_of_ble_eq_true rfl, Nat.le_of_ble_eq_true rfl⟩) rfl hl.1 rfl (Nat.le_of_ble_eq_true rfl) dX13_coat_61 ⟨Nat.zero_le _, Nat.zero_le _⟩ (fun H locs hP hS => ?_)
          refine lv_aload_n hx hb dX13_coat_64 rfl (lv_at hl 1 rfl) ?_
          refine lv_iconst (v := 0) hx hb dX13_coat_65 (by decide) ?_
          refine m_wr S hK hP hS (As := [.int 0]) (rest := []) (cM_says l D cI cJ ad (shp (shp (sp_comes Z place 3) (tN place) 2 value) (tN place) 4 wear) _ hi 0) (cwV 1 hts gX13_coat_X13_says rfl rfl rfl (by decide +kernel) ⟨Nat.le_of_ble_eq_true rfl, Nat.le_of_ble_eq_true rfl⟩) rfl hl.1 rfl (Nat.le_of_ble_eq_true rfl) dX13_coat_66 ⟨Nat.zero_le _, Nat.zero_le _⟩ (fun H locs hP hS => ?_)
          have hsp : sp_coat Z place value wear = (0, zR (shp (shp (sp_comes Z place 3) (tN place) 2 value) (tN place) 4 wear) 0) := by unfold sp_coat; rw [if_pos c_1, if_neg c_2, if_neg c_3, if_pos c_4]
          exact W.iret hx hb hr (fun t2 ht2 hW => by rw [hsp]; exact ⟨rfl, by rw [ht2]; exact hP, hS.F ht2⟩) hS.2.2 dX13_coat_69 hlocks
        · refine lv_aload_n hx hb dX13_coat_37 rfl (lv_at hl 1 rfl) ?_
          refine lv_bipush (v := (-6)) hx hb dX13_coat_38 (by decide) ?_
          refine m_wr S hK hP hS (As := [.int (-6)]) (rest := []) (cM_says l D cI cJ ad Z _ hi (-6)) (cwV 1 hts gX13_coat_X13_says rfl rfl rfl (by decide +kernel) ⟨Nat.le_of_ble_eq_true rfl, Nat.le_of_ble_eq_true rfl⟩) rfl hl.1 rfl (Nat.le_of_ble_eq_true rfl) dX13_coat_40 ⟨Nat.zero_le _, Nat.zero_le _⟩ (fun H locs hP hS => ?_)
          have hsp : sp_coat Z place value wear = ((-6), zR Z (-6)) := by unfold sp_coat; rw [if_pos c_1, if_neg c_2, if_neg c_3, if_neg c_4]
          exact W.iret hx hb hr (fun t2 ht2 hW => by rw [hsp]; exact ⟨rfl, by rw [ht2]; exact hP, hS.F ht2⟩) hS.2.2 dX13_coat_43 hlocks
  · refine lv_aload_n hx hb dX13_coat_12 rfl (lv_at hl 1 rfl) ?_
    refine lv_iload hx hb dX13_coat_13 (lv_at hl 0 rfl) ?_
    refine m_wr S hK hP hS (As := [.int (sp_bare Z place)]) (rest := []) (cM_says l D cI cJ ad Z _ hi (sp_bare Z place)) (cwV 1 hts gX13_coat_X13_says rfl rfl rfl (by decide +kernel) ⟨Nat.le_of_ble_eq_true rfl, Nat.le_of_ble_eq_true rfl⟩) rfl hl.1 rfl (Nat.le_of_ble_eq_true rfl) dX13_coat_15 ⟨Nat.zero_le _, Nat.zero_le _⟩ (fun H locs hP hS => ?_)
    have hsp : sp_coat Z place value wear = (sp_bare Z place, zR Z (sp_bare Z place)) := by unfold sp_coat; rw [if_neg c_1]
    exact W.iret hx hb hr (fun t2 ht2 hW => by rw [hsp]; exact ⟨rfl, by rw [ht2]; exact hP, hS.F ht2⟩) hS.2.2 dX13_coat_18 hlocks
def sp_second (Z : mZ) (place : Int32) (value : Int32) : Int32 × mZ :=
  if (sp_isPlace place) = 0 then
    ((-1), zR Z (-1))
  else
    if (sh Z (tN place) 0) = 4 then
      if (sh Z (tN place) 1) ≤ 0 then
        if (sp_isValue value) = 0 then
          ((-6), zR Z (-6))
        else
          ((sh Z (tN place) 8) + 1, zR (shp (shp (shp Z (tN place) 3 (sh Z (tN place) 2)) (tN place) 2 value) (tN place) 8 ((sh Z (tN place) 8) + 1)) ((sh Z (tN place) 8) + 1))
      else
        ((-2), zR Z (-2))
    else
      ((-2), zR Z (-2))
set_option maxHeartbeats 4000000 in
set_option maxRecDepth 100000 in
theorem cM_second (l : Launch) (D : va_G) (cI cJ : ClassId) (ad : Nat → Nat) (Z : mZ) (sz : Nat) (hi : mI ad) (place : Int32) (value : Int32) : Met l yX13_second wsX13_second ({ frames := 1, cells := 0, slots := 0, locals := 23 }) (mPc [.ref (ad 0), .int place, .int value] D cI cJ ad Z sz) (mQ D cI cJ ad (some (.int (sp_second Z place value).1)) (sp_second Z place value).2 sz) 0 0 (mA ad sz) := by
  refine m_in (cc := cX13_second) (maxL := 3) (ret := (some .int)) (lv := [(0, .ref (ad 0)), (1, .int place), (2, .int value)]) (by decide) rfl (Nat.le_of_ble_eq_true rfl) rfl ?_
  intro p e s m below meth c ls S hr hlocks hin hsz hP hK hl hS
  subst hsz
  obtain ⟨hx, hb, hml, hown, hts⟩ := id S
  refine lv_iload_n hx hb dX13_second_0 rfl (lv_at hl 1 rfl) ?_
  refine m_st S (As := [.int place]) (rest := []) (cM_isPlace l place ) (cwS 1 hts gX13_second_X13_isPlace rfl rfl rfl (by decide +kernel) ⟨Nat.le_of_ble_eq_true rfl, Nat.le_of_ble_eq_true rfl⟩) rfl hl.1 rfl (Nat.le_of_ble_eq_true rfl) dX13_second_1 ⟨Nat.zero_le _, Nat.zero_le _⟩ ?_
  refine lv_if_ne (tgt := 13) hx hb dX13_second_4 (by decide) (fun c_1 => ?_) (fun c_1 => ?_)
  · refine lv_aload_n hx hb dX13_second_13 rfl (lv_at hl 0 rfl) ?_
    refine lv_iload_n hx hb dX13_second_14 rfl (lv_at hl 1 rfl) ?_
    refine lv_iconst (v := 0) hx hb dX13_second_15 (by decide) ?_
    refine m_rd S hK hP (As := [.int place, .int 0]) (rest := []) (cM_at l D cI cJ ad Z _ place 0 (pok_of c_1) 0 rfl (by decide)) (cwV 2 hts gX13_second_X13_at rfl rfl rfl (by decide +kernel) ⟨Nat.le_of_ble_eq_true rfl, Nat.le_of_ble_eq_true rfl⟩) rfl hl.1 rfl (Nat.le_of_ble_eq_true rfl) dX13_second_16 ⟨Nat.zero_le _, Nat.zero_le _⟩ ?_
    refine lv_iconst (v := 4) hx hb dX13_second_19 (by decide) ?_
    refine lv_icmp_ne (tgt := 32) hx hb dX13_second_20 (by decide) (fun c_2 => ?_) (fun c_2 => ?_)
    · refine lv_aload_n hx hb dX13_second_32 rfl (lv_at hl 0 rfl) ?_
      refine lv_bipush (v := (-2)) hx hb dX13_second_33 (by decide) ?_
      refine m_wr S hK hP hS (As := [.int (-2)]) (rest := []) (cM_says l D cI cJ ad Z _ hi (-2)) (cwV 1 hts gX13_second_X13_says rfl rfl rfl (by decide +kernel) ⟨Nat.le_of_ble_eq_true rfl, Nat.le_of_ble_eq_true rfl⟩) rfl hl.1 rfl (Nat.le_of_ble_eq_true rfl) dX13_second_35 ⟨Nat.zero_le _, Nat.zero_le _⟩ (fun H locs hP hS => ?_)
      have hsp : sp_second Z place value = ((-2), zR Z (-2)) := by unfold sp_second; rw [if_neg c_1, if_neg c_2]
      exact W.iret hx hb hr (fun t2 ht2 hW => by rw [hsp]; exact ⟨rfl, by rw [ht2]; exact hP, hS.F ht2⟩) hS.2.2 dX13_second_38 hlocks
    · refine lv_aload_n hx hb dX13_second_23 rfl (lv_at hl 0 rfl) ?_
      refine lv_iload_n hx hb dX13_second_24 rfl (lv_at hl 1 rfl) ?_
      refine lv_iconst (v := 1) hx hb dX13_second_25 (by decide) ?_
      refine m_rd S hK hP (As := [.int place, .int 1]) (rest := []) (cM_at l D cI cJ ad Z _ place 1 (pok_of c_1) 1 rfl (by decide)) (cwV 2 hts gX13_second_X13_at rfl rfl rfl (by decide +kernel) ⟨Nat.le_of_ble_eq_true rfl, Nat.le_of_ble_eq_true rfl⟩) rfl hl.1 rfl (Nat.le_of_ble_eq_true rfl) dX13_second_26 ⟨Nat.zero_le _, Nat.zero_le _⟩ ?_
      refine lv_if_le (tgt := 39) hx hb dX13_second_29 (by decide) (fun c_3 => ?_) (fun c_3 => ?_)
      · refine lv_iload_n hx hb dX13_second_39 rfl (lv_at hl 2 rfl) ?_
        refine m_st S (As := [.int value]) (rest := []) (cM_isValue l value ) (cwS 1 hts gX13_second_X13_isValue rfl rfl rfl (by decide +kernel) ⟨Nat.le_of_ble_eq_true rfl, Nat.le_of_ble_eq_true rfl⟩) rfl hl.1 rfl (Nat.le_of_ble_eq_true rfl) dX13_second_40 ⟨Nat.zero_le _, Nat.zero_le _⟩ ?_
        refine lv_if_ne (tgt := 53) hx hb dX13_second_43 (by decide) (fun c_4 => ?_) (fun c_4 => ?_)
        · refine lv_aload_n hx hb dX13_second_53 rfl (lv_at hl 0 rfl) ?_
          refine lv_iload_n hx hb dX13_second_54 rfl (lv_at hl 1 rfl) ?_
          refine lv_iconst (v := 3) hx hb dX13_second_55 (by decide) ?_
          refine lv_aload_n hx hb dX13_second_56 rfl (lv_at hl 0 rfl) ?_
          refine lv_iload_n hx hb dX13_second_57 rfl (lv_at hl 1 rfl) ?_
          refine lv_iconst (v := 2) hx hb dX13_second_58 (by decide) ?_
          refine m_rd S hK hP (As := [.int place, .int 2]) (rest := [.int 3, .int place, .ref (ad 0)]) (cM_at l D cI cJ ad Z _ place 2 (pok_of c_1) 2 rfl (by decide)) (cwV 2 hts gX13_second_X13_at rfl rfl rfl (by decide +kernel) ⟨Nat.le_of_ble_eq_true rfl, Nat.le_of_ble_eq_true rfl⟩) rfl hl.1 rfl (Nat.le_of_ble_eq_true rfl) dX13_second_59 ⟨Nat.zero_le _, Nat.zero_le _⟩ ?_
          refine m_wv S hK hP hS (As := [.int place, .int 3, .int (sh Z (tN place) 2)]) (rest := []) (cM_set l D cI cJ ad Z _ hi place 3 (sh Z (tN place) 2) (pok_of c_1) 3 rfl (by decide)) (cwV 3 hts gX13_second_X13_set rfl rfl rfl (by decide +kernel) ⟨Nat.le_of_ble_eq_true rfl, Nat.le_of_ble_eq_true rfl⟩) rfl hl.1 rfl (Nat.le_of_ble_eq_true rfl) dX13_second_62 ⟨Nat.zero_le _, Nat.zero_le _⟩ (fun H locs hP hS => ?_)
          refine lv_aload_n hx hb dX13_second_65 rfl (lv_at hl 0 rfl) ?_
          refine lv_iload_n hx hb dX13_second_66 rfl (lv_at hl 1 rfl) ?_
          refine lv_iconst (v := 2) hx hb dX13_second_67 (by decide) ?_
          refine lv_iload_n hx hb dX13_second_68 rfl (lv_at hl 2 rfl) ?_
          refine m_wv S hK hP hS (As := [.int place, .int 2, .int value]) (rest := []) (cM_set l D cI cJ ad (shp Z (tN place) 3 (sh Z (tN place) 2)) _ hi place 2 value (pok_of c_1) 2 rfl (by decide)) (cwV 3 hts gX13_second_X13_set rfl rfl rfl (by decide +kernel) ⟨Nat.le_of_ble_eq_true rfl, Nat.le_of_ble_eq_true rfl⟩) rfl hl.1 rfl (Nat.le_of_ble_eq_true rfl) dX13_second_69 ⟨Nat.zero_le _, Nat.zero_le _⟩ (fun H locs hP hS => ?_)
          refine lv_aload_n hx hb dX13_second_72 rfl (lv_at hl 0 rfl) ?_
          refine lv_iload_n hx hb dX13_second_73 rfl (lv_at hl 1 rfl) ?_
          refine lv_bipush (v := 8) hx hb dX13_second_74 (by decide) ?_
          refine lv_aload_n hx hb dX13_second_76 rfl (lv_at hl 0 rfl) ?_
          refine lv_iload_n hx hb dX13_second_77 rfl (lv_at hl 1 rfl) ?_
          refine lv_bipush (v := 8) hx hb dX13_second_78 (by decide) ?_
          refine m_rd S hK hP (As := [.int place, .int 8]) (rest := [.int 8, .int place, .ref (ad 0)]) (met_r (show sh (shp (shp Z (tN place) 3 (sh Z (tN place) 2)) (tN place) 2 value) (tN place) 8 = sh Z (tN place) 8 from ((sh_ne (by decide)).trans (sh_ne (by decide)))) (cM_at l D cI cJ ad (shp (shp Z (tN place) 3 (sh Z (tN place) 2)) (tN place) 2 value) _ place 8 (pok_of c_1) 8 rfl (by decide))) (cwV 2 hts gX13_second_X13_at rfl rfl rfl (by decide +kernel) ⟨Nat.le_of_ble_eq_true rfl, Nat.le_of_ble_eq_true rfl⟩) rfl hl.1 rfl (Nat.le_of_ble_eq_true rfl) dX13_second_80 ⟨Nat.zero_le _, Nat.zero_le _⟩ ?_
          refine lv_iconst (v := 1) hx hb dX13_second_83 (by decide) ?_
          refine lv_iadd hx hb dX13_second_84 ?_
          refine m_wv S hK hP hS (As := [.int place, .int 8, .int ((sh Z (tN place) 8) + 1)]) (rest := []) (cM_set l D cI cJ ad (shp (shp Z (tN place) 3 (sh Z (tN place) 2)) (tN place) 2 value) _ hi place 8 ((sh Z (tN place) 8) + 1) (pok_of c_1) 8 rfl (by decide)) (cwV 3 hts gX13_second_X13_set rfl rfl rfl (by decide +kernel) ⟨Nat.le_of_ble_eq_true rfl, Nat.le_of_ble_eq_true rfl⟩) rfl hl.1 rfl (Nat.le_of_ble_eq_true rfl) dX13_second_85 ⟨Nat.zero_le _, Nat.zero_le _⟩ (fun H locs hP hS => ?_)
          refine lv_aload_n hx hb dX13_second_88 rfl (lv_at hl 0 rfl) ?_
          refine lv_aload_n hx hb dX13_second_89 rfl (lv_at hl 0 rfl) ?_
          refine lv_iload_n hx hb dX13_second_90 rfl (lv_at hl 1 rfl) ?_
          refine lv_bipush (v := 8) hx hb dX13_second_91 (by decide) ?_
          refine m_rd S hK hP (As := [.int place, .int 8]) (rest := [.ref (ad 0)]) (met_r (show sh (shp (shp (shp Z (tN place) 3 (sh Z (tN place) 2)) (tN place) 2 value) (tN place) 8 ((sh Z (tN place) 8) + 1)) (tN place) 8 = (sh Z (tN place) 8) + 1 from sh_eq) (cM_at l D cI cJ ad (shp (shp (shp Z (tN place) 3 (sh Z (tN place) 2)) (tN place) 2 value) (tN place) 8 ((sh Z (tN place) 8) + 1)) _ place 8 (pok_of c_1) 8 rfl (by decide))) (cwV 2 hts gX13_second_X13_at rfl rfl rfl (by decide +kernel) ⟨Nat.le_of_ble_eq_true rfl, Nat.le_of_ble_eq_true rfl⟩) rfl hl.1 rfl (Nat.le_of_ble_eq_true rfl) dX13_second_93 ⟨Nat.zero_le _, Nat.zero_le _⟩ ?_
          refine m_wr S hK hP hS (As := [.int ((sh Z (tN place) 8) + 1)]) (rest := []) (cM_says l D cI cJ ad (shp (shp (shp Z (tN place) 3 (sh Z (tN place) 2)) (tN place) 2 value) (tN place) 8 ((sh Z (tN place) 8) + 1)) _ hi ((sh Z (tN place) 8) + 1)) (cwV 1 hts gX13_second_X13_says rfl rfl rfl (by decide +kernel) ⟨Nat.le_of_ble_eq_true rfl, Nat.le_of_ble_eq_true rfl⟩) rfl hl.1 rfl (Nat.le_of_ble_eq_true rfl) dX13_second_96 ⟨Nat.zero_le _, Nat.zero_le _⟩ (fun H locs hP hS => ?_)
          have hsp : sp_second Z place value = ((sh Z (tN place) 8) + 1, zR (shp (shp (shp Z (tN place) 3 (sh Z (tN place) 2)) (tN place) 2 value) (tN place) 8 ((sh Z (tN place) 8) + 1)) ((sh Z (tN place) 8) + 1)) := by unfold sp_second; rw [if_neg c_1, if_pos c_2, if_pos c_3, if_neg c_4]
          exact W.iret hx hb hr (fun t2 ht2 hW => by rw [hsp]; exact ⟨rfl, by rw [ht2]; exact hP, hS.F ht2⟩) hS.2.2 dX13_second_99 hlocks
        · refine lv_aload_n hx hb dX13_second_46 rfl (lv_at hl 0 rfl) ?_
          refine lv_bipush (v := (-6)) hx hb dX13_second_47 (by decide) ?_
          refine m_wr S hK hP hS (As := [.int (-6)]) (rest := []) (cM_says l D cI cJ ad Z _ hi (-6)) (cwV 1 hts gX13_second_X13_says rfl rfl rfl (by decide +kernel) ⟨Nat.le_of_ble_eq_true rfl, Nat.le_of_ble_eq_true rfl⟩) rfl hl.1 rfl (Nat.le_of_ble_eq_true rfl) dX13_second_49 ⟨Nat.zero_le _, Nat.zero_le _⟩ (fun H locs hP hS => ?_)
          have hsp : sp_second Z place value = ((-6), zR Z (-6)) := by unfold sp_second; rw [if_neg c_1, if_pos c_2, if_pos c_3, if_pos c_4]
          exact W.iret hx hb hr (fun t2 ht2 hW => by rw [hsp]; exact ⟨rfl, by rw [ht2]; exact hP, hS.F ht2⟩) hS.2.2 dX13_second_52 hlocks
      · refine lv_aload_n hx hb dX13_second_32 rfl (lv_at hl 0 rfl) ?_
        refine lv_bipush (v := (-2)) hx hb dX13_second_33 (by decide) ?_
        refine m_wr S hK hP hS (As := [.int (-2)]) (rest := []) (cM_says l D cI cJ ad Z _ hi (-2)) (cwV 1 hts gX13_second_X13_says rfl rfl rfl (by decide +kernel) ⟨Nat.le_of_ble_eq_true rfl, Nat.le_of_ble_eq_true rfl⟩) rfl hl.1 rfl (Nat.le_of_ble_eq_true rfl) dX13_second_35 ⟨Nat.zero_le _, Nat.zero_le _⟩ (fun H locs hP hS => ?_)
        have hsp : sp_second Z place value = ((-2), zR Z (-2)) := by unfold sp_second; rw [if_neg c_1, if_pos c_2, if_neg c_3]
        exact W.iret hx hb hr (fun t2 ht2 hW => by rw [hsp]; exact ⟨rfl, by rw [ht2]; exact hP, hS.F ht2⟩) hS.2.2 dX13_second_38 hlocks
  · refine lv_aload_n hx hb dX13_second_7 rfl (lv_at hl 0 rfl) ?_
    refine lv_iconst (v := (-1)) hx hb dX13_second_8 (by decide) ?_
    refine m_wr S hK hP hS (As := [.int (-1)]) (rest := []) (cM_says l D cI cJ ad Z _ hi (-1)) (cwV 1 hts gX13_second_X13_says rfl rfl rfl (by decide +kernel) ⟨Nat.le_of_ble_eq_true rfl, Nat.le_of_ble_eq_true rfl⟩) rfl hl.1 rfl (Nat.le_of_ble_eq_true rfl) dX13_second_9 ⟨Nat.zero_le _, Nat.zero_le _⟩ (fun H locs hP hS => ?_)
    have hsp : sp_second Z place value = ((-1), zR Z (-1)) := by unfold sp_second; rw [if_pos c_1]
    exact W.iret hx hb hr (fun t2 ht2 hW => by rw [hsp]; exact ⟨rfl, by rw [ht2]; exact hP, hS.F ht2⟩) hS.2.2 dX13_second_12 hlocks
def sp_box (Z : mZ) (place : Int32) : Int32 × mZ :=
  if (sp_isPlace place) = 0 then
    ((-1), zR Z (-1))
  else
    if (sh Z (tN place) 0) = (-1) then
      if (sh Z (tN place) 0) = (-1) then
        if (sh Z (tN place) 0) = (-1) then
          (1, zR (sp_comes Z place 5) 1)
        else
          (0, zR (sp_comes Z place 5) 0)
      else
        if (sh Z (tN place) 0) = (-1) then
          (1, zR (sp_leaves Z place) 1)
        else
          (0, zR (sp_leaves Z place) 0)
    else
      if (sh Z (tN place) 0) = 5 then
        if (sh Z (tN place) 0) = (-1) then
          if (sh Z (tN place) 0) = (-1) then
            (1, zR (sp_comes Z place 5) 1)
          else
            (0, zR (sp_comes Z place 5) 0)
        else
          if (sh Z (tN place) 0) = (-1) then
            (1, zR (sp_leaves Z place) 1)
          else
            (0, zR (sp_leaves Z place) 0)
      else
        ((-2), zR Z (-2))
set_option maxHeartbeats 4000000 in
set_option maxRecDepth 100000 in
theorem cM_box (l : Launch) (D : va_G) (cI cJ : ClassId) (ad : Nat → Nat) (Z : mZ) (sz : Nat) (hi : mI ad) (place : Int32) : Met l yX13_box wsX13_box ({ frames := 3, cells := 0, slots := 0, locals := 67 }) (mPc [.ref (ad 0), .int place] D cI cJ ad Z sz) (mQ D cI cJ ad (some (.int (sp_box Z place).1)) (sp_box Z place).2 sz) 0 0 (mA ad sz) := by
  refine m_in (cc := cX13_box) (maxL := 3) (ret := (some .int)) (lv := [(0, .ref (ad 0)), (1, .int place)]) (by decide) rfl (Nat.le_of_ble_eq_true rfl) rfl ?_
  intro p e s m below meth c ls S hr hlocks hin hsz hP hK hl hS
  subst hsz
  obtain ⟨hx, hb, hml, hown, hts⟩ := id S
  refine lv_iload_n hx hb dX13_box_0 rfl (lv_at hl 1 rfl) ?_
  refine m_st S (As := [.int place]) (rest := []) (cM_isPlace l place ) (cwS 1 hts gX13_box_X13_isPlace rfl rfl rfl (by decide +kernel) ⟨Nat.le_of_ble_eq_true rfl, Nat.le_of_ble_eq_true rfl⟩) rfl hl.1 rfl (Nat.le_of_ble_eq_true rfl) dX13_box_1 ⟨Nat.zero_le _, Nat.zero_le _⟩ ?_
  refine lv_if_ne (tgt := 13) hx hb dX13_box_4 (by decide) (fun c_1 => ?_) (fun c_1 => ?_)
  · refine lv_aload_n hx hb dX13_box_13 rfl (lv_at hl 0 rfl) ?_
    refine lv_iload_n hx hb dX13_box_14 rfl (lv_at hl 1 rfl) ?_
    refine lv_iconst (v := 0) hx hb dX13_box_15 (by decide) ?_
    refine m_rd S hK hP (As := [.int place, .int 0]) (rest := []) (cM_at l D cI cJ ad Z _ place 0 (pok_of c_1) 0 rfl (by decide)) (cwV 2 hts gX13_box_X13_at rfl rfl rfl (by decide +kernel) ⟨Nat.le_of_ble_eq_true rfl, Nat.le_of_ble_eq_true rfl⟩) rfl hl.1 rfl (Nat.le_of_ble_eq_true rfl) dX13_box_16 ⟨Nat.zero_le _, Nat.zero_le _⟩ ?_
    refine lv_istore_n (lv' := [(2, .int (sh Z (tN place) 0)), (0, .ref (ad 0)), (1, .int place)]) hx hb dX13_box_19 rfl hl (by decide) rfl (fun ls hl => ?_)
    refine lv_iload_n hx hb dX13_box_20 rfl (lv_at hl 0 rfl) ?_
    refine lv_iconst (v := (-1)) hx hb dX13_box_21 (by decide) ?_
    refine lv_icmp_eq (tgt := 37) hx hb dX13_box_22 (by decide) (fun c_2 => ?_) (fun c_2 => ?_)
    · refine lv_iload_n hx hb dX13_box_37 rfl (lv_at hl 0 rfl) ?_
      refine lv_iconst (v := (-1)) hx hb dX13_box_38 (by decide) ?_
      refine lv_icmp_ne (tgt := 51) hx hb dX13_box_39 (by decide) (fun c_3 => ?_) (fun c_3 => ?_)
      · refine lv_aload_n hx hb dX13_box_51 rfl (lv_at hl 1 rfl) ?_
        refine lv_iload_n hx hb dX13_box_52 rfl (lv_at hl 2 rfl) ?_
        refine m_wv S hK hP hS (As := [.int place]) (rest := []) (cM_leaves l D cI cJ ad Z _ hi place (pok_of c_1)) (cwV 1 hts gX13_box_X13_leaves rfl rfl rfl (by decide +kernel) ⟨Nat.le_of_ble_eq_true rfl, Nat.le_of_ble_eq_true rfl⟩) rfl hl.1 rfl (Nat.le_of_ble_eq_true rfl) dX13_box_53 ⟨Nat.zero_le _, Nat.zero_le _⟩ (fun H locs hP hS => ?_)
        refine lv_aload_n hx hb dX13_box_56 rfl (lv_at hl 1 rfl) ?_
        refine lv_iload_n hx hb dX13_box_57 rfl (lv_at hl 0 rfl) ?_
        refine lv_iconst (v := (-1)) hx hb dX13_box_58 (by decide) ?_
        refine lv_icmp_ne (tgt := 66) hx hb dX13_box_59 (by decide) (fun c_4 => ?_) (fun c_4 => ?_)
        · refine lv_iconst (v := 0) hx hb dX13_box_66 (by decide) ?_
          refine m_wr S hK hP hS (As := [.int 0]) (rest := []) (cM_says l D cI cJ ad (sp_leaves Z place) _ hi 0) (cwV 1 hts gX13_box_X13_says rfl rfl rfl (by decide +kernel) ⟨Nat.le_of_ble_eq_true rfl, Nat.le_of_ble_eq_true rfl⟩) rfl hl.1 rfl (Nat.le_of_ble_eq_true rfl) dX13_box_67 ⟨Nat.zero_le _, Nat.zero_le _⟩ (fun H locs hP hS => ?_)
          have hsp : sp_box Z place = (0, zR (sp_leaves Z place) 0) := by unfold sp_box; rw [if_neg c_1, if_pos c_2, if_neg c_3, if_neg c_4]
          exact W.iret hx hb hr (fun t2 ht2 hW => by rw [hsp]; exact ⟨rfl, by rw [ht2]; exact hP, hS.F ht2⟩) hS.2.2 dX13_box_70 hlocks
        · refine lv_iconst (v := 1) hx hb dX13_box_62 (by decide) ?_
          refine lv_goto (tgt := 67) hx hb dX13_box_63 (by decide) ?_
          refine m_wr S hK hP hS (As := [.int 1]) (rest := []) (cM_says l D cI cJ ad (sp_leaves Z place) _ hi 1) (cwV 1 hts gX13_box_X13_says rfl rfl rfl (by decide +kernel) ⟨Nat.le_of_ble_eq_true rfl, Nat.le_of_ble_eq_true rfl⟩) rfl hl.1 rfl (Nat.le_of_ble_eq_true rfl) dX13_box_67 ⟨Nat.zero_le _, Nat.zero_le _⟩ (fun H locs hP hS => ?_)
          have hsp : sp_box Z place = (1, zR (sp_leaves Z place) 1) := by unfold sp_box; rw [if_neg c_1, if_pos c_2, if_neg c_3, if_pos c_4]
          exact W.iret hx hb hr (fun t2 ht2 hW => by rw [hsp]; exact ⟨rfl, by rw [ht2]; exact hP, hS.F ht2⟩) hS.2.2 dX13_box_70 hlocks
      · refine lv_aload_n hx hb dX13_box_42 rfl (lv_at hl 1 rfl) ?_
        refine lv_iload_n hx hb dX13_box_43 rfl (lv_at hl 2 rfl) ?_
        refine lv_iconst (v := 5) hx hb dX13_box_44 (by decide) ?_
        refine m_wv S hK hP hS (As := [.int place, .int 5]) (rest := []) (cM_comes l D cI cJ ad Z _ hi place 5 (pok_of c_1)) (cwV 2 hts gX13_box_X13_comes rfl rfl rfl (by decide +kernel) ⟨Nat.le_of_ble_eq_true rfl, Nat.le_of_ble_eq_true rfl⟩) rfl hl.1 rfl (Nat.le_of_ble_eq_true rfl) dX13_box_45 ⟨Nat.zero_le _, Nat.zero_le _⟩ (fun H locs hP hS => ?_)
        refine lv_goto (tgt := 56) hx hb dX13_box_48 (by decide) ?_
        refine lv_aload_n hx hb dX13_box_56 rfl (lv_at hl 1 rfl) ?_
        refine lv_iload_n hx hb dX13_box_57 rfl (lv_at hl 0 rfl) ?_
        refine lv_iconst (v := (-1)) hx hb dX13_box_58 (by decide) ?_
        refine lv_icmp_ne (tgt := 66) hx hb dX13_box_59 (by decide) (fun c_5 => ?_) (fun c_5 => ?_)
        · refine lv_iconst (v := 0) hx hb dX13_box_66 (by decide) ?_
          refine m_wr S hK hP hS (As := [.int 0]) (rest := []) (cM_says l D cI cJ ad (sp_comes Z place 5) _ hi 0) (cwV 1 hts gX13_box_X13_says rfl rfl rfl (by decide +kernel) ⟨Nat.le_of_ble_eq_true rfl, Nat.le_of_ble_eq_true rfl⟩) rfl hl.1 rfl (Nat.le_of_ble_eq_true rfl) dX13_box_67 ⟨Nat.zero_le _, Nat.zero_le _⟩ (fun H locs hP hS => ?_)
          have hsp : sp_box Z place = (0, zR (sp_comes Z place 5) 0) := by unfold sp_box; rw [if_neg c_1, if_pos c_2, if_pos c_3, if_neg c_5]
          exact W.iret hx hb hr (fun t2 ht2 hW => by rw [hsp]; exact ⟨rfl, by rw [ht2]; exact hP, hS.F ht2⟩) hS.2.2 dX13_box_70 hlocks
        · refine lv_iconst (v := 1) hx hb dX13_box_62 (by decide) ?_
          refine lv_goto (tgt := 67) hx hb dX13_box_63 (by decide) ?_
          refine m_wr S hK hP hS (As := [.int 1]) (rest := []) (cM_says l D cI cJ ad (sp_comes Z place 5) _ hi 1) (cwV 1 hts gX13_box_X13_says rfl rfl rfl (by decide +kernel) ⟨Nat.le_of_ble_eq_true rfl, Nat.le_of_ble_eq_true rfl⟩) rfl hl.1 rfl (Nat.le_of_ble_eq_true rfl) dX13_box_67 ⟨Nat.zero_le _, Nat.zero_le _⟩ (fun H locs hP hS => ?_)
          have hsp : sp_box Z place = (1, zR (sp_comes Z place 5) 1) := by unfold sp_box; rw [if_neg c_1, if_pos c_2, if_pos c_3, if_pos c_5]
          exact W.iret hx hb hr (fun t2 ht2 hW => by rw [hsp]; exact ⟨rfl, by rw [ht2]; exact hP, hS.F ht2⟩) hS.2.2 dX13_box_70 hlocks
    · refine lv_iload_n hx hb dX13_box_25 rfl (lv_at hl 0 rfl) ?_
      refine lv_iconst (v := 5) hx hb dX13_box_26 (by decide) ?_
      refine lv_icmp_eq (tgt := 37) hx hb dX13_box_27 (by decide) (fun c_6 => ?_) (fun c_6 => ?_)
      · refine lv_iload_n hx hb dX13_box_37 rfl (lv_at hl 0 rfl) ?_
        refine lv_iconst (v := (-1)) hx hb dX13_box_38 (by decide) ?_
        refine lv_icmp_ne (tgt := 51) hx hb dX13_box_39 (by decide) (fun c_7 => ?_) (fun c_7 => ?_)
        · refine lv_aload_n hx hb dX13_box_51 rfl (lv_at hl 1 rfl) ?_
          refine lv_iload_n hx hb dX13_box_52 rfl (lv_at hl 2 rfl) ?_
          refine m_wv S hK hP hS (As := [.int place]) (rest := []) (cM_leaves l D cI cJ ad Z _ hi place (pok_of c_1)) (cwV 1 hts gX13_box_X13_leaves rfl rfl rfl (by decide +kernel) ⟨Nat.le_of_ble_eq_true rfl, Nat.le_of_ble_eq_true rfl⟩) rfl hl.1 rfl (Nat.le_of_ble_eq_true rfl) dX13_box_53 ⟨Nat.zero_le _, Nat.zero_le _⟩ (fun H locs hP hS => ?_)
          refine lv_aload_n hx hb dX13_box_56 rfl (lv_at hl 1 rfl) ?_
          refine lv_iload_n hx hb dX13_box_57 rfl (lv_at hl 0 rfl) ?_
          refine lv_iconst (v := (-1)) hx hb dX13_box_58 (by decide) ?_
          refine lv_icmp_ne (tgt := 66) hx hb dX13_box_59 (by decide) (fun c_8 => ?_) (fun c_8 => ?_)
          · refine lv_iconst (v := 0) hx hb dX13_box_66 (by decide) ?_
            refine m_wr S hK hP hS (As := [.int 0]) (rest := []) (cM_says l D cI cJ ad (sp_leaves Z place) _ hi 0) (cwV 1 hts gX13_box_X13_says rfl rfl rfl (by decide +kernel) ⟨Nat.le_of_ble_eq_true rfl, Nat.le_of_ble_eq_true rfl⟩) rfl hl.1 rfl (Nat.le_of_ble_eq_true rfl) dX13_box_67 ⟨Nat.zero_le _, Nat.zero_le _⟩ (fun H locs hP hS => ?_)
            have hsp : sp_box Z place = (0, zR (sp_leaves Z place) 0) := by unfold sp_box; rw [if_neg c_1, if_neg c_2, if_pos c_6, if_neg c_7, if_neg c_8]
            exact W.iret hx hb hr (fun t2 ht2 hW => by rw [hsp]; exact ⟨rfl, by rw [ht2]; exact hP, hS.F ht2⟩) hS.2.2 dX13_box_70 hlocks
          · refine lv_iconst (v := 1) hx hb dX13_box_62 (by decide) ?_
            refine lv_goto (tgt := 67) hx hb dX13_box_63 (by decide) ?_
            refine m_wr S hK hP hS (As := [.int 1]) (rest := []) (cM_says l D cI cJ ad (sp_leaves Z place) _ hi 1) (cwV 1 hts gX13_box_X13_says rfl rfl rfl (by decide +kernel) ⟨Nat.le_of_ble_eq_true rfl, Nat.le_of_ble_eq_true rfl⟩) rfl hl.1 rfl (Nat.le_of_ble_eq_true rfl) dX13_box_67 ⟨Nat.zero_le _, Nat.zero_le _⟩ (fun H locs hP hS => ?_)
            have hsp : sp_box Z place = (1, zR (sp_leaves Z place) 1) := by unfold sp_box; rw [if_neg c_1, if_neg c_2, if_pos c_6, if_neg c_7, if_pos c_8]
            exact W.iret hx hb hr (fun t2 ht2 hW => by rw [hsp]; exact ⟨rfl, by rw [ht2]; exact hP, hS.F ht2⟩) hS.2.2 dX13_box_70 hlocks
        · refine lv_aload_n hx hb dX13_box_42 rfl (lv_at hl 1 rfl) ?_
          refine lv_iload_n hx hb dX13_box_43 rfl (lv_at hl 2 rfl) ?_
          refine lv_iconst (v := 5) hx hb dX13_box_44 (by decide) ?_
          refine m_wv S hK hP hS (As := [.int place, .int 5]) (rest := []) (cM_comes l D cI cJ ad Z _ hi place 5 (pok_of c_1)) (cwV 2 hts gX13_box_X13_comes rfl rfl rfl (by decide +kernel) ⟨Nat.le_of_ble_eq_true rfl, Nat.le_of_ble_eq_true rfl⟩) rfl hl.1 rfl (Nat.le_of_ble_eq_true rfl) dX13_box_45 ⟨Nat.zero_le _, Nat.zero_le _⟩ (fun H locs hP hS => ?_)
          refine lv_goto (tgt := 56) hx hb dX13_box_48 (by decide) ?_
          refine lv_aload_n hx hb dX13_box_56 rfl (lv_at hl 1 rfl) ?_
          refine lv_iload_n hx hb dX13_box_57 rfl (lv_at hl 0 rfl) ?_
          refine lv_iconst (v := (-1)) hx hb dX13_box_58 (by decide) ?_
          refine lv_icmp_ne (tgt := 66) hx hb dX13_box_59 (by decide) (fun c_9 => ?_) (fun c_9 => ?_)
          · refine lv_iconst (v := 0) hx hb dX13_box_66 (by decide) ?_
            refine m_wr S hK hP hS (As := [.int 0]) (rest := []) (cM_says l D cI cJ ad (sp_comes Z place 5) _ hi 0) (cwV 1 hts gX13_box_X13_says rfl rfl rfl (by decide +kernel) ⟨Nat.le_of_ble_eq_true rfl, Nat.le_of_ble_eq_true rfl⟩) rfl hl.1 rfl (Nat.le_of_ble_eq_true rfl) dX13_box_67 ⟨Nat.zero_le _, Nat.zero_le _⟩ (fun H locs hP hS => ?_)
            have hsp : sp_box Z place = (0, zR (sp_comes Z place 5) 0) := by unfold sp_box; rw [if_neg c_1, if_neg c_2, if_pos c_6, if_pos c_7, if_neg c_9]
            exact W.iret hx hb hr (fun t2 ht2 hW => by rw [hsp]; exact ⟨rfl, by rw [ht2]; exact hP, hS.F ht2⟩) hS.2.2 dX13_box_70 hlocks
          · refine lv_iconst (v := 1) hx hb dX13_box_62 (by decide) ?_
            refine lv_goto (tgt := 67) hx hb dX13_box_63 (by decide) ?_
            refine m_wr S hK hP hS (As := [.int 1]) (rest := []) (cM_says l D cI cJ ad (sp_comes Z place 5) _ hi 1) (cwV 1 hts gX13_box_X13_says rfl rfl rfl (by decide +kernel) ⟨Nat.le_of_ble_eq_true rfl, Nat.le_of_ble_eq_true rfl⟩) rfl hl.1 rfl (Nat.le_of_ble_eq_true rfl) dX13_box_67 ⟨Nat.zero_le _, Nat.zero_le _⟩ (fun H locs hP hS => ?_)
            have hsp : sp_box Z place = (1, zR (sp_comes Z place 5) 1) := by unfold sp_box; rw [if_neg c_1, if_neg c_2, if_pos c_6, if_pos c_7, if_pos c_9]
            exact W.iret hx hb hr (fun t2 ht2 hW => by rw [hsp]; exact ⟨rfl, by rw [ht2]; exact hP, hS.F ht2⟩) hS.2.2 dX13_box_70 hlocks
      · refine lv_aload_n hx hb dX13_box_30 rfl (lv_at hl 1 rfl) ?_
        refine lv_bipush (v := (-2)) hx hb dX13_box_31 (by decide) ?_
        refine m_wr S hK hP hS (As := [.int (-2)]) (rest := []) (cM_says l D cI cJ ad Z _ hi (-2)) (cwV 1 hts gX13_box_X13_says rfl rfl rfl (by decide +kernel) ⟨Nat.le_of_ble_eq_true rfl, Nat.le_of_ble_eq_true rfl⟩) rfl hl.1 rfl (Nat.le_of_ble_eq_true rfl) dX13_box_33 ⟨Nat.zero_le _, Nat.zero_le _⟩ (fun H locs hP hS => ?_)
        have hsp : sp_box Z place = ((-2), zR Z (-2)) := by unfold sp_box; rw [if_neg c_1, if_neg c_2, if_neg c_6]
        exact W.iret hx hb hr (fun t2 ht2 hW => by rw [hsp]; exact ⟨rfl, by rw [ht2]; exact hP, hS.F ht2⟩) hS.2.2 dX13_box_36 hlocks
  · refine lv_aload_n hx hb dX13_box_7 rfl (lv_at hl 0 rfl) ?_
    refine lv_iconst (v := (-1)) hx hb dX13_box_8 (by decide) ?_
    refine m_wr S hK hP hS (As := [.int (-1)]) (rest := []) (cM_says l D cI cJ ad Z _ hi (-1)) (cwV 1 hts gX13_box_X13_says rfl rfl rfl (by decide +kernel) ⟨Nat.le_of_ble_eq_true rfl, Nat.le_of_ble_eq_true rfl⟩) rfl hl.1 rfl (Nat.le_of_ble_eq_true rfl) dX13_box_9 ⟨Nat.zero_le _, Nat.zero_le _⟩ (fun H locs hP hS => ?_)
    have hsp : sp_box Z place = ((-1), zR Z (-1)) := by unfold sp_box; rw [if_pos c_1]
    exact W.iret hx hb hr (fun t2 ht2 hW => by rw [hsp]; exact ⟨rfl, by rw [ht2]; exact hP, hS.F ht2⟩) hS.2.2 dX13_box_12 hlocks
def sp_away (Z : mZ) (place : Int32) : Int32 × mZ :=
  if (sp_isPlace place) = 0 then
    ((-1), zR Z (-1))
  else
    if (sp_isPledge Z place) = 0 then
      ((-2), zR Z (-2))
    else
      if (sh Z (tN place) 1) ≤ 0 then
        (0, zR (sp_leaves Z place) 0)
      else
        ((-2), zR Z (-2))
set_option maxHeartbeats 4000000 in
set_option maxRecDepth 100000 in
theorem cM_away (l : Launch) (D : va_G) (cI cJ : ClassId) (ad : Nat → Nat) (Z : mZ) (sz : Nat) (hi : mI ad) (place : Int32) : Met l yX13_away wsX13_away ({ frames := 3, cells := 0, slots := 0, locals := 67 }) (mPc [.ref (ad 0), .int place] D cI cJ ad Z sz) (mQ D cI cJ ad (some (.int (sp_away Z place).1)) (sp_away Z place).2 sz) 0 0 (mA ad sz) := by
  refine m_in (cc := cX13_away) (maxL := 2) (ret := (some .int)) (lv := [(0, .ref (ad 0)), (1, .int place)]) (by decide) rfl (Nat.le_of_ble_eq_true rfl) rfl ?_
  intro p e s m below meth c ls S hr hlocks hin hsz hP hK hl hS
  subst hsz
  obtain ⟨hx, hb, hml, hown, hts⟩ := id S
  refine lv_iload_n hx hb dX13_away_0 rfl (lv_at hl 1 rfl) ?_
  refine m_st S (As := [.int place]) (rest := []) (cM_isPlace l place ) (cwS 1 hts gX13_away_X13_isPlace rfl rfl rfl (by decide +kernel) ⟨Nat.le_of_ble_eq_true rfl, Nat.le_of_ble_eq_true rfl⟩) rfl hl.1 rfl (Nat.le_of_ble_eq_true rfl) dX13_away_1 ⟨Nat.zero_le _, Nat.zero_le _⟩ ?_
  refine lv_if_ne (tgt := 13) hx hb dX13_away_4 (by decide) (fun c_1 => ?_) (fun c_1 => ?_)
  · refine lv_aload_n hx hb dX13_away_13 rfl (lv_at hl 0 rfl) ?_
    refine lv_iload_n hx hb dX13_away_14 rfl (lv_at hl 1 rfl) ?_
    refine m_rd S hK hP (As := [.int place]) (rest := []) (cM_isPledge l D cI cJ ad Z _ place (pok_of c_1)) (cwV 1 hts gX13_away_X13_isPledge rfl rfl rfl (by decide +kernel) ⟨Nat.le_of_ble_eq_true rfl, Nat.le_of_ble_eq_true rfl⟩) rfl hl.1 rfl (Nat.le_of_ble_eq_true rfl) dX13_away_15 ⟨Nat.zero_le _, Nat.zero_le _⟩ ?_
    refine lv_if_eq (tgt := 30) hx hb dX13_away_18 (by decide) (fun c_2 => ?_) (fun c_2 => ?_)
    · refine lv_aload_n hx hb dX13_away_30 rfl (lv_at hl 0 rfl) ?_
      refine lv_bipush (v := (-2)) hx hb dX13_away_31 (by decide) ?_
      refine m_wr S hK hP hS (As := [.int (-2)]) (rest := []) (cM_says l D cI cJ ad Z _ hi (-2)) (cwV 1 hts gX13_away_X13_says rfl rfl rfl (by decide +kernel) ⟨Nat.le_of_ble_eq_true rfl, Nat.le_of_ble_eq_true rfl⟩) rfl hl.1 rfl (Nat.le_of_ble_eq_true rfl) dX13_away_33 ⟨Nat.zero_le _, Nat.zero_le _⟩ (fun H locs hP hS => ?_)
      have hsp : sp_away Z place = ((-2), zR Z (-2)) := by unfold sp_away; rw [if_neg c_1, if_pos c_2]
      exact W.iret hx hb hr (fun t2 ht2 hW => by rw [hsp]; exact ⟨rfl, by rw [ht2]; exact hP, hS.F ht2⟩) hS.2.2 dX13_away_36 hlocks
    · refine lv_aload_n hx hb dX13_away_21 rfl (lv_at hl 0 rfl) ?_
      refine lv_iload_n hx hb dX13_away_22 rfl (lv_at hl 1 rfl) ?_
      refine lv_iconst (v := 1) hx hb dX13_away_23 (by decide) ?_
      refine m_rd S hK hP (As := [.int place, .int 1]) (rest := []) (cM_at l D cI cJ ad Z _ place 1 (pok_of c_1) 1 rfl (by decide)) (cwV 2 hts gX13_away_X13_at rfl rfl rfl (by decide +kernel) ⟨Nat.le_of_ble_eq_true rfl, Nat.le_of_ble_eq_true rfl⟩) rfl hl.1 rfl (Nat.le_of_ble_eq_true rfl) dX13_away_24 ⟨Nat.zero_le _, Nat.zero_le _⟩ ?_
      refine lv_if_le (tgt := 37) hx hb dX13_away_27 (by decide) (fun c_3 => ?_) (fun c_3 => ?_)
      · refine lv_aload_n hx hb dX13_away_37 rfl (lv_at hl 0 rfl) ?_
        refine lv_iload_n hx hb dX13_away_38 rfl (lv_at hl 1 rfl) ?_
        refine m_wv S hK hP hS (As := [.int place]) (rest := []) (cM_leaves l D cI cJ ad Z _ hi place (pok_of c_1)) (cwV 1 hts gX13_away_X13_leaves rfl rfl rfl (by decide +kernel) ⟨Nat.le_of_ble_eq_true rfl, Nat.le_of_ble_eq_true rfl⟩) rfl hl.1 rfl (Nat.le_of_ble_eq_true rfl) dX13_away_39 ⟨Nat.zero_le _, Nat.zero_le _⟩ (fun H locs hP hS => ?_)
        refine lv_aload_n hx hb dX13_away_42 rfl (lv_at hl 0 rfl) ?_
        refine lv_iconst (v := 0) hx hb dX13_away_43 (by decide) ?_
        refine m_wr S hK hP hS (As := [.int 0]) (rest := []) (cM_says l D cI cJ ad (sp_leaves Z place) _ hi 0) (cwV 1 hts gX13_away_X13_says rfl rfl rfl (by decide +kernel) ⟨Nat.le_of_ble_eq_true rfl, Nat.le_of_ble_eq_true rfl⟩) rfl hl.1 rfl (Nat.le_of_ble_eq_true rfl) dX13_away_44 ⟨Nat.zero_le _, Nat.zero_le _⟩ (fun H locs hP hS => ?_)
        have hsp : sp_away Z place = (0, zR (sp_leaves Z place) 0) := by unfold sp_away; rw [if_neg c_1, if_neg c_2, if_pos c_3]
        exact W.iret hx hb hr (fun t2 ht2 hW => by rw [hsp]; exact ⟨rfl, by rw [ht2]; exact hP, hS.F ht2⟩) hS.2.2 dX13_away_47 hlocks
      · refine lv_aload_n hx hb dX13_away_30 rfl (lv_at hl 0 rfl) ?_
        refine lv_bipush (v := (-2)) hx hb dX13_away_31 (by decide) ?_
        refine m_wr S hK hP hS (As := [.int (-2)]) (rest := []) (cM_says l D cI cJ ad Z _ hi (-2)) (cwV 1 hts gX13_away_X13_says rfl rfl rfl (by decide +kernel) ⟨Nat.le_of_ble_eq_true rfl, Nat.le_of_ble_eq_true rfl⟩) rfl hl.1 rfl (Nat.le_of_ble_eq_true rfl) dX13_away_33 ⟨Nat.zero_le _, Nat.zero_le _⟩ (fun H locs hP hS => ?_)
        have hsp : sp_away Z place = ((-2), zR Z (-2)) := by unfold sp_away; rw [if_neg c_1, if_neg c_2, if_neg c_3]
        exact W.iret hx hb hr (fun t2 ht2 hW => by rw [hsp]; exact ⟨rfl, by rw [ht2]; exact hP, hS.F ht2⟩) hS.2.2 dX13_away_36 hlocks
  · refine lv_aload_n hx hb dX13_away_7 rfl (lv_at hl 0 rfl) ?_
    refine lv_iconst (v := (-1)) hx hb dX13_away_8 (by decide) ?_
    refine m_wr S hK hP hS (As := [.int (-1)]) (rest := []) (cM_says l D cI cJ ad Z _ hi (-1)) (cwV 1 hts gX13_away_X13_says rfl rfl rfl (by decide +kernel) ⟨Nat.le_of_ble_eq_true rfl, Nat.le_of_ble_eq_true rfl⟩) rfl hl.1 rfl (Nat.le_of_ble_eq_true rfl) dX13_away_9 ⟨Nat.zero_le _, Nat.zero_le _⟩ (fun H locs hP hS => ?_)
    have hsp : sp_away Z place = ((-1), zR Z (-1)) := by unfold sp_away; rw [if_pos c_1]
    exact W.iret hx hb hr (fun t2 ht2 hW => by rw [hsp]; exact ⟨rfl, by rw [ht2]; exact hP, hS.F ht2⟩) hS.2.2 dX13_away_12 hlocks
def sp_item (Z : mZ) (place : Int32) (value : Int32) : Int32 × mZ :=
  if (sp_isPlace place) = 0 then
    ((-1), zR Z (-1))
  else
    if (sh Z (tN place) 0) = (-1) then
      if (sp_isValue value) = 0 then
        ((-6), zR Z (-6))
      else
        (0, zR (shp (shp (sp_comes Z place 2) (tN place) 9 value) (tN place) 8 (0 + 1)) 0)
    else
      if (sh Z (tN place) 0) = 2 then
        if (sh Z (tN place) 1) ≤ 0 then
          if (sp_isValue value) = 0 then
            ((-6), zR Z (-6))
          else
            if (sh Z (tN place) 8) = 6 then
              ((-6), zR Z (-6))
            else
              (sh Z (tN place) 8, zR (shp (shp Z (tN place) (9 + tN (sh Z (tN place) 8)) value) (tN place) 8 ((sh Z (tN place) 8) + 1)) (sh Z (tN place) 8))
        else
          ((-2), zR Z (-2))
      else
        ((-2), zR Z (-2))
set_option maxHeartbeats 4000000 in
set_option maxRecDepth 100000 in
theorem cM_item (l : Launch) (D : va_G) (cI cJ : ClassId) (ad : Nat → Nat) (Z : mZ) (sz : Nat) (hi : mI ad) (place : Int32) (value : Int32) (hm : ¬ sp_isPlace place = 0 → sh Z (tN place) 0 = 2 → mok (sh Z (tN place) 8)) : Met l yX13_item wsX13_item ({ frames := 2, cells := 0, slots := 0, locals := 46 }) (mPc [.ref (ad 0), .int place, .int value] D cI cJ ad Z sz) (mQ D cI cJ ad (some (.int (sp_item Z place value).1)) (sp_item Z place value).2 sz) 0 0 (mA ad sz) := by
  refine m_in (cc := cX13_item) (maxL := 5) (ret := (some .int)) (lv := [(0, .ref (ad 0)), (1, .int place), (2, .int value)]) (by decide) rfl (Nat.le_of_ble_eq_true rfl) rfl ?_
  intro p e s m below meth c ls S hr hlocks hin hsz hP hK hl hS
  subst hsz
  obtain ⟨hx, hb, hml, hown, hts⟩ := id S
  refine lv_iload_n hx hb dX13_item_0 rfl (lv_at hl 1 rfl) ?_
  refine m_st S (As := [.int place]) (rest := []) (cM_isPlace l place ) (cwS 1 hts gX13_item_X13_isPlace rfl rfl rfl (by decide +kernel) ⟨Nat.le_of_ble_eq_true rfl, Nat.le_of_ble_eq_true rfl⟩) rfl hl.1 rfl (Nat.le_of_ble_eq_true rfl) dX13_item_1 ⟨Nat.zero_le _, Nat.zero_le _⟩ ?_
  refine lv_if_ne (tgt := 13) hx hb dX13_item_4 (by decide) (fun c_1 => ?_) (fun c_1 => ?_)
  · refine lv_aload_n hx hb dX13_item_13 rfl (lv_at hl 0 rfl) ?_
    refine lv_iload_n hx hb dX13_item_14 rfl (lv_at hl 1 rfl) ?_
    refine lv_iconst (v := 0) hx hb dX13_item_15 (by decide) ?_
    refine m_rd S hK hP (As := [.int place, .int 0]) (rest := []) (cM_at l D cI cJ ad Z _ place 0 (pok_of c_1) 0 rfl (by decide)) (cwV 2 hts gX13_item_X13_at rfl rfl rfl (by decide +kernel) ⟨Nat.le_of_ble_eq_true rfl, Nat.le_of_ble_eq_true rfl⟩) rfl hl.1 rfl (Nat.le_of_ble_eq_true rfl) dX13_item_16 ⟨Nat.zero_le _, Nat.zero_le _⟩ ?_
    refine lv_iconst (v := (-1)) hx hb dX13_item_19 (by decide) ?_
    refine lv_icmp_ne (tgt := 27) hx hb dX13_item_20 (by decide) (fun c_2 => ?_) (fun c_2 => ?_)
    · refine lv_iconst (v := 0) hx hb dX13_item_27 (by decide) ?_
      refine lv_istore_n (lv' := [(3, .int 0), (0, .ref (ad 0)), (1, .int place), (2, .int value)]) hx hb dX13_item_28 rfl hl (by decide) rfl (fun ls hl => ?_)
      refine lv_iload_n hx hb dX13_item_29 rfl (lv_at hl 0 rfl) ?_
      refine lv_if_ne (tgt := 59) hx hb dX13_item_30 (by decide) (fun c_3 => ?_) (fun c_3 => ?_)
      · exact absurd c_3 (by decide)
      · refine lv_aload_n hx hb dX13_item_33 rfl (lv_at hl 1 rfl) ?_
        refine lv_iload_n hx hb dX13_item_34 rfl (lv_at hl 2 rfl) ?_
        refine lv_iconst (v := 0) hx hb dX13_item_35 (by decide) ?_
        refine m_rd S hK hP (As := [.int place, .int 0]) (rest := []) (cM_at l D cI cJ ad Z _ place 0 (pok_of c_1) 0 rfl (by decide)) (cwV 2 hts gX13_item_X13_at rfl rfl rfl (by decide +kernel) ⟨Nat.le_of_ble_eq_true rfl, Nat.le_of_ble_eq_true rfl⟩) rfl hl.1 rfl (Nat.le_of_ble_eq_true rfl) dX13_item_36 ⟨Nat.zero_le _, Nat.zero_le _⟩ ?_
        refine lv_iconst (v := 2) hx hb dX13_item_39 (by decide) ?_
        refine lv_icmp_ne (tgt := 52) hx hb dX13_item_40 (by decide) (fun c_4 => ?_) (fun c_4 => ?_)
        · refine lv_aload_n hx hb dX13_item_52 rfl (lv_at hl 1 rfl) ?_
          refine lv_bipush (v := (-2)) hx hb dX13_item_53 (by decide) ?_
          refine m_wr S hK hP hS (As := [.int (-2)]) (rest := []) (cM_says l D cI cJ ad Z _ hi (-2)) (cwV 1 hts gX13_item_X13_says rfl rfl rfl (by decide +kernel) ⟨Nat.le_of_ble_eq_true rfl, Nat.le_of_ble_eq_true rfl⟩) rfl hl.1 rfl (Nat.le_of_ble_eq_true rfl) dX13_item_55 ⟨Nat.zero_le _, Nat.zero_le _⟩ (fun H locs hP hS => ?_)
          have hsp : sp_item Z place value = ((-2), zR Z (-2)) := by unfold sp_item; rw [if_neg c_1, if_neg c_2, if_neg c_4]
          exact W.iret hx hb hr (fun t2 ht2 hW => by rw [hsp]; exact ⟨rfl, by rw [ht2]; exact hP, hS.F ht2⟩) hS.2.2 dX13_item_58 hlocks
        · refine lv_aload_n hx hb dX13_item_43 rfl (lv_at hl 1 rfl) ?_
          refine lv_iload_n hx hb dX13_item_44 rfl (lv_at hl 2 rfl) ?_
          refine lv_iconst (v := 1) hx hb dX13_item_45 (by decide) ?_
          refine m_rd S hK hP (As := [.int place, .int 1]) (rest := []) (cM_at l D cI cJ ad Z _ place 1 (pok_of c_1) 1 rfl (by decide)) (cwV 2 hts gX13_item_X13_at rfl rfl rfl (by decide +kernel) ⟨Nat.le_of_ble_eq_true rfl, Nat.le_of_ble_eq_true rfl⟩) rfl hl.1 rfl (Nat.le_of_ble_eq_true rfl) dX13_item_46 ⟨Nat.zero_le _, Nat.zero_le _⟩ ?_
          refine lv_if_le (tgt := 59) hx hb dX13_item_49 (by decide) (fun c_5 => ?_) (fun c_5 => ?_)
          · refine lv_iload_n hx hb dX13_item_59 rfl (lv_at hl 3 rfl) ?_
            refine m_st S (As := [.int value]) (rest := []) (cM_isValue l value ) (cwS 1 hts gX13_item_X13_isValue rfl rfl rfl (by decide +kernel) ⟨Nat.le_of_ble_eq_true rfl, Nat.le_of_ble_eq_true rfl⟩) rfl hl.1 rfl (Nat.le_of_ble_eq_true rfl) dX13_item_60 ⟨Nat.zero_le _, Nat.zero_le _⟩ ?_
            refine lv_if_eq (tgt := 82) hx hb dX13_item_63 (by decide) (fun c_6 => ?_) (fun c_6 => ?_)
            · refine lv_aload_n hx hb dX13_item_82 rfl (lv_at hl 1 rfl) ?_
              refine lv_bipush (v := (-6)) hx hb dX13_item_83 (by decide) ?_
              refine m_wr S hK hP hS (As := [.int (-6)]) (rest := []) (cM_says l D cI cJ ad Z _ hi (-6)) (cwV 1 hts gX13_item_X13_says rfl rfl rfl (by decide +kernel) ⟨Nat.le_of_ble_eq_true rfl, Nat.le_of_ble_eq_true rfl⟩) rfl hl.1 rfl (Nat.le_of_ble_eq_true rfl) dX13_item_85 ⟨Nat.zero_le _, Nat.zero_le _⟩ (fun H locs hP hS => ?_)
              have hsp : sp_item Z place value = ((-6), zR Z (-6)) := by unfold sp_item; rw [if_neg c_1, if_neg c_2, if_pos c_4, if_pos c_5, if_pos c_6]
              exact W.iret hx hb hr (fun t2 ht2 hW => by rw [hsp]; exact ⟨rfl, by rw [ht2]; exact hP, hS.F ht2⟩) hS.2.2 dX13_item_88 hlocks
            · refine lv_iload_n hx hb dX13_item_66 rfl (lv_at hl 0 rfl) ?_
              refine lv_if_ne (tgt := 89) hx hb dX13_item_67 (by decide) (fun c_7 => ?_) (fun c_7 => ?_)
              · exact absurd c_7 (by decide)
              · refine lv_aload_n hx hb dX13_item_70 rfl (lv_at hl 1 rfl) ?_
                refine lv_iload_n hx hb dX13_item_71 rfl (lv_at hl 2 rfl) ?_
                refine lv_bipush (v := 8) hx hb dX13_item_72 (by decide) ?_
                refine m_rd S hK hP (As := [.int place, .int 8]) (rest := []) (cM_at l D cI cJ ad Z _ place 8 (pok_of c_1) 8 rfl (by decide)) (cwV 2 hts gX13_item_X13_at rfl rfl rfl (by decide +kernel) ⟨Nat.le_of_ble_eq_true rfl, Nat.le_of_ble_eq_true rfl⟩) rfl hl.1 rfl (Nat.le_of_ble_eq_true rfl) dX13_item_74 ⟨Nat.zero_le _, Nat.zero_le _⟩ ?_
                refine lv_bipush (v := 6) hx hb dX13_item_77 (by decide) ?_
                refine lv_icmp_ne (tgt := 89) hx hb dX13_item_79 (by decide) (fun c_8 => ?_) (fun c_8 => ?_)
                · refine lv_iload_n hx hb dX13_item_89 rfl (lv_at hl 0 rfl) ?_
                  refine lv_if_eq (tgt := 99) hx hb dX13_item_90 (by decide) (fun c_9 => ?_) (fun c_9 => ?_)
                  · refine lv_aload_n hx hb dX13_item_99 rfl (lv_at hl 1 rfl) ?_
                    refine lv_iload_n hx hb dX13_item_100 rfl (lv_at hl 2 rfl) ?_
                    refine lv_bipush (v := 8) hx hb dX13_item_101 (by decide) ?_
                    refine m_rd S hK hP (As := [.int place, .int 8]) (rest := []) (cM_at l D cI cJ ad Z _ place 8 (pok_of c_1) 8 rfl (by decide)) (cwV 2 hts gX13_item_X13_at rfl rfl rfl (by decide +kernel) ⟨Nat.le_of_ble_eq_true rfl, Nat.le_of_ble_eq_true rfl⟩) rfl hl.1 rfl (Nat.le_of_ble_eq_true rfl) dX13_item_103 ⟨Nat.zero_le _, Nat.zero_le _⟩ ?_
                    refine lv_istore (lv' := [(4, .int (sh Z (tN place) 8)), (3, .int 0), (0, .ref (ad 0)), (1, .int place), (2, .int value)]) hx hb dX13_item_106 hl (by decide) rfl (fun ls hl => ?_)
                    refine lv_aload_n hx hb dX13_item_108 rfl (lv_at hl 2 rfl) ?_
                    refine lv_iload_n hx hb dX13_item_109 rfl (lv_at hl 3 rfl) ?_
                    refine lv_bipush (v := 9) hx hb dX13_item_110 (by decide) ?_
                    refine lv_iload hx hb dX13_item_112 (lv_at hl 0 rfl) ?_
                    refine lv_iadd hx hb dX13_item_114 ?_
                    refine lv_iload_n hx hb dX13_item_115 rfl (lv_at hl 4 rfl) ?_
                    refine m_wv S hK hP hS (As := [.int place, .int (9 + (sh Z (tN place) 8)), .int value]) (rest := []) (cM_set l D cI cJ ad Z _ hi place (9 + (sh Z (tN place) 8)) value (pok_of c_1) (9 + tN (sh Z (tN place) 8)) (mok_ix (hm c_1 c_4)) (mok_lt (hm c_1 c_4) c_8)) (cwV 3 hts gX13_item_X13_set rfl rfl rfl (by decide +kernel) ⟨Nat.le_of_ble_eq_true rfl, Nat.le_of_ble_eq_true rfl⟩) rfl hl.1 rfl (Nat.le_of_ble_eq_true rfl) dX13_item_116 ⟨Nat.zero_le _, Nat.zero_le _⟩ (fun H locs hP hS => ?_)
                    refine lv_aload_n hx hb dX13_item_119 rfl (lv_at hl 2 rfl) ?_
                    refine lv_iload_n hx hb dX13_item_120 rfl (lv_at hl 3 rfl) ?_
                    refine lv_bipush (v := 8) hx hb dX13_item_121 (by decide) ?_
                    refine lv_iload hx hb dX13_item_123 (lv_at hl 0 rfl) ?_
                    refine lv_iconst (v := 1) hx hb dX13_item_125 (by decide) ?_
                    refine lv_iadd hx hb dX13_item_126 ?_
                    refine m_wv S hK hP hS (As := [.int place, .int 8, .int ((sh Z (tN place) 8) + 1)]) (rest := []) (cM_set l D cI cJ ad (shp Z (tN place) (9 + tN (sh Z (tN place) 8)) value) _ hi place 8 ((sh Z (tN place) 8) + 1) (pok_of c_1) 8 rfl (by decide)) (cwV 3 hts gX13_item_X13_set rfl rfl rfl (by decide +kernel) ⟨Nat.le_of_ble_eq_true rfl, Nat.le_of_ble_eq_true rfl⟩) rfl hl.1 rfl (Nat.le_of_ble_eq_true rfl) dX13_item_127 ⟨Nat.zero_le _, Nat.zero_le _⟩ (fun H locs hP hS => ?_)
                    refine lv_aload_n hx hb dX13_item_130 rfl (lv_at hl 2 rfl) ?_
                    refine lv_iload hx hb dX13_item_131 (lv_at hl 0 rfl) ?_
                    refine m_wr S hK hP hS (As := [.int (sh Z (tN place) 8)]) (rest := []) (cM_says l D cI cJ ad (shp (shp Z (tN place) (9 + tN (sh Z (tN place) 8)) value) (tN place) 8 ((sh Z (tN place) 8) + 1)) _ hi (sh Z (tN place) 8)) (cwV 1 hts gX13_item_X13_says rfl rfl rfl (by decide +kernel) ⟨Nat.le_of_ble_eq_true rfl, Nat.le_of_ble_eq_true rfl⟩) rfl hl.1 rfl (Nat.le_of_ble_eq_true rfl) dX13_item_133 ⟨Nat.zero_le _, Nat.zero_le _⟩ (fun H locs hP hS => ?_)
                    have hsp : sp_item Z place value = (sh Z (tN place) 8, zR (shp (shp Z (tN place) (9 + tN (sh Z (tN place) 8)) value) (tN place) 8 ((sh Z (tN place) 8) + 1)) (sh Z (tN place) 8)) := by unfold sp_item; rw [if_neg c_1, if_neg c_2, if_pos c_4, if_pos c_5, if_neg c_6, if_neg c_8]
                    exact W.iret hx hb hr (fun t2 ht2 hW => by rw [hsp]; exact ⟨rfl, by rw [ht2]; exact hP, hS.F ht2⟩) hS.2.2 dX13_item_136 hlocks
                  · exact absurd c_9 (by decide)
                · refine lv_aload_n hx hb dX13_item_82 rfl (lv_at hl 1 rfl) ?_
                  refine lv_bipush (v := (-6)) hx hb dX13_item_83 (by decide) ?_
                  refine m_wr S hK hP hS (As := [.int (-6)]) (rest := []) (cM_says l D cI cJ ad Z _ hi (-6)) (cwV 1 hts gX13_item_X13_says rfl rfl rfl (by decide +kernel) ⟨Nat.le_of_ble_eq_true rfl, Nat.le_of_ble_eq_true rfl⟩) rfl hl.1 rfl (Nat.le_of_ble_eq_true rfl) dX13_item_85 ⟨Nat.zero_le _, Nat.zero_le _⟩ (fun H locs hP hS => ?_)
                  have hsp : sp_item Z place value = ((-6), zR Z (-6)) := by unfold sp_item; rw [if_neg c_1, if_neg c_2, if_pos c_4, if_pos c_5, if_neg c_6, if_pos c_8]
                  exact W.iret hx hb hr (fun t2 ht2 hW => by rw [hsp]; exact ⟨rfl, by rw [ht2]; exact hP, hS.F ht2⟩) hS.2.2 dX13_item_88 hlocks
          · refine lv_aload_n hx hb dX13_item_52 rfl (lv_at hl 1 rfl) ?_
            refine lv_bipush (v := (-2)) hx hb dX13_item_53 (by decide) ?_
            refine m_wr S hK hP hS (As := [.int (-2)]) (rest := []) (cM_says l D cI cJ ad Z _ hi (-2)) (cwV 1 hts gX13_item_X13_says rfl rfl rfl (by decide +kernel) ⟨Nat.le_of_ble_eq_true rfl, Nat.le_of_ble_eq_true rfl⟩) rfl hl.1 rfl (Nat.le_of_ble_eq_true rfl) dX13_item_55 ⟨Nat.zero_le _, Nat.zero_le _⟩ (fun H locs hP hS => ?_)
            have hsp : sp_item Z place value = ((-2), zR Z (-2)) := by unfold sp_item; rw [if_neg c_1, if_neg c_2, if_pos c_4, if_neg c_5]
            exact W.iret hx hb hr (fun t2 ht2 hW => by rw [hsp]; exact ⟨rfl, by rw [ht2]; exact hP, hS.F ht2⟩) hS.2.2 dX13_item_58 hlocks
    · refine lv_iconst (v := 1) hx hb dX13_item_23 (by decide) ?_
      refine lv_goto (tgt := 28) hx hb dX13_item_24 (by decide) ?_
      refine lv_istore_n (lv' := [(3, .int 1), (0, .ref (ad 0)), (1, .int place), (2, .int value)]) hx hb dX13_item_28 rfl hl (by decide) rfl (fun ls hl => ?_)
      refine lv_iload_n hx hb dX13_item_29 rfl (lv_at hl 0 rfl) ?_
      refine lv_if_ne (tgt := 59) hx hb dX13_item_30 (by decide) (fun c_10 => ?_) (fun c_10 => ?_)
      · refine lv_iload_n hx hb dX13_item_59 rfl (lv_at hl 3 rfl) ?_
        refine m_st S (As := [.int value]) (rest := []) (cM_isValue l value ) (cwS 1 hts gX13_item_X13_isValue rfl rfl rfl (by decide +kernel) ⟨Nat.le_of_ble_eq_true rfl, Nat.le_of_ble_eq_true rfl⟩) rfl hl.1 rfl (Nat.le_of_ble_eq_true rfl) dX13_item_60 ⟨Nat.zero_le _, Nat.zero_le _⟩ ?_
        refine lv_if_eq (tgt := 82) hx hb dX13_item_63 (by decide) (fun c_11 => ?_) (fun c_11 => ?_)
        · refine lv_aload_n hx hb dX13_item_82 rfl (lv_at hl 1 rfl) ?_
          refine lv_bipush (v := (-6)) hx hb dX13_item_83 (by decide) ?_
          refine m_wr S hK hP hS (As := [.int (-6)]) (rest := []) (cM_says l D cI cJ ad Z _ hi (-6)) (cwV 1 hts gX13_item_X13_says rfl rfl rfl (by decide +kernel) ⟨Nat.le_of_ble_eq_true rfl, Nat.le_of_ble_eq_true rfl⟩) rfl hl.1 rfl (Nat.le_of_ble_eq_true rfl) dX13_item_85 ⟨Nat.zero_le _, Nat.zero_le _⟩ (fun H locs hP hS => ?_)
          have hsp : sp_item Z place value = ((-6), zR Z (-6)) := by unfold sp_item; rw [if_neg c_1, if_pos c_2, if_pos c_11]
          exact W.iret hx hb hr (fun t2 ht2 hW => by rw [hsp]; exact ⟨rfl, by rw [ht2]; exact hP, hS.F ht2⟩) hS.2.2 dX13_item_88 hlocks
        · refine lv_iload_n hx hb dX13_item_66 rfl (lv_at hl 0 rfl) ?_
          refine lv_if_ne (tgt := 89) hx hb dX13_item_67 (by decide) (fun c_12 => ?_) (fun c_12 => ?_)
          · refine lv_iload_n hx hb dX13_item_89 rfl (lv_at hl 0 rfl) ?_
            refine lv_if_eq (tgt := 99) hx hb dX13_item_90 (by decide) (fun c_13 => ?_) (fun c_13 => ?_)
            · exact absurd c_13 (by decide)
            · refine lv_aload_n hx hb dX13_item_93 rfl (lv_at hl 1 rfl) ?_
              refine lv_iload_n hx hb dX13_item_94 rfl (lv_at hl 2 rfl) ?_
              refine lv_iconst (v := 2) hx hb dX13_item_95 (by decide) ?_
              refine m_wv S hK hP hS (As := [.int place, .int 2]) (rest := []) (cM_comes l D cI cJ ad Z _ hi place 2 (pok_of c_1)) (cwV 2 hts gX13_item_X13_comes rfl rfl rfl (by decide +kernel) ⟨Nat.le_of_ble_eq_true rfl, Nat.le_of_ble_eq_true rfl⟩) rfl hl.1 rfl (Nat.le_of_ble_eq_true rfl) dX13_item_96 ⟨Nat.zero_le _, Nat.zero_le _⟩ (fun H locs hP hS => ?_)
              refine lv_aload_n hx hb dX13_item_99 rfl (lv_at hl 1 rfl) ?_
              refine lv_iload_n hx hb dX13_item_100 rfl (lv_at hl 2 rfl) ?_
              refine lv_bipush (v := 8) hx hb dX13_item_101 (by decide) ?_
              refine m_rd S hK hP (As := [.int place, .int 8]) (rest := []) (met_r (show sh (sp_comes Z place 2) (tN place) 8 = 0 from (sh_comes (by decide) (by decide) (by decide) rfl)) (cM_at l D cI cJ ad (sp_comes Z place 2) _ place 8 (pok_of c_1) 8 rfl (by decide))) (cwV 2 hts gX13_item_X13_at rfl rfl rfl (by decide +kernel) ⟨Nat.le_of_ble_eq_true rfl, Nat.le_of_ble_eq_true rfl⟩) rfl hl.1 rfl (Nat.le_of_ble_eq_true rfl) dX13_item_103 ⟨Nat.zero_le _, Nat.zero_le _⟩ ?_
              refine lv_istore (lv' := [(4, .int 0), (3, .int 1), (0, .ref (ad 0)), (1, .int place), (2, .int value)]) hx hb dX13_item_106 hl (by decide) rfl (fun ls hl => ?_)
              refine lv_aload_n hx hb dX13_item_108 rfl (lv_at hl 2 rfl) ?_
              refine lv_iload_n hx hb dX13_item_109 rfl (lv_at hl 3 rfl) ?_
              refine lv_bipush (v := 9) hx hb dX13_item_110 (by decide) ?_
              refine lv_iload hx hb dX13_item_112 (lv_at hl 0 rfl) ?_
              refine lv_iadd hx hb dX13_item_114 ?_
              refine lv_iload_n hx hb dX13_item_115 rfl (lv_at hl 4 rfl) ?_
              refine m_wv S hK hP hS (As := [.int place, .int (9 + 0), .int value]) (rest := []) (cM_set l D cI cJ ad (sp_comes Z place 2) _ hi place (9 + 0) value (pok_of c_1) 9 rfl (by decide)) (cwV 3 hts gX13_item_X13_set rfl rfl rfl (by decide +kernel) ⟨Nat.le_of_ble_eq_true rfl, Nat.le_of_ble_eq_true rfl⟩) rfl hl.1 rfl (Nat.le_of_ble_eq_true rfl) dX13_item_116 ⟨Nat.zero_le _, Nat.zero_le _⟩ (fun H locs hP hS => ?_)
              refine lv_aload_n hx hb dX13_item_119 rfl (lv_at hl 2 rfl) ?_
              refine lv_iload_n hx hb dX13_item_120 rfl (lv_at hl 3 rfl) ?_
              refine lv_bipush (v := 8) hx hb dX13_item_121 (by decide) ?_
              refine lv_iload hx hb dX13_item_123 (lv_at hl 0 rfl) ?_
              refine lv_iconst (v := 1) hx hb dX13_item_125 (by decide) ?_
              refine lv_iadd hx hb dX13_item_126 ?_
              refine m_wv S hK hP hS (As := [.int place, .int 8, .int (0 + 1)]) (rest := []) (cM_set l D cI cJ ad (shp (sp_comes Z place 2) (tN place) 9 value) _ hi place 8 (0 + 1) (pok_of c_1) 8 rfl (by decide)) (cwV 3 hts gX13_item_X13_set rfl rfl rfl (by decide +kernel) ⟨Nat.le_of_ble_eq_true rfl, Nat.le_of_ble_eq_true rfl⟩) rfl hl.1 rfl (Nat.le_of_ble_eq_true rfl) dX13_item_127 ⟨Nat.zero_le _, Nat.zero_le _⟩ (fun H locs hP hS => ?_)
              refine lv_aload_n hx hb dX13_item_130 rfl (lv_at hl 2 rfl) ?_
              refine lv_iload hx hb dX13_item_131 (lv_at hl 0 rfl) ?_
              refine m_wr S hK hP hS (As := [.int 0]) (rest := []) (cM_says l D cI cJ ad (shp (shp (sp_comes Z place 2) (tN place) 9 value) (tN place) 8 (0 + 1)) _ hi 0) (cwV 1 hts gX13_item_X13_says rfl rfl rfl (by decide +kernel) ⟨Nat.le_of_ble_eq_true rfl, Nat.le_of_ble_eq_true rfl⟩) rfl hl.1 rfl (Nat.le_of_ble_eq_true rfl) dX13_item_133 ⟨Nat.zero_le _, Nat.zero_le _⟩ (fun H locs hP hS => ?_)
              have hsp : sp_item Z place value = (0, zR (shp (shp (sp_comes Z place 2) (tN place) 9 value) (tN place) 8 (0 + 1)) 0) := by unfold sp_item; rw [if_neg c_1, if_pos c_2, if_neg c_11]
              exact W.iret hx hb hr (fun t2 ht2 hW => by rw [hsp]; exact ⟨rfl, by rw [ht2]; exact hP, hS.F ht2⟩) hS.2.2 dX13_item_136 hlocks
          · exact absurd c_12 (by decide)
      · exact absurd c_10 (by decide)
  · refine lv_aload_n hx hb dX13_item_7 rfl (lv_at hl 0 rfl) ?_
    refine lv_iconst (v := (-1)) hx hb dX13_item_8 (by decide) ?_
    refine m_wr S hK hP hS (As := [.int (-1)]) (rest := []) (cM_says l D cI cJ ad Z _ hi (-1)) (cwV 1 hts gX13_item_X13_says rfl rfl rfl (by decide +kernel) ⟨Nat.le_of_ble_eq_true rfl, Nat.le_of_ble_eq_true rfl⟩) rfl hl.1 rfl (Nat.le_of_ble_eq_true rfl) dX13_item_9 ⟨Nat.zero_le _, Nat.zero_le _⟩ (fun H locs hP hS => ?_)
    have hsp : sp_item Z place value = ((-1), zR Z (-1)) := by unfold sp_item; rw [if_pos c_1]
    exact W.iret hx hb hr (fun t2 ht2 hW => by rw [hsp]; exact ⟨rfl, by rw [ht2]; exact hP, hS.F ht2⟩) hS.2.2 dX13_item_12 hlocks
def sp_half (Z : mZ) : Int32 :=
  zh Z 2
set_option maxHeartbeats 4000000 in
set_option maxRecDepth 100000 in
theorem cM_half (l : Launch) (D : va_G) (cI cJ : ClassId) (ad : Nat → Nat) (Z : mZ) (sz : Nat) (hi : mI ad) : Met l yX13_half wsX13_half ({ frames := 0, cells := 0, slots := 0, locals := 0 }) (mPc [.ref (ad 0)] D cI cJ ad Z sz) (mQ D cI cJ ad (some (.int (sp_half Z))) Z sz) 0 0 (mA ad sz) := by
  refine m_in (cc := cX13_half) (maxL := 1) (ret := (some .int)) (lv := [(0, .ref (ad 0))]) (by decide) rfl (Nat.le_of_ble_eq_true rfl) rfl ?_
  intro p e s m below meth c ls S hr hlocks hin hsz hP hK hl hS
  subst hsz
  obtain ⟨hx, hb, hml, hown, hts⟩ := id S
  have hX12 : ∀ w ∈ wsX120, w ∈ wsX13_half := by decide +kernel
  have hX13 : ∀ w ∈ wsX130, w ∈ wsX13_half := by decide +kernel
  refine lv_aload_n hx hb dX13_half_0 rfl (lv_at hl 0 rfl) ?_
  refine lv_iconst (v := 0) hx hb dX13_half_1 (by decide) ?_
  refine va_put (D := D) (ci := 11) (v := .int 0) (ty := .int) (C := RX13) (T := TX13) (N := 6) hx hb hts hX13 tyX13 tyX13_ok nmX13 hown hK.1 hP (wM_D hi s.heap.size _) hS 0 rfl rfl 4 (by decide) (hts (.fieldLink RX13 34 "PledgeHouseModel" "thrown" "I") (by decide +kernel)) (fun _ h9 => h9) rfl (by decide +kernel) rfl rfl (Nat.le_of_ble_eq_true rfl) dX13_half_2 (fun H locs hP _ hS => ?_)
  have hP : va_P D vwCl (wM ad cI cJ Z) H := hP
  refine lv_aload_n hx hb dX13_half_5 rfl (lv_at hl 0 rfl) ?_
  refine va_get (D := D) (ci := 11) (v := .ref (ad 1)) (C := RX13) (T := TX13) (N := 6) hx hb hts hX13 hown hK.1 hP 0 rfl rfl 0 (by decide) (hts (.fieldLink RX13 10 "PledgeHouseModel" "now" "LPledgeHouseModel$State;") (by decide +kernel)) (fun _ h9 => h9) rfl dX13_half_6 ?_
  refine va_getN (D := D) (ci := 10) (v := .ref (ad 3)) (C := RX12) (T := TX12) (N := 4) hx hb hts hX12 hown hK.1 hP 1 rfl rfl 0 (by decide) (va_Nw.use rfl hK.2.1) (fun _ h9 => h9) rfl dX13_half_9 ?_
  refine lv_iconst (v := 2) hx hb dX13_half_12 (by decide) ?_
  refine mx_hld hx hb hK.1 hP 2 rfl (by decide) (v := zh Z 2) rfl dX13_half_13 ?_
  have hsp : sp_half Z = zh Z 2 := rfl
  exact W.iret hx hb hr (fun t2 ht2 hW => by rw [hsp]; exact ⟨rfl, by rw [ht2]; exact hP, hS.F ht2⟩) hS.2.2 dX13_half_14 hlocks
def sp_check (Z : mZ) : Int32 :=
  0
set_option maxHeartbeats 4000000 in
set_option maxRecDepth 100000 in
theorem cM_check (l : Launch) (D : va_G) (cI cJ : ClassId) (ad : Nat → Nat) (Z : mZ) (sz : Nat) (hi : mI ad) : Met l yX13_check wsX13_check ({ frames := 0, cells := 0, slots := 0, locals := 0 }) (mPc [.ref (ad 0)] D cI cJ ad Z sz) (mQ D cI cJ ad (some (.int (sp_check Z))) Z sz) 0 0 (mA ad sz) := by
  refine m_in (cc := cX13_check) (maxL := 1) (ret := (some .int)) (lv := [(0, .ref (ad 0))]) (by decide) rfl (Nat.le_of_ble_eq_true rfl) rfl ?_
  intro p e s m below meth c ls S hr hlocks hin hsz hP hK hl hS
  subst hsz
  obtain ⟨hx, hb, hml, hown, hts⟩ := id S
  have hX13 : ∀ w ∈ wsX130, w ∈ wsX13_check := by decide +kernel
  refine lv_aload_n hx hb dX13_check_0 rfl (lv_at hl 0 rfl) ?_
  refine lv_iconst (v := 0) hx hb dX13_check_1 (by decide) ?_
  refine va_put (D := D) (ci := 11) (v := .int 0) (ty := .int) (C := RX13) (T := TX13) (N := 6) hx hb hts hX13 tyX13 tyX13_ok nmX13 hown hK.1 hP (wM_D hi s.heap.size _) hS 0 rfl rfl 4 (by decide) (hts (.fieldLink RX13 34 "PledgeHouseModel" "thrown" "I") (by decide +kernel)) (fun _ h9 => h9) rfl (by decide +kernel) rfl rfl (Nat.le_of_ble_eq_true rfl) dX13_check_2 (fun H locs hP _ hS => ?_)
  have hP : va_P D vwCl (wM ad cI cJ Z) H := hP
  refine lv_iconst (v := 0) hx hb dX13_check_5 (by decide) ?_
  have hsp : sp_check Z = 0 := rfl
  exact W.iret hx hb hr (fun t2 ht2 hW => by rw [hsp]; exact ⟨rfl, by rw [ht2]; exact hP, hS.F ht2⟩) hS.2.2 dX13_check_6 hlocks
def sp_status (Z : mZ) : Int32 :=
  zst Z
set_option maxHeartbeats 4000000 in
set_option maxRecDepth 100000 in
theorem cM_status (l : Launch) (D : va_G) (cI cJ : ClassId) (ad : Nat → Nat) (Z : mZ) (sz : Nat) (hi : mI ad) : Met l yX13_status wsX13_status ({ frames := 0, cells := 0, slots := 0, locals := 0 }) (mPc [.ref (ad 0)] D cI cJ ad Z sz) (mQ D cI cJ ad (some (.int (sp_status Z))) Z sz) 0 0 (mA ad sz) := by
  refine m_in (cc := cX13_status) (maxL := 1) (ret := (some .int)) (lv := [(0, .ref (ad 0))]) (by decide) rfl (Nat.le_of_ble_eq_true rfl) rfl ?_
  intro p e s m below meth c ls S hr hlocks hin hsz hP hK hl hS
  subst hsz
  obtain ⟨hx, hb, hml, hown, hts⟩ := id S
  have hX13 : ∀ w ∈ wsX130, w ∈ wsX13_status := by decide +kernel
  refine lv_aload_n hx hb dX13_status_0 rfl (lv_at hl 0 rfl) ?_
  refine lv_iconst (v := 0) hx hb dX13_status_1 (by decide) ?_
  refine va_put (D := D) (ci := 11) (v := .int 0) (ty := .int) (C := RX13) (T := TX13) (N := 6) hx hb hts hX13 tyX13 tyX13_ok nmX13 hown hK.1 hP (wM_D hi s.heap.size _) hS 0 rfl rfl 4 (by decide) (hts (.fieldLink RX13 34 "PledgeHouseModel" "thrown" "I") (by decide +kernel)) (fun _ h9 => h9) rfl (by decide +kernel) rfl rfl (Nat.le_of_ble_eq_true rfl) dX13_status_2 (fun H locs hP _ hS => ?_)
  have hP : va_P D vwCl (wM ad cI cJ Z) H := hP
  refine lv_aload_n hx hb dX13_status_5 rfl (lv_at hl 0 rfl) ?_
  refine va_get (D := D) (ci := 11) (v := .int (zst Z)) (C := RX13) (T := TX13) (N := 6) hx hb hts hX13 hown hK.1 hP 0 rfl rfl 5 (by decide) (hts (.fieldLink RX13 38 "PledgeHouseModel" "status" "I") (by decide +kernel)) (fun _ h9 => h9) rfl dX13_status_6 ?_
  have hsp : sp_status Z = zst Z := rfl
  exact W.iret hx hb hr (fun t2 ht2 hW => by rw [hsp]; exact ⟨rfl, by rw [ht2]; exact hP, hS.F ht2⟩) hS.2.2 dX13_status_9 hlocks
def sp_told (Z : mZ) (ticket : Int32) (what : Int32) : Int32 :=
  if (sp_isTicket Z ticket) = 0 then
    (-1)
  else
    if what = 0 then
      tk Z (tN ticket) 0
    else
      if what = 1 then
        tk Z (tN ticket) 1
      else
        if what = 2 then
          tk Z (tN ticket) 2
        else
          if what = 3 then
            tk Z (tN ticket) 3
          else
            if what = 4 then
              tk Z (tN ticket) 4
            else
              if what = 5 then
                tk Z (tN ticket) 5
              else
                if what = 6 then
                  tk Z (tN ticket) 6
                else
                  if what = 7 then
                    tk Z (tN ticket) 7
                  else
                    if what = 8 then
                      sp_firstDay Z ticket
                    else
                      if what = 9 then
                        if (sp_isClaimed Z ticket) = 0 then
                          0
                        else
                          1
                      else
                        if what = 10 then
                          tk Z (tN ticket) 9
                        else
                          if what = 11 then
                            tk Z (tN ticket) 10
                          else
                            if what = 12 then
                              tk Z (tN ticket) 12
                            else
                              if what = 13 then
                                if (tk Z (tN ticket) 13) = 1 then
                                  1
                                else
                                  if (tk Z (tN ticket) 12) ≤ 0 then
                                    0
                                  else
                                    if (zh Z 0) ≤ (tk Z (tN ticket) 14) then
                                      0
                                    else
                                      2
                              else
                                if what = 14 then
                                  tk Z (tN ticket) 15
                                else
                                  if what = 15 then
                                    if (tk Z (tN ticket) 16) = 0 then
                                      (-1)
                                    else
                                      ticket
                                  else
                                    if what = 16 then
                                      if (tk Z (tN ticket) 16) = (-1) then
                                        tk Z (tN ticket) 17
                                      else
                                        (-1)
                                    else
                                      if what = 17 then
                                        tk Z (tN ticket) 18
                                      else
                                        (-1)
set_option maxHeartbeats 4000000 in
set_option maxRecDepth 100000 in
theorem cM_told (l : Launch) (D : va_G) (cI cJ : ClassId) (ad : Nat → Nat) (Z : mZ) (sz : Nat) (hi : mI ad) (ticket : Int32) (what : Int32) (hC : cok Z) : Met l yX13_told wsX13_told ({ frames := 4, cells := 0, slots := 0, locals := 85 }) (mPc [.ref (ad 0), .int ticket, .int what] D cI cJ ad Z sz) (mQ D cI cJ ad (some (.int (sp_told Z ticket what))) Z sz) 0 0 (mA ad sz) := by
  refine m_in (cc := cX13_told) (maxL := 3) (ret := (some .int)) (lv := [(0, .ref (ad 0)), (1, .int ticket), (2, .int what)]) (by decide) rfl (Nat.le_of_ble_eq_true rfl) rfl ?_
  intro p e s m below meth c ls S hr hlocks hin hsz hP hK hl hS
  subst hsz
  obtain ⟨hx, hb, hml, hown, hts⟩ := id S
  have hX13 : ∀ w ∈ wsX130, w ∈ wsX13_told := by decide +kernel
  refine lv_aload_n hx hb dX13_told_0 rfl (lv_at hl 0 rfl) ?_
  refine lv_iconst (v := 0) hx hb dX13_told_1 (by decide) ?_
  refine va_put (D := D) (ci := 11) (v := .int 0) (ty := .int) (C := RX13) (T := TX13) (N := 6) hx hb hts hX13 tyX13 tyX13_ok nmX13 hown hK.1 hP (wM_D hi s.heap.size _) hS 0 rfl rfl 4 (by decide) (hts (.fieldLink RX13 34 "PledgeHouseModel" "thrown" "I") (by decide +kernel)) (fun _ h9 => h9) rfl (by decide +kernel) rfl rfl (Nat.le_of_ble_eq_true rfl) dX13_told_2 (fun H locs hP _ hS => ?_)
  have hP : va_P D vwCl (wM ad cI cJ Z) H := hP
  refine lv_aload_n hx hb dX13_told_5 rfl (lv_at hl 0 rfl) ?_
  refine lv_iload_n hx hb dX13_told_6 rfl (lv_at hl 1 rfl) ?_
  refine m_rd S hK hP (As := [.int ticket]) (rest := []) (cM_isTicket l D cI cJ ad Z _ ticket ) (cwV 1 hts gX13_told_X13_isTicket rfl rfl rfl (by decide +kernel) ⟨Nat.le_of_ble_eq_true rfl, Nat.le_of_ble_eq_true rfl⟩) rfl hl.1 rfl (Nat.le_of_ble_eq_true rfl) dX13_told_7 ⟨Nat.zero_le _, Nat.zero_le _⟩ ?_
  refine lv_if_ne (tgt := 15) hx hb dX13_told_10 (by decide) (fun c_1 => ?_) (fun c_1 => ?_)
  · refine lv_iload_n hx hb dX13_told_15 rfl (lv_at hl 2 rfl) ?_
    by_cases c_2 : what = 0
    · refine lv_tableIn (off := 88) (tgt := 104) hx hb dX13_told_16 (by rw [c_2]; decide) (by rw [c_2]; decide) (by rw [c_2]; rfl) (by decide) ?_
      refine lv_aload_n hx hb dX13_told_104 rfl (lv_at hl 0 rfl) ?_
      refine lv_iload_n hx hb dX13_told_105 rfl (lv_at hl 1 rfl) ?_
      refine lv_iload_n hx hb dX13_told_106 rfl (lv_at hl 2 rfl) ?_
      refine m_rd S hK hP (As := [.int ticket, .int what]) (rest := []) (cM_of l D cI cJ ad Z _ ticket what (tok_of hC c_1) 0 c_2 (by decide)) (cwV 2 hts gX13_told_X13_of rfl rfl rfl (by decide +kernel) ⟨Nat.le_of_ble_eq_true rfl, Nat.le_of_ble_eq_true rfl⟩) rfl hl.1 rfl (Nat.le_of_ble_eq_true rfl) dX13_told_107 ⟨Nat.zero_le _, Nat.zero_le _⟩ ?_
      have hsp : sp_told Z ticket what = tk Z (tN ticket) 0 := by unfold sp_told; rw [if_neg c_1, if_pos c_2]
      exact W.iret hx hb hr (fun t2 ht2 hW => by rw [hsp]; exact ⟨rfl, by rw [ht2]; exact hP, hS.F ht2⟩) hS.2.2 dX13_told_110 hlocks
    by_cases c_3 : what = 1
    · refine lv_tableIn (off := 88) (tgt := 104) hx hb dX13_told_16 (by rw [c_3]; decide) (by rw [c_3]; decide) (by rw [c_3]; rfl) (by decide) ?_
      refine lv_aload_n hx hb dX13_told_104 rfl (lv_at hl 0 rfl) ?_
      refine lv_iload_n hx hb dX13_told_105 rfl (lv_at hl 1 rfl) ?_
      refine lv_iload_n hx hb dX13_told_106 rfl (lv_at hl 2 rfl) ?_
      refine m_rd S hK hP (As := [.int ticket, .int what]) (rest := []) (cM_of l D cI cJ ad Z _ ticket what (tok_of hC c_1) 1 c_3 (by decide)) (cwV 2 hts gX13_told_X13_of rfl rfl rfl (by decide +kernel) ⟨Nat.le_of_ble_eq_true rfl, Nat.le_of_ble_eq_true rfl⟩) rfl hl.1 rfl (Nat.le_of_ble_eq_true rfl) dX13_told_107 ⟨Nat.zero_le _, Nat.zero_le _⟩ ?_
      have hsp : sp_told Z ticket what = tk Z (tN ticket) 1 := by unfold sp_told; rw [if_neg c_1, if_neg c_2, if_pos c_3]
      exact W.iret hx hb hr (fun t2 ht2 hW => by rw [hsp]; exact ⟨rfl, by rw [ht2]; exact hP, hS.F ht2⟩) hS.2.2 dX13_told_110 hlocks
    by_cases c_4 : what = 2
    · refine lv_tableIn (off := 88) (tgt := 104) hx hb dX13_told_16 (by rw [c_4]; decide) (by rw [c_4]; decide) (by rw [c_4]; rfl) (by decide) ?_
      refine lv_aload_n hx hb dX13_told_104 rfl (lv_at hl 0 rfl) ?_
      refine lv_iload_n hx hb dX13_told_105 rfl (lv_at hl 1 rfl) ?_
      refine lv_iload_n hx hb dX13_told_106 rfl (lv_at hl 2 rfl) ?_
      refine m_rd S hK hP (As := [.int ticket, .int what]) (rest := []) (cM_of l D cI cJ ad Z _ ticket what (tok_of hC c_1) 2 c_4 (by decide)) (cwV 2 hts gX13_told_X13_of rfl rfl rfl (by decide +kernel) ⟨Nat.le_of_ble_eq_true rfl, Nat.le_of_ble_eq_true rfl⟩) rfl hl.1 rfl (Nat.le_of_ble_eq_true rfl) dX13_told_107 ⟨Nat.zero_le _, Nat.zero_le _⟩ ?_
      have hsp : sp_told Z ticket what = tk Z (tN ticket) 2 := by unfold sp_told; rw [if_neg c_1, if_neg c_2, if_neg c_3, if_pos c_4]
      exact W.iret hx hb hr (fun t2 ht2 hW => by rw [hsp]; exact ⟨rfl, by rw [ht2]; exact hP, hS.F ht2⟩) hS.2.2 dX13_told_110 hlocks
    by_cases c_5 : what = 3
    · refine lv_tableIn (off := 88) (tgt := 104) hx hb dX13_told_16 (by rw [c_5]; decide) (by rw [c_5]; decide) (by rw [c_5]; rfl) (by decide) ?_
      refine lv_aload_n hx hb dX13_told_104 rfl (lv_at hl 0 rfl) ?_
      refine lv_iload_n hx hb dX13_told_105 rfl (lv_at hl 1 rfl) ?_
      refine lv_iload_n hx hb dX13_told_106 rfl (lv_at hl 2 rfl) ?_
      refine m_rd S hK hP (As := [.int ticket, .int what]) (rest := []) (cM_of l D cI cJ ad Z _ ticket what (tok_of hC c_1) 3 c_5 (by decide)) (cwV 2 hts gX13_told_X13_of rfl rfl rfl (by decide +kernel) ⟨Nat.le_of_ble_eq_true rfl, Nat.le_of_ble_eq_true rfl⟩) rfl hl.1 rfl (Nat.le_of_ble_eq_true rfl) dX13_told_107 ⟨Nat.zero_le _, Nat.zero_le _⟩ ?_
      have hsp : sp_told Z ticket what = tk Z (tN ticket) 3 := by unfold sp_told; rw [if_neg c_1, if_neg c_2, if_neg c_3, if_neg c_4, if_pos c_5]
      exact W.iret hx hb hr (fun t2 ht2 hW => by rw [hsp]; exact ⟨rfl, by rw [ht2]; exact hP, hS.F ht2⟩) hS.2.2 dX13_told_110 hlocks
    by_cases c_6 : what = 4
    · refine lv_tableIn (off := 88) (tgt := 104) hx hb dX13_told_16 (by rw [c_6]; decide) (by rw [c_6]; decide) (by rw [c_6]; rfl) (by decide) ?_
      refine lv_aload_n hx hb dX13_told_104 rfl (lv_at hl 0 rfl) ?_
      refine lv_iload_n hx hb dX13_told_105 rfl (lv_at hl 1 rfl) ?_
      refine lv_iload_n hx hb dX13_told_106 rfl (lv_at hl 2 rfl) ?_
      refine m_rd S hK hP (As := [.int ticket, .int what]) (rest := []) (cM_of l D cI cJ ad Z _ ticket what (tok_of hC c_1) 4 c_6 (by decide)) (cwV 2 hts gX13_told_X13_of rfl rfl rfl (by decide +kernel) ⟨Nat.le_of_ble_eq_true rfl, Nat.le_of_ble_eq_true rfl⟩) rfl hl.1 rfl (Nat.le_of_ble_eq_true rfl) dX13_told_107 ⟨Nat.zero_le _, Nat.zero_le _⟩ ?_
      have hsp : sp_told Z ticket what = tk Z (tN ticket) 4 := by unfold sp_told; rw [if_neg c_1, if_neg c_2, if_neg c_3, if_neg c_4, if_neg c_5, if_pos c_6]
      exact W.iret hx hb hr (fun t2 ht2 hW => by rw [hsp]; exact ⟨rfl, by rw [ht2]; exact hP, hS.F ht2⟩) hS.2.2 dX13_told_110 hlocks
    by_cases c_7 : what = 5
    · refine lv_tableIn (off := 88) (tgt := 104) hx hb dX13_told_16 (by rw [c_7]; decide) (by rw [c_7]; decide) (by rw [c_7]; rfl) (by decide) ?_
      refine lv_aload_n hx hb dX13_told_104 rfl (lv_at hl 0 rfl) ?_
      refine lv_iload_n hx hb dX13_told_105 rfl (lv_at hl 1 rfl) ?_
      refine lv_iload_n hx hb dX13_told_106 rfl (lv_at hl 2 rfl) ?_
      refine m_rd S hK hP (As := [.int ticket, .int what]) (rest := []) (cM_of l D cI cJ ad Z _ ticket what (tok_of hC c_1) 5 c_7 (by decide)) (cwV 2 hts gX13_told_X13_of rfl rfl rfl (by decide +kernel) ⟨Nat.le_of_ble_eq_true rfl, Nat.le_of_ble_eq_true rfl⟩) rfl hl.1 rfl (Nat.le_of_ble_eq_true rfl) dX13_told_107 ⟨Nat.zero_le _, Nat.zero_le _⟩ ?_
      have hsp : sp_told Z ticket what = tk Z (tN ticket) 5 := by unfold sp_told; rw [if_neg c_1, if_neg c_2, if_neg c_3, if_neg c_4, if_neg c_5, if_neg c_6, if_pos c_7]
      exact W.iret hx hb hr (fun t2 ht2 hW => by rw [hsp]; exact ⟨rfl, by rw [ht2]; exact hP, hS.F ht2⟩) hS.2.2 dX13_told_110 hlocks
    by_cases c_8 : what = 6
    · refine lv_tableIn (off := 88) (tgt := 104) hx hb dX13_told_16 (by rw [c_8]; decide) (by rw [c_8]; decide) (by rw [c_8]; rfl) (by decide) ?_
      refine lv_aload_n hx hb dX13_told_104 rfl (lv_at hl 0 rfl) ?_
      refine lv_iload_n hx hb dX13_told_105 rfl (lv_at hl 1 rfl) ?_
      refine lv_iload_n hx hb dX13_told_106 rfl (lv_at hl 2 rfl) ?_
      refine m_rd S hK hP (As := [.int ticket, .int what]) (rest := []) (cM_of l D cI cJ ad Z _ ticket what (tok_of hC c_1) 6 c_8 (by decide)) (cwV 2 hts gX13_told_X13_of rfl rfl rfl (by decide +kernel) ⟨Nat.le_of_ble_eq_true rfl, Nat.le_of_ble_eq_true rfl⟩) rfl hl.1 rfl (Nat.le_of_ble_eq_true rfl) dX13_told_107 ⟨Nat.zero_le _, Nat.zero_le _⟩ ?_
      have hsp : sp_told Z ticket what = tk Z (tN ticket) 6 := by unfold sp_told; rw [if_neg c_1, if_neg c_2, if_neg c_3, if_neg c_4, if_neg c_5, if_neg c_6, if_neg c_7, if_pos c_8]
      exact W.iret hx hb hr (fun t2 ht2 hW => by rw [hsp]; exact ⟨rfl, by rw [ht2]; exact hP, hS.F ht2⟩) hS.2.2 dX13_told_110 hlocks
    by_cases c_9 : what = 7
    · refine lv_tableIn (off := 88) (tgt := 104) hx hb dX13_told_16 (by rw [c_9]; decide) (by rw [c_9]; decide) (by rw [c_9]; rfl) (by decide) ?_
      refine lv_aload_n hx hb dX13_told_104 rfl (lv_at hl 0 rfl) ?_
      refine lv_iload_n hx hb dX13_told_105 rfl (lv_at hl 1 rfl) ?_
      refine lv_iload_n hx hb dX13_told_106 rfl (lv_at hl 2 rfl) ?_
      refine m_rd S hK hP (As := [.int ticket, .int what]) (rest := []) (cM_of l D cI cJ ad Z _ ticket what (tok_of hC c_1) 7 c_9 (by decide)) (cwV 2 hts gX13_told_X13_of rfl rfl rfl (by decide +kernel) ⟨Nat.le_of_ble_eq_true rfl, Nat.le_of_ble_eq_true rfl⟩) rfl hl.1 rfl (Nat.le_of_ble_eq_true rfl) dX13_told_107 ⟨Nat.zero_le _, Nat.zero_le _⟩ ?_
      have hsp : sp_told Z ticket what = tk Z (tN ticket) 7 := by unfold sp_told; rw [if_neg c_1, if_neg c_2, if_neg c_3, if_neg c_4, if_neg c_5, if_neg c_6, if_neg c_7, if_neg c_8, if_pos c_9]
      exact W.iret hx hb hr (fun t2 ht2 hW => by rw [hsp]; exact ⟨rfl, by rw [ht2]; exact hP, hS.F ht2⟩) hS.2.2 dX13_told_110 hlocks
    by_cases c_10 : what = 8
    · refine lv_tableIn (off := 95) (tgt := 111) hx hb dX13_told_16 (by rw [c_10]; decide) (by rw [c_10]; decide) (by rw [c_10]; rfl) (by decide) ?_
      refine lv_aload_n hx hb dX13_told_111 rfl (lv_at hl 0 rfl) ?_
      refine lv_iload_n hx hb dX13_told_112 rfl (lv_at hl 1 rfl) ?_
      refine m_rd S hK hP (As := [.int ticket]) (rest := []) (cM_firstDay l D cI cJ ad Z _ ticket (tok_of hC c_1)) (cwV 1 hts gX13_told_X13_firstDay rfl rfl rfl (by decide +kernel) ⟨Nat.le_of_ble_eq_true rfl, Nat.le_of_ble_eq_true rfl⟩) rfl hl.1 rfl (Nat.le_of_ble_eq_true rfl) dX13_told_113 ⟨Nat.zero_le _, Nat.zero_le _⟩ ?_
      have hsp : sp_told Z ticket what = sp_firstDay Z ticket := by unfold sp_told; rw [if_neg c_1, if_neg c_2, if_neg c_3, if_neg c_4, if_neg c_5, if_neg c_6, if_neg c_7, if_neg c_8, if_neg c_9, if_pos c_10]
      exact W.iret hx hb hr (fun t2 ht2 hW => by rw [hsp]; exact ⟨rfl, by rw [ht2]; exact hP, hS.F ht2⟩) hS.2.2 dX13_told_116 hlocks
    by_cases c_11 : what = 9
    · refine lv_tableIn (off := 101) (tgt := 117) hx hb dX13_told_16 (by rw [c_11]; decide) (by rw [c_11]; decide) (by rw [c_11]; rfl) (by decide) ?_
      refine lv_aload_n hx hb dX13_told_117 rfl (lv_at hl 0 rfl) ?_
      refine lv_iload_n hx hb dX13_told_118 rfl (lv_at hl 1 rfl) ?_
      refine m_rd S hK hP (As := [.int ticket]) (rest := []) (cM_isClaimed l D cI cJ ad Z _ ticket (tok_of hC c_1)) (cwV 1 hts gX13_told_X13_isClaimed rfl rfl rfl (by decide +kernel) ⟨Nat.le_of_ble_eq_true rfl, Nat.le_of_ble_eq_true rfl⟩) rfl hl.1 rfl (Nat.le_of_ble_eq_true rfl) dX13_told_119 ⟨Nat.zero_le _, Nat.zero_le _⟩ ?_
      refine lv_if_eq (tgt := 129) hx hb dX13_told_122 (by decide) (fun c_12 => ?_) (fun c_12 => ?_)
      · refine lv_iconst (v := 0) hx hb dX13_told_129 (by decide) ?_
        have hsp : sp_told Z ticket what = 0 := by unfold sp_told; rw [if_neg c_1, if_neg c_2, if_neg c_3, if_neg c_4, if_neg c_5, if_neg c_6, if_neg c_7, if_neg c_8, if_neg c_9, if_neg c_10, if_pos c_11, if_pos c_12]
        exact W.iret hx hb hr (fun t2 ht2 hW => by rw [hsp]; exact ⟨rfl, by rw [ht2]; exact hP, hS.F ht2⟩) hS.2.2 dX13_told_130 hlocks
      · refine lv_iconst (v := 1) hx hb dX13_told_125 (by decide) ?_
        refine lv_goto (tgt := 130) hx hb dX13_told_126 (by decide) ?_
        have hsp : sp_told Z ticket what = 1 := by unfold sp_told; rw [if_neg c_1, if_neg c_2, if_neg c_3, if_neg c_4, if_neg c_5, if_neg c_6, if_neg c_7, if_neg c_8, if_neg c_9, if_neg c_10, if_pos c_11, if_neg c_12]
        exact W.iret hx hb hr (fun t2 ht2 hW => by rw [hsp]; exact ⟨rfl, by rw [ht2]; exact hP, hS.F ht2⟩) hS.2.2 dX13_told_130 hlocks
    by_cases c_13 : what = 10
    · refine lv_tableIn (off := 115) (tgt := 131) hx hb dX13_told_16 (by rw [c_13]; decide) (by rw [c_13]; decide) (by rw [c_13]; rfl) (by decide) ?_
      refine lv_aload_n hx hb dX13_told_131 rfl (lv_at hl 0 rfl) ?_
      refine lv_iload_n hx hb dX13_told_132 rfl (lv_at hl 1 rfl) ?_
      refine lv_bipush (v := 9) hx hb dX13_told_133 (by decide) ?_
      refine m_rd S hK hP (As := [.int ticket, .int 9]) (rest := []) (cM_of l D cI cJ ad Z _ ticket 9 (tok_of hC c_1) 9 rfl (by decide)) (cwV 2 hts gX13_told_X13_of rfl rfl rfl (by decide +kernel) ⟨Nat.le_of_ble_eq_true rfl, Nat.le_of_ble_eq_true rfl⟩) rfl hl.1 rfl (Nat.le_of_ble_eq_true rfl) dX13_told_135 ⟨Nat.zero_le _, Nat.zero_le _⟩ ?_
      have hsp : sp_told Z ticket what = tk Z (tN ticket) 9 := by unfold sp_told; rw [if_neg c_1, if_neg c_2, if_neg c_3, if_neg c_4, if_neg c_5, if_neg c_6, if_neg c_7, if_neg c_8, if_neg c_9, if_neg c_10, if_neg c_11, if_pos c_13]
      exact W.iret hx hb hr (fun t2 ht2 hW => by rw [hsp]; exact ⟨rfl, by rw [ht2]; exact hP, hS.F ht2⟩) hS.2.2 dX13_told_138 hlocks
    by_cases c_14 : what = 11
    · refine lv_tableIn (off := 123) (tgt := 139) hx hb dX13_told_16 (by rw [c_14]; decide) (by rw [c_14]; decide) (by rw [c_14]; rfl) (by decide) ?_
      refine lv_aload_n hx hb dX13_told_139 rfl (lv_at hl 0 rfl) ?_
      refine lv_iload_n hx hb dX13_told_140 rfl (lv_at hl 1 rfl) ?_
      refine lv_bipush (v := 10) hx hb dX13_told_141 (by decide) ?_
      refine m_rd S hK hP (As := [.int ticket, .int 10]) (rest := []) (cM_of l D cI cJ ad Z _ ticket 10 (tok_of hC c_1) 10 rfl (by decide)) (cwV 2 hts gX13_told_X13_of rfl rfl rfl (by decide +kernel) ⟨Nat.le_of_ble_eq_true rfl, Nat.le_of_ble_eq_true rfl⟩) rfl hl.1 rfl (Nat.le_of_ble_eq_true rfl) dX13_told_143 ⟨Nat.zero_le _, Nat.zero_le _⟩ ?_
      have hsp : sp_told Z ticket what = tk Z (tN ticket) 10 := by unfold sp_told; rw [if_neg c_1, if_neg c_2, if_neg c_3, if_neg c_4, if_neg c_5, if_neg c_6, if_neg c_7, if_neg c_8, if_neg c_9, if_neg c_10, if_neg c_11, if_neg c_13, if_pos c_14]
      exact W.iret hx hb hr (fun t2 ht2 hW => by rw [hsp]; exact ⟨rfl, by rw [ht2]; exact hP, hS.F ht2⟩) hS.2.2 dX13_told_146 hlocks
    by_cases c_15 : what = 12
    · refine lv_tableIn (off := 131) (tgt := 147) hx hb dX13_told_16 (by rw [c_15]; decide) (by rw [c_15]; decide) (by rw [c_15]; rfl) (by decide) ?_
      refine lv_aload_n hx hb dX13_told_147 rfl (lv_at hl 0 rfl) ?_
      refine lv_iload_n hx hb dX13_told_148 rfl (lv_at hl 1 rfl) ?_
      refine lv_bipush (v := 12) hx hb dX13_told_149 (by decide) ?_
      refine m_rd S hK hP (As := [.int ticket, .int 12]) (rest := []) (cM_of l D cI cJ ad Z _ ticket 12 (tok_of hC c_1) 12 rfl (by decide)) (cwV 2 hts gX13_told_X13_of rfl rfl rfl (by decide +kernel) ⟨Nat.le_of_ble_eq_true rfl, Nat.le_of_ble_eq_true rfl⟩) rfl hl.1 rfl (Nat.le_of_ble_eq_true rfl) dX13_told_151 ⟨Nat.zero_le _, Nat.zero_le _⟩ ?_
      have hsp : sp_told Z ticket what = tk Z (tN ticket) 12 := by unfold sp_told; rw [if_neg c_1, if_neg c_2, if_neg c_3, if_neg c_4, if_neg c_5, if_neg c_6, if_neg c_7, if_neg c_8, if_neg c_9, if_neg c_10, if_neg c_11, if_neg c_13, if_neg c_14, if_pos c_15]
      exact W.iret hx hb hr (fun t2 ht2 hW => by rw [hsp]; exact ⟨rfl, by rw [ht2]; exact hP, hS.F ht2⟩) hS.2.2 dX13_told_154 hlocks
    by_cases c_16 : what = 13
    · refine lv_tableIn (off := 139) (tgt := 155) hx hb dX13_told_16 (by rw [c_16]; decide) (by rw [c_16]; decide) (by rw [c_16]; rfl) (by decide) ?_
      refine lv_aload_n hx hb dX13_told_155 rfl (lv_at hl 0 rfl) ?_
      refine lv_iload_n hx hb dX13_told_156 rfl (lv_at hl 1 rfl) ?_
      refine lv_bipush (v := 13) hx hb dX13_told_157 (by decide) ?_
      refine m_rd S hK hP (As := [.int ticket, .int 13]) (rest := []) (cM_of l D cI cJ ad Z _ ticket 13 (tok_of hC c_1) 13 rfl (by decide)) (cwV 2 hts gX13_told_X13_of rfl rfl rfl (by decide +kernel) ⟨Nat.le_of_ble_eq_true rfl, Nat.le_of_ble_eq_true rfl⟩) rfl hl.1 rfl (Nat.le_of_ble_eq_true rfl) dX13_told_159 ⟨Nat.zero_le _, Nat.zero_le _⟩ ?_
      refine lv_iconst (v := 1) hx hb dX13_told_162 (by decide) ?_
      refine lv_icmp_ne (tgt := 170) hx hb dX13_told_163 (by decide) (fun c_17 => ?_) (fun c_17 => ?_)
      · refine lv_aload_n hx hb dX13_told_170 rfl (lv_at hl 0 rfl) ?_
        refine lv_iload_n hx hb dX13_told_171 rfl (lv_at hl 1 rfl) ?_
        refine lv_bipush (v := 12) hx hb dX13_told_172 (by decide) ?_
        refine m_rd S hK hP (As := [.int ticket, .int 12]) (rest := []) (cM_of l D cI cJ ad Z _ ticket 12 (tok_of hC c_1) 12 rfl (by decide)) (cwV 2 hts gX13_told_X13_of rfl rfl rfl (by decide +kernel) ⟨Nat.le_of_ble_eq_true rfl, Nat.le_of_ble_eq_true rfl⟩) rfl hl.1 rfl (Nat.le_of_ble_eq_true rfl) dX13_told_174 ⟨Nat.zero_le _, Nat.zero_le _⟩ ?_
        refine lv_if_le (tgt := 198) hx hb dX13_told_177 (by decide) (fun c_18 => ?_) (fun c_18 => ?_)
        · refine lv_iconst (v := 0) hx hb dX13_told_198 (by decide) ?_
          have hsp : sp_told Z ticket what = 0 := by unfold sp_told; rw [if_neg c_1, if_neg c_2, if_neg c_3, if_neg c_4, if_neg c_5, if_neg c_6, if_neg c_7, if_neg c_8, if_neg c_9, if_neg c_10, if_neg c_11, if_neg c_13, if_neg c_14, if_neg c_15, if_pos c_16, if_neg c_17, if_pos c_18]
          exact W.iret hx hb hr (fun t2 ht2 hW => by rw [hsp]; exact ⟨rfl, by rw [ht2]; exact hP, hS.F ht2⟩) hS.2.2 dX13_told_199 hlocks
        · refine lv_aload_n hx hb dX13_told_180 rfl (lv_at hl 0 rfl) ?_
          refine m_rd S hK hP (As := []) (rest := []) (cM_today l D cI cJ ad Z _) (cwV 0 hts gX13_told_X13_today rfl rfl rfl (by decide +kernel) ⟨Nat.le_of_ble_eq_true rfl, Nat.le_of_ble_eq_true rfl⟩) rfl hl.1 rfl (Nat.le_of_ble_eq_true rfl) dX13_told_181 ⟨Nat.zero_le _, Nat.zero_le _⟩ ?_
          refine lv_aload_n hx hb dX13_told_184 rfl (lv_at hl 0 rfl) ?_
          refine lv_iload_n hx hb dX13_told_185 rfl (lv_at hl 1 rfl) ?_
          refine lv_bipush (v := 14) hx hb dX13_told_186 (by decide) ?_
          refine m_rd S hK hP (As := [.int ticket, .int 14]) (rest := [.int (zh Z 0)]) (cM_of l D cI cJ ad Z _ ticket 14 (tok_of hC c_1) 14 rfl (by decide)) (cwV 2 hts gX13_told_X13_of rfl rfl rfl (by decide +kernel) ⟨Nat.le_of_ble_eq_true rfl, Nat.le_of_ble_eq_true rfl⟩) rfl hl.1 rfl (Nat.le_of_ble_eq_true rfl) dX13_told_188 ⟨Nat.zero_le _, Nat.zero_le _⟩ ?_
          refine lv_icmp_le (tgt := 198) hx hb dX13_told_191 (by decide) (fun c_19 => ?_) (fun c_19 => ?_)
          · refine lv_iconst (v := 0) hx hb dX13_told_198 (by decide) ?_
            have hsp : sp_told Z ticket what = 0 := by unfold sp_told; rw [if_neg c_1, if_neg c_2, if_neg c_3, if_neg c_4, if_neg c_5, if_neg c_6, if_neg c_7, if_neg c_8, if_neg c_9, if_neg c_10, if_neg c_11, if_neg c_13, if_neg c_14, if_neg c_15, if_pos c_16, if_neg c_17, if_neg c_18, if_pos c_19]
            exact W.iret hx hb hr (fun t2 ht2 hW => by rw [hsp]; exact ⟨rfl, by rw [ht2]; exact hP, hS.F ht2⟩) hS.2.2 dX13_told_199 hlocks
          · refine lv_iconst (v := 2) hx hb dX13_told_194 (by decide) ?_
            refine lv_goto (tgt := 199) hx hb dX13_told_195 (by decide) ?_
            have hsp : sp_told Z ticket what = 2 := by unfold sp_told; rw [if_neg c_1, if_neg c_2, if_neg c_3, if_neg c_4, if_neg c_5, if_neg c_6, if_neg c_7, if_neg c_8, if_neg c_9, if_neg c_10, if_neg c_11, if_neg c_13, if_neg c_14, if_neg c_15, if_pos c_16, if_neg c_17, if_neg c_18, if_neg c_19]
            exact W.iret hx hb hr (fun t2 ht2 hW => by rw [hsp]; exact ⟨rfl, by rw [ht2]; exact hP, hS.F ht2⟩) hS.2.2 dX13_told_199 hlocks
      · refine lv_iconst (v := 1) hx hb dX13_told_166 (by decide) ?_
        refine lv_goto (tgt := 199) hx hb dX13_told_167 (by decide) ?_
        have hsp : sp_told Z ticket what = 1 := by unfold sp_told; rw [if_neg c_1, if_neg c_2, if_neg c_3, if_neg c_4, if_neg c_5, if_neg c_6, if_neg c_7, if_neg c_8, if_neg c_9, if_neg c_10, if_neg c_11, if_neg c_13, if_neg c_14, if_neg c_15, if_pos c_16, if_pos c_17]
        exact W.iret hx hb hr (fun t2 ht2 hW => by rw [hsp]; exact ⟨rfl, by rw [ht2]; exact hP, hS.F ht2⟩) hS.2.2 dX13_told_199 hlocks
    by_cases c_20 : what = 14
    · refine lv_tableIn (off := 184) (tgt := 200) hx hb dX13_told_16 (by rw [c_20]; decide) (by rw [c_20]; decide) (by rw [c_20]; rfl) (by decide) ?_
      refine lv_aload_n hx hb dX13_told_200 rfl (lv_at hl 0 rfl) ?_
      refine lv_iload_n hx hb dX13_told_201 rfl (lv_at hl 1 rfl) ?_
      refine lv_bipush (v := 15) hx hb dX13_told_202 (by decide) ?_
      refine m_rd S hK hP (As := [.int ticket, .int 15]) (rest := []) (cM_of l D cI cJ ad Z _ ticket 15 (tok_of hC c_1) 15 rfl (by decide)) (cwV 2 hts gX13_told_X13_of rfl rfl rfl (by decide +kernel) ⟨Nat.le_of_ble_eq_true rfl, Nat.le_of_ble_eq_true rfl⟩) rfl hl.1 rfl (Nat.le_of_ble_eq_true rfl) dX13_told_204 ⟨Nat.zero_le _, Nat.zero_le _⟩ ?_
      have hsp : sp_told Z ticket what = tk Z (tN ticket) 15 := by unfold sp_told; rw [if_neg c_1, if_neg c_2, if_neg c_3, if_neg c_4, if_neg c_5, if_neg c_6, if_neg c_7, if_neg c_8, if_neg c_9, if_neg c_10, if_neg c_11, if_neg c_13, if_neg c_14, if_neg c_15, if_neg c_16, if_pos c_20]
      exact W.iret hx hb hr (fun t2 ht2 hW => by rw [hsp]; exact ⟨rfl, by rw [ht2]; exact hP, hS.F ht2⟩) hS.2.2 dX13_told_207 hlocks
    by_cases c_21 : what = 15
    · refine lv_tableIn (off := 192) (tgt := 208) hx hb dX13_told_16 (by rw [c_21]; decide) (by rw [c_21]; decide) (by rw [c_21]; rfl) (by decide) ?_
      refine lv_aload_n hx hb dX13_told_208 rfl (lv_at hl 0 rfl) ?_
      refine lv_iload_n hx hb dX13_told_209 rfl (lv_at hl 1 rfl) ?_
      refine lv_bipush (v := 16) hx hb dX13_told_210 (by decide) ?_
      refine m_rd S hK hP (As := [.int ticket, .int 16]) (rest := []) (cM_of l D cI cJ ad Z _ ticket 16 (tok_of hC c_1) 16 rfl (by decide)) (cwV 2 hts gX13_told_X13_of rfl rfl rfl (by decide +kernel) ⟨Nat.le_of_ble_eq_true rfl, Nat.le_of_ble_eq_true rfl⟩) rfl hl.1 rfl (Nat.le_of_ble_eq_true rfl) dX13_told_212 ⟨Nat.zero_le _, Nat.zero_le _⟩ ?_
      refine lv_if_ne (tgt := 222) hx hb dX13_told_215 (by decide) (fun c_22 => ?_) (fun c_22 => ?_)
      · refine lv_iload_n hx hb dX13_told_222 rfl (lv_at hl 1 rfl) ?_
        have hsp : sp_told Z ticket what = ticket := by unfold sp_told; rw [if_neg c_1, if_neg c_2, if_neg c_3, if_neg c_4, if_neg c_5, if_neg c_6, if_neg c_7, if_neg c_8, if_neg c_9, if_neg c_10, if_neg c_11, if_neg c_13, if_neg c_14, if_neg c_15, if_neg c_16, if_neg c_20, if_pos c_21, if_neg c_22]
        exact W.iret hx hb hr (fun t2 ht2 hW => by rw [hsp]; exact ⟨rfl, by rw [ht2]; exact hP, hS.F ht2⟩) hS.2.2 dX13_told_223 hlocks
      · refine lv_iconst (v := (-1)) hx hb dX13_told_218 (by decide) ?_
        refine lv_goto (tgt := 223) hx hb dX13_told_219 (by decide) ?_
        have hsp : sp_told Z ticket what = (-1) := by unfold sp_told; rw [if_neg c_1, if_neg c_2, if_neg c_3, if_neg c_4, if_neg c_5, if_neg c_6, if_neg c_7, if_neg c_8, if_neg c_9, if_neg c_10, if_neg c_11, if_neg c_13, if_neg c_14, if_neg c_15, if_neg c_16, if_neg c_20, if_pos c_21, if_pos c_22]
        exact W.iret hx hb hr (fun t2 ht2 hW => by rw [hsp]; exact ⟨rfl, by rw [ht2]; exact hP, hS.F ht2⟩) hS.2.2 dX13_told_223 hlocks
    by_cases c_23 : what = 16
    · refine lv_tableIn (off := 208) (tgt := 224) hx hb dX13_told_16 (by rw [c_23]; decide) (by rw [c_23]; decide) (by rw [c_23]; rfl) (by decide) ?_
      refine lv_aload_n hx hb dX13_told_224 rfl (lv_at hl 0 rfl) ?_
      refine lv_iload_n hx hb dX13_told_225 rfl (lv_at hl 1 rfl) ?_
      refine lv_bipush (v := 16) hx hb dX13_told_226 (by decide) ?_
      refine m_rd S hK hP (As := [.int ticket, .int 16]) (rest := []) (cM_of l D cI cJ ad Z _ ticket 16 (tok_of hC c_1) 16 rfl (by decide)) (cwV 2 hts gX13_told_X13_of rfl rfl rfl (by decide +kernel) ⟨Nat.le_of_ble_eq_true rfl, Nat.le_of_ble_eq_true rfl⟩) rfl hl.1 rfl (Nat.le_of_ble_eq_true rfl) dX13_told_228 ⟨Nat.zero_le _, Nat.zero_le _⟩ ?_
      refine lv_iconst (v := (-1)) hx hb dX13_told_231 (by decide) ?_
      refine lv_icmp_ne (tgt := 245) hx hb dX13_told_232 (by decide) (fun c_24 => ?_) (fun c_24 => ?_)
      · refine lv_iconst (v := (-1)) hx hb dX13_told_245 (by decide) ?_
        have hsp : sp_told Z ticket what = (-1) := by unfold sp_told; rw [if_neg c_1, if_neg c_2, if_neg c_3, if_neg c_4, if_neg c_5, if_neg c_6, if_neg c_7, if_neg c_8, if_neg c_9, if_neg c_10, if_neg c_11, if_neg c_13, if_neg c_14, if_neg c_15, if_neg c_16, if_neg c_20, if_neg c_21, if_pos c_23, if_neg c_24]
        exact W.iret hx hb hr (fun t2 ht2 hW => by rw [hsp]; exact ⟨rfl, by rw [ht2]; exact hP, hS.F ht2⟩) hS.2.2 dX13_told_246 hlocks
      · refine lv_aload_n hx hb dX13_told_235 rfl (lv_at hl 0 rfl) ?_
        refine lv_iload_n hx hb dX13_told_236 rfl (lv_at hl 1 rfl) ?_
        refine lv_bipush (v := 17) hx hb dX13_told_237 (by decide) ?_
        refine m_rd S hK hP (As := [.int ticket, .int 17]) (rest := []) (cM_of l D cI cJ ad Z _ ticket 17 (tok_of hC c_1) 17 rfl (by decide)) (cwV 2 hts gX13_told_X13_of rfl rfl rfl (by decide +kernel) ⟨Nat.le_of_ble_eq_true rfl, Nat.le_of_ble_eq_true rfl⟩) rfl hl.1 rfl (Nat.le_of_ble_eq_true rfl) dX13_told_239 ⟨Nat.zero_le _, Nat.zero_le _⟩ ?_
        refine lv_goto (tgt := 246) hx hb dX13_told_242 (by decide) ?_
        have hsp : sp_told Z ticket what = tk Z (tN ticket) 17 := by unfold sp_told; rw [if_neg c_1, if_neg c_2, if_neg c_3, if_neg c_4, if_neg c_5, if_neg c_6, if_neg c_7, if_neg c_8, if_neg c_9, if_neg c_10, if_neg c_11, if_neg c_13, if_neg c_14, if_neg c_15, if_neg c_16, if_neg c_20, if_neg c_21, if_pos c_23, if_pos c_24]
        exact W.iret hx hb hr (fun t2 ht2 hW => by rw [hsp]; exact ⟨rfl, by rw [ht2]; exact hP, hS.F ht2⟩) hS.2.2 dX13_told_246 hlocks
    by_cases c_25 : what = 17
    · refine lv_tableIn (off := 231) (tgt := 247) hx hb dX13_told_16 (by rw [c_25]; decide) (by rw [c_25]; decide) (by rw [c_25]; rfl) (by decide) ?_
      refine lv_aload_n hx hb dX13_told_247 rfl (lv_at hl 0 rfl) ?_
      refine lv_iload_n hx hb dX13_told_248 rfl (lv_at hl 1 rfl) ?_
      refine lv_bipush (v := 18) hx hb dX13_told_249 (by decide) ?_
      refine m_rd S hK hP (As := [.int ticket, .int 18]) (rest := []) (cM_of l D cI cJ ad Z _ ticket 18 (tok_of hC c_1) 18 rfl (by decide)) (cwV 2 hts gX13_told_X13_of rfl rfl rfl (by decide +kernel) ⟨Nat.le_of_ble_eq_true rfl, Nat.le_of_ble_eq_true rfl⟩) rfl hl.1 rfl (Nat.le_of_ble_eq_true rfl) dX13_told_251 ⟨Nat.zero_le _, Nat.zero_le _⟩ ?_
      have hsp : sp_told Z ticket what = tk Z (tN ticket) 18 := by unfold sp_told; rw [if_neg c_1, if_neg c_2, if_neg c_3, if_neg c_4, if_neg c_5, if_neg c_6, if_neg c_7, if_neg c_8, if_neg c_9, if_neg c_10, if_neg c_11, if_neg c_13, if_neg c_14, if_neg c_15, if_neg c_16, if_neg c_20, if_neg c_21, if_neg c_23, if_pos c_25]
      exact W.iret hx hb hr (fun t2 ht2 hW => by rw [hsp]; exact ⟨rfl, by rw [ht2]; exact hP, hS.F ht2⟩) hS.2.2 dX13_told_254 hlocks
    have q_0 : ¬ (what).toInt = 0 := fun h => c_2 (sw_eq (v := 0) (by decide) h)
    have q_1 : ¬ (what).toInt = 1 := fun h => c_3 (sw_eq (v := 1) (by decide) h)
    have q_2 : ¬ (what).toInt = 2 := fun h => c_4 (sw_eq (v := 2) (by decide) h)
    have q_3 : ¬ (what).toInt = 3 := fun h => c_5 (sw_eq (v := 3) (by decide) h)
    have q_4 : ¬ (what).toInt = 4 := fun h => c_6 (sw_eq (v := 4) (by decide) h)
    have q_5 : ¬ (what).toInt = 5 := fun h => c_7 (sw_eq (v := 5) (by decide) h)
    have q_6 : ¬ (what).toInt = 6 := fun h => c_8 (sw_eq (v := 6) (by decide) h)
    have q_7 : ¬ (what).toInt = 7 := fun h => c_9 (sw_eq (v := 7) (by decide) h)
    have q_8 : ¬ (what).toInt = 8 := fun h => c_10 (sw_eq (v := 8) (by decide) h)
    have q_9 : ¬ (what).toInt = 9 := fun h => c_11 (sw_eq (v := 9) (by decide) h)
    have q_10 : ¬ (what).toInt = 10 := fun h => c_13 (sw_eq (v := 10) (by decide) h)
    have q_11 : ¬ (what).toInt = 11 := fun h => c_14 (sw_eq (v := 11) (by decide) h)
    have q_12 : ¬ (what).toInt = 12 := fun h => c_15 (sw_eq (v := 12) (by decide) h)
    have q_13 : ¬ (what).toInt = 13 := fun h => c_16 (sw_eq (v := 13) (by decide) h)
    have q_14 : ¬ (what).toInt = 14 := fun h => c_20 (sw_eq (v := 14) (by decide) h)
    have q_15 : ¬ (what).toInt = 15 := fun h => c_21 (sw_eq (v := 15) (by decide) h)
    have q_16 : ¬ (what).toInt = 16 := fun h => c_23 (sw_eq (v := 16) (by decide) h)
    have q_17 : ¬ (what).toInt = 17 := fun h => c_25 (sw_eq (v := 17) (by decide) h)
    refine lv_tableOut (tgt := 255) hx hb dX13_told_16 (by omega) (by decide) ?_
    refine lv_iconst (v := (-1)) hx hb dX13_told_255 (by decide) ?_
    have hsp : sp_told Z ticket what = (-1) := by unfold sp_told; rw [if_neg c_1, if_neg c_2, if_neg c_3, if_neg c_4, if_neg c_5, if_neg c_6, if_neg c_7, if_neg c_8, if_neg c_9, if_neg c_10, if_neg c_11, if_neg c_13, if_neg c_14, if_neg c_15, if_neg c_16, if_neg c_20, if_neg c_21, if_neg c_23, if_neg c_25]
    exact W.iret hx hb hr (fun t2 ht2 hW => by rw [hsp]; exact ⟨rfl, by rw [ht2]; exact hP, hS.F ht2⟩) hS.2.2 dX13_told_256 hlocks
  · refine lv_iconst (v := (-1)) hx hb dX13_told_13 (by decide) ?_
    have hsp : sp_told Z ticket what = (-1) := by unfold sp_told; rw [if_pos c_1]
    exact W.iret hx hb hr (fun t2 ht2 hW => by rw [hsp]; exact ⟨rfl, by rw [ht2]; exact hP, hS.F ht2⟩) hS.2.2 dX13_told_14 hlocks
def sp_place (Z : mZ) (place : Int32) (what : Int32) : Int64 :=
  if (sp_isPlace place) = 0 then
    (-1)
  else
    if what < 0 then
      (-1)
    else
      if what ≤ 6 then
        if what = 0 then
          (sh Z (tN place) 0).toInt64
        else
          if what = 1 then
            sp_worth Z place
          else
            if what = 2 then
              (sh Z (tN place) 1).toInt64
            else
              if what = 3 then
                (sh Z (tN place) 6).toInt64
              else
                if what = 4 then
                  (sh Z (tN place) 7).toInt64
                else
                  if what = 5 then
                    if (sh Z (tN place) 0) = 2 then
                      (sp_items Z place).toInt64
                    else
                      0
                  else
                    if (sh Z (tN place) 0) = 4 then
                      (sh Z (tN place) 8).toInt64
                    else
                      0
      else
        (-1)
set_option maxHeartbeats 4000000 in
set_option maxRecDepth 100000 in
theorem cM_place (l : Launch) (D : va_G) (cI cJ : ClassId) (ad : Nat → Nat) (Z : mZ) (sz : Nat) (hi : mI ad) (place : Int32) (what : Int32) : Met l yX13_place wsX13_place ({ frames := 2, cells := 0, slots := 0, locals := 46 }) (mPc [.ref (ad 0), .int place, .int what] D cI cJ ad Z sz) (mQ D cI cJ ad (some (.long (sp_place Z place what))) Z sz) 0 0 (mA ad sz) := by
  refine m_in (cc := cX13_place) (maxL := 4) (ret := (some .long)) (lv := [(0, .ref (ad 0)), (1, .int place), (2, .int what)]) (by decide) rfl (Nat.le_of_ble_eq_true rfl) rfl ?_
  intro p e s m below meth c ls S hr hlocks hin hsz hP hK hl hS
  subst hsz
  obtain ⟨hx, hb, hml, hown, hts⟩ := id S
  have hX13 : ∀ w ∈ wsX130, w ∈ wsX13_place := by decide +kernel
  refine lv_aload_n hx hb dX13_place_0 rfl (lv_at hl 0 rfl) ?_
  refine lv_iconst (v := 0) hx hb dX13_place_1 (by decide) ?_
  refine va_put (D := D) (ci := 11) (v := .int 0) (ty := .int) (C := RX13) (T := TX13) (N := 6) hx hb hts hX13 tyX13 tyX13_ok nmX13 hown hK.1 hP (wM_D hi s.heap.size _) hS 0 rfl rfl 4 (by decide) (hts (.fieldLink RX13 34 "PledgeHouseModel" "thrown" "I") (by decide +kernel)) (fun _ h9 => h9) rfl (by decide +kernel) rfl rfl (Nat.le_of_ble_eq_true rfl) dX13_place_2 (fun H locs hP _ hS => ?_)
  have hP : va_P D vwCl (wM ad cI cJ Z) H := hP
  refine lv_iload_n hx hb dX13_place_5 rfl (lv_at hl 1 rfl) ?_
  refine m_st S (As := [.int place]) (rest := []) (cM_isPlace l place ) (cwS 1 hts gX13_place_X13_isPlace rfl rfl rfl (by decide +kernel) ⟨Nat.le_of_ble_eq_true rfl, Nat.le_of_ble_eq_true rfl⟩) rfl hl.1 rfl (Nat.le_of_ble_eq_true rfl) dX13_place_6 ⟨Nat.zero_le _, Nat.zero_le _⟩ ?_
  refine lv_if_eq (tgt := 22) hx hb dX13_place_9 (by decide) (fun c_1 => ?_) (fun c_1 => ?_)
  · refine lv_ldc2 (v := (-1)) hx hb hown (hts (.constantLong RX13 195 (-1)) (by decide +kernel)) dX13_place_22 ?_
    have hsp : sp_place Z place what = (-1) := by unfold sp_place; rw [if_pos c_1]
    exact W.lret hx hb hr (fun t2 ht2 hW => by rw [hsp]; exact ⟨rfl, by rw [ht2]; exact hP, hS.F ht2⟩) hS.2.2 dX13_place_25 hlocks
  · refine lv_iload_n hx hb dX13_place_12 rfl (lv_at hl 2 rfl) ?_
    refine lv_if_lt (tgt := 22) hx hb dX13_place_13 (by decide) (fun c_2 => ?_) (fun c_2 => ?_)
    · refine lv_ldc2 (v := (-1)) hx hb hown (hts (.constantLong RX13 195 (-1)) (by decide +kernel)) dX13_place_22 ?_
      have hsp : sp_place Z place what = (-1) := by unfold sp_place; rw [if_neg c_1, if_pos c_2]
      exact W.lret hx hb hr (fun t2 ht2 hW => by rw [hsp]; exact ⟨rfl, by rw [ht2]; exact hP, hS.F ht2⟩) hS.2.2 dX13_place_25 hlocks
    · refine lv_iload_n hx hb dX13_place_16 rfl (lv_at hl 2 rfl) ?_
      refine lv_bipush (v := 6) hx hb dX13_place_17 (by decide) ?_
      refine lv_icmp_le (tgt := 26) hx hb dX13_place_19 (by decide) (fun c_3 => ?_) (fun c_3 => ?_)
      · refine lv_aload_n hx hb dX13_place_26 rfl (lv_at hl 0 rfl) ?_
        refine lv_iload_n hx hb dX13_place_27 rfl (lv_at hl 1 rfl) ?_
        refine lv_iconst (v := 0) hx hb dX13_place_28 (by decide) ?_
        refine m_rd S hK hP (As := [.int place, .int 0]) (rest := []) (cM_at l D cI cJ ad Z _ place 0 (pok_of c_1) 0 rfl (by decide)) (cwV 2 hts gX13_place_X13_at rfl rfl rfl (by decide +kernel) ⟨Nat.le_of_ble_eq_true rfl, Nat.le_of_ble_eq_true rfl⟩) rfl hl.1 rfl (Nat.le_of_ble_eq_true rfl) dX13_place_29 ⟨Nat.zero_le _, Nat.zero_le _⟩ ?_
        refine lv_istore_n (lv' := [(3, .int (sh Z (tN place) 0)), (0, .ref (ad 0)), (1, .int place), (2, .int what)]) hx hb dX13_place_32 rfl hl (by decide) rfl (fun ls hl => ?_)
        refine lv_iload_n hx hb dX13_place_33 rfl (lv_at hl 3 rfl) ?_
        by_cases c_4 : what = 0
        · refine lv_tableIn (off := 38) (tgt := 72) hx hb dX13_place_34 (by rw [c_4]; decide) (by rw [c_4]; decide) (by rw [c_4]; rfl) (by decide) ?_
          refine lv_iload_n hx hb dX13_place_72 rfl (lv_at hl 0 rfl) ?_
          refine lv_i2l (v := (sh Z (tN place) 0).toInt64) hx hb dX13_place_73 rfl ?_
          have hsp : sp_place Z place what = (sh Z (tN place) 0).toInt64 := by unfold sp_place; rw [if_neg c_1, if_neg c_2, if_pos c_3, if_pos c_4]
          exact W.lret hx hb hr (fun t2 ht2 hW => by rw [hsp]; exact ⟨rfl, by rw [ht2]; exact hP, hS.F ht2⟩) hS.2.2 dX13_place_74 hlocks
        by_cases c_5 : what = 1
        · refine lv_tableIn (off := 41) (tgt := 75) hx hb dX13_place_34 (by rw [c_5]; decide) (by rw [c_5]; decide) (by rw [c_5]; rfl) (by decide) ?_
          refine lv_aload_n hx hb dX13_place_75 rfl (lv_at hl 1 rfl) ?_
          refine lv_iload_n hx hb dX13_place_76 rfl (lv_at hl 2 rfl) ?_
          refine m_rd S hK hP (As := [.int place]) (rest := []) (cM_worth l D cI cJ ad Z _ place (pok_of c_1)) (cwV 1 hts gX13_place_X13_worth rfl rfl rfl (by decide +kernel) ⟨Nat.le_of_ble_eq_true rfl, Nat.le_of_ble_eq_true rfl⟩) rfl hl.1 rfl (Nat.le_of_ble_eq_true rfl) dX13_place_77 ⟨Nat.zero_le _, Nat.zero_le _⟩ ?_
          have hsp : sp_place Z place what = sp_worth Z place := by unfold sp_place; rw [if_neg c_1, if_neg c_2, if_pos c_3, if_neg c_4, if_pos c_5]
          exact W.lret hx hb hr (fun t2 ht2 hW => by rw [hsp]; exact ⟨rfl, by rw [ht2]; exact hP, hS.F ht2⟩) hS.2.2 dX13_place_80 hlocks
        by_cases c_6 : what = 2
        · refine lv_tableIn (off := 47) (tgt := 81) hx hb dX13_place_34 (by rw [c_6]; decide) (by rw [c_6]; decide) (by rw [c_6]; rfl) (by decide) ?_
          refine lv_aload_n hx hb dX13_place_81 rfl (lv_at hl 1 rfl) ?_
          refine lv_iload_n hx hb dX13_place_82 rfl (lv_at hl 2 rfl) ?_
          refine lv_iconst (v := 1) hx hb dX13_place_83 (by decide) ?_
          refine m_rd S hK hP (As := [.int place, .int 1]) (rest := []) (cM_at l D cI cJ ad Z _ place 1 (pok_of c_1) 1 rfl (by decide)) (cwV 2 hts gX13_place_X13_at rfl rfl rfl (by decide +kernel) ⟨Nat.le_of_ble_eq_true rfl, Nat.le_of_ble_eq_true rfl⟩) rfl hl.1 rfl (Nat.le_of_ble_eq_true rfl) dX13_place_84 ⟨Nat.zero_le _, Nat.zero_le _⟩ ?_
          refine lv_i2l (v := (sh Z (tN place) 1).toInt64) hx hb dX13_place_87 rfl ?_
          have hsp : sp_place Z place what = (sh Z (tN place) 1).toInt64 := by unfold sp_place; rw [if_neg c_1, if_neg c_2, if_pos c_3, if_neg c_4, if_neg c_5, if_pos c_6]
          exact W.lret hx hb hr (fun t2 ht2 hW => by rw [hsp]; exact ⟨rfl, by rw [ht2]; exact hP, hS.F ht2⟩) hS.2.2 dX13_place_88 hlocks
        by_cases c_7 : what = 3
        · refine lv_tableIn (off := 55) (tgt := 89) hx hb dX13_place_34 (by rw [c_7]; decide) (by rw [c_7]; decide) (by rw [c_7]; rfl) (by decide) ?_
          refine lv_aload_n hx hb dX13_place_89 rfl (lv_at hl 1 rfl) ?_
          refine lv_iload_n hx hb dX13_place_90 rfl (lv_at hl 2 rfl) ?_
          refine lv_bipush (v := 6) hx hb dX13_place_91 (by decide) ?_
          refine m_rd S hK hP (As := [.int place, .int 6]) (rest := []) (cM_at l D cI cJ ad Z _ place 6 (pok_of c_1) 6 rfl (by decide)) (cwV 2 hts gX13_place_X13_at rfl rfl rfl (by decide +kernel) ⟨Nat.le_of_ble_eq_true rfl, Nat.le_of_ble_eq_true rfl⟩) rfl hl.1 rfl (Nat.le_of_ble_eq_true rfl) dX13_place_93 ⟨Nat.zero_le _, Nat.zero_le _⟩ ?_
          refine lv_i2l (v := (sh Z (tN place) 6).toInt64) hx hb dX13_place_96 rfl ?_
          have hsp : sp_place Z place what = (sh Z (tN place) 6).toInt64 := by unfold sp_place; rw [if_neg c_1, if_neg c_2, if_pos c_3, if_neg c_4, if_neg c_5, if_neg c_6, if_pos c_7]
          exact W.lret hx hb hr (fun t2 ht2 hW => by rw [hsp]; exact ⟨rfl, by rw [ht2]; exact hP, hS.F ht2⟩) hS.2.2 dX13_place_97 hlocks
        by_cases c_8 : what = 4
        · refine lv_tableIn (off := 64) (tgt := 98) hx hb dX13_place_34 (by rw [c_8]; decide) (by rw [c_8]; decide) (by rw [c_8]; rfl) (by decide) ?_
          refine lv_aload_n hx hb dX13_place_98 rfl (lv_at hl 1 rfl) ?_
          refine lv_iload_n hx hb dX13_place_99 rfl (lv_at hl 2 rfl) ?_
          refine lv_bipush (v := 7) hx hb dX13_place_100 (by decide) ?_
          refine m_rd S hK hP (As := [.int place, .int 7]) (rest := []) (cM_at l D cI cJ ad Z _ place 7 (pok_of c_1) 7 rfl (by decide)) (cwV 2 hts gX13_place_X13_at rfl rfl rfl (by decide +kernel) ⟨Nat.le_of_ble_eq_true rfl, Nat.le_of_ble_eq_true rfl⟩) rfl hl.1 rfl (Nat.le_of_ble_eq_true rfl) dX13_place_102 ⟨Nat.zero_le _, Nat.zero_le _⟩ ?_
          refine lv_i2l (v := (sh Z (tN place) 7).toInt64) hx hb dX13_place_105 rfl ?_
          have hsp : sp_place Z place what = (sh Z (tN place) 7).toInt64 := by unfold sp_place; rw [if_neg c_1, if_neg c_2, if_pos c_3, if_neg c_4, if_neg c_5, if_neg c_6, if_neg c_7, if_pos c_8]
          exact W.lret hx hb hr (fun t2 ht2 hW => by rw [hsp]; exact ⟨rfl, by rw [ht2]; exact hP, hS.F ht2⟩) hS.2.2 dX13_place_106 hlocks
        by_cases c_9 : what = 5
        · refine lv_tableIn (off := 73) (tgt := 107) hx hb dX13_place_34 (by rw [c_9]; decide) (by rw [c_9]; decide) (by rw [c_9]; rfl) (by decide) ?_
          refine lv_iload_n hx hb dX13_place_107 rfl (lv_at hl 0 rfl) ?_
          refine lv_iconst (v := 2) hx hb dX13_place_108 (by decide) ?_
          refine lv_icmp_ne (tgt := 121) hx hb dX13_place_109 (by decide) (fun c_10 => ?_) (fun c_10 => ?_)
          · refine lv_lconst (v := 0) hx hb dX13_place_121 (by decide) ?_
            have hsp : sp_place Z place what = 0 := by unfold sp_place; rw [if_neg c_1, if_neg c_2, if_pos c_3, if_neg c_4, if_neg c_5, if_neg c_6, if_neg c_7, if_neg c_8, if_pos c_9, if_neg c_10]
            exact W.lret hx hb hr (fun t2 ht2 hW => by rw [hsp]; exact ⟨rfl, by rw [ht2]; exact hP, hS.F ht2⟩) hS.2.2 dX13_place_122 hlocks
          · refine lv_aload_n hx hb dX13_place_112 rfl (lv_at hl 1 rfl) ?_
            refine lv_iload_n hx hb dX13_place_113 rfl (lv_at hl 2 rfl) ?_
            refine m_rd S hK hP (As := [.int place]) (rest := []) (cM_items l D cI cJ ad Z _ place (pok_of c_1)) (cwV 1 hts gX13_place_X13_items rfl rfl rfl (by decide +kernel) ⟨Nat.le_of_ble_eq_true rfl, Nat.le_of_ble_eq_true rfl⟩) rfl hl.1 rfl (Nat.le_of_ble_eq_true rfl) dX13_place_114 ⟨Nat.zero_le _, Nat.zero_le _⟩ ?_
            refine lv_i2l (v := (sp_items Z place).toInt64) hx hb dX13_place_117 rfl ?_
            refine lv_goto (tgt := 122) hx hb dX13_place_118 (by decide) ?_
            have hsp : sp_place Z place what = (sp_items Z place).toInt64 := by unfold sp_place; rw [if_neg c_1, if_neg c_2, if_pos c_3, if_neg c_4, if_neg c_5, if_neg c_6, if_neg c_7, if_neg c_8, if_pos c_9, if_pos c_10]
            exact W.lret hx hb hr (fun t2 ht2 hW => by rw [hsp]; exact ⟨rfl, by rw [ht2]; exact hP, hS.F ht2⟩) hS.2.2 dX13_place_122 hlocks
        have q_0 : ¬ (what).toInt = 0 := fun h => c_4 (sw_eq (v := 0) (by decide) h)
        have q_1 : ¬ (what).toInt = 1 := fun h => c_5 (sw_eq (v := 1) (by decide) h)
        have q_2 : ¬ (what).toInt = 2 := fun h => c_6 (sw_eq (v := 2) (by decide) h)
        have q_3 : ¬ (what).toInt = 3 := fun h => c_7 (sw_eq (v := 3) (by decide) h)
        have q_4 : ¬ (what).toInt = 4 := fun h => c_8 (sw_eq (v := 4) (by decide) h)
        have q_5 : ¬ (what).toInt = 5 := fun h => c_9 (sw_eq (v := 5) (by decide) h)
        refine lv_tableOut (tgt := 123) hx hb dX13_place_34 (by omega) (by decide) ?_
        refine lv_iload_n hx hb dX13_place_123 rfl (lv_at hl 0 rfl) ?_
        refine lv_iconst (v := 4) hx hb dX13_place_124 (by decide) ?_
        refine lv_icmp_ne (tgt := 139) hx hb dX13_place_125 (by decide) (fun c_11 => ?_) (fun c_11 => ?_)
        · refine lv_lconst (v := 0) hx hb dX13_place_139 (by decide) ?_
          have hsp : sp_place Z place what = 0 := by unfold sp_place; rw [if_neg c_1, if_neg c_2, if_pos c_3, if_neg c_4, if_neg c_5, if_neg c_6, if_neg c_7, if_neg c_8, if_neg c_9, if_neg c_11]
          exact W.lret hx hb hr (fun t2 ht2 hW => by rw [hsp]; exact ⟨rfl, by rw [ht2]; exact hP, hS.F ht2⟩) hS.2.2 dX13_place_140 hlocks
        · refine lv_aload_n hx hb dX13_place_128 rfl (lv_at hl 1 rfl) ?_
          refine lv_iload_n hx hb dX13_place_129 rfl (lv_at hl 2 rfl) ?_
          refine lv_bipush (v := 8) hx hb dX13_place_130 (by decide) ?_
          refine m_rd S hK hP (As := [.int place, .int 8]) (rest := []) (cM_at l D cI cJ ad Z _ place 8 (pok_of c_1) 8 rfl (by decide)) (cwV 2 hts gX13_place_X13_at rfl rfl rfl (by decide +kernel) ⟨Nat.le_of_ble_eq_true rfl, Nat.le_of_ble_eq_true rfl⟩) rfl hl.1 rfl (Nat.le_of_ble_eq_true rfl) dX13_place_132 ⟨Nat.zero_le _, Nat.zero_le _⟩ ?_
          refine lv_i2l (v := (sh Z (tN place) 8).toInt64) hx hb dX13_place_135 rfl ?_
          refine lv_goto (tgt := 140) hx hb dX13_place_136 (by decide) ?_
          have hsp : sp_place Z place what = (sh Z (tN place) 8).toInt64 := by unfold sp_place; rw [if_neg c_1, if_neg c_2, if_pos c_3, if_neg c_4, if_neg c_5, if_neg c_6, if_neg c_7, if_neg c_8, if_neg c_9, if_pos c_11]
          exact W.lret hx hb hr (fun t2 ht2 hW => by rw [hsp]; exact ⟨rfl, by rw [ht2]; exact hP, hS.F ht2⟩) hS.2.2 dX13_place_140 hlocks
      · refine lv_ldc2 (v := (-1)) hx hb hown (hts (.constantLong RX13 195 (-1)) (by decide +kernel)) dX13_place_22 ?_
        have hsp : sp_place Z place what = (-1) := by unfold sp_place; rw [if_neg c_1, if_neg c_2, if_neg c_3]
        exact W.lret hx hb hr (fun t2 ht2 hW => by rw [hsp]; exact ⟨rfl, by rw [ht2]; exact hP, hS.F ht2⟩) hS.2.2 dX13_place_25 hlocks
def sp_sum (Z : mZ) (what : Int32) : Int64 :=
  if what < 0 then
    (-1)
  else
    if what < 13 then
      sp_summed Z what
    else
      (-1)
set_option maxHeartbeats 4000000 in
set_option maxRecDepth 100000 in
theorem cM_sum (l : Launch) (D : va_G) (cI cJ : ClassId) (ad : Nat → Nat) (Z : mZ) (sz : Nat) (hi : mI ad) (what : Int32) (hC : cok Z) : Met l yX13_sum wsX13_sum ({ frames := 3, cells := 0, slots := 0, locals := 71 }) (mPc [.ref (ad 0), .int what] D cI cJ ad Z sz) (mQ D cI cJ ad (some (.long (sp_sum Z what))) Z sz) 0 0 (mA ad sz) := by
  refine m_in (cc := cX13_sum) (maxL := 2) (ret := (some .long)) (lv := [(0, .ref (ad 0)), (1, .int what)]) (by decide) rfl (Nat.le_of_ble_eq_true rfl) rfl ?_
  intro p e s m below meth c ls S hr hlocks hin hsz hP hK hl hS
  subst hsz
  obtain ⟨hx, hb, hml, hown, hts⟩ := id S
  have hX13 : ∀ w ∈ wsX130, w ∈ wsX13_sum := by decide +kernel
  refine lv_aload_n hx hb dX13_sum_0 rfl (lv_at hl 0 rfl) ?_
  refine lv_iconst (v := 0) hx hb dX13_sum_1 (by decide) ?_
  refine va_put (D := D) (ci := 11) (v := .int 0) (ty := .int) (C := RX13) (T := TX13) (N := 6) hx hb hts hX13 tyX13 tyX13_ok nmX13 hown hK.1 hP (wM_D hi s.heap.size _) hS 0 rfl rfl 4 (by decide) (hts (.fieldLink RX13 34 "PledgeHouseModel" "thrown" "I") (by decide +kernel)) (fun _ h9 => h9) rfl (by decide +kernel) rfl rfl (Nat.le_of_ble_eq_true rfl) dX13_sum_2 (fun H locs hP _ hS => ?_)
  have hP : va_P D vwCl (wM ad cI cJ Z) H := hP
  refine lv_iload_n hx hb dX13_sum_5 rfl (lv_at hl 1 rfl) ?_
  refine lv_if_lt (tgt := 15) hx hb dX13_sum_6 (by decide) (fun c_1 => ?_) (fun c_1 => ?_)
  · refine lv_ldc2 (v := (-1)) hx hb hown (hts (.constantLong RX13 195 (-1)) (by decide +kernel)) dX13_sum_15 ?_
    refine lv_goto (tgt := 26) hx hb dX13_sum_18 (by decide) ?_
    have hsp : sp_sum Z what = (-1) := by unfold sp_sum; rw [if_pos c_1]
    exact W.lret hx hb hr (fun t2 ht2 hW => by rw [hsp]; exact ⟨rfl, by rw [ht2]; exact hP, hS.F ht2⟩) hS.2.2 dX13_sum_26 hlocks
  · refine lv_iload_n hx hb dX13_sum_9 rfl (lv_at hl 1 rfl) ?_
    refine lv_bipush (v := 13) hx hb dX13_sum_10 (by decide) ?_
    refine lv_icmp_lt (tgt := 21) hx hb dX13_sum_12 (by decide) (fun c_2 => ?_) (fun c_2 => ?_)
    · refine lv_aload_n hx hb dX13_sum_21 rfl (lv_at hl 0 rfl) ?_
      refine lv_iload_n hx hb dX13_sum_22 rfl (lv_at hl 1 rfl) ?_
      refine m_rd S hK hP (As := [.int what]) (rest := []) (cM_summed l D cI cJ ad Z _ what hC) (cwV 1 hts gX13_sum_X13_summed rfl rfl rfl (by decide +kernel) ⟨Nat.le_of_ble_eq_true rfl, Nat.le_of_ble_eq_true rfl⟩) rfl hl.1 rfl (Nat.le_of_ble_eq_true rfl) dX13_sum_23 ⟨Nat.zero_le _, Nat.zero_le _⟩ ?_
      have hsp : sp_sum Z what = sp_summed Z what := by unfold sp_sum; rw [if_neg c_1, if_pos c_2]
      exact W.lret hx hb hr (fun t2 ht2 hW => by rw [hsp]; exact ⟨rfl, by rw [ht2]; exact hP, hS.F ht2⟩) hS.2.2 dX13_sum_26 hlocks
    · refine lv_ldc2 (v := (-1)) hx hb hown (hts (.constantLong RX13 195 (-1)) (by decide +kernel)) dX13_sum_15 ?_
      refine lv_goto (tgt := 26) hx hb dX13_sum_18 (by decide) ?_
      have hsp : sp_sum Z what = (-1) := by unfold sp_sum; rw [if_neg c_1, if_neg c_2]
      exact W.lret hx hb hr (fun t2 ht2 hW => by rw [hsp]; exact ⟨rfl, by rw [ht2]; exact hP, hS.F ht2⟩) hS.2.2 dX13_sum_26 hlocks
