/-! day, with what is asked of it in its bounds alone -/
set_option maxHeartbeats 4000000 in
set_option maxRecDepth 100000 in
theorem cM_dayR (l : Launch) (D : va_G) (cI cJ : ClassId) (ad : Nat → Nat) (Z : mZ) (sz : Nat) (hi : mI ad) (nd : Int32) (d : Nat) (hd7 : d ≤ 7300) (hd : zh Z 0 = nI d) (cn : Nat) (hcn : cn ≤ 511) (hc : zh Z 1 = nI cn) (hok : ∀ nn, nn ≤ 400 → d + nn ≤ 7300 → nd = nI nn → dayOK Z d cn nn) : Met l yX13_day wsX13_day ({ frames := 3, cells := 0, slots := 0, locals := 71 }) (mPc [.ref (ad 0), .int nd] D cI cJ ad Z sz) (mQ D cI cJ ad (some (.int (sp_day Z nd).1)) (sp_day Z nd).2 sz) 0 0 (mA ad sz) := by
  refine m_in (cc := cX13_day) (maxL := 4) (ret := (some .int)) (lv := [(0, .ref (ad 0)), (1, .int nd)]) (by decide) rfl (Nat.le_of_ble_eq_true rfl) rfl ?_
  intro p e s m below meth c ls S hr hlocks hin hsz hP hK hl hS
  subst hsz
  obtain ⟨hx, hb, hml, hown, hts⟩ := id S
  have hX12 : ∀ w ∈ wsX120, w ∈ wsX13_day := by decide +kernel
  have hX13 : ∀ w ∈ wsX130, w ∈ wsX13_day := by decide +kernel
  have loop : ∀ (nn nk k : Nat) (H : Heap) (locs : List Loc) (ls : Array Slot), k + nk = nn → (nn ≤ 400) → (d + nn ≤ 7300) → (nd = nI nn) → (dayOK Z d cn nn) → (sp_day Z nd = (zh (dayN Z d cn nn) 0, zR (dayN Z d cn nn) (zh (dayN Z d cn nn) 0))) → va_P D vwCl (wM ad cI cJ (dayN Z d cn k)) H → va_S (mA ad s.heap.size) s.heap H locs → lv_has ls 4 [(2, .int (nI k)), (0, .ref (ad 0)), (1, .int nd)] → W p l e ({ frames := 3, cells := 0, slots := 0, locals := 71 }) s m [.ref (ad 0), .int nd].toArray below meth c H locs 0 0 (MQ below (mQ D cI cJ ad (some (.int (sp_day Z nd).1)) (sp_day Z nd).2 s.heap.size) [.ref (ad 0), .int nd].toArray s 0 0 (mA ad s.heap.size)) (F0 m 43 ls []) := by
    intro nn nk
    induction nk with
    | zero =>
      intro k H locs ls hnk hn4 hn7 hnn hok hy hP hS hl
      obtain rfl : nn = k := by omega
      refine lv_iload_n hx hb dX13_day_43 rfl (lv_at hl 0 rfl) ?_
      refine lv_iload_n hx hb dX13_day_44 rfl (lv_at hl 2 rfl) ?_
      refine lv_icmp_ge (tgt := 134) hx hb dX13_day_45 (by decide) (fun c_1 => ?_) (fun c_1 => ?_)
      · refine lv_aload_n hx hb dX13_day_134 rfl (lv_at hl 1 rfl) ?_
        refine lv_aload_n hx hb dX13_day_135 rfl (lv_at hl 1 rfl) ?_
        refine m_rd S hK hP (As := []) (rest := [.ref (ad 0)]) (cM_today l D cI cJ ad (dayN Z d cn nn) _) (cwV 0 hts gX13_day_X13_today rfl rfl rfl (by decide +kernel) ⟨Nat.le_of_ble_eq_true rfl, Nat.le_of_ble_eq_true rfl⟩) rfl hl.1 rfl (Nat.le_of_ble_eq_true rfl) dX13_day_136 ⟨Nat.zero_le _, Nat.zero_le _⟩ ?_
        refine m_wr S hK hP hS (As := [.int (zh (dayN Z d cn nn) 0)]) (rest := []) (cM_says l D cI cJ ad (dayN Z d cn nn) _ hi (zh (dayN Z d cn nn) 0)) (cwV 1 hts gX13_day_X13_says rfl rfl rfl (by decide +kernel) ⟨Nat.le_of_ble_eq_true rfl, Nat.le_of_ble_eq_true rfl⟩) rfl hl.1 rfl (Nat.le_of_ble_eq_true rfl) dX13_day_139 ⟨Nat.zero_le _, Nat.zero_le _⟩ (fun H locs hP hS => ?_)
        have hsp : sp_day Z nd = (zh (dayN Z d cn nn) 0, zR (dayN Z d cn nn) (zh (dayN Z d cn nn) 0)) := hy
        exact W.iret hx hb hr (fun t2 ht2 hW => by rw [hsp]; exact ⟨rfl, by rw [ht2]; exact hP, hS.F ht2⟩) hS.2.2 dX13_day_142 hlocks
      · exact absurd (show nd ≤ nI nn by rw [hnn]; exact Int32.le_refl _) c_1
    | succ nk ihk =>
      intro k H locs ls hnk hn4 hn7 hnn hok hy hP hS hl
      refine lv_iload_n hx hb dX13_day_43 rfl (lv_at hl 0 rfl) ?_
      refine lv_iload_n hx hb dX13_day_44 rfl (lv_at hl 2 rfl) ?_
      refine lv_icmp_ge (tgt := 134) hx hb dX13_day_45 (by decide) (fun c_2 => ?_) (fun c_2 => ?_)
      · exact absurd ((nI_leI (a := nn) (b := k) (by omega) (by omega)).mp (by rw [← hnn]; exact c_2)) (by omega)
      · refine lv_iconst (v := 0) hx hb dX13_day_48 (by decide) ?_
        refine lv_istore_n (lv' := [(3, .int 0), (2, .int (nI k)), (0, .ref (ad 0)), (1, .int nd)]) hx hb dX13_day_49 rfl hl (by decide) rfl (fun ls hl => ?_)
        have loopA : ∀ (n i : Nat) (H : Heap) (locs : List Loc) (ls : Array Slot), i + n = 13 → va_P D vwCl (wM ad cI cJ (ew (dayN Z d cn k) (d + k) i)) H → va_S (mA ad s.heap.size) s.heap H locs → lv_has ls 4 [(3, .int (nI i)), (2, .int (nI k)), (0, .ref (ad 0)), (1, .int nd)] → W p l e ({ frames := 3, cells := 0, slots := 0, locals := 71 }) s m [.ref (ad 0), .int nd].toArray below meth c H locs 0 0 (MQ below (mQ D cI cJ ad (some (.int (sp_day Z nd).1)) (sp_day Z nd).2 s.heap.size) [.ref (ad 0), .int nd].toArray s 0 0 (mA ad s.heap.size)) (F0 m 50 ls []) := by
          intro n
          induction n with
          | zero =>
            intro i H locs ls hn hP hS hl
            obtain rfl : 13 = i := by omega
            refine lv_iload_n hx hb dX13_day_50 rfl (lv_at hl 0 rfl) ?_
            refine lv_bipush (v := 13) hx hb dX13_day_51 (by decide) ?_
            refine lv_icmp_ge (tgt := 81) hx hb dX13_day_53 (by decide) (fun c_3 => ?_) (fun c_3 => ?_)
            · refine lv_aload_n hx hb dX13_day_81 rfl (lv_at hl 2 rfl) ?_
              refine va_get (D := D) (ci := 11) (v := .ref (ad 1)) (C := RX13) (T := TX13) (N := 6) hx hb hts hX13 hown hK.1 hP 0 rfl rfl 0 (by decide) (hts (.fieldLink RX13 10 "PledgeHouseModel" "now" "LPledgeHouseModel$State;") (by decide +kernel)) (fun _ h9 => h9) rfl dX13_day_82 ?_
              refine va_getN (D := D) (ci := 10) (v := .ref (ad 3)) (C := RX12) (T := TX12) (N := 4) hx hb hts hX12 hown hK.1 hP 1 rfl rfl 0 (by decide) (va_Nw.use rfl hK.2.1) (fun _ h9 => h9) rfl dX13_day_85 ?_
              refine lv_iconst (v := 0) hx hb dX13_day_88 (by decide) ?_
              refine lv_dup2_11 hx hb dX13_day_89 rfl rfl ?_
              refine mx_hld hx hb hK.1 hP 0 rfl (by decide) (v := zh (ew (dayN Z d cn k) (d + k) 13) 0) rfl dX13_day_90 ?_
              refine lv_iconst (v := 1) hx hb dX13_day_91 (by decide) ?_
              refine lv_iadd hx hb dX13_day_92 ?_
              refine mx_hst hx hb hK.1 hP (wM_D hi s.heap.size _) hS 0 rfl (by decide) dX13_day_93 (fun H locs hP hS => ?_)
              refine lv_iconst (v := 1) hx hb dX13_day_94 (by decide) ?_
              refine lv_istore_n (lv' := [(3, .int 1), (2, .int (nI k)), (0, .ref (ad 0)), (1, .int nd)]) hx hb dX13_day_95 rfl hl (by decide) rfl (fun ls hl => ?_)
              have hP : va_P D vwCl (wM ad cI cJ (zhp (ew (dayN Z d cn k) (d + k) 13) 0 (zh (dayN Z d cn k) 0 + 1))) H := by rw [← ew_h (Z := dayN Z d cn k) (d := d + k) 0 13]; exact hP
              have loopB : ∀ (n i : Nat) (H : Heap) (locs : List Loc) (ls : Array Slot), i + n = cn → va_P D vwCl (wM ad cI cJ (bt (zhp (ew (dayN Z d cn k) (d + k) 13) 0 (zh (dayN Z d cn k) 0 + 1)) i)) H → va_S (mA ad s.heap.size) s.heap H locs → lv_has ls 4 [(3, .int (nI (i + 1))), (2, .int (nI k)), (0, .ref (ad 0)), (1, .int nd)] → W p l e ({ frames := 3, cells := 0, slots := 0, locals := 71 }) s m [.ref (ad 0), .int nd].toArray below meth c H locs 0 0 (MQ below (mQ D cI cJ ad (some (.int (sp_day Z nd).1)) (sp_day Z nd).2 s.heap.size) [.ref (ad 0), .int nd].toArray s 0 0 (mA ad s.heap.size)) (F0 m 96 ls []) := by
                intro n
                induction n with
                | zero =>
                  intro i H locs ls hn hP hS hl
                  obtain rfl : cn = i := by omega
                  refine lv_iload_n hx hb dX13_day_96 rfl (lv_at hl 0 rfl) ?_
                  refine lv_aload_n hx hb dX13_day_97 rfl (lv_at hl 2 rfl) ?_
                  refine va_get (D := D) (ci := 11) (v := .ref (ad 1)) (C := RX13) (T := TX13) (N := 6) hx hb hts hX13 hown hK.1 hP 0 rfl rfl 0 (by decide) (hts (.fieldLink RX13 10 "PledgeHouseModel" "now" "LPledgeHouseModel$State;") (by decide +kernel)) (fun _ h9 => h9) rfl dX13_day_98 ?_
                  refine va_getN (D := D) (ci := 10) (v := .ref (ad 3)) (C := RX12) (T := TX12) (N := 4) hx hb hts hX12 hown hK.1 hP 1 rfl rfl 0 (by decide) (va_Nw.use rfl hK.2.1) (fun _ h9 => h9) rfl dX13_day_101 ?_
                  refine lv_iconst (v := 1) hx hb dX13_day_104 (by decide) ?_
                  refine mx_hld hx hb hK.1 hP 1 rfl (by decide) (v := zh (bt (zhp (ew (dayN Z d cn k) (d + k) 13) 0 (zh (dayN Z d cn k) 0 + 1)) cn) 1) rfl dX13_day_105 ?_
                  refine lv_icmp_gt (tgt := 128) hx hb dX13_day_106 (by decide) (fun c_4 => ?_) (fun c_4 => ?_)
                  · refine lv_iinc (v := (nI k) + 1) (lv' := [(2, .int ((nI k) + 1)), (3, .int (nI (cn + 1))), (0, .ref (ad 0)), (1, .int nd)]) hx hb dX13_day_128 hl (k := 1) rfl rfl (by decide) rfl (fun ls hl => ?_)
                    refine lv_goto (tgt := 43) hx hb dX13_day_131 (by decide) ?_
                    rw [nI_1] at hl
                    exact ihk (k + 1) H locs ls (by omega) hn4 hn7 hnn hok hy hP hS (lv_sub hl [0, 2, 3] rfl)
                  · exact absurd (show zh (bt (zhp (ew (dayN Z d cn k) (d + k) 13) 0 (zh (dayN Z d cn k) 0 + 1)) cn) 1 < nI (cn + 1) by rw [bt_h, zb_h1, dayN_hn (by decide), hc]; exact (nI_ltI (by omega) (by omega)).mpr (by omega)) c_4
                | succ n ih =>
                  intro i H locs ls hn hP hS hl
                  refine lv_iload_n hx hb dX13_day_96 rfl (lv_at hl 0 rfl) ?_
                  refine lv_aload_n hx hb dX13_day_97 rfl (lv_at hl 2 rfl) ?_
                  refine va_get (D := D) (ci := 11) (v := .ref (ad 1)) (C := RX13) (T := TX13) (N := 6) hx hb hts hX13 hown hK.1 hP 0 rfl rfl 0 (by decide) (hts (.fieldLink RX13 10 "PledgeHouseModel" "now" "LPledgeHouseModel$State;") (by decide +kernel)) (fun _ h9 => h9) rfl dX13_day_98 ?_
                  refine va_getN (D := D) (ci := 10) (v := .ref (ad 3)) (C := RX12) (T := TX12) (N := 4) hx hb hts hX12 hown hK.1 hP 1 rfl rfl 0 (by decide) (va_Nw.use rfl hK.2.1) (fun _ h9 => h9) rfl dX13_day_101 ?_
                  refine lv_iconst (v := 1) hx hb dX13_day_104 (by decide) ?_
                  refine mx_hld hx hb hK.1 hP 1 rfl (by decide) (v := zh (bt (zhp (ew (dayN Z d cn k) (d + k) 13) 0 (zh (dayN Z d cn k) 0 + 1)) i) 1) rfl dX13_day_105 ?_
                  refine lv_icmp_gt (tgt := 128) hx hb dX13_day_106 (by decide) (fun c_5 => ?_) (fun c_5 => ?_)
                  · exact absurd ((nI_ltI (a := cn) (b := i + 1) (by omega) (by omega)).mp (by rw [bt_h, zb_h1, dayN_hn (by decide), hc] at c_5; exact c_5)) (by omega)
                  · refine lv_aload_n hx hb dX13_day_109 rfl (lv_at hl 2 rfl) ?_
                    refine lv_iload_n hx hb dX13_day_110 rfl (lv_at hl 0 rfl) ?_
                    refine m_rd S hK hP (As := [.int (nI (i + 1))]) (rest := []) (cM_isOpen l D cI cJ ad (bt (zhp (ew (dayN Z d cn k) (d + k) 13) 0 (zh (dayN Z d cn k) 0 + 1)) i) _ (nI (i + 1)) ⟨i + 1, by omega, rfl⟩) (cwV 1 hts gX13_day_X13_isOpen rfl rfl rfl (by decide +kernel) ⟨Nat.le_of_ble_eq_true rfl, Nat.le_of_ble_eq_true rfl⟩) rfl hl.1 rfl (Nat.le_of_ble_eq_true rfl) dX13_day_111 ⟨Nat.zero_le _, Nat.zero_le _⟩ ?_
                    refine lv_if_eq (tgt := 122) hx hb dX13_day_114 (by decide) (fun c_6 => ?_) (fun c_6 => ?_)
                    · refine lv_iinc (v := (nI (i + 1)) + 1) (lv' := [(3, .int ((nI (i + 1)) + 1)), (2, .int (nI k)), (0, .ref (ad 0)), (1, .int nd)]) hx hb dX13_day_122 hl (k := 0) rfl rfl (by decide) rfl (fun ls hl => ?_)
                      refine lv_goto (tgt := 96) hx hb dX13_day_125 (by decide) ?_
                      rw [nI_1] at hl
                      have e2 : bt (zhp (ew (dayN Z d cn k) (d + k) 13) 0 (zh (dayN Z d cn k) 0 + 1)) (i + 1) = bt (zhp (ew (dayN Z d cn k) (d + k) 13) 0 (zh (dayN Z d cn k) 0 + 1)) i := by rw [bt, if_pos c_6]
                      exact ih (i + 1) H locs ls (by omega) (by rw [e2]; exact hP) hS (lv_sub hl [0, 1, 2, 3] rfl)
                    · refine lv_aload_n hx hb dX13_day_117 rfl (lv_at hl 2 rfl) ?_
                      refine lv_iload_n hx hb dX13_day_118 rfl (lv_at hl 0 rfl) ?_
                      refine m_wv S hK hP hS (As := [.int (nI (i + 1))]) (rest := []) (cM_begins l D cI cJ ad (bt (zhp (ew (dayN Z d cn k) (d + k) 13) 0 (zh (dayN Z d cn k) 0 + 1)) i) _ hi (nI (i + 1)) ⟨i + 1, by omega, rfl⟩ (hok k i (by omega) (by omega) c_6)) (cwV 1 hts gX13_day_X13_begins rfl rfl rfl (by decide +kernel) ⟨Nat.le_of_ble_eq_true rfl, Nat.le_of_ble_eq_true rfl⟩) rfl hl.1 rfl (Nat.le_of_ble_eq_true rfl) dX13_day_119 ⟨Nat.zero_le _, Nat.zero_le _⟩ (fun H locs hP hS => ?_)
                      refine lv_iinc (v := (nI (i + 1)) + 1) (lv' := [(3, .int ((nI (i + 1)) + 1)), (2, .int (nI k)), (0, .ref (ad 0)), (1, .int nd)]) hx hb dX13_day_122 hl (k := 0) rfl rfl (by decide) rfl (fun ls hl => ?_)
                      refine lv_goto (tgt := 96) hx hb dX13_day_125 (by decide) ?_
                      rw [nI_1] at hl
                      have e2 : bt (zhp (ew (dayN Z d cn k) (d + k) 13) 0 (zh (dayN Z d cn k) 0 + 1)) (i + 1) = sp_begins (bt (zhp (ew (dayN Z d cn k) (d + k) 13) 0 (zh (dayN Z d cn k) 0 + 1)) i) (nI (i + 1)) := by rw [bt, if_neg c_6]
                      exact ih (i + 1) H locs ls (by omega) (by rw [e2]; exact hP) hS (lv_sub hl [0, 1, 2, 3] rfl)
              exact loopB cn 0 H locs ls (by omega) hP hS (lv_sub hl [0, 1, 2, 3] rfl)
            · exact absurd (show (13 : Int32) ≤ nI 13 by decide) c_3
          | succ n ih =>
            intro i H locs ls hn hP hS hl
            refine lv_iload_n hx hb dX13_day_50 rfl (lv_at hl 0 rfl) ?_
            refine lv_bipush (v := 13) hx hb dX13_day_51 (by decide) ?_
            refine lv_icmp_ge (tgt := 81) hx hb dX13_day_53 (by decide) (fun c_7 => ?_) (fun c_7 => ?_)
            · exact absurd ((nI_leI (a := 13) (b := i) (by omega) (by omega)).mp c_7) (by omega)
            · refine lv_aload_n hx hb dX13_day_56 rfl (lv_at hl 2 rfl) ?_
              refine va_get (D := D) (ci := 11) (v := .ref (ad 11)) (C := RX13) (T := TX13) (N := 6) hx hb hts hX13 hown hK.1 hP 0 rfl rfl 2 (by decide) (hts (.fieldLink RX13 20 "PledgeHouseModel" "ended" "[J") (by decide +kernel)) (fun _ h9 => h9) rfl dX13_day_57 ?_
              refine lv_bipush (v := 13) hx hb dX13_day_60 (by decide) ?_
              refine lv_aload_n hx hb dX13_day_62 rfl (lv_at hl 2 rfl) ?_
              refine m_rd S hK hP (As := []) (rest := [.int 13, .ref (ad 11)]) (cM_today l D cI cJ ad (ew (dayN Z d cn k) (d + k) i) _) (cwV 0 hts gX13_day_X13_today rfl rfl rfl (by decide +kernel) ⟨Nat.le_of_ble_eq_true rfl, Nat.le_of_ble_eq_true rfl⟩) rfl hl.1 rfl (Nat.le_of_ble_eq_true rfl) dX13_day_63 ⟨Nat.zero_le _, Nat.zero_le _⟩ ?_
              refine lv_imul hx hb dX13_day_66 ?_
              refine lv_iload_n hx hb dX13_day_67 rfl (lv_at hl 0 rfl) ?_
              refine lv_iadd hx hb dX13_day_68 ?_
              refine lv_aload_n hx hb dX13_day_69 rfl (lv_at hl 2 rfl) ?_
              refine lv_iload_n hx hb dX13_day_70 rfl (lv_at hl 0 rfl) ?_
              refine m_rd S hK hP (As := [.int (nI i)]) (rest := [.int ((13 * (zh (ew (dayN Z d cn k) (d + k) i) 0)) + (nI i)), .ref (ad 11)]) (cM_summed l D cI cJ ad (ew (dayN Z d cn k) (d + k) i) _ (nI i) (show cok (ew (dayN Z d cn k) (d + k) i) from ⟨cn, hcn, by rw [ew_h, dayN_hn (by decide), hc]⟩)) (cwV 1 hts gX13_day_X13_summed rfl rfl rfl (by decide +kernel) ⟨Nat.le_of_ble_eq_true rfl, Nat.le_of_ble_eq_true rfl⟩) rfl hl.1 rfl (Nat.le_of_ble_eq_true rfl) dX13_day_71 ⟨Nat.zero_le _, Nat.zero_le _⟩ ?_
              refine mx_est hx hb hK.1 hP (wM_D hi s.heap.size _) hS (13 * (d + k) + i) (by rw [ew_h, dayN_h0 hd]; exact (dn_ix (d := d) (k := k) (w := i) (by omega) (by omega)).1) (dn_ix (d := d) (k := k) (w := i) (by omega) (by omega)).2 dX13_day_74 (fun H locs hP hS => ?_)
              refine lv_iinc (v := (nI i) + 1) (lv' := [(3, .int ((nI i) + 1)), (2, .int (nI k)), (0, .ref (ad 0)), (1, .int nd)]) hx hb dX13_day_75 hl (k := 0) rfl rfl (by decide) rfl (fun ls hl => ?_)
              refine lv_goto (tgt := 50) hx hb dX13_day_78 (by decide) ?_
              rw [nI_1] at hl
              exact ih (i + 1) H locs ls (by omega) hP hS (lv_sub hl [0, 1, 2, 3] rfl)
        exact loopA 13 0 H locs ls (by omega) hP hS (lv_sub hl [0, 1, 2, 3] rfl)
  refine lv_aload_n hx hb dX13_day_0 rfl (lv_at hl 0 rfl) ?_
  refine m_rd S hK hP (As := []) (rest := []) (cM_today l D cI cJ ad Z _) (cwV 0 hts gX13_day_X13_today rfl rfl rfl (by decide +kernel) ⟨Nat.le_of_ble_eq_true rfl, Nat.le_of_ble_eq_true rfl⟩) rfl hl.1 rfl (Nat.le_of_ble_eq_true rfl) dX13_day_1 ⟨Nat.zero_le _, Nat.zero_le _⟩ ?_
  refine lv_i2l (v := (zh Z 0).toInt64) hx hb dX13_day_4 rfl ?_
  refine lv_iload_n hx hb dX13_day_5 rfl (lv_at hl 1 rfl) ?_
  refine lv_i2l (v := nd.toInt64) hx hb dX13_day_6 rfl ?_
  refine lv_ladd hx hb dX13_day_7 ?_
  refine lv_ldc2 (v := 7300) hx hb hown (hts (.constantLong RX13 67 (7300)) (by decide +kernel)) dX13_day_8 ?_
  refine W.lcmp hx hb dX13_day_11 ?_
  refine lv_if_le (tgt := 22) hx hb dX13_day_12 (by decide) (fun c_8 => ?_) (fun c_8 => ?_)
  · have c_8 := (lg_cmp_le _ _).mp c_8
    refine lv_iload_n hx hb dX13_day_22 rfl (lv_at hl 1 rfl) ?_
    refine lv_iconst (v := 1) hx hb dX13_day_23 (by decide) ?_
    refine lv_icmp_lt (tgt := 34) hx hb dX13_day_24 (by decide) (fun c_9 => ?_) (fun c_9 => ?_)
    · refine lv_aload_n hx hb dX13_day_34 rfl (lv_at hl 0 rfl) ?_
      refine lv_bipush (v := (-6)) hx hb dX13_day_35 (by decide) ?_
      refine m_wr S hK hP hS (As := [.int (-6)]) (rest := []) (cM_says l D cI cJ ad Z _ hi (-6)) (cwV 1 hts gX13_day_X13_says rfl rfl rfl (by decide +kernel) ⟨Nat.le_of_ble_eq_true rfl, Nat.le_of_ble_eq_true rfl⟩) rfl hl.1 rfl (Nat.le_of_ble_eq_true rfl) dX13_day_37 ⟨Nat.zero_le _, Nat.zero_le _⟩ (fun H locs hP hS => ?_)
      have hsp : sp_day Z nd = ((-6), zR Z (-6)) := by unfold sp_day; rw [if_pos c_8, if_pos c_9]
      exact W.iret hx hb hr (fun t2 ht2 hW => by rw [hsp]; exact ⟨rfl, by rw [ht2]; exact hP, hS.F ht2⟩) hS.2.2 dX13_day_40 hlocks
    · refine lv_iload_n hx hb dX13_day_27 rfl (lv_at hl 1 rfl) ?_
      refine lv_sipush (v := 400) hx hb dX13_day_28 (by decide) ?_
      refine lv_icmp_le (tgt := 41) hx hb dX13_day_31 (by decide) (fun c_10 => ?_) (fun c_10 => ?_)
      · refine lv_iconst (v := 0) hx hb dX13_day_41 (by decide) ?_
        refine lv_istore_n (lv' := [(2, .int 0), (0, .ref (ad 0)), (1, .int nd)]) hx hb dX13_day_42 rfl hl (by decide) rfl (fun ls hl => ?_)
        obtain ⟨nn, hn4, hn7, hnn⟩ := day_n hd7 hd c_8 c_9 c_10
        exact loop nn nn 0 s.heap [] ls (by omega) hn4 hn7 hnn (hok nn hn4 hn7 hnn) (by unfold sp_day; rw [if_pos c_8, if_neg c_9, if_pos c_10, hd, hc, hnn, tN_n (by omega), tN_n (by omega), tN_n (by omega)]) hP hS (lv_sub hl [0, 1, 2] rfl)
      · refine lv_aload_n hx hb dX13_day_34 rfl (lv_at hl 0 rfl) ?_
        refine lv_bipush (v := (-6)) hx hb dX13_day_35 (by decide) ?_
        refine m_wr S hK hP hS (As := [.int (-6)]) (rest := []) (cM_says l D cI cJ ad Z _ hi (-6)) (cwV 1 hts gX13_day_X13_says rfl rfl rfl (by decide +kernel) ⟨Nat.le_of_ble_eq_true rfl, Nat.le_of_ble_eq_true rfl⟩) rfl hl.1 rfl (Nat.le_of_ble_eq_true rfl) dX13_day_37 ⟨Nat.zero_le _, Nat.zero_le _⟩ (fun H locs hP hS => ?_)
        have hsp : sp_day Z nd = ((-6), zR Z (-6)) := by unfold sp_day; rw [if_pos c_8, if_neg c_9, if_neg c_10]
        exact W.iret hx hb hr (fun t2 ht2 hW => by rw [hsp]; exact ⟨rfl, by rw [ht2]; exact hP, hS.F ht2⟩) hS.2.2 dX13_day_40 hlocks
  · have c_8 : ¬ (((zh Z 0).toInt64) + nd.toInt64) ≤ 7300 := fun h => c_8 ((lg_cmp_le _ _).mpr h)
    refine lv_aload_n hx hb dX13_day_15 rfl (lv_at hl 0 rfl) ?_
    refine lv_bipush (v := (-5)) hx hb dX13_day_16 (by decide) ?_
    refine m_wr S hK hP hS (As := [.int (-5)]) (rest := []) (cM_says l D cI cJ ad Z _ hi (-5)) (cwV 1 hts gX13_day_X13_says rfl rfl rfl (by decide +kernel) ⟨Nat.le_of_ble_eq_true rfl, Nat.le_of_ble_eq_true rfl⟩) rfl hl.1 rfl (Nat.le_of_ble_eq_true rfl) dX13_day_18 ⟨Nat.zero_le _, Nat.zero_le _⟩ (fun H locs hP hS => ?_)
    have hsp : sp_day Z nd = ((-5), zR Z (-5)) := by unfold sp_day; rw [if_neg c_8]
    exact W.iret hx hb hr (fun t2 ht2 hW => by rw [hsp]; exact ⟨rfl, by rw [ht2]; exact hP, hS.F ht2⟩) hS.2.2 dX13_day_21 hlocks

