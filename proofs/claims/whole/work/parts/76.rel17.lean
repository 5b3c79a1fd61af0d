/-! keeping an image, going back; two states that look alike -/
section RI
variable {Z Z' : hZ} {vs : Nat → Nat → Int32} {pl : Nat → pZ} {RW RW' : Nat → Nat → Int64} {cn rc d i p : Nat} {F F' : mZ} {P : pZ}
theorem HR_eq (h : HR Z vs pl RW cn rc d F) (g0 : ∀ j, j < 3 → gh Z' j = gh Z j) (g1 : ∀ j, j < 14 → gr Z' j = gr Z j) (g2 : ∀ p, p < 40 → gp Z' p = gp Z p ∧ gb Z' p = gb Z p ∧ go Z' p = go Z p)
    (e1 : ∀ j, j < 17 → zh F' j = zh F j) (e2 : ∀ j, j < 640 → zs F' j = zs F j) (e3 : ∀ j, j < 16384 → zt F' j = zt F j) (e4 : ∀ j, j < 7 → zc F' j = zc F j) (e5 : ∀ j, j < 13 * d → ze F' j = ze F j) : HR Z' vs pl RW cn rc d F' := by
  obtain ⟨q1, q2, q3, q4, q6, q7, q8, q9⟩ := h
  have et : ∀ n k, n ≤ 511 → k < 32 → tk F' n k = tk F n k := fun n k hn hk => e3 _ (by omega)
  refine ⟨?_, ?_, ?_, ?_, ?_, ?_, q8, ?_⟩
  · unfold rC1
    rw [g0 0 (by decide), g0 1 (by decide), g0 2 (by decide), e1 0 (by decide), e1 1 (by decide), e1 2 (by decide)]
    exact q1
  · intro j hj
    rw [g1 j hj, e1 _ (by omega)]
    exact q2 j hj
  · have hc := q1.2.2.2.2.2.1
    refine ⟨fun j hj => ⟨tkR_k (q3.1 j hj).1 (fun k hk => et _ k (by omega) hk), (q3.1 j hj).2⟩, fun n n1 n2 k hk => ?_⟩
    rw [et n k n2 hk]
    exact q3.2 n n1 n2 k hk
  · intro p hp
    rw [(g2 p hp).1, (g2 p hp).2.1, (g2 p hp).2.2]
    exact shR_k (q4 p hp) (fun k hk => e2 _ (by omega))
  · refine ⟨fun j hj h0 => ?_, fun p hp => ?_⟩
    · obtain ⟨q, a, b, c, e, f⟩ := q6.1 j hj h0
      exact ⟨q, a, b, by rw [(g2 q a).1]; exact c, by rw [(g2 q a).2.2]; exact e, f⟩
    · rw [(g2 p hp).2.2]
      exact q6.2 p hp
  · have ep : plS Z' 40 = plS Z 40 := plS_c 40 (fun i hi => (g2 i hi).1)
    unfold rC7
    rw [ep, e4 0 (by decide), e4 1 (by decide), e4 2 (by decide), e4 3 (by decide), e4 4 (by decide), e4 5 (by decide), e4 6 (by decide)]
    exact q7
  · intro y hy w hw
    rw [e5 _ (by omega), ← q9 y hy w hw]
    unfold sc_X3_sumOn sc_X3_oversOn
    rw [g0 0 (by decide)]
theorem mix_lt {α : Type} {f g : Nat → α} {n j : Nat} (h : j < n) : mix f g n j = f j := if_pos h
/-- a house that has become another -/
theorem bz2_g {Z Z2 : hZ} {bs : Nat → Nat → Nat} {n : Nat} : (∀ j, j < 3 → gh (bz2 Z Z2 bs n) j = gh Z2 j) ∧ (∀ j, j < 14 → gr (bz2 Z Z2 bs n) j = gr Z2 j) ∧ ∀ p, p < 40 → gp (bz2 Z Z2 bs n) p = gp Z2 p ∧ gb (bz2 Z Z2 bs n) p = gb Z2 p ∧ go (bz2 Z Z2 bs n) p = go Z2 p := by
  refine ⟨fun j hj => ?_, fun j hj => ?_, fun p hp => ⟨mix_lt hp, mix_lt hp, mix_lt hp⟩⟩
  · show upd (upd (upd (gh Z) 2 (gh Z2 2)) 0 (gh Z2 0)) 1 (gh Z2 1) j = gh Z2 j
    have : j = 0 ∨ j = 1 ∨ j = 2 := by omega
    rcases this with rfl | rfl | rfl <;> rfl
  · show va_cpy (gr Z2) (gr Z) 0 0 14 j = gr Z2 j
    rw [pk_cpy_in (by omega) (by omega), Nat.sub_zero, Nat.zero_add]
/-- what is kept -/
def HK (Z : hZ) (vs : Nat → Nat → Int32) (pl : Nat → pZ) (RW : Nat → Nat → Int64) (cn rc d : Nat) (F : mZ) : Prop := HR Z vs pl RW cn rc d (zSetN F (zKept F))
theorem HK_c (h : HK Z vs pl RW cn rc d F) (e : sameD F F') (he : ∀ j, j < 13 * d → ze F' j = ze F j) : HK Z vs pl RW cn rc d F' := HR_ze (F' := zSetN F' (zKept F')) h e.1 e.2.1 e.2.2.1 e.2.2.2.1 he
theorem r_image (h : HR Z vs pl RW cn rc d F) {Z2 : hZ} {bs : Nat → Nat → Nat} {n : Nat} : (sp_image F).1 = 0 ∧ zst (sp_image F).2 = 0 ∧ zik (sp_image F).2 = 1 ∧ HR Z vs pl RW cn rc d (sp_image F).2 ∧ HK (bz2 Z2 Z bs n) vs pl RW cn rc d (sp_image F).2 := by
  refine ⟨rfl, rfl, rfl, h, ?_⟩
  refine HR_eq (F' := zSetN (sp_image F).2 (zKept (sp_image F).2)) h bz2_g.1 bz2_g.2.1 bz2_g.2.2 (fun j hj => ?_) (fun j hj => ?_) (fun j hj => ?_) (fun j hj => ?_) (fun _ _ => rfl)
  · exact mix_lt hj
  · exact mix_lt hj
  · exact mix_lt hj
  · exact mix_lt hj
theorem r_back (h : HK Z vs pl RW cn rc d F) (hk : zik F = 1) {Z2 : hZ} {bs : Nat → Nat → Nat} {n : Nat} : (sp_back F).1 = 0 ∧ zst (sp_back F).2 = 0 ∧ zik (sp_back F).2 = 1 ∧ HR (bz2 Z2 Z bs n) vs pl RW cn rc d (sp_back F).2 ∧ HK Z vs pl RW cn rc d (sp_back F).2 := by
  unfold sp_back
  rw [hk, if_neg (show ¬ (1 : Int32) = 0 by decide)]
  refine ⟨rfl, rfl, hk, ?_, h⟩
  refine HR_eq (F' := zR (zSetN F (cpS (zKept F) (zNow F))) 0) h bz2_g.1 bz2_g.2.1 bz2_g.2.2 (fun j hj => ?_) (fun j hj => ?_) (fun j hj => ?_) (fun j hj => ?_) (fun _ _ => rfl)
  · exact mix_lt hj
  · exact mix_lt hj
  · exact mix_lt hj
  · exact mix_lt hj
theorem r_back0 (h : HR Z vs pl RW cn rc d F) (hk : zik F = 0) : AO F (sp_back F) (-2) Z vs pl RW cn rc d := by
  unfold sp_back
  rw [if_pos hk]
  exact AO_no h
end RI
