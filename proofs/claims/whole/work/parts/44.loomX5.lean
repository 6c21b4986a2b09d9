/-- workBelow behind measure of strip s up to pick i -/
def wbF (f : Nat → Int) (fac : Nat → Int) (a : Int) (n : Nat) (s i : Int) : Nat → Int := fun k => if 11 * s ≤ (k : Int) ∧ (k : Int) ≤ 11 * s + i then wb fac a n ((k : Int) - 11 * s).toNat else f k
theorem wbF_up (f fac : Nat → Int) (a : Int) (n : Nat) (s i : Int) (hs : 0 ≤ s) (hi : 0 ≤ i) : ab_u1 (wbF f fac a n s i) (11 * s + i + 1).toNat (wb fac a n (i + 1).toNat) = wbF f fac a n s (i + 1) := by
  funext k
  unfold ab_u1 wbF
  by_cases hk : k = (11 * s + i + 1).toNat
  · rw [if_pos hk, if_pos (by omega)]
    congr 1
    omega
  · rw [if_neg hk]
    by_cases h2 : 11 * s ≤ (k : Int) ∧ (k : Int) ≤ 11 * s + i
    · rw [if_pos h2, if_pos (by omega)]
    · rw [if_neg h2, if_neg (by omega)]
theorem wbF_0 (f fac : Nat → Int) (a : Int) (n : Nat) (s : Int) (hs : 0 ≤ s) : ab_u1 f (11 * s).toNat 0 = wbF f fac a n s 0 := by
  funext k
  unfold ab_u1 wbF
  by_cases hk : k = (11 * s).toNat
  · rw [if_pos hk, if_pos (by omega), show ((k : Int) - 11 * s).toNat = 0 by omega]
    rfl
  · rw [if_neg hk, if_neg (by omega)]
section LoomX5
variable (L : Nat) (M : ab_Me)
theorem c_X3_measure (hB0 : hB M) (s : Int) (hs : 0 ≤ s ∧ s < 4) (hp : 0 ≤ M 11 6 ∧ M 11 6 ≤ 10) (hf : 0 ≤ M 13 s.toNat ∧ 0 ≤ M 14 s.toNat ∧ M 13 s.toNat + M 14 s.toNat ≤ 12) : cV L 4 mX3_measure [.inr 11, .inr 3, .inl s] M (ab_rw M 16 (wbF (M 16) (fX4 M) (M 13 s.toNat) (M 14 s.toNat).toNat s (M 11 6))) := by
  refine cV_of rfl ?_
  change wp _ _ _ 0 [some (.inr 11), some (.inr 3), some (.inl s), none, none] [] _ _
  refine wp_ic iX3_measure_0 (by decide) ?_
  refine wp_is3 iX3_measure_1 ?_
  refine wp_al0 iX3_measure_2 ?_
  refine wp_gR iX3_measure_3 fr_3_34 rfl rfl rfl ?_
  refine wp_il2 iX3_measure_6 ?_
  refine wp_bp iX3_measure_7 (by decide) ?_
  refine wp_mul iX3_measure_9 (by omega) ?_
  refine wp_ic iX3_measure_10 (by decide) ?_
  refine wp_is iX3_measure_11 rfl rfl (by omega) ?_
  refine wp_ic iX3_measure_12 (by decide) ?_
  refine wp_is4 iX3_measure_13 ?_
  rw [show s * 11 = 11 * s by omega, up_rw, wbF_0 (M 16) (fX4 M) (M 13 s.toNat) (M 14 s.toNat).toNat s hs.1]
  have key : ∀ (n : Nat) (i wk : Int), (M 11 6 - i).toNat = n → 0 ≤ i → i ≤ M 11 6 → wk = wb (fX4 M) (M 13 s.toNat) (M 14 s.toNat).toNat i.toNat → wp L 3 mX3_measure 15 [some (.inr 11), some (.inr 3), some (.inl s), some (.inl wk), some (.inl i)] [] (ab_rw M 16 (wbF (M 16) (fX4 M) (M 13 s.toNat) (M 14 s.toNat).toNat s i)) (fun r M1 => r = none ∧ M1 = ab_rw M 16 (wbF (M 16) (fX4 M) (M 13 s.toNat) (M 14 s.toNat).toNat s (M 11 6))) := by
    intro n
    induction n using Nat.strongRecOn with
    | ind n ih =>
      intro i wk hn hi0 hi1 hwk
      obtain ⟨N, hN⟩ : ∃ N, N = ab_rw M 16 (wbF (M 16) (fX4 M) (M 13 s.toNat) (M 14 s.toNat).toNat s i) := ⟨_, rfl⟩
      rw [← hN]
      have e116 : N 11 6 = M 11 6 := by rw [hN]; rfl
      have e13 : N 13 = M 13 := by rw [hN]; rfl
      have e14 : N 14 = M 14 := by rw [hN]; rfl
      have e4 : N 4 = M 4 := by rw [hN]; rfl
      have e3 : N 3 = M 3 := by rw [hN]; rfl
      have hBN : hB N := by unfold hB; rw [e3, e4]; exact hB0
      have hfx : fX4 N = fX4 M := by unfold fX4; rw [e4]
      refine wp_il4 iX3_measure_15 ?_
      refine wp_al0 iX3_measure_17 ?_
      refine wp_gI iX3_measure_18 fi_3_31 rfl ?_
      refine wp_cge iX3_measure_21 (fun c_21 => ?_) (fun c_21 => ?_)
      · refine wp_retv iX3_measure_71 rfl ?_
        exact ⟨rfl, by rw [hN, show i = M 11 6 by omega]⟩
      · have hwp := c_X3_workInPick L N hBN s i (M 13 s.toNat + M 14 s.toNat - 1) hs (by omega) (by rw [e13]; omega) (by omega)
        rw [hfx, e13, show M 13 s.toNat + M 14 s.toNat - 1 + 1 - M 13 s.toNat = M 14 s.toNat by omega] at hwp
        have hb := rs_bd (fX4 M) (fX4_01 M hB0) (M 13 s.toNat) (M 14 s.toNat).toNat i
        have hwb := wb_bd (fX4 M) (fX4_01 M hB0) (M 13 s.toNat) (M 14 s.toNat).toNat i.toNat
        have hwb2 : wb (fX4 M) (M 13 s.toNat) (M 14 s.toNat).toNat i.toNat ≤ 360 := by
          have e1 : 3 * (((M 14 s.toNat).toNat : Nat) : Int) * ((i.toNat : Nat) : Int) ≤ 36 * 10 := Int.mul_le_mul (by omega) (by omega) (by omega) (by omega)
          omega
        refine wp_il3 iX3_measure_24 ?_
        refine wp_al0 iX3_measure_25 ?_
        refine wp_al1 iX3_measure_26 ?_
        refine wp_il2 iX3_measure_27 ?_
        refine wp_il4 iX3_measure_28 ?_
        refine wp_al0 iX3_measure_30 ?_
        refine wp_gR iX3_measure_31 fr_3_22 rfl rfl rfl ?_
        refine wp_il2 iX3_measure_34 ?_
        refine wp_ia iX3_measure_35 rfl (by omega) ?_
        rw [e13]
        refine wp_al0 iX3_measure_36 ?_
        refine wp_gR iX3_measure_37 fr_3_25 rfl rfl rfl ?_
        refine wp_il2 iX3_measure_40 ?_
        refine wp_ia iX3_measure_41 rfl (by omega) ?_
        rw [e14]
        refine wp_add iX3_measure_42 (by omega) ?_
        refine wp_ic iX3_measure_43 (by decide) ?_
        refine wp_sub iX3_measure_44 (by omega) ?_
        refine wp_v4f iX3_measure_45 ml_3_54 rfl rfl rfl rfl (hwp) ?_
        refine wp_add iX3_measure_48 (by omega) ?_
        refine wp_is3 iX3_measure_49 ?_
        refine wp_al0 iX3_measure_50 ?_
        refine wp_gR iX3_measure_51 fr_3_34 rfl rfl rfl ?_
        refine wp_il2 iX3_measure_54 ?_
        refine wp_bp iX3_measure_55 (by decide) ?_
        refine wp_mul iX3_measure_57 (by omega) ?_
        refine wp_il4 iX3_measure_58 ?_
        refine wp_add iX3_measure_60 (by omega) ?_
        refine wp_ic iX3_measure_61 (by decide) ?_
        refine wp_add iX3_measure_62 (by omega) ?_
        refine wp_il3 iX3_measure_63 ?_
        refine wp_is iX3_measure_64 rfl rfl (by omega) ?_
        have hw1 : wk + rs (fX4 M) (M 13 s.toNat) (M 14 s.toNat).toNat i = wb (fX4 M) (M 13 s.toNat) (M 14 s.toNat).toNat (i + 1).toNat := by
          rw [show (i + 1).toNat = i.toNat + 1 by omega, hwk]
          show _ = wb (fX4 M) (M 13 s.toNat) (M 14 s.toNat).toNat i.toNat + rs (fX4 M) (M 13 s.toNat) (M 14 s.toNat).toNat ((i.toNat : Nat) : Int)
          rw [toNat_cast hi0]
        rw [hw1, show s * 11 + i + 1 = 11 * s + i + 1 by omega, hN, up_row, wbF_up _ _ _ _ _ _ hs.1 hi0]
        refine wp_ii4 iX3_measure_65 (by omega) ?_
        refine wp_goto iX3_measure_68 ?_
        exact ih _ (by omega) (i + 1) _ rfl (by omega) (by omega) rfl
  exact key _ 0 0 rfl (by omega) (by omega) rfl
theorem c_X8_woven (hB0 : hB M) (h : hL1 M) (h13 : 0 < M 11 0 → M 13 0 = 0) (hf : ∀ k, 0 ≤ M 13 k) (w p : Int) : cF L 5 mX8_woven [.inr 1, .inl w, .inl p] M (if 0 < M 11 0 then (if (0 ≤ w ∧ w < M 3 0) ∧ 0 ≤ p ∧ p < M 3 1 then (if M 16 (11 * stX M w + p).toNat + rs (fX4 M) (M 13 (stX M w).toNat) (w + 1 - M 13 (stX M w).toNat).toNat p ≤ M 15 (stX M w).toNat then 1 else 0) else -1) else -3) := by
  obtain ⟨h1, h2, h3, h4, h5⟩ := id hB0
  refine cF_of rfl ?_
  change wp _ _ _ 0 [some (.inr 1), some (.inl w), some (.inl p)] [] _ _
  refine wp_al0 iX8_woven_0 ?_
  refine wp_gR iX8_woven_1 fr_8_10 rfl rfl rfl ?_
  refine wp_gR iX8_woven_4 fr_8_65 rfl rfl rfl ?_
  refine wp_v0f iX8_woven_7 ml_8_211 rfl rfl rfl rfl (c_X3_isUp _ _) ?_
  refine wp_bne iX8_woven_10 (fun c_10 => ?_) (fun c_10 => ?_)
  · refine wp_al0 iX8_woven_16 ?_
    refine wp_gR iX8_woven_17 fr_8_10 rfl rfl rfl ?_
    refine wp_gR iX8_woven_20 fr_8_55 rfl rfl rfl ?_
    refine wp_il1 iX8_woven_23 ?_
    refine wp_il2 iX8_woven_24 ?_
    refine wp_v2f iX8_woven_25 ml_8_94 rfl rfl rfl rfl (c_X0_hasSquare _ _ _ _) ?_
    refine wp_bne iX8_woven_28 (fun c_28 => ?_) (fun c_28 => ?_)
    · refine wp_al0 iX8_woven_33 ?_
      refine wp_gR iX8_woven_34 fr_8_10 rfl rfl rfl ?_
      refine wp_gR iX8_woven_37 fr_8_65 rfl rfl rfl ?_
      refine wp_al0 iX8_woven_40 ?_
      refine wp_gR iX8_woven_41 fr_8_10 rfl rfl rfl ?_
      refine wp_gR iX8_woven_44 fr_8_55 rfl rfl rfl ?_
      refine wp_il1 iX8_woven_47 ?_
      refine wp_il2 iX8_woven_48 ?_
      refine wp_v3f iX8_woven_49 ml_8_242 rfl rfl rfl rfl (c_X3_isWoven L M hB0 h (by assumption) (h13 (by assumption)) hf w p (by omega) (by omega)) ?_
      refine wp_beq iX8_woven_52 (fun c_52 => ?_) (fun c_52 => ?_)
      · refine wp_ic iX8_woven_59 (by decide) ?_
        refine wp_ret iX8_woven_60 rfl ?_
        (refine ⟨?_, ?_⟩ <;> (repeat' split) <;> first | rfl | (exfalso; omega))
      · refine wp_ic iX8_woven_55 (by decide) ?_
        refine wp_goto iX8_woven_56 ?_
        refine wp_ret iX8_woven_60 rfl ?_
        (refine ⟨?_, ?_⟩ <;> (repeat' split) <;> first | rfl | (exfalso; omega))
    · refine wp_ic iX8_woven_31 (by decide) ?_
      refine wp_ret iX8_woven_32 rfl ?_
      (refine ⟨?_, ?_⟩ <;> (repeat' split) <;> first | rfl | (exfalso; omega))
  · refine wp_bp iX8_woven_13 (by decide) ?_
    refine wp_ret iX8_woven_15 rfl ?_
    (refine ⟨?_, ?_⟩ <;> (repeat' split) <;> first | rfl | (exfalso; omega))
theorem c_X8_unweave (hB0 : hB M) (h : hL1 M) (s p : Int) : cG L 2 mX8_unweave [.inr 1, .inl s, .inl p] M (if 0 < M 11 0 then (if (0 ≤ s ∧ s < M 11 0) ∧ 0 ≤ p ∧ p < M 3 1 then (if M 16 (11 * s + p).toNat < M 15 s.toNat then M 15 s.toNat - M 16 (11 * s + p).toNat else 0) else -1) else -3) (if 0 < M 11 0 ∧ (0 ≤ s ∧ s < M 11 0) ∧ 0 ≤ p ∧ p < M 3 1 then ab_up M 15 s.toNat (if M 16 (11 * s + p).toNat < M 15 s.toNat then M 16 (11 * s + p).toNat else M 15 s.toNat) else M) := by
  obtain ⟨h1, h2, h3, h4, h5⟩ := id hB0
  have hh := h.1.1
  refine cG_of rfl ?_
  change wp _ _ _ 0 [some (.inr 1), some (.inl s), some (.inl p)] [] _ _
  refine wp_al0 iX8_unweave_0 ?_
  refine wp_gR iX8_unweave_1 fr_8_10 rfl rfl rfl ?_
  refine wp_gR iX8_unweave_4 fr_8_65 rfl rfl rfl ?_
  refine wp_v0f iX8_unweave_7 ml_8_211 rfl rfl rfl rfl (c_X3_isUp _ _) ?_
  refine wp_bne iX8_unweave_10 (fun c_10 => ?_) (fun c_10 => ?_)
  · refine wp_il1 iX8_unweave_16 ?_
    refine wp_al0 iX8_unweave_17 ?_
    refine wp_gR iX8_unweave_18 fr_8_10 rfl rfl rfl ?_
    refine wp_gR iX8_unweave_21 fr_8_65 rfl rfl rfl ?_
    refine wp_gI iX8_unweave_24 fi_8_210 rfl ?_
    refine wp_s2f iX8_unweave_27 ml_8_132 rfl rfl rfl (c_X8_isBelow _ _ _ _) ?_
    refine wp_beq iX8_unweave_30 (fun c_30 => ?_) (fun c_30 => ?_)
    · refine wp_ic iX8_unweave_50 (by decide) ?_
      refine wp_ret iX8_unweave_51 rfl ?_
      first | (have q1 : 0 < M 11 0 := (by omega); have q2 : (0 ≤ s ∧ s < M 11 0) ∧ 0 ≤ p ∧ p < M 3 1 := (by omega); rw [if_pos (And.intro q1 q2), if_pos q1, if_pos q2]; exact ⟨rfl, rfl⟩) | (refine ⟨?_, ?_⟩ <;> (first | (rw [if_pos (by omega), if_pos (by omega)]; done) | (rw [if_pos (by omega), if_neg (by omega)]; done) | (rw [if_pos (by omega)]; done) | (rw [if_neg (by omega)]; done)))
    · refine wp_il2 iX8_unweave_33 ?_
      refine wp_al0 iX8_unweave_34 ?_
      refine wp_gR iX8_unweave_35 fr_8_10 rfl rfl rfl ?_
      refine wp_gR iX8_unweave_38 fr_8_55 rfl rfl rfl ?_
      refine wp_gI iX8_unweave_41 fi_8_80 rfl ?_
      refine wp_s2f iX8_unweave_44 ml_8_132 rfl rfl rfl (c_X8_isBelow _ _ _ _) ?_
      refine wp_bne iX8_unweave_47 (fun c_47 => ?_) (fun c_47 => ?_)
      · refine wp_al0 iX8_unweave_52 ?_
        refine wp_gR iX8_unweave_53 fr_8_10 rfl rfl rfl ?_
        refine wp_gR iX8_unweave_56 fr_8_65 rfl rfl rfl ?_
        refine wp_il1 iX8_unweave_59 ?_
        refine wp_il2 iX8_unweave_60 ?_
        refine wp_v2g iX8_unweave_61 ml_8_246 rfl rfl rfl rfl (c_X3_unweaveFrom L M h s p (by omega) (by omega)) ?_
        refine wp_ret iX8_unweave_64 rfl ?_
        first | (have q1 : 0 < M 11 0 := (by omega); have q2 : (0 ≤ s ∧ s < M 11 0) ∧ 0 ≤ p ∧ p < M 3 1 := (by omega); rw [if_pos (And.intro q1 q2), if_pos q1, if_pos q2]; exact ⟨rfl, rfl⟩) | (refine ⟨?_, ?_⟩ <;> (first | (rw [if_pos (by omega), if_pos (by omega)]; done) | (rw [if_pos (by omega), if_neg (by omega)]; done) | (rw [if_pos (by omega)]; done) | (rw [if_neg (by omega)]; done)))
      · refine wp_ic iX8_unweave_50 (by decide) ?_
        refine wp_ret iX8_unweave_51 rfl ?_
        first | (have q1 : 0 < M 11 0 := (by omega); have q2 : (0 ≤ s ∧ s < M 11 0) ∧ 0 ≤ p ∧ p < M 3 1 := (by omega); rw [if_pos (And.intro q1 q2), if_pos q1, if_pos q2]; exact ⟨rfl, rfl⟩) | (refine ⟨?_, ?_⟩ <;> (first | (rw [if_pos (by omega), if_pos (by omega)]; done) | (rw [if_pos (by omega), if_neg (by omega)]; done) | (rw [if_pos (by omega)]; done) | (rw [if_neg (by omega)]; done)))
  · refine wp_bp iX8_unweave_13 (by decide) ?_
    refine wp_ret iX8_unweave_15 rfl ?_
    first | (have q1 : 0 < M 11 0 := (by omega); have q2 : (0 ≤ s ∧ s < M 11 0) ∧ 0 ≤ p ∧ p < M 3 1 := (by omega); rw [if_pos (And.intro q1 q2), if_pos q1, if_pos q2]; exact ⟨rfl, rfl⟩) | (refine ⟨?_, ?_⟩ <;> (first | (rw [if_pos (by omega), if_pos (by omega)]; done) | (rw [if_pos (by omega), if_neg (by omega)]; done) | (rw [if_pos (by omega)]; done) | (rw [if_neg (by omega)]; done)))
theorem c_X8_strip (h : hL1 M) (s what : Int) : cG L 4 mX8_strip [.inr 1, .inl s, .inl what] M
    (if 0 < M 11 0 then (if 0 ≤ s ∧ s < M 11 0 then (if what = 0 then M 12 s.toNat else if what = 1 then M 13 s.toNat else if what = 2 then M 14 s.toNat else if what = 3 then M 15 s.toNat else if what = 4 then M 16 (11 * s + M 11 6).toNat else if what = 5 then whX M s else if what = 6 then (if M 15 s.toNat < M 16 (11 * s + M 11 6).toNat ∧ ¬ ((0 < s ∧ M 1 4 ≤ mDawn M 17 s.toNat - mDawn M 17 (s - 1).toNat) ∨ (s < M 11 0 - 1 ∧ M 1 4 ≤ mDawn M 17 s.toNat - mDawn M 17 (s + 1).toNat)) then 1 else 0) else -1) else -1) else -3)
    (if 0 < M 11 0 ∧ (0 ≤ s ∧ s < M 11 0) ∧ what = 6 then mDawn M else M) := by
  obtain ⟨h0, h1, h2, h3, h4, h5⟩ := id h
  have hh := h0.1
  refine cG_of rfl ?_
  change wp _ _ _ 0 [some (.inr 1), some (.inl s), some (.inl what), none] [] _ _
  refine wp_al0 iX8_strip_0 ?_
  refine wp_gR iX8_strip_1 fr_8_10 rfl rfl rfl ?_
  refine wp_gR iX8_strip_4 fr_8_65 rfl rfl rfl ?_
  refine wp_as3 iX8_strip_7 ?_
  refine wp_al3 iX8_strip_8 ?_
  refine wp_v0f iX8_strip_9 ml_8_211 rfl rfl rfl rfl (c_X3_isUp _ _) ?_
  refine wp_bne iX8_strip_12 (fun c_12 => ?_) (fun c_12 => ?_)
  · refine wp_il1 iX8_strip_18 ?_
    refine wp_al3 iX8_strip_19 ?_
    refine wp_gI iX8_strip_20 fi_8_210 rfl ?_
    refine wp_s2f iX8_strip_23 ml_8_132 rfl rfl rfl (c_X8_isBelow _ _ _ _) ?_
    refine wp_bne iX8_strip_26 (fun c_26 => ?_) (fun c_26 => ?_)
    · refine wp_il2 iX8_strip_31 ?_
      refine wp_t7 (td := 134) (t0 := 76) (t1 := 83) (t2 := 90) (t3 := 97) (t4 := 104) (t5 := 110) (t6 := 116) iX8_strip_32 (by decide) (by decide) (by decide) (by decide) (by decide) (by decide) (by decide) (by decide) (fun c_32 => ?_) (fun c_32 => ?_) (fun c_32 => ?_) (fun c_32 => ?_) (fun c_32 => ?_) (fun c_32 => ?_) (fun c_32 => ?_) (fun c_32 => ?_)
      · refine wp_ic iX8_strip_134 (by decide) ?_
        refine wp_ret iX8_strip_135 rfl ?_
        (refine ⟨?_, ?_⟩ <;> (repeat' split) <;> first | rfl | (exfalso; omega) | (exfalso; simp_all; done))
      · refine wp_al3 iX8_strip_76 ?_
        refine wp_gR iX8_strip_77 fr_8_222 rfl rfl rfl ?_
        refine wp_il1 iX8_strip_80 ?_
        refine wp_ia iX8_strip_81 rfl (by omega) ?_
        refine wp_ret iX8_strip_82 rfl ?_
        (refine ⟨?_, ?_⟩ <;> (repeat' split) <;> first | rfl | (exfalso; omega) | (exfalso; simp_all; done))
      · refine wp_al3 iX8_strip_83 ?_
        refine wp_gR iX8_strip_84 fr_8_224 rfl rfl rfl ?_
        refine wp_il1 iX8_strip_87 ?_
        refine wp_ia iX8_strip_88 rfl (by omega) ?_
        refine wp_ret iX8_strip_89 rfl ?_
        (refine ⟨?_, ?_⟩ <;> (repeat' split) <;> first | rfl | (exfalso; omega) | (exfalso; simp_all; done))
      · refine wp_al3 iX8_strip_90 ?_
        refine wp_gR iX8_strip_91 fr_8_227 rfl rfl rfl ?_
        refine wp_il1 iX8_strip_94 ?_
        refine wp_ia iX8_strip_95 rfl (by omega) ?_
        refine wp_ret iX8_strip_96 rfl ?_
        (refine ⟨?_, ?_⟩ <;> (repeat' split) <;> first | rfl | (exfalso; omega) | (exfalso; simp_all; done))
      · refine wp_al3 iX8_strip_97 ?_
        refine wp_gR iX8_strip_98 fr_8_230 rfl rfl rfl ?_
        refine wp_il1 iX8_strip_101 ?_
        refine wp_ia iX8_strip_102 rfl (by omega) ?_
        refine wp_ret iX8_strip_103 rfl ?_
        (refine ⟨?_, ?_⟩ <;> (repeat' split) <;> first | rfl | (exfalso; omega) | (exfalso; simp_all; done))
      · refine wp_al3 iX8_strip_104 ?_
        refine wp_il1 iX8_strip_105 ?_
        refine wp_v1f iX8_strip_106 ml_8_233 rfl rfl rfl rfl (c_X3_workOf L M h0 s (by omega)) ?_
        refine wp_ret iX8_strip_109 rfl ?_
        (refine ⟨?_, ?_⟩ <;> (repeat' split) <;> first | rfl | (exfalso; omega) | (exfalso; simp_all; done))
      · refine wp_al3 iX8_strip_110 ?_
        refine wp_il1 iX8_strip_111 ?_
        refine wp_v1f iX8_strip_112 ml_8_236 rfl rfl rfl rfl (c_X3_wholePicks L M h0 s (by omega)) ?_
        refine wp_ret iX8_strip_115 rfl ?_
        (refine ⟨?_, ?_⟩ <;> (repeat' split) <;> first | rfl | (exfalso; omega) | (exfalso; simp_all; done))
      · refine wp_al3 iX8_strip_116 ?_
        refine wp_il1 iX8_strip_117 ?_
        refine wp_al0 iX8_strip_118 ?_
        refine wp_gI iX8_strip_119 fi_8_27 rfl ?_
        refine wp_v2g iX8_strip_122 ml_8_239 rfl rfl rfl rfl (c_X3_wouldGoOn L M h s (M 1 4) (by omega)) ?_
        refine wp_beq iX8_strip_125 (fun c_125 => ?_) (fun c_125 => ?_)
        · refine wp_ic iX8_strip_132 (by decide) ?_
          refine wp_ret iX8_strip_133 rfl ?_
          (refine ⟨?_, ?_⟩ <;> (repeat' split) <;> first | rfl | (exfalso; omega) | (exfalso; simp_all; done))
        · refine wp_ic iX8_strip_128 (by decide) ?_
          refine wp_goto iX8_strip_129 ?_
          refine wp_ret iX8_strip_133 rfl ?_
          (refine ⟨?_, ?_⟩ <;> (repeat' split) <;> first | rfl | (exfalso; omega) | (exfalso; simp_all; done))
    · refine wp_ic iX8_strip_29 (by decide) ?_
      refine wp_ret iX8_strip_30 rfl ?_
      (refine ⟨?_, ?_⟩ <;> (repeat' split) <;> first | rfl | (exfalso; omega) | (exfalso; simp_all; done))
  · refine wp_bp iX8_strip_15 (by decide) ?_
    refine wp_ret iX8_strip_17 rfl ?_
    (refine ⟨?_, ?_⟩ <;> (repeat' split) <;> first | rfl | (exfalso; omega) | (exfalso; simp_all; done))
end LoomX5
