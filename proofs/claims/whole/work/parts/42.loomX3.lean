section LoomX3
variable (L : Nat) (M : ab_Me)
theorem c_X3_wouldGoOn (h : hL1 M) (s g : Int) (hs : 0 ≤ s ∧ s < M 11 0) : cG L 3 mX3_wouldGoOn [.inr 11, .inl s, .inl g] M (if M 15 s.toNat < M 16 (11 * s + M 11 6).toNat ∧ ¬ ((0 < s ∧ g ≤ mDawn M 17 s.toNat - mDawn M 17 (s - 1).toNat) ∨ (s < M 11 0 - 1 ∧ g ≤ mDawn M 17 s.toNat - mDawn M 17 (s + 1).toNat)) then 1 else 0) (mDawn M) := by
  have hD := hL1_dawn M h
  obtain ⟨h0, h1, h2, h3, h4, h5⟩ := id h
  have hh := h0.1
  have ht : cF L 1 mX3_isTooFarAhead [.inr 11, .inl s, .inl g] (mDawn M) (if (0 < s ∧ g ≤ mDawn M 17 s.toNat - mDawn M 17 (s - 1).toNat) ∨ (s < M 11 0 - 1 ∧ g ≤ mDawn M 17 s.toNat - mDawn M 17 (s + 1).toNat) then 1 else 0) := c_X3_isTooFarAhead L (mDawn M) h0 hD.2.2.2.2.2 s g (by show 0 ≤ s ∧ s < M 11 0; omega)
  have hw : cF L 1 mX3_workOf [.inr 11, .inl s] (mDawn M) (M 16 (11 * s + M 11 6).toNat) := c_X3_workOf L (mDawn M) h0 s (by omega)
  have e15 : mDawn M 15 = M 15 := rfl
  refine cG_of rfl ?_
  change wp _ _ _ 0 [some (.inr 11), some (.inl s), some (.inl g)] [] _ _
  refine wp_al0 iX3_wouldGoOn_0 ?_
  refine wp_v0v iX3_wouldGoOn_1 ml_3_74 rfl rfl rfl rfl (c_X3_beginDay L M h0) ?_
  refine wp_al0 iX3_wouldGoOn_4 ?_
  refine wp_gR iX3_wouldGoOn_5 fr_3_28 rfl rfl rfl ?_
  refine wp_il1 iX3_wouldGoOn_8 ?_
  refine wp_ia iX3_wouldGoOn_9 rfl (by omega) ?_
  rw [e15]
  refine wp_al0 iX3_wouldGoOn_10 ?_
  refine wp_il1 iX3_wouldGoOn_11 ?_
  refine wp_v1f iX3_wouldGoOn_12 ml_3_86 rfl rfl rfl rfl (hw) ?_
  refine wp_cge iX3_wouldGoOn_15 (fun c_15 => ?_) (fun c_15 => ?_)
  · refine wp_ic iX3_wouldGoOn_31 (by decide) ?_
    refine wp_retb iX3_wouldGoOn_32 rfl (by decide) ?_
    (refine ⟨?_, rfl⟩; first | (rw [if_pos ⟨by assumption, by assumption⟩]) | (rw [if_neg (fun q => absurd q.1 (by omega))]) | (rw [if_neg (fun q => absurd (by assumption) q.2)]))
  · refine wp_al0 iX3_wouldGoOn_18 ?_
    refine wp_il1 iX3_wouldGoOn_19 ?_
    refine wp_il2 iX3_wouldGoOn_20 ?_
    refine wp_v2f iX3_wouldGoOn_21 ml_3_77 rfl rfl rfl rfl (ht) ?_
    refine wp_bne iX3_wouldGoOn_24 (fun c_24 => ?_) (fun c_24 => ?_)
    · refine wp_ic iX3_wouldGoOn_31 (by decide) ?_
      refine wp_retb iX3_wouldGoOn_32 rfl (by decide) ?_
      (refine ⟨?_, rfl⟩; first | (rw [if_pos ⟨by assumption, by assumption⟩]) | (rw [if_neg (fun q => absurd q.1 (by omega))]) | (rw [if_neg (fun q => absurd (by assumption) q.2)]))
    · refine wp_ic iX3_wouldGoOn_27 (by decide) ?_
      refine wp_goto iX3_wouldGoOn_28 ?_
      refine wp_retb iX3_wouldGoOn_32 rfl (by decide) ?_
      (refine ⟨?_, rfl⟩; first | (rw [if_pos ⟨by assumption, by assumption⟩]) | (rw [if_neg (fun q => absurd q.1 (by omega))]) | (rw [if_neg (fun q => absurd (by assumption) q.2)]))
theorem c_X3_unweaveFrom (h : hL1 M) (s p : Int) (hs : 0 ≤ s ∧ s < 4) (hp : 0 ≤ p ∧ p < 10) : cG L 1 mX3_unweaveFrom [.inr 11, .inl s, .inl p] M (if M 16 (11 * s + p).toNat < M 15 s.toNat then M 15 s.toNat - M 16 (11 * s + p).toNat else 0) (ab_up M 15 s.toNat (if M 16 (11 * s + p).toNat < M 15 s.toNat then M 16 (11 * s + p).toNat else M 15 s.toNat)) := by
  obtain ⟨h0, h1, h2, h3, h4, h5⟩ := id h
  have g2 := h2 s.toNat
  have g3 := h3 (11 * s + p).toNat
  have e : s * 11 + p = 11 * s + p := by omega
  refine cG_of rfl ?_
  change wp _ _ _ 0 [some (.inr 11), some (.inl s), some (.inl p), none] [] _ _
  refine wp_al0 iX3_unweaveFrom_0 ?_
  refine wp_gR iX3_unweaveFrom_1 fr_3_28 rfl rfl rfl ?_
  refine wp_il1 iX3_unweaveFrom_4 ?_
  refine wp_ia iX3_unweaveFrom_5 rfl (by omega) ?_
  refine wp_is3 iX3_unweaveFrom_6 ?_
  refine wp_al0 iX3_unweaveFrom_7 ?_
  refine wp_gR iX3_unweaveFrom_8 fr_3_28 rfl rfl rfl ?_
  refine wp_il1 iX3_unweaveFrom_11 ?_
  refine wp_il3 iX3_unweaveFrom_12 ?_
  refine wp_al0 iX3_unweaveFrom_13 ?_
  refine wp_gR iX3_unweaveFrom_14 fr_3_34 rfl rfl rfl ?_
  refine wp_il1 iX3_unweaveFrom_17 ?_
  refine wp_bp iX3_unweaveFrom_18 (by decide) ?_
  refine wp_mul iX3_unweaveFrom_20 (by omega) ?_
  refine wp_il2 iX3_unweaveFrom_21 ?_
  refine wp_add iX3_unweaveFrom_22 (by omega) ?_
  refine wp_ia iX3_unweaveFrom_23 rfl (by omega) ?_
  refine wp_mn iX3_unweaveFrom_24 ml_3_69 rfl ?_
  refine wp_is iX3_unweaveFrom_27 rfl rfl (by omega) ?_
  refine wp_il3 iX3_unweaveFrom_28 ?_
  refine wp_al0 iX3_unweaveFrom_29 ?_
  refine wp_gR iX3_unweaveFrom_30 fr_3_28 rfl rfl rfl ?_
  refine wp_il1 iX3_unweaveFrom_33 ?_
  refine wp_ia iX3_unweaveFrom_34 rfl (by omega) ?_
  rw [e, ab_up_self, ab_u1_self]
  refine wp_sub iX3_unweaveFrom_35 (by split <;> omega) ?_
  refine wp_ret iX3_unweaveFrom_36 rfl ?_
  refine ⟨?_, rfl⟩
  congr 2
  split <;> omega
theorem c_X3_stripAt (h : hL0 M) (w : Int) : cF L 1 mX3_stripAt [.inr 11, .inl w] M (rl (fun j => decide (M 13 (j + 1) ≤ w)) (M 11 0 - 1).toNat 0) := by
  obtain ⟨h1, h2⟩ := id h
  refine cF_of rfl ?_
  change wp _ _ _ 0 [some (.inr 11), some (.inl w), none] [] _ _
  refine wp_ic iX3_stripAt_0 (by decide) ?_
  refine wp_is2 iX3_stripAt_1 ?_
  have key : ∀ (n : Nat) (i : Int), (M 11 0 - 1 - i).toNat = n → 0 ≤ i → (i ≤ M 11 0 - 1 ∨ i = 0) → rl (fun j => decide (M 13 (j + 1) ≤ w)) (M 11 0 - 1).toNat 0 = i + rl (fun j => decide (M 13 (j + 1) ≤ w)) n i.toNat → wp L 0 mX3_stripAt 2 [some (.inr 11), some (.inl w), some (.inl i)] [] M (fun r M1 => r = some (.inl (rl (fun j => decide (M 13 (j + 1) ≤ w)) (M 11 0 - 1).toNat 0)) ∧ M1 = M) := by
    intro n
    induction n with
    | zero =>
      intro i hn hi0 hi1 hw
      refine wp_il2 iX3_stripAt_2 ?_
      refine wp_al0 iX3_stripAt_3 ?_
      refine wp_gI iX3_stripAt_4 fi_3_9 rfl ?_
      refine wp_ic iX3_stripAt_7 (by decide) ?_
      refine wp_sub iX3_stripAt_8 (by omega) ?_
      refine wp_cge iX3_stripAt_9 (fun c_9 => ?_) (fun c_9 => ?_)
      · refine wp_il2 iX3_stripAt_30 ?_
        refine wp_ret iX3_stripAt_31 rfl ?_
        (exact ⟨by rw [hw]; simp [rl], rfl⟩)
      · refine wp_il1 iX3_stripAt_12 ?_
        refine wp_al0 iX3_stripAt_13 ?_
        refine wp_gR iX3_stripAt_14 fr_3_22 rfl rfl rfl ?_
        refine wp_il2 iX3_stripAt_17 ?_
        refine wp_ic iX3_stripAt_18 (by decide) ?_
        refine wp_add iX3_stripAt_19 (by omega) ?_
        refine wp_ia iX3_stripAt_20 rfl (by omega) ?_
        refine wp_clt iX3_stripAt_21 (fun c_21 => ?_) (fun c_21 => ?_)
        · refine wp_il2 iX3_stripAt_30 ?_
          refine wp_ret iX3_stripAt_31 rfl ?_
          (exact ⟨by rw [hw]; simp [rl], rfl⟩)
        · refine wp_ii2 iX3_stripAt_24 (by omega) ?_
          refine wp_goto iX3_stripAt_27 ?_
          exact absurd hn (by omega)
    | succ n ih =>
      intro i hn hi0 hi1 hw
      have hu : ((fun j => decide (M 13 (j + 1) ≤ w)) i.toNat = true) ↔ M 13 (i + 1).toNat ≤ w := by
        rw [show (i + 1).toNat = i.toNat + 1 by omega]
        simp
      refine wp_il2 iX3_stripAt_2 ?_
      refine wp_al0 iX3_stripAt_3 ?_
      refine wp_gI iX3_stripAt_4 fi_3_9 rfl ?_
      refine wp_ic iX3_stripAt_7 (by decide) ?_
      refine wp_sub iX3_stripAt_8 (by omega) ?_
      refine wp_cge iX3_stripAt_9 (fun c_9 => ?_) (fun c_9 => ?_)
      · refine wp_il2 iX3_stripAt_30 ?_
        refine wp_ret iX3_stripAt_31 rfl ?_
        (first | (exact ⟨by rw [hw, rl_no (Or.inr (fun q => absurd (hu.mp q) (by omega)))]; simp, rfl⟩) | (exfalso; omega))
      · refine wp_il1 iX3_stripAt_12 ?_
        refine wp_al0 iX3_stripAt_13 ?_
        refine wp_gR iX3_stripAt_14 fr_3_22 rfl rfl rfl ?_
        refine wp_il2 iX3_stripAt_17 ?_
        refine wp_ic iX3_stripAt_18 (by decide) ?_
        refine wp_add iX3_stripAt_19 (by omega) ?_
        refine wp_ia iX3_stripAt_20 rfl (by omega) ?_
        refine wp_clt iX3_stripAt_21 (fun c_21 => ?_) (fun c_21 => ?_)
        · refine wp_il2 iX3_stripAt_30 ?_
          refine wp_ret iX3_stripAt_31 rfl ?_
          (first | (exact ⟨by rw [hw, rl_no (Or.inr (fun q => absurd (hu.mp q) (by omega)))]; simp, rfl⟩) | (exfalso; omega))
        · refine wp_ii2 iX3_stripAt_24 (by omega) ?_
          refine wp_goto iX3_stripAt_27 ?_
          exact ih (i + 1) (by omega) (by omega) (by omega) (by rw [hw, rl_yes (hu.mpr (by assumption)), show (i + 1).toNat = i.toNat + 1 by omega]; omega)
  exact key _ 0 rfl (by omega) (by omega) (by simp)
theorem c_X3_workInPick (hB0 : hB M) (s p lw : Int) (hs : 0 ≤ s ∧ s < 4) (hp : 0 ≤ p ∧ p < 10) (hf : 0 ≤ M 13 s.toNat ∧ M 13 s.toNat ≤ lw + 1) (hl : lw < 12) : cF L 3 mX3_workInPick [.inr 11, .inr 3, .inl s, .inl p, .inl lw] M (rs (fX4 M) (M 13 s.toNat) (lw + 1 - M 13 s.toNat).toNat p) := by
  refine cF_of rfl ?_
  change wp _ _ _ 0 [some (.inr 11), some (.inr 3), some (.inl s), some (.inl p), some (.inl lw), none, none] [] _ _
  refine wp_ic iX3_workInPick_0 (by decide) ?_
  refine wp_is5 iX3_workInPick_1 ?_
  refine wp_al0 iX3_workInPick_3 ?_
  refine wp_gR iX3_workInPick_4 fr_3_22 rfl rfl rfl ?_
  refine wp_il2 iX3_workInPick_7 ?_
  refine wp_ia iX3_workInPick_8 rfl (by omega) ?_
  refine wp_is6 iX3_workInPick_9 ?_
  have key : ∀ (n : Nat) (w acc : Int), (lw + 1 - w).toNat = n → M 13 s.toNat ≤ w → w ≤ lw + 1 → acc = rs (fX4 M) (M 13 s.toNat) (w - M 13 s.toNat).toNat p → wp L 2 mX3_workInPick 11 [some (.inr 11), some (.inr 3), some (.inl s), some (.inl p), some (.inl lw), some (.inl acc), some (.inl w)] [] M (fun r M1 => r = some (.inl (rs (fX4 M) (M 13 s.toNat) (lw + 1 - M 13 s.toNat).toNat p)) ∧ M1 = M) := by
    intro n
    induction n using Nat.strongRecOn with
    | ind n ih =>
      intro w acc hn hw0 hw1 hacc
      have hb := rs_bd (fX4 M) (fX4_01 M hB0) (M 13 s.toNat) (w - M 13 s.toNat).toNat p
      have hv := hB0.2.2.2.2 (12 * p + w).toNat
      have hcw : (if 8 ≤ M 4 (12 * p + w).toNat then (3 : Int) else 1) = cwk (fX4 M) w p := by unfold cwk fX4; split <;> omega
      have hcb := cwk_bd (fX4 M) (fX4_01 M hB0) w p
      have hs1 : rs (fX4 M) (M 13 s.toNat) (w + 1 - M 13 s.toNat).toNat p = rs (fX4 M) (M 13 s.toNat) (w - M 13 s.toNat).toNat p + cwk (fX4 M) w p := by
        rw [show (w + 1 - M 13 s.toNat).toNat = (w - M 13 s.toNat).toNat + 1 by omega]
        show rs (fX4 M) (M 13 s.toNat) (w - M 13 s.toNat).toNat p + cwk (fX4 M) (M 13 s.toNat + (((w - M 13 s.toNat).toNat : Nat) : Int)) p = _
        rw [toNat_cast (by omega), show M 13 s.toNat + (w - M 13 s.toNat) = w by omega]
      have hwa : w ≤ lw → cF L 2 mX0_workAt [.inr 3, .inl (12 * p + w)] M (cwk (fX4 M) w p) := fun q => by rw [← hcw]; exact c_X0_workAt L M (12 * p + w) (by omega) hv
      refine wp_il6 iX3_workInPick_11 ?_
      refine wp_il4 iX3_workInPick_13 ?_
      refine wp_cgt iX3_workInPick_15 (fun c_15 => ?_) (fun c_15 => ?_)
      · refine wp_il5 iX3_workInPick_39 ?_
        refine wp_ret iX3_workInPick_41 rfl ?_
        (exact ⟨by rw [hacc, show w = lw + 1 by omega], rfl⟩)
      · refine wp_il5 iX3_workInPick_18 ?_
        refine wp_al1 iX3_workInPick_20 ?_
        refine wp_il6 iX3_workInPick_21 ?_
        refine wp_il3 iX3_workInPick_23 ?_
        refine wp_n2f iX3_workInPick_24 ml_3_58 rfl rfl rfl (c_X8_cellOf _ _ _ _ (by omega)) ?_
        refine wp_v1f iX3_workInPick_27 ml_3_62 rfl rfl rfl rfl (hwa (by omega)) ?_
        refine wp_add iX3_workInPick_30 (by omega) ?_
        refine wp_is5 iX3_workInPick_31 ?_
        refine wp_ii6 iX3_workInPick_33 (by omega) ?_
        refine wp_goto iX3_workInPick_36 ?_
        exact ih _ (by omega) (w + 1) _ rfl (by omega) (by omega) (by rw [hs1, hacc])
  exact key _ _ 0 rfl (by omega) (by omega) (by rw [show (M 13 s.toNat - M 13 s.toNat).toNat = 0 by omega]; rfl)
end LoomX3
