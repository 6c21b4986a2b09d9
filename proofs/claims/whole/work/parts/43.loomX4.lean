theorem rl_all (u : Nat → Bool) : ∀ (n p j : Nat), p ≤ j → (j : Int) < p + rl u n p → u j = true
  | 0, p, j, h1, h2 => by simp [rl] at h2; omega
  | n + 1, p, j, h1, h2 => by
    simp only [rl] at h2
    split at h2
    · rename_i hu
      by_cases hj : j = p
      · rw [hj]; exact hu
      · exact rl_all u n (p + 1) j (by omega) (by omega)
    · omega
theorem rl_stop (u : Nat → Bool) : ∀ (n p : Nat), rl u n p < n → ¬ u (p + (rl u n p).toNat) = true
  | 0, p, h => by simp [rl] at h
  | n + 1, p, h => by
    have hb := rl_bd u n (p + 1)
    by_cases hu : u p = true
    · rw [rl_yes hu] at h ⊢
      have := rl_stop u n (p + 1) (by omega)
      rw [show (rl u n (p + 1) + 1).toNat = (rl u n (p + 1)).toNat + 1 by omega, show p + ((rl u n (p + 1)).toNat + 1) = p + 1 + (rl u n (p + 1)).toNat by omega]
      exact this
    · rw [rl_no (Or.inr hu)]
      simpa using hu
def stX (M : ab_Me) (w : Int) : Int := rl (fun j => decide (M 13 (j + 1) ≤ w)) (M 11 0 - 1).toNat 0
theorem stX_bd (M : ab_Me) (h : 0 < M 11 0) (w : Int) : 0 ≤ stX M w ∧ stX M w < M 11 0 := by
  have := rl_bd (fun j => decide (M 13 (j + 1) ≤ w)) (M 11 0 - 1).toNat 0
  unfold stX
  omega
theorem stX_le (M : ab_Me) (h0 : M 13 0 = 0) (w : Int) (hw : 0 ≤ w) : M 13 (stX M w).toNat ≤ w := by
  have hb := rl_bd (fun j => decide (M 13 (j + 1) ≤ w)) (M 11 0 - 1).toNat 0
  by_cases hz : stX M w = 0
  · rw [hz]; show M 13 0 ≤ w; omega
  · have := rl_all (fun j => decide (M 13 (j + 1) ≤ w)) (M 11 0 - 1).toNat 0 ((stX M w).toNat - 1) (by omega) (by unfold stX at hz ⊢; omega)
    simp only [decide_eq_true_eq] at this
    rw [show (stX M w).toNat - 1 + 1 = (stX M w).toNat by unfold stX at hz ⊢; omega] at this
    exact this
def cnw (fac : Nat → Int) (a : Int) (n : Nat) (D : Int) (p : Nat) (i : Nat) : Int := if wb fac a n p + rs fac a (i + 1) (p : Int) ≤ D then 1 else 0
def cnt (fac : Nat → Int) (a : Int) (n : Nat) (D : Int) (P : Nat) : Int := sm (fun p => sm (cnw fac a n D p) n) P
theorem cnt_bd (fac : Nat → Int) (a : Int) (n : Nat) (D : Int) (P : Nat) : 0 ≤ cnt fac a n D P ∧ cnt fac a n D P ≤ (n : Int) * P := sm_bd _ n (fun p => by
  have := sm_bd (cnw fac a n D p) 1 (fun i => by unfold cnw; split <;> omega) n
  omega) P
theorem wb_bd (fac : Nat → Int) (hf : ∀ k, fac k = 0 ∨ fac k = 1) (a : Int) (n P : Nat) : 0 ≤ wb fac a n P ∧ wb fac a n P ≤ 3 * n * P := sm_bd _ (3 * n) (fun p => rs_bd fac hf a n (p : Int)) P
theorem rs_up (fac : Nat → Int) (a : Int) (n : Nat) (p : Int) : rs fac a (n + 1) p = rs fac a n p + cwk fac (a + (n : Int)) p := rfl
section LoomX4
variable (L : Nat) (M : ab_Me)
theorem c_X3_isWoven (hB0 : hB M) (h : hL1 M) (hup : 0 < M 11 0) (h0 : M 13 0 = 0) (hf : ∀ k, 0 ≤ M 13 k) (w p : Int) (hw : 0 ≤ w ∧ w < 12) (hp : 0 ≤ p ∧ p < 10) : cF L 4 mX3_isWoven [.inr 11, .inr 3, .inl w, .inl p] M (if M 16 (11 * stX M w + p).toNat + rs (fX4 M) (M 13 (stX M w).toNat) (w + 1 - M 13 (stX M w).toNat).toNat p ≤ M 15 (stX M w).toNat then 1 else 0) := by
  have hs := stX_bd M hup w
  have hl := stX_le M h0 w hw.1
  have hst : cF L 1 mX3_stripAt [.inr 11, .inl w] M (stX M w) := c_X3_stripAt L M h.1 w
  have hh := h.1.1
  generalize stX M w = s at *
  have hfs := hf s.toNat
  have hb := rs_bd (fX4 M) (fX4_01 M hB0) (M 13 s.toNat) (w + 1 - M 13 s.toNat).toNat p
  have h16 := h.2.2.2.1 (11 * s + p).toNat
  have hwp := c_X3_workInPick L M hB0 s p w (by omega) hp (by omega) (by omega)
  refine cF_of rfl ?_
  change wp _ _ _ 0 [some (.inr 11), some (.inr 3), some (.inl w), some (.inl p), none, none] [] _ _
  refine wp_al0 iX3_isWoven_0 ?_
  refine wp_il2 iX3_isWoven_1 ?_
  refine wp_v1f iX3_isWoven_2 ml_3_89 rfl rfl rfl rfl (hst) ?_
  refine wp_is4 iX3_isWoven_5 ?_
  refine wp_al0 iX3_isWoven_7 ?_
  refine wp_gR iX3_isWoven_8 fr_3_34 rfl rfl rfl ?_
  refine wp_il4 iX3_isWoven_11 ?_
  refine wp_bp iX3_isWoven_13 (by decide) ?_
  refine wp_mul iX3_isWoven_15 (by omega) ?_
  refine wp_il3 iX3_isWoven_16 ?_
  refine wp_add iX3_isWoven_17 (by omega) ?_
  refine wp_ia iX3_isWoven_18 rfl (by omega) ?_
  rw [show s * 11 + p = 11 * s + p by omega]
  refine wp_is5 iX3_isWoven_19 ?_
  refine wp_il5 iX3_isWoven_21 ?_
  refine wp_al0 iX3_isWoven_23 ?_
  refine wp_al1 iX3_isWoven_24 ?_
  refine wp_il4 iX3_isWoven_25 ?_
  refine wp_il3 iX3_isWoven_27 ?_
  refine wp_il2 iX3_isWoven_28 ?_
  refine wp_v4f iX3_isWoven_29 ml_3_54 rfl rfl rfl rfl (hwp) ?_
  refine wp_add iX3_isWoven_32 (by omega) ?_
  refine wp_al0 iX3_isWoven_33 ?_
  refine wp_gR iX3_isWoven_34 fr_3_28 rfl rfl rfl ?_
  refine wp_il4 iX3_isWoven_37 ?_
  refine wp_ia iX3_isWoven_39 rfl (by omega) ?_
  refine wp_cgt iX3_isWoven_40 (fun c_40 => ?_) (fun c_40 => ?_)
  · refine wp_ic iX3_isWoven_47 (by decide) ?_
    refine wp_retb iX3_isWoven_48 rfl (by decide) ?_
    (refine ⟨?_, rfl⟩; split <;> first | rfl | (exfalso; omega))
  · refine wp_ic iX3_isWoven_43 (by decide) ?_
    refine wp_goto iX3_isWoven_44 ?_
    refine wp_retb iX3_isWoven_48 rfl (by decide) ?_
    (refine ⟨?_, rfl⟩; split <;> first | rfl | (exfalso; omega))
theorem c_X3_countWovenOf (hB0 : hB M) (h : hL1 M) (s : Int) (hs : 0 ≤ s ∧ s < 4) (hf : 0 ≤ M 13 s.toNat) (hn : 0 ≤ M 14 s.toNat ∧ M 13 s.toNat + M 14 s.toNat ≤ 12) : cF L 3 mX3_countWovenOf [.inr 11, .inr 3, .inl s] M (cnt (fX4 M) (M 13 s.toNat) (M 14 s.toNat).toNat (M 15 s.toNat) (M 11 6).toNat) := by
  obtain ⟨h0, h1, h2, h3, h4, h5⟩ := id h
  have hp10 := h0.2
  have ha : ∃ a, a = M 13 s.toNat := ⟨_, rfl⟩
  have hnn : ∃ n, n = M 14 s.toNat := ⟨_, rfl⟩
  obtain ⟨a, ha⟩ := ha
  obtain ⟨n, hnn⟩ := hnn
  rw [← ha] at hf hn ⊢
  rw [← hnn] at hn ⊢
  refine cF_of rfl ?_
  change wp _ _ _ 0 [some (.inr 11), some (.inr 3), some (.inl s), none, none, none, none] [] _ _
  refine wp_ic iX3_countWovenOf_0 (by decide) ?_
  refine wp_is3 iX3_countWovenOf_1 ?_
  refine wp_ic iX3_countWovenOf_2 (by decide) ?_
  refine wp_is4 iX3_countWovenOf_3 ?_
  refine wp_ic iX3_countWovenOf_5 (by decide) ?_
  refine wp_is5 iX3_countWovenOf_6 ?_
  have key : ∀ (j : Nat) (p cn wk : Int), (M 11 6 - p).toNat = j → 0 ≤ p → p ≤ M 11 6 → cn = cnt (fX4 M) a n.toNat (M 15 s.toNat) p.toNat → wk = wb (fX4 M) a n.toNat p.toNat → ∀ v6 : Option ab_V, wp L 2 mX3_countWovenOf 8 [some (.inr 11), some (.inr 3), some (.inl s), some (.inl cn), some (.inl wk), some (.inl p), v6] [] M (fun r M1 => r = some (.inl (cnt (fX4 M) a n.toNat (M 15 s.toNat) (M 11 6).toNat)) ∧ M1 = M) := by
    intro j
    induction j using Nat.strongRecOn with
    | ind j ih =>
      intro p cn wk hj hp0 hp1 hcn hwk v6
      refine wp_il5 iX3_countWovenOf_8 ?_
      refine wp_al0 iX3_countWovenOf_10 ?_
      refine wp_gI iX3_countWovenOf_11 fi_3_31 rfl ?_
      refine wp_cge iX3_countWovenOf_14 (fun c_14 => ?_) (fun c_14 => ?_)
      · refine wp_il3 iX3_countWovenOf_85 ?_
        refine wp_ret iX3_countWovenOf_86 rfl ?_
        exact ⟨by rw [hcn, show p = M 11 6 by omega], rfl⟩
      · refine wp_al0 iX3_countWovenOf_17 ?_
        refine wp_gR iX3_countWovenOf_18 fr_3_22 rfl rfl rfl ?_
        refine wp_il2 iX3_countWovenOf_21 ?_
        refine wp_ia iX3_countWovenOf_22 rfl (by omega) ?_
        refine wp_is6 iX3_countWovenOf_23 ?_
        rw [← ha]
        have hwb := wb_bd (fX4 M) (fX4_01 M hB0) a n.toNat p.toNat
        have hwb2 : wb (fX4 M) a n.toNat p.toNat ≤ 360 := by
          have e1 : 3 * ((n.toNat : Nat) : Int) * ((p.toNat : Nat) : Int) ≤ 36 * 10 := Int.mul_le_mul (by omega) (by omega) (by omega) (by omega)
          omega
        have hct := cnt_bd (fX4 M) a n.toNat (M 15 s.toNat) p.toNat
        have hct2 : cnt (fX4 M) a n.toNat (M 15 s.toNat) p.toNat ≤ 120 := by
          have e1 : ((n.toNat : Nat) : Int) * ((p.toNat : Nat) : Int) ≤ 12 * 10 := Int.mul_le_mul (by omega) (by omega) (by omega) (by omega)
          omega
        have key2 : ∀ (q : Nat) (w c2 k2 : Int), (a + n - w).toNat = q → a ≤ w → w ≤ a + n → c2 = cn + sm (cnw (fX4 M) a n.toNat (M 15 s.toNat) p.toNat) (w - a).toNat → k2 = wk + rs (fX4 M) a (w - a).toNat p → wp L 2 mX3_countWovenOf 25 [some (.inr 11), some (.inr 3), some (.inl s), some (.inl c2), some (.inl k2), some (.inl p), some (.inl w)] [] M (fun r M1 => r = some (.inl (cnt (fX4 M) a n.toNat (M 15 s.toNat) (M 11 6).toNat)) ∧ M1 = M) := by
          intro q
          induction q using Nat.strongRecOn with
          | ind q ih2 =>
            intro w c2 k2 hq hw0 hw1 hc2 hk2
            have hb := rs_bd (fX4 M) (fX4_01 M hB0) a (w - a).toNat p
            have hcb := sm_bd (cnw (fX4 M) a n.toNat (M 15 s.toNat) p.toNat) 1 (fun i => by unfold cnw; split <;> omega) (w - a).toNat
            refine wp_il6 iX3_countWovenOf_25 ?_
            refine wp_al0 iX3_countWovenOf_27 ?_
            refine wp_gR iX3_countWovenOf_28 fr_3_22 rfl rfl rfl ?_
            refine wp_il2 iX3_countWovenOf_31 ?_
            refine wp_ia iX3_countWovenOf_32 rfl (by omega) ?_
            rw [← ha]
            refine wp_al0 iX3_countWovenOf_33 ?_
            refine wp_gR iX3_countWovenOf_34 fr_3_25 rfl rfl rfl ?_
            refine wp_il2 iX3_countWovenOf_37 ?_
            refine wp_ia iX3_countWovenOf_38 rfl (by omega) ?_
            rw [← hnn]
            refine wp_add iX3_countWovenOf_39 (by omega) ?_
            refine wp_cge iX3_countWovenOf_40 (fun c_40 => ?_) (fun c_40 => ?_)
            · refine wp_ii5 iX3_countWovenOf_79 (by omega) ?_
              refine wp_goto iX3_countWovenOf_82 ?_
              refine ih _ (by omega) (p + 1) c2 k2 rfl (by omega) (by omega) ?_ ?_ _
              · rw [hc2, hcn, show (w - a).toNat = n.toNat by omega, show (p + 1).toNat = p.toNat + 1 by omega]
                rfl
              · rw [hk2, hwk, show (w - a).toNat = n.toNat by omega, show (p + 1).toNat = p.toNat + 1 by omega]
                show _ = wb (fX4 M) a n.toNat p.toNat + rs (fX4 M) a n.toNat ((p.toNat : Nat) : Int)
                rw [toNat_cast hp0]
            · have hv := hB0.2.2.2.2 (12 * p + w).toNat
              have hcw : (if 8 ≤ M 4 (12 * p + w).toNat then (3 : Int) else 1) = cwk (fX4 M) w p := by unfold cwk fX4; split <;> omega
              have hcb2 := cwk_bd (fX4 M) (fX4_01 M hB0) w p
              have hwa : cF L 2 mX0_workAt [.inr 3, .inl (12 * p + w)] M (cwk (fX4 M) w p) := by rw [← hcw]; exact c_X0_workAt L M (12 * p + w) (by omega) hv
              have hs1 : rs (fX4 M) a (w + 1 - a).toNat p = rs (fX4 M) a (w - a).toNat p + cwk (fX4 M) w p := by
                rw [show (w + 1 - a).toNat = (w - a).toNat + 1 by omega, rs_up, toNat_cast (by omega), show a + (w - a) = w by omega]
              have hs2 : sm (cnw (fX4 M) a n.toNat (M 15 s.toNat) p.toNat) (w + 1 - a).toNat = sm (cnw (fX4 M) a n.toNat (M 15 s.toNat) p.toNat) (w - a).toNat + (if wk + (rs (fX4 M) a (w - a).toNat p + cwk (fX4 M) w p) ≤ M 15 s.toNat then 1 else 0) := by
                rw [show (w + 1 - a).toNat = (w - a).toNat + 1 by omega]
                show sm (cnw (fX4 M) a n.toNat (M 15 s.toNat) p.toNat) (w - a).toNat + cnw (fX4 M) a n.toNat (M 15 s.toNat) p.toNat (w - a).toNat = _
                unfold cnw
                rw [toNat_cast hp0, ← hwk, ← hs1, show (w + 1 - a).toNat = (w - a).toNat + 1 by omega]
              refine wp_il4 iX3_countWovenOf_43 ?_
              refine wp_al1 iX3_countWovenOf_45 ?_
              refine wp_il6 iX3_countWovenOf_46 ?_
              refine wp_il5 iX3_countWovenOf_48 ?_
              refine wp_n2f iX3_countWovenOf_50 ml_3_58 rfl rfl rfl (c_X8_cellOf _ _ _ _ (by omega)) ?_
              refine wp_v1f iX3_countWovenOf_53 ml_3_62 rfl rfl rfl rfl (hwa) ?_
              refine wp_add iX3_countWovenOf_56 (by omega) ?_
              refine wp_is4 iX3_countWovenOf_57 ?_
              refine wp_il4 iX3_countWovenOf_59 ?_
              refine wp_al0 iX3_countWovenOf_61 ?_
              refine wp_gR iX3_countWovenOf_62 fr_3_28 rfl rfl rfl ?_
              refine wp_il2 iX3_countWovenOf_65 ?_
              refine wp_ia iX3_countWovenOf_66 rfl (by omega) ?_
              refine wp_cgt iX3_countWovenOf_67 (fun c_67 => ?_) (fun c_67 => ?_)
              · refine wp_ii6 iX3_countWovenOf_73 (by omega) ?_
                refine wp_goto iX3_countWovenOf_76 ?_
                exact ih2 _ (by omega) (w + 1) _ _ rfl (by omega) (by omega) (by rw [hs2, hc2]; split <;> omega) (by rw [hs1, hk2]; omega)
              · refine wp_ii3 iX3_countWovenOf_70 (by omega) ?_
                refine wp_ii6 iX3_countWovenOf_73 (by omega) ?_
                refine wp_goto iX3_countWovenOf_76 ?_
                exact ih2 _ (by omega) (w + 1) _ _ rfl (by omega) (by omega) (by rw [hs2, hc2]; split <;> omega) (by rw [hs1, hk2]; omega)
        exact key2 _ a cn wk rfl (by omega) (by omega) (by rw [show (a - a).toNat = 0 by omega]; simp [sm]) (by rw [show (a - a).toNat = 0 by omega]; simp [rs, sm])
  exact key _ 0 0 0 rfl (by omega) (by omega) rfl rfl _
theorem c_X3_countWoven (hB0 : hB M) (h : hL1 M) (hf : ∀ k : Nat, (k : Int) < M 11 0 → 0 ≤ M 13 k ∧ 0 ≤ M 14 k ∧ M 13 k + M 14 k ≤ 12) : cF L 4 mX3_countWoven [.inr 11, .inr 3] M (sm (fun k => cnt (fX4 M) (M 13 k) (M 14 k).toNat (M 15 k) (M 11 6).toNat) (M 11 0).toNat) := by
  obtain ⟨h0, h1, h2, h3, h4, h5⟩ := id h
  have hh := h0.1
  have hp10 := h0.2
  refine cF_of rfl ?_
  change wp _ _ _ 0 [some (.inr 11), some (.inr 3), none, none] [] _ _
  refine wp_ic iX3_countWoven_0 (by decide) ?_
  refine wp_is2 iX3_countWoven_1 ?_
  refine wp_ic iX3_countWoven_2 (by decide) ?_
  refine wp_is3 iX3_countWoven_3 ?_
  have key : ∀ (n : Nat) (i acc : Int), (M 11 0 - i).toNat = n → 0 ≤ i → i ≤ M 11 0 → acc = sm (fun k => cnt (fX4 M) (M 13 k) (M 14 k).toNat (M 15 k) (M 11 6).toNat) i.toNat → (0 ≤ acc ∧ acc ≤ 200 * i) → wp L 3 mX3_countWoven 4 [some (.inr 11), some (.inr 3), some (.inl acc), some (.inl i)] [] M (fun r M1 => r = some (.inl (sm (fun k => cnt (fX4 M) (M 13 k) (M 14 k).toNat (M 15 k) (M 11 6).toNat) (M 11 0).toNat)) ∧ M1 = M) := by
    intro n
    induction n using Nat.strongRecOn with
    | ind n ih =>
      intro i acc hn hi0 hi1 hacc hab
      refine wp_il3 iX3_countWoven_4 ?_
      refine wp_al0 iX3_countWoven_5 ?_
      refine wp_gI iX3_countWoven_6 fi_3_9 rfl ?_
      refine wp_cge iX3_countWoven_9 (fun c_9 => ?_) (fun c_9 => ?_)
      · refine wp_il2 iX3_countWoven_27 ?_
        refine wp_ret iX3_countWoven_28 rfl ?_
        exact ⟨by rw [hacc, show i = M 11 0 by omega], rfl⟩
      · have hfi := hf i.toNat (by omega)
        have hcb := cnt_bd (fX4 M) (M 13 i.toNat) (M 14 i.toNat).toNat (M 15 i.toNat) (M 11 6).toNat
        have e1 : (((M 14 i.toNat).toNat : Nat) : Int) * (((M 11 6).toNat : Nat) : Int) ≤ 12 * 10 := Int.mul_le_mul (by omega) (by omega) (by omega) (by omega)
        have hs := sm_up (fun k => cnt (fX4 M) (M 13 k) (M 14 k).toNat (M 15 k) (M 11 6).toNat) hi0
        refine wp_il2 iX3_countWoven_12 ?_
        refine wp_al0 iX3_countWoven_13 ?_
        refine wp_al1 iX3_countWoven_14 ?_
        refine wp_il3 iX3_countWoven_15 ?_
        refine wp_v2f iX3_countWoven_16 ml_3_92 rfl rfl rfl rfl (c_X3_countWovenOf L M hB0 h i (by omega) hfi.1 hfi.2) ?_
        refine wp_add iX3_countWoven_19 (by omega) ?_
        refine wp_is2 iX3_countWoven_20 ?_
        refine wp_ii3 iX3_countWoven_21 (by omega) ?_
        refine wp_goto iX3_countWoven_24 ?_
        exact ih _ (by omega) (i + 1) _ rfl (by omega) (by omega) (by rw [hs, hacc]) (by omega)
  exact key _ 0 0 rfl (by omega) (by omega) rfl (by omega)
end LoomX4
