def stM (M : ab_Me) (w : Int) : Int := rl (fun j => decide (M 64 j + M 65 j ≤ w)) 4 0
theorem stM_bd (M : ab_Me) (w : Int) (h : ∃ K : Nat, K < 4 ∧ w < M 64 K + M 65 K) : 0 ≤ stM M w ∧ stM M w < 4 := by
  have hb := rl_bd (fun j => decide (M 64 j + M 65 j ≤ w)) 4 0
  obtain ⟨K, h1, h2⟩ := h
  refine ⟨hb.1, ?_⟩
  rcases Int.lt_or_le (stM M w) 4 with q | q
  · exact q
  · have := rl_all (fun j => decide (M 64 j + M 65 j ≤ w)) 4 0 K (by omega) (by unfold stM at q; omega)
    simp only [decide_eq_true_eq] at this
    omega
def iwM (M : ab_Me) (w p : Int) : Int := if wb (M 58) (M 64 (stM M w).toNat) (M 65 (stM M w).toNat).toNat p.toNat + rs (M 58) (M 64 (stM M w).toNat) (w + 1 - M 64 (stM M w).toNat).toNat p ≤ M 66 (stM M w).toNat then 1 else 0
section LoomM3
variable (L : Nat) (M : ab_Me)
theorem c_X9_isWoven (h : hM M) (hl : hLM M) (w p : Int) (hw : 0 ≤ w ∧ w < 12) (hp : 0 ≤ p ∧ p < 10) (hK : ∃ K : Nat, K < 4 ∧ w < M 64 K + M 65 K) (hle : M 64 (stM M w).toNat ≤ w) : cF L 3 mX9_isWoven [.inr 56, .inl w, .inl p] M (if wb (M 58) (M 64 (stM M w).toNat) (M 65 (stM M w).toNat).toNat p.toNat + rs (M 58) (M 64 (stM M w).toNat) (w + 1 - M 64 (stM M w).toNat).toNat p ≤ M 66 (stM M w).toNat then 1 else 0) := by
  obtain ⟨h1, h2, h3, h4, h5, h6⟩ := id h
  have hst := stM_bd M w hK
  refine cF_of rfl ?_
  change wp _ _ _ 0 [some (.inr 56), some (.inl w), some (.inl p), none, none, none] [] _ _
  refine wp_ic iX9_isWoven_0 (by decide) ?_
  refine wp_is3 iX9_isWoven_1 ?_
  have tail : ∀ v4 v5 : Option ab_V, wp L 2 mX9_isWoven 25 [some (.inr 56), some (.inl w), some (.inl p), some (.inl (stM M w)), v4, v5] [] M (fun r M1 => r = some (.inl (if wb (M 58) (M 64 (stM M w).toNat) (M 65 (stM M w).toNat).toNat p.toNat + rs (M 58) (M 64 (stM M w).toNat) (w + 1 - M 64 (stM M w).toNat).toNat p ≤ M 66 (stM M w).toNat then 1 else 0)) ∧ M1 = M) := by
    intro v4 v5
    generalize stM M w = s at *
    have g := hl.2.2.1 s.toNat
    have hwb := wb_bd (M 58) h6 (M 64 s.toNat) (M 65 s.toNat).toNat p.toNat
    have hwb2 : wb (M 58) (M 64 s.toNat) (M 65 s.toNat).toNat p.toNat ≤ 360 := by
      have e1 : 3 * (((M 65 s.toNat).toNat : Nat) : Int) * ((p.toNat : Nat) : Int) ≤ 36 * 10 := Int.mul_le_mul (by omega) (by omega) (by omega) (by omega)
      omega
    refine wp_al0 iX9_isWoven_25 ?_
    refine wp_al0 iX9_isWoven_26 ?_
    refine wp_gR iX9_isWoven_27 fr_9_45 rfl rfl rfl ?_
    refine wp_il3 iX9_isWoven_30 ?_
    refine wp_ia iX9_isWoven_31 rfl (by omega) ?_
    refine wp_al0 iX9_isWoven_32 ?_
    refine wp_gR iX9_isWoven_33 fr_9_48 rfl rfl rfl ?_
    refine wp_il3 iX9_isWoven_36 ?_
    refine wp_ia iX9_isWoven_37 rfl (by omega) ?_
    refine wp_il2 iX9_isWoven_38 ?_
    refine wp_v3f iX9_isWoven_39 ml_9_183 rfl rfl rfl rfl (c_X9_work L M h _ _ p g.1 g.2 (by omega)) ?_
    refine wp_is4 iX9_isWoven_42 ?_
    refine wp_al0 iX9_isWoven_44 ?_
    refine wp_gR iX9_isWoven_45 fr_9_45 rfl rfl rfl ?_
    refine wp_il3 iX9_isWoven_48 ?_
    refine wp_ia iX9_isWoven_49 rfl (by omega) ?_
    refine wp_is5 iX9_isWoven_50 ?_
    have key : ∀ (n : Nat) (u acc : Int), (w + 1 - u).toNat = n → M 64 s.toNat ≤ u → u ≤ w + 1 → acc = wb (M 58) (M 64 s.toNat) (M 65 s.toNat).toNat p.toNat + rs (M 58) (M 64 s.toNat) (u - M 64 s.toNat).toNat p → wp L 2 mX9_isWoven 52 [some (.inr 56), some (.inl w), some (.inl p), some (.inl s), some (.inl acc), some (.inl u)] [] M (fun r M1 => r = some (.inl (if wb (M 58) (M 64 s.toNat) (M 65 s.toNat).toNat p.toNat + rs (M 58) (M 64 s.toNat) (w + 1 - M 64 s.toNat).toNat p ≤ M 66 s.toNat then 1 else 0)) ∧ M1 = M) := by
      intro n
      induction n using Nat.strongRecOn with
      | ind n ih =>
        intro u acc hn hu0 hu1 hacc
        have hb := rs_bd (M 58) h6 (M 64 s.toNat) (u - M 64 s.toNat).toNat p
        have hcb := cwk_bd (M 58) h6 u p
        have hs1 : rs (M 58) (M 64 s.toNat) (u + 1 - M 64 s.toNat).toNat p = rs (M 58) (M 64 s.toNat) (u - M 64 s.toNat).toNat p + cwk (M 58) u p := by
          rw [show (u + 1 - M 64 s.toNat).toNat = (u - M 64 s.toNat).toNat + 1 by omega, rs_up, toNat_cast (by omega), show M 64 s.toNat + (u - M 64 s.toNat) = u by omega]
        refine wp_il5 iX9_isWoven_52 ?_
        refine wp_il1 iX9_isWoven_54 ?_
        refine wp_cgt iX9_isWoven_55 (fun c_55 => ?_) (fun c_55 => ?_)
        · rw [show u = w + 1 by omega] at hacc
          rw [← hacc]
          refine wp_il4 iX9_isWoven_76 ?_
          refine wp_al0 iX9_isWoven_78 ?_
          refine wp_gR iX9_isWoven_79 fr_9_51 rfl rfl rfl ?_
          refine wp_il3 iX9_isWoven_82 ?_
          refine wp_ia iX9_isWoven_83 rfl (by omega) ?_
          refine wp_cgt iX9_isWoven_84 (fun c_84 => ?_) (fun c_84 => ?_)
          · refine wp_ic iX9_isWoven_91 (by decide) ?_
            refine wp_retb iX9_isWoven_92 rfl (by decide) ?_
            (refine ⟨?_, rfl⟩; split <;> first | rfl | (exfalso; omega))
          · refine wp_ic iX9_isWoven_87 (by decide) ?_
            refine wp_goto iX9_isWoven_88 ?_
            refine wp_retb iX9_isWoven_92 rfl (by decide) ?_
            (refine ⟨?_, rfl⟩; split <;> first | rfl | (exfalso; omega))
        · refine wp_il4 iX9_isWoven_58 ?_
          refine wp_al0 iX9_isWoven_60 ?_
          refine wp_il5 iX9_isWoven_61 ?_
          refine wp_il2 iX9_isWoven_63 ?_
          refine wp_v2f iX9_isWoven_64 ml_9_177 rfl rfl rfl rfl (c_X9_workAt L M h u p (by omega) (by omega)) ?_
          refine wp_add iX9_isWoven_67 (by omega) ?_
          refine wp_is4 iX9_isWoven_68 ?_
          refine wp_ii5 iX9_isWoven_70 (by omega) ?_
          refine wp_goto iX9_isWoven_73 ?_
          exact ih _ (by omega) (u + 1) _ rfl (by omega) (by omega) (by rw [hs1, hacc]; omega)
    exact key _ _ _ rfl (by omega) (by omega) (by rw [show (M 64 s.toNat - M 64 s.toNat).toNat = 0 by omega]; simp [rs, sm])
  have key : ∀ (n : Nat) (i : Int), (4 - i).toNat = n → 0 ≤ i → i ≤ 4 → stM M w = i + rl (fun j => decide (M 64 j + M 65 j ≤ w)) n i.toNat → ∀ v4 v5 : Option ab_V, wp L 2 mX9_isWoven 2 [some (.inr 56), some (.inl w), some (.inl p), some (.inl i), v4, v5] [] M (fun r M1 => r = some (.inl (if wb (M 58) (M 64 (stM M w).toNat) (M 65 (stM M w).toNat).toNat p.toNat + rs (M 58) (M 64 (stM M w).toNat) (w + 1 - M 64 (stM M w).toNat).toNat p ≤ M 66 (stM M w).toNat then 1 else 0)) ∧ M1 = M) := by
    intro n
    induction n with
    | zero =>
      intro i hn hi0 hi1 hs
      simp only [rl] at hs
      exact absurd hst (by omega)
    | succ n ih =>
      intro i hn hi0 hi1 hs v4 v5
      have hu : ((fun j => decide (M 64 j + M 65 j ≤ w)) i.toNat = true) ↔ M 64 i.toNat + M 65 i.toNat ≤ w := by simp
      have g := hl.2.2.1 i.toNat
      refine wp_il1 iX9_isWoven_2 ?_
      refine wp_al0 iX9_isWoven_3 ?_
      refine wp_gR iX9_isWoven_4 fr_9_45 rfl rfl rfl ?_
      refine wp_il3 iX9_isWoven_7 ?_
      refine wp_ia iX9_isWoven_8 rfl (by omega) ?_
      refine wp_al0 iX9_isWoven_9 ?_
      refine wp_gR iX9_isWoven_10 fr_9_48 rfl rfl rfl ?_
      refine wp_il3 iX9_isWoven_13 ?_
      refine wp_ia iX9_isWoven_14 rfl (by omega) ?_
      refine wp_add iX9_isWoven_15 (by omega) ?_
      refine wp_clt iX9_isWoven_16 (fun c_16 => ?_) (fun c_16 => ?_)
      · have e : i = stM M w := by rw [hs, rl_no (Or.inr (fun q => absurd (hu.mp q) (by omega)))]; omega
        rw [e]
        exact tail _ _
      · refine wp_ii3 iX9_isWoven_19 (by omega) ?_
        refine wp_goto iX9_isWoven_22 ?_
        exact ih (i + 1) (by omega) (by omega) (by omega) (by rw [hs, rl_yes (hu.mpr c_16), show (i + 1).toNat = i.toNat + 1 by omega]; omega) _ _
  exact key _ 0 rfl (by omega) (by omega) (by unfold stM; simp) _ _
/-- what the woven squares need of the strips -/
def hPt (M : ab_Me) : Prop := ∀ w : Int, 0 ≤ w → w < M 56 0 → (∃ K : Nat, K < 4 ∧ w < M 64 K + M 65 K) ∧ M 64 (stM M w).toNat ≤ w
theorem c_X9_woven (h : hM M) (hl : hLM M) (hp : ¬ M 56 12 = 0 → hPt M) (w p : Int) : cF L 4 mX9_woven [.inr 56, .inl w, .inl p] M (if M 56 12 = 0 then -3 else if (0 ≤ w ∧ w < M 56 0) ∧ 0 ≤ p ∧ p < M 56 1 then iwM M w p else -1) := by
  obtain ⟨h1, h2, h3, h4, h5, h6⟩ := id h
  have hiw : (0 ≤ w ∧ w < M 56 0) ∧ 0 ≤ p ∧ p < M 56 1 → ¬ M 56 12 = 0 → cF L 3 mX9_isWoven [.inr 56, .inl w, .inl p] M (if wb (M 58) (M 64 (stM M w).toNat) (M 65 (stM M w).toNat).toNat p.toNat + rs (M 58) (M 64 (stM M w).toNat) (w + 1 - M 64 (stM M w).toNat).toNat p ≤ M 66 (stM M w).toNat then 1 else 0) := fun q z => c_X9_isWoven L M h hl w p (by omega) (by omega) (hp z w q.1.1 q.1.2).1 (hp z w q.1.1 q.1.2).2
  refine cF_of rfl ?_
  change wp _ _ _ 0 [some (.inr 56), some (.inl w), some (.inl p)] [] _ _
  unfold iwM
  refine wp_al0 iX9_woven_0 ?_
  refine wp_gI iX9_woven_1 fi_9_115 rfl ?_
  refine wp_zne iX9_woven_4 (fun c_4 => ?_) (fun c_4 => ?_)
  · refine wp_al0 iX9_woven_10 ?_
    refine wp_il1 iX9_woven_11 ?_
    refine wp_il2 iX9_woven_12 ?_
    refine wp_v2f iX9_woven_13 ml_9_118 rfl rfl rfl rfl (c_X9_isSquare L M h w p) ?_
    refine wp_bne iX9_woven_16 (fun c_16 => ?_) (fun c_16 => ?_)
    · refine wp_al0 iX9_woven_21 ?_
      refine wp_il1 iX9_woven_22 ?_
      refine wp_il2 iX9_woven_23 ?_
      refine wp_v2f iX9_woven_24 ml_9_217 rfl rfl rfl rfl (hiw (by assumption) (by assumption)) ?_
      refine wp_beq iX9_woven_27 (fun c_27 => ?_) (fun c_27 => ?_)
      · refine wp_ic iX9_woven_34 (by decide) ?_
        refine wp_ret iX9_woven_35 rfl ?_
        (refine ⟨?_, ?_⟩ <;> (repeat' split) <;> first | rfl | (exfalso; omega))
      · refine wp_ic iX9_woven_30 (by decide) ?_
        refine wp_goto iX9_woven_31 ?_
        refine wp_ret iX9_woven_35 rfl ?_
        (refine ⟨?_, ?_⟩ <;> (repeat' split) <;> first | rfl | (exfalso; omega))
    · refine wp_ic iX9_woven_19 (by decide) ?_
      refine wp_ret iX9_woven_20 rfl ?_
      (refine ⟨?_, ?_⟩ <;> (repeat' split) <;> first | rfl | (exfalso; omega))
  · refine wp_bp iX9_woven_7 (by decide) ?_
    refine wp_ret iX9_woven_9 rfl ?_
    (refine ⟨?_, ?_⟩ <;> (repeat' split) <;> first | rfl | (exfalso; omega))
theorem c_X9_unweave (h : hM M) (hl : hLM M) (s p : Int) : cG L 3 mX9_unweave [.inr 56, .inl s, .inl p] M (if M 56 12 = 0 then -3 else if (0 ≤ s ∧ s < M 56 12) ∧ 0 ≤ p ∧ p < M 56 1 then (if wb (M 58) (M 64 s.toNat) (M 65 s.toNat).toNat p.toNat < M 66 s.toNat then M 66 s.toNat - wb (M 58) (M 64 s.toNat) (M 65 s.toNat).toNat p.toNat else 0) else -1) (if ¬ M 56 12 = 0 ∧ (0 ≤ s ∧ s < M 56 12) ∧ 0 ≤ p ∧ p < M 56 1 then ab_up M 66 s.toNat (if wb (M 58) (M 64 s.toNat) (M 65 s.toNat).toNat p.toNat < M 66 s.toNat then wb (M 58) (M 64 s.toNat) (M 65 s.toNat).toNat p.toNat else M 66 s.toNat) else M) := by
  obtain ⟨h1, h2, h3, h4, h5, h6⟩ := id h
  have hh := hl.1
  have g := hl.2.2.1 s.toNat
  have g66 := hl.2.2.2.1 s.toNat
  have hwb := wb_bd (M 58) h6 (M 64 s.toNat) (M 65 s.toNat).toNat p.toNat
  have hwk : 0 ≤ p ∧ p < M 56 1 → cF L 2 mX9_work [.inr 56, .inl (M 64 s.toNat), .inl (M 65 s.toNat), .inl p] M (wb (M 58) (M 64 s.toNat) (M 65 s.toNat).toNat p.toNat) := fun q => c_X9_work L M h _ _ p g.1 g.2 (by omega)
  generalize wb (M 58) (M 64 s.toNat) (M 65 s.toNat).toNat p.toNat = to_ at *
  refine cG_of rfl ?_
  change wp _ _ _ 0 [some (.inr 56), some (.inl s), some (.inl p), none, none] [] _ _
  refine wp_al0 iX9_unweave_0 ?_
  refine wp_gI iX9_unweave_1 fi_9_115 rfl ?_
  refine wp_zne iX9_unweave_4 (fun c_4 => ?_) (fun c_4 => ?_)
  · refine wp_il1 iX9_unweave_10 ?_
    refine wp_ic iX9_unweave_11 (by decide) ?_
    refine wp_al0 iX9_unweave_12 ?_
    refine wp_gI iX9_unweave_13 fi_9_115 rfl ?_
    refine wp_ic iX9_unweave_16 (by decide) ?_
    refine wp_sub iX9_unweave_17 (by omega) ?_
    refine wp_s3f iX9_unweave_18 ml_9_111 rfl rfl rfl (c_X9_in _ _ _ _ _) ?_
    refine wp_beq iX9_unweave_21 (fun c_21 => ?_) (fun c_21 => ?_)
    · refine wp_ic iX9_unweave_38 (by decide) ?_
      refine wp_ret iX9_unweave_39 rfl ?_
      first | (have q1 : ¬ M 56 12 = 0 := (by omega); have q2 : (0 ≤ s ∧ s < M 56 12) ∧ 0 ≤ p ∧ p < M 56 1 := (by omega); rw [if_pos (And.intro q1 q2), if_neg q1, if_pos q2]; refine ⟨?_, ?_⟩ <;> (split <;> first | rfl | (exfalso; omega) | (congr 1; omega))) | (refine ⟨?_, ?_⟩ <;> (repeat' split) <;> first | rfl | (exfalso; omega))
    · refine wp_il2 iX9_unweave_24 ?_
      refine wp_ic iX9_unweave_25 (by decide) ?_
      refine wp_al0 iX9_unweave_26 ?_
      refine wp_gI iX9_unweave_27 fi_9_13 rfl ?_
      refine wp_ic iX9_unweave_30 (by decide) ?_
      refine wp_sub iX9_unweave_31 (by omega) ?_
      refine wp_s3f iX9_unweave_32 ml_9_111 rfl rfl rfl (c_X9_in _ _ _ _ _) ?_
      refine wp_bne iX9_unweave_35 (fun c_35 => ?_) (fun c_35 => ?_)
      · refine wp_al0 iX9_unweave_40 ?_
        refine wp_al0 iX9_unweave_41 ?_
        refine wp_gR iX9_unweave_42 fr_9_45 rfl rfl rfl ?_
        refine wp_il1 iX9_unweave_45 ?_
        refine wp_ia iX9_unweave_46 rfl (by omega) ?_
        refine wp_al0 iX9_unweave_47 ?_
        refine wp_gR iX9_unweave_48 fr_9_48 rfl rfl rfl ?_
        refine wp_il1 iX9_unweave_51 ?_
        refine wp_ia iX9_unweave_52 rfl (by omega) ?_
        refine wp_il2 iX9_unweave_53 ?_
        refine wp_v3f iX9_unweave_54 ml_9_183 rfl rfl rfl rfl (hwk (by omega)) ?_
        refine wp_is3 iX9_unweave_57 ?_
        refine wp_al0 iX9_unweave_58 ?_
        refine wp_gR iX9_unweave_59 fr_9_51 rfl rfl rfl ?_
        refine wp_il1 iX9_unweave_62 ?_
        refine wp_ia iX9_unweave_63 rfl (by omega) ?_
        refine wp_il3 iX9_unweave_64 ?_
        refine wp_cle iX9_unweave_65 (fun c_65 => ?_) (fun c_65 => ?_)
        · refine wp_ic iX9_unweave_79 (by decide) ?_
          refine wp_is4 iX9_unweave_80 ?_
          refine wp_al0 iX9_unweave_82 ?_
          refine wp_gR iX9_unweave_83 fr_9_51 rfl rfl rfl ?_
          refine wp_il1 iX9_unweave_86 ?_
          refine wp_dup2 iX9_unweave_87 ?_
          refine wp_ia iX9_unweave_88 rfl (by omega) ?_
          refine wp_il4 iX9_unweave_89 ?_
          refine wp_sub iX9_unweave_91 (by omega) ?_
          refine wp_is iX9_unweave_92 rfl rfl (by omega) ?_
          refine wp_il4 iX9_unweave_93 ?_
          refine wp_ret iX9_unweave_95 rfl ?_
          first | (have q1 : ¬ M 56 12 = 0 := (by omega); have q2 : (0 ≤ s ∧ s < M 56 12) ∧ 0 ≤ p ∧ p < M 56 1 := (by omega); rw [if_pos (And.intro q1 q2), if_neg q1, if_pos q2]; refine ⟨?_, ?_⟩ <;> (split <;> first | rfl | (exfalso; omega) | (congr 1; omega))) | (refine ⟨?_, ?_⟩ <;> (repeat' split) <;> first | rfl | (exfalso; omega))
        · refine wp_al0 iX9_unweave_68 ?_
          refine wp_gR iX9_unweave_69 fr_9_51 rfl rfl rfl ?_
          refine wp_il1 iX9_unweave_72 ?_
          refine wp_ia iX9_unweave_73 rfl (by omega) ?_
          refine wp_il3 iX9_unweave_74 ?_
          refine wp_sub iX9_unweave_75 (by omega) ?_
          refine wp_goto iX9_unweave_76 ?_
          refine wp_is4 iX9_unweave_80 ?_
          refine wp_al0 iX9_unweave_82 ?_
          refine wp_gR iX9_unweave_83 fr_9_51 rfl rfl rfl ?_
          refine wp_il1 iX9_unweave_86 ?_
          refine wp_dup2 iX9_unweave_87 ?_
          refine wp_ia iX9_unweave_88 rfl (by omega) ?_
          refine wp_il4 iX9_unweave_89 ?_
          refine wp_sub iX9_unweave_91 (by omega) ?_
          refine wp_is iX9_unweave_92 rfl rfl (by omega) ?_
          refine wp_il4 iX9_unweave_93 ?_
          refine wp_ret iX9_unweave_95 rfl ?_
          first | (have q1 : ¬ M 56 12 = 0 := (by omega); have q2 : (0 ≤ s ∧ s < M 56 12) ∧ 0 ≤ p ∧ p < M 56 1 := (by omega); rw [if_pos (And.intro q1 q2), if_neg q1, if_pos q2]; refine ⟨?_, ?_⟩ <;> (split <;> first | rfl | (exfalso; omega) | (congr 1; omega))) | (refine ⟨?_, ?_⟩ <;> (repeat' split) <;> first | rfl | (exfalso; omega))
      · refine wp_ic iX9_unweave_38 (by decide) ?_
        refine wp_ret iX9_unweave_39 rfl ?_
        first | (have q1 : ¬ M 56 12 = 0 := (by omega); have q2 : (0 ≤ s ∧ s < M 56 12) ∧ 0 ≤ p ∧ p < M 56 1 := (by omega); rw [if_pos (And.intro q1 q2), if_neg q1, if_pos q2]; refine ⟨?_, ?_⟩ <;> (split <;> first | rfl | (exfalso; omega) | (congr 1; omega))) | (refine ⟨?_, ?_⟩ <;> (repeat' split) <;> first | rfl | (exfalso; omega))
  · refine wp_bp iX9_unweave_7 (by decide) ?_
    refine wp_ret iX9_unweave_9 rfl ?_
    first | (have q1 : ¬ M 56 12 = 0 := (by omega); have q2 : (0 ≤ s ∧ s < M 56 12) ∧ 0 ≤ p ∧ p < M 56 1 := (by omega); rw [if_pos (And.intro q1 q2), if_neg q1, if_pos q2]; refine ⟨?_, ?_⟩ <;> (split <;> first | rfl | (exfalso; omega) | (congr 1; omega))) | (refine ⟨?_, ?_⟩ <;> (repeat' split) <;> first | rfl | (exfalso; omega))
theorem c_X9_strip (h : hM M) (hl : hLM M) (s what : Int) : cG L 5 mX9_strip [.inr 56, .inl s, .inl what] M
    (if M 56 12 = 0 then -3 else if (0 ≤ s ∧ s < M 56 12) ∧ 0 ≤ what ∧ what ≤ 6 then (if what = 0 then M 63 s.toNat else if what = 1 then M 64 s.toNat else if what = 2 then M 65 s.toNat else if what = 3 then M 66 s.toNat else if what = 4 then wb (M 58) (M 64 s.toNat) (M 65 s.toNat).toNat (M 56 1).toNat else if what = 5 then whM M s else (if M 66 s.toNat < wb (M 58) (M 64 s.toNat) (M 65 s.toNat).toNat (M 56 1).toNat ∧ ¬ ((0 < s ∧ M 56 11 ≤ mWhl M 85 s.toNat - mWhl M 85 (s - 1).toNat) ∨ (s < M 56 12 - 1 ∧ M 56 11 ≤ mWhl M 85 s.toNat - mWhl M 85 (s + 1).toNat)) then 1 else 0)) else -1)
    (if ¬ M 56 12 = 0 ∧ (0 ≤ s ∧ s < M 56 12) ∧ what = 6 then mWhl M else M) := by
  have hh := hl.1
  have hlw := hLM_whl M h hl
  have hah : (0 ≤ s ∧ s < M 56 12) → cF L 1 mX9_isAhead [.inr 56, .inl s] (mWhl M) (if (0 < s ∧ M 56 11 ≤ mWhl M 85 s.toNat - mWhl M 85 (s - 1).toNat) ∨ (s < M 56 12 - 1 ∧ M 56 11 ≤ mWhl M 85 s.toNat - mWhl M 85 (s + 1).toNat) then 1 else 0) := fun q => c_X9_isAhead L (mWhl M) hlw s q
  have hall : (0 ≤ s ∧ s < M 56 12) → cF L 3 mX9_allOf [.inr 56, .inl s] (mWhl M) (wb (M 58) (M 64 s.toNat) (M 65 s.toNat).toNat (M 56 1).toNat) := fun q => c_X9_allOf L (mWhl M) h hlw s (by omega)
  have e66 : mWhl M 66 = M 66 := rfl
  have strip6 : cF L 1 mX9_isAhead [.inr 56, .inl s] (mWhl M) (if (0 < s ∧ M 56 11 ≤ mWhl M 85 s.toNat - mWhl M 85 (s - 1).toNat) ∨ (s < M 56 12 - 1 ∧ M 56 11 ≤ mWhl M 85 s.toNat - mWhl M 85 (s + 1).toNat) then 1 else 0) → cF L 3 mX9_allOf [.inr 56, .inl s] (mWhl M) (wb (M 58) (M 64 s.toNat) (M 65 s.toNat).toNat (M 56 1).toNat) → (0 ≤ s ∧ s < 4) → wp L 4 mX9_strip 116 [some (.inr 56), some (.inl s), some (.inl 6)] [] M (fun r M2 => r = some (.inl (if M 66 s.toNat < wb (M 58) (M 64 s.toNat) (M 65 s.toNat).toNat (M 56 1).toNat ∧ ¬ ((0 < s ∧ M 56 11 ≤ mWhl M 85 s.toNat - mWhl M 85 (s - 1).toNat) ∨ (s < M 56 12 - 1 ∧ M 56 11 ≤ mWhl M 85 s.toNat - mWhl M 85 (s + 1).toNat)) then 1 else 0)) ∧ M2 = mWhl M) := by
    intro k1 k2 k3
    refine wp_al0 iX9_strip_116 ?_
    refine wp_v0v iX9_strip_117 ml_9_208 rfl rfl rfl rfl (c_X9_findWhole L M h hl) ?_
    refine wp_al0 iX9_strip_120 ?_
    refine wp_il1 iX9_strip_121 ?_
    refine wp_v1f iX9_strip_122 ml_9_214 rfl rfl rfl rfl (k1) ?_
    refine wp_bne iX9_strip_125 (fun c_125 => ?_) (fun c_125 => ?_)
    · refine wp_ic iX9_strip_146 (by decide) ?_
      refine wp_ret iX9_strip_147 rfl ?_
      exact ⟨by rw [if_neg (fun q => q.2 c_125)], rfl⟩
    · refine wp_al0 iX9_strip_128 ?_
      refine wp_gR iX9_strip_129 fr_9_51 rfl rfl rfl ?_
      refine wp_il1 iX9_strip_132 ?_
      refine wp_ia iX9_strip_133 rfl (by omega) ?_
      rw [e66]
      refine wp_al0 iX9_strip_134 ?_
      refine wp_il1 iX9_strip_135 ?_
      refine wp_v1f iX9_strip_136 ml_9_211 rfl rfl rfl rfl (k2) ?_
      refine wp_cge iX9_strip_139 (fun c_139 => ?_) (fun c_139 => ?_)
      · refine wp_ic iX9_strip_146 (by decide) ?_
        refine wp_ret iX9_strip_147 rfl ?_
        (refine ⟨?_, rfl⟩; first | (rw [if_pos (And.intro (by assumption) c_125)]) | (rw [if_neg (fun q => absurd q.1 (by omega))]))
      · refine wp_ic iX9_strip_142 (by decide) ?_
        refine wp_goto iX9_strip_143 ?_
        refine wp_ret iX9_strip_147 rfl ?_
        (refine ⟨?_, rfl⟩; first | (rw [if_pos (And.intro (by assumption) c_125)]) | (rw [if_neg (fun q => absurd q.1 (by omega))]))
  refine cG_of rfl ?_
  change wp _ _ _ 0 [some (.inr 56), some (.inl s), some (.inl what)] [] _ _
  refine wp_al0 iX9_strip_0 ?_
  refine wp_gI iX9_strip_1 fi_9_115 rfl ?_
  refine wp_zne iX9_strip_4 (fun c_4 => ?_) (fun c_4 => ?_)
  · refine wp_il1 iX9_strip_10 ?_
    refine wp_ic iX9_strip_11 (by decide) ?_
    refine wp_al0 iX9_strip_12 ?_
    refine wp_gI iX9_strip_13 fi_9_115 rfl ?_
    refine wp_ic iX9_strip_16 (by decide) ?_
    refine wp_sub iX9_strip_17 (by omega) ?_
    refine wp_s3f iX9_strip_18 ml_9_111 rfl rfl rfl (c_X9_in _ _ _ _ _) ?_
    refine wp_beq iX9_strip_21 (fun c_21 => ?_) (fun c_21 => ?_)
    · refine wp_ic iX9_strip_34 (by decide) ?_
      refine wp_ret iX9_strip_35 rfl ?_
      (refine ⟨?_, ?_⟩ <;> (repeat' split) <;> first | rfl | (exfalso; omega))
    · refine wp_il2 iX9_strip_24 ?_
      refine wp_ic iX9_strip_25 (by decide) ?_
      refine wp_bp iX9_strip_26 (by decide) ?_
      refine wp_s3f iX9_strip_28 ml_9_111 rfl rfl rfl (c_X9_in _ _ _ _ _) ?_
      refine wp_bne iX9_strip_31 (fun c_31 => ?_) (fun c_31 => ?_)
      · refine wp_il2 iX9_strip_36 ?_
        refine wp_t6 (td := 116) (t0 := 76) (t1 := 83) (t2 := 90) (t3 := 97) (t4 := 104) (t5 := 110) iX9_strip_37 (by decide) (by decide) (by decide) (by decide) (by decide) (by decide) (by decide) (fun c_37 => ?_) (fun c_37 => ?_) (fun c_37 => ?_) (fun c_37 => ?_) (fun c_37 => ?_) (fun c_37 => ?_) (fun c_37 => ?_)
        · have q1 : ¬ M 56 12 = 0 := by omega
          have q2 : (0 ≤ s ∧ s < M 56 12) := by omega
          have q3 : what = 6 := by omega
          subst q3
          rw [if_pos (And.intro q1 (And.intro q2 rfl)), if_neg q1, if_pos (And.intro q2 (by decide))]
          simp only [show ¬ (6 : Int) = 0 by decide, show ¬ (6 : Int) = 1 by decide, show ¬ (6 : Int) = 2 by decide, show ¬ (6 : Int) = 3 by decide, show ¬ (6 : Int) = 4 by decide, show ¬ (6 : Int) = 5 by decide, if_false]
          exact strip6 (hah q2) (hall q2) (by omega)
        · refine wp_al0 iX9_strip_76 ?_
          refine wp_gR iX9_strip_77 fr_9_42 rfl rfl rfl ?_
          refine wp_il1 iX9_strip_80 ?_
          refine wp_ia iX9_strip_81 rfl (by omega) ?_
          refine wp_ret iX9_strip_82 rfl ?_
          (refine ⟨?_, ?_⟩ <;> (repeat' split) <;> first | rfl | (exfalso; omega))
        · refine wp_al0 iX9_strip_83 ?_
          refine wp_gR iX9_strip_84 fr_9_45 rfl rfl rfl ?_
          refine wp_il1 iX9_strip_87 ?_
          refine wp_ia iX9_strip_88 rfl (by omega) ?_
          refine wp_ret iX9_strip_89 rfl ?_
          (refine ⟨?_, ?_⟩ <;> (repeat' split) <;> first | rfl | (exfalso; omega))
        · refine wp_al0 iX9_strip_90 ?_
          refine wp_gR iX9_strip_91 fr_9_48 rfl rfl rfl ?_
          refine wp_il1 iX9_strip_94 ?_
          refine wp_ia iX9_strip_95 rfl (by omega) ?_
          refine wp_ret iX9_strip_96 rfl ?_
          (refine ⟨?_, ?_⟩ <;> (repeat' split) <;> first | rfl | (exfalso; omega))
        · refine wp_al0 iX9_strip_97 ?_
          refine wp_gR iX9_strip_98 fr_9_51 rfl rfl rfl ?_
          refine wp_il1 iX9_strip_101 ?_
          refine wp_ia iX9_strip_102 rfl (by omega) ?_
          refine wp_ret iX9_strip_103 rfl ?_
          (refine ⟨?_, ?_⟩ <;> (repeat' split) <;> first | rfl | (exfalso; omega))
        · refine wp_al0 iX9_strip_104 ?_
          refine wp_il1 iX9_strip_105 ?_
          refine wp_v1f iX9_strip_106 ml_9_211 rfl rfl rfl rfl (c_X9_allOf L M h hl s (by omega)) ?_
          refine wp_ret iX9_strip_109 rfl ?_
          (refine ⟨?_, ?_⟩ <;> (repeat' split) <;> first | rfl | (exfalso; omega))
        · refine wp_al0 iX9_strip_110 ?_
          refine wp_il1 iX9_strip_111 ?_
          refine wp_v1f iX9_strip_112 ml_9_205 rfl rfl rfl rfl (c_X9_wholeOf L M h hl s (by omega)) ?_
          refine wp_ret iX9_strip_115 rfl ?_
          (refine ⟨?_, ?_⟩ <;> (repeat' split) <;> first | rfl | (exfalso; omega))
      · refine wp_ic iX9_strip_34 (by decide) ?_
        refine wp_ret iX9_strip_35 rfl ?_
        (refine ⟨?_, ?_⟩ <;> (repeat' split) <;> first | rfl | (exfalso; omega))
  · refine wp_bp iX9_strip_7 (by decide) ?_
    refine wp_ret iX9_strip_9 rfl ?_
    (refine ⟨?_, ?_⟩ <;> (repeat' split) <;> first | rfl | (exfalso; omega))
end LoomM3
