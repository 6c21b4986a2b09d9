/-! ===== keep and back of the class ===== -/
def cpR (n : Nat) (D S : Nat) (M : ab_Me) : ab_Me := ab_rw M D (fun k => if k < n then M S k else M D k)
def cpB (D S : Nat) (M : ab_Me) : ab_Me := cpR 120 (D + 1) (S + 1) (ab_up (ab_up M D 0 (M S 0)) D 1 (M S 1))
def cpL (D S : Nat) (M : ab_Me) : ab_Me := cpR 12 (D + 2) (S + 2) (cpR 12 (D + 1) (S + 1) (ab_up M D 0 (M S 0)))
def cpW (D S : Nat) (M : ab_Me) : ab_Me := cpR 4 (D + 2) (S + 2) (cpR 4 (D + 1) (S + 1) (ab_up M D 0 (M S 0)))
def cpM (D S : Nat) (M : ab_Me) : ab_Me := cpR 44 (D + 5) (S + 5) (cpR 4 (D + 4) (S + 4) (cpR 4 (D + 3) (S + 3) (cpR 4 (D + 2) (S + 2) (cpR 4 (D + 1) (S + 1) (ab_up (ab_up (ab_up M D 0 (M S 0)) D 1 (M S 1)) D 6 (M S 6))))))
def cpS (D S : Nat) (M : ab_Me) : ab_Me := cpM (D + 9) (S + 9) (cpW (D + 6) (S + 6) (cpL (D + 3) (S + 3) (cpB (D + 1) (S + 1) M)))
section Keep
variable (L : Nat) (M : ab_Me)
theorem c_X0_copy_18_2 : cV L 1 mX0_copyFrom [.inr 19, .inr 3] M (cpB 19 3 M) := by
  refine cV_of rfl ?_
  change wp _ _ _ 0 [some (.inr 19), some (.inr 3)] [] _ _
  refine wp_al0 iX0_copyFrom_0 ?_
  refine wp_al1 iX0_copyFrom_1 ?_
  refine wp_gI iX0_copyFrom_2 fi_0_9 rfl ?_
  refine wp_pI iX0_copyFrom_5 fp_0_9 rfl ?_
  refine wp_al0 iX0_copyFrom_8 ?_
  refine wp_al1 iX0_copyFrom_9 ?_
  refine wp_gI iX0_copyFrom_10 fi_0_15 rfl ?_
  refine wp_pI iX0_copyFrom_13 fp_0_15 rfl ?_
  refine wp_al1 iX0_copyFrom_16 ?_
  refine wp_gR iX0_copyFrom_17 fr_0_18 rfl rfl rfl ?_
  refine wp_ic iX0_copyFrom_20 (by decide) ?_
  refine wp_al0 iX0_copyFrom_21 ?_
  refine wp_gR iX0_copyFrom_22 fr_0_18 rfl rfl rfl ?_
  refine wp_ic iX0_copyFrom_25 (by decide) ?_
  refine wp_bp iX0_copyFrom_26 (by decide) ?_
  refine wp_cp iX0_copyFrom_28 ml_0_28 rfl (N := 120) rfl rfl rfl (by decide) rfl rfl rfl rfl (by decide) ?_
  refine wp_retv iX0_copyFrom_31 rfl ?_
  (exact ⟨rfl, rfl⟩)
theorem c_X4_copy_18_2 : cV L 1 mX4_copyFrom [.inr 21, .inr 5] M (cpL 21 5 M) := by
  refine cV_of rfl ?_
  change wp _ _ _ 0 [some (.inr 21), some (.inr 5)] [] _ _
  refine wp_al0 iX4_copyFrom_0 ?_
  refine wp_al1 iX4_copyFrom_1 ?_
  refine wp_gI iX4_copyFrom_2 fi_4_9 rfl ?_
  refine wp_pI iX4_copyFrom_5 fp_4_9 rfl ?_
  refine wp_al1 iX4_copyFrom_8 ?_
  refine wp_gR iX4_copyFrom_9 fr_4_15 rfl rfl rfl ?_
  refine wp_ic iX4_copyFrom_12 (by decide) ?_
  refine wp_al0 iX4_copyFrom_13 ?_
  refine wp_gR iX4_copyFrom_14 fr_4_15 rfl rfl rfl ?_
  refine wp_ic iX4_copyFrom_17 (by decide) ?_
  refine wp_bp iX4_copyFrom_18 (by decide) ?_
  refine wp_cp iX4_copyFrom_20 ml_4_22 rfl (N := 12) rfl rfl rfl (by decide) rfl rfl rfl rfl (by decide) ?_
  refine wp_al1 iX4_copyFrom_23 ?_
  refine wp_gR iX4_copyFrom_24 fr_4_19 rfl rfl rfl ?_
  refine wp_ic iX4_copyFrom_27 (by decide) ?_
  refine wp_al0 iX4_copyFrom_28 ?_
  refine wp_gR iX4_copyFrom_29 fr_4_19 rfl rfl rfl ?_
  refine wp_ic iX4_copyFrom_32 (by decide) ?_
  refine wp_bp iX4_copyFrom_33 (by decide) ?_
  refine wp_cp iX4_copyFrom_35 ml_4_22 rfl (N := 12) rfl rfl rfl (by decide) rfl rfl rfl rfl (by decide) ?_
  refine wp_retv iX4_copyFrom_38 rfl ?_
  (exact ⟨rfl, rfl⟩)
theorem c_X3_copy_18_2 : cV L 1 mX3_copyFrom [.inr 27, .inr 11] M (cpM 27 11 M) := by
  refine cV_of rfl ?_
  change wp _ _ _ 0 [some (.inr 27), some (.inr 11)] [] _ _
  refine wp_al0 iX3_copyFrom_0 ?_
  refine wp_al1 iX3_copyFrom_1 ?_
  refine wp_gI iX3_copyFrom_2 fi_3_9 rfl ?_
  refine wp_pI iX3_copyFrom_5 fp_3_9 rfl ?_
  refine wp_al0 iX3_copyFrom_8 ?_
  refine wp_al1 iX3_copyFrom_9 ?_
  refine wp_gI iX3_copyFrom_10 fi_3_15 rfl ?_
  refine wp_pI iX3_copyFrom_13 fp_3_15 rfl ?_
  refine wp_al0 iX3_copyFrom_16 ?_
  refine wp_al1 iX3_copyFrom_17 ?_
  refine wp_gI iX3_copyFrom_18 fi_3_31 rfl ?_
  refine wp_pI iX3_copyFrom_21 fp_3_31 rfl ?_
  refine wp_al1 iX3_copyFrom_24 ?_
  refine wp_gR iX3_copyFrom_25 fr_3_18 rfl rfl rfl ?_
  refine wp_ic iX3_copyFrom_28 (by decide) ?_
  refine wp_al0 iX3_copyFrom_29 ?_
  refine wp_gR iX3_copyFrom_30 fr_3_18 rfl rfl rfl ?_
  refine wp_ic iX3_copyFrom_33 (by decide) ?_
  refine wp_ic iX3_copyFrom_34 (by decide) ?_
  refine wp_cp iX3_copyFrom_35 ml_3_96 rfl (N := 4) rfl rfl rfl (by decide) rfl rfl rfl rfl (by decide) ?_
  refine wp_al1 iX3_copyFrom_38 ?_
  refine wp_gR iX3_copyFrom_39 fr_3_22 rfl rfl rfl ?_
  refine wp_ic iX3_copyFrom_42 (by decide) ?_
  refine wp_al0 iX3_copyFrom_43 ?_
  refine wp_gR iX3_copyFrom_44 fr_3_22 rfl rfl rfl ?_
  refine wp_ic iX3_copyFrom_47 (by decide) ?_
  refine wp_ic iX3_copyFrom_48 (by decide) ?_
  refine wp_cp iX3_copyFrom_49 ml_3_96 rfl (N := 4) rfl rfl rfl (by decide) rfl rfl rfl rfl (by decide) ?_
  refine wp_al1 iX3_copyFrom_52 ?_
  refine wp_gR iX3_copyFrom_53 fr_3_25 rfl rfl rfl ?_
  refine wp_ic iX3_copyFrom_56 (by decide) ?_
  refine wp_al0 iX3_copyFrom_57 ?_
  refine wp_gR iX3_copyFrom_58 fr_3_25 rfl rfl rfl ?_
  refine wp_ic iX3_copyFrom_61 (by decide) ?_
  refine wp_ic iX3_copyFrom_62 (by decide) ?_
  refine wp_cp iX3_copyFrom_63 ml_3_96 rfl (N := 4) rfl rfl rfl (by decide) rfl rfl rfl rfl (by decide) ?_
  refine wp_al1 iX3_copyFrom_66 ?_
  refine wp_gR iX3_copyFrom_67 fr_3_28 rfl rfl rfl ?_
  refine wp_ic iX3_copyFrom_70 (by decide) ?_
  refine wp_al0 iX3_copyFrom_71 ?_
  refine wp_gR iX3_copyFrom_72 fr_3_28 rfl rfl rfl ?_
  refine wp_ic iX3_copyFrom_75 (by decide) ?_
  refine wp_ic iX3_copyFrom_76 (by decide) ?_
  refine wp_cp iX3_copyFrom_77 ml_3_96 rfl (N := 4) rfl rfl rfl (by decide) rfl rfl rfl rfl (by decide) ?_
  refine wp_al1 iX3_copyFrom_80 ?_
  refine wp_gR iX3_copyFrom_81 fr_3_34 rfl rfl rfl ?_
  refine wp_ic iX3_copyFrom_84 (by decide) ?_
  refine wp_al0 iX3_copyFrom_85 ?_
  refine wp_gR iX3_copyFrom_86 fr_3_34 rfl rfl rfl ?_
  refine wp_ic iX3_copyFrom_89 (by decide) ?_
  refine wp_bp iX3_copyFrom_90 (by decide) ?_
  refine wp_cp iX3_copyFrom_92 ml_3_96 rfl (N := 44) rfl rfl rfl (by decide) rfl rfl rfl rfl (by decide) ?_
  refine wp_retv iX3_copyFrom_95 rfl ?_
  (exact ⟨rfl, rfl⟩)
theorem c_X7_copy_18_2 (hm : ∀ k, M 10 k = 0 ∨ M 10 k = 1) : cV L 1 mX7_copyFrom [.inr 24, .inr 8] M (cpW 24 8 M) := by
  refine cV_of rfl ?_
  change wp _ _ _ 0 [some (.inr 24), some (.inr 8), none] [] _ _
  refine wp_al0 iX7_copyFrom_0 ?_
  refine wp_al1 iX7_copyFrom_1 ?_
  refine wp_gI iX7_copyFrom_2 fi_7_9 rfl ?_
  refine wp_pI iX7_copyFrom_5 fp_7_9 rfl ?_
  refine wp_ic iX7_copyFrom_8 (by decide) ?_
  refine wp_is2 iX7_copyFrom_9 ?_
  have key : ∀ (n : Nat) (i : Int), (4 - i).toNat = n → 0 ≤ i → i ≤ 4 → wp L 0 mX7_copyFrom 10 [some (.inr 24), some (.inr 8), some (.inl i)] [] (ab_rw (ab_rw (ab_up M 24 0 (M 8 0)) 25 (fun k => if (k : Int) < i then M 9 k else M 25 k)) 26 (fun k => if (k : Int) < i then M 10 k else M 26 k)) (fun r M1 => r = none ∧ M1 = cpW 24 8 M) := by
    intro n
    induction n using Nat.strongRecOn with
    | ind n ih =>
      intro i hn hi0 hi1
      obtain ⟨N, hN⟩ : ∃ N, N = ab_rw (ab_rw (ab_up M 24 0 (M 8 0)) 25 (fun k => if (k : Int) < i then M 9 k else M 25 k)) 26 (fun k => if (k : Int) < i then M 10 k else M 26 k) := ⟨_, rfl⟩
      have es1 : N 9 = M 9 := by rw [hN]; rfl
      have es2 : ∀ z : Int, ab_up N 25 i.toNat z 10 = M 10 := by rw [hN]; intro z; rfl
      refine wp_il2 iX7_copyFrom_10 ?_
      refine wp_ic iX7_copyFrom_11 (by decide) ?_
      refine wp_cge iX7_copyFrom_12 (fun c_12 => ?_) (fun c_12 => ?_)
      · refine wp_retv iX7_copyFrom_45 rfl ?_
        refine ⟨rfl, ?_⟩
        rw [show i = 4 by omega]
        unfold cpW cpR
        have e : ∀ f g : Nat → Int, (fun k : Nat => if (k : Int) < 4 then f k else g k) = (fun k : Nat => if k < 4 then f k else g k) := fun f g => funext fun k => by
          by_cases hk : k < 4
          · rw [if_pos hk, if_pos (by omega)]
          · rw [if_neg hk, if_neg (by omega)]
        rw [e, e]
        rfl
      · rw [← hN]
        refine wp_al0 iX7_copyFrom_15 ?_
        refine wp_gR iX7_copyFrom_16 fr_7_15 rfl rfl rfl ?_
        refine wp_il2 iX7_copyFrom_19 ?_
        refine wp_al1 iX7_copyFrom_20 ?_
        refine wp_gR iX7_copyFrom_21 fr_7_15 rfl rfl rfl ?_
        refine wp_il2 iX7_copyFrom_24 ?_
        refine wp_ia iX7_copyFrom_25 rfl (by omega) ?_
        rw [es1]
        refine wp_is iX7_copyFrom_26 rfl rfl (by omega) ?_
        refine wp_al0 iX7_copyFrom_27 ?_
        refine wp_gR iX7_copyFrom_28 fr_7_19 rfl rfl rfl ?_
        refine wp_il2 iX7_copyFrom_31 ?_
        refine wp_al1 iX7_copyFrom_32 ?_
        refine wp_gR iX7_copyFrom_33 fr_7_19 rfl rfl rfl ?_
        refine wp_il2 iX7_copyFrom_36 ?_
        refine wp_ba iX7_copyFrom_37 rfl rfl (by omega) ?_
        rw [es2]
        refine wp_bs iX7_copyFrom_38 rfl rfl (by omega) ((hm i.toNat)) ?_
        have e : ab_up (ab_up N 25 i.toNat (M 9 i.toNat)) 26 i.toNat (M 10 i.toNat) = ab_rw (ab_rw (ab_up M 24 0 (M 8 0)) 25 (fun k => if (k : Int) < i + 1 then M 9 k else M 25 k)) 26 (fun k => if (k : Int) < i + 1 then M 10 k else M 26 k) := by
          rw [← u1_fill (M 9) (M 25) i hi0 _ rfl, ← u1_fill (M 10) (M 26) i hi0 _ rfl, hN]
          funext b
          by_cases hb : b = 26
          · subst hb
            rw [ab_up_self, ab_up_ne _ _ _ (by decide), ab_rw_self, ab_rw_self]
          · rw [ab_up_ne _ _ _ hb, ab_rw_ne _ _ hb]
            by_cases hb2 : b = 25
            · subst hb2
              rw [ab_up_self, ab_rw_ne _ _ (by decide), ab_rw_self, ab_rw_self]
            · rw [ab_up_ne _ _ _ hb2, ab_rw_ne _ _ hb, ab_rw_ne _ _ hb2, ab_rw_ne _ _ hb2]
        rw [e]
        refine wp_ii2 iX7_copyFrom_39 (by omega) ?_
        refine wp_goto iX7_copyFrom_42 ?_
        exact ih _ (by omega) (i + 1) rfl (by omega) (by omega)
  have k0 := key _ 0 rfl (by omega) (by omega)
  rw [fill_n, fill_n] at k0
  have e0 : ab_rw (ab_rw (ab_up M 24 0 (M 8 0)) 25 (M 25)) 26 (M 26) = ab_up M 24 0 (M 8 0) :=
    (congrArg (fun z => ab_rw z 26 (M 26)) (rw_self (ab_up M 24 0 (M 8 0)) 25)).trans (rw_self (ab_up M 24 0 (M 8 0)) 26)
  rw [e0] at k0
  exact k0
theorem c_X6_copy_18_2 (hm : ∀ k, M 10 k = 0 ∨ M 10 k = 1) : cV L 2 mX6_copyFrom [.inr 18, .inr 2] M (cpS 18 2 M) := by
  refine cV_of rfl ?_
  change wp _ _ _ 0 [some (.inr 18), some (.inr 2)] [] _ _
  refine wp_al0 iX6_copyFrom_0 ?_
  refine wp_gR iX6_copyFrom_1 fr_6_10 rfl rfl rfl ?_
  refine wp_al1 iX6_copyFrom_4 ?_
  refine wp_gR iX6_copyFrom_5 fr_6_10 rfl rfl rfl ?_
  refine wp_v1v iX6_copyFrom_8 ml_6_37 rfl rfl rfl rfl (c_X0_copy_18_2 L _) ?_
  refine wp_al0 iX6_copyFrom_11 ?_
  refine wp_gR iX6_copyFrom_12 fr_6_19 rfl rfl rfl ?_
  refine wp_al1 iX6_copyFrom_15 ?_
  refine wp_gR iX6_copyFrom_16 fr_6_19 rfl rfl rfl ?_
  refine wp_v1v iX6_copyFrom_19 ml_6_41 rfl rfl rfl rfl (c_X4_copy_18_2 L _) ?_
  refine wp_al0 iX6_copyFrom_22 ?_
  refine wp_gR iX6_copyFrom_23 fr_6_26 rfl rfl rfl ?_
  refine wp_al1 iX6_copyFrom_26 ?_
  refine wp_gR iX6_copyFrom_27 fr_6_26 rfl rfl rfl ?_
  refine wp_v1v iX6_copyFrom_30 ml_6_44 rfl rfl rfl rfl (c_X7_copy_18_2 L _ hm) ?_
  refine wp_al0 iX6_copyFrom_33 ?_
  refine wp_gR iX6_copyFrom_34 fr_6_33 rfl rfl rfl ?_
  refine wp_al1 iX6_copyFrom_37 ?_
  refine wp_gR iX6_copyFrom_38 fr_6_33 rfl rfl rfl ?_
  refine wp_v1v iX6_copyFrom_41 ml_6_47 rfl rfl rfl rfl (c_X3_copy_18_2 L _) ?_
  refine wp_retv iX6_copyFrom_44 rfl ?_
  (exact ⟨rfl, rfl⟩)
theorem c_X0_copy_2_18 : cV L 1 mX0_copyFrom [.inr 3, .inr 19] M (cpB 3 19 M) := by
  refine cV_of rfl ?_
  change wp _ _ _ 0 [some (.inr 3), some (.inr 19)] [] _ _
  refine wp_al0 iX0_copyFrom_0 ?_
  refine wp_al1 iX0_copyFrom_1 ?_
  refine wp_gI iX0_copyFrom_2 fi_0_9 rfl ?_
  refine wp_pI iX0_copyFrom_5 fp_0_9 rfl ?_
  refine wp_al0 iX0_copyFrom_8 ?_
  refine wp_al1 iX0_copyFrom_9 ?_
  refine wp_gI iX0_copyFrom_10 fi_0_15 rfl ?_
  refine wp_pI iX0_copyFrom_13 fp_0_15 rfl ?_
  refine wp_al1 iX0_copyFrom_16 ?_
  refine wp_gR iX0_copyFrom_17 fr_0_18 rfl rfl rfl ?_
  refine wp_ic iX0_copyFrom_20 (by decide) ?_
  refine wp_al0 iX0_copyFrom_21 ?_
  refine wp_gR iX0_copyFrom_22 fr_0_18 rfl rfl rfl ?_
  refine wp_ic iX0_copyFrom_25 (by decide) ?_
  refine wp_bp iX0_copyFrom_26 (by decide) ?_
  refine wp_cp iX0_copyFrom_28 ml_0_28 rfl (N := 120) rfl rfl rfl (by decide) rfl rfl rfl rfl (by decide) ?_
  refine wp_retv iX0_copyFrom_31 rfl ?_
  (exact ⟨rfl, rfl⟩)
theorem c_X4_copy_2_18 : cV L 1 mX4_copyFrom [.inr 5, .inr 21] M (cpL 5 21 M) := by
  refine cV_of rfl ?_
  change wp _ _ _ 0 [some (.inr 5), some (.inr 21)] [] _ _
  refine wp_al0 iX4_copyFrom_0 ?_
  refine wp_al1 iX4_copyFrom_1 ?_
  refine wp_gI iX4_copyFrom_2 fi_4_9 rfl ?_
  refine wp_pI iX4_copyFrom_5 fp_4_9 rfl ?_
  refine wp_al1 iX4_copyFrom_8 ?_
  refine wp_gR iX4_copyFrom_9 fr_4_15 rfl rfl rfl ?_
  refine wp_ic iX4_copyFrom_12 (by decide) ?_
  refine wp_al0 iX4_copyFrom_13 ?_
  refine wp_gR iX4_copyFrom_14 fr_4_15 rfl rfl rfl ?_
  refine wp_ic iX4_copyFrom_17 (by decide) ?_
  refine wp_bp iX4_copyFrom_18 (by decide) ?_
  refine wp_cp iX4_copyFrom_20 ml_4_22 rfl (N := 12) rfl rfl rfl (by decide) rfl rfl rfl rfl (by decide) ?_
  refine wp_al1 iX4_copyFrom_23 ?_
  refine wp_gR iX4_copyFrom_24 fr_4_19 rfl rfl rfl ?_
  refine wp_ic iX4_copyFrom_27 (by decide) ?_
  refine wp_al0 iX4_copyFrom_28 ?_
  refine wp_gR iX4_copyFrom_29 fr_4_19 rfl rfl rfl ?_
  refine wp_ic iX4_copyFrom_32 (by decide) ?_
  refine wp_bp iX4_copyFrom_33 (by decide) ?_
  refine wp_cp iX4_copyFrom_35 ml_4_22 rfl (N := 12) rfl rfl rfl (by decide) rfl rfl rfl rfl (by decide) ?_
  refine wp_retv iX4_copyFrom_38 rfl ?_
  (exact ⟨rfl, rfl⟩)
theorem c_X3_copy_2_18 : cV L 1 mX3_copyFrom [.inr 11, .inr 27] M (cpM 11 27 M) := by
  refine cV_of rfl ?_
  change wp _ _ _ 0 [some (.inr 11), some (.inr 27)] [] _ _
  refine wp_al0 iX3_copyFrom_0 ?_
  refine wp_al1 iX3_copyFrom_1 ?_
  refine wp_gI iX3_copyFrom_2 fi_3_9 rfl ?_
  refine wp_pI iX3_copyFrom_5 fp_3_9 rfl ?_
  refine wp_al0 iX3_copyFrom_8 ?_
  refine wp_al1 iX3_copyFrom_9 ?_
  refine wp_gI iX3_copyFrom_10 fi_3_15 rfl ?_
  refine wp_pI iX3_copyFrom_13 fp_3_15 rfl ?_
  refine wp_al0 iX3_copyFrom_16 ?_
  refine wp_al1 iX3_copyFrom_17 ?_
  refine wp_gI iX3_copyFrom_18 fi_3_31 rfl ?_
  refine wp_pI iX3_copyFrom_21 fp_3_31 rfl ?_
  refine wp_al1 iX3_copyFrom_24 ?_
  refine wp_gR iX3_copyFrom_25 fr_3_18 rfl rfl rfl ?_
  refine wp_ic iX3_copyFrom_28 (by decide) ?_
  refine wp_al0 iX3_copyFrom_29 ?_
  refine wp_gR iX3_copyFrom_30 fr_3_18 rfl rfl rfl ?_
  refine wp_ic iX3_copyFrom_33 (by decide) ?_
  refine wp_ic iX3_copyFrom_34 (by decide) ?_
  refine wp_cp iX3_copyFrom_35 ml_3_96 rfl (N := 4) rfl rfl rfl (by decide) rfl rfl rfl rfl (by decide) ?_
  refine wp_al1 iX3_copyFrom_38 ?_
  refine wp_gR iX3_copyFrom_39 fr_3_22 rfl rfl rfl ?_
  refine wp_ic iX3_copyFrom_42 (by decide) ?_
  refine wp_al0 iX3_copyFrom_43 ?_
  refine wp_gR iX3_copyFrom_44 fr_3_22 rfl rfl rfl ?_
  refine wp_ic iX3_copyFrom_47 (by decide) ?_
  refine wp_ic iX3_copyFrom_48 (by decide) ?_
  refine wp_cp iX3_copyFrom_49 ml_3_96 rfl (N := 4) rfl rfl rfl (by decide) rfl rfl rfl rfl (by decide) ?_
  refine wp_al1 iX3_copyFrom_52 ?_
  refine wp_gR iX3_copyFrom_53 fr_3_25 rfl rfl rfl ?_
  refine wp_ic iX3_copyFrom_56 (by decide) ?_
  refine wp_al0 iX3_copyFrom_57 ?_
  refine wp_gR iX3_copyFrom_58 fr_3_25 rfl rfl rfl ?_
  refine wp_ic iX3_copyFrom_61 (by decide) ?_
  refine wp_ic iX3_copyFrom_62 (by decide) ?_
  refine wp_cp iX3_copyFrom_63 ml_3_96 rfl (N := 4) rfl rfl rfl (by decide) rfl rfl rfl rfl (by decide) ?_
  refine wp_al1 iX3_copyFrom_66 ?_
  refine wp_gR iX3_copyFrom_67 fr_3_28 rfl rfl rfl ?_
  refine wp_ic iX3_copyFrom_70 (by decide) ?_
  refine wp_al0 iX3_copyFrom_71 ?_
  refine wp_gR iX3_copyFrom_72 fr_3_28 rfl rfl rfl ?_
  refine wp_ic iX3_copyFrom_75 (by decide) ?_
  refine wp_ic iX3_copyFrom_76 (by decide) ?_
  refine wp_cp iX3_copyFrom_77 ml_3_96 rfl (N := 4) rfl rfl rfl (by decide) rfl rfl rfl rfl (by decide) ?_
  refine wp_al1 iX3_copyFrom_80 ?_
  refine wp_gR iX3_copyFrom_81 fr_3_34 rfl rfl rfl ?_
  refine wp_ic iX3_copyFrom_84 (by decide) ?_
  refine wp_al0 iX3_copyFrom_85 ?_
  refine wp_gR iX3_copyFrom_86 fr_3_34 rfl rfl rfl ?_
  refine wp_ic iX3_copyFrom_89 (by decide) ?_
  refine wp_bp iX3_copyFrom_90 (by decide) ?_
  refine wp_cp iX3_copyFrom_92 ml_3_96 rfl (N := 44) rfl rfl rfl (by decide) rfl rfl rfl rfl (by decide) ?_
  refine wp_retv iX3_copyFrom_95 rfl ?_
  (exact ⟨rfl, rfl⟩)
theorem c_X7_copy_2_18 (hm : ∀ k, M 26 k = 0 ∨ M 26 k = 1) : cV L 1 mX7_copyFrom [.inr 8, .inr 24] M (cpW 8 24 M) := by
  refine cV_of rfl ?_
  change wp _ _ _ 0 [some (.inr 8), some (.inr 24), none] [] _ _
  refine wp_al0 iX7_copyFrom_0 ?_
  refine wp_al1 iX7_copyFrom_1 ?_
  refine wp_gI iX7_copyFrom_2 fi_7_9 rfl ?_
  refine wp_pI iX7_copyFrom_5 fp_7_9 rfl ?_
  refine wp_ic iX7_copyFrom_8 (by decide) ?_
  refine wp_is2 iX7_copyFrom_9 ?_
  have key : ∀ (n : Nat) (i : Int), (4 - i).toNat = n → 0 ≤ i → i ≤ 4 → wp L 0 mX7_copyFrom 10 [some (.inr 8), some (.inr 24), some (.inl i)] [] (ab_rw (ab_rw (ab_up M 8 0 (M 24 0)) 9 (fun k => if (k : Int) < i then M 25 k else M 9 k)) 10 (fun k => if (k : Int) < i then M 26 k else M 10 k)) (fun r M1 => r = none ∧ M1 = cpW 8 24 M) := by
    intro n
    induction n using Nat.strongRecOn with
    | ind n ih =>
      intro i hn hi0 hi1
      obtain ⟨N, hN⟩ : ∃ N, N = ab_rw (ab_rw (ab_up M 8 0 (M 24 0)) 9 (fun k => if (k : Int) < i then M 25 k else M 9 k)) 10 (fun k => if (k : Int) < i then M 26 k else M 10 k) := ⟨_, rfl⟩
      have es1 : N 25 = M 25 := by rw [hN]; rfl
      have es2 : ∀ z : Int, ab_up N 9 i.toNat z 26 = M 26 := by rw [hN]; intro z; rfl
      refine wp_il2 iX7_copyFrom_10 ?_
      refine wp_ic iX7_copyFrom_11 (by decide) ?_
      refine wp_cge iX7_copyFrom_12 (fun c_12 => ?_) (fun c_12 => ?_)
      · refine wp_retv iX7_copyFrom_45 rfl ?_
        refine ⟨rfl, ?_⟩
        rw [show i = 4 by omega]
        unfold cpW cpR
        have e : ∀ f g : Nat → Int, (fun k : Nat => if (k : Int) < 4 then f k else g k) = (fun k : Nat => if k < 4 then f k else g k) := fun f g => funext fun k => by
          by_cases hk : k < 4
          · rw [if_pos hk, if_pos (by omega)]
          · rw [if_neg hk, if_neg (by omega)]
        rw [e, e]
        rfl
      · rw [← hN]
        refine wp_al0 iX7_copyFrom_15 ?_
        refine wp_gR iX7_copyFrom_16 fr_7_15 rfl rfl rfl ?_
        refine wp_il2 iX7_copyFrom_19 ?_
        refine wp_al1 iX7_copyFrom_20 ?_
        refine wp_gR iX7_copyFrom_21 fr_7_15 rfl rfl rfl ?_
        refine wp_il2 iX7_copyFrom_24 ?_
        refine wp_ia iX7_copyFrom_25 rfl (by omega) ?_
        rw [es1]
        refine wp_is iX7_copyFrom_26 rfl rfl (by omega) ?_
        refine wp_al0 iX7_copyFrom_27 ?_
        refine wp_gR iX7_copyFrom_28 fr_7_19 rfl rfl rfl ?_
        refine wp_il2 iX7_copyFrom_31 ?_
        refine wp_al1 iX7_copyFrom_32 ?_
        refine wp_gR iX7_copyFrom_33 fr_7_19 rfl rfl rfl ?_
        refine wp_il2 iX7_copyFrom_36 ?_
        refine wp_ba iX7_copyFrom_37 rfl rfl (by omega) ?_
        rw [es2]
        refine wp_bs iX7_copyFrom_38 rfl rfl (by omega) ((hm i.toNat)) ?_
        have e : ab_up (ab_up N 9 i.toNat (M 25 i.toNat)) 10 i.toNat (M 26 i.toNat) = ab_rw (ab_rw (ab_up M 8 0 (M 24 0)) 9 (fun k => if (k : Int) < i + 1 then M 25 k else M 9 k)) 10 (fun k => if (k : Int) < i + 1 then M 26 k else M 10 k) := by
          rw [← u1_fill (M 25) (M 9) i hi0 _ rfl, ← u1_fill (M 26) (M 10) i hi0 _ rfl, hN]
          funext b
          by_cases hb : b = 10
          · subst hb
            rw [ab_up_self, ab_up_ne _ _ _ (by decide), ab_rw_self, ab_rw_self]
          · rw [ab_up_ne _ _ _ hb, ab_rw_ne _ _ hb]
            by_cases hb2 : b = 9
            · subst hb2
              rw [ab_up_self, ab_rw_ne _ _ (by decide), ab_rw_self, ab_rw_self]
            · rw [ab_up_ne _ _ _ hb2, ab_rw_ne _ _ hb, ab_rw_ne _ _ hb2, ab_rw_ne _ _ hb2]
        rw [e]
        refine wp_ii2 iX7_copyFrom_39 (by omega) ?_
        refine wp_goto iX7_copyFrom_42 ?_
        exact ih _ (by omega) (i + 1) rfl (by omega) (by omega)
  have k0 := key _ 0 rfl (by omega) (by omega)
  rw [fill_n, fill_n] at k0
  have e0 : ab_rw (ab_rw (ab_up M 8 0 (M 24 0)) 9 (M 9)) 10 (M 10) = ab_up M 8 0 (M 24 0) :=
    (congrArg (fun z => ab_rw z 10 (M 10)) (rw_self (ab_up M 8 0 (M 24 0)) 9)).trans (rw_self (ab_up M 8 0 (M 24 0)) 10)
  rw [e0] at k0
  exact k0
theorem c_X6_copy_2_18 (hm : ∀ k, M 26 k = 0 ∨ M 26 k = 1) : cV L 2 mX6_copyFrom [.inr 2, .inr 18] M (cpS 2 18 M) := by
  refine cV_of rfl ?_
  change wp _ _ _ 0 [some (.inr 2), some (.inr 18)] [] _ _
  refine wp_al0 iX6_copyFrom_0 ?_
  refine wp_gR iX6_copyFrom_1 fr_6_10 rfl rfl rfl ?_
  refine wp_al1 iX6_copyFrom_4 ?_
  refine wp_gR iX6_copyFrom_5 fr_6_10 rfl rfl rfl ?_
  refine wp_v1v iX6_copyFrom_8 ml_6_37 rfl rfl rfl rfl (c_X0_copy_2_18 L _) ?_
  refine wp_al0 iX6_copyFrom_11 ?_
  refine wp_gR iX6_copyFrom_12 fr_6_19 rfl rfl rfl ?_
  refine wp_al1 iX6_copyFrom_15 ?_
  refine wp_gR iX6_copyFrom_16 fr_6_19 rfl rfl rfl ?_
  refine wp_v1v iX6_copyFrom_19 ml_6_41 rfl rfl rfl rfl (c_X4_copy_2_18 L _) ?_
  refine wp_al0 iX6_copyFrom_22 ?_
  refine wp_gR iX6_copyFrom_23 fr_6_26 rfl rfl rfl ?_
  refine wp_al1 iX6_copyFrom_26 ?_
  refine wp_gR iX6_copyFrom_27 fr_6_26 rfl rfl rfl ?_
  refine wp_v1v iX6_copyFrom_30 ml_6_44 rfl rfl rfl rfl (c_X7_copy_2_18 L _ hm) ?_
  refine wp_al0 iX6_copyFrom_33 ?_
  refine wp_gR iX6_copyFrom_34 fr_6_33 rfl rfl rfl ?_
  refine wp_al1 iX6_copyFrom_37 ?_
  refine wp_gR iX6_copyFrom_38 fr_6_33 rfl rfl rfl ?_
  refine wp_v1v iX6_copyFrom_41 ml_6_47 rfl rfl rfl rfl (c_X3_copy_2_18 L _) ?_
  refine wp_retv iX6_copyFrom_44 rfl ?_
  (exact ⟨rfl, rfl⟩)
theorem c_X8_keep (hm : ∀ k, M 10 k = 0 ∨ M 10 k = 1) : cG L 3 mX8_keep [.inr 1] M 1 (ab_up (cpS 18 2 M) 1 2 1) := by
  refine cG_of rfl ?_
  change wp _ _ _ 0 [some (.inr 1)] [] _ _
  refine wp_al0 iX8_keep_0 ?_
  refine wp_gR iX8_keep_1 fr_8_16 rfl rfl rfl ?_
  refine wp_al0 iX8_keep_4 ?_
  refine wp_gR iX8_keep_5 fr_8_10 rfl rfl rfl ?_
  refine wp_v1v iX8_keep_8 ml_8_257 rfl rfl rfl rfl (c_X6_copy_18_2 L M hm) ?_
  refine wp_al0 iX8_keep_11 ?_
  refine wp_ic iX8_keep_12 (by decide) ?_
  refine wp_pB iX8_keep_13 fb_8_19 rfl (by decide) ?_
  refine wp_ic iX8_keep_16 (by decide) ?_
  refine wp_ret iX8_keep_17 rfl ?_
  (exact ⟨rfl, rfl⟩)
theorem c_X8_back (hm : ∀ k, M 26 k = 0 ∨ M 26 k = 1) : cG L 3 mX8_back [.inr 1] M (if M 1 2 = 0 then -4 else 1) (if M 1 2 = 0 then M else cpS 2 18 M) := by
  refine cG_of rfl ?_
  change wp _ _ _ 0 [some (.inr 1)] [] _ _
  refine wp_al0 iX8_back_0 ?_
  refine wp_gI iX8_back_1 fi_8_19 rfl ?_
  refine wp_zne iX8_back_4 (fun c_4 => ?_) (fun c_4 => ?_)
  · refine wp_al0 iX8_back_10 ?_
    refine wp_gR iX8_back_11 fr_8_10 rfl rfl rfl ?_
    refine wp_al0 iX8_back_14 ?_
    refine wp_gR iX8_back_15 fr_8_16 rfl rfl rfl ?_
    refine wp_v1v iX8_back_18 ml_8_257 rfl rfl rfl rfl (c_X6_copy_2_18 L M hm) ?_
    refine wp_ic iX8_back_21 (by decide) ?_
    refine wp_ret iX8_back_22 rfl ?_
    (refine ⟨?_, ?_⟩ <;> (repeat' split) <;> first | rfl | (exfalso; omega))
  · refine wp_bp iX8_back_7 (by decide) ?_
    refine wp_ret iX8_back_9 rfl ?_
    (refine ⟨?_, ?_⟩ <;> (repeat' split) <;> first | rfl | (exfalso; omega))
end Keep
section ManyW
variable (L : Nat) (M : ab_Me)
theorem c_X9_manyWoven (h : hM M) (hl : hLM M) (hp : 0 < M 56 12 → hPt M) : cF L 4 mX9_manyWoven [.inr 56] M (if 0 < M 56 12 then sm (fun p => sm (fun w => iwM M (w : Int) (p : Int)) (M 56 0).toNat) (M 56 1).toNat else 0) := by
  obtain ⟨h1, h2, h3, h4, h5, h6⟩ := id h
  have hiwb : ∀ w p : Int, 0 ≤ iwM M w p ∧ iwM M w p ≤ 1 := fun w p => by unfold iwM; split <;> omega
  refine cF_of rfl ?_
  change wp _ _ _ 0 [some (.inr 56), none, none, none] [] _ _
  refine wp_ic iX9_manyWoven_0 (by decide) ?_
  refine wp_is1 iX9_manyWoven_1 ?_
  refine wp_ic iX9_manyWoven_2 (by decide) ?_
  refine wp_is2 iX9_manyWoven_3 ?_
  have hrow : ∀ p : Nat, 0 ≤ sm (fun w : Nat => iwM M (w : Int) (p : Int)) (M 56 0).toNat ∧ sm (fun w : Nat => iwM M (w : Int) (p : Int)) (M 56 0).toNat ≤ 12 := fun p => by
    have := sm_bd (fun w : Nat => iwM M (w : Int) (p : Int)) 1 (fun w => hiwb w p) (M 56 0).toNat
    omega
  have key : ∀ (n : Nat) (p acc : Int), (M 56 1 - p).toNat = n → 0 ≤ p → p ≤ M 56 1 → acc = (if 0 < M 56 12 then sm (fun p => sm (fun w => iwM M (w : Int) (p : Int)) (M 56 0).toNat) p.toNat else 0) → ∀ v3 : Option ab_V, wp L 3 mX9_manyWoven 4 [some (.inr 56), some (.inl acc), some (.inl p), v3] [] M (fun r M1 => r = some (.inl (if 0 < M 56 12 then sm (fun p => sm (fun w => iwM M (w : Int) (p : Int)) (M 56 0).toNat) (M 56 1).toNat else 0)) ∧ M1 = M) := by
    intro n
    induction n using Nat.strongRecOn with
    | ind n ih =>
      intro p acc hn hp0 hp1 hacc v3
      have hb := sm_bd (fun p : Nat => sm (fun w : Nat => iwM M (w : Int) (p : Int)) (M 56 0).toNat) 12 hrow p.toNat
      refine wp_il2 iX9_manyWoven_4 ?_
      refine wp_al0 iX9_manyWoven_5 ?_
      refine wp_gI iX9_manyWoven_6 fi_9_13 rfl ?_
      refine wp_cge iX9_manyWoven_9 (fun c_9 => ?_) (fun c_9 => ?_)
      · refine wp_il1 iX9_manyWoven_58 ?_
        refine wp_ret iX9_manyWoven_59 rfl ?_
        exact ⟨by rw [hacc, show p = M 56 1 by omega], rfl⟩
      · refine wp_al0 iX9_manyWoven_12 ?_
        refine wp_gI iX9_manyWoven_13 fi_9_115 rfl ?_
        refine wp_zle iX9_manyWoven_16 (fun c_16 => ?_) (fun c_16 => ?_)
        · refine wp_il1 iX9_manyWoven_58 ?_
          refine wp_ret iX9_manyWoven_59 rfl ?_
          exact ⟨by rw [hacc, if_neg (by omega), if_neg (by omega)], rfl⟩
        · rw [if_pos c_16] at hacc
          refine wp_ic iX9_manyWoven_19 (by decide) ?_
          refine wp_is3 iX9_manyWoven_20 ?_
          have key2 : ∀ (q : Nat) (w a2 : Int), (M 56 0 - w).toNat = q → 0 ≤ w → w ≤ M 56 0 → a2 = acc + sm (fun w => iwM M (w : Int) p) w.toNat → wp L 3 mX9_manyWoven 21 [some (.inr 56), some (.inl a2), some (.inl p), some (.inl w)] [] M (fun r M1 => r = some (.inl (if 0 < M 56 12 then sm (fun p => sm (fun w => iwM M (w : Int) (p : Int)) (M 56 0).toNat) (M 56 1).toNat else 0)) ∧ M1 = M) := by
            intro q
            induction q using Nat.strongRecOn with
            | ind q ih2 =>
              intro w a2 hq hw0 hw1 ha2
              have hb2 := sm_bd (fun w : Nat => iwM M (w : Int) p) 1 (fun w => hiwb w p) w.toNat
              have hs := sm_up (fun w : Nat => iwM M (w : Int) p) hw0
              simp only [toNat_cast hw0] at hs
              refine wp_il3 iX9_manyWoven_21 ?_
              refine wp_al0 iX9_manyWoven_22 ?_
              refine wp_gI iX9_manyWoven_23 fi_9_7 rfl ?_
              refine wp_cge iX9_manyWoven_26 (fun c_26 => ?_) (fun c_26 => ?_)
              · refine wp_ii2 iX9_manyWoven_52 (by omega) ?_
                refine wp_goto iX9_manyWoven_55 ?_
                refine ih _ (by omega) (p + 1) a2 rfl (by omega) (by omega) ?_ _
                rw [if_pos c_16, ha2, hacc, show w = M 56 0 by omega, show (p + 1).toNat = p.toNat + 1 by omega]
                show _ = sm (fun p => sm (fun w => iwM M (w : Int) (p : Int)) (M 56 0).toNat) p.toNat + sm (fun w => iwM M (w : Int) ((p.toNat : Nat) : Int)) (M 56 0).toNat
                rw [toNat_cast hp0]
              · have hiw := c_X9_isWoven L M h hl w p (by omega) (by omega) ((hp c_16) w hw0 c_26).1 ((hp c_16) w hw0 c_26).2
                have hiw2 : iwM M w p = (if wb (M 58) (M 64 (stM M w).toNat) (M 65 (stM M w).toNat).toNat p.toNat + rs (M 58) (M 64 (stM M w).toNat) (w + 1 - M 64 (stM M w).toNat).toNat p ≤ M 66 (stM M w).toNat then 1 else 0) := rfl
                refine wp_il1 iX9_manyWoven_29 ?_
                refine wp_al0 iX9_manyWoven_30 ?_
                refine wp_il3 iX9_manyWoven_31 ?_
                refine wp_il2 iX9_manyWoven_32 ?_
                refine wp_v2f iX9_manyWoven_33 ml_9_217 rfl rfl rfl rfl (hiw) ?_
                refine wp_beq iX9_manyWoven_36 (fun c_36 => ?_) (fun c_36 => ?_)
                · rw [if_neg c_36] at hiw2
                  refine wp_ic iX9_manyWoven_43 (by decide) ?_
                  refine wp_add iX9_manyWoven_44 (by omega) ?_
                  refine wp_is1 iX9_manyWoven_45 ?_
                  refine wp_ii3 iX9_manyWoven_46 (by omega) ?_
                  refine wp_goto iX9_manyWoven_49 ?_
                  exact ih2 _ (by omega) (w + 1) _ rfl (by omega) (by omega) (by rw [hs, hiw2, ha2]; omega)
                · rw [if_pos c_36] at hiw2
                  refine wp_ic iX9_manyWoven_39 (by decide) ?_
                  refine wp_goto iX9_manyWoven_40 ?_
                  refine wp_add iX9_manyWoven_44 (by omega) ?_
                  refine wp_is1 iX9_manyWoven_45 ?_
                  refine wp_ii3 iX9_manyWoven_46 (by omega) ?_
                  refine wp_goto iX9_manyWoven_49 ?_
                  exact ih2 _ (by omega) (w + 1) _ rfl (by omega) (by omega) (by rw [hs, hiw2, ha2]; omega)
          exact key2 _ 0 acc rfl (by omega) (by omega) (by simp [sm])
  exact key _ 0 0 rfl (by omega) (by omega) (by simp [sm]) _
end ManyW
