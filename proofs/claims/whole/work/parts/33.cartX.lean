/-! ===== the class's calls on THE CARTOON ===== -/
section CartX
variable (L : Nat) (M : ab_Me)
theorem fill_up (M : ab_Me) (a : Nat) (x : Int) (i : Int) (h : 0 ≤ i) : ab_up (ab_rw M a (fun k => if (k : Int) < i then x else M a k)) a i.toNat x = ab_rw M a (fun k => if (k : Int) < i + 1 then x else M a k) := by
  funext b
  by_cases hb : b = a
  · subst hb
    rw [ab_up_self, ab_rw_self, ab_rw_self]
    funext k
    unfold ab_u1
    by_cases hk : k = i.toNat
    · rw [if_pos hk, if_pos (by omega)]
    · rw [if_neg hk]
      show (if (k : Int) < i then x else M b k) = _
      by_cases h2 : (k : Int) < i
      · rw [if_pos h2, if_pos (by omega)]
      · rw [if_neg h2, if_neg (by omega)]
  · rw [ab_up_ne _ _ _ hb, ab_rw_ne _ _ hb, ab_rw_ne _ _ hb]
theorem fill_0 (M : ab_Me) (a : Nat) (x : Int) : ab_rw M a (fun k => if (k : Int) < 0 then x else M a k) = M := by
  funext b
  by_cases hb : b = a
  · subst hb
    rw [ab_rw_self]
    funext k
    rw [if_neg (by omega)]
  · rw [ab_rw_ne _ _ hb]
theorem c_fill (a n : Nat) (x : Int) (h1 : Nat.ble 1 a = true) (ha : (LAY L)[a]? = some (.inr (0, n))) (hn : n < 100000) : cV L 1 mJ7_fill_53178 [.inr a, .inl x] M (ab_rw M a (fun k => if (k : Int) < n then x else M a k)) := by
  refine cV_of rfl ?_
  change wp _ _ _ 0 [some (.inr a), some (.inl x), none, none] [] _ _
  refine wp_ic iJ7_fill_53178_0 (by decide) ?_
  refine wp_is2 iJ7_fill_53178_1 ?_
  refine wp_al0 iJ7_fill_53178_2 ?_
  refine wp_al iJ7_fill_53178_3 ha (Or.inr (by decide)) (by omega) ?_
  refine wp_is3 iJ7_fill_53178_4 ?_
  have key : ∀ (j : Nat) (i : Int), ((n : Int) - i).toNat = j → 0 ≤ i → i ≤ n → wp L 0 mJ7_fill_53178 5 [some (.inr a), some (.inl x), some (.inl i), some (.inl (n : Int))] [] (ab_rw M a (fun k => if (k : Int) < i then x else M a k)) (fun r M1 => r = none ∧ M1 = ab_rw M a (fun k => if (k : Int) < n then x else M a k)) := by
    intro j
    induction j using Nat.strongRecOn with
    | ind j ih =>
      intro i hj h0 hi
      refine wp_il2 iJ7_fill_53178_5 ?_
      refine wp_il3 iJ7_fill_53178_6 ?_
      refine wp_cge iJ7_fill_53178_7 (fun c_7 => ?_) (fun c_7 => ?_)
      · refine wp_retv iJ7_fill_53178_20 rfl ?_
        exact ⟨rfl, by rw [show i = (n : Int) by omega]⟩
      · refine wp_al0 iJ7_fill_53178_10 ?_
        refine wp_il2 iJ7_fill_53178_11 ?_
        refine wp_il1 iJ7_fill_53178_12 ?_
        refine wp_is iJ7_fill_53178_13 h1 ha (by omega) ?_
        rw [fill_up M a x i h0]
        refine wp_ii2 iJ7_fill_53178_14 (by omega) ?_
        refine wp_goto iJ7_fill_53178_17 ?_
        exact ih _ (by omega) (i + 1) rfl (by omega) (by omega)
  have k0 := key _ 0 rfl (by omega) (by omega)
  rw [fill_0] at k0
  exact k0
theorem c_X3_takeDown : cV L 1 mX3_takeDown [.inr 11] M (ab_up (ab_up M 11 0 0) 11 1 0) := by
  refine cV_of rfl ?_
  change wp _ _ _ 0 [some (.inr 11)] [] _ _
  refine wp_al0 iX3_takeDown_0 ?_
  refine wp_ic iX3_takeDown_1 (by decide) ?_
  refine wp_pI iX3_takeDown_2 fp_3_9 rfl ?_
  refine wp_al0 iX3_takeDown_5 ?_
  refine wp_ic iX3_takeDown_6 (by decide) ?_
  refine wp_pI iX3_takeDown_7 fp_3_15 rfl ?_
  refine wp_retv iX3_takeDown_10 rfl ?_
  (exact ⟨rfl, rfl⟩)
/-- the memory behind renew -/
def mRen (M : ab_Me) (x y : Int) : ab_Me := ab_rw (ab_up (ab_up M 3 0 x) 3 1 y) 4 (fun k => if (k : Int) < 120 then 0 else M 4 k)
theorem c_X0_renew (x y : Int) : cV L 2 mX0_renew [.inr 3, .inl x, .inl y] M (mRen M x y) := by
  refine cV_of rfl ?_
  change wp _ _ _ 0 [some (.inr 3), some (.inl x), some (.inl y)] [] _ _
  refine wp_al0 iX0_renew_0 ?_
  refine wp_il1 iX0_renew_1 ?_
  refine wp_pI iX0_renew_2 fp_0_9 rfl ?_
  refine wp_al0 iX0_renew_5 ?_
  refine wp_il2 iX0_renew_6 ?_
  refine wp_pI iX0_renew_7 fp_0_15 rfl ?_
  refine wp_al0 iX0_renew_10 ?_
  refine wp_gR iX0_renew_11 fr_0_18 rfl rfl rfl ?_
  refine wp_ic iX0_renew_14 (by decide) ?_
  refine wp_s2v iX0_renew_15 ml_0_22 rfl rfl rfl (c_fill L _ 4 120 0 rfl rfl (by decide)) ?_
  refine wp_retv iX0_renew_18 rfl ?_
  (exact ⟨rfl, rfl⟩)
def mDn (M : ab_Me) : ab_Me := ab_up (ab_up M 11 0 0) 11 1 0
theorem c_X8_size (x y : Int) : cG L 3 mX8_size [.inr 1, .inl x, .inl y] M (if (1 ≤ x ∧ x ≤ 12) ∧ 1 ≤ y ∧ y ≤ 10 then x * y else -1) (if (1 ≤ x ∧ x ≤ 12) ∧ 1 ≤ y ∧ y ≤ 10 then mDn (mRen M x y) else M) := by
  have hm : (1 ≤ x ∧ x ≤ 12) ∧ 1 ≤ y ∧ y ≤ 10 → -2147483648 ≤ x * y ∧ x * y < 2147483648 := by
    intro h
    have h1 : x * y ≤ 12 * 10 := Int.mul_le_mul (by omega) (by omega) (by omega) (by omega)
    have h2 : 0 ≤ x * y := Int.mul_nonneg (by omega) (by omega)
    omega
  refine cG_of rfl ?_
  change wp _ _ _ 0 [some (.inr 1), some (.inl x), some (.inl y)] [] _ _
  refine wp_il1 iX8_size_0 ?_
  refine wp_ic iX8_size_1 (by decide) ?_
  refine wp_bp iX8_size_2 (by decide) ?_
  refine wp_s3f iX8_size_4 ml_8_51 rfl rfl rfl (c_X8_isFromTo _ _ _ _ _) ?_
  refine wp_beq iX8_size_7 (fun c_7 => ?_) (fun c_7 => ?_)
  · refine wp_ic iX8_size_20 (by decide) ?_
    refine wp_ret iX8_size_21 rfl ?_
    (first | (rw [if_neg (by omega), if_neg (by omega)]; exact ⟨rfl, rfl⟩) | (rw [if_pos (by omega), if_pos (by omega)]; exact ⟨rfl, rfl⟩))
  · refine wp_il2 iX8_size_10 ?_
    refine wp_ic iX8_size_11 (by decide) ?_
    refine wp_bp iX8_size_12 (by decide) ?_
    refine wp_s3f iX8_size_14 ml_8_51 rfl rfl rfl (c_X8_isFromTo _ _ _ _ _) ?_
    refine wp_bne iX8_size_17 (fun c_17 => ?_) (fun c_17 => ?_)
    · refine wp_al0 iX8_size_22 ?_
      refine wp_gR iX8_size_23 fr_8_10 rfl rfl rfl ?_
      refine wp_gR iX8_size_26 fr_8_55 rfl rfl rfl ?_
      refine wp_il1 iX8_size_29 ?_
      refine wp_il2 iX8_size_30 ?_
      refine wp_v2v iX8_size_31 ml_8_59 rfl rfl rfl rfl (c_X0_renew _ _ _ _) ?_
      refine wp_al0 iX8_size_34 ?_
      refine wp_gR iX8_size_35 fr_8_10 rfl rfl rfl ?_
      refine wp_gR iX8_size_38 fr_8_65 rfl rfl rfl ?_
      refine wp_v0v iX8_size_41 ml_8_69 rfl rfl rfl rfl (c_X3_takeDown _ _) ?_
      refine wp_il1 iX8_size_44 ?_
      refine wp_il2 iX8_size_45 ?_
      refine wp_mul iX8_size_46 (hm (by omega)) ?_
      refine wp_ret iX8_size_47 rfl ?_
      (first | (rw [if_neg (by omega), if_neg (by omega)]; exact ⟨rfl, rfl⟩) | (rw [if_pos (by omega), if_pos (by omega)]; exact ⟨rfl, rfl⟩))
    · refine wp_ic iX8_size_20 (by decide) ?_
      refine wp_ret iX8_size_21 rfl ?_
      (first | (rw [if_neg (by omega), if_neg (by omega)]; exact ⟨rfl, rfl⟩) | (rw [if_pos (by omega), if_pos (by omega)]; exact ⟨rfl, rfl⟩))
theorem c_X8_cartoon (hM : hB M) (x y : Int) : cF L 3 mX8_cartoon [.inr 1, .inl x, .inl y] M (if (0 ≤ x ∧ x < M 3 0) ∧ 0 ≤ y ∧ y < M 3 1 then M 4 (12 * y + (M 3 0 - 1 - x)).toNat else -1) := by
  obtain ⟨h1, h2, h3, h4, h5⟩ := id hM
  refine cF_of rfl ?_
  change wp _ _ _ 0 [some (.inr 1), some (.inl x), some (.inl y), none] [] _ _
  refine wp_al0 iX8_cartoon_0 ?_
  refine wp_gR iX8_cartoon_1 fr_8_10 rfl rfl rfl ?_
  refine wp_gR iX8_cartoon_4 fr_8_55 rfl rfl rfl ?_
  refine wp_as3 iX8_cartoon_7 ?_
  refine wp_al3 iX8_cartoon_8 ?_
  refine wp_il1 iX8_cartoon_9 ?_
  refine wp_il2 iX8_cartoon_10 ?_
  refine wp_v2f iX8_cartoon_11 ml_8_94 rfl rfl rfl rfl (c_X0_hasSquare _ _ _ _) ?_
  refine wp_beq iX8_cartoon_14 (fun c_14 => ?_) (fun c_14 => ?_)
  · refine wp_ic iX8_cartoon_31 (by decide) ?_
    refine wp_ret iX8_cartoon_32 rfl ?_
    (first | (rw [if_neg (by omega)]; exact ⟨rfl, rfl⟩) | (rw [if_pos (by omega)]; exact ⟨rfl, rfl⟩))
  · refine wp_al3 iX8_cartoon_17 ?_
    refine wp_gR iX8_cartoon_18 fr_8_105 rfl rfl rfl ?_
    refine wp_al3 iX8_cartoon_21 ?_
    refine wp_il1 iX8_cartoon_22 ?_
    refine wp_il2 iX8_cartoon_23 ?_
    refine wp_v2f iX8_cartoon_24 ml_8_87 rfl rfl rfl rfl (c_X0_cellOfCartoon _ _ _ _ (by omega) (by omega) (by omega)) ?_
    refine wp_ia iX8_cartoon_27 rfl (by omega) ?_
    refine wp_goto iX8_cartoon_28 ?_
    refine wp_ret iX8_cartoon_32 rfl ?_
    (first | (rw [if_neg (by omega)]; exact ⟨rfl, rfl⟩) | (rw [if_pos (by omega)]; exact ⟨rfl, rfl⟩))
theorem c_X8_loom (hM : hB M) (x y : Int) : cF L 3 mX8_loom [.inr 1, .inl x, .inl y] M (if (0 ≤ x ∧ x < M 3 0) ∧ 0 ≤ y ∧ y < M 3 1 then M 4 (12 * y + x).toNat else -1) := by
  obtain ⟨h1, h2, h3, h4, h5⟩ := id hM
  refine cF_of rfl ?_
  change wp _ _ _ 0 [some (.inr 1), some (.inl x), some (.inl y), none] [] _ _
  refine wp_al0 iX8_loom_0 ?_
  refine wp_gR iX8_loom_1 fr_8_10 rfl rfl rfl ?_
  refine wp_gR iX8_loom_4 fr_8_55 rfl rfl rfl ?_
  refine wp_as3 iX8_loom_7 ?_
  refine wp_al3 iX8_loom_8 ?_
  refine wp_il1 iX8_loom_9 ?_
  refine wp_il2 iX8_loom_10 ?_
  refine wp_v2f iX8_loom_11 ml_8_94 rfl rfl rfl rfl (c_X0_hasSquare _ _ _ _) ?_
  refine wp_beq iX8_loom_14 (fun c_14 => ?_) (fun c_14 => ?_)
  · refine wp_ic iX8_loom_30 (by decide) ?_
    refine wp_ret iX8_loom_31 rfl ?_
    (first | (rw [if_neg (by omega)]; exact ⟨rfl, rfl⟩) | (rw [if_pos (by omega)]; exact ⟨rfl, rfl⟩))
  · refine wp_al3 iX8_loom_17 ?_
    refine wp_gR iX8_loom_18 fr_8_105 rfl rfl rfl ?_
    refine wp_il1 iX8_loom_21 ?_
    refine wp_il2 iX8_loom_22 ?_
    refine wp_s2f iX8_loom_23 ml_8_109 rfl rfl rfl (c_X8_cellOf _ _ _ _ (by omega)) ?_
    refine wp_ia iX8_loom_26 rfl (by omega) ?_
    refine wp_goto iX8_loom_27 ?_
    refine wp_ret iX8_loom_31 rfl ?_
    (first | (rw [if_neg (by omega)]; exact ⟨rfl, rfl⟩) | (rw [if_pos (by omega)]; exact ⟨rfl, rfl⟩))
theorem c_X8_rule (x y : Int) : cG L 2 mX8_rule [.inr 1, .inl x, .inl y] M (if x = 0 ∧ 0 ≤ y ∧ y ≤ 10 then M 1 3 else if x = 1 ∧ 1 ≤ y ∧ y ≤ 10 then M 1 4 else -1) (if x = 0 ∧ 0 ≤ y ∧ y ≤ 10 then ab_up M 1 3 y else if x = 1 ∧ 1 ≤ y ∧ y ≤ 10 then ab_up M 1 4 y else M) := by
  refine cG_of rfl ?_
  change wp _ _ _ 0 [some (.inr 1), some (.inl x), some (.inl y), none] [] _ _
  refine wp_il1 iX8_rule_0 ?_
  refine wp_zne iX8_rule_1 (fun c_1 => ?_) (fun c_1 => ?_)
  · refine wp_il1 iX8_rule_26 ?_
    refine wp_ic iX8_rule_27 (by decide) ?_
    refine wp_cne iX8_rule_28 (fun c_28 => ?_) (fun c_28 => ?_)
    · refine wp_ic iX8_rule_53 (by decide) ?_
      refine wp_ret iX8_rule_54 rfl ?_
      (refine ⟨?_, ?_⟩ <;> (repeat' split) <;> first | rfl | (exfalso; omega))
    · refine wp_il2 iX8_rule_31 ?_
      refine wp_ic iX8_rule_32 (by decide) ?_
      refine wp_bp iX8_rule_33 (by decide) ?_
      refine wp_s3f iX8_rule_35 ml_8_51 rfl rfl rfl (c_X8_isFromTo _ _ _ _ _) ?_
      refine wp_beq iX8_rule_38 (fun c_38 => ?_) (fun c_38 => ?_)
      · refine wp_ic iX8_rule_53 (by decide) ?_
        refine wp_ret iX8_rule_54 rfl ?_
        (refine ⟨?_, ?_⟩ <;> (repeat' split) <;> first | rfl | (exfalso; omega))
      · refine wp_al0 iX8_rule_41 ?_
        refine wp_gI iX8_rule_42 fi_8_27 rfl ?_
        refine wp_is3 iX8_rule_45 ?_
        refine wp_al0 iX8_rule_46 ?_
        refine wp_il2 iX8_rule_47 ?_
        refine wp_pI iX8_rule_48 fp_8_27 rfl ?_
        refine wp_il3 iX8_rule_51 ?_
        refine wp_ret iX8_rule_52 rfl ?_
        (refine ⟨?_, ?_⟩ <;> (repeat' split) <;> first | rfl | (exfalso; omega))
  · refine wp_il2 iX8_rule_4 ?_
    refine wp_ic iX8_rule_5 (by decide) ?_
    refine wp_bp iX8_rule_6 (by decide) ?_
    refine wp_s3f iX8_rule_8 ml_8_51 rfl rfl rfl (c_X8_isFromTo _ _ _ _ _) ?_
    refine wp_beq iX8_rule_11 (fun c_11 => ?_) (fun c_11 => ?_)
    · refine wp_il1 iX8_rule_26 ?_
      refine wp_ic iX8_rule_27 (by decide) ?_
      refine wp_cne iX8_rule_28 (fun c_28 => ?_) (fun c_28 => ?_)
      · refine wp_ic iX8_rule_53 (by decide) ?_
        refine wp_ret iX8_rule_54 rfl ?_
        (refine ⟨?_, ?_⟩ <;> (repeat' split) <;> first | rfl | (exfalso; omega))
      · refine wp_il2 iX8_rule_31 ?_
        refine wp_ic iX8_rule_32 (by decide) ?_
        refine wp_bp iX8_rule_33 (by decide) ?_
        refine wp_s3f iX8_rule_35 ml_8_51 rfl rfl rfl (c_X8_isFromTo _ _ _ _ _) ?_
        refine wp_beq iX8_rule_38 (fun c_38 => ?_) (fun c_38 => ?_)
        · refine wp_ic iX8_rule_53 (by decide) ?_
          refine wp_ret iX8_rule_54 rfl ?_
          (refine ⟨?_, ?_⟩ <;> (repeat' split) <;> first | rfl | (exfalso; omega))
        · refine wp_al0 iX8_rule_41 ?_
          refine wp_gI iX8_rule_42 fi_8_27 rfl ?_
          refine wp_is3 iX8_rule_45 ?_
          refine wp_al0 iX8_rule_46 ?_
          refine wp_il2 iX8_rule_47 ?_
          refine wp_pI iX8_rule_48 fp_8_27 rfl ?_
          refine wp_il3 iX8_rule_51 ?_
          refine wp_ret iX8_rule_52 rfl ?_
          (refine ⟨?_, ?_⟩ <;> (repeat' split) <;> first | rfl | (exfalso; omega))
    · refine wp_al0 iX8_rule_14 ?_
      refine wp_gI iX8_rule_15 fi_8_23 rfl ?_
      refine wp_is3 iX8_rule_18 ?_
      refine wp_al0 iX8_rule_19 ?_
      refine wp_il2 iX8_rule_20 ?_
      refine wp_pI iX8_rule_21 fp_8_23 rfl ?_
      refine wp_il3 iX8_rule_24 ?_
      refine wp_ret iX8_rule_25 rfl ?_
      (refine ⟨?_, ?_⟩ <;> (repeat' split) <;> first | rfl | (exfalso; omega))
theorem c_X8_slit (hM : hB M) (x y : Int) : cF L 5 mX8_slit [.inr 1, .inl x, .inl y] M (if (0 ≤ x ∧ x < M 3 0 - 1) ∧ 0 ≤ y ∧ y < M 3 1 then slt (uC (cX M) x) (M 3 1).toNat y.toNat else -1) := by
  obtain ⟨h1, h2, h3, h4, h5⟩ := id hM
  refine cF_of rfl ?_
  change wp _ _ _ 0 [some (.inr 1), some (.inl x), some (.inl y), none] [] _ _
  refine wp_al0 iX8_slit_0 ?_
  refine wp_gR iX8_slit_1 fr_8_10 rfl rfl rfl ?_
  refine wp_gR iX8_slit_4 fr_8_55 rfl rfl rfl ?_
  refine wp_as3 iX8_slit_7 ?_
  refine wp_al3 iX8_slit_8 ?_
  refine wp_il1 iX8_slit_9 ?_
  refine wp_il2 iX8_slit_10 ?_
  refine wp_v2f iX8_slit_11 ml_8_94 rfl rfl rfl rfl (c_X0_hasSquare _ _ _ _) ?_
  refine wp_beq iX8_slit_14 (fun c_14 => ?_) (fun c_14 => ?_)
  · refine wp_ic iX8_slit_27 (by decide) ?_
    refine wp_ret iX8_slit_28 rfl ?_
    (first | (rw [if_neg (by omega)]; exact ⟨rfl, rfl⟩) | (rw [if_pos (by omega)]; exact ⟨rfl, rfl⟩))
  · refine wp_il1 iX8_slit_17 ?_
    refine wp_al3 iX8_slit_18 ?_
    refine wp_gI iX8_slit_19 fi_8_74 rfl ?_
    refine wp_ic iX8_slit_22 (by decide) ?_
    refine wp_sub iX8_slit_23 (by omega) ?_
    refine wp_cne iX8_slit_24 (fun c_24 => ?_) (fun c_24 => ?_)
    · refine wp_al3 iX8_slit_29 ?_
      refine wp_il1 iX8_slit_30 ?_
      refine wp_il2 iX8_slit_31 ?_
      refine wp_v2f iX8_slit_32 ml_8_119 rfl rfl rfl rfl (c_X0_slitLength L M hM x y (by omega) (by omega)) ?_
      refine wp_ret iX8_slit_35 rfl ?_
      (first | (rw [if_neg (by omega)]; exact ⟨rfl, rfl⟩) | (rw [if_pos (by omega)]; exact ⟨rfl, rfl⟩))
    · refine wp_ic iX8_slit_27 (by decide) ?_
      refine wp_ret iX8_slit_28 rfl ?_
      (first | (rw [if_neg (by omega)]; exact ⟨rfl, rfl⟩) | (rw [if_pos (by omega)]; exact ⟨rfl, rfl⟩))
theorem c_X8_face (hM : hB M) (x y z : Int) (hz : z = 0 ∨ z = 1) : cG L 3 mX8_face [.inr 1, .inl x, .inl y, .inl z] M
    (if (0 ≤ x ∧ x < M 3 0) ∧ 0 ≤ y ∧ y < M 3 1 then (if M 4 (12 * y + (M 3 0 - 1 - x)).toNat / 8 = z then 0 else 1) else -1)
    (if (0 ≤ x ∧ x < M 3 0) ∧ 0 ≤ y ∧ y < M 3 1 then (if M 4 (12 * y + (M 3 0 - 1 - x)).toNat / 8 = z then M else mDn (ab_up M 4 (12 * y + (M 3 0 - 1 - x)).toNat (M 4 (12 * y + (M 3 0 - 1 - x)).toNat % 8 + 8 * (1 - M 4 (12 * y + (M 3 0 - 1 - x)).toNat / 8)))) else M) := by
  obtain ⟨h1, h2, h3, h4, h5⟩ := id hM
  have hv := h5 (12 * y + (M 3 0 - 1 - x)).toNat
  refine cG_of rfl ?_
  change wp _ _ _ 0 [some (.inr 1), some (.inl x), some (.inl y), some (.inl z), none, none] [] _ _
  refine wp_al0 iX8_face_0 ?_
  refine wp_gR iX8_face_1 fr_8_10 rfl rfl rfl ?_
  refine wp_gR iX8_face_4 fr_8_55 rfl rfl rfl ?_
  refine wp_as4 iX8_face_7 ?_
  refine wp_al4 iX8_face_9 ?_
  refine wp_il1 iX8_face_11 ?_
  refine wp_il2 iX8_face_12 ?_
  refine wp_v2f iX8_face_13 ml_8_94 rfl rfl rfl rfl (c_X0_hasSquare _ _ _ _) ?_
  refine wp_bne iX8_face_16 (fun c_16 => ?_) (fun c_16 => ?_)
  · rw [if_pos c_16, if_pos c_16]
    refine wp_al4 iX8_face_21 ?_
    refine wp_il1 iX8_face_23 ?_
    refine wp_il2 iX8_face_24 ?_
    refine wp_v2f iX8_face_25 ml_8_87 rfl rfl rfl rfl (c_X0_cellOfCartoon _ _ _ _ (by omega) (by omega) (by omega)) ?_
    refine wp_is5 iX8_face_28 ?_
    refine wp_al4 iX8_face_30 ?_
    refine wp_il5 iX8_face_32 ?_
    refine wp_v1f iX8_face_34 ml_8_98 rfl rfl rfl rfl (c_X0_hasFace L M (12 * y + (M 3 0 - 1 - x)) (by omega) hv) ?_
    refine wp_il3 iX8_face_37 ?_
    have e : (if 8 ≤ M 4 (12 * y + (M 3 0 - 1 - x)).toNat then (1 : Int) else 0) = M 4 (12 * y + (M 3 0 - 1 - x)).toNat / 8 := by split <;> omega
    rw [e]
    refine wp_cne iX8_face_38 (fun c_38 => ?_) (fun c_38 => ?_)
    · refine wp_al4 iX8_face_43 ?_
      refine wp_il5 iX8_face_45 ?_
      refine wp_v1v iX8_face_47 ml_8_101 rfl rfl rfl rfl (c_X0_turnFace L M (12 * y + (M 3 0 - 1 - x)) (by omega) hv) ?_
      refine wp_al0 iX8_face_50 ?_
      refine wp_gR iX8_face_51 fr_8_10 rfl rfl rfl ?_
      refine wp_gR iX8_face_54 fr_8_65 rfl rfl rfl ?_
      refine wp_v0v iX8_face_57 ml_8_69 rfl rfl rfl rfl (c_X3_takeDown _ _) ?_
      refine wp_ic iX8_face_60 (by decide) ?_
      refine wp_ret iX8_face_61 rfl ?_
      (first | (rw [if_pos (by assumption), if_pos (by assumption)]; exact ⟨rfl, rfl⟩) | (rw [if_neg (by assumption), if_neg (by assumption)]; exact ⟨rfl, rfl⟩))
    · refine wp_ic iX8_face_41 (by decide) ?_
      refine wp_ret iX8_face_42 rfl ?_
      (first | (rw [if_pos (by assumption), if_pos (by assumption)]; exact ⟨rfl, rfl⟩) | (rw [if_neg (by assumption), if_neg (by assumption)]; exact ⟨rfl, rfl⟩))
  · rw [if_neg c_16, if_neg c_16]
    refine wp_ic iX8_face_19 (by decide) ?_
    refine wp_ret iX8_face_20 rfl ?_
    (exact ⟨rfl, rfl⟩)
theorem stp_bd {what S n t : Int} (hn : 0 ≤ n ∧ n ≤ 10) (b : Int) (hb : 10 ≤ b) (ht : 0 ≤ t ∧ t ≤ b) : 0 ≤ stp what S n t ∧ stp what S n t ≤ b + 10 := by
  unfold stp
  repeat' split
  all_goals omega
theorem c_X8_slits (hM : hB M) (what : Int) : cF L 4 mX8_slits [.inr 1, .inl what] M (if 0 ≤ what ∧ what ≤ 3 then sls what (M 1 3) (M 3 0).toNat (M 3 1).toNat (cX M) else -1) := by
  obtain ⟨h1, h2, h3, h4, h5⟩ := id hM
  refine cF_of rfl ?_
  change wp _ _ _ 0 [some (.inr 1), some (.inl what), none, none, none, none] [] _ _
  refine wp_il1 iX8_slits_0 ?_
  refine wp_ic iX8_slits_1 (by decide) ?_
  refine wp_ic iX8_slits_2 (by decide) ?_
  refine wp_s3f iX8_slits_3 ml_8_51 rfl rfl rfl (c_X8_isFromTo _ _ _ _ _) ?_
  refine wp_bne iX8_slits_6 (fun c_6 => ?_) (fun c_6 => ?_)
  · rw [if_pos c_6]
    refine wp_al0 iX8_slits_11 ?_
    refine wp_gR iX8_slits_12 fr_8_10 rfl rfl rfl ?_
    refine wp_gR iX8_slits_15 fr_8_55 rfl rfl rfl ?_
    refine wp_as2 iX8_slits_18 ?_
    refine wp_ic iX8_slits_19 (by decide) ?_
    refine wp_is3 iX8_slits_20 ?_
    refine wp_ic iX8_slits_21 (by decide) ?_
    refine wp_is4 iX8_slits_22 ?_
    have key : ∀ (n : Nat) (w t : Int), (M 3 0 - 1 - w).toNat = n → 0 ≤ w → w ≤ M 3 0 - 1 → t = it (slr what (M 1 3) (M 3 1).toNat (cX M)) 0 w.toNat → (0 ≤ t ∧ t ≤ 10 + 100 * w) → ∀ v5 : Option ab_V, wp L 3 mX8_slits 24 [some (.inr 1), some (.inl what), some (.inr 3), some (.inl t), some (.inl w), v5] [] M (fun r M1 => r = some (.inl (sls what (M 1 3) (M 3 0).toNat (M 3 1).toNat (cX M))) ∧ M1 = M) := by
      intro n
      induction n using Nat.strongRecOn with
      | ind n ih =>
        intro w t hn hw0 hw1 ht htb v5
        refine wp_il4 iX8_slits_24 ?_
        refine wp_al2 iX8_slits_26 ?_
        refine wp_gI iX8_slits_27 fi_8_74 rfl ?_
        refine wp_ic iX8_slits_30 (by decide) ?_
        refine wp_sub iX8_slits_31 (by omega) ?_
        refine wp_cge iX8_slits_32 (fun c_32 => ?_) (fun c_32 => ?_)
        · refine wp_il3 iX8_slits_74 ?_
          refine wp_ret iX8_slits_75 rfl ?_
          exact ⟨by rw [ht, show w = M 3 0 - 1 by omega]; unfold sls; rw [show (M 3 0 - 1).toNat = (M 3 0).toNat - 1 by omega], rfl⟩
        · refine wp_ic iX8_slits_35 (by decide) ?_
          refine wp_is5 iX8_slits_36 ?_
          have key2 : ∀ (j : Nat) (p u : Int), (M 3 1 - p).toNat = j → 0 ≤ p → p ≤ M 3 1 → u = it (fun b q => stp what (M 1 3) (sf (uC (cX M) ((w.toNat : Nat) : Int)) (M 3 1).toNat q) b) t p.toNat → (0 ≤ u ∧ u ≤ 10 + 100 * w + 10 * p) → wp L 3 mX8_slits 38 [some (.inr 1), some (.inl what), some (.inr 3), some (.inl u), some (.inl w), some (.inl p)] [] M (fun r M1 => r = some (.inl (sls what (M 1 3) (M 3 0).toNat (M 3 1).toNat (cX M))) ∧ M1 = M) := by
            intro j
            induction j using Nat.strongRecOn with
            | ind j ih2 =>
              intro p u hj hp0 hp1 hu hub
              have hsf := sf_bd (uC (cX M) w) (M 3 1).toNat p.toNat
              refine wp_il5 iX8_slits_38 ?_
              refine wp_al2 iX8_slits_40 ?_
              refine wp_gI iX8_slits_41 fi_8_80 rfl ?_
              refine wp_cge iX8_slits_44 (fun c_44 => ?_) (fun c_44 => ?_)
              · refine wp_ii4 iX8_slits_68 (by omega) ?_
                refine wp_goto iX8_slits_71 ?_
                refine ih _ (by omega) (w + 1) u rfl (by omega) (by omega) ?_ (by omega) _
                rw [it_up _ _ hw0, ← ht, hu, show p = M 3 1 by omega]
                rfl
              · have hst := stp_bd (what := what) (S := M 1 3) (n := sf (uC (cX M) w) (M 3 1).toNat p.toNat) (t := u) (by omega) (10 + 100 * w + 10 * p) (by omega) hub
                refine wp_al0 iX8_slits_47 ?_
                refine wp_il1 iX8_slits_48 ?_
                refine wp_il3 iX8_slits_49 ?_
                refine wp_al2 iX8_slits_50 ?_
                refine wp_il4 iX8_slits_51 ?_
                refine wp_il5 iX8_slits_53 ?_
                refine wp_v2f iX8_slits_55 ml_8_112 rfl rfl rfl rfl (c_X0_lengthOfSlitFrom L M hM w p (by omega) (by omega)) ?_
                refine wp_v3f iX8_slits_58 ml_8_115 rfl rfl rfl rfl (c_X8_addSlit L M what u _ c_6 (by omega) (by omega)) ?_
                refine wp_is3 iX8_slits_61 ?_
                refine wp_ii5 iX8_slits_62 (by omega) ?_
                refine wp_goto iX8_slits_65 ?_
                refine ih2 _ (by omega) (p + 1) _ rfl (by omega) (by omega) ?_ (by omega)
                rw [it_up _ _ hp0, ← hu, toNat_cast hw0]
          exact key2 _ 0 t rfl (by omega) (by omega) rfl (by omega)
    exact key _ 0 0 rfl (by omega) (by omega) rfl (by omega) _
  · rw [if_neg c_6]
    refine wp_ic iX8_slits_9 (by decide) ?_
    refine wp_ret iX8_slits_10 rfl ?_
    (exact ⟨rfl, rfl⟩)
end CartX
