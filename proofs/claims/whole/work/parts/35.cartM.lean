/-! ===== the reference: THE CARTOON (cell 56; colours 57, faces 58) ===== -/
def hM (M : ab_Me) : Prop := 1 ≤ M 56 0 ∧ M 56 0 ≤ 12 ∧ 1 ≤ M 56 1 ∧ M 56 1 ≤ 10 ∧ (∀ k, 0 ≤ M 57 k ∧ M 57 k < 8) ∧ ∀ k, M 58 k = 0 ∨ M 58 k = 1
theorem up_id (M : ab_Me) (a k : Nat) : ab_up M a k (M a k) = M := by
  rw [up_rw]
  have e : ab_u1 (M a) k (M a k) = M a := by
    funext j
    unfold ab_u1
    by_cases hj : j = k
    · rw [if_pos hj, hj]
    · rw [if_neg hj]
  rw [e, rw_self]
section CartM
variable (L : Nat) (M : ab_Me)
theorem c_X9_in (x a b : Int) : cF L 1 mX9_in [.inl x, .inl a, .inl b] M (if a ≤ x ∧ x ≤ b then 1 else 0) := by
  refine cF_of rfl ?_
  change wp _ _ _ 0 [some (.inl x), some (.inl a), some (.inl b)] [] _ _
  refine wp_il0 iX9_in_0 ?_
  refine wp_il1 iX9_in_1 ?_
  refine wp_clt iX9_in_2 (fun c_2 => ?_) (fun c_2 => ?_)
  · refine wp_ic iX9_in_14 (by decide) ?_
    refine wp_retb iX9_in_15 rfl (by decide) ?_
    (simp; omega)
  · refine wp_il0 iX9_in_5 ?_
    refine wp_il2 iX9_in_6 ?_
    refine wp_cgt iX9_in_7 (fun c_7 => ?_) (fun c_7 => ?_)
    · refine wp_ic iX9_in_14 (by decide) ?_
      refine wp_retb iX9_in_15 rfl (by decide) ?_
      (simp; omega)
    · refine wp_ic iX9_in_10 (by decide) ?_
      refine wp_goto iX9_in_11 ?_
      refine wp_retb iX9_in_15 rfl (by decide) ?_
      (simp; omega)
theorem c_X9_isSquare (h : hM M) (x y : Int) : cF L 2 mX9_isSquare [.inr 56, .inl x, .inl y] M (if (0 ≤ x ∧ x < M 56 0) ∧ 0 ≤ y ∧ y < M 56 1 then 1 else 0) := by
  obtain ⟨h1, h2, h3, h4, h5, h6⟩ := id h
  refine cF_of rfl ?_
  change wp _ _ _ 0 [some (.inr 56), some (.inl x), some (.inl y)] [] _ _
  refine wp_il1 iX9_isSquare_0 ?_
  refine wp_ic iX9_isSquare_1 (by decide) ?_
  refine wp_al0 iX9_isSquare_2 ?_
  refine wp_gI iX9_isSquare_3 fi_9_7 rfl ?_
  refine wp_ic iX9_isSquare_6 (by decide) ?_
  refine wp_sub iX9_isSquare_7 (by omega) ?_
  refine wp_s3f iX9_isSquare_8 ml_9_111 rfl rfl rfl (c_X9_in _ _ _ _ _) ?_
  refine wp_beq iX9_isSquare_11 (fun c_11 => ?_) (fun c_11 => ?_)
  · refine wp_ic iX9_isSquare_32 (by decide) ?_
    refine wp_retb iX9_isSquare_33 rfl (by decide) ?_
    (simp; omega)
  · refine wp_il2 iX9_isSquare_14 ?_
    refine wp_ic iX9_isSquare_15 (by decide) ?_
    refine wp_al0 iX9_isSquare_16 ?_
    refine wp_gI iX9_isSquare_17 fi_9_13 rfl ?_
    refine wp_ic iX9_isSquare_20 (by decide) ?_
    refine wp_sub iX9_isSquare_21 (by omega) ?_
    refine wp_s3f iX9_isSquare_22 ml_9_111 rfl rfl rfl (c_X9_in _ _ _ _ _) ?_
    refine wp_beq iX9_isSquare_25 (fun c_25 => ?_) (fun c_25 => ?_)
    · refine wp_ic iX9_isSquare_32 (by decide) ?_
      refine wp_retb iX9_isSquare_33 rfl (by decide) ?_
      (simp; omega)
    · refine wp_ic iX9_isSquare_28 (by decide) ?_
      refine wp_goto iX9_isSquare_29 ?_
      refine wp_retb iX9_isSquare_33 rfl (by decide) ?_
      (simp; omega)
theorem c_X9_spot (h : hM M) (x y : Int) (hx : -100 ≤ x ∧ x ≤ 100) (hy : -100 ≤ y ∧ y ≤ 100) : cF L 1 mX9_spot [.inr 56, .inl x, .inl y] M (12 * y + (M 56 0 - 1 - x)) := by
  obtain ⟨h1, h2, h3, h4, h5, h6⟩ := id h
  refine cF_of rfl ?_
  change wp _ _ _ 0 [some (.inr 56), some (.inl x), some (.inl y)] [] _ _
  refine wp_bp iX9_spot_0 (by decide) ?_
  refine wp_il2 iX9_spot_2 ?_
  refine wp_mul iX9_spot_3 (by omega) ?_
  refine wp_al0 iX9_spot_4 ?_
  refine wp_gI iX9_spot_5 fi_9_7 rfl ?_
  refine wp_add iX9_spot_8 (by omega) ?_
  refine wp_ic iX9_spot_9 (by decide) ?_
  refine wp_sub iX9_spot_10 (by omega) ?_
  refine wp_il1 iX9_spot_11 ?_
  refine wp_sub iX9_spot_12 (by omega) ?_
  refine wp_ret iX9_spot_13 rfl ?_
  (exact ⟨by rw [show 12 * y + M 56 0 - 1 - x = 12 * y + (M 56 0 - 1 - x) by omega], rfl⟩)
theorem c_X9_toldAt (h : hM M) (k : Int) (hk : 0 ≤ k ∧ k < 120) : cF L 1 mX9_toldAt [.inr 56, .inl k] M (M 57 k.toNat + 8 * M 58 k.toNat) := by
  obtain ⟨h1, h2, h3, h4, h5, h6⟩ := id h
  have g5 := h5 k.toNat
  have g6 := h6 k.toNat
  refine cF_of rfl ?_
  change wp _ _ _ 0 [some (.inr 56), some (.inl k)] [] _ _
  refine wp_al0 iX9_toldAt_0 ?_
  refine wp_gR iX9_toldAt_1 fr_9_16 rfl rfl rfl ?_
  refine wp_il1 iX9_toldAt_4 ?_
  refine wp_ia iX9_toldAt_5 rfl (by omega) ?_
  refine wp_al0 iX9_toldAt_6 ?_
  refine wp_gR iX9_toldAt_7 fr_9_20 rfl rfl rfl ?_
  refine wp_il1 iX9_toldAt_10 ?_
  refine wp_ba iX9_toldAt_11 rfl rfl (by omega) ?_
  refine wp_zeq iX9_toldAt_12 (fun c_12 => ?_) (fun c_12 => ?_)
  · refine wp_ic iX9_toldAt_20 (by decide) ?_
    refine wp_add iX9_toldAt_21 (by omega) ?_
    refine wp_ret iX9_toldAt_22 rfl ?_
    (refine ⟨?_, rfl⟩; congr 2; omega)
  · refine wp_bp iX9_toldAt_15 (by decide) ?_
    refine wp_goto iX9_toldAt_17 ?_
    refine wp_add iX9_toldAt_21 (by omega) ?_
    refine wp_ret iX9_toldAt_22 rfl ?_
    (refine ⟨?_, rfl⟩; congr 2; omega)
theorem c_X9_cartoon (h : hM M) (x y : Int) : cF L 3 mX9_cartoon [.inr 56, .inl x, .inl y] M (if (0 ≤ x ∧ x < M 56 0) ∧ 0 ≤ y ∧ y < M 56 1 then M 57 (12 * y + (M 56 0 - 1 - x)).toNat + 8 * M 58 (12 * y + (M 56 0 - 1 - x)).toNat else -1) := by
  obtain ⟨h1, h2, h3, h4, h5, h6⟩ := id h
  refine cF_of rfl ?_
  change wp _ _ _ 0 [some (.inr 56), some (.inl x), some (.inl y)] [] _ _
  refine wp_al0 iX9_cartoon_0 ?_
  refine wp_il1 iX9_cartoon_1 ?_
  refine wp_il2 iX9_cartoon_2 ?_
  refine wp_v2f iX9_cartoon_3 ml_9_118 rfl rfl rfl rfl (c_X9_isSquare L M h x y) ?_
  refine wp_beq iX9_cartoon_6 (fun c_6 => ?_) (fun c_6 => ?_)
  · refine wp_ic iX9_cartoon_22 (by decide) ?_
    refine wp_ret iX9_cartoon_23 rfl ?_
    (refine ⟨?_, ?_⟩ <;> (repeat' split) <;> first | rfl | (exfalso; omega))
  · refine wp_al0 iX9_cartoon_9 ?_
    refine wp_al0 iX9_cartoon_10 ?_
    refine wp_il1 iX9_cartoon_11 ?_
    refine wp_il2 iX9_cartoon_12 ?_
    refine wp_v2f iX9_cartoon_13 ml_9_122 rfl rfl rfl rfl (c_X9_spot L M h x y (by omega) (by omega)) ?_
    refine wp_v1f iX9_cartoon_16 ml_9_126 rfl rfl rfl rfl (c_X9_toldAt L M h _ (by omega)) ?_
    refine wp_goto iX9_cartoon_19 ?_
    refine wp_ret iX9_cartoon_23 rfl ?_
    (refine ⟨?_, ?_⟩ <;> (repeat' split) <;> first | rfl | (exfalso; omega))
theorem c_X9_loom (h : hM M) (x y : Int) : cF L 3 mX9_loom [.inr 56, .inl x, .inl y] M (if (0 ≤ x ∧ x < M 56 0) ∧ 0 ≤ y ∧ y < M 56 1 then M 57 (12 * y + x).toNat + 8 * M 58 (12 * y + x).toNat else -1) := by
  obtain ⟨h1, h2, h3, h4, h5, h6⟩ := id h
  refine cF_of rfl ?_
  change wp _ _ _ 0 [some (.inr 56), some (.inl x), some (.inl y)] [] _ _
  refine wp_al0 iX9_loom_0 ?_
  refine wp_il1 iX9_loom_1 ?_
  refine wp_il2 iX9_loom_2 ?_
  refine wp_v2f iX9_loom_3 ml_9_118 rfl rfl rfl rfl (c_X9_isSquare L M h x y) ?_
  refine wp_beq iX9_loom_6 (fun c_6 => ?_) (fun c_6 => ?_)
  · refine wp_ic iX9_loom_22 (by decide) ?_
    refine wp_ret iX9_loom_23 rfl ?_
    (refine ⟨?_, ?_⟩ <;> (repeat' split) <;> first | rfl | (exfalso; omega))
  · refine wp_al0 iX9_loom_9 ?_
    refine wp_bp iX9_loom_10 (by decide) ?_
    refine wp_il2 iX9_loom_12 ?_
    refine wp_mul iX9_loom_13 (by omega) ?_
    refine wp_il1 iX9_loom_14 ?_
    refine wp_add iX9_loom_15 (by omega) ?_
    refine wp_v1f iX9_loom_16 ml_9_126 rfl rfl rfl rfl (c_X9_toldAt L M h _ (by omega)) ?_
    refine wp_goto iX9_loom_19 ?_
    refine wp_ret iX9_loom_23 rfl ?_
    (refine ⟨?_, ?_⟩ <;> (repeat' split) <;> first | rfl | (exfalso; omega))
theorem c_X9_rule (x y : Int) : cG L 2 mX9_rule [.inr 56, .inl x, .inl y] M (if x = 0 ∧ 0 ≤ y ∧ y ≤ 10 then M 56 10 else if x = 1 ∧ 1 ≤ y ∧ y ≤ 10 then M 56 11 else -1) (if x = 0 ∧ 0 ≤ y ∧ y ≤ 10 then ab_up M 56 10 y else if x = 1 ∧ 1 ≤ y ∧ y ≤ 10 then ab_up M 56 11 y else M) := by
  have e1 : ∀ y : Int, ab_up (ab_up M 56 10 y) 56 11 (ab_up M 56 10 y 56 11) = ab_up M 56 10 y := fun y => up_id _ _ _
  have e2 : ∀ y : Int, ab_up (ab_up M 56 10 (M 56 10)) 56 11 y = ab_up M 56 11 y := fun y => by rw [up_id]
  refine cG_of rfl ?_
  change wp _ _ _ 0 [some (.inr 56), some (.inl x), some (.inl y), none] [] _ _
  refine wp_il1 iX9_rule_0 ?_
  refine wp_ic iX9_rule_1 (by decide) ?_
  refine wp_ic iX9_rule_2 (by decide) ?_
  refine wp_s3f iX9_rule_3 ml_9_111 rfl rfl rfl (c_X9_in _ _ _ _ _) ?_
  refine wp_beq iX9_rule_6 (fun c_6 => ?_) (fun c_6 => ?_)
  · refine wp_ic iX9_rule_19 (by decide) ?_
    refine wp_ret iX9_rule_20 rfl ?_
    (refine ⟨?_, ?_⟩ <;> (repeat' split) <;> first | rfl | (exfalso; omega) | exact e1 _ | exact e2 _)
  · refine wp_il2 iX9_rule_9 ?_
    refine wp_il1 iX9_rule_10 ?_
    refine wp_bp iX9_rule_11 (by decide) ?_
    refine wp_s3f iX9_rule_13 ml_9_111 rfl rfl rfl (c_X9_in _ _ _ _ _) ?_
    refine wp_bne iX9_rule_16 (fun c_16 => ?_) (fun c_16 => ?_)
    · refine wp_il1 iX9_rule_21 ?_
      refine wp_zne iX9_rule_22 (fun c_22 => ?_) (fun c_22 => ?_)
      · refine wp_al0 iX9_rule_32 ?_
        refine wp_gI iX9_rule_33 fi_9_39 rfl ?_
        refine wp_is3 iX9_rule_36 ?_
        refine wp_al0 iX9_rule_37 ?_
        refine wp_il1 iX9_rule_38 ?_
        refine wp_zne iX9_rule_39 (fun c_39 => ?_) (fun c_39 => ?_)
        · refine wp_al0 iX9_rule_46 ?_
          refine wp_gI iX9_rule_47 fi_9_36 rfl ?_
          refine wp_pI iX9_rule_50 fp_9_36 rfl ?_
          refine wp_al0 iX9_rule_53 ?_
          refine wp_il1 iX9_rule_54 ?_
          refine wp_ic iX9_rule_55 (by decide) ?_
          refine wp_cne iX9_rule_56 (fun c_56 => ?_) (fun c_56 => ?_)
          · refine wp_al0 iX9_rule_63 ?_
            refine wp_gI iX9_rule_64 fi_9_39 rfl ?_
            refine wp_pI iX9_rule_67 fp_9_39 rfl ?_
            refine wp_il3 iX9_rule_70 ?_
            refine wp_ret iX9_rule_71 rfl ?_
            (refine ⟨?_, ?_⟩ <;> (repeat' split) <;> first | rfl | (exfalso; omega) | exact e1 _ | exact e2 _)
          · refine wp_il2 iX9_rule_59 ?_
            refine wp_goto iX9_rule_60 ?_
            refine wp_pI iX9_rule_67 fp_9_39 rfl ?_
            refine wp_il3 iX9_rule_70 ?_
            refine wp_ret iX9_rule_71 rfl ?_
            (refine ⟨?_, ?_⟩ <;> (repeat' split) <;> first | rfl | (exfalso; omega) | exact e1 _ | exact e2 _)
        · refine wp_il2 iX9_rule_42 ?_
          refine wp_goto iX9_rule_43 ?_
          refine wp_pI iX9_rule_50 fp_9_36 rfl ?_
          refine wp_al0 iX9_rule_53 ?_
          refine wp_il1 iX9_rule_54 ?_
          refine wp_ic iX9_rule_55 (by decide) ?_
          refine wp_cne iX9_rule_56 (fun c_56 => ?_) (fun c_56 => ?_)
          · refine wp_al0 iX9_rule_63 ?_
            refine wp_gI iX9_rule_64 fi_9_39 rfl ?_
            refine wp_pI iX9_rule_67 fp_9_39 rfl ?_
            refine wp_il3 iX9_rule_70 ?_
            refine wp_ret iX9_rule_71 rfl ?_
            (refine ⟨?_, ?_⟩ <;> (repeat' split) <;> first | rfl | (exfalso; omega) | exact e1 _ | exact e2 _)
          · refine wp_il2 iX9_rule_59 ?_
            refine wp_goto iX9_rule_60 ?_
            refine wp_pI iX9_rule_67 fp_9_39 rfl ?_
            refine wp_il3 iX9_rule_70 ?_
            refine wp_ret iX9_rule_71 rfl ?_
            (refine ⟨?_, ?_⟩ <;> (repeat' split) <;> first | rfl | (exfalso; omega) | exact e1 _ | exact e2 _)
      · refine wp_al0 iX9_rule_25 ?_
        refine wp_gI iX9_rule_26 fi_9_36 rfl ?_
        refine wp_goto iX9_rule_29 ?_
        refine wp_is3 iX9_rule_36 ?_
        refine wp_al0 iX9_rule_37 ?_
        refine wp_il1 iX9_rule_38 ?_
        refine wp_zne iX9_rule_39 (fun c_39 => ?_) (fun c_39 => ?_)
        · refine wp_al0 iX9_rule_46 ?_
          refine wp_gI iX9_rule_47 fi_9_36 rfl ?_
          refine wp_pI iX9_rule_50 fp_9_36 rfl ?_
          refine wp_al0 iX9_rule_53 ?_
          refine wp_il1 iX9_rule_54 ?_
          refine wp_ic iX9_rule_55 (by decide) ?_
          refine wp_cne iX9_rule_56 (fun c_56 => ?_) (fun c_56 => ?_)
          · refine wp_al0 iX9_rule_63 ?_
            refine wp_gI iX9_rule_64 fi_9_39 rfl ?_
            refine wp_pI iX9_rule_67 fp_9_39 rfl ?_
            refine wp_il3 iX9_rule_70 ?_
            refine wp_ret iX9_rule_71 rfl ?_
            (refine ⟨?_, ?_⟩ <;> (repeat' split) <;> first | rfl | (exfalso; omega) | exact e1 _ | exact e2 _)
          · refine wp_il2 iX9_rule_59 ?_
            refine wp_goto iX9_rule_60 ?_
            refine wp_pI iX9_rule_67 fp_9_39 rfl ?_
            refine wp_il3 iX9_rule_70 ?_
            refine wp_ret iX9_rule_71 rfl ?_
            (refine ⟨?_, ?_⟩ <;> (repeat' split) <;> first | rfl | (exfalso; omega) | exact e1 _ | exact e2 _)
        · refine wp_il2 iX9_rule_42 ?_
          refine wp_goto iX9_rule_43 ?_
          refine wp_pI iX9_rule_50 fp_9_36 rfl ?_
          refine wp_al0 iX9_rule_53 ?_
          refine wp_il1 iX9_rule_54 ?_
          refine wp_ic iX9_rule_55 (by decide) ?_
          refine wp_cne iX9_rule_56 (fun c_56 => ?_) (fun c_56 => ?_)
          · refine wp_al0 iX9_rule_63 ?_
            refine wp_gI iX9_rule_64 fi_9_39 rfl ?_
            refine wp_pI iX9_rule_67 fp_9_39 rfl ?_
            refine wp_il3 iX9_rule_70 ?_
            refine wp_ret iX9_rule_71 rfl ?_
            (refine ⟨?_, ?_⟩ <;> (repeat' split) <;> first | rfl | (exfalso; omega) | exact e1 _ | exact e2 _)
          · refine wp_il2 iX9_rule_59 ?_
            refine wp_goto iX9_rule_60 ?_
            refine wp_pI iX9_rule_67 fp_9_39 rfl ?_
            refine wp_il3 iX9_rule_70 ?_
            refine wp_ret iX9_rule_71 rfl ?_
            (refine ⟨?_, ?_⟩ <;> (repeat' split) <;> first | rfl | (exfalso; omega) | exact e1 _ | exact e2 _)
    · refine wp_ic iX9_rule_19 (by decide) ?_
      refine wp_ret iX9_rule_20 rfl ?_
      (refine ⟨?_, ?_⟩ <;> (repeat' split) <;> first | rfl | (exfalso; omega) | exact e1 _ | exact e2 _)
theorem c_X9_isUnlike (h : hM M) (w p : Int) (hw : 0 ≤ w ∧ w < 11) (hp : 0 ≤ p ∧ p < 10) : cF L 1 mX9_isUnlike [.inr 56, .inl w, .inl p] M (if uC (M 57) w p.toNat = true then 1 else 0) := by
  have e : (uC (M 57) w p.toNat = true) ↔ ¬ M 57 (12 * p + w).toNat = M 57 (12 * p + w + 1).toNat := by
    unfold uC
    rw [toNat_cast hp.1, show 12 * p + (w + 1) = 12 * p + w + 1 by omega]
    simp
  refine cF_of rfl ?_
  change wp _ _ _ 0 [some (.inr 56), some (.inl w), some (.inl p)] [] _ _
  refine wp_al0 iX9_isUnlike_0 ?_
  refine wp_gR iX9_isUnlike_1 fr_9_16 rfl rfl rfl ?_
  refine wp_bp iX9_isUnlike_4 (by decide) ?_
  refine wp_il2 iX9_isUnlike_6 ?_
  refine wp_mul iX9_isUnlike_7 (by omega) ?_
  refine wp_il1 iX9_isUnlike_8 ?_
  refine wp_add iX9_isUnlike_9 (by omega) ?_
  refine wp_ia iX9_isUnlike_10 rfl (by omega) ?_
  refine wp_al0 iX9_isUnlike_11 ?_
  refine wp_gR iX9_isUnlike_12 fr_9_16 rfl rfl rfl ?_
  refine wp_bp iX9_isUnlike_15 (by decide) ?_
  refine wp_il2 iX9_isUnlike_17 ?_
  refine wp_mul iX9_isUnlike_18 (by omega) ?_
  refine wp_il1 iX9_isUnlike_19 ?_
  refine wp_add iX9_isUnlike_20 (by omega) ?_
  refine wp_ic iX9_isUnlike_21 (by decide) ?_
  refine wp_add iX9_isUnlike_22 (by omega) ?_
  refine wp_ia iX9_isUnlike_23 rfl (by omega) ?_
  refine wp_ceq iX9_isUnlike_24 (fun c_24 => ?_) (fun c_24 => ?_)
  · refine wp_ic iX9_isUnlike_31 (by decide) ?_
    refine wp_retb iX9_isUnlike_32 rfl (by decide) ?_
    (refine ⟨?_, rfl⟩; first | (rw [if_pos (e.mpr (by assumption))]) | (rw [if_neg (fun q => absurd (by assumption) (e.mp q))]))
  · refine wp_ic iX9_isUnlike_27 (by decide) ?_
    refine wp_goto iX9_isUnlike_28 ?_
    refine wp_retb iX9_isUnlike_32 rfl (by decide) ?_
    (refine ⟨?_, rfl⟩; first | (rw [if_pos (e.mpr (by assumption))]) | (rw [if_neg (fun q => absurd (by assumption) (e.mp q))]))
theorem c_X9_slitFrom (h : hM M) (w p : Int) (hw : 0 ≤ w ∧ w < 11) (hp : 0 ≤ p ∧ p < M 56 1) : cF L 2 mX9_slitFrom [.inr 56, .inl w, .inl p] M (sf (uC (M 57) w) (M 56 1).toNat p.toNat) := by
  obtain ⟨h1, h2, h3, h4, h5, h6⟩ := id h
  refine cF_of rfl ?_
  change wp _ _ _ 0 [some (.inr 56), some (.inl w), some (.inl p), none] [] _ _
  have key : ∀ (n : Nat) (i : Int), (M 56 1 - (p + i)).toNat = n → 0 ≤ i → p + i ≤ M 56 1 → rl (uC (M 57) w) ((M 56 1).toNat - p.toNat) p.toNat = i + rl (uC (M 57) w) n (p + i).toNat → sf (uC (M 57) w) (M 56 1).toNat p.toNat = rl (uC (M 57) w) ((M 56 1).toNat - p.toNat) p.toNat → wp L 1 mX9_slitFrom 19 [some (.inr 56), some (.inl w), some (.inl p), some (.inl i)] [] M (fun r M1 => r = some (.inl (sf (uC (M 57) w) (M 56 1).toNat p.toNat)) ∧ M1 = M) := by
    intro n
    induction n with
    | zero =>
      intro i hn hi0 hi1 hrl hsf
      refine wp_il2 iX9_slitFrom_19 ?_
      refine wp_il3 iX9_slitFrom_20 ?_
      refine wp_add iX9_slitFrom_21 (by omega) ?_
      refine wp_al0 iX9_slitFrom_22 ?_
      refine wp_gI iX9_slitFrom_23 fi_9_13 rfl ?_
      refine wp_cge iX9_slitFrom_26 (fun c_26 => ?_) (fun c_26 => ?_)
      · refine wp_il3 iX9_slitFrom_46 ?_
        refine wp_ret iX9_slitFrom_47 rfl ?_
        (exact ⟨by rw [hsf, hrl]; simp [rl], rfl⟩)
      · refine wp_al0 iX9_slitFrom_29 ?_
        refine wp_il1 iX9_slitFrom_30 ?_
        refine wp_il2 iX9_slitFrom_31 ?_
        refine wp_il3 iX9_slitFrom_32 ?_
        refine wp_add iX9_slitFrom_33 (by omega) ?_
        refine wp_v2f iX9_slitFrom_34 ml_9_130 rfl rfl rfl rfl (c_X9_isUnlike L M h w (p + i) hw (by omega)) ?_
        refine wp_beq iX9_slitFrom_37 (fun c_37 => ?_) (fun c_37 => ?_)
        · refine wp_il3 iX9_slitFrom_46 ?_
          refine wp_ret iX9_slitFrom_47 rfl ?_
          (exact ⟨by rw [hsf, hrl]; simp [rl], rfl⟩)
        · refine wp_ii3 iX9_slitFrom_40 (by omega) ?_
          refine wp_goto iX9_slitFrom_43 ?_
          exact absurd hn (by omega)
    | succ n ih =>
      intro i hn hi0 hi1 hrl hsf
      refine wp_il2 iX9_slitFrom_19 ?_
      refine wp_il3 iX9_slitFrom_20 ?_
      refine wp_add iX9_slitFrom_21 (by omega) ?_
      refine wp_al0 iX9_slitFrom_22 ?_
      refine wp_gI iX9_slitFrom_23 fi_9_13 rfl ?_
      refine wp_cge iX9_slitFrom_26 (fun c_26 => ?_) (fun c_26 => ?_)
      · refine wp_il3 iX9_slitFrom_46 ?_
        refine wp_ret iX9_slitFrom_47 rfl ?_
        (first | (exact ⟨by rw [hsf, hrl, rl_no (Or.inr (by assumption))]; simp, rfl⟩) | (exfalso; omega))
      · refine wp_al0 iX9_slitFrom_29 ?_
        refine wp_il1 iX9_slitFrom_30 ?_
        refine wp_il2 iX9_slitFrom_31 ?_
        refine wp_il3 iX9_slitFrom_32 ?_
        refine wp_add iX9_slitFrom_33 (by omega) ?_
        refine wp_v2f iX9_slitFrom_34 ml_9_130 rfl rfl rfl rfl (c_X9_isUnlike L M h w (p + i) hw (by omega)) ?_
        refine wp_beq iX9_slitFrom_37 (fun c_37 => ?_) (fun c_37 => ?_)
        · refine wp_il3 iX9_slitFrom_46 ?_
          refine wp_ret iX9_slitFrom_47 rfl ?_
          (first | (exact ⟨by rw [hsf, hrl, rl_no (Or.inr (by assumption))]; simp, rfl⟩) | (exfalso; omega))
        · refine wp_ii3 iX9_slitFrom_40 (by omega) ?_
          refine wp_goto iX9_slitFrom_43 ?_
          exact ih (i + 1) (by omega) (by omega) (by omega) (by rw [hrl, rl_yes (by assumption), show (p + (i + 1)).toNat = (p + i).toNat + 1 by omega]; omega) hsf
  refine wp_il2 iX9_slitFrom_0 ?_
  refine wp_zle iX9_slitFrom_1 (fun c_1 => ?_) (fun c_1 => ?_)
  · refine wp_ic iX9_slitFrom_17 (by decide) ?_
    refine wp_is3 iX9_slitFrom_18 ?_
    exact key _ 0 rfl (by omega) (by omega) (by rw [show (M 56 1 - (p + 0)).toNat = (M 56 1).toNat - p.toNat by omega, show p + 0 = p by omega]; omega) (by unfold sf; rw [if_neg (by omega)])
  · refine wp_al0 iX9_slitFrom_4 ?_
    refine wp_il1 iX9_slitFrom_5 ?_
    refine wp_il2 iX9_slitFrom_6 ?_
    refine wp_ic iX9_slitFrom_7 (by decide) ?_
    refine wp_sub iX9_slitFrom_8 (by omega) ?_
    refine wp_v2f iX9_slitFrom_9 ml_9_130 rfl rfl rfl rfl (c_X9_isUnlike L M h w (p - 1) hw (by omega)) ?_
    refine wp_beq iX9_slitFrom_12 (fun c_12 => ?_) (fun c_12 => ?_)
    · refine wp_ic iX9_slitFrom_17 (by decide) ?_
      refine wp_is3 iX9_slitFrom_18 ?_
      exact key _ 0 rfl (by omega) (by omega) (by rw [show (M 56 1 - (p + 0)).toNat = (M 56 1).toNat - p.toNat by omega, show p + 0 = p by omega]; omega) (by unfold sf; rw [if_neg (fun q => by rw [show p.toNat - 1 = (p - 1).toNat by omega] at q; exact absurd q.2 (by assumption))])
    · refine wp_ic iX9_slitFrom_15 (by decide) ?_
      refine wp_ret iX9_slitFrom_16 rfl ?_
      (exact ⟨by unfold sf; rw [if_pos ⟨by omega, by rw [show p.toNat - 1 = (p - 1).toNat by omega]; assumption⟩], rfl⟩)
theorem c_X9_slit (h : hM M) (w p : Int) : cF L 3 mX9_slit [.inr 56, .inl w, .inl p] M (if (0 ≤ w ∧ w < M 56 0 - 1) ∧ 0 ≤ p ∧ p < M 56 1 then slt (uC (M 57) w) (M 56 1).toNat p.toNat else -1) := by
  obtain ⟨h1, h2, h3, h4, h5, h6⟩ := id h
  refine cF_of rfl ?_
  change wp _ _ _ 0 [some (.inr 56), some (.inl w), some (.inl p), none] [] _ _
  have key : (0 ≤ w ∧ w < M 56 0 - 1) ∧ 0 ≤ p ∧ p < M 56 1 → uC (M 57) w p.toNat = true → ∀ (n : Nat) (i : Int), i.toNat = n → 0 ≤ i → i ≤ p → bk (uC (M 57) w) p.toNat = bk (uC (M 57) w) i.toNat → wp L 2 mX9_slit 34 [some (.inr 56), some (.inl w), some (.inl p), some (.inl i)] [] M (fun r M1 => r = some (.inl (slt (uC (M 57) w) (M 56 1).toNat p.toNat)) ∧ M1 = M) := by
    intro hq hu n
    induction n with
    | zero =>
      intro i hn hi0 hi1 hb
      have hb2 : bk (uC (M 57) w) i.toNat = i.toNat := by rw [hn]; rfl
      refine wp_il3 iX9_slit_34 ?_
      refine wp_zle iX9_slit_35 (fun c_35 => ?_) (fun c_35 => ?_)
      · refine wp_al0 iX9_slit_55 ?_
        refine wp_il1 iX9_slit_56 ?_
        refine wp_il3 iX9_slit_57 ?_
        refine wp_v2f iX9_slit_58 ml_9_133 rfl rfl rfl rfl (c_X9_slitFrom L M h w i (by omega) (by omega)) ?_
        refine wp_ret iX9_slit_61 rfl ?_
        (exact ⟨by unfold slt; rw [if_pos hu, hb, hb2], rfl⟩)
      · refine wp_al0 iX9_slit_38 ?_
        refine wp_il1 iX9_slit_39 ?_
        refine wp_il3 iX9_slit_40 ?_
        refine wp_ic iX9_slit_41 (by decide) ?_
        refine wp_sub iX9_slit_42 (by omega) ?_
        refine wp_v2f iX9_slit_43 ml_9_130 rfl rfl rfl rfl (c_X9_isUnlike L M h w (i - 1) (by omega) (by omega)) ?_
        refine wp_beq iX9_slit_46 (fun c_46 => ?_) (fun c_46 => ?_)
        · refine wp_al0 iX9_slit_55 ?_
          refine wp_il1 iX9_slit_56 ?_
          refine wp_il3 iX9_slit_57 ?_
          refine wp_v2f iX9_slit_58 ml_9_133 rfl rfl rfl rfl (c_X9_slitFrom L M h w i (by omega) (by omega)) ?_
          refine wp_ret iX9_slit_61 rfl ?_
          (exact ⟨by unfold slt; rw [if_pos hu, hb, hb2], rfl⟩)
        · refine wp_ii3 iX9_slit_49 (by omega) ?_
          refine wp_goto iX9_slit_52 ?_
          exact absurd hn (by omega)
    | succ n ih =>
      intro i hn hi0 hi1 hb
      have hb2 : bk (uC (M 57) w) i.toNat = if uC (M 57) w (i - 1).toNat = true then bk (uC (M 57) w) (i - 1).toNat else i.toNat := by
        rw [show i.toNat = (i - 1).toNat + 1 by omega]
        rfl
      refine wp_il3 iX9_slit_34 ?_
      refine wp_zle iX9_slit_35 (fun c_35 => ?_) (fun c_35 => ?_)
      · refine wp_al0 iX9_slit_55 ?_
        refine wp_il1 iX9_slit_56 ?_
        refine wp_il3 iX9_slit_57 ?_
        refine wp_v2f iX9_slit_58 ml_9_133 rfl rfl rfl rfl (c_X9_slitFrom L M h w i (by omega) (by omega)) ?_
        refine wp_ret iX9_slit_61 rfl ?_
        (first | (exfalso; omega) | (exact ⟨by unfold slt; rw [if_pos hu, hb, hb2, if_neg (by assumption)], rfl⟩))
      · refine wp_al0 iX9_slit_38 ?_
        refine wp_il1 iX9_slit_39 ?_
        refine wp_il3 iX9_slit_40 ?_
        refine wp_ic iX9_slit_41 (by decide) ?_
        refine wp_sub iX9_slit_42 (by omega) ?_
        refine wp_v2f iX9_slit_43 ml_9_130 rfl rfl rfl rfl (c_X9_isUnlike L M h w (i - 1) (by omega) (by omega)) ?_
        refine wp_beq iX9_slit_46 (fun c_46 => ?_) (fun c_46 => ?_)
        · refine wp_al0 iX9_slit_55 ?_
          refine wp_il1 iX9_slit_56 ?_
          refine wp_il3 iX9_slit_57 ?_
          refine wp_v2f iX9_slit_58 ml_9_133 rfl rfl rfl rfl (c_X9_slitFrom L M h w i (by omega) (by omega)) ?_
          refine wp_ret iX9_slit_61 rfl ?_
          (first | (exfalso; omega) | (exact ⟨by unfold slt; rw [if_pos hu, hb, hb2, if_neg (by assumption)], rfl⟩))
        · refine wp_ii3 iX9_slit_49 (by omega) ?_
          refine wp_goto iX9_slit_52 ?_
          exact ih (i - 1) (by omega) (by omega) (by omega) (by rw [hb, hb2, if_pos (by assumption)])
  refine wp_al0 iX9_slit_0 ?_
  refine wp_il1 iX9_slit_1 ?_
  refine wp_il2 iX9_slit_2 ?_
  refine wp_v2f iX9_slit_3 ml_9_118 rfl rfl rfl rfl (c_X9_isSquare L M h w p) ?_
  refine wp_beq iX9_slit_6 (fun c_6 => ?_) (fun c_6 => ?_)
  · refine wp_ic iX9_slit_19 (by decide) ?_
    refine wp_ret iX9_slit_20 rfl ?_
    (first | (rw [if_neg (by omega)]; exact ⟨rfl, rfl⟩) | (rw [if_pos (by omega)]; unfold slt; rw [if_neg (by assumption)]; exact ⟨rfl, rfl⟩))
  · refine wp_il1 iX9_slit_9 ?_
    refine wp_ic iX9_slit_10 (by decide) ?_
    refine wp_add iX9_slit_11 (by omega) ?_
    refine wp_al0 iX9_slit_12 ?_
    refine wp_gI iX9_slit_13 fi_9_7 rfl ?_
    refine wp_cne iX9_slit_16 (fun c_16 => ?_) (fun c_16 => ?_)
    · refine wp_al0 iX9_slit_21 ?_
      refine wp_il1 iX9_slit_22 ?_
      refine wp_il2 iX9_slit_23 ?_
      refine wp_v2f iX9_slit_24 ml_9_130 rfl rfl rfl rfl (c_X9_isUnlike L M h w p (by omega) (by omega)) ?_
      refine wp_bne iX9_slit_27 (fun c_27 => ?_) (fun c_27 => ?_)
      · refine wp_il2 iX9_slit_32 ?_
        refine wp_is3 iX9_slit_33 ?_
        rw [if_pos (by omega)]
        exact key (by omega) (by assumption) _ p rfl (by omega) (by omega) rfl
      · refine wp_ic iX9_slit_30 (by decide) ?_
        refine wp_ret iX9_slit_31 rfl ?_
        (first | (rw [if_neg (by omega)]; exact ⟨rfl, rfl⟩) | (rw [if_pos (by omega)]; unfold slt; rw [if_neg (by assumption)]; exact ⟨rfl, rfl⟩))
    · refine wp_ic iX9_slit_19 (by decide) ?_
      refine wp_ret iX9_slit_20 rfl ?_
      (first | (rw [if_neg (by omega)]; exact ⟨rfl, rfl⟩) | (rw [if_pos (by omega)]; unfold slt; rw [if_neg (by assumption)]; exact ⟨rfl, rfl⟩))
/-- the memory behind size -/
theorem c_X9_size (x y : Int) : cG L 2 mX9_size [.inr 56, .inl x, .inl y] M (if (1 ≤ x ∧ x ≤ 12) ∧ 1 ≤ y ∧ y ≤ 10 then x * y else -1) (if (1 ≤ x ∧ x ≤ 12) ∧ 1 ≤ y ∧ y ≤ 10 then ab_up (ab_rw (ab_rw (ab_up (ab_up M 56 0 x) 56 1 y) 57 (fun k => if (k : Int) < 120 then 0 else M 57 k)) 58 (fun k => if (k : Int) < 120 then 0 else M 58 k)) 56 12 0 else M) := by
  have hm : (1 ≤ x ∧ x ≤ 12) ∧ 1 ≤ y ∧ y ≤ 10 → -2147483648 ≤ x * y ∧ x * y < 2147483648 := by
    intro h
    have h1 : x * y ≤ 12 * 10 := Int.mul_le_mul (by omega) (by omega) (by omega) (by omega)
    have h2 : 0 ≤ x * y := Int.mul_nonneg (by omega) (by omega)
    omega
  have up1 : ∀ (N : ab_Me) (i : Int), 0 ≤ i → ab_up (ab_up (ab_rw (ab_rw N 57 (fun k => if (k : Int) < i then 0 else M 57 k)) 58 (fun k => if (k : Int) < i then 0 else M 58 k)) 57 i.toNat 0) 58 i.toNat 0 = ab_rw (ab_rw N 57 (fun k => if (k : Int) < i + 1 then 0 else M 57 k)) 58 (fun k => if (k : Int) < i + 1 then 0 else M 58 k) := by
    intro N i hi
    have e : ∀ f : Nat → Int, ab_u1 (fun k : Nat => if (k : Int) < i then 0 else f k) i.toNat 0 = (fun k : Nat => if (k : Int) < i + 1 then 0 else f k) := by
      intro f
      funext k
      unfold ab_u1
      by_cases hk : k = i.toNat
      · rw [if_pos hk, if_pos (by omega)]
      · rw [if_neg hk]
        show (if (k : Int) < i then 0 else f k) = _
        by_cases h2 : (k : Int) < i
        · rw [if_pos h2, if_pos (by omega)]
        · rw [if_neg h2, if_neg (by omega)]
    funext b
    by_cases hb : b = 58
    · subst hb
      rw [ab_up_self, ab_up_ne _ _ _ (by decide), ab_rw_self, ab_rw_self, e]
    · rw [ab_up_ne _ _ _ hb, ab_rw_ne _ _ hb]
      by_cases hb2 : b = 57
      · subst hb2
        rw [ab_up_self, ab_rw_ne _ _ (by decide), ab_rw_self, ab_rw_self, e]
      · rw [ab_up_ne _ _ _ hb2, ab_rw_ne _ _ hb, ab_rw_ne _ _ hb2, ab_rw_ne _ _ hb2]
  have key : ((1 ≤ x ∧ x ≤ 12) ∧ 1 ≤ y ∧ y ≤ 10) → ∀ (n : Nat) (i : Int), (120 - i).toNat = n → 0 ≤ i → i ≤ 120 → wp L 1 mX9_size 34 [some (.inr 56), some (.inl x), some (.inl y), some (.inl i)] [] (ab_rw (ab_rw (ab_up (ab_up M 56 0 x) 56 1 y) 57 (fun k => if (k : Int) < i then 0 else M 57 k)) 58 (fun k => if (k : Int) < i then 0 else M 58 k)) (fun r M2 => r = some (.inl (x * y)) ∧ M2 = ab_up (ab_rw (ab_rw (ab_up (ab_up M 56 0 x) 56 1 y) 57 (fun k => if (k : Int) < 120 then 0 else M 57 k)) 58 (fun k => if (k : Int) < 120 then 0 else M 58 k)) 56 12 0) := by
    intro hq n
    induction n using Nat.strongRecOn with
    | ind n ih =>
      intro i hn hi0 hi1
      refine wp_il3 iX9_size_34 ?_
      refine wp_bp iX9_size_35 (by decide) ?_
      refine wp_cge iX9_size_37 (fun c_37 => ?_) (fun c_37 => ?_)
      · refine wp_al0 iX9_size_60 ?_
        refine wp_ic iX9_size_61 (by decide) ?_
        refine wp_pI iX9_size_62 fp_9_115 rfl ?_
        refine wp_il1 iX9_size_65 ?_
        refine wp_il2 iX9_size_66 ?_
        refine wp_mul iX9_size_67 (hm hq) ?_
        refine wp_ret iX9_size_68 rfl ?_
        (exact ⟨rfl, by rw [show i = 120 by omega]⟩)
      · refine wp_al0 iX9_size_40 ?_
        refine wp_gR iX9_size_41 fr_9_16 rfl rfl rfl ?_
        refine wp_il3 iX9_size_44 ?_
        refine wp_ic iX9_size_45 (by decide) ?_
        refine wp_is iX9_size_46 rfl rfl (by omega) ?_
        refine wp_al0 iX9_size_47 ?_
        refine wp_gR iX9_size_48 fr_9_20 rfl rfl rfl ?_
        refine wp_il3 iX9_size_51 ?_
        refine wp_ic iX9_size_52 (by decide) ?_
        refine wp_bs iX9_size_53 rfl rfl (by omega) (by first | decide | omega) ?_
        refine wp_ii3 iX9_size_54 (by omega) ?_
        refine wp_goto iX9_size_57 ?_
        rw [up1 _ i hi0]
        exact ih _ (by omega) (i + 1) rfl (by omega) (by omega)
  have e0 : ab_rw (ab_rw (ab_up (ab_up M 56 0 x) 56 1 y) 57 (fun k => if (k : Int) < 0 then 0 else M 57 k)) 58 (fun k => if (k : Int) < 0 then 0 else M 58 k) = ab_up (ab_up M 56 0 x) 56 1 y := by
    rw [show (fun k : Nat => if (k : Int) < 0 then (0 : Int) else M 57 k) = M 57 from funext fun k => if_neg (by omega), show (fun k : Nat => if (k : Int) < 0 then (0 : Int) else M 58 k) = M 58 from funext fun k => if_neg (by omega)]
    exact (congrArg (fun z => ab_rw z 58 (M 58)) (rw_self (ab_up (ab_up M 56 0 x) 56 1 y) 57)).trans (rw_self (ab_up (ab_up M 56 0 x) 56 1 y) 58)
  refine cG_of rfl ?_
  change wp _ _ _ 0 [some (.inr 56), some (.inl x), some (.inl y), none] [] _ _
  refine wp_il1 iX9_size_0 ?_
  refine wp_ic iX9_size_1 (by decide) ?_
  refine wp_bp iX9_size_2 (by decide) ?_
  refine wp_s3f iX9_size_4 ml_9_111 rfl rfl rfl (c_X9_in _ _ _ _ _) ?_
  refine wp_beq iX9_size_7 (fun c_7 => ?_) (fun c_7 => ?_)
  · refine wp_ic iX9_size_20 (by decide) ?_
    refine wp_ret iX9_size_21 rfl ?_
    (rw [if_neg (by omega), if_neg (by omega)]; exact ⟨rfl, rfl⟩)
  · refine wp_il2 iX9_size_10 ?_
    refine wp_ic iX9_size_11 (by decide) ?_
    refine wp_bp iX9_size_12 (by decide) ?_
    refine wp_s3f iX9_size_14 ml_9_111 rfl rfl rfl (c_X9_in _ _ _ _ _) ?_
    refine wp_bne iX9_size_17 (fun c_17 => ?_) (fun c_17 => ?_)
    · refine wp_al0 iX9_size_22 ?_
      refine wp_il1 iX9_size_23 ?_
      refine wp_pI iX9_size_24 fp_9_7 rfl ?_
      refine wp_al0 iX9_size_27 ?_
      refine wp_il2 iX9_size_28 ?_
      refine wp_pI iX9_size_29 fp_9_13 rfl ?_
      refine wp_ic iX9_size_32 (by decide) ?_
      refine wp_is3 iX9_size_33 ?_
      rw [if_pos (by omega), if_pos (by omega)]
      have k0 := key (by omega) _ 0 rfl (by omega) (by omega)
      rw [e0] at k0
      exact k0
    · refine wp_ic iX9_size_20 (by decide) ?_
      refine wp_ret iX9_size_21 rfl ?_
      (rw [if_neg (by omega), if_neg (by omega)]; exact ⟨rfl, rfl⟩)
end CartM
