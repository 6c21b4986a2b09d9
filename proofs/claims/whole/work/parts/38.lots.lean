/-! ===== LOTS and WEAVERS ===== -/
section LotsW
variable (L : Nat) (M : ab_Me)
def mLot (M : ab_Me) (x y : Int) : ab_Me := ab_up (ab_up (ab_up M 6 (M 5 0).toNat x) 7 (M 5 0).toNat y) 5 0 (M 5 0 + 1)
theorem c_X4_add (x y : Int) (hn : 0 ≤ M 5 0 ∧ M 5 0 < 12) : cG L 1 mX4_add [.inr 5, .inl x, .inl y] M (M 5 0) (mLot M x y) := by
  refine cG_of rfl ?_
  change wp _ _ _ 0 [some (.inr 5), some (.inl x), some (.inl y)] [] _ _
  refine wp_al0 iX4_add_0 ?_
  refine wp_gR iX4_add_1 fr_4_15 rfl rfl rfl ?_
  refine wp_al0 iX4_add_4 ?_
  refine wp_gI iX4_add_5 fi_4_9 rfl ?_
  refine wp_il1 iX4_add_8 ?_
  refine wp_is iX4_add_9 rfl rfl (by first | omega | (simp [ab_up, ab_rw, ab_u1]; omega)) ?_
  refine wp_al0 iX4_add_10 ?_
  refine wp_gR iX4_add_11 fr_4_19 rfl rfl rfl ?_
  refine wp_al0 iX4_add_14 ?_
  refine wp_gI iX4_add_15 fi_4_9 rfl ?_
  refine wp_il2 iX4_add_18 ?_
  refine wp_is iX4_add_19 rfl rfl (by first | omega | (simp [ab_up, ab_rw, ab_u1]; omega)) ?_
  refine wp_al0 iX4_add_20 ?_
  refine wp_dup iX4_add_21 ?_
  refine wp_gI iX4_add_22 fi_4_9 rfl ?_
  refine wp_ic iX4_add_25 (by decide) ?_
  refine wp_add iX4_add_26 (by first | omega | (simp [ab_up, ab_rw, ab_u1]; omega)) ?_
  refine wp_pI iX4_add_27 fp_4_9 rfl ?_
  refine wp_al0 iX4_add_30 ?_
  refine wp_gI iX4_add_31 fi_4_9 rfl ?_
  refine wp_ic iX4_add_34 (by decide) ?_
  refine wp_sub iX4_add_35 (by first | omega | (simp [ab_up, ab_rw, ab_u1]; omega)) ?_
  refine wp_ret iX4_add_36 rfl ?_
  (refine ⟨?_, rfl⟩; simp [ab_up, ab_u1])
theorem c_X8_dye (x y : Int) (hn : 0 ≤ M 5 0 ∧ M 5 0 ≤ 12) : cG L 3 mX8_dye [.inr 1, .inl x, .inl y] M (if (0 ≤ x ∧ x < 8) ∧ 1 ≤ y ∧ y ≤ 300 then (if M 5 0 = 12 then -2 else M 5 0) else -1) (if (0 ≤ x ∧ x < 8) ∧ 1 ≤ y ∧ y ≤ 300 then (if M 5 0 = 12 then M else mLot M x y) else M) := by
  refine cG_of rfl ?_
  change wp _ _ _ 0 [some (.inr 1), some (.inl x), some (.inl y)] [] _ _
  refine wp_il1 iX8_dye_0 ?_
  refine wp_s1f iX8_dye_1 ml_8_83 rfl rfl rfl (c_X8_isColour _ _ _) ?_
  refine wp_beq iX8_dye_4 (fun c_4 => ?_) (fun c_4 => ?_)
  · refine wp_ic iX8_dye_18 (by decide) ?_
    refine wp_ret iX8_dye_19 rfl ?_
    (refine ⟨?_, ?_⟩ <;> (repeat' split) <;> first | rfl | (exfalso; omega))
  · refine wp_il2 iX8_dye_7 ?_
    refine wp_ic iX8_dye_8 (by decide) ?_
    refine wp_sp iX8_dye_9 (by decide) ?_
    refine wp_s3f iX8_dye_12 ml_8_51 rfl rfl rfl (c_X8_isFromTo _ _ _ _ _) ?_
    refine wp_bne iX8_dye_15 (fun c_15 => ?_) (fun c_15 => ?_)
    · refine wp_al0 iX8_dye_20 ?_
      refine wp_gR iX8_dye_21 fr_8_10 rfl rfl rfl ?_
      refine wp_gR iX8_dye_24 fr_8_147 rfl rfl rfl ?_
      refine wp_gI iX8_dye_27 fi_8_151 rfl ?_
      refine wp_bp iX8_dye_30 (by decide) ?_
      refine wp_cne iX8_dye_32 (fun c_32 => ?_) (fun c_32 => ?_)
      · refine wp_al0 iX8_dye_40 ?_
        refine wp_gR iX8_dye_41 fr_8_10 rfl rfl rfl ?_
        refine wp_gR iX8_dye_44 fr_8_147 rfl rfl rfl ?_
        refine wp_il1 iX8_dye_47 ?_
        refine wp_il2 iX8_dye_48 ?_
        refine wp_v2g iX8_dye_49 ml_8_154 rfl rfl rfl rfl (c_X4_add L M x y (by omega)) ?_
        refine wp_ret iX8_dye_52 rfl ?_
        (refine ⟨?_, ?_⟩ <;> (repeat' split) <;> first | rfl | (exfalso; omega))
      · refine wp_bp iX8_dye_35 (by decide) ?_
        refine wp_goto iX8_dye_37 ?_
        refine wp_ret iX8_dye_52 rfl ?_
        (refine ⟨?_, ?_⟩ <;> (repeat' split) <;> first | rfl | (exfalso; omega))
    · refine wp_ic iX8_dye_18 (by decide) ?_
      refine wp_ret iX8_dye_19 rfl ?_
      (refine ⟨?_, ?_⟩ <;> (repeat' split) <;> first | rfl | (exfalso; omega))
def mLotM (M : ab_Me) (x y : Int) : ab_Me := ab_up (ab_up (ab_up M 59 (M 56 4).toNat x) 60 (M 56 4).toNat y) 56 4 (M 56 4 + 1)
theorem c_X9_dye (x y : Int) (hn : 0 ≤ M 56 4 ∧ M 56 4 ≤ 12) : cG L 2 mX9_dye [.inr 56, .inl x, .inl y] M (if (0 ≤ x ∧ x < 8) ∧ 1 ≤ y ∧ y ≤ 300 then (if M 56 4 = 12 then -2 else M 56 4) else -1) (if (0 ≤ x ∧ x < 8) ∧ 1 ≤ y ∧ y ≤ 300 then (if M 56 4 = 12 then M else mLotM M x y) else M) := by
  refine cG_of rfl ?_
  change wp _ _ _ 0 [some (.inr 56), some (.inl x), some (.inl y)] [] _ _
  refine wp_il1 iX9_dye_0 ?_
  refine wp_ic iX9_dye_1 (by decide) ?_
  refine wp_bp iX9_dye_2 (by decide) ?_
  refine wp_s3f iX9_dye_4 ml_9_111 rfl rfl rfl (c_X9_in _ _ _ _ _) ?_
  refine wp_beq iX9_dye_7 (fun c_7 => ?_) (fun c_7 => ?_)
  · refine wp_ic iX9_dye_21 (by decide) ?_
    refine wp_ret iX9_dye_22 rfl ?_
    (refine ⟨?_, ?_⟩ <;> (repeat' split) <;> first | rfl | (exfalso; omega) | (simp [ab_up, ab_u1]; done))
  · refine wp_il2 iX9_dye_10 ?_
    refine wp_ic iX9_dye_11 (by decide) ?_
    refine wp_sp iX9_dye_12 (by decide) ?_
    refine wp_s3f iX9_dye_15 ml_9_111 rfl rfl rfl (c_X9_in _ _ _ _ _) ?_
    refine wp_bne iX9_dye_18 (fun c_18 => ?_) (fun c_18 => ?_)
    · refine wp_al0 iX9_dye_23 ?_
      refine wp_gI iX9_dye_24 fi_9_152 rfl ?_
      refine wp_bp iX9_dye_27 (by decide) ?_
      refine wp_cne iX9_dye_29 (fun c_29 => ?_) (fun c_29 => ?_)
      · refine wp_al0 iX9_dye_35 ?_
        refine wp_gR iX9_dye_36 fr_9_24 rfl rfl rfl ?_
        refine wp_al0 iX9_dye_39 ?_
        refine wp_gI iX9_dye_40 fi_9_152 rfl ?_
        refine wp_il1 iX9_dye_43 ?_
        refine wp_is iX9_dye_44 rfl rfl (by first | omega | (simp [ab_up, ab_rw, ab_u1]; omega)) ?_
        refine wp_al0 iX9_dye_45 ?_
        refine wp_gR iX9_dye_46 fr_9_27 rfl rfl rfl ?_
        refine wp_al0 iX9_dye_49 ?_
        refine wp_gI iX9_dye_50 fi_9_152 rfl ?_
        refine wp_il2 iX9_dye_53 ?_
        refine wp_is iX9_dye_54 rfl rfl (by first | omega | (simp [ab_up, ab_rw, ab_u1]; omega)) ?_
        refine wp_al0 iX9_dye_55 ?_
        refine wp_dup iX9_dye_56 ?_
        refine wp_gI iX9_dye_57 fi_9_152 rfl ?_
        refine wp_ic iX9_dye_60 (by decide) ?_
        refine wp_add iX9_dye_61 (by first | omega | (simp [ab_up, ab_rw, ab_u1]; omega)) ?_
        refine wp_pI iX9_dye_62 fp_9_152 rfl ?_
        refine wp_al0 iX9_dye_65 ?_
        refine wp_gI iX9_dye_66 fi_9_152 rfl ?_
        refine wp_ic iX9_dye_69 (by decide) ?_
        refine wp_sub iX9_dye_70 (by first | omega | (simp [ab_up, ab_rw, ab_u1]; omega)) ?_
        refine wp_ret iX9_dye_71 rfl ?_
        (refine ⟨?_, ?_⟩ <;> (repeat' split) <;> first | rfl | (exfalso; omega) | (simp [ab_up, ab_u1]; done))
      · refine wp_bp iX9_dye_32 (by decide) ?_
        refine wp_ret iX9_dye_34 rfl ?_
        (refine ⟨?_, ?_⟩ <;> (repeat' split) <;> first | rfl | (exfalso; omega) | (simp [ab_up, ab_u1]; done))
    · refine wp_ic iX9_dye_21 (by decide) ?_
      refine wp_ret iX9_dye_22 rfl ?_
      (refine ⟨?_, ?_⟩ <;> (repeat' split) <;> first | rfl | (exfalso; omega) | (simp [ab_up, ab_u1]; done))
def mWvM (M : ab_Me) (x z : Int) : ab_Me := ab_up (ab_up (ab_up (ab_up M 61 (M 56 7).toNat x) 62 (M 56 7).toNat z) 56 7 (M 56 7 + 1)) 56 12 0
theorem c_X9_weaver (x z : Int) (hz : z = 0 ∨ z = 1) (hn : 0 ≤ M 56 7 ∧ M 56 7 ≤ 4) : cG L 2 mX9_weaver [.inr 56, .inl x, .inl z] M (if 1 ≤ x ∧ x ≤ 20 then (if M 56 7 = 4 then -2 else M 56 7) else -1) (if 1 ≤ x ∧ x ≤ 20 then (if M 56 7 = 4 then M else mWvM M x z) else M) := by
  refine cG_of rfl ?_
  change wp _ _ _ 0 [some (.inr 56), some (.inl x), some (.inl z)] [] _ _
  refine wp_il1 iX9_weaver_0 ?_
  refine wp_ic iX9_weaver_1 (by decide) ?_
  refine wp_bp iX9_weaver_2 (by decide) ?_
  refine wp_s3f iX9_weaver_4 ml_9_111 rfl rfl rfl (c_X9_in _ _ _ _ _) ?_
  refine wp_bne iX9_weaver_7 (fun c_7 => ?_) (fun c_7 => ?_)
  · refine wp_al0 iX9_weaver_12 ?_
    refine wp_gI iX9_weaver_13 fi_9_174 rfl ?_
    refine wp_ic iX9_weaver_16 (by decide) ?_
    refine wp_cne iX9_weaver_17 (fun c_17 => ?_) (fun c_17 => ?_)
    · refine wp_al0 iX9_weaver_23 ?_
      refine wp_gR iX9_weaver_24 fr_9_30 rfl rfl rfl ?_
      refine wp_al0 iX9_weaver_27 ?_
      refine wp_gI iX9_weaver_28 fi_9_174 rfl ?_
      refine wp_il1 iX9_weaver_31 ?_
      refine wp_is iX9_weaver_32 rfl rfl (by first | omega | (simp [ab_up, ab_rw, ab_u1]; omega)) ?_
      refine wp_al0 iX9_weaver_33 ?_
      refine wp_gR iX9_weaver_34 fr_9_33 rfl rfl rfl ?_
      refine wp_al0 iX9_weaver_37 ?_
      refine wp_gI iX9_weaver_38 fi_9_174 rfl ?_
      refine wp_il2 iX9_weaver_41 ?_
      refine wp_bs iX9_weaver_42 rfl rfl (by first | omega | (simp [ab_up, ab_rw, ab_u1]; omega)) (by first | decide | omega) ?_
      refine wp_al0 iX9_weaver_43 ?_
      refine wp_dup iX9_weaver_44 ?_
      refine wp_gI iX9_weaver_45 fi_9_174 rfl ?_
      refine wp_ic iX9_weaver_48 (by decide) ?_
      refine wp_add iX9_weaver_49 (by first | omega | (simp [ab_up, ab_rw, ab_u1]; omega)) ?_
      refine wp_pI iX9_weaver_50 fp_9_174 rfl ?_
      refine wp_al0 iX9_weaver_53 ?_
      refine wp_ic iX9_weaver_54 (by decide) ?_
      refine wp_pI iX9_weaver_55 fp_9_115 rfl ?_
      refine wp_al0 iX9_weaver_58 ?_
      refine wp_gI iX9_weaver_59 fi_9_174 rfl ?_
      refine wp_ic iX9_weaver_62 (by decide) ?_
      refine wp_sub iX9_weaver_63 (by first | omega | (simp [ab_up, ab_rw, ab_u1]; omega)) ?_
      refine wp_ret iX9_weaver_64 rfl ?_
      (refine ⟨?_, ?_⟩ <;> (repeat' split) <;> first | rfl | (exfalso; omega) | (simp [ab_up, ab_u1]; done))
    · refine wp_bp iX9_weaver_20 (by decide) ?_
      refine wp_ret iX9_weaver_22 rfl ?_
      (refine ⟨?_, ?_⟩ <;> (repeat' split) <;> first | rfl | (exfalso; omega) | (simp [ab_up, ab_u1]; done))
  · refine wp_ic iX9_weaver_10 (by decide) ?_
    refine wp_ret iX9_weaver_11 rfl ?_
    (refine ⟨?_, ?_⟩ <;> (repeat' split) <;> first | rfl | (exfalso; omega) | (simp [ab_up, ab_u1]; done))
theorem c_X9_speed (x y : Int) (hn : 0 ≤ M 56 7 ∧ M 56 7 ≤ 4) : cG L 2 mX9_speed [.inr 56, .inl x, .inl y] M (if (0 ≤ x ∧ x < M 56 7) ∧ 1 ≤ y ∧ y ≤ 20 then M 61 x.toNat else -1) (if (0 ≤ x ∧ x < M 56 7) ∧ 1 ≤ y ∧ y ≤ 20 then ab_up (ab_up M 61 x.toNat y) 56 12 0 else M) := by
  refine cG_of rfl ?_
  change wp _ _ _ 0 [some (.inr 56), some (.inl x), some (.inl y), none] [] _ _
  refine wp_il1 iX9_speed_0 ?_
  refine wp_ic iX9_speed_1 (by decide) ?_
  refine wp_al0 iX9_speed_2 ?_
  refine wp_gI iX9_speed_3 fi_9_174 rfl ?_
  refine wp_ic iX9_speed_6 (by decide) ?_
  refine wp_sub iX9_speed_7 (by first | omega | (simp [ab_up, ab_rw, ab_u1]; omega)) ?_
  refine wp_s3f iX9_speed_8 ml_9_111 rfl rfl rfl (c_X9_in _ _ _ _ _) ?_
  refine wp_beq iX9_speed_11 (fun c_11 => ?_) (fun c_11 => ?_)
  · refine wp_ic iX9_speed_24 (by decide) ?_
    refine wp_ret iX9_speed_25 rfl ?_
    (refine ⟨?_, ?_⟩ <;> (repeat' split) <;> first | rfl | (exfalso; omega))
  · refine wp_il2 iX9_speed_14 ?_
    refine wp_ic iX9_speed_15 (by decide) ?_
    refine wp_bp iX9_speed_16 (by decide) ?_
    refine wp_s3f iX9_speed_18 ml_9_111 rfl rfl rfl (c_X9_in _ _ _ _ _) ?_
    refine wp_bne iX9_speed_21 (fun c_21 => ?_) (fun c_21 => ?_)
    · refine wp_al0 iX9_speed_26 ?_
      refine wp_gR iX9_speed_27 fr_9_30 rfl rfl rfl ?_
      refine wp_il1 iX9_speed_30 ?_
      refine wp_ia iX9_speed_31 rfl (by first | omega | (simp [ab_up, ab_rw, ab_u1]; omega)) ?_
      refine wp_is3 iX9_speed_32 ?_
      refine wp_al0 iX9_speed_33 ?_
      refine wp_gR iX9_speed_34 fr_9_30 rfl rfl rfl ?_
      refine wp_il1 iX9_speed_37 ?_
      refine wp_il2 iX9_speed_38 ?_
      refine wp_is iX9_speed_39 rfl rfl (by first | omega | (simp [ab_up, ab_rw, ab_u1]; omega)) ?_
      refine wp_al0 iX9_speed_40 ?_
      refine wp_ic iX9_speed_41 (by decide) ?_
      refine wp_pI iX9_speed_42 fp_9_115 rfl ?_
      refine wp_il3 iX9_speed_45 ?_
      refine wp_ret iX9_speed_46 rfl ?_
      (refine ⟨?_, ?_⟩ <;> (repeat' split) <;> first | rfl | (exfalso; omega))
    · refine wp_ic iX9_speed_24 (by decide) ?_
      refine wp_ret iX9_speed_25 rfl ?_
      (refine ⟨?_, ?_⟩ <;> (repeat' split) <;> first | rfl | (exfalso; omega))
def mWv (M : ab_Me) (x z : Int) : ab_Me := ab_up (ab_up (ab_up M 9 (M 8 0).toNat x) 10 (M 8 0).toNat z) 8 0 (M 8 0 + 1)
theorem c_X7_add (x z : Int) (hz : z = 0 ∨ z = 1) (hn : 0 ≤ M 8 0 ∧ M 8 0 < 4) : cG L 1 mX7_add [.inr 8, .inl x, .inl z] M (M 8 0) (mWv M x z) := by
  refine cG_of rfl ?_
  change wp _ _ _ 0 [some (.inr 8), some (.inl x), some (.inl z)] [] _ _
  refine wp_al0 iX7_add_0 ?_
  refine wp_gR iX7_add_1 fr_7_15 rfl rfl rfl ?_
  refine wp_al0 iX7_add_4 ?_
  refine wp_gI iX7_add_5 fi_7_9 rfl ?_
  refine wp_il1 iX7_add_8 ?_
  refine wp_is iX7_add_9 rfl rfl (by first | omega | (simp [ab_up, ab_rw, ab_u1]; omega)) ?_
  refine wp_al0 iX7_add_10 ?_
  refine wp_gR iX7_add_11 fr_7_19 rfl rfl rfl ?_
  refine wp_al0 iX7_add_14 ?_
  refine wp_gI iX7_add_15 fi_7_9 rfl ?_
  refine wp_il2 iX7_add_18 ?_
  refine wp_bs iX7_add_19 rfl rfl (by first | omega | (simp [ab_up, ab_rw, ab_u1]; omega)) (by first | decide | omega) ?_
  refine wp_al0 iX7_add_20 ?_
  refine wp_dup iX7_add_21 ?_
  refine wp_gI iX7_add_22 fi_7_9 rfl ?_
  refine wp_ic iX7_add_25 (by decide) ?_
  refine wp_add iX7_add_26 (by first | omega | (simp [ab_up, ab_rw, ab_u1]; omega)) ?_
  refine wp_pI iX7_add_27 fp_7_9 rfl ?_
  refine wp_al0 iX7_add_30 ?_
  refine wp_gI iX7_add_31 fi_7_9 rfl ?_
  refine wp_ic iX7_add_34 (by decide) ?_
  refine wp_sub iX7_add_35 (by first | omega | (simp [ab_up, ab_rw, ab_u1]; omega)) ?_
  refine wp_ret iX7_add_36 rfl ?_
  (refine ⟨?_, rfl⟩; simp [ab_up, ab_u1])
theorem c_X8_weaver (x z : Int) (hz : z = 0 ∨ z = 1) (hn : 0 ≤ M 8 0 ∧ M 8 0 ≤ 4) : cG L 2 mX8_weaver [.inr 1, .inl x, .inl z] M (if 1 ≤ x ∧ x ≤ 20 then (if M 8 0 = 4 then -2 else M 8 0) else -1) (if 1 ≤ x ∧ x ≤ 20 then (if M 8 0 = 4 then M else mWv (mDn M) x z) else M) := by
  refine cG_of rfl ?_
  change wp _ _ _ 0 [some (.inr 1), some (.inl x), some (.inl z)] [] _ _
  refine wp_il1 iX8_weaver_0 ?_
  refine wp_ic iX8_weaver_1 (by decide) ?_
  refine wp_bp iX8_weaver_2 (by decide) ?_
  refine wp_s3f iX8_weaver_4 ml_8_51 rfl rfl rfl (c_X8_isFromTo _ _ _ _ _) ?_
  refine wp_bne iX8_weaver_7 (fun c_7 => ?_) (fun c_7 => ?_)
  · refine wp_al0 iX8_weaver_12 ?_
    refine wp_gR iX8_weaver_13 fr_8_10 rfl rfl rfl ?_
    refine wp_gR iX8_weaver_16 fr_8_181 rfl rfl rfl ?_
    refine wp_gI iX8_weaver_19 fi_8_185 rfl ?_
    refine wp_ic iX8_weaver_22 (by decide) ?_
    refine wp_cne iX8_weaver_23 (fun c_23 => ?_) (fun c_23 => ?_)
    · refine wp_al0 iX8_weaver_29 ?_
      refine wp_gR iX8_weaver_30 fr_8_10 rfl rfl rfl ?_
      refine wp_gR iX8_weaver_33 fr_8_65 rfl rfl rfl ?_
      refine wp_v0v iX8_weaver_36 ml_8_69 rfl rfl rfl rfl (c_X3_takeDown _ _) ?_
      refine wp_al0 iX8_weaver_39 ?_
      refine wp_gR iX8_weaver_40 fr_8_10 rfl rfl rfl ?_
      refine wp_gR iX8_weaver_43 fr_8_181 rfl rfl rfl ?_
      refine wp_il1 iX8_weaver_46 ?_
      refine wp_il2 iX8_weaver_47 ?_
      refine wp_v2g iX8_weaver_48 ml_8_188 rfl rfl rfl rfl (c_X7_add L (mDn M) x z hz (by show 0 ≤ M 8 0 ∧ M 8 0 < 4; omega)) ?_
      refine wp_ret iX8_weaver_51 rfl ?_
      (refine ⟨?_, ?_⟩ <;> (repeat' split) <;> first | rfl | (exfalso; omega))
    · refine wp_bp iX8_weaver_26 (by decide) ?_
      refine wp_ret iX8_weaver_28 rfl ?_
      (refine ⟨?_, ?_⟩ <;> (repeat' split) <;> first | rfl | (exfalso; omega))
  · refine wp_ic iX8_weaver_10 (by decide) ?_
    refine wp_ret iX8_weaver_11 rfl ?_
    (refine ⟨?_, ?_⟩ <;> (repeat' split) <;> first | rfl | (exfalso; omega))
theorem c_X8_speed (x y : Int) (hn : 0 ≤ M 8 0 ∧ M 8 0 ≤ 4) : cG L 2 mX8_speed [.inr 1, .inl x, .inl y] M (if (0 ≤ x ∧ x < M 8 0) ∧ 1 ≤ y ∧ y ≤ 20 then M 9 x.toNat else -1) (if (0 ≤ x ∧ x < M 8 0) ∧ 1 ≤ y ∧ y ≤ 20 then mDn (ab_up M 9 x.toNat y) else M) := by
  refine cG_of rfl ?_
  change wp _ _ _ 0 [some (.inr 1), some (.inl x), some (.inl y), none] [] _ _
  refine wp_il1 iX8_speed_0 ?_
  refine wp_al0 iX8_speed_1 ?_
  refine wp_gR iX8_speed_2 fr_8_10 rfl rfl rfl ?_
  refine wp_gR iX8_speed_5 fr_8_181 rfl rfl rfl ?_
  refine wp_gI iX8_speed_8 fi_8_185 rfl ?_
  refine wp_s2f iX8_speed_11 ml_8_132 rfl rfl rfl (c_X8_isBelow _ _ _ _) ?_
  refine wp_beq iX8_speed_14 (fun c_14 => ?_) (fun c_14 => ?_)
  · refine wp_ic iX8_speed_27 (by decide) ?_
    refine wp_ret iX8_speed_28 rfl ?_
    (refine ⟨?_, ?_⟩ <;> (repeat' split) <;> first | rfl | (exfalso; omega))
  · refine wp_il2 iX8_speed_17 ?_
    refine wp_ic iX8_speed_18 (by decide) ?_
    refine wp_bp iX8_speed_19 (by decide) ?_
    refine wp_s3f iX8_speed_21 ml_8_51 rfl rfl rfl (c_X8_isFromTo _ _ _ _ _) ?_
    refine wp_bne iX8_speed_24 (fun c_24 => ?_) (fun c_24 => ?_)
    · refine wp_al0 iX8_speed_29 ?_
      refine wp_gR iX8_speed_30 fr_8_10 rfl rfl rfl ?_
      refine wp_gR iX8_speed_33 fr_8_181 rfl rfl rfl ?_
      refine wp_gR iX8_speed_36 fr_8_191 rfl rfl rfl ?_
      refine wp_il1 iX8_speed_39 ?_
      refine wp_ia iX8_speed_40 rfl (by first | omega | (simp [ab_up, ab_rw, ab_u1]; omega)) ?_
      refine wp_is3 iX8_speed_41 ?_
      refine wp_al0 iX8_speed_42 ?_
      refine wp_gR iX8_speed_43 fr_8_10 rfl rfl rfl ?_
      refine wp_gR iX8_speed_46 fr_8_181 rfl rfl rfl ?_
      refine wp_gR iX8_speed_49 fr_8_191 rfl rfl rfl ?_
      refine wp_il1 iX8_speed_52 ?_
      refine wp_il2 iX8_speed_53 ?_
      refine wp_is iX8_speed_54 rfl rfl (by first | omega | (simp [ab_up, ab_rw, ab_u1]; omega)) ?_
      refine wp_al0 iX8_speed_55 ?_
      refine wp_gR iX8_speed_56 fr_8_10 rfl rfl rfl ?_
      refine wp_gR iX8_speed_59 fr_8_65 rfl rfl rfl ?_
      refine wp_v0v iX8_speed_62 ml_8_69 rfl rfl rfl rfl (c_X3_takeDown _ _) ?_
      refine wp_il3 iX8_speed_65 ?_
      refine wp_ret iX8_speed_66 rfl ?_
      (refine ⟨?_, ?_⟩ <;> (repeat' split) <;> first | rfl | (exfalso; omega))
    · refine wp_ic iX8_speed_27 (by decide) ?_
      refine wp_ret iX8_speed_28 rfl ?_
      (refine ⟨?_, ?_⟩ <;> (repeat' split) <;> first | rfl | (exfalso; omega))
end LotsW
