/-! ===== THE CARTOON of the class: cell 3, its squares cell 4 ===== -/
def sm (g : Nat → Int) : Nat → Int
  | 0 => 0
  | n + 1 => sm g n + g n
theorem sm_up (g : Nat → Int) {i : Int} (h : 0 ≤ i) : sm g (i + 1).toNat = sm g i.toNat + g i.toNat := by
  rw [show (i + 1).toNat = i.toNat + 1 by omega]
  rfl
theorem sm_bd (g : Nat → Int) (b : Int) (h : ∀ k, 0 ≤ g k ∧ g k ≤ b) (n : Nat) : 0 ≤ sm g n ∧ sm g n ≤ b * n := by
  induction n with
  | zero => simp [sm]
  | succ n ih =>
    have h1 := h n
    have e : b * ((n + 1 : Nat) : Int) = b * n + b := by rw [Int.natCast_add, Int.mul_add]; simp
    simp only [sm]
    rw [e]
    omega
def hB (M : ab_Me) : Prop := 1 ≤ M 3 0 ∧ M 3 0 ≤ 12 ∧ 1 ≤ M 3 1 ∧ M 3 1 ≤ 10 ∧ ∀ k, 0 ≤ M 4 k ∧ M 4 k < 16
section Board
variable (L : Nat) (M : ab_Me)
theorem c_X8_isColour (x : Int) : cF L 2 mX8_isColour [.inl x] M (if 0 ≤ x ∧ x < 8 then 1 else 0) := by
  refine cF_of rfl ?_
  change wp _ _ _ 0 [some (.inl x)] [] _ _
  refine wp_il0 iX8_isColour_0 ?_
  refine wp_bp iX8_isColour_1 (by decide) ?_
  refine wp_s2f iX8_isColour_3 ml_8_132 rfl rfl rfl (c_X8_isBelow _ _ _ _) ?_
  refine wp_retb iX8_isColour_6 rfl (by split <;> simp) ?_
  exact ⟨rfl, rfl⟩
theorem c_X8_isOnBoard (s n b : Int) (hb : 0 ≤ b ∧ b < 1000) (hs : s < 2147483648) : cF L 1 mX8_isOnBoard [.inl s, .inl n, .inl b] M (if 0 ≤ s ∧ 1 ≤ n ∧ n ≤ b - s then 1 else 0) := by
  refine cF_of rfl ?_
  change wp _ _ _ 0 [some (.inl s), some (.inl n), some (.inl b)] [] _ _
  refine wp_il0 iX8_isOnBoard_0 ?_
  refine wp_zlt iX8_isOnBoard_1 (fun c_1 => ?_) (fun c_1 => ?_)
  · refine wp_ic iX8_isOnBoard_20 (by decide) ?_
    refine wp_retb iX8_isOnBoard_21 rfl (by decide) ?_
    (simp; omega)
  · refine wp_il1 iX8_isOnBoard_4 ?_
    refine wp_ic iX8_isOnBoard_5 (by decide) ?_
    refine wp_clt iX8_isOnBoard_6 (fun c_6 => ?_) (fun c_6 => ?_)
    · refine wp_ic iX8_isOnBoard_20 (by decide) ?_
      refine wp_retb iX8_isOnBoard_21 rfl (by decide) ?_
      (simp; omega)
    · refine wp_il1 iX8_isOnBoard_9 ?_
      refine wp_il2 iX8_isOnBoard_10 ?_
      refine wp_il0 iX8_isOnBoard_11 ?_
      refine wp_sub iX8_isOnBoard_12 (by omega) ?_
      refine wp_cgt iX8_isOnBoard_13 (fun c_13 => ?_) (fun c_13 => ?_)
      · refine wp_ic iX8_isOnBoard_20 (by decide) ?_
        refine wp_retb iX8_isOnBoard_21 rfl (by decide) ?_
        (simp; omega)
      · refine wp_ic iX8_isOnBoard_16 (by decide) ?_
        refine wp_goto iX8_isOnBoard_17 ?_
        refine wp_retb iX8_isOnBoard_21 rfl (by decide) ?_
        (simp; omega)
theorem c_X8_cellOf (x y : Int) (h : (-1000000 ≤ x ∧ x ≤ 1000000) ∧ -1000000 ≤ y ∧ y ≤ 1000000) : cF L 1 mX8_cellOf [.inl x, .inl y] M (12 * y + x) := by
  refine cF_of rfl ?_
  change wp _ _ _ 0 [some (.inl x), some (.inl y)] [] _ _
  refine wp_il1 iX8_cellOf_0 ?_
  refine wp_bp iX8_cellOf_1 (by decide) ?_
  refine wp_mul iX8_cellOf_3 (by omega) ?_
  refine wp_il0 iX8_cellOf_4 ?_
  refine wp_add iX8_cellOf_5 (by omega) ?_
  refine wp_ret iX8_cellOf_6 rfl ?_
  (exact ⟨by rw [show y * 12 + x = 12 * y + x by omega], rfl⟩)
theorem c_X0_hasSquare (x y : Int) : cF L 2 mX0_hasSquare [.inr 3, .inl x, .inl y] M (if (0 ≤ x ∧ x < M 3 0) ∧ 0 ≤ y ∧ y < M 3 1 then 1 else 0) := by
  refine cF_of rfl ?_
  change wp _ _ _ 0 [some (.inr 3), some (.inl x), some (.inl y)] [] _ _
  refine wp_il1 iX0_hasSquare_0 ?_
  refine wp_al0 iX0_hasSquare_1 ?_
  refine wp_gI iX0_hasSquare_2 fi_0_9 rfl ?_
  refine wp_n2f iX0_hasSquare_5 ml_0_34 rfl rfl rfl (c_X8_isBelow _ _ _ _) ?_
  refine wp_beq iX0_hasSquare_8 (fun c_8 => ?_) (fun c_8 => ?_)
  · refine wp_ic iX0_hasSquare_26 (by decide) ?_
    refine wp_retb iX0_hasSquare_27 rfl (by decide) ?_
    (simp; omega)
  · refine wp_il2 iX0_hasSquare_11 ?_
    refine wp_al0 iX0_hasSquare_12 ?_
    refine wp_gI iX0_hasSquare_13 fi_0_15 rfl ?_
    refine wp_n2f iX0_hasSquare_16 ml_0_34 rfl rfl rfl (c_X8_isBelow _ _ _ _) ?_
    refine wp_beq iX0_hasSquare_19 (fun c_19 => ?_) (fun c_19 => ?_)
    · refine wp_ic iX0_hasSquare_26 (by decide) ?_
      refine wp_retb iX0_hasSquare_27 rfl (by decide) ?_
      (simp; omega)
    · refine wp_ic iX0_hasSquare_22 (by decide) ?_
      refine wp_goto iX0_hasSquare_23 ?_
      refine wp_retb iX0_hasSquare_27 rfl (by decide) ?_
      (simp; omega)
theorem c_X0_cellOfCartoon (x y : Int) (hC : 0 ≤ M 3 0 ∧ M 3 0 ≤ 12) (hx : -100 ≤ x ∧ x ≤ 100) (hy : -100 ≤ y ∧ y ≤ 100) : cF L 2 mX0_cellOfCartoon [.inr 3, .inl x, .inl y] M (12 * y + (M 3 0 - 1 - x)) := by
  refine cF_of rfl ?_
  change wp _ _ _ 0 [some (.inr 3), some (.inl x), some (.inl y)] [] _ _
  refine wp_al0 iX0_cellOfCartoon_0 ?_
  refine wp_gI iX0_cellOfCartoon_1 fi_0_9 rfl ?_
  refine wp_ic iX0_cellOfCartoon_4 (by decide) ?_
  refine wp_sub iX0_cellOfCartoon_5 (by omega) ?_
  refine wp_il1 iX0_cellOfCartoon_6 ?_
  refine wp_sub iX0_cellOfCartoon_7 (by omega) ?_
  refine wp_il2 iX0_cellOfCartoon_8 ?_
  refine wp_n2f iX0_cellOfCartoon_9 ml_0_38 rfl rfl rfl (c_X8_cellOf _ _ _ _ (by omega)) ?_
  refine wp_ret iX0_cellOfCartoon_12 rfl ?_
  (exact ⟨rfl, rfl⟩)
theorem c_X0_colourAt (k : Int) (hk : 0 ≤ k ∧ k < 120) (hv : 0 ≤ M 4 k.toNat ∧ M 4 k.toNat < 16) : cF L 1 mX0_colourAt [.inr 3, .inl k] M (M 4 k.toNat % 8) := by
  refine cF_of rfl ?_
  change wp _ _ _ 0 [some (.inr 3), some (.inl k)] [] _ _
  refine wp_al0 iX0_colourAt_0 ?_
  refine wp_gR iX0_colourAt_1 fr_0_18 rfl rfl rfl ?_
  refine wp_il1 iX0_colourAt_4 ?_
  refine wp_ia iX0_colourAt_5 rfl (by omega) ?_
  refine wp_bp iX0_colourAt_6 (by decide) ?_
  refine wp_and iX0_colourAt_8 (bt_7 hv) ?_
  refine wp_ret iX0_colourAt_9 rfl ?_
  (exact ⟨rfl, rfl⟩)
theorem c_X0_hasFace (k : Int) (hk : 0 ≤ k ∧ k < 120) (hv : 0 ≤ M 4 k.toNat ∧ M 4 k.toNat < 16) : cF L 1 mX0_hasFace [.inr 3, .inl k] M (if 8 ≤ M 4 k.toNat then 1 else 0) := by
  refine cF_of rfl ?_
  change wp _ _ _ 0 [some (.inr 3), some (.inl k)] [] _ _
  refine wp_al0 iX0_hasFace_0 ?_
  refine wp_gR iX0_hasFace_1 fr_0_18 rfl rfl rfl ?_
  refine wp_il1 iX0_hasFace_4 ?_
  refine wp_ia iX0_hasFace_5 rfl (by omega) ?_
  refine wp_bp iX0_hasFace_6 (by decide) ?_
  refine wp_and iX0_hasFace_8 (bt_8 hv) ?_
  refine wp_zeq iX0_hasFace_9 (fun c_9 => ?_) (fun c_9 => ?_)
  · refine wp_ic iX0_hasFace_16 (by decide) ?_
    refine wp_retb iX0_hasFace_17 rfl (by decide) ?_
    (simp; omega)
  · refine wp_ic iX0_hasFace_12 (by decide) ?_
    refine wp_goto iX0_hasFace_13 ?_
    refine wp_retb iX0_hasFace_17 rfl (by decide) ?_
    (simp; omega)
theorem c_X0_workAt (k : Int) (hk : 0 ≤ k ∧ k < 120) (hv : 0 ≤ M 4 k.toNat ∧ M 4 k.toNat < 16) : cF L 2 mX0_workAt [.inr 3, .inl k] M (if 8 ≤ M 4 k.toNat then 3 else 1) := by
  refine cF_of rfl ?_
  change wp _ _ _ 0 [some (.inr 3), some (.inl k)] [] _ _
  refine wp_al0 iX0_workAt_0 ?_
  refine wp_il1 iX0_workAt_1 ?_
  refine wp_v1f iX0_workAt_2 ml_0_42 rfl rfl rfl rfl (c_X0_hasFace L M k hk hv) ?_
  refine wp_beq iX0_workAt_5 (fun c_5 => ?_) (fun c_5 => ?_)
  · refine wp_ic iX0_workAt_12 (by decide) ?_
    refine wp_ret iX0_workAt_13 rfl ?_
    (simp; omega)
  · refine wp_ic iX0_workAt_8 (by decide) ?_
    refine wp_goto iX0_workAt_9 ?_
    refine wp_ret iX0_workAt_13 rfl ?_
    (simp; omega)
theorem c_X0_dip (k x : Int) (hk : 0 ≤ k ∧ k < 120) (hx : 0 ≤ x ∧ x < 8) (hv : 0 ≤ M 4 k.toNat ∧ M 4 k.toNat < 16) : cV L 1 mX0_dip [.inr 3, .inl k, .inl x] M (ab_up M 4 k.toNat (8 * (M 4 k.toNat / 8) + x)) := by
  refine cV_of rfl ?_
  change wp _ _ _ 0 [some (.inr 3), some (.inl k), some (.inl x)] [] _ _
  refine wp_al0 iX0_dip_0 ?_
  refine wp_gR iX0_dip_1 fr_0_18 rfl rfl rfl ?_
  refine wp_il1 iX0_dip_4 ?_
  refine wp_al0 iX0_dip_5 ?_
  refine wp_gR iX0_dip_6 fr_0_18 rfl rfl rfl ?_
  refine wp_il1 iX0_dip_9 ?_
  refine wp_ia iX0_dip_10 rfl (by omega) ?_
  refine wp_bp iX0_dip_11 (by decide) ?_
  refine wp_and iX0_dip_13 (bt_8 hv) ?_
  refine wp_il2 iX0_dip_14 ?_
  refine wp_or iX0_dip_15 (bt_o (by omega) hx) ?_
  refine wp_is iX0_dip_16 rfl rfl (by omega) ?_
  refine wp_retv iX0_dip_17 rfl ?_
  (exact ⟨rfl, rfl⟩)
theorem c_X0_turnFace (k : Int) (hk : 0 ≤ k ∧ k < 120) (hv : 0 ≤ M 4 k.toNat ∧ M 4 k.toNat < 16) : cV L 1 mX0_turnFace [.inr 3, .inl k] M (ab_up M 4 k.toNat (M 4 k.toNat % 8 + 8 * (1 - M 4 k.toNat / 8))) := by
  refine cV_of rfl ?_
  change wp _ _ _ 0 [some (.inr 3), some (.inl k)] [] _ _
  refine wp_al0 iX0_turnFace_0 ?_
  refine wp_gR iX0_turnFace_1 fr_0_18 rfl rfl rfl ?_
  refine wp_il1 iX0_turnFace_4 ?_
  refine wp_dup2 iX0_turnFace_5 ?_
  refine wp_ia iX0_turnFace_6 rfl (by omega) ?_
  refine wp_bp iX0_turnFace_7 (by decide) ?_
  refine wp_xor iX0_turnFace_9 (bt_x hv) ?_
  refine wp_is iX0_turnFace_10 rfl rfl (by omega) ?_
  refine wp_retv iX0_turnFace_11 rfl ?_
  (exact ⟨rfl, rfl⟩)
def fcW (M : ab_Me) (w : Int) : Nat → Int := fun p => M 4 (12 * (p : Int) + w).toNat / 8
theorem fcW_bd (hM : hB M) (w : Int) (k : Nat) : 0 ≤ fcW M w k ∧ fcW M w k ≤ 1 := by
  have := hM.2.2.2.2 (12 * (k : Int) + w).toNat
  unfold fcW
  omega
theorem c_X0_facesOfWarp (hM : hB M) (w : Int) (hw : 0 ≤ w ∧ w < 12) : cF L 2 mX0_facesOfWarp [.inr 3, .inl w] M (sm (fcW M w) (M 3 1).toNat) := by
  obtain ⟨h1, h2, h3, h4, h5⟩ := id hM
  refine cF_of rfl ?_
  change wp _ _ _ 0 [some (.inr 3), some (.inl w), none, none] [] _ _
  refine wp_ic iX0_facesOfWarp_0 (by decide) ?_
  refine wp_is2 iX0_facesOfWarp_1 ?_
  refine wp_ic iX0_facesOfWarp_2 (by decide) ?_
  refine wp_is3 iX0_facesOfWarp_3 ?_
  have key : ∀ (n : Nat) (i acc : Int), (M 3 1 - i).toNat = n → 0 ≤ i → i ≤ M 3 1 → acc = sm (fcW M w) i.toNat → wp L 1 mX0_facesOfWarp 4 [some (.inr 3), some (.inl w), some (.inl acc), some (.inl i)] [] M (fun r M1 => r = some (.inl (sm (fcW M w) (M 3 1).toNat)) ∧ M1 = M) := by
    intro n
    induction n using Nat.strongRecOn with
    | ind n ih =>
      intro i acc hn hi0 hi1 hacc
      have hb := sm_bd (fcW M w) 1 (fcW_bd M hM w) i.toNat
      have hv := h5 (12 * i + w).toNat
      have hs := sm_up (fcW M w) hi0
      have hf : fcW M w i.toNat = M 4 (12 * i + w).toNat / 8 := by unfold fcW; rw [show ((i.toNat : Nat) : Int) = i by omega]
      refine wp_il3 iX0_facesOfWarp_4 ?_
      refine wp_al0 iX0_facesOfWarp_5 ?_
      refine wp_gI iX0_facesOfWarp_6 fi_0_15 rfl ?_
      refine wp_cge iX0_facesOfWarp_9 (fun c_9 => ?_) (fun c_9 => ?_)
      · refine wp_il2 iX0_facesOfWarp_33 ?_
        refine wp_ret iX0_facesOfWarp_34 rfl ?_
        (exact ⟨by rw [hacc, show i = M 3 1 by omega], rfl⟩)
      · refine wp_al0 iX0_facesOfWarp_12 ?_
        refine wp_il1 iX0_facesOfWarp_13 ?_
        refine wp_il3 iX0_facesOfWarp_14 ?_
        refine wp_n2f iX0_facesOfWarp_15 ml_0_38 rfl rfl rfl (c_X8_cellOf _ _ _ _ (by omega)) ?_
        refine wp_v1f iX0_facesOfWarp_18 ml_0_42 rfl rfl rfl rfl (c_X0_hasFace L M (12 * i + w) (by omega) hv) ?_
        refine wp_beq iX0_facesOfWarp_21 (fun c_21 => ?_) (fun c_21 => ?_)
        · refine wp_ii3 iX0_facesOfWarp_27 (by omega) ?_
          refine wp_goto iX0_facesOfWarp_30 ?_
          exact ih _ (by omega) (i + 1) acc rfl (by omega) (by omega) (by rw [hs, hf, hacc]; omega)
        · refine wp_ii2 iX0_facesOfWarp_24 (by omega) ?_
          refine wp_ii3 iX0_facesOfWarp_27 (by omega) ?_
          refine wp_goto iX0_facesOfWarp_30 ?_
          exact ih _ (by omega) (i + 1) (acc + 1) rfl (by omega) (by omega) (by rw [hs, hf, hacc]; omega)
  exact key _ 0 0 rfl (by omega) (by omega) rfl
theorem c_X0_workOfWarp (hM : hB M) (w : Int) (hw : 0 ≤ w ∧ w < 12) : cF L 3 mX0_workOfWarp [.inr 3, .inl w] M (M 3 1 + 2 * sm (fcW M w) (M 3 1).toNat) := by
  obtain ⟨h1, h2, h3, h4, h5⟩ := id hM
  have hb := sm_bd (fcW M w) 1 (fcW_bd M hM w) (M 3 1).toNat
  refine cF_of rfl ?_
  change wp _ _ _ 0 [some (.inr 3), some (.inl w)] [] _ _
  refine wp_al0 iX0_workOfWarp_0 ?_
  refine wp_gI iX0_workOfWarp_1 fi_0_15 rfl ?_
  refine wp_ic iX0_workOfWarp_4 (by decide) ?_
  refine wp_al0 iX0_workOfWarp_5 ?_
  refine wp_il1 iX0_workOfWarp_6 ?_
  refine wp_v1f iX0_workOfWarp_7 ml_0_46 rfl rfl rfl rfl (c_X0_facesOfWarp L M hM w hw) ?_
  refine wp_mul iX0_workOfWarp_10 (by omega) ?_
  refine wp_add iX0_workOfWarp_11 (by omega) ?_
  refine wp_ret iX0_workOfWarp_12 rfl ?_
  (exact ⟨rfl, rfl⟩)
def ul (M : ab_Me) (w p : Int) : Prop := ¬ M 4 (12 * p + w).toNat % 8 = M 4 (12 * p + (w + 1)).toNat % 8
theorem c_X0_isSlitAt (hM : hB M) (w p : Int) (hw : 0 ≤ w ∧ w < 11) (hp : 0 ≤ p ∧ p < 10) : cF L 2 mX0_isSlitAt [.inr 3, .inl w, .inl p] M (if ¬ M 4 (12 * p + w).toNat % 8 = M 4 (12 * p + (w + 1)).toNat % 8 then 1 else 0) := by
  obtain ⟨h1, h2, h3, h4, h5⟩ := id hM
  refine cF_of rfl ?_
  change wp _ _ _ 0 [some (.inr 3), some (.inl w), some (.inl p)] [] _ _
  refine wp_al0 iX0_isSlitAt_0 ?_
  refine wp_il1 iX0_isSlitAt_1 ?_
  refine wp_il2 iX0_isSlitAt_2 ?_
  refine wp_n2f iX0_isSlitAt_3 ml_0_38 rfl rfl rfl (c_X8_cellOf _ _ _ _ (by omega)) ?_
  refine wp_v1f iX0_isSlitAt_6 ml_0_50 rfl rfl rfl rfl (c_X0_colourAt L M (12 * p + w) (by omega) (h5 _)) ?_
  refine wp_al0 iX0_isSlitAt_9 ?_
  refine wp_il1 iX0_isSlitAt_10 ?_
  refine wp_ic iX0_isSlitAt_11 (by decide) ?_
  refine wp_add iX0_isSlitAt_12 (by omega) ?_
  refine wp_il2 iX0_isSlitAt_13 ?_
  refine wp_n2f iX0_isSlitAt_14 ml_0_38 rfl rfl rfl (c_X8_cellOf _ _ _ _ (by omega)) ?_
  refine wp_v1f iX0_isSlitAt_17 ml_0_50 rfl rfl rfl rfl (c_X0_colourAt L M (12 * p + (w + 1)) (by omega) (h5 _)) ?_
  refine wp_ceq iX0_isSlitAt_20 (fun c_20 => ?_) (fun c_20 => ?_)
  · refine wp_ic iX0_isSlitAt_27 (by decide) ?_
    refine wp_retb iX0_isSlitAt_28 rfl (by decide) ?_
    (simp [*])
  · refine wp_ic iX0_isSlitAt_23 (by decide) ?_
    refine wp_goto iX0_isSlitAt_24 ?_
    refine wp_retb iX0_isSlitAt_28 rfl (by decide) ?_
    (simp [*])
end Board
