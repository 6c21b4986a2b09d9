/-! ===== paint of the class; FACES counted ===== -/
def inR (C c r w row col : Int) (k : Nat) : Prop := c ≤ C - 1 - (k : Int) % 12 ∧ C - 1 - (k : Int) % 12 < c + w ∧ r ≤ (k : Int) / 12 ∧ ((k : Int) / 12 < row ∨ ((k : Int) / 12 = row ∧ C - 1 - (k : Int) % 12 < col))
theorem inR_iff (C c r w row col : Int) (k : Nat) : inR C c r w row col k ↔ (c ≤ C - 1 - (k : Int) % 12 ∧ C - 1 - (k : Int) % 12 < c + w ∧ r ≤ (k : Int) / 12 ∧ ((k : Int) / 12 < row ∨ ((k : Int) / 12 = row ∧ C - 1 - (k : Int) % 12 < col))) := Iff.rfl
def inB (C c r w row col : Int) (k : Nat) : Bool := decide (c ≤ C - 1 - (k : Int) % 12) && decide (C - 1 - (k : Int) % 12 < c + w) && decide (r ≤ (k : Int) / 12) && (decide ((k : Int) / 12 < row) || (decide ((k : Int) / 12 = row) && decide (C - 1 - (k : Int) % 12 < col)))
theorem inB_iff (C c r w row col : Int) (k : Nat) : inB C c r w row col k = true ↔ inR C c r w row col k := by
  simp [inB, inR, and_assoc]
def fX (f : Nat → Int) (C c r w x row col : Int) : Nat → Int := fun k => if inB C c r w row col k = true then 8 * (f k / 8) + x else f k
theorem fX_congr {f : Nat → Int} {C c r w x row col row2 col2 : Int} (h : ∀ k, inR C c r w row col k ↔ inR C c r w row2 col2 k) : fX f C c r w x row col = fX f C c r w x row2 col2 := by
  funext k
  unfold fX
  by_cases hk : inB C c r w row col k = true
  · rw [if_pos hk, if_pos ((inB_iff _ _ _ _ _ _ _).mpr ((h k).mp ((inB_iff _ _ _ _ _ _ _).mp hk)))]
  · rw [if_neg hk, if_neg (fun q => hk ((inB_iff _ _ _ _ _ _ _).mpr ((h k).mpr ((inB_iff _ _ _ _ _ _ _).mp q))))]
theorem fX_up {f : Nat → Int} {C c r w x row col : Int} (hC : 1 ≤ C ∧ C ≤ 12) (hc : 0 ≤ c) (hcol : c ≤ col ∧ col < c + w ∧ col < C) (hr : 0 ≤ r ∧ r ≤ row) : ab_u1 (fX f C c r w x row col) (12 * row + (C - 1 - col)).toNat (8 * (fX f C c r w x row col (12 * row + (C - 1 - col)).toNat / 8) + x) = fX f C c r w x row (col + 1) := by
  have h0 : fX f C c r w x row col (12 * row + (C - 1 - col)).toNat = f (12 * row + (C - 1 - col)).toNat := by
    unfold fX
    rw [if_neg]
    intro q
    have q := (inB_iff _ _ _ _ _ _ _).mp q
    unfold inR at q
    omega
  rw [h0]
  funext k
  unfold ab_u1
  by_cases hk : k = (12 * row + (C - 1 - col)).toNat
  · rw [if_pos hk]
    unfold fX
    rw [if_pos ((inB_iff _ _ _ _ _ _ _).mpr (by unfold inR; omega)), hk]
  · rw [if_neg hk]
    unfold fX
    by_cases hz : inB C c r w row col k = true
    · have z := (inB_iff _ _ _ _ _ _ _).mp hz
      rw [if_pos hz, if_pos ((inB_iff _ _ _ _ _ _ _).mpr (by unfold inR at z ⊢; omega))]
    · rw [if_neg hz, if_neg (fun q => hz ((inB_iff _ _ _ _ _ _ _).mpr (by
        have q := (inB_iff _ _ _ _ _ _ _).mp q
        unfold inR at q ⊢
        omega)))]
theorem fX_row {f : Nat → Int} {C c r w x row : Int} : fX f C c r w x row (c + w) = fX f C c r w x (row + 1) c := fX_congr (fun k => by unfold inR; omega)
theorem fX_0 {f : Nat → Int} {C c r w x : Int} : fX f C c r w x r c = f := by
  funext k
  unfold fX
  rw [if_neg]
  intro q
  have q := (inB_iff _ _ _ _ _ _ _).mp q
  unfold inR at q
  omega
theorem fX_bd {f : Nat → Int} {C c r w x row col : Int} (hf : ∀ k, 0 ≤ f k ∧ f k < 16) (hx : 0 ≤ x ∧ x < 8) (k : Nat) : 0 ≤ fX f C c r w x row col k ∧ fX f C c r w x row col k < 16 := by
  have := hf k
  unfold fX
  split <;> omega
theorem rw_rw (M : ab_Me) (a : Nat) (f g : Nat → Int) : ab_rw (ab_rw M a f) a g = ab_rw M a g := by
  funext b
  by_cases hb : b = a
  · subst hb; rw [ab_rw_self, ab_rw_self]
  · rw [ab_rw_ne _ _ hb, ab_rw_ne _ _ hb, ab_rw_ne _ _ hb]
theorem up_rw (M : ab_Me) (a k : Nat) (z : Int) : ab_up M a k z = ab_rw M a (ab_u1 (M a) k z) := rfl
theorem rw_self (M : ab_Me) (a : Nat) : ab_rw M a (M a) = M := by
  funext b
  by_cases hb : b = a
  · subst hb; rw [ab_rw_self]
  · rw [ab_rw_ne _ _ hb]
section PaintX
variable (L : Nat) (M : ab_Me)
theorem c_X8_paint (hM : hB M) (c r w h x : Int) (hc : c < 2147483648) (hr : r < 2147483648) : cG L 3 mX8_paint [.inr 1, .inl c, .inl r, .inl w, .inl h, .inl x] M
    (if (0 ≤ c ∧ 1 ≤ w ∧ w ≤ M 3 0 - c) ∧ (0 ≤ r ∧ 1 ≤ h ∧ h ≤ M 3 1 - r) ∧ 0 ≤ x ∧ x < 8 then w * h else -1)
    (if (0 ≤ c ∧ 1 ≤ w ∧ w ≤ M 3 0 - c) ∧ (0 ≤ r ∧ 1 ≤ h ∧ h ≤ M 3 1 - r) ∧ 0 ≤ x ∧ x < 8 then mDn (ab_rw M 4 (fX (M 4) (M 3 0) c r w x (r + h) c)) else M) := by
  obtain ⟨h1, h2, h3, h4, h5⟩ := id hM
  by_cases hq : (0 ≤ c ∧ 1 ≤ w ∧ w ≤ M 3 0 - c) ∧ (0 ≤ r ∧ 1 ≤ h ∧ h ≤ M 3 1 - r) ∧ 0 ≤ x ∧ x < 8
  · rw [if_pos hq, if_pos hq]
    obtain ⟨⟨hc0, hw1, hwC⟩, ⟨hr0, hh1, hhR⟩, hx0, hx1⟩ := hq
    refine cG_of rfl ?_
    change wp _ _ _ 0 [some (.inr 1), some (.inl c), some (.inl r), some (.inl w), some (.inl h), some (.inl x), none, none, none] [] _ _
    have hm : -2147483648 ≤ w * h ∧ w * h < 2147483648 := by
      have g1 : w * h ≤ 12 * 10 := Int.mul_le_mul (by omega) (by omega) (by omega) (by omega)
      have g2 : 0 ≤ w * h := Int.mul_nonneg (by omega) (by omega)
      omega
    have key : ∀ (n : Nat) (row : Int), (r + h - row).toNat = n → r ≤ row → row ≤ r + h → ∀ v8 : Option ab_V, wp L 2 mX8_paint 49 [some (.inr 1), some (.inl c), some (.inl r), some (.inl w), some (.inl h), some (.inl x), some (.inr 3), some (.inl row), v8] [] (ab_rw M 4 (fX (M 4) (M 3 0) c r w x row c)) (fun r0 M2 => r0 = some (.inl (w * h)) ∧ M2 = mDn (ab_rw M 4 (fX (M 4) (M 3 0) c r w x (r + h) c))) := by
      intro n
      induction n using Nat.strongRecOn with
      | ind n ih =>
        intro row hn hrow0 hrow1 v8
        refine wp_il7 iX8_paint_49 ?_
        refine wp_il2 iX8_paint_51 ?_
        refine wp_il4 iX8_paint_52 ?_
        refine wp_add iX8_paint_54 (by omega) ?_
        refine wp_cge iX8_paint_55 (fun c_55 => ?_) (fun c_55 => ?_)
        · rw [show row = r + h by omega]
          refine wp_al0 iX8_paint_97 ?_
          refine wp_gR iX8_paint_98 fr_8_10 rfl rfl rfl ?_
          refine wp_gR iX8_paint_101 fr_8_65 rfl rfl rfl ?_
          refine wp_v0v iX8_paint_104 ml_8_69 rfl rfl rfl rfl (c_X3_takeDown _ _) ?_
          refine wp_il3 iX8_paint_107 ?_
          refine wp_il4 iX8_paint_108 ?_
          refine wp_mul iX8_paint_110 hm ?_
          refine wp_ret iX8_paint_111 rfl ?_
          exact ⟨rfl, rfl⟩
        · refine wp_il1 iX8_paint_58 ?_
          refine wp_is8 iX8_paint_59 ?_
          have key2 : ∀ (j : Nat) (col : Int), (c + w - col).toNat = j → c ≤ col → col ≤ c + w → wp L 2 mX8_paint 61 [some (.inr 1), some (.inl c), some (.inl r), some (.inl w), some (.inl h), some (.inl x), some (.inr 3), some (.inl row), some (.inl col)] [] (ab_rw M 4 (fX (M 4) (M 3 0) c r w x row col)) (fun r0 M2 => r0 = some (.inl (w * h)) ∧ M2 = mDn (ab_rw M 4 (fX (M 4) (M 3 0) c r w x (r + h) c))) := by
            intro j
            induction j using Nat.strongRecOn with
            | ind j ih2 =>
              intro col hj hcol0 hcol1
              refine wp_il8 iX8_paint_61 ?_
              refine wp_il1 iX8_paint_63 ?_
              refine wp_il3 iX8_paint_64 ?_
              refine wp_add iX8_paint_65 (by omega) ?_
              refine wp_cge iX8_paint_66 (fun c_66 => ?_) (fun c_66 => ?_)
              · refine wp_ii7 iX8_paint_91 (by omega) ?_
                refine wp_goto iX8_paint_94 ?_
                rw [show col = c + w by omega, fX_row]
                exact ih _ (by omega) (row + 1) rfl (by omega) (by omega) _
              · have hcl : cF L 2 mX0_cellOfCartoon [.inr 3, .inl col, .inl row] (ab_rw M 4 (fX (M 4) (M 3 0) c r w x row col)) (12 * row + (M 3 0 - 1 - col)) := c_X0_cellOfCartoon L (ab_rw M 4 (fX (M 4) (M 3 0) c r w x row col)) col row (by show 0 ≤ M 3 0 ∧ M 3 0 ≤ 12; omega) (by omega) (by omega)
                have hdp := c_X0_dip L (ab_rw M 4 (fX (M 4) (M 3 0) c r w x row col)) (12 * row + (M 3 0 - 1 - col)) x (by omega) ⟨hx0, hx1⟩ (by rw [ab_rw_self]; exact fX_bd h5 ⟨hx0, hx1⟩ _)
                refine wp_al6 iX8_paint_69 ?_
                refine wp_al6 iX8_paint_71 ?_
                refine wp_il8 iX8_paint_73 ?_
                refine wp_il7 iX8_paint_75 ?_
                refine wp_v2f iX8_paint_77 ml_8_87 rfl rfl rfl rfl (hcl) ?_
                refine wp_il5 iX8_paint_80 ?_
                refine wp_v2v iX8_paint_82 ml_8_91 rfl rfl rfl rfl (hdp) ?_
                rw [up_rw, rw_rw, ab_rw_self, fX_up ⟨h1, h2⟩ hc0 ⟨hcol0, by omega, by omega⟩ ⟨hr0, hrow0⟩]
                refine wp_ii8 iX8_paint_85 (by omega) ?_
                refine wp_goto iX8_paint_88 ?_
                exact ih2 _ (by omega) (col + 1) rfl (by omega) (by omega)
          exact key2 _ c rfl (by omega) (by omega)
    have k0 := key _ r rfl (by omega) (by omega) none
    rw [fX_0, rw_self] at k0
    refine wp_al0 iX8_paint_0 ?_
    refine wp_gR iX8_paint_1 fr_8_10 rfl rfl rfl ?_
    refine wp_gR iX8_paint_4 fr_8_55 rfl rfl rfl ?_
    refine wp_as6 iX8_paint_7 ?_
    refine wp_il1 iX8_paint_9 ?_
    refine wp_il3 iX8_paint_10 ?_
    refine wp_al6 iX8_paint_11 ?_
    refine wp_gI iX8_paint_13 fi_8_74 rfl ?_
    refine wp_s3f iX8_paint_16 ml_8_77 rfl rfl rfl (c_X8_isOnBoard L M c w (M 3 0) (by omega) hc) ?_
    refine wp_beq iX8_paint_19 (fun c_19 => ?_) (fun c_19 => ?_)
    · refine wp_ic iX8_paint_44 (by decide) ?_
      refine wp_ret iX8_paint_45 rfl ?_
      (exfalso; omega)
    · refine wp_il2 iX8_paint_22 ?_
      refine wp_il4 iX8_paint_23 ?_
      refine wp_al6 iX8_paint_25 ?_
      refine wp_gI iX8_paint_27 fi_8_80 rfl ?_
      refine wp_s3f iX8_paint_30 ml_8_77 rfl rfl rfl (c_X8_isOnBoard L M r h (M 3 1) (by omega) hr) ?_
      refine wp_beq iX8_paint_33 (fun c_33 => ?_) (fun c_33 => ?_)
      · refine wp_ic iX8_paint_44 (by decide) ?_
        refine wp_ret iX8_paint_45 rfl ?_
        (exfalso; omega)
      · refine wp_il5 iX8_paint_36 ?_
        refine wp_s1f iX8_paint_38 ml_8_83 rfl rfl rfl (c_X8_isColour _ _ _) ?_
        refine wp_bne iX8_paint_41 (fun c_41 => ?_) (fun c_41 => ?_)
        · refine wp_il2 iX8_paint_46 ?_
          refine wp_is7 iX8_paint_47 ?_
          exact k0
        · refine wp_ic iX8_paint_44 (by decide) ?_
          refine wp_ret iX8_paint_45 rfl ?_
          (exfalso; omega)
  · rw [if_neg hq, if_neg hq]
    refine cG_of rfl ?_
    change wp _ _ _ 0 [some (.inr 1), some (.inl c), some (.inl r), some (.inl w), some (.inl h), some (.inl x), none, none, none] [] _ _
    refine wp_al0 iX8_paint_0 ?_
    refine wp_gR iX8_paint_1 fr_8_10 rfl rfl rfl ?_
    refine wp_gR iX8_paint_4 fr_8_55 rfl rfl rfl ?_
    refine wp_as6 iX8_paint_7 ?_
    refine wp_il1 iX8_paint_9 ?_
    refine wp_il3 iX8_paint_10 ?_
    refine wp_al6 iX8_paint_11 ?_
    refine wp_gI iX8_paint_13 fi_8_74 rfl ?_
    refine wp_s3f iX8_paint_16 ml_8_77 rfl rfl rfl (c_X8_isOnBoard L M c w (M 3 0) (by omega) hc) ?_
    refine wp_beq iX8_paint_19 (fun c_19 => ?_) (fun c_19 => ?_)
    · refine wp_ic iX8_paint_44 (by decide) ?_
      refine wp_ret iX8_paint_45 rfl ?_
      (exact ⟨rfl, rfl⟩)
    · refine wp_il2 iX8_paint_22 ?_
      refine wp_il4 iX8_paint_23 ?_
      refine wp_al6 iX8_paint_25 ?_
      refine wp_gI iX8_paint_27 fi_8_80 rfl ?_
      refine wp_s3f iX8_paint_30 ml_8_77 rfl rfl rfl (c_X8_isOnBoard L M r h (M 3 1) (by omega) hr) ?_
      refine wp_beq iX8_paint_33 (fun c_33 => ?_) (fun c_33 => ?_)
      · refine wp_ic iX8_paint_44 (by decide) ?_
        refine wp_ret iX8_paint_45 rfl ?_
        (exact ⟨rfl, rfl⟩)
      · refine wp_il5 iX8_paint_36 ?_
        refine wp_s1f iX8_paint_38 ml_8_83 rfl rfl rfl (c_X8_isColour _ _ _) ?_
        refine wp_bne iX8_paint_41 (fun c_41 => ?_) (fun c_41 => ?_)
        · exact absurd ⟨‹_›, ‹_›, ‹_›⟩ hq
        · refine wp_ic iX8_paint_44 (by decide) ?_
          refine wp_ret iX8_paint_45 rfl ?_
          (exact ⟨rfl, rfl⟩)
theorem c_X0_countFaces (hM : hB M) : cF L 3 mX0_countFaces [.inr 3] M (sm (fun w => sm (fcW M w) (M 3 1).toNat) (M 3 0).toNat) := by
  obtain ⟨h1, h2, h3, h4, h5⟩ := id hM
  refine cF_of rfl ?_
  change wp _ _ _ 0 [some (.inr 3), none, none] [] _ _
  refine wp_ic iX0_countFaces_0 (by decide) ?_
  refine wp_is1 iX0_countFaces_1 ?_
  refine wp_ic iX0_countFaces_2 (by decide) ?_
  refine wp_is2 iX0_countFaces_3 ?_
  have hb10 : ∀ w : Nat, 0 ≤ sm (fcW M w) (M 3 1).toNat ∧ sm (fcW M w) (M 3 1).toNat ≤ 10 := fun w => by
    have := sm_bd (fcW M w) 1 (fcW_bd M hM w) (M 3 1).toNat
    omega
  have key : ∀ (n : Nat) (w acc : Int), (M 3 0 - w).toNat = n → 0 ≤ w → w ≤ M 3 0 → acc = sm (fun w => sm (fcW M w) (M 3 1).toNat) w.toNat → wp L 2 mX0_countFaces 4 [some (.inr 3), some (.inl acc), some (.inl w)] [] M (fun r M1 => r = some (.inl (sm (fun w => sm (fcW M w) (M 3 1).toNat) (M 3 0).toNat)) ∧ M1 = M) := by
    intro n
    induction n using Nat.strongRecOn with
    | ind n ih =>
      intro w acc hn hw0 hw1 hacc
      have hb := sm_bd (fun w : Nat => sm (fcW M w) (M 3 1).toNat) 10 hb10 w.toNat
      have hb2 := hb10 w.toNat
      rw [toNat_cast hw0] at hb2
      have hs := sm_up (fun w : Nat => sm (fcW M w) (M 3 1).toNat) hw0
      simp only [toNat_cast hw0] at hs
      refine wp_il2 iX0_countFaces_4 ?_
      refine wp_al0 iX0_countFaces_5 ?_
      refine wp_gI iX0_countFaces_6 fi_0_9 rfl ?_
      refine wp_cge iX0_countFaces_9 (fun c_9 => ?_) (fun c_9 => ?_)
      · refine wp_il1 iX0_countFaces_26 ?_
        refine wp_ret iX0_countFaces_27 rfl ?_
        (exact ⟨by rw [hacc, show w = M 3 0 by omega], rfl⟩)
      · refine wp_il1 iX0_countFaces_12 ?_
        refine wp_al0 iX0_countFaces_13 ?_
        refine wp_il2 iX0_countFaces_14 ?_
        refine wp_v1f iX0_countFaces_15 ml_0_46 rfl rfl rfl rfl (c_X0_facesOfWarp L M hM w (by omega)) ?_
        refine wp_add iX0_countFaces_18 (by omega) ?_
        refine wp_is1 iX0_countFaces_19 ?_
        refine wp_ii2 iX0_countFaces_20 (by omega) ?_
        refine wp_goto iX0_countFaces_23 ?_
        exact ih _ (by omega) (w + 1) _ rfl (by omega) (by omega) (by rw [hs, hacc])
  exact key _ 0 0 rfl (by omega) (by omega) rfl
end PaintX
