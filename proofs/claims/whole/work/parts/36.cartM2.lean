theorem stp_0 (S n t : Int) : stp 0 S n t = t + (if 0 < n then 1 else 0) := by simp [stp]
theorem stp_1 (S n t : Int) : stp 1 S n t = t + (if S < n then 1 else 0) := by simp [stp]
theorem stp_2 (S n t : Int) : stp 2 S n t = t + (if S < n then n else 0) := by simp [stp]
theorem stp_3 (S n t : Int) : stp 3 S n t = if t < n then n else t := by simp [stp]
def fM (f : Nat → Int) (C c r w h x col row : Int) : Nat → Int := fun k => if (decide (r ≤ (k : Int) / 12) && decide ((k : Int) / 12 < r + h) && decide (c ≤ C - 1 - (k : Int) % 12) && (decide (C - 1 - (k : Int) % 12 < col) || (decide (C - 1 - (k : Int) % 12 = col) && decide ((k : Int) / 12 < row)))) = true then x else f k
def inM (C c r h col row : Int) (k : Nat) : Prop := r ≤ (k : Int) / 12 ∧ (k : Int) / 12 < r + h ∧ c ≤ C - 1 - (k : Int) % 12 ∧ (C - 1 - (k : Int) % 12 < col ∨ (C - 1 - (k : Int) % 12 = col ∧ (k : Int) / 12 < row))
theorem fM_pos {f : Nat → Int} {C c r w h x col row : Int} {k : Nat} (q : inM C c r h col row k) : fM f C c r w h x col row k = x := by
  unfold fM
  rw [if_pos]
  unfold inM at q
  simpa [and_assoc] using q
theorem fM_neg {f : Nat → Int} {C c r w h x col row : Int} {k : Nat} (q : ¬ inM C c r h col row k) : fM f C c r w h x col row k = f k := by
  unfold fM
  rw [if_neg]
  intro z
  apply q
  unfold inM
  simpa [and_assoc] using z
theorem fM_congr {f : Nat → Int} {C c r w h x col row col2 row2 : Int} (g : ∀ k, inM C c r h col row k ↔ inM C c r h col2 row2 k) : fM f C c r w h x col row = fM f C c r w h x col2 row2 := by
  funext k
  by_cases q : inM C c r h col row k
  · rw [fM_pos q, fM_pos ((g k).mp q)]
  · rw [fM_neg q, fM_neg (fun z => q ((g k).mpr z))]
theorem fM_up {f : Nat → Int} {C c r w h x col row : Int} (hC : 1 ≤ C ∧ C ≤ 12) (hc : 0 ≤ c ∧ c ≤ col ∧ col < C) (hr : 0 ≤ r ∧ r ≤ row ∧ row < r + h) : ab_u1 (fM f C c r w h x col row) (12 * row + (C - 1 - col)).toNat x = fM f C c r w h x col (row + 1) := by
  funext k
  unfold ab_u1
  by_cases hk : k = (12 * row + (C - 1 - col)).toNat
  · rw [if_pos hk, fM_pos (by unfold inM; omega)]
  · rw [if_neg hk]
    by_cases q : inM C c r h col row k
    · rw [fM_pos q, fM_pos (by unfold inM at q ⊢; omega)]
    · rw [fM_neg q, fM_neg (fun z => q (by unfold inM at z ⊢; omega))]
theorem fM_col {f : Nat → Int} {C c r w h x col : Int} : fM f C c r w h x col (r + h) = fM f C c r w h x (col + 1) r := fM_congr (fun k => by unfold inM; omega)
theorem fM_0 {f : Nat → Int} {C c r w h x : Int} : fM f C c r w h x c r = f := by
  funext k
  rw [fM_neg (by unfold inM; omega)]
section CartM2
variable (L : Nat) (M : ab_Me)
theorem c_X9_face (h : hM M) (x y z : Int) (hz : z = 0 ∨ z = 1) : cG L 3 mX9_face [.inr 56, .inl x, .inl y, .inl z] M
    (if (0 ≤ x ∧ x < M 56 0) ∧ 0 ≤ y ∧ y < M 56 1 then (if M 58 (12 * y + (M 56 0 - 1 - x)).toNat = z then 0 else 1) else -1)
    (if (0 ≤ x ∧ x < M 56 0) ∧ 0 ≤ y ∧ y < M 56 1 then (if M 58 (12 * y + (M 56 0 - 1 - x)).toNat = z then M else ab_up (ab_up M 58 (12 * y + (M 56 0 - 1 - x)).toNat z) 56 12 0) else M) := by
  obtain ⟨h1, h2, h3, h4, h5, h6⟩ := id h
  refine cG_of rfl ?_
  change wp _ _ _ 0 [some (.inr 56), some (.inl x), some (.inl y), some (.inl z)] [] _ _
  refine wp_al0 iX9_face_0 ?_
  refine wp_il1 iX9_face_1 ?_
  refine wp_il2 iX9_face_2 ?_
  refine wp_v2f iX9_face_3 ml_9_118 rfl rfl rfl rfl (c_X9_isSquare L M h x y) ?_
  refine wp_bne iX9_face_6 (fun c_6 => ?_) (fun c_6 => ?_)
  · refine wp_al0 iX9_face_11 ?_
    refine wp_gR iX9_face_12 fr_9_20 rfl rfl rfl ?_
    refine wp_al0 iX9_face_15 ?_
    refine wp_il1 iX9_face_16 ?_
    refine wp_il2 iX9_face_17 ?_
    refine wp_v2f iX9_face_18 ml_9_122 rfl rfl rfl rfl (c_X9_spot L M h x y (by omega) (by omega)) ?_
    refine wp_ba iX9_face_21 rfl rfl (by omega) ?_
    refine wp_il3 iX9_face_22 ?_
    refine wp_cne iX9_face_23 (fun c_23 => ?_) (fun c_23 => ?_)
    · refine wp_al0 iX9_face_28 ?_
      refine wp_gR iX9_face_29 fr_9_20 rfl rfl rfl ?_
      refine wp_al0 iX9_face_32 ?_
      refine wp_il1 iX9_face_33 ?_
      refine wp_il2 iX9_face_34 ?_
      refine wp_v2f iX9_face_35 ml_9_122 rfl rfl rfl rfl (c_X9_spot L M h x y (by omega) (by omega)) ?_
      refine wp_il3 iX9_face_38 ?_
      refine wp_bs iX9_face_39 rfl rfl (by omega) (by first | decide | omega) ?_
      refine wp_al0 iX9_face_40 ?_
      refine wp_ic iX9_face_41 (by decide) ?_
      refine wp_pI iX9_face_42 fp_9_115 rfl ?_
      refine wp_ic iX9_face_45 (by decide) ?_
      refine wp_ret iX9_face_46 rfl ?_
      (refine ⟨?_, ?_⟩ <;> (repeat' split) <;> first | rfl | (exfalso; omega))
    · refine wp_ic iX9_face_26 (by decide) ?_
      refine wp_ret iX9_face_27 rfl ?_
      (refine ⟨?_, ?_⟩ <;> (repeat' split) <;> first | rfl | (exfalso; omega))
  · refine wp_ic iX9_face_9 (by decide) ?_
    refine wp_ret iX9_face_10 rfl ?_
    (refine ⟨?_, ?_⟩ <;> (repeat' split) <;> first | rfl | (exfalso; omega))
theorem c_X9_slits (h : hM M) (what : Int) : cF L 3 mX9_slits [.inr 56, .inl what] M (if 0 ≤ what ∧ what ≤ 3 then sls what (M 56 10) (M 56 0).toNat (M 56 1).toNat (M 57) else -1) := by
  obtain ⟨h1, h2, h3, h4, h5, h6⟩ := id h
  refine cF_of rfl ?_
  change wp _ _ _ 0 [some (.inr 56), some (.inl what), none, none, none, none, none, none, none] [] _ _
  refine wp_il1 iX9_slits_0 ?_
  refine wp_ic iX9_slits_1 (by decide) ?_
  refine wp_ic iX9_slits_2 (by decide) ?_
  refine wp_s3f iX9_slits_3 ml_9_111 rfl rfl rfl (c_X9_in _ _ _ _ _) ?_
  refine wp_bne iX9_slits_6 (fun c_6 => ?_) (fun c_6 => ?_)
  · rw [if_pos c_6]
    refine wp_ic iX9_slits_11 (by decide) ?_
    refine wp_is2 iX9_slits_12 ?_
    refine wp_ic iX9_slits_13 (by decide) ?_
    refine wp_is3 iX9_slits_14 ?_
    refine wp_ic iX9_slits_15 (by decide) ?_
    refine wp_is4 iX9_slits_16 ?_
    refine wp_ic iX9_slits_18 (by decide) ?_
    refine wp_is5 iX9_slits_19 ?_
    refine wp_ic iX9_slits_21 (by decide) ?_
    refine wp_is6 iX9_slits_22 ?_
    have key : ∀ (n : Nat) (w t0 t1 t2 t3 : Int), (M 56 0 - 1 - w).toNat = n → 0 ≤ w → w ≤ M 56 0 - 1 → t0 = it (slr 0 (M 56 10) (M 56 1).toNat (M 57)) 0 w.toNat → t1 = it (slr 1 (M 56 10) (M 56 1).toNat (M 57)) 0 w.toNat → t2 = it (slr 2 (M 56 10) (M 56 1).toNat (M 57)) 0 w.toNat → t3 = it (slr 3 (M 56 10) (M 56 1).toNat (M 57)) 0 w.toNat → (0 ≤ t0 ∧ t0 ≤ 10 + 100 * w) → (0 ≤ t1 ∧ t1 ≤ 10 + 100 * w) → (0 ≤ t2 ∧ t2 ≤ 10 + 100 * w) → ∀ v7 v8 : Option ab_V, wp L 2 mX9_slits 24 [some (.inr 56), some (.inl what), some (.inl t0), some (.inl t1), some (.inl t2), some (.inl t3), some (.inl w), v7, v8] [] M (fun r M1 => r = some (.inl (sls what (M 56 10) (M 56 0).toNat (M 56 1).toNat (M 57))) ∧ M1 = M) := by
      intro n
      induction n using Nat.strongRecOn with
      | ind n ih =>
        intro w t0 t1 t2 t3 hn hw0 hw1 e0 e1 e2 e3 b0 b1 b2 v7 v8
        refine wp_il6 iX9_slits_24 ?_
        refine wp_ic iX9_slits_26 (by decide) ?_
        refine wp_add iX9_slits_27 (by omega) ?_
        refine wp_al0 iX9_slits_28 ?_
        refine wp_gI iX9_slits_29 fi_9_7 rfl ?_
        refine wp_cge iX9_slits_32 (fun c_32 => ?_) (fun c_32 => ?_)
        · have hw : w.toNat = (M 56 0).toNat - 1 := by omega
          rw [hw] at e0 e1 e2 e3
          refine wp_il1 iX9_slits_135 ?_
          refine wp_zne iX9_slits_136 (fun c_136 => ?_) (fun c_136 => ?_)
          · refine wp_il1 iX9_slits_143 ?_
            refine wp_ic iX9_slits_144 (by decide) ?_
            refine wp_cne iX9_slits_145 (fun c_145 => ?_) (fun c_145 => ?_)
            · refine wp_il1 iX9_slits_152 ?_
              refine wp_ic iX9_slits_153 (by decide) ?_
              refine wp_cne iX9_slits_154 (fun c_154 => ?_) (fun c_154 => ?_)
              · refine wp_il5 iX9_slits_162 ?_
                refine wp_ret iX9_slits_164 rfl ?_
                (refine ⟨?_, rfl⟩; unfold sls; first | (rw [show what = 0 by omega, ← e0]) | (rw [show what = 1 by omega, ← e1]) | (rw [show what = 2 by omega, ← e2]) | (rw [show what = 3 by omega, ← e3]))
              · refine wp_il4 iX9_slits_157 ?_
                refine wp_goto iX9_slits_159 ?_
                refine wp_ret iX9_slits_164 rfl ?_
                (refine ⟨?_, rfl⟩; unfold sls; first | (rw [show what = 0 by omega, ← e0]) | (rw [show what = 1 by omega, ← e1]) | (rw [show what = 2 by omega, ← e2]) | (rw [show what = 3 by omega, ← e3]))
            · refine wp_il3 iX9_slits_148 ?_
              refine wp_goto iX9_slits_149 ?_
              refine wp_ret iX9_slits_164 rfl ?_
              (refine ⟨?_, rfl⟩; unfold sls; first | (rw [show what = 0 by omega, ← e0]) | (rw [show what = 1 by omega, ← e1]) | (rw [show what = 2 by omega, ← e2]) | (rw [show what = 3 by omega, ← e3]))
          · refine wp_il2 iX9_slits_139 ?_
            refine wp_goto iX9_slits_140 ?_
            refine wp_ret iX9_slits_164 rfl ?_
            (refine ⟨?_, rfl⟩; unfold sls; first | (rw [show what = 0 by omega, ← e0]) | (rw [show what = 1 by omega, ← e1]) | (rw [show what = 2 by omega, ← e2]) | (rw [show what = 3 by omega, ← e3]))
        · refine wp_ic iX9_slits_35 (by decide) ?_
          refine wp_is7 iX9_slits_36 ?_
          have key2 : ∀ (j : Nat) (p u0 u1 u2 u3 : Int), (M 56 1 - p).toNat = j → 0 ≤ p → p ≤ M 56 1 → u0 = it (fun b q => stp 0 (M 56 10) (sf (uC (M 57) ((w.toNat : Nat) : Int)) (M 56 1).toNat q) b) t0 p.toNat → u1 = it (fun b q => stp 1 (M 56 10) (sf (uC (M 57) ((w.toNat : Nat) : Int)) (M 56 1).toNat q) b) t1 p.toNat → u2 = it (fun b q => stp 2 (M 56 10) (sf (uC (M 57) ((w.toNat : Nat) : Int)) (M 56 1).toNat q) b) t2 p.toNat → u3 = it (fun b q => stp 3 (M 56 10) (sf (uC (M 57) ((w.toNat : Nat) : Int)) (M 56 1).toNat q) b) t3 p.toNat → (0 ≤ u0 ∧ u0 ≤ 10 + 100 * w + 10 * p) → (0 ≤ u1 ∧ u1 ≤ 10 + 100 * w + 10 * p) → (0 ≤ u2 ∧ u2 ≤ 10 + 100 * w + 10 * p) → ∀ v8 : Option ab_V, wp L 2 mX9_slits 38 [some (.inr 56), some (.inl what), some (.inl u0), some (.inl u1), some (.inl u2), some (.inl u3), some (.inl w), some (.inl p), v8] [] M (fun r M1 => r = some (.inl (sls what (M 56 10) (M 56 0).toNat (M 56 1).toNat (M 57))) ∧ M1 = M) := by
            intro j
            induction j using Nat.strongRecOn with
            | ind j ih2 =>
              intro p u0 u1 u2 u3 hj hp0 hp1 g0 g1 g2 g3 k0 k1 k2 v8
              have hsf := sf_bd (uC (M 57) w) (M 56 1).toNat p.toNat
              refine wp_il7 iX9_slits_38 ?_
              refine wp_al0 iX9_slits_40 ?_
              refine wp_gI iX9_slits_41 fi_9_13 rfl ?_
              refine wp_cge iX9_slits_44 (fun c_44 => ?_) (fun c_44 => ?_)
              · refine wp_ii6 iX9_slits_129 (by omega) ?_
                refine wp_goto iX9_slits_132 ?_
                refine ih _ (by omega) (w + 1) u0 u1 u2 u3 rfl (by omega) (by omega) ?_ ?_ ?_ ?_ (by omega) (by omega) (by omega) _ _
                · rw [it_up _ _ hw0, ← e0, g0, show p = M 56 1 by omega]; rfl
                · rw [it_up _ _ hw0, ← e1, g1, show p = M 56 1 by omega]; rfl
                · rw [it_up _ _ hw0, ← e2, g2, show p = M 56 1 by omega]; rfl
                · rw [it_up _ _ hw0, ← e3, g3, show p = M 56 1 by omega]; rfl
              · have s0 := it_up (fun b q => stp 0 (M 56 10) (sf (uC (M 57) ((w.toNat : Nat) : Int)) (M 56 1).toNat q) b) t0 hp0
                have s1 := it_up (fun b q => stp 1 (M 56 10) (sf (uC (M 57) ((w.toNat : Nat) : Int)) (M 56 1).toNat q) b) t1 hp0
                have s2 := it_up (fun b q => stp 2 (M 56 10) (sf (uC (M 57) ((w.toNat : Nat) : Int)) (M 56 1).toNat q) b) t2 hp0
                have s3 := it_up (fun b q => stp 3 (M 56 10) (sf (uC (M 57) ((w.toNat : Nat) : Int)) (M 56 1).toNat q) b) t3 hp0
                rw [← g0, stp_0] at s0
                rw [← g1, stp_1] at s1
                rw [← g2, stp_2] at s2
                rw [← g3, stp_3] at s3
                have hc := c_X9_slitFrom L M h w p (by omega) (by omega)
                have hsf2 : sf (uC (M 57) ((w.toNat : Nat) : Int)) (M 56 1).toNat p.toNat = sf (uC (M 57) w) (M 56 1).toNat p.toNat := by rw [toNat_cast hw0]
                rw [hsf2] at s0 s1 s2 s3
                obtain ⟨nn, hnn⟩ : ∃ nn, nn = sf (uC (M 57) w) (M 56 1).toNat p.toNat := ⟨_, rfl⟩
                rw [← hnn] at s0 s1 s2 s3 hsf hc
                refine wp_al0 iX9_slits_47 ?_
                refine wp_il6 iX9_slits_48 ?_
                refine wp_il7 iX9_slits_50 ?_
                refine wp_v2f iX9_slits_52 ml_9_133 rfl rfl rfl rfl (hc) ?_
                refine wp_is8 iX9_slits_55 ?_
                refine wp_il2 iX9_slits_57 ?_
                refine wp_il8 iX9_slits_58 ?_
                refine wp_zle iX9_slits_60 (fun c_60 => ?_) (fun c_60 => ?_)
                · refine wp_ic iX9_slits_67 (by decide) ?_
                  refine wp_add iX9_slits_68 (by omega) ?_
                  refine wp_is2 iX9_slits_69 ?_
                  refine wp_il3 iX9_slits_70 ?_
                  refine wp_il8 iX9_slits_71 ?_
                  refine wp_al0 iX9_slits_73 ?_
                  refine wp_gI iX9_slits_74 fi_9_36 rfl ?_
                  refine wp_cle iX9_slits_77 (fun c_77 => ?_) (fun c_77 => ?_)
                  · refine wp_ic iX9_slits_84 (by decide) ?_
                    refine wp_add iX9_slits_85 (by omega) ?_
                    refine wp_is3 iX9_slits_86 ?_
                    refine wp_il4 iX9_slits_87 ?_
                    refine wp_il8 iX9_slits_89 ?_
                    refine wp_al0 iX9_slits_91 ?_
                    refine wp_gI iX9_slits_92 fi_9_36 rfl ?_
                    refine wp_cle iX9_slits_95 (fun c_95 => ?_) (fun c_95 => ?_)
                    · refine wp_ic iX9_slits_103 (by decide) ?_
                      refine wp_add iX9_slits_104 (by omega) ?_
                      refine wp_is4 iX9_slits_105 ?_
                      refine wp_il8 iX9_slits_107 ?_
                      refine wp_il5 iX9_slits_109 ?_
                      refine wp_cle iX9_slits_111 (fun c_111 => ?_) (fun c_111 => ?_)
                      · refine wp_il5 iX9_slits_119 ?_
                        refine wp_is5 iX9_slits_121 ?_
                        refine wp_ii7 iX9_slits_123 (by omega) ?_
                        refine wp_goto iX9_slits_126 ?_
                        exact ih2 _ (by omega) (p + 1) _ _ _ _ rfl (by omega) (by omega) (by rw [s0]; split <;> omega) (by rw [s1]; split <;> omega) (by rw [s2]; split <;> omega) (by rw [s3]; split <;> omega) (by omega) (by omega) (by omega) _
                      · refine wp_il8 iX9_slits_114 ?_
                        refine wp_goto iX9_slits_116 ?_
                        refine wp_is5 iX9_slits_121 ?_
                        refine wp_ii7 iX9_slits_123 (by omega) ?_
                        refine wp_goto iX9_slits_126 ?_
                        exact ih2 _ (by omega) (p + 1) _ _ _ _ rfl (by omega) (by omega) (by rw [s0]; split <;> omega) (by rw [s1]; split <;> omega) (by rw [s2]; split <;> omega) (by rw [s3]; split <;> omega) (by omega) (by omega) (by omega) _
                    · refine wp_il8 iX9_slits_98 ?_
                      refine wp_goto iX9_slits_100 ?_
                      refine wp_add iX9_slits_104 (by omega) ?_
                      refine wp_is4 iX9_slits_105 ?_
                      refine wp_il8 iX9_slits_107 ?_
                      refine wp_il5 iX9_slits_109 ?_
                      refine wp_cle iX9_slits_111 (fun c_111 => ?_) (fun c_111 => ?_)
                      · refine wp_il5 iX9_slits_119 ?_
                        refine wp_is5 iX9_slits_121 ?_
                        refine wp_ii7 iX9_slits_123 (by omega) ?_
                        refine wp_goto iX9_slits_126 ?_
                        exact ih2 _ (by omega) (p + 1) _ _ _ _ rfl (by omega) (by omega) (by rw [s0]; split <;> omega) (by rw [s1]; split <;> omega) (by rw [s2]; split <;> omega) (by rw [s3]; split <;> omega) (by omega) (by omega) (by omega) _
                      · refine wp_il8 iX9_slits_114 ?_
                        refine wp_goto iX9_slits_116 ?_
                        refine wp_is5 iX9_slits_121 ?_
                        refine wp_ii7 iX9_slits_123 (by omega) ?_
                        refine wp_goto iX9_slits_126 ?_
                        exact ih2 _ (by omega) (p + 1) _ _ _ _ rfl (by omega) (by omega) (by rw [s0]; split <;> omega) (by rw [s1]; split <;> omega) (by rw [s2]; split <;> omega) (by rw [s3]; split <;> omega) (by omega) (by omega) (by omega) _
                  · refine wp_ic iX9_slits_80 (by decide) ?_
                    refine wp_goto iX9_slits_81 ?_
                    refine wp_add iX9_slits_85 (by omega) ?_
                    refine wp_is3 iX9_slits_86 ?_
                    refine wp_il4 iX9_slits_87 ?_
                    refine wp_il8 iX9_slits_89 ?_
                    refine wp_al0 iX9_slits_91 ?_
                    refine wp_gI iX9_slits_92 fi_9_36 rfl ?_
                    refine wp_cle iX9_slits_95 (fun c_95 => ?_) (fun c_95 => ?_)
                    · refine wp_ic iX9_slits_103 (by decide) ?_
                      refine wp_add iX9_slits_104 (by omega) ?_
                      refine wp_is4 iX9_slits_105 ?_
                      refine wp_il8 iX9_slits_107 ?_
                      refine wp_il5 iX9_slits_109 ?_
                      refine wp_cle iX9_slits_111 (fun c_111 => ?_) (fun c_111 => ?_)
                      · refine wp_il5 iX9_slits_119 ?_
                        refine wp_is5 iX9_slits_121 ?_
                        refine wp_ii7 iX9_slits_123 (by omega) ?_
                        refine wp_goto iX9_slits_126 ?_
                        exact ih2 _ (by omega) (p + 1) _ _ _ _ rfl (by omega) (by omega) (by rw [s0]; split <;> omega) (by rw [s1]; split <;> omega) (by rw [s2]; split <;> omega) (by rw [s3]; split <;> omega) (by omega) (by omega) (by omega) _
                      · refine wp_il8 iX9_slits_114 ?_
                        refine wp_goto iX9_slits_116 ?_
                        refine wp_is5 iX9_slits_121 ?_
                        refine wp_ii7 iX9_slits_123 (by omega) ?_
                        refine wp_goto iX9_slits_126 ?_
                        exact ih2 _ (by omega) (p + 1) _ _ _ _ rfl (by omega) (by omega) (by rw [s0]; split <;> omega) (by rw [s1]; split <;> omega) (by rw [s2]; split <;> omega) (by rw [s3]; split <;> omega) (by omega) (by omega) (by omega) _
                    · refine wp_il8 iX9_slits_98 ?_
                      refine wp_goto iX9_slits_100 ?_
                      refine wp_add iX9_slits_104 (by omega) ?_
                      refine wp_is4 iX9_slits_105 ?_
                      refine wp_il8 iX9_slits_107 ?_
                      refine wp_il5 iX9_slits_109 ?_
                      refine wp_cle iX9_slits_111 (fun c_111 => ?_) (fun c_111 => ?_)
                      · refine wp_il5 iX9_slits_119 ?_
                        refine wp_is5 iX9_slits_121 ?_
                        refine wp_ii7 iX9_slits_123 (by omega) ?_
                        refine wp_goto iX9_slits_126 ?_
                        exact ih2 _ (by omega) (p + 1) _ _ _ _ rfl (by omega) (by omega) (by rw [s0]; split <;> omega) (by rw [s1]; split <;> omega) (by rw [s2]; split <;> omega) (by rw [s3]; split <;> omega) (by omega) (by omega) (by omega) _
                      · refine wp_il8 iX9_slits_114 ?_
                        refine wp_goto iX9_slits_116 ?_
                        refine wp_is5 iX9_slits_121 ?_
                        refine wp_ii7 iX9_slits_123 (by omega) ?_
                        refine wp_goto iX9_slits_126 ?_
                        exact ih2 _ (by omega) (p + 1) _ _ _ _ rfl (by omega) (by omega) (by rw [s0]; split <;> omega) (by rw [s1]; split <;> omega) (by rw [s2]; split <;> omega) (by rw [s3]; split <;> omega) (by omega) (by omega) (by omega) _
                · refine wp_ic iX9_slits_63 (by decide) ?_
                  refine wp_goto iX9_slits_64 ?_
                  refine wp_add iX9_slits_68 (by omega) ?_
                  refine wp_is2 iX9_slits_69 ?_
                  refine wp_il3 iX9_slits_70 ?_
                  refine wp_il8 iX9_slits_71 ?_
                  refine wp_al0 iX9_slits_73 ?_
                  refine wp_gI iX9_slits_74 fi_9_36 rfl ?_
                  refine wp_cle iX9_slits_77 (fun c_77 => ?_) (fun c_77 => ?_)
                  · refine wp_ic iX9_slits_84 (by decide) ?_
                    refine wp_add iX9_slits_85 (by omega) ?_
                    refine wp_is3 iX9_slits_86 ?_
                    refine wp_il4 iX9_slits_87 ?_
                    refine wp_il8 iX9_slits_89 ?_
                    refine wp_al0 iX9_slits_91 ?_
                    refine wp_gI iX9_slits_92 fi_9_36 rfl ?_
                    refine wp_cle iX9_slits_95 (fun c_95 => ?_) (fun c_95 => ?_)
                    · refine wp_ic iX9_slits_103 (by decide) ?_
                      refine wp_add iX9_slits_104 (by omega) ?_
                      refine wp_is4 iX9_slits_105 ?_
                      refine wp_il8 iX9_slits_107 ?_
                      refine wp_il5 iX9_slits_109 ?_
                      refine wp_cle iX9_slits_111 (fun c_111 => ?_) (fun c_111 => ?_)
                      · refine wp_il5 iX9_slits_119 ?_
                        refine wp_is5 iX9_slits_121 ?_
                        refine wp_ii7 iX9_slits_123 (by omega) ?_
                        refine wp_goto iX9_slits_126 ?_
                        exact ih2 _ (by omega) (p + 1) _ _ _ _ rfl (by omega) (by omega) (by rw [s0]; split <;> omega) (by rw [s1]; split <;> omega) (by rw [s2]; split <;> omega) (by rw [s3]; split <;> omega) (by omega) (by omega) (by omega) _
                      · refine wp_il8 iX9_slits_114 ?_
                        refine wp_goto iX9_slits_116 ?_
                        refine wp_is5 iX9_slits_121 ?_
                        refine wp_ii7 iX9_slits_123 (by omega) ?_
                        refine wp_goto iX9_slits_126 ?_
                        exact ih2 _ (by omega) (p + 1) _ _ _ _ rfl (by omega) (by omega) (by rw [s0]; split <;> omega) (by rw [s1]; split <;> omega) (by rw [s2]; split <;> omega) (by rw [s3]; split <;> omega) (by omega) (by omega) (by omega) _
                    · refine wp_il8 iX9_slits_98 ?_
                      refine wp_goto iX9_slits_100 ?_
                      refine wp_add iX9_slits_104 (by omega) ?_
                      refine wp_is4 iX9_slits_105 ?_
                      refine wp_il8 iX9_slits_107 ?_
                      refine wp_il5 iX9_slits_109 ?_
                      refine wp_cle iX9_slits_111 (fun c_111 => ?_) (fun c_111 => ?_)
                      · refine wp_il5 iX9_slits_119 ?_
                        refine wp_is5 iX9_slits_121 ?_
                        refine wp_ii7 iX9_slits_123 (by omega) ?_
                        refine wp_goto iX9_slits_126 ?_
                        exact ih2 _ (by omega) (p + 1) _ _ _ _ rfl (by omega) (by omega) (by rw [s0]; split <;> omega) (by rw [s1]; split <;> omega) (by rw [s2]; split <;> omega) (by rw [s3]; split <;> omega) (by omega) (by omega) (by omega) _
                      · refine wp_il8 iX9_slits_114 ?_
                        refine wp_goto iX9_slits_116 ?_
                        refine wp_is5 iX9_slits_121 ?_
                        refine wp_ii7 iX9_slits_123 (by omega) ?_
                        refine wp_goto iX9_slits_126 ?_
                        exact ih2 _ (by omega) (p + 1) _ _ _ _ rfl (by omega) (by omega) (by rw [s0]; split <;> omega) (by rw [s1]; split <;> omega) (by rw [s2]; split <;> omega) (by rw [s3]; split <;> omega) (by omega) (by omega) (by omega) _
                  · refine wp_ic iX9_slits_80 (by decide) ?_
                    refine wp_goto iX9_slits_81 ?_
                    refine wp_add iX9_slits_85 (by omega) ?_
                    refine wp_is3 iX9_slits_86 ?_
                    refine wp_il4 iX9_slits_87 ?_
                    refine wp_il8 iX9_slits_89 ?_
                    refine wp_al0 iX9_slits_91 ?_
                    refine wp_gI iX9_slits_92 fi_9_36 rfl ?_
                    refine wp_cle iX9_slits_95 (fun c_95 => ?_) (fun c_95 => ?_)
                    · refine wp_ic iX9_slits_103 (by decide) ?_
                      refine wp_add iX9_slits_104 (by omega) ?_
                      refine wp_is4 iX9_slits_105 ?_
                      refine wp_il8 iX9_slits_107 ?_
                      refine wp_il5 iX9_slits_109 ?_
                      refine wp_cle iX9_slits_111 (fun c_111 => ?_) (fun c_111 => ?_)
                      · refine wp_il5 iX9_slits_119 ?_
                        refine wp_is5 iX9_slits_121 ?_
                        refine wp_ii7 iX9_slits_123 (by omega) ?_
                        refine wp_goto iX9_slits_126 ?_
                        exact ih2 _ (by omega) (p + 1) _ _ _ _ rfl (by omega) (by omega) (by rw [s0]; split <;> omega) (by rw [s1]; split <;> omega) (by rw [s2]; split <;> omega) (by rw [s3]; split <;> omega) (by omega) (by omega) (by omega) _
                      · refine wp_il8 iX9_slits_114 ?_
                        refine wp_goto iX9_slits_116 ?_
                        refine wp_is5 iX9_slits_121 ?_
                        refine wp_ii7 iX9_slits_123 (by omega) ?_
                        refine wp_goto iX9_slits_126 ?_
                        exact ih2 _ (by omega) (p + 1) _ _ _ _ rfl (by omega) (by omega) (by rw [s0]; split <;> omega) (by rw [s1]; split <;> omega) (by rw [s2]; split <;> omega) (by rw [s3]; split <;> omega) (by omega) (by omega) (by omega) _
                    · refine wp_il8 iX9_slits_98 ?_
                      refine wp_goto iX9_slits_100 ?_
                      refine wp_add iX9_slits_104 (by omega) ?_
                      refine wp_is4 iX9_slits_105 ?_
                      refine wp_il8 iX9_slits_107 ?_
                      refine wp_il5 iX9_slits_109 ?_
                      refine wp_cle iX9_slits_111 (fun c_111 => ?_) (fun c_111 => ?_)
                      · refine wp_il5 iX9_slits_119 ?_
                        refine wp_is5 iX9_slits_121 ?_
                        refine wp_ii7 iX9_slits_123 (by omega) ?_
                        refine wp_goto iX9_slits_126 ?_
                        exact ih2 _ (by omega) (p + 1) _ _ _ _ rfl (by omega) (by omega) (by rw [s0]; split <;> omega) (by rw [s1]; split <;> omega) (by rw [s2]; split <;> omega) (by rw [s3]; split <;> omega) (by omega) (by omega) (by omega) _
                      · refine wp_il8 iX9_slits_114 ?_
                        refine wp_goto iX9_slits_116 ?_
                        refine wp_is5 iX9_slits_121 ?_
                        refine wp_ii7 iX9_slits_123 (by omega) ?_
                        refine wp_goto iX9_slits_126 ?_
                        exact ih2 _ (by omega) (p + 1) _ _ _ _ rfl (by omega) (by omega) (by rw [s0]; split <;> omega) (by rw [s1]; split <;> omega) (by rw [s2]; split <;> omega) (by rw [s3]; split <;> omega) (by omega) (by omega) (by omega) _
          exact key2 _ 0 t0 t1 t2 t3 rfl (by omega) (by omega) rfl rfl rfl rfl (by omega) (by omega) (by omega) _
    exact key _ 0 0 0 0 0 rfl (by omega) (by omega) rfl rfl rfl rfl (by omega) (by omega) (by omega) _ _
  · rw [if_neg c_6]
    refine wp_ic iX9_slits_9 (by decide) ?_
    refine wp_ret iX9_slits_10 rfl ?_
    (exact ⟨rfl, rfl⟩)
theorem c_X9_paint (hh : hM M) (c r w h x : Int) : cG L 3 mX9_paint [.inr 56, .inl c, .inl r, .inl w, .inl h, .inl x] M
    (if (0 ≤ c ∧ 1 ≤ w ∧ w ≤ M 56 0 - c) ∧ (0 ≤ r ∧ 1 ≤ h ∧ h ≤ M 56 1 - r) ∧ 0 ≤ x ∧ x < 8 then w * h else -1)
    (if (0 ≤ c ∧ 1 ≤ w ∧ w ≤ M 56 0 - c) ∧ (0 ≤ r ∧ 1 ≤ h ∧ h ≤ M 56 1 - r) ∧ 0 ≤ x ∧ x < 8 then ab_up (ab_rw M 57 (fM (M 57) (M 56 0) c r w h x (c + w) r)) 56 12 0 else M) := by
  obtain ⟨h1, h2, h3, h4, h5, h6⟩ := id hh
  by_cases hq : (0 ≤ c ∧ 1 ≤ w ∧ w ≤ M 56 0 - c) ∧ (0 ≤ r ∧ 1 ≤ h ∧ h ≤ M 56 1 - r) ∧ 0 ≤ x ∧ x < 8
  · rw [if_pos hq, if_pos hq]
    obtain ⟨⟨hc0, hw1, hwC⟩, ⟨hr0, hh1, hhR⟩, hx0, hx1⟩ := hq
    refine cG_of rfl ?_
    change wp _ _ _ 0 [some (.inr 56), some (.inl c), some (.inl r), some (.inl w), some (.inl h), some (.inl x), none, none] [] _ _
    have hm : -2147483648 ≤ w * h ∧ w * h < 2147483648 := by
      have g1 : w * h ≤ 12 * 10 := Int.mul_le_mul (by omega) (by omega) (by omega) (by omega)
      have g2 : 0 ≤ w * h := Int.mul_nonneg (by omega) (by omega)
      omega
    have key : ∀ (n : Nat) (col : Int), (c + w - col).toNat = n → c ≤ col → col ≤ c + w → ∀ v7 : Option ab_V, wp L 2 mX9_paint 54 [some (.inr 56), some (.inl c), some (.inl r), some (.inl w), some (.inl h), some (.inl x), some (.inl col), v7] [] (ab_rw M 57 (fM (M 57) (M 56 0) c r w h x col r)) (fun r0 M2 => r0 = some (.inl (w * h)) ∧ M2 = ab_up (ab_rw M 57 (fM (M 57) (M 56 0) c r w h x (c + w) r)) 56 12 0) := by
      intro n
      induction n using Nat.strongRecOn with
      | ind n ih =>
        intro col hn hcol0 hcol1 v7
        refine wp_il6 iX9_paint_54 ?_
        refine wp_il1 iX9_paint_56 ?_
        refine wp_il3 iX9_paint_57 ?_
        refine wp_add iX9_paint_58 (by omega) ?_
        refine wp_cge iX9_paint_59 (fun c_59 => ?_) (fun c_59 => ?_)
        · rw [show col = c + w by omega]
          refine wp_al0 iX9_paint_101 ?_
          refine wp_ic iX9_paint_102 (by decide) ?_
          refine wp_pI iX9_paint_103 fp_9_115 rfl ?_
          refine wp_il3 iX9_paint_106 ?_
          refine wp_il4 iX9_paint_107 ?_
          refine wp_mul iX9_paint_109 hm ?_
          refine wp_ret iX9_paint_110 rfl ?_
          exact ⟨rfl, rfl⟩
        · refine wp_il2 iX9_paint_62 ?_
          refine wp_is7 iX9_paint_63 ?_
          have key2 : ∀ (j : Nat) (row : Int), (r + h - row).toNat = j → r ≤ row → row ≤ r + h → wp L 2 mX9_paint 65 [some (.inr 56), some (.inl c), some (.inl r), some (.inl w), some (.inl h), some (.inl x), some (.inl col), some (.inl row)] [] (ab_rw M 57 (fM (M 57) (M 56 0) c r w h x col row)) (fun r0 M2 => r0 = some (.inl (w * h)) ∧ M2 = ab_up (ab_rw M 57 (fM (M 57) (M 56 0) c r w h x (c + w) r)) 56 12 0) := by
            intro j
            induction j using Nat.strongRecOn with
            | ind j ih2 =>
              intro row hj hrow0 hrow1
              refine wp_il7 iX9_paint_65 ?_
              refine wp_il2 iX9_paint_67 ?_
              refine wp_il4 iX9_paint_68 ?_
              refine wp_add iX9_paint_70 (by omega) ?_
              refine wp_cge iX9_paint_71 (fun c_71 => ?_) (fun c_71 => ?_)
              · refine wp_ii6 iX9_paint_95 (by omega) ?_
                refine wp_goto iX9_paint_98 ?_
                rw [show row = r + h by omega, fM_col]
                exact ih _ (by omega) (col + 1) rfl (by omega) (by omega) _
              · have hmm : hM (ab_rw M 57 (fM (M 57) (M 56 0) c r w h x col row)) := by
                  refine ⟨h1, h2, h3, h4, fun k => ?_, h6⟩
                  rw [ab_rw_self]
                  by_cases q : inM (M 56 0) c r h col row k
                  · rw [fM_pos q]; omega
                  · rw [fM_neg q]; exact h5 k
                have hsp : cF L 1 mX9_spot [.inr 56, .inl col, .inl row] (ab_rw M 57 (fM (M 57) (M 56 0) c r w h x col row)) (12 * row + (M 56 0 - 1 - col)) := c_X9_spot L _ hmm col row (by omega) (by omega)
                refine wp_al0 iX9_paint_74 ?_
                refine wp_gR iX9_paint_75 fr_9_16 rfl rfl rfl ?_
                refine wp_al0 iX9_paint_78 ?_
                refine wp_il6 iX9_paint_79 ?_
                refine wp_il7 iX9_paint_81 ?_
                refine wp_v2f iX9_paint_83 ml_9_122 rfl rfl rfl rfl (hsp) ?_
                refine wp_il5 iX9_paint_86 ?_
                refine wp_is iX9_paint_88 rfl rfl (by omega) ?_
                rw [up_rw, rw_rw, ab_rw_self, fM_up ⟨h1, h2⟩ ⟨hc0, hcol0, by omega⟩ ⟨hr0, hrow0, by omega⟩]
                refine wp_ii7 iX9_paint_89 (by omega) ?_
                refine wp_goto iX9_paint_92 ?_
                exact ih2 _ (by omega) (row + 1) rfl (by omega) (by omega)
          exact key2 _ r rfl (by omega) (by omega)
    have k0 := key _ c rfl (by omega) (by omega) none
    rw [fM_0, rw_self] at k0
    refine wp_al0 iX9_paint_0 ?_
    refine wp_il1 iX9_paint_1 ?_
    refine wp_il2 iX9_paint_2 ?_
    refine wp_v2f iX9_paint_3 ml_9_118 rfl rfl rfl rfl (c_X9_isSquare L M hh c r) ?_
    refine wp_beq iX9_paint_6 (fun c_6 => ?_) (fun c_6 => ?_)
    · refine wp_ic iX9_paint_49 (by decide) ?_
      refine wp_ret iX9_paint_50 rfl ?_
      (exfalso; omega)
    · refine wp_il3 iX9_paint_9 ?_
      refine wp_ic iX9_paint_10 (by decide) ?_
      refine wp_al0 iX9_paint_11 ?_
      refine wp_gI iX9_paint_12 fi_9_7 rfl ?_
      refine wp_il1 iX9_paint_15 ?_
      refine wp_sub iX9_paint_16 (by omega) ?_
      refine wp_s3f iX9_paint_17 ml_9_111 rfl rfl rfl (c_X9_in _ _ _ _ _) ?_
      refine wp_beq iX9_paint_20 (fun c_20 => ?_) (fun c_20 => ?_)
      · refine wp_ic iX9_paint_49 (by decide) ?_
        refine wp_ret iX9_paint_50 rfl ?_
        (exfalso; omega)
      · refine wp_il4 iX9_paint_23 ?_
        refine wp_ic iX9_paint_25 (by decide) ?_
        refine wp_al0 iX9_paint_26 ?_
        refine wp_gI iX9_paint_27 fi_9_13 rfl ?_
        refine wp_il2 iX9_paint_30 ?_
        refine wp_sub iX9_paint_31 (by omega) ?_
        refine wp_s3f iX9_paint_32 ml_9_111 rfl rfl rfl (c_X9_in _ _ _ _ _) ?_
        refine wp_beq iX9_paint_35 (fun c_35 => ?_) (fun c_35 => ?_)
        · refine wp_ic iX9_paint_49 (by decide) ?_
          refine wp_ret iX9_paint_50 rfl ?_
          (exfalso; omega)
        · refine wp_il5 iX9_paint_38 ?_
          refine wp_ic iX9_paint_40 (by decide) ?_
          refine wp_bp iX9_paint_41 (by decide) ?_
          refine wp_s3f iX9_paint_43 ml_9_111 rfl rfl rfl (c_X9_in _ _ _ _ _) ?_
          refine wp_bne iX9_paint_46 (fun c_46 => ?_) (fun c_46 => ?_)
          · refine wp_il1 iX9_paint_51 ?_
            refine wp_is6 iX9_paint_52 ?_
            exact k0
          · refine wp_ic iX9_paint_49 (by decide) ?_
            refine wp_ret iX9_paint_50 rfl ?_
            (exfalso; omega)
  · rw [if_neg hq, if_neg hq]
    refine cG_of rfl ?_
    change wp _ _ _ 0 [some (.inr 56), some (.inl c), some (.inl r), some (.inl w), some (.inl h), some (.inl x), none, none] [] _ _
    refine wp_al0 iX9_paint_0 ?_
    refine wp_il1 iX9_paint_1 ?_
    refine wp_il2 iX9_paint_2 ?_
    refine wp_v2f iX9_paint_3 ml_9_118 rfl rfl rfl rfl (c_X9_isSquare L M hh c r) ?_
    refine wp_beq iX9_paint_6 (fun c_6 => ?_) (fun c_6 => ?_)
    · refine wp_ic iX9_paint_49 (by decide) ?_
      refine wp_ret iX9_paint_50 rfl ?_
      (exact ⟨rfl, rfl⟩)
    · refine wp_il3 iX9_paint_9 ?_
      refine wp_ic iX9_paint_10 (by decide) ?_
      refine wp_al0 iX9_paint_11 ?_
      refine wp_gI iX9_paint_12 fi_9_7 rfl ?_
      refine wp_il1 iX9_paint_15 ?_
      refine wp_sub iX9_paint_16 (by omega) ?_
      refine wp_s3f iX9_paint_17 ml_9_111 rfl rfl rfl (c_X9_in _ _ _ _ _) ?_
      refine wp_beq iX9_paint_20 (fun c_20 => ?_) (fun c_20 => ?_)
      · refine wp_ic iX9_paint_49 (by decide) ?_
        refine wp_ret iX9_paint_50 rfl ?_
        (exact ⟨rfl, rfl⟩)
      · refine wp_il4 iX9_paint_23 ?_
        refine wp_ic iX9_paint_25 (by decide) ?_
        refine wp_al0 iX9_paint_26 ?_
        refine wp_gI iX9_paint_27 fi_9_13 rfl ?_
        refine wp_il2 iX9_paint_30 ?_
        refine wp_sub iX9_paint_31 (by omega) ?_
        refine wp_s3f iX9_paint_32 ml_9_111 rfl rfl rfl (c_X9_in _ _ _ _ _) ?_
        refine wp_beq iX9_paint_35 (fun c_35 => ?_) (fun c_35 => ?_)
        · refine wp_ic iX9_paint_49 (by decide) ?_
          refine wp_ret iX9_paint_50 rfl ?_
          (exact ⟨rfl, rfl⟩)
        · refine wp_il5 iX9_paint_38 ?_
          refine wp_ic iX9_paint_40 (by decide) ?_
          refine wp_bp iX9_paint_41 (by decide) ?_
          refine wp_s3f iX9_paint_43 ml_9_111 rfl rfl rfl (c_X9_in _ _ _ _ _) ?_
          refine wp_bne iX9_paint_46 (fun c_46 => ?_) (fun c_46 => ?_)
          · exact absurd (by omega) hq
          · refine wp_ic iX9_paint_49 (by decide) ?_
            refine wp_ret iX9_paint_50 rfl ?_
            (exact ⟨rfl, rfl⟩)
theorem c_X9_manyFaces (h : hM M) : cF L 1 mX9_manyFaces [.inr 56] M (sm (M 58) 120) := by
  obtain ⟨h1, h2, h3, h4, h5, h6⟩ := id h
  refine cF_of rfl ?_
  change wp _ _ _ 0 [some (.inr 56), none, none] [] _ _
  refine wp_ic iX9_manyFaces_0 (by decide) ?_
  refine wp_is1 iX9_manyFaces_1 ?_
  refine wp_ic iX9_manyFaces_2 (by decide) ?_
  refine wp_is2 iX9_manyFaces_3 ?_
  have key : ∀ (n : Nat) (i acc : Int), (120 - i).toNat = n → 0 ≤ i → i ≤ 120 → acc = sm (M 58) i.toNat → wp L 0 mX9_manyFaces 4 [some (.inr 56), some (.inl acc), some (.inl i)] [] M (fun r M1 => r = some (.inl (sm (M 58) 120)) ∧ M1 = M) := by
    intro n
    induction n using Nat.strongRecOn with
    | ind n ih =>
      intro i acc hn hi0 hi1 hacc
      have hb := sm_bd (M 58) 1 (fun k => by have := h6 k; omega) i.toNat
      have hs := sm_up (M 58) hi0
      have hv := h6 i.toNat
      refine wp_il2 iX9_manyFaces_4 ?_
      refine wp_bp iX9_manyFaces_5 (by decide) ?_
      refine wp_cge iX9_manyFaces_7 (fun c_7 => ?_) (fun c_7 => ?_)
      · refine wp_il1 iX9_manyFaces_33 ?_
        refine wp_ret iX9_manyFaces_34 rfl ?_
        (exact ⟨by rw [hacc, show i = 120 by omega]; rfl, rfl⟩)
      · refine wp_il1 iX9_manyFaces_10 ?_
        refine wp_al0 iX9_manyFaces_11 ?_
        refine wp_gR iX9_manyFaces_12 fr_9_20 rfl rfl rfl ?_
        refine wp_il2 iX9_manyFaces_15 ?_
        refine wp_ba iX9_manyFaces_16 rfl rfl (by omega) ?_
        refine wp_zeq iX9_manyFaces_17 (fun c_17 => ?_) (fun c_17 => ?_)
        · refine wp_ic iX9_manyFaces_24 (by decide) ?_
          refine wp_add iX9_manyFaces_25 (by omega) ?_
          refine wp_is1 iX9_manyFaces_26 ?_
          refine wp_ii2 iX9_manyFaces_27 (by omega) ?_
          refine wp_goto iX9_manyFaces_30 ?_
          exact ih _ (by omega) (i + 1) _ rfl (by omega) (by omega) (by rw [hs, hacc]; omega)
        · refine wp_ic iX9_manyFaces_20 (by decide) ?_
          refine wp_goto iX9_manyFaces_21 ?_
          refine wp_add iX9_manyFaces_25 (by omega) ?_
          refine wp_is1 iX9_manyFaces_26 ?_
          refine wp_ii2 iX9_manyFaces_27 (by omega) ?_
          refine wp_goto iX9_manyFaces_30 ?_
          exact ih _ (by omega) (i + 1) _ rfl (by omega) (by omega) (by rw [hs, hacc]; omega)
  exact key _ 0 0 rfl (by omega) (by omega) rfl
end CartM2
