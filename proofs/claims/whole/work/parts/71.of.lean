/-! ===== field, of, many: both sides ===== -/
def ofV (C R : Nat) (col : Nat → Int) (n : Nat) (xs fl : Nat → Nat) (f what : Int) : Int := if (0 ≤ f ∧ f < n) ∧ 0 ≤ what ∧ what ≤ 3 then (if what = 0 then col (xs f.toNat) else if what = 1 then fArea C R fl f.toNat else if what = 2 then fYarn C R col fl f.toNat else fPlc C (xs f.toNat)) else -1
theorem ofV_uq {C R : Nat} {col : Nat → Int} {n n' : Nat} {xs fl xs' fl' : Nat → Nat} (h : isF C R col n xs fl) (h' : isF C R col n' xs' fl') (f what : Int) : ofV C R col n xs fl f what = ofV C R col n' xs' fl' f what := by
  obtain ⟨e1, e2, e3⟩ := isF_uq h h'
  subst e1
  unfold ofV
  by_cases z : (0 ≤ f ∧ f < (n : Int)) ∧ 0 ≤ what ∧ what ≤ 3
  · rw [if_pos z, if_pos z, e2 f.toNat (by omega), fArea_uq e3, fYarn_uq e3]
  · rw [if_neg z, if_neg z]
def clX (M : ab_Me) : Nat → Int := fun a => M 4 a % 8
section OfX
variable (L : Nat) (M : ab_Me) {C R : Nat}
theorem c_X8_field (h : hB M) (hC : M 3 0 = (C : Int)) (hR : M 3 1 = (R : Int)) (w p : Int) : ct L 6 mX8_field [.inr 1, .inl w, .inl p] M (fun r N => (¬ ((0 ≤ w ∧ w < C) ∧ 0 ≤ p ∧ p < R) ∧ r = some (.inl (-1)) ∧ N = M) ∨ (((0 ≤ w ∧ w < C) ∧ 0 ≤ p ∧ p < R) ∧ fdX C R (clX M) M N ∧ ∃ n xs fl, isF C R (clX M) n xs fl ∧ r = some (.inl (fl (12 * p + w).toNat : Int)))) := by
  obtain ⟨h1, h2, h3, h4, h5⟩ := id h
  refine ct_of rfl ?_
  change wp _ _ _ 0 [some (.inr 1), some (.inl w), some (.inl p)] [] _ _
  refine wp_al0 iX8_field_0 ?_
  refine wp_gR iX8_field_1 fr_8_10 rfl rfl rfl ?_
  refine wp_gR iX8_field_4 fr_8_55 rfl rfl rfl ?_
  refine wp_il1 iX8_field_7 ?_
  refine wp_il2 iX8_field_8 ?_
  refine wp_v2f iX8_field_9 ml_8_94 rfl rfl rfl rfl (c_X0_hasSquare _ _ _ _) ?_
  refine wp_bne iX8_field_12 (fun c_12 => ?_) (fun c_12 => ?_)
  · rw [hC, hR] at c_12
    refine wp_al0 iX8_field_17 ?_
    refine wp_gR iX8_field_18 fr_8_33 rfl rfl rfl ?_
    refine wp_al0 iX8_field_21 ?_
    refine wp_gR iX8_field_22 fr_8_10 rfl rfl rfl ?_
    refine wp_gR iX8_field_25 fr_8_55 rfl rfl rfl ?_
    refine wp_v1x iX8_field_28 ml_8_122 rfl rfl rfl rfl (c_X2_find L M h hC hR) (fun r N hx => ?_)
    obtain ⟨rfl, hf⟩ := hx
    obtain ⟨f1, n, xs, fl, f2, f3, f4, f5, f6⟩ := id hf
    have hon : onB C R (12 * p + w).toNat := ⟨by omega, by omega⟩
    refine wp_al0 iX8_field_31 ?_
    refine wp_gR iX8_field_32 fr_8_33 rfl rfl rfl ?_
    refine wp_gR iX8_field_35 fr_8_126 rfl rfl rfl ?_
    refine wp_il1 iX8_field_38 ?_
    refine wp_il2 iX8_field_39 ?_
    refine wp_s2f iX8_field_40 ml_8_109 rfl rfl rfl (c_X8_cellOf L N w p (by omega)) ?_
    refine wp_ia iX8_field_43 rfl (by omega) ?_
    rw [f5 _ hon]
    refine wp_ret iX8_field_44 rfl ?_
    exact Or.inr ⟨c_12, hf, n, xs, fl, f3, rfl⟩
  · rw [hC, hR] at c_12
    refine wp_ic iX8_field_15 (by decide) ?_
    refine wp_ret iX8_field_16 rfl ?_
    exact Or.inl ⟨c_12, rfl, rfl⟩
theorem c_X8_of (h : hB M) (hC : M 3 0 = (C : Int)) (hR : M 3 1 = (R : Int)) (f what : Int) : ct L 6 mX8_of [.inr 1, .inl f, .inl what] M (fun r N => fdX C R (clX M) M N ∧ ∃ n xs fl, isF C R (clX M) n xs fl ∧ r = some (.inl (ofV C R (clX M) n xs fl f what))) := by
  refine ct_of rfl ?_
  change wp _ _ _ 0 [some (.inr 1), some (.inl f), some (.inl what)] [] _ _
  refine wp_al0 iX8_of_0 ?_
  refine wp_gR iX8_of_1 fr_8_33 rfl rfl rfl ?_
  refine wp_al0 iX8_of_4 ?_
  refine wp_gR iX8_of_5 fr_8_10 rfl rfl rfl ?_
  refine wp_gR iX8_of_8 fr_8_55 rfl rfl rfl ?_
  refine wp_v1x iX8_of_11 ml_8_122 rfl rfl rfl rfl (c_X2_find L M h hC hR) (fun r N hx => ?_)
  obtain ⟨rfl, hf⟩ := hx
  obtain ⟨f1, n, xs, fl, f2, f3, f4, f5, f6⟩ := id hf
  refine wp_il1 iX8_of_14 ?_
  refine wp_al0 iX8_of_15 ?_
  refine wp_gR iX8_of_16 fr_8_33 rfl rfl rfl ?_
  refine wp_gI iX8_of_19 fi_8_129 rfl ?_
  rw [f4]
  refine wp_s2f iX8_of_22 ml_8_132 rfl rfl rfl (c_X8_isBelow L N f (n : Int)) ?_
  have g := fun (hq : 0 ≤ f ∧ f < (n : Int)) => f6 f.toNat (by omega)
  have fin : ∀ z : Int, z = ofV C R (clX M) n xs fl f what → (fdX C R (clX M) M N ∧ ∃ n xs fl, isF C R (clX M) n xs fl ∧ some (Sum.inl z : ab_V) = some (.inl (ofV C R (clX M) n xs fl f what))) := fun z hz => ⟨hf, n, xs, fl, f3, by rw [hz]⟩
  refine wp_bne iX8_of_25 (fun c_25 => ?_) (fun c_25 => ?_)
  · have g := g c_25
    have k60 : what = 0 → wp L 5 mX8_of 60 [some (.inr 1), some (.inl f), some (.inl what)] [] N (fun r N => fdX C R (clX M) M N ∧ ∃ n xs fl, isF C R (clX M) n xs fl ∧ r = some (.inl (ofV C R (clX M) n xs fl f what))) := by
      intro hq
      refine wp_al0 iX8_of_60 ?_
      refine wp_gR iX8_of_61 fr_8_33 rfl rfl rfl ?_
      refine wp_gR iX8_of_64 fr_8_135 rfl rfl rfl ?_
      refine wp_il1 iX8_of_67 ?_
      refine wp_ia iX8_of_68 rfl (by omega) ?_
      rw [g.1]
      refine wp_ret iX8_of_69 rfl ?_
      refine fin _ ?_
      have e : (0 ≤ f ∧ f < (n : Int)) ∧ 0 ≤ what ∧ what ≤ 3 := by omega
      unfold ofV
      rw [if_pos e, hq]
      rfl
    have k70 : what = 1 → wp L 5 mX8_of 70 [some (.inr 1), some (.inl f), some (.inl what)] [] N (fun r N => fdX C R (clX M) M N ∧ ∃ n xs fl, isF C R (clX M) n xs fl ∧ r = some (.inl (ofV C R (clX M) n xs fl f what))) := by
      intro hq
      refine wp_al0 iX8_of_70 ?_
      refine wp_gR iX8_of_71 fr_8_33 rfl rfl rfl ?_
      refine wp_gR iX8_of_74 fr_8_138 rfl rfl rfl ?_
      refine wp_il1 iX8_of_77 ?_
      refine wp_ia iX8_of_78 rfl (by omega) ?_
      rw [g.2.1]
      refine wp_ret iX8_of_79 rfl ?_
      refine fin _ ?_
      have e : (0 ≤ f ∧ f < (n : Int)) ∧ 0 ≤ what ∧ what ≤ 3 := by omega
      unfold ofV
      rw [if_pos e, hq]
      rfl
    have k80 : what = 2 → wp L 5 mX8_of 80 [some (.inr 1), some (.inl f), some (.inl what)] [] N (fun r N => fdX C R (clX M) M N ∧ ∃ n xs fl, isF C R (clX M) n xs fl ∧ r = some (.inl (ofV C R (clX M) n xs fl f what))) := by
      intro hq
      refine wp_al0 iX8_of_80 ?_
      refine wp_gR iX8_of_81 fr_8_33 rfl rfl rfl ?_
      refine wp_gR iX8_of_84 fr_8_141 rfl rfl rfl ?_
      refine wp_il1 iX8_of_87 ?_
      refine wp_ia iX8_of_88 rfl (by omega) ?_
      rw [g.2.2.1]
      refine wp_ret iX8_of_89 rfl ?_
      refine fin _ ?_
      have e : (0 ≤ f ∧ f < (n : Int)) ∧ 0 ≤ what ∧ what ≤ 3 := by omega
      unfold ofV
      rw [if_pos e, hq]
      rfl
    have k90 : what = 3 → wp L 5 mX8_of 90 [some (.inr 1), some (.inl f), some (.inl what)] [] N (fun r N => fdX C R (clX M) M N ∧ ∃ n xs fl, isF C R (clX M) n xs fl ∧ r = some (.inl (ofV C R (clX M) n xs fl f what))) := by
      intro hq
      refine wp_al0 iX8_of_90 ?_
      refine wp_gR iX8_of_91 fr_8_33 rfl rfl rfl ?_
      refine wp_gR iX8_of_94 fr_8_144 rfl rfl rfl ?_
      refine wp_il1 iX8_of_97 ?_
      refine wp_ia iX8_of_98 rfl (by omega) ?_
      rw [g.2.2.2]
      refine wp_ret iX8_of_99 rfl ?_
      refine fin _ ?_
      have e : (0 ≤ f ∧ f < (n : Int)) ∧ 0 ≤ what ∧ what ≤ 3 := by omega
      unfold ofV
      rw [if_pos e, hq]
      rfl
    have k100 : (what < 0 ∨ 3 < what) → wp L 5 mX8_of 100 [some (.inr 1), some (.inl f), some (.inl what)] [] N (fun r N => fdX C R (clX M) M N ∧ ∃ n xs fl, isF C R (clX M) n xs fl ∧ r = some (.inl (ofV C R (clX M) n xs fl f what))) := by
      intro hq
      refine wp_ic iX8_of_100 (by decide) ?_
      refine wp_ret iX8_of_101 rfl ?_
      refine fin _ ?_
      unfold ofV
      rw [if_neg (by omega)]
    refine wp_il2 iX8_of_30 ?_
    refine wp_t4 (td := 100) (t0 := 60) (t1 := 70) (t2 := 80) (t3 := 90) iX8_of_31 (by decide) (by decide) (by decide) (by decide) (by decide) (fun c_31 => ?_) (fun c_31 => ?_) (fun c_31 => ?_) (fun c_31 => ?_) (fun c_31 => ?_)
    · exact k100 (by omega)
    · exact k60 c_31
    · exact k70 c_31
    · exact k80 c_31
    · exact k90 c_31
  · refine wp_ic iX8_of_28 (by decide) ?_
    refine wp_ret iX8_of_29 rfl ?_
    exact fin _ (by unfold ofV; rw [if_neg (fun z => c_25 z.1)])
def manyX (M : ab_Me) (x : Int) : Int := if x = 0 then M 3 0 else if x = 1 then M 3 1 else if x = 3 then M 5 0 else if x = 4 then M 8 0 else if x = 5 then M 11 0 else if x = 6 then sm (fun k => cnt (fX4 M) (M 13 k) (M 14 k).toNat (M 15 k) (M 11 6).toNat) (M 11 0).toNat else if x = 7 then M 11 1 else if x = 8 then sm (fun w => sm (fcW M w) (M 3 1).toNat) (M 3 0).toNat else -1
theorem c_X8_many (h : hB M) (hl : hL1 M) (hf : ∀ k : Nat, (k : Int) < M 11 0 → 0 ≤ M 13 k ∧ 0 ≤ M 14 k ∧ M 13 k + M 14 k ≤ 12) (hC : M 3 0 = (C : Int)) (hR : M 3 1 = (R : Int)) (x : Int) : ct L 6 mX8_many [.inr 1, .inl x] M (fun r N => (x = 2 ∧ fdX C R (clX M) M N ∧ ∃ n xs fl, isF C R (clX M) n xs fl ∧ r = some (.inl (n : Int))) ∨ (x ≠ 2 ∧ N = M ∧ r = some (.inl (manyX M x)))) := by
  refine ct_of rfl ?_
  change wp _ _ _ 0 [some (.inr 1), some (.inl x)] [] _ _
  have fin : ∀ z : Int, x ≠ 2 → z = manyX M x → ((x = 2 ∧ fdX C R (clX M) M M ∧ ∃ n xs fl, isF C R (clX M) n xs fl ∧ (some (.inl z) : Option ab_V) = some (.inl (n : Int))) ∨ (x ≠ 2 ∧ M = M ∧ (some (.inl z) : Option ab_V) = some (.inl (manyX M x)))) := fun z h1 h2 => Or.inr ⟨h1, rfl, by rw [h2]⟩
  have k74 : x = 2 → wp L 5 mX8_many 74 [some (.inr 1), some (.inl x)] [] M (fun r N => (x = 2 ∧ fdX C R (clX M) M N ∧ ∃ n xs fl, isF C R (clX M) n xs fl ∧ r = some (.inl (n : Int))) ∨ (x ≠ 2 ∧ N = M ∧ r = some (.inl (manyX M x)))) := by
    intro hq
    refine wp_al0 iX8_many_74 ?_
    refine wp_gR iX8_many_75 fr_8_33 rfl rfl rfl ?_
    refine wp_al0 iX8_many_78 ?_
    refine wp_gR iX8_many_79 fr_8_10 rfl rfl rfl ?_
    refine wp_gR iX8_many_82 fr_8_55 rfl rfl rfl ?_
    refine wp_v1x iX8_many_85 ml_8_122 rfl rfl rfl rfl (c_X2_find L M h hC hR) (fun r N hx => ?_)
    obtain ⟨rfl, hf⟩ := hx
    obtain ⟨f1, n, xs, fl, f2, f3, f4, f5, f6⟩ := id hf
    refine wp_al0 iX8_many_88 ?_
    refine wp_gR iX8_many_89 fr_8_33 rfl rfl rfl ?_
    refine wp_gI iX8_many_92 fi_8_129 rfl ?_
    rw [f4]
    refine wp_ret iX8_many_95 rfl ?_
    exact Or.inl ⟨hq, hf, n, xs, fl, f3, rfl⟩
  refine wp_il1 iX8_many_0 ?_
  refine wp_t9 (td := 169) (t0 := 52) (t1 := 63) (t2 := 74) (t3 := 96) (t4 := 107) (t5 := 118) (t6 := 129) (t7 := 147) (t8 := 158) iX8_many_1 (by decide) (by decide) (by decide) (by decide) (by decide) (by decide) (by decide) (by decide) (by decide) (by decide) (fun c_1 => ?_) (fun c_1 => ?_) (fun c_1 => ?_) (fun c_1 => ?_) (fun c_1 => ?_) (fun c_1 => ?_) (fun c_1 => ?_) (fun c_1 => ?_) (fun c_1 => ?_) (fun c_1 => ?_)
  · refine wp_ic iX8_many_169 (by decide) ?_
    refine wp_ret iX8_many_170 rfl ?_
    (exact fin _ (by omega) (by unfold manyX; (repeat rw [if_neg (by omega)]) <;> first | rfl | (rw [if_pos (by omega)])))
  · refine wp_al0 iX8_many_52 ?_
    refine wp_gR iX8_many_53 fr_8_10 rfl rfl rfl ?_
    refine wp_gR iX8_many_56 fr_8_55 rfl rfl rfl ?_
    refine wp_gI iX8_many_59 fi_8_74 rfl ?_
    refine wp_ret iX8_many_62 rfl ?_
    (exact fin _ (by omega) (by unfold manyX; (repeat rw [if_neg (by omega)]) <;> first | rfl | (rw [if_pos (by omega)])))
  · refine wp_al0 iX8_many_63 ?_
    refine wp_gR iX8_many_64 fr_8_10 rfl rfl rfl ?_
    refine wp_gR iX8_many_67 fr_8_55 rfl rfl rfl ?_
    refine wp_gI iX8_many_70 fi_8_80 rfl ?_
    refine wp_ret iX8_many_73 rfl ?_
    (exact fin _ (by omega) (by unfold manyX; (repeat rw [if_neg (by omega)]) <;> first | rfl | (rw [if_pos (by omega)])))
  · exact k74 c_1
  · refine wp_al0 iX8_many_96 ?_
    refine wp_gR iX8_many_97 fr_8_10 rfl rfl rfl ?_
    refine wp_gR iX8_many_100 fr_8_147 rfl rfl rfl ?_
    refine wp_gI iX8_many_103 fi_8_151 rfl ?_
    refine wp_ret iX8_many_106 rfl ?_
    (exact fin _ (by omega) (by unfold manyX; (repeat rw [if_neg (by omega)]) <;> first | rfl | (rw [if_pos (by omega)])))
  · refine wp_al0 iX8_many_107 ?_
    refine wp_gR iX8_many_108 fr_8_10 rfl rfl rfl ?_
    refine wp_gR iX8_many_111 fr_8_181 rfl rfl rfl ?_
    refine wp_gI iX8_many_114 fi_8_185 rfl ?_
    refine wp_ret iX8_many_117 rfl ?_
    (exact fin _ (by omega) (by unfold manyX; (repeat rw [if_neg (by omega)]) <;> first | rfl | (rw [if_pos (by omega)])))
  · refine wp_al0 iX8_many_118 ?_
    refine wp_gR iX8_many_119 fr_8_10 rfl rfl rfl ?_
    refine wp_gR iX8_many_122 fr_8_65 rfl rfl rfl ?_
    refine wp_gI iX8_many_125 fi_8_210 rfl ?_
    refine wp_ret iX8_many_128 rfl ?_
    (exact fin _ (by omega) (by unfold manyX; (repeat rw [if_neg (by omega)]) <;> first | rfl | (rw [if_pos (by omega)])))
  · refine wp_al0 iX8_many_129 ?_
    refine wp_gR iX8_many_130 fr_8_10 rfl rfl rfl ?_
    refine wp_gR iX8_many_133 fr_8_65 rfl rfl rfl ?_
    refine wp_al0 iX8_many_136 ?_
    refine wp_gR iX8_many_137 fr_8_10 rfl rfl rfl ?_
    refine wp_gR iX8_many_140 fr_8_55 rfl rfl rfl ?_
    refine wp_v1f iX8_many_143 ml_8_249 rfl rfl rfl rfl (c_X3_countWoven L M h hl hf) ?_
    refine wp_ret iX8_many_146 rfl ?_
    (exact fin _ (by omega) (by unfold manyX; (repeat rw [if_neg (by omega)]) <;> first | rfl | (rw [if_pos (by omega)])))
  · refine wp_al0 iX8_many_147 ?_
    refine wp_gR iX8_many_148 fr_8_10 rfl rfl rfl ?_
    refine wp_gR iX8_many_151 fr_8_65 rfl rfl rfl ?_
    refine wp_gI iX8_many_154 fi_8_253 rfl ?_
    refine wp_ret iX8_many_157 rfl ?_
    (exact fin _ (by omega) (by unfold manyX; (repeat rw [if_neg (by omega)]) <;> first | rfl | (rw [if_pos (by omega)])))
  · refine wp_al0 iX8_many_158 ?_
    refine wp_gR iX8_many_159 fr_8_10 rfl rfl rfl ?_
    refine wp_gR iX8_many_162 fr_8_55 rfl rfl rfl ?_
    refine wp_v0f iX8_many_165 ml_8_254 rfl rfl rfl rfl (c_X0_countFaces L M h) ?_
    refine wp_ret iX8_many_168 rfl ?_
    (exact fin _ (by omega) (by unfold manyX; (repeat rw [if_neg (by omega)]) <;> first | rfl | (rw [if_pos (by omega)])))
end OfX
