section OfM
variable (L : Nat) (M : ab_Me) {C R : Nat}
theorem c_X9_field (h : hM M) (hC : M 56 0 = (C : Int)) (hR : M 56 1 = (R : Int)) (w p : Int) : ct L 4 mX9_field [.inr 56, .inl w, .inl p] M (fun r N => (¬ ((0 ≤ w ∧ w < C) ∧ 0 ≤ p ∧ p < R) ∧ r = some (.inl (-1)) ∧ N = M) ∨ (((0 ≤ w ∧ w < C) ∧ 0 ≤ p ∧ p < R) ∧ fdM C R (M 57) M N ∧ ∃ n xs fl, isF C R (M 57) n xs fl ∧ r = some (.inl (fl (12 * p + w).toNat : Int)))) := by
  obtain ⟨h1, h2, h3, h4, h5, h6⟩ := id h
  refine ct_of rfl ?_
  change wp _ _ _ 0 [some (.inr 56), some (.inl w), some (.inl p), none] [] _ _
  refine wp_al0 iX9_field_0 ?_
  refine wp_il1 iX9_field_1 ?_
  refine wp_il2 iX9_field_2 ?_
  refine wp_v2f iX9_field_3 ml_9_118 rfl rfl rfl rfl (c_X9_isSquare L M h w p) ?_
  refine wp_bne iX9_field_6 (fun c_6 => ?_) (fun c_6 => ?_)
  · rw [hC, hR] at c_6
    refine wp_al0 iX9_field_11 ?_
    refine wp_v0x iX9_field_12 ml_9_149 rfl rfl rfl rfl (c_X9_findFields L M h hC hR) (fun r N hx => ?_)
    obtain ⟨rfl, hf⟩ := hx
    obtain ⟨f1, f1', n, xs, fl, f2, f3, f4, f5, f6⟩ := id hf
    have hon : onB C R (12 * p + w).toNat := ⟨by omega, by omega⟩
    have hfl := f3.2.2.1 _ hon
    refine wp_ic iX9_field_15 (by decide) ?_
    refine wp_is3 iX9_field_16 ?_
    have key : ∀ (m f : Nat), fl (12 * p + w).toNat - f = m → f ≤ fl (12 * p + w).toNat → wp L 3 mX9_field 17 [some (.inr 56), some (.inl w), some (.inl p), some (.inl (f : Int))] [] N (fun r N => (¬ ((0 ≤ w ∧ w < C) ∧ 0 ≤ p ∧ p < R) ∧ r = some (.inl (-1)) ∧ N = M) ∨ (((0 ≤ w ∧ w < C) ∧ 0 ≤ p ∧ p < R) ∧ fdM C R (M 57) M N ∧ ∃ n xs fl, isF C R (M 57) n xs fl ∧ r = some (.inl (fl (12 * p + w).toNat : Int)))) := by
      intro m
      induction m using Nat.strongRecOn with
      | ind m ih =>
        intro f hm hfle
        have tf : ((f : Int)).toNat = f := by omega
        refine wp_al0 iX9_field_17 ?_
        refine wp_gR iX9_field_18 fr_9_72 rfl rfl rfl ?_
        refine wp_il3 iX9_field_21 ?_
        refine wp_ia iX9_field_22 rfl (by omega) ?_
        rw [tf, (f6 f (by omega)).1]
        refine wp_al0 iX9_field_23 ?_
        refine wp_gR iX9_field_24 fr_9_69 rfl rfl rfl ?_
        refine wp_bp iX9_field_27 (by decide) ?_
        refine wp_il2 iX9_field_29 ?_
        refine wp_mul iX9_field_30 (by omega) ?_
        refine wp_il1 iX9_field_31 ?_
        refine wp_add iX9_field_32 (by omega) ?_
        refine wp_ia iX9_field_33 rfl (by omega) ?_
        rw [f5 _ hon]
        refine wp_ceq iX9_field_34 (fun c_34 => ?_) (fun c_34 => ?_)
        · have hfe : f = fl (12 * p + w).toNat := inc_inj f3.2.1 (by omega) hfl.1 (by omega)
          refine wp_il3 iX9_field_43 ?_
          refine wp_ret iX9_field_44 rfl ?_
          exact Or.inr ⟨c_6, hf, n, xs, fl, f3, by rw [hfe]⟩
        · refine wp_ii3 iX9_field_37 (by omega) ?_
          refine wp_goto iX9_field_40 ?_
          have : f ≠ fl (12 * p + w).toNat := fun z => by rw [z] at c_34; exact c_34 rfl
          rw [show (f : Int) + 1 = ((f + 1 : Nat) : Int) by omega]
          exact ih _ (by omega) (f + 1) rfl (by omega)
    exact key _ 0 rfl (by omega)
  · rw [hC, hR] at c_6
    refine wp_ic iX9_field_9 (by decide) ?_
    refine wp_ret iX9_field_10 rfl ?_
    exact Or.inl ⟨c_6, rfl, rfl⟩
theorem c_X9_of (h : hM M) (hC : M 56 0 = (C : Int)) (hR : M 56 1 = (R : Int)) (f what : Int) : ct L 4 mX9_of [.inr 56, .inl f, .inl what] M (fun r N => fdM C R (M 57) M N ∧ ∃ n xs fl, isF C R (M 57) n xs fl ∧ r = some (.inl (ofV C R (M 57) n xs fl f what))) := by
  obtain ⟨h1, h2, h3, h4, h5, h6⟩ := id h
  refine ct_of rfl ?_
  change wp _ _ _ 0 [some (.inr 56), some (.inl f), some (.inl what)] [] _ _
  refine wp_al0 iX9_of_0 ?_
  refine wp_v0x iX9_of_1 ml_9_149 rfl rfl rfl rfl (c_X9_findFields L M h hC hR) (fun r N hx => ?_)
  obtain ⟨rfl, hf⟩ := hx
  obtain ⟨f1, f1', n, xs, fl, f2, f3, f4, f5, f6⟩ := id hf
  have fin : ∀ z : Int, z = ofV C R (M 57) n xs fl f what → (fdM C R (M 57) M N ∧ ∃ n xs fl, isF C R (M 57) n xs fl ∧ some (Sum.inl z : ab_V) = some (.inl (ofV C R (M 57) n xs fl f what))) := fun z hz => ⟨hf, n, xs, fl, f3, by rw [hz]⟩
  have no : ¬ ((0 ≤ f ∧ f < (n : Int)) ∧ 0 ≤ what ∧ what ≤ 3) → wp L 3 mX9_of 27 [some (.inr 56), some (.inl f), some (.inl what)] [] N (fun r N => fdM C R (M 57) M N ∧ ∃ n xs fl, isF C R (M 57) n xs fl ∧ r = some (.inl (ofV C R (M 57) n xs fl f what))) := by
    intro q
    refine wp_ic iX9_of_27 (by decide) ?_
    refine wp_ret iX9_of_28 rfl ?_
    exact fin _ (by unfold ofV; rw [if_neg q])
  refine wp_il1 iX9_of_4 ?_
  refine wp_ic iX9_of_5 (by decide) ?_
  refine wp_al0 iX9_of_6 ?_
  refine wp_gI iX9_of_7 fi_9_143 rfl ?_
  rw [f4]
  refine wp_ic iX9_of_10 (by decide) ?_
  refine wp_sub iX9_of_11 (by omega) ?_
  refine wp_s3f iX9_of_12 ml_9_111 rfl rfl rfl (c_X9_in L N f 0 ((n : Int) - 1)) ?_
  refine wp_beq iX9_of_15 (fun c_15 => ?_) (fun c_15 => ?_)
  · exact no (by omega)
  · refine wp_il2 iX9_of_18 ?_
    refine wp_ic iX9_of_19 (by decide) ?_
    refine wp_ic iX9_of_20 (by decide) ?_
    refine wp_s3f iX9_of_21 ml_9_111 rfl rfl rfl (c_X9_in L N what 0 3) ?_
    refine wp_bne iX9_of_24 (fun c_24 => ?_) (fun c_24 => ?_)
    · have e : (0 ≤ f ∧ f < (n : Int)) ∧ 0 ≤ what ∧ what ≤ 3 := by omega
      have g := f6 f.toNat (by omega)
      have gx := f3.1 f.toNat (by omega)
      have gx120 := on_lt (by omega) (by omega) gx.1
      have e57 : N 57 = M 57 := f1 57 (by decide) (by omega)
      have eC : N 56 0 = (C : Int) := by rw [f1' 0 (by decide)]; exact hC
      have hpc := pC_bd (p := xs f.toNat / 12) (C := C) (by omega) (by omega)
      have k56 : what = 0 → wp L 3 mX9_of 56 [some (.inr 56), some (.inl f), some (.inl what)] [] N (fun r N => fdM C R (M 57) M N ∧ ∃ n xs fl, isF C R (M 57) n xs fl ∧ r = some (.inl (ofV C R (M 57) n xs fl f what))) := by
        intro hq
        refine wp_al0 iX9_of_56 ?_
        refine wp_gR iX9_of_57 fr_9_16 rfl rfl rfl ?_
        refine wp_al0 iX9_of_60 ?_
        refine wp_gR iX9_of_61 fr_9_72 rfl rfl rfl ?_
        refine wp_il1 iX9_of_64 ?_
        refine wp_ia iX9_of_65 rfl (by omega) ?_
        rw [g.1]
        refine wp_ia iX9_of_66 rfl (by omega) ?_
        rw [e57, show ((xs f.toNat : Nat) : Int).toNat = xs f.toNat by omega]
        refine wp_ret iX9_of_67 rfl ?_
        refine fin _ ?_
        unfold ofV
        rw [if_pos e, hq]
        rfl
      have k68 : what = 1 → wp L 3 mX9_of 68 [some (.inr 56), some (.inl f), some (.inl what)] [] N (fun r N => fdM C R (M 57) M N ∧ ∃ n xs fl, isF C R (M 57) n xs fl ∧ r = some (.inl (ofV C R (M 57) n xs fl f what))) := by
        intro hq
        refine wp_al0 iX9_of_68 ?_
        refine wp_gR iX9_of_69 fr_9_75 rfl rfl rfl ?_
        refine wp_il1 iX9_of_72 ?_
        refine wp_ia iX9_of_73 rfl (by omega) ?_
        rw [g.2.1]
        refine wp_ret iX9_of_74 rfl ?_
        refine fin _ ?_
        unfold ofV
        rw [if_pos e, hq]
        rfl
      have k75 : what = 2 → wp L 3 mX9_of 75 [some (.inr 56), some (.inl f), some (.inl what)] [] N (fun r N => fdM C R (M 57) M N ∧ ∃ n xs fl, isF C R (M 57) n xs fl ∧ r = some (.inl (ofV C R (M 57) n xs fl f what))) := by
        intro hq
        refine wp_al0 iX9_of_75 ?_
        refine wp_gR iX9_of_76 fr_9_78 rfl rfl rfl ?_
        refine wp_il1 iX9_of_79 ?_
        refine wp_ia iX9_of_80 rfl (by omega) ?_
        rw [g.2.2]
        refine wp_ret iX9_of_81 rfl ?_
        refine fin _ ?_
        unfold ofV
        rw [if_pos e, hq]
        rfl
      have k82 : what = 3 → wp L 3 mX9_of 82 [some (.inr 56), some (.inl f), some (.inl what)] [] N (fun r N => fdM C R (M 57) M N ∧ ∃ n xs fl, isF C R (M 57) n xs fl ∧ r = some (.inl (ofV C R (M 57) n xs fl f what))) := by
        intro hq
        refine wp_al0 iX9_of_82 ?_
        refine wp_gR iX9_of_83 fr_9_72 rfl rfl rfl ?_
        refine wp_il1 iX9_of_86 ?_
        refine wp_ia iX9_of_87 rfl (by omega) ?_
        rw [g.1]
        refine wp_bp iX9_of_88 (by decide) ?_
        refine wp_div iX9_of_90 (by omega) ?_
        refine wp_al0 iX9_of_91 ?_
        refine wp_gI iX9_of_92 fi_9_7 rfl ?_
        rw [eC, show ((xs f.toNat : Nat) : Int) / 12 = ((xs f.toNat / 12 : Nat) : Int) by omega]
        refine wp_mul iX9_of_95 (by omega) ?_
        refine wp_al0 iX9_of_96 ?_
        refine wp_gR iX9_of_97 fr_9_72 rfl rfl rfl ?_
        refine wp_il1 iX9_of_100 ?_
        refine wp_ia iX9_of_101 rfl (by omega) ?_
        rw [g.1]
        refine wp_bp iX9_of_102 (by decide) ?_
        refine wp_rem iX9_of_104 (by omega) ?_
        rw [show ((xs f.toNat : Nat) : Int) % 12 = ((xs f.toNat % 12 : Nat) : Int) by omega]
        refine wp_add iX9_of_105 (by omega) ?_
        refine wp_ret iX9_of_106 rfl ?_
        refine fin _ ?_
        unfold ofV
        rw [if_pos e, hq]
        rfl
      refine wp_il2 iX9_of_29 ?_
      refine wp_t3 (td := 82) (t0 := 56) (t1 := 68) (t2 := 75) iX9_of_30 (by decide) (by decide) (by decide) (by decide) (fun c_30 => ?_) (fun c_30 => ?_) (fun c_30 => ?_) (fun c_30 => ?_)
      · exact k82 (by omega)
      · exact k56 c_30
      · exact k68 c_30
      · exact k75 c_30
    · exact no (by omega)
def manyM (M : ab_Me) (x : Int) : Int := if x = 0 then M 56 0 else if x = 1 then M 56 1 else if x = 3 then M 56 4 else if x = 4 then M 56 7 else if x = 5 then M 56 12 else if x = 6 then (if 0 < M 56 12 then sm (fun p => sm (fun w => iwM M (w : Int) (p : Int)) (M 56 0).toNat) (M 56 1).toNat else 0) else if x = 7 then (if M 56 12 = 0 then 0 else M 56 13) else if x = 8 then sm (M 58) 120 else -1
theorem c_X9_many (h : hM M) (hl : hLM M) (hp : 0 < M 56 12 → hPt M) (hC : M 56 0 = (C : Int)) (hR : M 56 1 = (R : Int)) (x : Int) : ct L 5 mX9_many [.inr 56, .inl x] M (fun r N => (x = 2 ∧ fdM C R (M 57) M N ∧ ∃ n xs fl, isF C R (M 57) n xs fl ∧ r = some (.inl (n : Int))) ∨ (x ≠ 2 ∧ N = M ∧ r = some (.inl (manyM M x)))) := by
  refine ct_of rfl ?_
  change wp _ _ _ 0 [some (.inr 56), some (.inl x)] [] _ _
  have fin : ∀ z : Int, x ≠ 2 → z = manyM M x → ((x = 2 ∧ fdM C R (M 57) M M ∧ ∃ n xs fl, isF C R (M 57) n xs fl ∧ (some (.inl z) : Option ab_V) = some (.inl (n : Int))) ∨ (x ≠ 2 ∧ M = M ∧ (some (.inl z) : Option ab_V) = some (.inl (manyM M x)))) := fun z h1 h2 => Or.inr ⟨h1, rfl, by rw [h2]⟩
  have k62 : x = 2 → wp L 4 mX9_many 62 [some (.inr 56), some (.inl x)] [] M (fun r N => (x = 2 ∧ fdM C R (M 57) M N ∧ ∃ n xs fl, isF C R (M 57) n xs fl ∧ r = some (.inl (n : Int))) ∨ (x ≠ 2 ∧ N = M ∧ r = some (.inl (manyM M x)))) := by
    intro hq
    refine wp_al0 iX9_many_62 ?_
    refine wp_v0x iX9_many_63 ml_9_149 rfl rfl rfl rfl (c_X9_findFields L M h hC hR) (fun r N hx => ?_)
    obtain ⟨rfl, hf⟩ := hx
    obtain ⟨f1, f1', n, xs, fl, f2, f3, f4, f5, f6⟩ := id hf
    refine wp_al0 iX9_many_66 ?_
    refine wp_gI iX9_many_67 fi_9_143 rfl ?_
    rw [f4]
    refine wp_ret iX9_many_70 rfl ?_
    exact Or.inl ⟨hq, hf, n, xs, fl, f3, rfl⟩
  have m7 : manyM M 7 = if M 56 12 = 0 then 0 else M 56 13 := rfl
  refine wp_il1 iX9_many_0 ?_
  refine wp_t9 (td := 112) (t0 := 52) (t1 := 57) (t2 := 62) (t3 := 71) (t4 := 76) (t5 := 81) (t6 := 86) (t7 := 91) (t8 := 107) iX9_many_1 (by decide) (by decide) (by decide) (by decide) (by decide) (by decide) (by decide) (by decide) (by decide) (by decide) (fun c_1 => ?_) (fun c_1 => ?_) (fun c_1 => ?_) (fun c_1 => ?_) (fun c_1 => ?_) (fun c_1 => ?_) (fun c_1 => ?_) (fun c_1 => ?_) (fun c_1 => ?_) (fun c_1 => ?_)
  · refine wp_ic iX9_many_112 (by decide) ?_
    refine wp_ret iX9_many_113 rfl ?_
    (first | (subst c_1; exact fin _ (by decide) rfl) | (subst c_1; exact fin _ (by decide) (by rw [m7, if_pos (by omega)])) | (subst c_1; exact fin _ (by decide) (by rw [m7, if_neg (by omega)])) | (refine fin _ (by omega) ?_; unfold manyM; rw [if_neg (by omega), if_neg (by omega), if_neg (by omega), if_neg (by omega), if_neg (by omega), if_neg (by omega), if_neg (by omega), if_neg (by omega)]))
  · refine wp_al0 iX9_many_52 ?_
    refine wp_gI iX9_many_53 fi_9_7 rfl ?_
    refine wp_ret iX9_many_56 rfl ?_
    (first | (subst c_1; exact fin _ (by decide) rfl) | (subst c_1; exact fin _ (by decide) (by rw [m7, if_pos (by omega)])) | (subst c_1; exact fin _ (by decide) (by rw [m7, if_neg (by omega)])) | (refine fin _ (by omega) ?_; unfold manyM; rw [if_neg (by omega), if_neg (by omega), if_neg (by omega), if_neg (by omega), if_neg (by omega), if_neg (by omega), if_neg (by omega), if_neg (by omega)]))
  · refine wp_al0 iX9_many_57 ?_
    refine wp_gI iX9_many_58 fi_9_13 rfl ?_
    refine wp_ret iX9_many_61 rfl ?_
    (first | (subst c_1; exact fin _ (by decide) rfl) | (subst c_1; exact fin _ (by decide) (by rw [m7, if_pos (by omega)])) | (subst c_1; exact fin _ (by decide) (by rw [m7, if_neg (by omega)])) | (refine fin _ (by omega) ?_; unfold manyM; rw [if_neg (by omega), if_neg (by omega), if_neg (by omega), if_neg (by omega), if_neg (by omega), if_neg (by omega), if_neg (by omega), if_neg (by omega)]))
  · exact k62 c_1
  · refine wp_al0 iX9_many_71 ?_
    refine wp_gI iX9_many_72 fi_9_152 rfl ?_
    refine wp_ret iX9_many_75 rfl ?_
    (first | (subst c_1; exact fin _ (by decide) rfl) | (subst c_1; exact fin _ (by decide) (by rw [m7, if_pos (by omega)])) | (subst c_1; exact fin _ (by decide) (by rw [m7, if_neg (by omega)])) | (refine fin _ (by omega) ?_; unfold manyM; rw [if_neg (by omega), if_neg (by omega), if_neg (by omega), if_neg (by omega), if_neg (by omega), if_neg (by omega), if_neg (by omega), if_neg (by omega)]))
  · refine wp_al0 iX9_many_76 ?_
    refine wp_gI iX9_many_77 fi_9_174 rfl ?_
    refine wp_ret iX9_many_80 rfl ?_
    (first | (subst c_1; exact fin _ (by decide) rfl) | (subst c_1; exact fin _ (by decide) (by rw [m7, if_pos (by omega)])) | (subst c_1; exact fin _ (by decide) (by rw [m7, if_neg (by omega)])) | (refine fin _ (by omega) ?_; unfold manyM; rw [if_neg (by omega), if_neg (by omega), if_neg (by omega), if_neg (by omega), if_neg (by omega), if_neg (by omega), if_neg (by omega), if_neg (by omega)]))
  · refine wp_al0 iX9_many_81 ?_
    refine wp_gI iX9_many_82 fi_9_115 rfl ?_
    refine wp_ret iX9_many_85 rfl ?_
    (first | (subst c_1; exact fin _ (by decide) rfl) | (subst c_1; exact fin _ (by decide) (by rw [m7, if_pos (by omega)])) | (subst c_1; exact fin _ (by decide) (by rw [m7, if_neg (by omega)])) | (refine fin _ (by omega) ?_; unfold manyM; rw [if_neg (by omega), if_neg (by omega), if_neg (by omega), if_neg (by omega), if_neg (by omega), if_neg (by omega), if_neg (by omega), if_neg (by omega)]))
  · refine wp_al0 iX9_many_86 ?_
    refine wp_v0f iX9_many_87 ml_9_220 rfl rfl rfl rfl (c_X9_manyWoven L M h hl hp) ?_
    refine wp_ret iX9_many_90 rfl ?_
    (first | (subst c_1; exact fin _ (by decide) rfl) | (subst c_1; exact fin _ (by decide) (by rw [m7, if_pos (by omega)])) | (subst c_1; exact fin _ (by decide) (by rw [m7, if_neg (by omega)])) | (refine fin _ (by omega) ?_; unfold manyM; rw [if_neg (by omega), if_neg (by omega), if_neg (by omega), if_neg (by omega), if_neg (by omega), if_neg (by omega), if_neg (by omega), if_neg (by omega)]))
  · refine wp_al0 iX9_many_91 ?_
    refine wp_gI iX9_many_92 fi_9_115 rfl ?_
    refine wp_zne iX9_many_95 (fun c_95 => ?_) (fun c_95 => ?_)
    · refine wp_al0 iX9_many_102 ?_
      refine wp_gI iX9_many_103 fi_9_202 rfl ?_
      refine wp_ret iX9_many_106 rfl ?_
      (first | (subst c_1; exact fin _ (by decide) rfl) | (subst c_1; exact fin _ (by decide) (by rw [m7, if_pos (by omega)])) | (subst c_1; exact fin _ (by decide) (by rw [m7, if_neg (by omega)])) | (refine fin _ (by omega) ?_; unfold manyM; rw [if_neg (by omega), if_neg (by omega), if_neg (by omega), if_neg (by omega), if_neg (by omega), if_neg (by omega), if_neg (by omega), if_neg (by omega)]))
    · refine wp_ic iX9_many_98 (by decide) ?_
      refine wp_goto iX9_many_99 ?_
      refine wp_ret iX9_many_106 rfl ?_
      (first | (subst c_1; exact fin _ (by decide) rfl) | (subst c_1; exact fin _ (by decide) (by rw [m7, if_pos (by omega)])) | (subst c_1; exact fin _ (by decide) (by rw [m7, if_neg (by omega)])) | (refine fin _ (by omega) ?_; unfold manyM; rw [if_neg (by omega), if_neg (by omega), if_neg (by omega), if_neg (by omega), if_neg (by omega), if_neg (by omega), if_neg (by omega), if_neg (by omega)]))
  · refine wp_al0 iX9_many_107 ?_
    refine wp_v0f iX9_many_108 ml_9_224 rfl rfl rfl rfl (c_X9_manyFaces L M h) ?_
    refine wp_ret iX9_many_111 rfl ?_
    (first | (subst c_1; exact fin _ (by decide) rfl) | (subst c_1; exact fin _ (by decide) (by rw [m7, if_pos (by omega)])) | (subst c_1; exact fin _ (by decide) (by rw [m7, if_neg (by omega)])) | (refine fin _ (by omega) ?_; unfold manyM; rw [if_neg (by omega), if_neg (by omega), if_neg (by omega), if_neg (by omega), if_neg (by omega), if_neg (by omega), if_neg (by omega), if_neg (by omega)]))
end OfM
