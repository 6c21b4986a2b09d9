/-! ===== keep and back of the reference ===== -/
section KeepM
variable (L : Nat) (M : ab_Me)
def mK1 (M : ab_Me) : ab_Me := ab_up (ab_up (ab_up (ab_up (ab_up (ab_up (ab_up M 56 18 1) 67 0 (M 56 0)) 67 1 (M 56 1)) 67 2 (M 56 4)) 67 3 (M 56 7)) 67 4 (M 56 12)) 67 5 (M 56 13)
theorem mK1_fr (M : ab_Me) (a : Nat) (h1 : a ≠ 56) (h2 : a ≠ 67) : mK1 M a = M a := by
  unfold mK1
  rw [ab_up_ne _ _ _ h2, ab_up_ne _ _ _ h2, ab_up_ne _ _ _ h2, ab_up_ne _ _ _ h2, ab_up_ne _ _ _ h2, ab_up_ne _ _ _ h2, ab_up_ne _ _ _ h1]
theorem mK1_56 (M : ab_Me) (j : Nat) (h : j ≠ 18) : mK1 M 56 j = M 56 j := by
  show ab_up M 56 18 1 56 j = M 56 j
  rw [ab_up_self, ab_u1_ne _ _ h]
def pK (M M1 : ab_Me) : Prop := M1 56 18 = 1 ∧ (∀ j, j ≠ 18 → M1 56 j = M 56 j) ∧ (M1 67 0 = M 56 0 ∧ M1 67 1 = M 56 1 ∧ M1 67 2 = M 56 4 ∧ M1 67 3 = M 56 7 ∧ M1 67 4 = M 56 12 ∧ M1 67 5 = M 56 13) ∧ (∀ k : Nat, k < 120 → M1 68 k = M 57 k + 8 * M 58 k) ∧ (∀ k : Nat, k < 12 → M1 69 k = M 59 k ∧ M1 69 (12 + k) = M 60 k) ∧ (∀ k : Nat, k < 4 → M1 70 k = M 61 k ∧ M1 70 (4 + k) = M 62 k) ∧ (∀ k : Nat, k < 4 → M1 71 k = M 63 k ∧ M1 71 (4 + k) = M 64 k ∧ M1 71 (8 + k) = M 65 k ∧ M1 71 (12 + k) = M 66 k) ∧ ∀ a, a ≠ 56 → a ≠ 67 → a ≠ 68 → a ≠ 69 → a ≠ 70 → a ≠ 71 → M1 a = M a
theorem c_X9_keep (h : hM M) (hms : ∀ k, M 62 k = 0 ∨ M 62 k = 1) : ct L 3 mX9_keep [.inr 56] M (fun r M1 => r = some (.inl 1) ∧ pK M M1) := by
  obtain ⟨h1, h2, h3, h4, h5, h6⟩ := id h
  refine ct_of rfl ?_
  change wp _ _ _ 0 [some (.inr 56), none] [] _ _
  refine wp_al0 iX9_keep_0 ?_
  refine wp_ic iX9_keep_1 (by decide) ?_
  refine wp_pB iX9_keep_2 fb_9_227 rfl (by decide) ?_
  refine wp_al0 iX9_keep_5 ?_
  refine wp_gR iX9_keep_6 fr_9_54 rfl rfl rfl ?_
  refine wp_ic iX9_keep_9 (by decide) ?_
  refine wp_al0 iX9_keep_10 ?_
  refine wp_gI iX9_keep_11 fi_9_7 rfl ?_
  refine wp_is iX9_keep_14 rfl rfl (by omega) ?_
  refine wp_al0 iX9_keep_15 ?_
  refine wp_gR iX9_keep_16 fr_9_54 rfl rfl rfl ?_
  refine wp_ic iX9_keep_19 (by decide) ?_
  refine wp_al0 iX9_keep_20 ?_
  refine wp_gI iX9_keep_21 fi_9_13 rfl ?_
  refine wp_is iX9_keep_24 rfl rfl (by omega) ?_
  refine wp_al0 iX9_keep_25 ?_
  refine wp_gR iX9_keep_26 fr_9_54 rfl rfl rfl ?_
  refine wp_ic iX9_keep_29 (by decide) ?_
  refine wp_al0 iX9_keep_30 ?_
  refine wp_gI iX9_keep_31 fi_9_152 rfl ?_
  refine wp_is iX9_keep_34 rfl rfl (by omega) ?_
  refine wp_al0 iX9_keep_35 ?_
  refine wp_gR iX9_keep_36 fr_9_54 rfl rfl rfl ?_
  refine wp_ic iX9_keep_39 (by decide) ?_
  refine wp_al0 iX9_keep_40 ?_
  refine wp_gI iX9_keep_41 fi_9_174 rfl ?_
  refine wp_is iX9_keep_44 rfl rfl (by omega) ?_
  refine wp_al0 iX9_keep_45 ?_
  refine wp_gR iX9_keep_46 fr_9_54 rfl rfl rfl ?_
  refine wp_ic iX9_keep_49 (by decide) ?_
  refine wp_al0 iX9_keep_50 ?_
  refine wp_gI iX9_keep_51 fi_9_115 rfl ?_
  refine wp_is iX9_keep_54 rfl rfl (by omega) ?_
  refine wp_al0 iX9_keep_55 ?_
  refine wp_gR iX9_keep_56 fr_9_54 rfl rfl rfl ?_
  refine wp_ic iX9_keep_59 (by decide) ?_
  refine wp_al0 iX9_keep_60 ?_
  refine wp_gI iX9_keep_61 fi_9_202 rfl ?_
  refine wp_is iX9_keep_64 rfl rfl (by omega) ?_
  refine wp_ic iX9_keep_65 (by decide) ?_
  refine wp_is1 iX9_keep_66 ?_
  have key3 : ∀ (n : Nat) (i : Int) (N : ab_Me), (4 - i).toNat = n → 0 ≤ i → i ≤ 4 → (∀ a, a ≠ 68 → a ≠ 69 → a ≠ 70 → a ≠ 71 → N a = mK1 M a) → (∀ k : Nat, k < 120 → N 68 k = M 57 k + 8 * M 58 k) → (∀ k : Nat, k < 12 → N 69 k = M 59 k ∧ N 69 (12 + k) = M 60 k) → (∀ k : Nat, (k : Int) < i → N 70 k = M 61 k ∧ N 70 (4 + k) = M 62 k) → (∀ k : Nat, (k : Int) < i → N 71 k = M 63 k ∧ N 71 (4 + k) = M 64 k ∧ N 71 (8 + k) = M 65 k ∧ N 71 (12 + k) = M 66 k) → wp L 2 mX9_keep 133 [some (.inr 56), some (.inl i)] [] N (fun r M1 => r = some (.inl 1) ∧ pK M M1) := by
    intro n
    induction n using Nat.strongRecOn with
    | ind n ih =>
      intro i N hn hi0 hi1 hfr h68 h69 h70 h71
      have g : ∀ a, a ≠ 56 → a ≠ 67 → a ≠ 68 → a ≠ 69 → a ≠ 70 → a ≠ 71 → N a = M a := fun a b1 b2 b3 b4 b5 b6 => (hfr a b3 b4 b5 b6).trans (mK1_fr M a b1 b2)
      refine wp_il1 iX9_keep_133 ?_
      refine wp_ic iX9_keep_134 (by decide) ?_
      refine wp_cge iX9_keep_135 (fun c_135 => ?_) (fun c_135 => ?_)
      · refine wp_ic iX9_keep_234 (by decide) ?_
        refine wp_ret iX9_keep_235 rfl ?_
        refine ⟨rfl, ?_, ?_, ?_, h68, h69, fun k hk => h70 k (by omega), fun k hk => h71 k (by omega), g⟩
        · rw [hfr 56 (by decide) (by decide) (by decide) (by decide)]; rfl
        · intro j hj; rw [hfr 56 (by decide) (by decide) (by decide) (by decide)]; exact mK1_56 M j hj
        · rw [hfr 67 (by decide) (by decide) (by decide) (by decide)]; exact ⟨rfl, rfl, rfl, rfl, rfl, rfl⟩
      · have hv := hms i.toNat
        have e62 : ab_up N 70 i.toNat (N 61 i.toNat) 62 i.toNat = M 62 i.toNat := by rw [ab_up_ne _ _ _ (by decide), g 62 (by decide) (by decide) (by decide) (by decide) (by decide) (by decide)]
        refine wp_al0 iX9_keep_138 ?_
        refine wp_gR iX9_keep_139 fr_9_63 rfl rfl rfl ?_
        refine wp_il1 iX9_keep_142 ?_
        refine wp_al0 iX9_keep_143 ?_
        refine wp_gR iX9_keep_144 fr_9_30 rfl rfl rfl ?_
        refine wp_il1 iX9_keep_147 ?_
        refine wp_ia iX9_keep_148 rfl (by omega) ?_
        refine wp_is iX9_keep_149 rfl rfl (by omega) ?_
        refine wp_al0 iX9_keep_150 ?_
        refine wp_gR iX9_keep_151 fr_9_63 rfl rfl rfl ?_
        refine wp_ic iX9_keep_154 (by decide) ?_
        refine wp_il1 iX9_keep_155 ?_
        refine wp_add iX9_keep_156 (by omega) ?_
        refine wp_al0 iX9_keep_157 ?_
        refine wp_gR iX9_keep_158 fr_9_33 rfl rfl rfl ?_
        refine wp_il1 iX9_keep_161 ?_
        refine wp_ba iX9_keep_162 rfl rfl (by omega) ?_
        rw [e62]
        have fin : ∀ z : Int, z = M 62 i.toNat → ∀ N2, N2 = ab_up (ab_up N 70 i.toNat (N 61 i.toNat)) 70 (4 + i).toNat z → wp L 2 mX9_keep 172 [some (.inr 56), some (.inl i)] [] N2 (fun r M1 => r = some (.inl 1) ∧ pK M M1) := by
          intro z hz N2 hN2
          have f2 : ∀ a, a ≠ 70 → N2 a = N a := fun a ha => by rw [hN2, ab_up_ne _ _ _ ha, ab_up_ne _ _ _ ha]
          refine wp_al0 iX9_keep_172 ?_
          refine wp_gR iX9_keep_173 fr_9_66 rfl rfl rfl ?_
          refine wp_il1 iX9_keep_176 ?_
          refine wp_al0 iX9_keep_177 ?_
          refine wp_gR iX9_keep_178 fr_9_42 rfl rfl rfl ?_
          refine wp_il1 iX9_keep_181 ?_
          refine wp_ia iX9_keep_182 rfl (by omega) ?_
          refine wp_is iX9_keep_183 rfl rfl (by omega) ?_
          refine wp_al0 iX9_keep_184 ?_
          refine wp_gR iX9_keep_185 fr_9_66 rfl rfl rfl ?_
          refine wp_ic iX9_keep_188 (by decide) ?_
          refine wp_il1 iX9_keep_189 ?_
          refine wp_add iX9_keep_190 (by omega) ?_
          refine wp_al0 iX9_keep_191 ?_
          refine wp_gR iX9_keep_192 fr_9_45 rfl rfl rfl ?_
          refine wp_il1 iX9_keep_195 ?_
          refine wp_ia iX9_keep_196 rfl (by omega) ?_
          refine wp_is iX9_keep_197 rfl rfl (by omega) ?_
          refine wp_al0 iX9_keep_198 ?_
          refine wp_gR iX9_keep_199 fr_9_66 rfl rfl rfl ?_
          refine wp_bp iX9_keep_202 (by decide) ?_
          refine wp_il1 iX9_keep_204 ?_
          refine wp_add iX9_keep_205 (by omega) ?_
          refine wp_al0 iX9_keep_206 ?_
          refine wp_gR iX9_keep_207 fr_9_48 rfl rfl rfl ?_
          refine wp_il1 iX9_keep_210 ?_
          refine wp_ia iX9_keep_211 rfl (by omega) ?_
          refine wp_is iX9_keep_212 rfl rfl (by omega) ?_
          refine wp_al0 iX9_keep_213 ?_
          refine wp_gR iX9_keep_214 fr_9_66 rfl rfl rfl ?_
          refine wp_bp iX9_keep_217 (by decide) ?_
          refine wp_il1 iX9_keep_219 ?_
          refine wp_add iX9_keep_220 (by omega) ?_
          refine wp_al0 iX9_keep_221 ?_
          refine wp_gR iX9_keep_222 fr_9_51 rfl rfl rfl ?_
          refine wp_il1 iX9_keep_225 ?_
          refine wp_ia iX9_keep_226 rfl (by omega) ?_
          refine wp_is iX9_keep_227 rfl rfl (by omega) ?_
          refine ?_
          refine wp_ii1 iX9_keep_228 (by omega) ?_
          refine wp_goto iX9_keep_231 ?_
          refine ih _ (by omega) (i + 1) _ rfl (by omega) (by omega) (fun a b1 b2 b3 b4 => ?_) (fun k hk => ?_) (fun k hk => ?_) (fun k hk => ?_) (fun k hk => ?_)
          · rw [ab_up_ne _ _ _ b4, ab_up_ne _ _ _ b4, ab_up_ne _ _ _ b4, ab_up_ne _ _ _ b4, f2 a b3, hfr a b1 b2 b3 b4]
          · rw [ab_up_ne _ _ _ (by decide), ab_up_ne _ _ _ (by decide), ab_up_ne _ _ _ (by decide), ab_up_ne _ _ _ (by decide), f2 68 (by decide)]; exact h68 k hk
          · rw [ab_up_ne _ _ _ (by decide), ab_up_ne _ _ _ (by decide), ab_up_ne _ _ _ (by decide), ab_up_ne _ _ _ (by decide), f2 69 (by decide)]; exact h69 k hk
          · rw [ab_up_ne _ _ _ (by decide), ab_up_ne _ _ _ (by decide), ab_up_ne _ _ _ (by decide), ab_up_ne _ _ _ (by decide), hN2, ab_up_self, ab_up_self, g 61 (by decide) (by decide) (by decide) (by decide) (by decide) (by decide)]
            by_cases hki : k = i.toNat
            · subst hki
              refine ⟨by rw [ab_u1_ne _ _ (by omega), ab_u1_self], by rw [show 4 + i.toNat = (4 + i).toNat by omega, ab_u1_self, hz]⟩
            · have := h70 k (by omega)
              refine ⟨by rw [ab_u1_ne _ _ (by omega), ab_u1_ne _ _ (by omega)]; exact this.1, by rw [ab_u1_ne _ _ (by omega), ab_u1_ne _ _ (by omega)]; exact this.2⟩
          · have p63 : N2 63 = M 63 := (f2 63 (by decide)).trans (g 63 (by decide) (by decide) (by decide) (by decide) (by decide) (by decide))
            have p64 : N2 64 = M 64 := (f2 64 (by decide)).trans (g 64 (by decide) (by decide) (by decide) (by decide) (by decide) (by decide))
            have p65 : N2 65 = M 65 := (f2 65 (by decide)).trans (g 65 (by decide) (by decide) (by decide) (by decide) (by decide) (by decide))
            have p66 : N2 66 = M 66 := (f2 66 (by decide)).trans (g 66 (by decide) (by decide) (by decide) (by decide) (by decide) (by decide))
            simp only [ab_up_self, ab_up_ne _ _ _ (show (64 : Nat) ≠ 71 by decide), ab_up_ne _ _ _ (show (65 : Nat) ≠ 71 by decide), ab_up_ne _ _ _ (show (66 : Nat) ≠ 71 by decide), p63, p64, p65, p66]
            rw [f2 71 (by decide)]
            by_cases hki : k = i.toNat
            · subst hki
              refine ⟨?_, ?_, ?_, ?_⟩
              · rw [ab_u1_ne _ _ (by omega), ab_u1_ne _ _ (by omega), ab_u1_ne _ _ (by omega), ab_u1_self]
              · rw [ab_u1_ne _ _ (by omega), ab_u1_ne _ _ (by omega), show 4 + i.toNat = (4 + i).toNat by omega, ab_u1_self]
              · rw [ab_u1_ne _ _ (by omega), show 8 + i.toNat = (8 + i).toNat by omega, ab_u1_self]
              · rw [show 12 + i.toNat = (12 + i).toNat by omega, ab_u1_self]
            · have := h71 k (by omega)
              refine ⟨?_, ?_, ?_, ?_⟩
              · rw [ab_u1_ne _ _ (by omega), ab_u1_ne _ _ (by omega), ab_u1_ne _ _ (by omega), ab_u1_ne _ _ (by omega)]; exact this.1
              · rw [ab_u1_ne _ _ (by omega), ab_u1_ne _ _ (by omega), ab_u1_ne _ _ (by omega), ab_u1_ne _ _ (by omega)]; exact this.2.1
              · rw [ab_u1_ne _ _ (by omega), ab_u1_ne _ _ (by omega), ab_u1_ne _ _ (by omega), ab_u1_ne _ _ (by omega)]; exact this.2.2.1
              · rw [ab_u1_ne _ _ (by omega), ab_u1_ne _ _ (by omega), ab_u1_ne _ _ (by omega), ab_u1_ne _ _ (by omega)]; exact this.2.2.2
        refine wp_zeq iX9_keep_163 (fun c_163 => ?_) (fun c_163 => ?_)
        · refine wp_ic iX9_keep_170 (by decide) ?_
          refine wp_is iX9_keep_171 rfl rfl (by omega) ?_
          exact fin 0 (by omega) _ rfl
        · refine wp_ic iX9_keep_166 (by decide) ?_
          refine wp_goto iX9_keep_167 ?_
          refine wp_is iX9_keep_171 rfl rfl (by omega) ?_
          exact fin 1 (by omega) _ rfl
  have key2 : ∀ (n : Nat) (i : Int) (N : ab_Me), (12 - i).toNat = n → 0 ≤ i → i ≤ 12 → (∀ a, a ≠ 68 → a ≠ 69 → N a = mK1 M a) → (∀ k : Nat, k < 120 → N 68 k = M 57 k + 8 * M 58 k) → (∀ k : Nat, (k : Int) < i → N 69 k = M 59 k ∧ N 69 (12 + k) = M 60 k) → wp L 2 mX9_keep 92 [some (.inr 56), some (.inl i)] [] N (fun r M1 => r = some (.inl 1) ∧ pK M M1) := by
    intro n
    induction n using Nat.strongRecOn with
    | ind n ih =>
      intro i N hn hi0 hi1 hfr h68 h69
      have g59 : N 59 = M 59 := (hfr 59 (by decide) (by decide)).trans (mK1_fr M 59 (by decide) (by decide))
      have g60 : N 60 = M 60 := (hfr 60 (by decide) (by decide)).trans (mK1_fr M 60 (by decide) (by decide))
      refine wp_il1 iX9_keep_92 ?_
      refine wp_bp iX9_keep_93 (by decide) ?_
      refine wp_cge iX9_keep_95 (fun c_95 => ?_) (fun c_95 => ?_)
      · refine wp_ic iX9_keep_131 (by decide) ?_
        refine wp_is1 iX9_keep_132 ?_
        exact key3 _ 0 N rfl (by omega) (by omega) (fun a b1 b2 b3 b4 => hfr a b1 b2) h68 (fun k hk => h69 k (by omega)) (fun k hk => by omega) (fun k hk => by omega)
      · refine wp_al0 iX9_keep_98 ?_
        refine wp_gR iX9_keep_99 fr_9_60 rfl rfl rfl ?_
        refine wp_il1 iX9_keep_102 ?_
        refine wp_al0 iX9_keep_103 ?_
        refine wp_gR iX9_keep_104 fr_9_24 rfl rfl rfl ?_
        refine wp_il1 iX9_keep_107 ?_
        refine wp_ia iX9_keep_108 rfl (by omega) ?_
        refine wp_is iX9_keep_109 rfl rfl (by omega) ?_
        refine wp_al0 iX9_keep_110 ?_
        refine wp_gR iX9_keep_111 fr_9_60 rfl rfl rfl ?_
        refine wp_bp iX9_keep_114 (by decide) ?_
        refine wp_il1 iX9_keep_116 ?_
        refine wp_add iX9_keep_117 (by omega) ?_
        refine wp_al0 iX9_keep_118 ?_
        refine wp_gR iX9_keep_119 fr_9_27 rfl rfl rfl ?_
        refine wp_il1 iX9_keep_122 ?_
        refine wp_ia iX9_keep_123 rfl (by omega) ?_
        refine wp_is iX9_keep_124 rfl rfl (by omega) ?_
        refine wp_ii1 iX9_keep_125 (by omega) ?_
        refine wp_goto iX9_keep_128 ?_
        refine ih _ (by omega) (i + 1) _ rfl (by omega) (by omega) (fun a b1 b2 => ?_) (fun k hk => ?_) (fun k hk => ?_)
        · rw [ab_up_ne _ _ _ b2, ab_up_ne _ _ _ b2, hfr a b1 b2]
        · rw [ab_up_ne _ _ _ (by decide), ab_up_ne _ _ _ (by decide)]; exact h68 k hk
        · simp only [ab_up_self, ab_up_ne _ _ _ (show (60 : Nat) ≠ 69 by decide), g59, g60]
          by_cases hki : k = i.toNat
          · subst hki
            refine ⟨by rw [ab_u1_ne _ _ (by omega), ab_u1_self], by rw [show 12 + i.toNat = (12 + i).toNat by omega, ab_u1_self]⟩
          · have := h69 k (by omega)
            refine ⟨by rw [ab_u1_ne _ _ (by omega), ab_u1_ne _ _ (by omega)]; exact this.1, by rw [ab_u1_ne _ _ (by omega), ab_u1_ne _ _ (by omega)]; exact this.2⟩
  have key1 : ∀ (n : Nat) (i : Int) (N : ab_Me), (120 - i).toNat = n → 0 ≤ i → i ≤ 120 → (∀ a, a ≠ 68 → N a = mK1 M a) → (∀ k : Nat, (k : Int) < i → N 68 k = M 57 k + 8 * M 58 k) → wp L 2 mX9_keep 67 [some (.inr 56), some (.inl i)] [] N (fun r M1 => r = some (.inl 1) ∧ pK M M1) := by
    intro n
    induction n using Nat.strongRecOn with
    | ind n ih =>
      intro i N hn hi0 hi1 hfr h68
      have g56 : N 56 = mK1 M 56 := hfr 56 (by decide)
      have g57 : N 57 = M 57 := (hfr 57 (by decide)).trans (mK1_fr M 57 (by decide) (by decide))
      have g58 : N 58 = M 58 := (hfr 58 (by decide)).trans (mK1_fr M 58 (by decide) (by decide))
      have hN : hM N := by
        unfold hM
        rw [g56, g57, g58, mK1_56 M 0 (by decide), mK1_56 M 1 (by decide)]
        exact h
      refine wp_il1 iX9_keep_67 ?_
      refine wp_bp iX9_keep_68 (by decide) ?_
      refine wp_cge iX9_keep_70 (fun c_70 => ?_) (fun c_70 => ?_)
      · refine wp_ic iX9_keep_90 (by decide) ?_
        refine wp_is1 iX9_keep_91 ?_
        exact key2 _ 0 N rfl (by omega) (by omega) (fun a b1 b2 => hfr a b1) (fun k hk => h68 k (by omega)) (fun k hk => by omega)
      · refine wp_al0 iX9_keep_73 ?_
        refine wp_gR iX9_keep_74 fr_9_57 rfl rfl rfl ?_
        refine wp_il1 iX9_keep_77 ?_
        refine wp_al0 iX9_keep_78 ?_
        refine wp_il1 iX9_keep_79 ?_
        refine wp_v1f iX9_keep_80 ml_9_126 rfl rfl rfl rfl (c_X9_toldAt L N hN i (by omega)) ?_
        refine wp_is iX9_keep_83 rfl rfl (by omega) ?_
        refine wp_ii1 iX9_keep_84 (by omega) ?_
        refine wp_goto iX9_keep_87 ?_
        refine ih _ (by omega) (i + 1) _ rfl (by omega) (by omega) (fun a b1 => ?_) (fun k hk => ?_)
        · rw [ab_up_ne _ _ _ b1, hfr a b1]
        · rw [ab_up_self, g57, g58]
          by_cases hki : k = i.toNat
          · subst hki; rw [ab_u1_self]
          · rw [ab_u1_ne _ _ hki]; exact h68 k (by omega)
  exact key1 _ 0 (mK1 M) rfl (by omega) (by omega) (fun a _ => rfl) (fun k hk => by omega)
end KeepM
