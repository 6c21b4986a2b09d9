section BackM
variable (L : Nat) (M : ab_Me)
def mB1 (M : ab_Me) : ab_Me := ab_up (ab_up (ab_up (ab_up (ab_up (ab_up M 56 0 (M 67 0)) 56 1 (M 67 1)) 56 4 (M 67 2)) 56 7 (M 67 3)) 56 12 (M 67 4)) 56 13 (M 67 5)
theorem mB1_fr (M : ab_Me) (a : Nat) (h1 : a ≠ 56) : mB1 M a = M a := by
  unfold mB1
  rw [ab_up_ne _ _ _ h1, ab_up_ne _ _ _ h1, ab_up_ne _ _ _ h1, ab_up_ne _ _ _ h1, ab_up_ne _ _ _ h1, ab_up_ne _ _ _ h1]
def pBk (M M1 : ab_Me) : Prop := M1 56 = mB1 M 56 ∧ (∀ k : Nat, k < 120 → M1 57 k = M 68 k % 8 ∧ M1 58 k = if 7 < M 68 k then 1 else 0) ∧ (∀ k : Nat, k < 12 → M1 59 k = M 69 k ∧ M1 60 k = M 69 (12 + k)) ∧ (∀ k : Nat, k < 4 → M1 61 k = M 70 k ∧ (M1 62 k = if M 70 (4 + k) = 1 then 1 else 0) ∧ M1 63 k = M 71 k ∧ M1 64 k = M 71 (4 + k) ∧ M1 65 k = M 71 (8 + k) ∧ M1 66 k = M 71 (12 + k)) ∧ ∀ a, (a < 56 ∨ 66 < a) → M1 a = M a
theorem c_X9_back (hk0 : ∀ k, 0 ≤ M 68 k ∧ M 68 k < 16) : ct L 1 mX9_back [.inr 56] M (fun r M1 => (M 56 18 = 0 ∧ r = some (.inl (-4)) ∧ M1 = M) ∨ (¬ M 56 18 = 0 ∧ r = some (.inl 1) ∧ pBk M M1)) := by
  refine ct_of rfl ?_
  change wp _ _ _ 0 [some (.inr 56), none] [] _ _
  refine wp_al0 iX9_back_0 ?_
  refine wp_gI iX9_back_1 fi_9_227 rfl ?_
  refine wp_zne iX9_back_4 (fun c_4 => ?_) (fun c_4 => ?_)
  · refine wp_al0 iX9_back_10 ?_
    refine wp_al0 iX9_back_11 ?_
    refine wp_gR iX9_back_12 fr_9_54 rfl rfl rfl ?_
    refine wp_ic iX9_back_15 (by decide) ?_
    refine wp_ia iX9_back_16 rfl (by omega) ?_
    refine wp_pI iX9_back_17 fp_9_7 rfl ?_
    refine wp_al0 iX9_back_20 ?_
    refine wp_al0 iX9_back_21 ?_
    refine wp_gR iX9_back_22 fr_9_54 rfl rfl rfl ?_
    refine wp_ic iX9_back_25 (by decide) ?_
    refine wp_ia iX9_back_26 rfl (by omega) ?_
    refine wp_pI iX9_back_27 fp_9_13 rfl ?_
    refine wp_al0 iX9_back_30 ?_
    refine wp_al0 iX9_back_31 ?_
    refine wp_gR iX9_back_32 fr_9_54 rfl rfl rfl ?_
    refine wp_ic iX9_back_35 (by decide) ?_
    refine wp_ia iX9_back_36 rfl (by omega) ?_
    refine wp_pI iX9_back_37 fp_9_152 rfl ?_
    refine wp_al0 iX9_back_40 ?_
    refine wp_al0 iX9_back_41 ?_
    refine wp_gR iX9_back_42 fr_9_54 rfl rfl rfl ?_
    refine wp_ic iX9_back_45 (by decide) ?_
    refine wp_ia iX9_back_46 rfl (by omega) ?_
    refine wp_pI iX9_back_47 fp_9_174 rfl ?_
    refine wp_al0 iX9_back_50 ?_
    refine wp_al0 iX9_back_51 ?_
    refine wp_gR iX9_back_52 fr_9_54 rfl rfl rfl ?_
    refine wp_ic iX9_back_55 (by decide) ?_
    refine wp_ia iX9_back_56 rfl (by omega) ?_
    refine wp_pI iX9_back_57 fp_9_115 rfl ?_
    refine wp_al0 iX9_back_60 ?_
    refine wp_al0 iX9_back_61 ?_
    refine wp_gR iX9_back_62 fr_9_54 rfl rfl rfl ?_
    refine wp_ic iX9_back_65 (by decide) ?_
    refine wp_ia iX9_back_66 rfl (by omega) ?_
    refine wp_pI iX9_back_67 fp_9_202 rfl ?_
    refine wp_ic iX9_back_70 (by decide) ?_
    refine wp_is1 iX9_back_71 ?_
    have key3 : ∀ (n : Nat) (i : Int) (N : ab_Me), (4 - i).toNat = n → 0 ≤ i → i ≤ 4 → (∀ a, (a < 57 ∨ 66 < a) → N a = mB1 M a) → (∀ k : Nat, k < 120 → N 57 k = M 68 k % 8 ∧ N 58 k = if 7 < M 68 k then 1 else 0) → (∀ k : Nat, k < 12 → N 59 k = M 69 k ∧ N 60 k = M 69 (12 + k)) → (∀ k : Nat, (k : Int) < i → N 61 k = M 70 k ∧ (N 62 k = if M 70 (4 + k) = 1 then 1 else 0) ∧ N 63 k = M 71 k ∧ N 64 k = M 71 (4 + k) ∧ N 65 k = M 71 (8 + k) ∧ N 66 k = M 71 (12 + k)) → wp L 0 mX9_back 164 [some (.inr 56), some (.inl i)] [] N (fun r M1 => (M 56 18 = 0 ∧ r = some (.inl (-4)) ∧ M1 = M) ∨ (¬ M 56 18 = 0 ∧ r = some (.inl 1) ∧ pBk M M1)) := by
      intro n
      induction n using Nat.strongRecOn with
      | ind n ih =>
        intro i N hn hi0 hi1 hfr h57 h59 h61
        have g70 : N 70 = M 70 := (hfr 70 (by decide)).trans (mB1_fr M 70 (by decide))
        have g71 : N 71 = M 71 := (hfr 71 (by decide)).trans (mB1_fr M 71 (by decide))
        refine wp_il1 iX9_back_164 ?_
        refine wp_ic iX9_back_165 (by decide) ?_
        refine wp_cge iX9_back_166 (fun c_166 => ?_) (fun c_166 => ?_)
        · refine wp_ic iX9_back_266 (by decide) ?_
          refine wp_ret iX9_back_267 rfl ?_
          refine Or.inr ⟨c_4, rfl, hfr 56 (by decide), h57, h59, fun k hk => h61 k (by omega), fun a ha => ?_⟩
          rw [hfr a (by omega), mB1_fr M a (by omega)]
        · have fin : ∀ z : Int, (z = if M 70 (4 + i.toNat) = 1 then 1 else 0) → ∀ N2, N2 = ab_up (ab_up N 61 i.toNat (N 70 i.toNat)) 62 i.toNat z → wp L 0 mX9_back 204 [some (.inr 56), some (.inl i)] [] N2 (fun r M1 => (M 56 18 = 0 ∧ r = some (.inl (-4)) ∧ M1 = M) ∨ (¬ M 56 18 = 0 ∧ r = some (.inl 1) ∧ pBk M M1)) := by
            intro z hz N2 hN2
            have f2 : ∀ a, a ≠ 61 → a ≠ 62 → N2 a = N a := fun a b1 b2 => by rw [hN2, ab_up_ne _ _ _ b2, ab_up_ne _ _ _ b1]
            have p71 : N2 71 = M 71 := (f2 71 (by decide) (by decide)).trans g71
            have q61 : N2 61 = ab_u1 (N 61) i.toNat (M 70 i.toNat) := by rw [hN2, ab_up_ne _ _ _ (by decide), ab_up_self, g70]
            have q62 : N2 62 = ab_u1 (N 62) i.toNat z := by rw [hN2, ab_up_self, ab_up_ne _ _ _ (by decide)]
            refine wp_al0 iX9_back_204 ?_
            refine wp_gR iX9_back_205 fr_9_42 rfl rfl rfl ?_
            refine wp_il1 iX9_back_208 ?_
            refine wp_al0 iX9_back_209 ?_
            refine wp_gR iX9_back_210 fr_9_66 rfl rfl rfl ?_
            refine wp_il1 iX9_back_213 ?_
            refine wp_ia iX9_back_214 rfl (by omega) ?_
            refine wp_is iX9_back_215 rfl rfl (by omega) ?_
            refine wp_al0 iX9_back_216 ?_
            refine wp_gR iX9_back_217 fr_9_45 rfl rfl rfl ?_
            refine wp_il1 iX9_back_220 ?_
            refine wp_al0 iX9_back_221 ?_
            refine wp_gR iX9_back_222 fr_9_66 rfl rfl rfl ?_
            refine wp_ic iX9_back_225 (by decide) ?_
            refine wp_il1 iX9_back_226 ?_
            refine wp_add iX9_back_227 (by omega) ?_
            refine wp_ia iX9_back_228 rfl (by omega) ?_
            refine wp_is iX9_back_229 rfl rfl (by omega) ?_
            refine wp_al0 iX9_back_230 ?_
            refine wp_gR iX9_back_231 fr_9_48 rfl rfl rfl ?_
            refine wp_il1 iX9_back_234 ?_
            refine wp_al0 iX9_back_235 ?_
            refine wp_gR iX9_back_236 fr_9_66 rfl rfl rfl ?_
            refine wp_bp iX9_back_239 (by decide) ?_
            refine wp_il1 iX9_back_241 ?_
            refine wp_add iX9_back_242 (by omega) ?_
            refine wp_ia iX9_back_243 rfl (by omega) ?_
            refine wp_is iX9_back_244 rfl rfl (by omega) ?_
            refine wp_al0 iX9_back_245 ?_
            refine wp_gR iX9_back_246 fr_9_51 rfl rfl rfl ?_
            refine wp_il1 iX9_back_249 ?_
            refine wp_al0 iX9_back_250 ?_
            refine wp_gR iX9_back_251 fr_9_66 rfl rfl rfl ?_
            refine wp_bp iX9_back_254 (by decide) ?_
            refine wp_il1 iX9_back_256 ?_
            refine wp_add iX9_back_257 (by omega) ?_
            refine wp_ia iX9_back_258 rfl (by omega) ?_
            refine wp_is iX9_back_259 rfl rfl (by omega) ?_
            refine wp_ii1 iX9_back_260 (by omega) ?_
            refine wp_goto iX9_back_263 ?_
            refine ih _ (by omega) (i + 1) _ rfl (by omega) (by omega) (fun a ha => ?_) (fun k hk => ?_) (fun k hk => ?_) (fun k hk => ?_)
            · rw [ab_up_ne _ _ _ (by omega), ab_up_ne _ _ _ (by omega), ab_up_ne _ _ _ (by omega), ab_up_ne _ _ _ (by omega), f2 a (by omega) (by omega), hfr a ha]
            · rw [ab_up_ne _ _ _ (by decide), ab_up_ne _ _ _ (by decide), ab_up_ne _ _ _ (by decide), ab_up_ne _ _ _ (by decide), ab_up_ne _ _ _ (by decide), ab_up_ne _ _ _ (by decide), ab_up_ne _ _ _ (by decide), ab_up_ne _ _ _ (by decide), f2 57 (by decide) (by decide), f2 58 (by decide) (by decide)]
              exact h57 k hk
            · rw [ab_up_ne _ _ _ (by decide), ab_up_ne _ _ _ (by decide), ab_up_ne _ _ _ (by decide), ab_up_ne _ _ _ (by decide), ab_up_ne _ _ _ (by decide), ab_up_ne _ _ _ (by decide), ab_up_ne _ _ _ (by decide), ab_up_ne _ _ _ (by decide), f2 59 (by decide) (by decide), f2 60 (by decide) (by decide)]
              exact h59 k hk
            · simp only [ab_up_self, ab_up_ne _ _ _ (show (61 : Nat) ≠ 63 by decide), ab_up_ne _ _ _ (show (61 : Nat) ≠ 64 by decide), ab_up_ne _ _ _ (show (61 : Nat) ≠ 65 by decide), ab_up_ne _ _ _ (show (61 : Nat) ≠ 66 by decide), ab_up_ne _ _ _ (show (62 : Nat) ≠ 63 by decide), ab_up_ne _ _ _ (show (62 : Nat) ≠ 64 by decide), ab_up_ne _ _ _ (show (62 : Nat) ≠ 65 by decide), ab_up_ne _ _ _ (show (62 : Nat) ≠ 66 by decide), ab_up_ne _ _ _ (show (63 : Nat) ≠ 64 by decide), ab_up_ne _ _ _ (show (63 : Nat) ≠ 65 by decide), ab_up_ne _ _ _ (show (63 : Nat) ≠ 66 by decide), ab_up_ne _ _ _ (show (64 : Nat) ≠ 63 by decide), ab_up_ne _ _ _ (show (64 : Nat) ≠ 65 by decide), ab_up_ne _ _ _ (show (64 : Nat) ≠ 66 by decide), ab_up_ne _ _ _ (show (65 : Nat) ≠ 63 by decide), ab_up_ne _ _ _ (show (65 : Nat) ≠ 64 by decide), ab_up_ne _ _ _ (show (65 : Nat) ≠ 66 by decide), ab_up_ne _ _ _ (show (66 : Nat) ≠ 63 by decide), ab_up_ne _ _ _ (show (66 : Nat) ≠ 64 by decide), ab_up_ne _ _ _ (show (66 : Nat) ≠ 65 by decide), ab_up_ne _ _ _ (show (71 : Nat) ≠ 63 by decide), ab_up_ne _ _ _ (show (71 : Nat) ≠ 64 by decide), ab_up_ne _ _ _ (show (71 : Nat) ≠ 65 by decide), p71, q61, q62, f2 63 (by decide) (by decide), f2 64 (by decide) (by decide), f2 65 (by decide) (by decide), f2 66 (by decide) (by decide)]
              by_cases hki : k = i.toNat
              · subst hki
                simp only [ab_u1_self]
                refine ⟨trivial, hz, trivial, ?_, ?_, ?_⟩
                · rw [show (4 + i).toNat = 4 + i.toNat by omega]
                · rw [show (8 + i).toNat = 8 + i.toNat by omega]
                · rw [show (12 + i).toNat = 12 + i.toNat by omega]
              · simp only [ab_u1_ne _ _ hki]
                exact h61 k (by omega)
          have e70 : ab_up N 61 i.toNat (N 70 i.toNat) 70 = M 70 := by rw [ab_up_ne _ _ _ (by decide), g70]
          refine wp_al0 iX9_back_169 ?_
          refine wp_gR iX9_back_170 fr_9_30 rfl rfl rfl ?_
          refine wp_il1 iX9_back_173 ?_
          refine wp_al0 iX9_back_174 ?_
          refine wp_gR iX9_back_175 fr_9_63 rfl rfl rfl ?_
          refine wp_il1 iX9_back_178 ?_
          refine wp_ia iX9_back_179 rfl (by omega) ?_
          refine wp_is iX9_back_180 rfl rfl (by omega) ?_
          refine wp_al0 iX9_back_181 ?_
          refine wp_gR iX9_back_182 fr_9_33 rfl rfl rfl ?_
          refine wp_il1 iX9_back_185 ?_
          refine wp_al0 iX9_back_186 ?_
          refine wp_gR iX9_back_187 fr_9_63 rfl rfl rfl ?_
          refine wp_ic iX9_back_190 (by decide) ?_
          refine wp_il1 iX9_back_191 ?_
          refine wp_add iX9_back_192 (by omega) ?_
          refine wp_ia iX9_back_193 rfl (by omega) ?_
          rw [e70, show (4 + i).toNat = 4 + i.toNat by omega]
          refine wp_ic iX9_back_194 (by decide) ?_
          refine wp_cne iX9_back_195 (fun c_195 => ?_) (fun c_195 => ?_)
          · refine wp_ic iX9_back_202 (by decide) ?_
            refine wp_bs iX9_back_203 rfl rfl (by omega) (by first | decide | omega) ?_
            exact fin 0 (by rw [if_neg c_195]) _ rfl
          · refine wp_ic iX9_back_198 (by decide) ?_
            refine wp_goto iX9_back_199 ?_
            refine wp_bs iX9_back_203 rfl rfl (by omega) (by first | decide | omega) ?_
            exact fin 1 (by rw [if_pos c_195]) _ rfl
    have key2 : ∀ (n : Nat) (i : Int) (N : ab_Me), (12 - i).toNat = n → 0 ≤ i → i ≤ 12 → (∀ a, (a < 57 ∨ 60 < a) → N a = mB1 M a) → (∀ k : Nat, k < 120 → N 57 k = M 68 k % 8 ∧ N 58 k = if 7 < M 68 k then 1 else 0) → (∀ k : Nat, (k : Int) < i → N 59 k = M 69 k ∧ N 60 k = M 69 (12 + k)) → wp L 0 mX9_back 123 [some (.inr 56), some (.inl i)] [] N (fun r M1 => (M 56 18 = 0 ∧ r = some (.inl (-4)) ∧ M1 = M) ∨ (¬ M 56 18 = 0 ∧ r = some (.inl 1) ∧ pBk M M1)) := by
      intro n
      induction n using Nat.strongRecOn with
      | ind n ih =>
        intro i N hn hi0 hi1 hfr h57 h59
        have g69 : N 69 = M 69 := (hfr 69 (by decide)).trans (mB1_fr M 69 (by decide))
        refine wp_il1 iX9_back_123 ?_
        refine wp_bp iX9_back_124 (by decide) ?_
        refine wp_cge iX9_back_126 (fun c_126 => ?_) (fun c_126 => ?_)
        · refine wp_ic iX9_back_162 (by decide) ?_
          refine wp_is1 iX9_back_163 ?_
          exact key3 _ 0 N rfl (by omega) (by omega) (fun a ha => hfr a (by omega)) h57 (fun k hk => h59 k (by omega)) (fun k hk => by omega)
        · refine wp_al0 iX9_back_129 ?_
          refine wp_gR iX9_back_130 fr_9_24 rfl rfl rfl ?_
          refine wp_il1 iX9_back_133 ?_
          refine wp_al0 iX9_back_134 ?_
          refine wp_gR iX9_back_135 fr_9_60 rfl rfl rfl ?_
          refine wp_il1 iX9_back_138 ?_
          refine wp_ia iX9_back_139 rfl (by omega) ?_
          refine wp_is iX9_back_140 rfl rfl (by omega) ?_
          refine wp_al0 iX9_back_141 ?_
          refine wp_gR iX9_back_142 fr_9_27 rfl rfl rfl ?_
          refine wp_il1 iX9_back_145 ?_
          refine wp_al0 iX9_back_146 ?_
          refine wp_gR iX9_back_147 fr_9_60 rfl rfl rfl ?_
          refine wp_bp iX9_back_150 (by decide) ?_
          refine wp_il1 iX9_back_152 ?_
          refine wp_add iX9_back_153 (by omega) ?_
          refine wp_ia iX9_back_154 rfl (by omega) ?_
          refine wp_is iX9_back_155 rfl rfl (by omega) ?_
          refine wp_ii1 iX9_back_156 (by omega) ?_
          refine wp_goto iX9_back_159 ?_
          refine ih _ (by omega) (i + 1) _ rfl (by omega) (by omega) (fun a ha => ?_) (fun k hk => ?_) (fun k hk => ?_)
          · rw [ab_up_ne _ _ _ (by omega), ab_up_ne _ _ _ (by omega), hfr a ha]
          · rw [ab_up_ne _ _ _ (by decide), ab_up_ne _ _ _ (by decide), ab_up_ne _ _ _ (by decide), ab_up_ne _ _ _ (by decide)]; exact h57 k hk
          · simp only [ab_up_self, ab_up_ne _ _ _ (show (59 : Nat) ≠ 60 by decide), ab_up_ne _ _ _ (show (60 : Nat) ≠ 59 by decide), ab_up_ne _ _ _ (show (69 : Nat) ≠ 59 by decide), g69]
            by_cases hki : k = i.toNat
            · subst hki
              simp only [ab_u1_self]
              refine ⟨trivial, ?_⟩
              rw [show (12 + i).toNat = 12 + i.toNat by omega]
            · simp only [ab_u1_ne _ _ hki]
              exact h59 k (by omega)
    have key1 : ∀ (n : Nat) (i : Int) (N : ab_Me), (120 - i).toNat = n → 0 ≤ i → i ≤ 120 → (∀ a, (a < 57 ∨ 58 < a) → N a = mB1 M a) → (∀ k : Nat, (k : Int) < i → N 57 k = M 68 k % 8 ∧ N 58 k = if 7 < M 68 k then 1 else 0) → wp L 0 mX9_back 72 [some (.inr 56), some (.inl i)] [] N (fun r M1 => (M 56 18 = 0 ∧ r = some (.inl (-4)) ∧ M1 = M) ∨ (¬ M 56 18 = 0 ∧ r = some (.inl 1) ∧ pBk M M1)) := by
      intro n
      induction n using Nat.strongRecOn with
      | ind n ih =>
        intro i N hn hi0 hi1 hfr h57
        have g68 : N 68 = M 68 := (hfr 68 (by decide)).trans (mB1_fr M 68 (by decide))
        have hv := hk0 i.toNat
        refine wp_il1 iX9_back_72 ?_
        refine wp_bp iX9_back_73 (by decide) ?_
        refine wp_cge iX9_back_75 (fun c_75 => ?_) (fun c_75 => ?_)
        · refine wp_ic iX9_back_121 (by decide) ?_
          refine wp_is1 iX9_back_122 ?_
          exact key2 _ 0 N rfl (by omega) (by omega) (fun a ha => hfr a (by omega)) (fun k hk => h57 k (by omega)) (fun k hk => by omega)
        · have fin : ∀ z : Int, (z = if 7 < M 68 i.toNat then 1 else 0) → wp L 0 mX9_back 115 [some (.inr 56), some (.inl i)] [] (ab_up (ab_up N 57 i.toNat (M 68 i.toNat % 8)) 58 i.toNat z) (fun r M1 => (M 56 18 = 0 ∧ r = some (.inl (-4)) ∧ M1 = M) ∨ (¬ M 56 18 = 0 ∧ r = some (.inl 1) ∧ pBk M M1)) := by
            intro z hz
            refine wp_ii1 iX9_back_115 (by omega) ?_
            refine wp_goto iX9_back_118 ?_
            refine ih _ (by omega) (i + 1) _ rfl (by omega) (by omega) (fun a ha => ?_) (fun k hk => ?_)
            · rw [ab_up_ne _ _ _ (by omega), ab_up_ne _ _ _ (by omega), hfr a ha]
            · simp only [ab_up_self, ab_up_ne _ _ _ (show (57 : Nat) ≠ 58 by decide), ab_up_ne _ _ _ (show (58 : Nat) ≠ 57 by decide)]
              by_cases hki : k = i.toNat
              · subst hki
                simp only [ab_u1_self]
                exact ⟨trivial, hz⟩
              · simp only [ab_u1_ne _ _ hki]
                exact h57 k (by omega)
          have e68 : ab_up N 57 i.toNat (M 68 i.toNat % 8) 68 = M 68 := by rw [ab_up_ne _ _ _ (by decide), g68]
          refine wp_al0 iX9_back_78 ?_
          refine wp_gR iX9_back_79 fr_9_16 rfl rfl rfl ?_
          refine wp_il1 iX9_back_82 ?_
          refine wp_al0 iX9_back_83 ?_
          refine wp_gR iX9_back_84 fr_9_57 rfl rfl rfl ?_
          refine wp_il1 iX9_back_87 ?_
          refine wp_ia iX9_back_88 rfl (by omega) ?_
          rw [g68]
          refine wp_bp iX9_back_89 (by decide) ?_
          refine wp_rem iX9_back_91 (by omega) ?_
          refine wp_is iX9_back_92 rfl rfl (by omega) ?_
          refine wp_al0 iX9_back_93 ?_
          refine wp_gR iX9_back_94 fr_9_20 rfl rfl rfl ?_
          refine wp_il1 iX9_back_97 ?_
          refine wp_al0 iX9_back_98 ?_
          refine wp_gR iX9_back_99 fr_9_57 rfl rfl rfl ?_
          refine wp_il1 iX9_back_102 ?_
          refine wp_ia iX9_back_103 rfl (by omega) ?_
          rw [e68]
          refine wp_bp iX9_back_104 (by decide) ?_
          refine wp_cle iX9_back_106 (fun c_106 => ?_) (fun c_106 => ?_)
          · refine wp_ic iX9_back_113 (by decide) ?_
            refine wp_bs iX9_back_114 rfl rfl (by omega) (by first | decide | omega) ?_
            exact fin 0 (by rw [if_neg (by omega)])
          · refine wp_ic iX9_back_109 (by decide) ?_
            refine wp_goto iX9_back_110 ?_
            refine wp_bs iX9_back_114 rfl rfl (by omega) (by first | decide | omega) ?_
            exact fin 1 (by rw [if_pos c_106])
    exact key1 _ 0 (mB1 M) rfl (by omega) (by omega) (fun a _ => rfl) (fun k hk => by omega)
  · refine wp_bp iX9_back_7 (by decide) ?_
    refine wp_ret iX9_back_9 rfl ?_
    exact Or.inl ⟨c_4, rfl, rfl⟩
end BackM
