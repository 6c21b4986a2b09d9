def ndM (M : ab_Me) (k : Nat) : Int :=
  (fun mo al : Int => if mo < al then mo else al) (if (0 < (k : Int) ∧ M 56 11 ≤ mWhl M 85 k - mWhl M 85 ((k : Int) - 1).toNat) ∨ ((k : Int) < M 56 12 - 1 ∧ M 56 11 ≤ mWhl M 85 k - mWhl M 85 ((k : Int) + 1).toNat) then M 66 k else M 66 k + M 61 (M 63 k).toNat) (wb (M 58) (M 64 k) (M 65 k).toNat (M 56 1).toNat)
def mDayM (M : ab_Me) : ab_Me := ab_rw (mWhl M) 66 (fun k => if (k : Int) < M 56 12 then ndM M k else M 66 k)
section LoomM2
variable (L : Nat) (M : ab_Me)
theorem hLM_whl (h : hM M) (hl : hLM M) : hLM (mWhl M) := by
  refine ⟨hl.1, hl.2.1, hl.2.2.1, hl.2.2.2.1, hl.2.2.2.2.1, fun k => ?_⟩
  have b1 := whM_bd M h k
  have b2 := hl.2.2.2.2.2 k
  unfold mWhl
  rw [ab_rw_self]
  split <;> omega
theorem wb_360 (h : hM M) (hl : hLM M) (k : Nat) : 0 ≤ wb (M 58) (M 64 k) (M 65 k).toNat (M 56 1).toNat ∧ wb (M 58) (M 64 k) (M 65 k).toNat (M 56 1).toNat ≤ 360 := by
  obtain ⟨h1, h2, h3, h4, h5, h6⟩ := id h
  have g := hl.2.2.1 k
  have := wb_bd (M 58) h6 (M 64 k) (M 65 k).toNat (M 56 1).toNat
  have e1 : 3 * (((M 65 k).toNat : Nat) : Int) * (((M 56 1).toNat : Nat) : Int) ≤ 36 * 10 := Int.mul_le_mul (by omega) (by omega) (by omega) (by omega)
  omega
theorem c_X9_day (h : hM M) (hl : hLM M) (n dd : Int) (Q : Option ab_V → ab_Me → Prop) (v3 v4 v5 : Option ab_V)
    (k : ∀ v3 v4 v5 : Option ab_V, wp L 4 mX9_days 113 [some (.inr 56), some (.inl n), some (.inl dd), v3, v4, v5] [] (mDayM M) Q) : wp L 4 mX9_days 29 [some (.inr 56), some (.inl n), some (.inl dd), v3, v4, v5] [] M Q := by
  have hlw := hLM_whl M h hl
  have hh := hl.1
  obtain ⟨h1, h2, h3, h4, h5, h6⟩ := id h
  refine wp_al0 iX9_days_29 ?_
  refine wp_v0v iX9_days_30 ml_9_208 rfl rfl rfl rfl (c_X9_findWhole L M h hl) ?_
  refine wp_ic iX9_days_33 (by decide) ?_
  refine wp_is3 iX9_days_34 ?_
  have key : ∀ (q : Nat) (i : Int), (M 56 12 - i).toNat = q → 0 ≤ i → i ≤ M 56 12 → ∀ v4 v5 : Option ab_V, wp L 4 mX9_days 35 [some (.inr 56), some (.inl n), some (.inl dd), some (.inl i), v4, v5] [] (ab_rw (mWhl M) 66 (fun k => if (k : Int) < i then ndM M k else M 66 k)) Q := by
    intro q
    induction q using Nat.strongRecOn with
    | ind q ih =>
      intro i hq hi0 hi1 v4 v5
      obtain ⟨N, hN⟩ : ∃ N, N = ab_rw (mWhl M) 66 (fun k => if (k : Int) < i then ndM M k else M 66 k) := ⟨_, rfl⟩
      have e12 : N 56 = M 56 := by rw [hN]; rfl
      refine wp_il3 iX9_days_35 ?_
      refine wp_al0 iX9_days_36 ?_
      refine wp_gI iX9_days_37 fi_9_115 rfl ?_
      rw [← hN, e12]
      refine wp_cge iX9_days_40 (fun c_40 => ?_) (fun c_40 => ?_)
      · have e : N = mDayM M := by rw [hN, show i = M 56 12 by omega]; rfl
        rw [e]
        exact k _ _ _
      · have hNh : hM N := by rw [hN]; exact h
        have hb66 : ∀ k : Nat, 0 ≤ N 66 k ∧ N 66 k ≤ 1000 := fun k => by
          rw [hN, ab_rw_self]
          have b1 := hl.2.2.2.1 k
          have b2 := wb_360 M h hl k
          have b3 := hl.2.2.2.2.1 (M 63 k).toNat
          unfold ndM
          simp only
          repeat' split
          all_goals omega
        have hNl : hLM N := by
          rw [hN] at hb66 ⊢
          exact ⟨hlw.1, hlw.2.1, hlw.2.2.1, hb66, hlw.2.2.2.2.1, hlw.2.2.2.2.2⟩
        have hall : cF L 3 mX9_allOf [.inr 56, .inl i] N (wb (M 58) (M 64 i.toNat) (M 65 i.toNat).toNat (M 56 1).toNat) := by
          have z := c_X9_allOf L N hNh hNl i (by omega)
          have e1 : N 58 = M 58 := by rw [hN]; rfl
          have e2 : N 64 = M 64 := by rw [hN]; rfl
          have e3 : N 65 = M 65 := by rw [hN]; rfl
          rw [e1, e2, e3, e12] at z
          exact z
        have hah : cF L 1 mX9_isAhead [.inr 56, .inl i] N (if (0 < i ∧ M 56 11 ≤ mWhl M 85 i.toNat - mWhl M 85 (i - 1).toNat) ∨ (i < M 56 12 - 1 ∧ M 56 11 ≤ mWhl M 85 i.toNat - mWhl M 85 (i + 1).toNat) then 1 else 0) := by
          have z := c_X9_isAhead L N hNl i (by rw [e12]; omega)
          have e1 : N 85 = mWhl M 85 := by rw [hN]; rfl
          rw [e12, e1] at z
          exact z
        have e66 : N 66 i.toNat = M 66 i.toNat := by rw [hN, ab_rw_self, if_neg (by omega)]
        have e61 : N 61 = M 61 := by rw [hN]; rfl
        have e63 : N 63 = M 63 := by rw [hN]; rfl
        have g63 := hl.2.1 i.toNat
        have g61 := hl.2.2.2.2.1 (M 63 i.toNat).toNat
        have g66 := hl.2.2.2.1 i.toNat
        have gwb := wb_360 M h hl i.toNat
        have hnd : ∀ z : Int, z = ndM M i.toNat → ab_up N 66 i.toNat z = ab_rw (mWhl M) 66 (fun k => if (k : Int) < i + 1 then ndM M k else M 66 k) := fun z hz => by rw [hN, up_row, u1_fill _ _ i hi0 z hz]
        have hnd2 : ndM M i.toNat = (fun mo al : Int => if mo < al then mo else al) (if (0 < i ∧ M 56 11 ≤ mWhl M 85 i.toNat - mWhl M 85 (i - 1).toNat) ∨ (i < M 56 12 - 1 ∧ M 56 11 ≤ mWhl M 85 i.toNat - mWhl M 85 (i + 1).toNat) then M 66 i.toNat else M 66 i.toNat + M 61 (M 63 i.toNat).toNat) (wb (M 58) (M 64 i.toNat) (M 65 i.toNat).toNat (M 56 1).toNat) := by
          unfold ndM
          rw [toNat_cast hi0]
        refine wp_al0 iX9_days_43 ?_
        refine wp_il3 iX9_days_44 ?_
        refine wp_v1f iX9_days_45 ml_9_211 rfl rfl rfl rfl (hall) ?_
        refine wp_is4 iX9_days_48 ?_
        refine wp_al0 iX9_days_50 ?_
        refine wp_il3 iX9_days_51 ?_
        refine wp_v1f iX9_days_52 ml_9_214 rfl rfl rfl rfl (hah) ?_
        refine wp_beq iX9_days_55 (fun c_55 => ?_) (fun c_55 => ?_)
        · rw [if_neg c_55] at hnd2
          refine wp_al0 iX9_days_67 ?_
          refine wp_gR iX9_days_68 fr_9_51 rfl rfl rfl ?_
          refine wp_il3 iX9_days_71 ?_
          refine wp_ia iX9_days_72 rfl (by omega) ?_
          rw [e66]
          refine wp_al0 iX9_days_73 ?_
          refine wp_gR iX9_days_74 fr_9_30 rfl rfl rfl ?_
          refine wp_al0 iX9_days_77 ?_
          refine wp_gR iX9_days_78 fr_9_42 rfl rfl rfl ?_
          refine wp_il3 iX9_days_81 ?_
          refine wp_ia iX9_days_82 rfl (by omega) ?_
          rw [e63]
          refine wp_ia iX9_days_83 rfl (by omega) ?_
          rw [e61]
          refine wp_add iX9_days_84 (by omega) ?_
          refine wp_is5 iX9_days_85 ?_
          refine wp_al0 iX9_days_87 ?_
          refine wp_gR iX9_days_88 fr_9_51 rfl rfl rfl ?_
          refine wp_il3 iX9_days_91 ?_
          refine wp_il5 iX9_days_92 ?_
          refine wp_il4 iX9_days_94 ?_
          refine wp_cge iX9_days_96 (fun c_96 => ?_) (fun c_96 => ?_)
          · refine wp_il4 iX9_days_104 ?_
            refine wp_is iX9_days_106 rfl rfl (by omega) ?_
            rw [hnd _ (by rw [hnd2]; simp only; rw [if_neg (by omega)])]
            refine wp_ii3 iX9_days_107 (by omega) ?_
            refine wp_goto iX9_days_110 ?_
            exact ih _ (by omega) (i + 1) rfl (by omega) (by omega) _ _
          · refine wp_il5 iX9_days_99 ?_
            refine wp_goto iX9_days_101 ?_
            refine wp_is iX9_days_106 rfl rfl (by omega) ?_
            rw [hnd _ (by rw [hnd2]; simp only; rw [if_pos c_96])]
            refine wp_ii3 iX9_days_107 (by omega) ?_
            refine wp_goto iX9_days_110 ?_
            exact ih _ (by omega) (i + 1) rfl (by omega) (by omega) _ _
        · rw [if_pos c_55] at hnd2
          refine wp_al0 iX9_days_58 ?_
          refine wp_gR iX9_days_59 fr_9_51 rfl rfl rfl ?_
          refine wp_il3 iX9_days_62 ?_
          refine wp_ia iX9_days_63 rfl (by omega) ?_
          rw [e66]
          refine wp_goto iX9_days_64 ?_
          refine wp_is5 iX9_days_85 ?_
          refine wp_al0 iX9_days_87 ?_
          refine wp_gR iX9_days_88 fr_9_51 rfl rfl rfl ?_
          refine wp_il3 iX9_days_91 ?_
          refine wp_il5 iX9_days_92 ?_
          refine wp_il4 iX9_days_94 ?_
          refine wp_cge iX9_days_96 (fun c_96 => ?_) (fun c_96 => ?_)
          · refine wp_il4 iX9_days_104 ?_
            refine wp_is iX9_days_106 rfl rfl (by omega) ?_
            rw [hnd _ (by rw [hnd2]; simp only; rw [if_neg (by omega)])]
            refine wp_ii3 iX9_days_107 (by omega) ?_
            refine wp_goto iX9_days_110 ?_
            exact ih _ (by omega) (i + 1) rfl (by omega) (by omega) _ _
          · refine wp_il5 iX9_days_99 ?_
            refine wp_goto iX9_days_101 ?_
            refine wp_is iX9_days_106 rfl rfl (by omega) ?_
            rw [hnd _ (by rw [hnd2]; simp only; rw [if_pos c_96])]
            refine wp_ii3 iX9_days_107 (by omega) ?_
            refine wp_goto iX9_days_110 ?_
            exact ih _ (by omega) (i + 1) rfl (by omega) (by omega) _ _
  have k0 := key _ 0 rfl (by omega) (by omega) v4 v5
  rw [fill_n] at k0
  have e0 : ab_rw (mWhl M) 66 (M 66) = mWhl M := rw_self (mWhl M) 66
  rw [e0] at k0
  exact k0
theorem hLM_day (h : hM M) (hl : hLM M) : hLM (mDayM M) ∧ hM (mDayM M) := by
  have hlw := hLM_whl M h hl
  refine ⟨⟨hlw.1, hlw.2.1, hlw.2.2.1, fun k => ?_, hlw.2.2.2.2.1, hlw.2.2.2.2.2⟩, h⟩
  have e : mDayM M 66 k = if (k : Int) < M 56 12 then ndM M k else M 66 k := rfl
  have b1 := hl.2.2.2.1 k
  have b2 := wb_360 M h hl k
  have b3 := hl.2.2.2.2.1 (M 63 k).toNat
  rw [e]
  unfold ndM
  simp only
  repeat' split
  all_goals omega
def dayM : Nat → ab_Me → ab_Me
  | 0, M => M
  | n + 1, M => mDayM (dayM n M)
theorem dayM_ok (h : hM M) (hl : hLM M) : ∀ n, hLM (dayM n M) ∧ hM (dayM n M) ∧ dayM n M 56 = M 56
  | 0 => ⟨hl, h, rfl⟩
  | n + 1 => by
    obtain ⟨q1, q2, q3⟩ := dayM_ok h hl n
    have := hLM_day _ q2 q1
    exact ⟨this.1, this.2, q3⟩
theorem c_X9_days (h : hM M) (hl : hLM M) (hd : 0 ≤ M 56 13 ∧ M 56 13 < 900000) (n : Int) : cG L 5 mX9_days [.inr 56, .inl n] M
    (if 1 ≤ n ∧ n ≤ 100 then (if ¬ M 56 12 = 0 then few (fun k => mWhl (ab_up (dayM n.toNat M) 56 13 (M 56 13 + n)) 85 k) (M 56 1) (M 56 12).toNat else -3) else -1)
    (if 1 ≤ n ∧ n ≤ 100 then (if ¬ M 56 12 = 0 then mWhl (ab_up (dayM n.toNat M) 56 13 (M 56 13 + n)) else M) else M) := by
  refine cG_of rfl ?_
  change wp _ _ _ 0 [some (.inr 56), some (.inl n), none, none, none, none] [] _ _
  have key : (1 ≤ n ∧ n ≤ 100) → ∀ (j : Nat) (i : Int), (n - i).toNat = j → 0 ≤ i → i ≤ n → ∀ v3 v4 v5 : Option ab_V, wp L 4 mX9_days 24 [some (.inr 56), some (.inl n), some (.inl i), v3, v4, v5] [] (dayM i.toNat M) (fun r M1 => r = some (.inl (few (fun k => mWhl (ab_up (dayM n.toNat M) 56 13 (M 56 13 + n)) 85 k) (M 56 1) (M 56 12).toNat)) ∧ M1 = mWhl (ab_up (dayM n.toNat M) 56 13 (M 56 13 + n))) := by
    intro hn j
    induction j using Nat.strongRecOn with
    | ind j ih =>
      intro i hj hi0 hi1 v3 v4 v5
      obtain ⟨q1, q2, q3⟩ := dayM_ok M h hl i.toNat
      refine wp_il2 iX9_days_24 ?_
      refine wp_il1 iX9_days_25 ?_
      refine wp_cge iX9_days_26 (fun c_26 => ?_) (fun c_26 => ?_)
      · have hin : i = n := by omega
        subst hin
        refine wp_al0 iX9_days_119 ?_
        refine wp_dup iX9_days_120 ?_
        refine wp_gI iX9_days_121 fi_9_202 rfl ?_
        rw [q3]
        refine wp_il1 iX9_days_124 ?_
        refine wp_add iX9_days_125 (by omega) ?_
        refine wp_pI iX9_days_126 fp_9_202 rfl ?_
        obtain ⟨N, hN⟩ : ∃ N, N = ab_up (dayM i.toNat M) 56 13 (M 56 13 + i) := ⟨_, rfl⟩
        rw [← hN]
        have e56 : ∀ k, k ≠ 13 → N 56 k = M 56 k := fun k hk => by rw [hN, ab_up_self, ab_u1_ne _ _ hk, q3]
        have hNh : hM N := by
          have a0 := e56 0 (by decide)
          have a1 := e56 1 (by decide)
          refine ⟨by rw [a0]; exact h.1, by rw [a0]; exact h.2.1, by rw [a1]; exact h.2.2.1, by rw [a1]; exact h.2.2.2.1, ?_, ?_⟩
          · rw [hN]; exact q2.2.2.2.2.1
          · rw [hN]; exact q2.2.2.2.2.2
        have a12 := e56 12 (by decide)
        have a1 := e56 1 (by decide)
        have hNl : hLM N := by
          refine ⟨by rw [a12]; exact hl.1, ?_, ?_, ?_, ?_, ?_⟩
          · rw [hN]; exact q1.2.1
          · rw [hN]; exact q1.2.2.1
          · rw [hN]; exact q1.2.2.2.1
          · rw [hN]; exact q1.2.2.2.2.1
          · rw [hN]; exact q1.2.2.2.2.2
        have w1 : mWhl N 56 = N 56 := rfl
        refine wp_al0 iX9_days_129 ?_
        refine wp_v0v iX9_days_130 ml_9_208 rfl rfl rfl rfl (c_X9_findWhole L N hNh hNl) ?_
        refine wp_al0 iX9_days_133 ?_
        refine wp_gI iX9_days_134 fi_9_13 rfl ?_
        rw [w1, a1]
        refine wp_is2 iX9_days_137 ?_
        refine wp_ic iX9_days_138 (by decide) ?_
        refine wp_is3 iX9_days_139 ?_
        have key3 : ∀ (q : Nat) (u f : Int), (M 56 12 - u).toNat = q → 0 ≤ u → u ≤ M 56 12 → f = few (fun k => mWhl N 85 k) (M 56 1) u.toNat → ∀ v4 v5 : Option ab_V, wp L 4 mX9_days 140 [some (.inr 56), some (.inl i), some (.inl f), some (.inl u), v4, v5] [] (mWhl N) (fun r M1 => r = some (.inl (few (fun k => mWhl N 85 k) (M 56 1) (M 56 12).toNat)) ∧ M1 = mWhl N) := by
          intro q
          induction q using Nat.strongRecOn with
          | ind q ih3 =>
            intro u f hq hu0 hu1 hf v4 v5
            have hh := hl.1
            have hfew : few (fun k => mWhl N 85 k) (M 56 1) (u + 1).toNat = if mWhl N 85 u.toNat < f then mWhl N 85 u.toNat else f := by
              rw [show (u + 1).toNat = u.toNat + 1 by omega]
              simp only [few]
              rw [← hf]
            refine wp_il3 iX9_days_140 ?_
            refine wp_al0 iX9_days_141 ?_
            refine wp_gI iX9_days_142 fi_9_115 rfl ?_
            rw [w1, a12]
            refine wp_cge iX9_days_145 (fun c_145 => ?_) (fun c_145 => ?_)
            · refine wp_il2 iX9_days_175 ?_
              refine wp_ret iX9_days_176 rfl ?_
              exact ⟨by rw [hf, show u = M 56 12 by omega], rfl⟩
            · refine wp_al0 iX9_days_148 ?_
              refine wp_gR iX9_days_149 fr_9_108 rfl rfl rfl ?_
              refine wp_il3 iX9_days_152 ?_
              refine wp_ia iX9_days_153 rfl (by omega) ?_
              refine wp_il2 iX9_days_154 ?_
              refine wp_cge iX9_days_155 (fun c_155 => ?_) (fun c_155 => ?_)
              · refine wp_il2 iX9_days_167 ?_
                refine wp_is2 iX9_days_168 ?_
                refine wp_ii3 iX9_days_169 (by omega) ?_
                refine wp_goto iX9_days_172 ?_
                exact ih3 _ (by omega) (u + 1) _ rfl (by omega) (by omega) (by rw [hfew]; split <;> first | rfl | omega) _ _
              · refine wp_al0 iX9_days_158 ?_
                refine wp_gR iX9_days_159 fr_9_108 rfl rfl rfl ?_
                refine wp_il3 iX9_days_162 ?_
                refine wp_ia iX9_days_163 rfl (by omega) ?_
                refine wp_goto iX9_days_164 ?_
                refine wp_is2 iX9_days_168 ?_
                refine wp_ii3 iX9_days_169 (by omega) ?_
                refine wp_goto iX9_days_172 ?_
                exact ih3 _ (by omega) (u + 1) _ rfl (by omega) (by omega) (by rw [hfew]; split <;> first | rfl | omega) _ _
        exact key3 _ 0 _ rfl (by omega) (by have := hl.1; omega) rfl _ _
      · refine c_X9_day L (dayM i.toNat M) q2 q1 n i _ _ _ _ (fun v3 v4 v5 => ?_)
        have e : mDayM (dayM i.toNat M) = dayM (i + 1).toNat M := by rw [show (i + 1).toNat = i.toNat + 1 by omega]; rfl
        rw [e]
        refine wp_ii2 iX9_days_113 (by omega) ?_
        refine wp_goto iX9_days_116 ?_
        exact ih _ (by omega) (i + 1) rfl (by omega) (by omega) _ _ _
  refine wp_il1 iX9_days_0 ?_
  refine wp_ic iX9_days_1 (by decide) ?_
  refine wp_bp iX9_days_2 (by decide) ?_
  refine wp_s3f iX9_days_4 ml_9_111 rfl rfl rfl (c_X9_in _ _ _ _ _) ?_
  refine wp_bne iX9_days_7 (fun c_7 => ?_) (fun c_7 => ?_)
  · refine wp_al0 iX9_days_12 ?_
    refine wp_gI iX9_days_13 fi_9_115 rfl ?_
    refine wp_zne iX9_days_16 (fun c_16 => ?_) (fun c_16 => ?_)
    · refine wp_ic iX9_days_22 (by decide) ?_
      refine wp_is2 iX9_days_23 ?_
      rw [if_pos (by assumption), if_pos (by assumption), if_pos (by assumption), if_pos (by assumption)]
      exact key (by assumption) _ 0 rfl (by omega) (by omega) _ _ _
    · refine wp_bp iX9_days_19 (by decide) ?_
      refine wp_ret iX9_days_21 rfl ?_
      (refine ⟨?_, ?_⟩ <;> (repeat' split) <;> first | rfl | (exfalso; omega))
  · refine wp_ic iX9_days_10 (by decide) ?_
    refine wp_ret iX9_days_11 rfl ?_
    (refine ⟨?_, ?_⟩ <;> (repeat' split) <;> first | rfl | (exfalso; omega))
end LoomM2
