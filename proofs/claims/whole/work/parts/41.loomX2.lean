def cwk (fac : Nat → Int) (w p : Int) : Int := 1 + 2 * fac (12 * p + w).toNat
def rs (fac : Nat → Int) (a : Int) (n : Nat) (p : Int) : Int := sm (fun i => cwk fac (a + (i : Int)) p) n
def wb (fac : Nat → Int) (a : Int) (n P : Nat) : Int := sm (fun j => rs fac a n (j : Int)) P
def fX4 (M : ab_Me) : Nat → Int := fun k => M 4 k / 8
theorem cwk_bd (fac : Nat → Int) (hf : ∀ k, fac k = 0 ∨ fac k = 1) (w p : Int) : 1 ≤ cwk fac w p ∧ cwk fac w p ≤ 3 := by
  have := hf (12 * p + w).toNat
  unfold cwk
  omega
theorem rs_bd (fac : Nat → Int) (hf : ∀ k, fac k = 0 ∨ fac k = 1) (a : Int) (n : Nat) (p : Int) : 0 ≤ rs fac a n p ∧ rs fac a n p ≤ 3 * n := sm_bd _ 3 (fun k => by have := cwk_bd fac hf (a + (k : Int)) p; omega) n
theorem fX4_01 (M : ab_Me) (h : hB M) (k : Nat) : fX4 M k = 0 ∨ fX4 M k = 1 := by
  have := h.2.2.2.2 k
  unfold fX4
  omega
def hL1 (M : ab_Me) : Prop := hL0 M ∧ (∀ k, 0 ≤ M 12 k ∧ M 12 k < 4) ∧ (∀ k, 0 ≤ M 15 k ∧ M 15 k ≤ 1000) ∧ (∀ k, 0 ≤ M 16 k ∧ M 16 k ≤ 1000) ∧ (∀ k, 0 ≤ M 9 k ∧ M 9 k ≤ 20) ∧ ∀ k, -100 ≤ M 17 k ∧ M 17 k ≤ 100
section LoomX2
variable (L : Nat) (M : ab_Me)
theorem hL1_dawn (h : hL1 M) : hL1 (mDawn M) := by
  obtain ⟨h0, h1, h2, h3, h4, h5⟩ := h
  refine ⟨h0, h1, h2, h3, h4, fun k => ?_⟩
  have hw := whX_bd M h0 k
  have := h5 k
  unfold mDawn
  rw [ab_rw_self]
  split <;> omega
/-- a STRIP's DONE behind a DAY -/
def ndX (M : ab_Me) (g : Int) (k : Nat) : Int := if (0 < (k : Int) ∧ g ≤ mDawn M 17 k - mDawn M 17 ((k : Int) - 1).toNat) ∨ ((k : Int) < M 11 0 - 1 ∧ g ≤ mDawn M 17 k - mDawn M 17 ((k : Int) + 1).toNat) then M 15 k else if M 16 (11 * (k : Int) + M 11 6).toNat < M 15 k + M 9 (M 12 k).toNat then M 16 (11 * (k : Int) + M 11 6).toNat else M 15 k + M 9 (M 12 k).toNat
def mDay (M : ab_Me) (g : Int) : ab_Me := ab_up (ab_rw (mDawn M) 15 (fun k => if (k : Int) < M 11 0 then ndX M g k else M 15 k)) 11 1 (M 11 1 + 1)
theorem c_X3_weaveDay (h : hL1 M) (g : Int) (hd : 0 ≤ M 11 1 ∧ M 11 1 < 1000000) : cV L 3 mX3_weaveDay [.inr 11, .inr 8, .inl g] M (mDay M g) := by
  have hD := hL1_dawn M h
  obtain ⟨h0, h1, h2, h3, h4, h5⟩ := id h
  refine cV_of rfl ?_
  change wp _ _ _ 0 [some (.inr 11), some (.inr 8), some (.inl g), none] [] _ _
  refine wp_al0 iX3_weaveDay_0 ?_
  refine wp_v0v iX3_weaveDay_1 ml_3_74 rfl rfl rfl rfl (c_X3_beginDay L M h0) ?_
  refine wp_ic iX3_weaveDay_4 (by decide) ?_
  refine wp_is3 iX3_weaveDay_5 ?_
  have key : ∀ (n : Nat) (i : Int), (M 11 0 - i).toNat = n → 0 ≤ i → i ≤ M 11 0 → wp L 2 mX3_weaveDay 6 [some (.inr 11), some (.inr 8), some (.inl g), some (.inl i)] [] (ab_rw (mDawn M) 15 (fun k => if (k : Int) < i then ndX M g k else M 15 k)) (fun r M1 => r = none ∧ M1 = mDay M g) := by
    intro n
    induction n using Nat.strongRecOn with
    | ind n ih =>
      intro i hn hi0 hi1
      have hh := h0.1
      have e11 : (ab_rw (mDawn M) 15 (fun k => if (k : Int) < i then ndX M g k else M 15 k)) 11 0 = M 11 0 := rfl
      have e111 : (ab_rw (mDawn M) 15 (fun k => if (k : Int) < i then ndX M g k else M 15 k)) 11 1 = M 11 1 := rfl
      refine wp_il3 iX3_weaveDay_6 ?_
      refine wp_al0 iX3_weaveDay_7 ?_
      refine wp_gI iX3_weaveDay_8 fi_3_9 rfl ?_
      refine wp_cge iX3_weaveDay_11 (fun c_11 => ?_) (fun c_11 => ?_)
      · refine wp_al0 iX3_weaveDay_61 ?_
        refine wp_dup iX3_weaveDay_62 ?_
        refine wp_gI iX3_weaveDay_63 fi_3_15 rfl ?_
        refine wp_ic iX3_weaveDay_66 (by decide) ?_
        refine wp_add iX3_weaveDay_67 (by omega) ?_
        refine wp_pI iX3_weaveDay_68 fp_3_15 rfl ?_
        refine wp_retv iX3_weaveDay_71 rfl ?_
        exact ⟨rfl, by unfold mDay; rw [show i = M 11 0 by omega]; rfl⟩
      · have ht : cF L 1 mX3_isTooFarAhead [.inr 11, .inl i, .inl g] (ab_rw (mDawn M) 15 (fun k => if (k : Int) < i then ndX M g k else M 15 k)) (if (0 < i ∧ g ≤ mDawn M 17 i.toNat - mDawn M 17 (i - 1).toNat) ∨ (i < M 11 0 - 1 ∧ g ≤ mDawn M 17 i.toNat - mDawn M 17 (i + 1).toNat) then 1 else 0) := c_X3_isTooFarAhead L (ab_rw (mDawn M) 15 (fun k => if (k : Int) < i then ndX M g k else M 15 k)) h0 hD.2.2.2.2.2 i g (by omega)
        refine wp_al0 iX3_weaveDay_14 ?_
        refine wp_il3 iX3_weaveDay_15 ?_
        refine wp_il2 iX3_weaveDay_16 ?_
        refine wp_v2f iX3_weaveDay_17 ml_3_77 rfl rfl rfl rfl (ht) ?_
        refine wp_bne iX3_weaveDay_20 (fun c_20 => ?_) (fun c_20 => ?_)
        · have e : ab_rw (mDawn M) 15 (fun k => if (k : Int) < i then ndX M g k else M 15 k) = ab_rw (mDawn M) 15 (fun k => if (k : Int) < i + 1 then ndX M g k else M 15 k) := by
            have z := u1_fill (ndX M g) (M 15) i hi0 (M 15 i.toNat) (by
              unfold ndX
              rw [toNat_cast hi0, if_pos c_20])
            rw [← z]
            congr 1
            funext k
            unfold ab_u1
            by_cases hk : k = i.toNat
            · rw [if_pos hk, if_neg (by omega), hk]
            · rw [if_neg hk]
          rw [e]
          refine wp_ii3 iX3_weaveDay_55 (by omega) ?_
          refine wp_goto iX3_weaveDay_58 ?_
          exact ih _ (by omega) (i + 1) rfl (by omega) (by omega)
        · have hw : cF L 1 mX3_workOf [.inr 11, .inl i] (ab_rw (mDawn M) 15 (fun k => if (k : Int) < i then ndX M g k else M 15 k)) (M 16 (11 * i + M 11 6).toNat) := c_X3_workOf L (ab_rw (mDawn M) 15 (fun k => if (k : Int) < i then ndX M g k else M 15 k)) h0 i (by omega)
          have e12 : (ab_rw (mDawn M) 15 (fun k => if (k : Int) < i then ndX M g k else M 15 k)) 12 = M 12 := rfl
          have e9 : (ab_rw (mDawn M) 15 (fun k => if (k : Int) < i then ndX M g k else M 15 k)) 9 = M 9 := rfl
          have e15 : (ab_rw (mDawn M) 15 (fun k => if (k : Int) < i then ndX M g k else M 15 k)) 15 i.toNat = M 15 i.toNat := by rw [ab_rw_self, if_neg (by omega)]
          have g1 := h1 i.toNat
          have g2 := h2 i.toNat
          have g4 := h4 (M 12 i.toNat).toNat
          refine wp_al0 iX3_weaveDay_23 ?_
          refine wp_gR iX3_weaveDay_24 fr_3_28 rfl rfl rfl ?_
          refine wp_il3 iX3_weaveDay_27 ?_
          refine wp_al0 iX3_weaveDay_28 ?_
          refine wp_gR iX3_weaveDay_29 fr_3_28 rfl rfl rfl ?_
          refine wp_il3 iX3_weaveDay_32 ?_
          refine wp_ia iX3_weaveDay_33 rfl (by omega) ?_
          rw [e15]
          refine wp_al1 iX3_weaveDay_34 ?_
          refine wp_gR iX3_weaveDay_35 fr_3_81 rfl rfl rfl ?_
          refine wp_al0 iX3_weaveDay_38 ?_
          refine wp_gR iX3_weaveDay_39 fr_3_18 rfl rfl rfl ?_
          refine wp_il3 iX3_weaveDay_42 ?_
          refine wp_ia iX3_weaveDay_43 rfl (by omega) ?_
          rw [e12]
          refine wp_ia iX3_weaveDay_44 rfl (by omega) ?_
          rw [e9]
          refine wp_add iX3_weaveDay_45 (by omega) ?_
          refine wp_al0 iX3_weaveDay_46 ?_
          refine wp_il3 iX3_weaveDay_47 ?_
          refine wp_v1f iX3_weaveDay_48 ml_3_86 rfl rfl rfl rfl (hw) ?_
          refine wp_mn iX3_weaveDay_51 ml_3_69 rfl ?_
          refine wp_is iX3_weaveDay_54 rfl rfl (by omega) ?_
          rw [up_row, u1_fill (ndX M g) (M 15) i hi0 _ (by
              unfold ndX
              rw [toNat_cast hi0, if_neg c_20])]
          refine wp_ii3 iX3_weaveDay_55 (by omega) ?_
          refine wp_goto iX3_weaveDay_58 ?_
          exact ih _ (by omega) (i + 1) rfl (by omega) (by omega)
  have k0 := key _ 0 rfl (by omega) (by have := h0.1; omega)
  rw [fill_n] at k0
  have e0 : ab_rw (mDawn M) 15 (M 15) = mDawn M := rw_self (mDawn M) 15
  rw [e0] at k0
  exact k0
theorem hL1_day (h : hL1 M) (g : Int) : hL1 (mDay M g) := by
  obtain ⟨h0, h1, h2, h3, h4, h5⟩ := id h
  have hD := hL1_dawn M h
  refine ⟨h0, h1, fun k => ?_, h3, h4, hD.2.2.2.2.2⟩
  have e : mDay M g 15 k = if (k : Int) < M 11 0 then ndX M g k else M 15 k := rfl
  have g2 := h2 k
  have g3 := h3 (11 * (k : Int) + M 11 6).toNat
  have g4 := h4 (M 12 k).toNat
  rw [e]
  unfold ndX
  repeat' split
  all_goals omega
def dayN (g : Int) : Nat → ab_Me → ab_Me
  | 0, M => M
  | n + 1, M => mDay (dayN g n M) g
theorem dayN_ok (h : hL1 M) (g : Int) : ∀ n, hL1 (dayN g n M) ∧ dayN g n M 11 0 = M 11 0 ∧ dayN g n M 11 1 = M 11 1 + n ∧ dayN g n M 1 = M 1
  | 0 => ⟨h, rfl, by simp [dayN], rfl⟩
  | n + 1 => by
    obtain ⟨q1, q2, q3, q4⟩ := dayN_ok h g n
    refine ⟨hL1_day _ q1 g, q2, ?_, q4⟩
    have e : dayN g (n + 1) M 11 1 = dayN g n M 11 1 + 1 := rfl
    rw [e, q3]
    omega
theorem c_X8_days (h : hL1 M) (hd : 0 ≤ M 11 1 ∧ M 11 1 < 900000) (n : Int) : cG L 4 mX8_days [.inr 1, .inl n] M
    (if 1 ≤ n ∧ n ≤ 100 then (if 0 < M 11 0 then few (fun k => whX (dayN (M 1 4) n.toNat M) k) (dayN (M 1 4) n.toNat M 11 6) (M 11 0).toNat else -3) else -1)
    (if 1 ≤ n ∧ n ≤ 100 then (if 0 < M 11 0 then dayN (M 1 4) n.toNat M else M) else M) := by
  refine cG_of rfl ?_
  change wp _ _ _ 0 [some (.inr 1), some (.inl n), none] [] _ _
  have key : (1 ≤ n ∧ n ≤ 100) → ∀ (j : Nat) (i : Int), (n - i).toNat = j → 0 ≤ i → i ≤ n → wp L 3 mX8_days 30 [some (.inr 1), some (.inl n), some (.inl i)] [] (dayN (M 1 4) i.toNat M) (fun r M1 => r = some (.inl (few (fun k => whX (dayN (M 1 4) n.toNat M) k) (dayN (M 1 4) n.toNat M 11 6) (M 11 0).toNat)) ∧ M1 = dayN (M 1 4) n.toNat M) := by
    intro hn j
    induction j using Nat.strongRecOn with
    | ind j ih =>
      intro i hj hi0 hi1
      obtain ⟨q1, q2, q3, q4⟩ := dayN_ok M h (M 1 4) i.toNat
      refine wp_il2 iX8_days_30 ?_
      refine wp_il1 iX8_days_31 ?_
      refine wp_cge iX8_days_32 (fun c_32 => ?_) (fun c_32 => ?_)
      · refine wp_al0 iX8_days_62 ?_
        refine wp_gR iX8_days_63 fr_8_10 rfl rfl rfl ?_
        refine wp_gR iX8_days_66 fr_8_65 rfl rfl rfl ?_
        refine wp_v0f iX8_days_69 ml_8_219 rfl rfl rfl rfl (c_X3_fewestWholePicks L _ q1.1) ?_
        refine wp_ret iX8_days_72 rfl ?_
        have hin : i = n := by omega
        subst hin
        exact ⟨by rw [q2], rfl⟩
      · refine wp_al0 iX8_days_35 ?_
        refine wp_gR iX8_days_36 fr_8_10 rfl rfl rfl ?_
        refine wp_gR iX8_days_39 fr_8_65 rfl rfl rfl ?_
        refine wp_al0 iX8_days_42 ?_
        refine wp_gR iX8_days_43 fr_8_10 rfl rfl rfl ?_
        refine wp_gR iX8_days_46 fr_8_181 rfl rfl rfl ?_
        refine wp_al0 iX8_days_49 ?_
        refine wp_gI iX8_days_50 fi_8_27 rfl ?_
        have hday := c_X3_weaveDay L (dayN (M 1 4) i.toNat M) q1 (dayN (M 1 4) i.toNat M 1 4) (by omega)
        refine wp_v2v iX8_days_53 ml_8_215 rfl rfl rfl rfl (hday) ?_
        rw [q4]
        have e : mDay (dayN (M 1 4) i.toNat M) (M 1 4) = dayN (M 1 4) (i + 1).toNat M := by rw [show (i + 1).toNat = i.toNat + 1 by omega]; rfl
        rw [e]
        refine wp_ii2 iX8_days_56 (by omega) ?_
        refine wp_goto iX8_days_59 ?_
        exact ih _ (by omega) (i + 1) rfl (by omega) (by omega)
  refine wp_il1 iX8_days_0 ?_
  refine wp_ic iX8_days_1 (by decide) ?_
  refine wp_bp iX8_days_2 (by decide) ?_
  refine wp_s3f iX8_days_4 ml_8_51 rfl rfl rfl (c_X8_isFromTo _ _ _ _ _) ?_
  refine wp_bne iX8_days_7 (fun c_7 => ?_) (fun c_7 => ?_)
  · refine wp_al0 iX8_days_12 ?_
    refine wp_gR iX8_days_13 fr_8_10 rfl rfl rfl ?_
    refine wp_gR iX8_days_16 fr_8_65 rfl rfl rfl ?_
    refine wp_v0f iX8_days_19 ml_8_211 rfl rfl rfl rfl (c_X3_isUp _ _) ?_
    refine wp_bne iX8_days_22 (fun c_22 => ?_) (fun c_22 => ?_)
    · refine wp_ic iX8_days_28 (by decide) ?_
      refine wp_is2 iX8_days_29 ?_
      rw [if_pos (by assumption), if_pos (by assumption), if_pos (by assumption), if_pos (by assumption)]
      exact key (by assumption) _ 0 rfl (by omega) (by omega)
    · refine wp_bp iX8_days_25 (by decide) ?_
      refine wp_ret iX8_days_27 rfl ?_
      (refine ⟨?_, ?_⟩ <;> (repeat' split) <;> first | rfl | (exfalso; omega))
  · refine wp_ic iX8_days_10 (by decide) ?_
    refine wp_ret iX8_days_11 rfl ?_
    (refine ⟨?_, ?_⟩ <;> (repeat' split) <;> first | rfl | (exfalso; omega))
end LoomX2
