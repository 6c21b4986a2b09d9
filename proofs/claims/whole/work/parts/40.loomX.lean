/-! ===== THE LOOM of the class: cell 11 ===== -/
theorem u1_fill (g f : Nat → Int) (i : Int) (h : 0 ≤ i) (z : Int) (hz : z = g i.toNat) : ab_u1 (fun k : Nat => if (k : Int) < i then g k else f k) i.toNat z = (fun k : Nat => if (k : Int) < i + 1 then g k else f k) := by
  subst hz
  funext k
  unfold ab_u1
  by_cases hk : k = i.toNat
  · rw [if_pos hk, if_pos (by omega), hk]
  · rw [if_neg hk]
    show (if (k : Int) < i then g k else f k) = _
    by_cases h2 : (k : Int) < i
    · rw [if_pos h2, if_pos (by omega)]
    · rw [if_neg h2, if_neg (by omega)]
theorem fill_n (g f : Nat → Int) : (fun k : Nat => if (k : Int) < 0 then g k else f k) = f := funext fun k => if_neg (by omega)
theorem up_row (M : ab_Me) (a k : Nat) (f : Nat → Int) (z : Int) : ab_up (ab_rw M a f) a k z = ab_rw M a (ab_u1 f k z) := by rw [up_rw, rw_rw, ab_rw_self]
def uWX (M : ab_Me) (s : Int) (j : Nat) : Bool := decide (M 16 (11 * s + (j : Int) + 1).toNat ≤ M 15 s.toNat)
def whX (M : ab_Me) (s : Int) : Int := rl (uWX M s) (M 11 6).toNat 0
def hL0 (M : ab_Me) : Prop := (0 ≤ M 11 0 ∧ M 11 0 ≤ 4) ∧ 0 ≤ M 11 6 ∧ M 11 6 ≤ 10
section LoomX
variable (L : Nat) (M : ab_Me)
theorem whX_bd (h : hL0 M) (s : Int) : 0 ≤ whX M s ∧ whX M s ≤ 10 := by
  have := rl_bd (uWX M s) (M 11 6).toNat 0
  have h2 := h.2
  unfold whX
  omega
theorem c_X3_isUp : cF L 1 mX3_isUp [.inr 11] M (if 0 < M 11 0 then 1 else 0) := by
  refine cF_of rfl ?_
  change wp _ _ _ 0 [some (.inr 11)] [] _ _
  refine wp_al0 iX3_isUp_0 ?_
  refine wp_gI iX3_isUp_1 fi_3_9 rfl ?_
  refine wp_zle iX3_isUp_4 (fun c_4 => ?_) (fun c_4 => ?_)
  · refine wp_ic iX3_isUp_11 (by decide) ?_
    refine wp_retb iX3_isUp_12 rfl (by decide) ?_
    (simp; omega)
  · refine wp_ic iX3_isUp_7 (by decide) ?_
    refine wp_goto iX3_isUp_8 ?_
    refine wp_retb iX3_isUp_12 rfl (by decide) ?_
    (simp; omega)
theorem c_X3_workOf (h : hL0 M) (s : Int) (hs : 0 ≤ s ∧ s < 4) : cF L 1 mX3_workOf [.inr 11, .inl s] M (M 16 (11 * s + M 11 6).toNat) := by
  obtain ⟨h1, h2⟩ := h
  refine cF_of rfl ?_
  change wp _ _ _ 0 [some (.inr 11), some (.inl s)] [] _ _
  refine wp_al0 iX3_workOf_0 ?_
  refine wp_gR iX3_workOf_1 fr_3_34 rfl rfl rfl ?_
  refine wp_il1 iX3_workOf_4 ?_
  refine wp_bp iX3_workOf_5 (by decide) ?_
  refine wp_mul iX3_workOf_7 (by omega) ?_
  refine wp_al0 iX3_workOf_8 ?_
  refine wp_gI iX3_workOf_9 fi_3_31 rfl ?_
  refine wp_add iX3_workOf_12 (by omega) ?_
  refine wp_ia iX3_workOf_13 rfl (by omega) ?_
  refine wp_ret iX3_workOf_14 rfl ?_
  (exact ⟨by rw [show s * 11 + M 11 6 = 11 * s + M 11 6 by omega], rfl⟩)
theorem c_X3_wholePicks (h : hL0 M) (s : Int) (hs : 0 ≤ s ∧ s < 4) : cF L 1 mX3_wholePicks [.inr 11, .inl s] M (whX M s) := by
  obtain ⟨h1, h2⟩ := id h
  refine cF_of rfl ?_
  change wp _ _ _ 0 [some (.inr 11), some (.inl s), none] [] _ _
  refine wp_ic iX3_wholePicks_0 (by decide) ?_
  refine wp_is2 iX3_wholePicks_1 ?_
  have key : ∀ (n : Nat) (i : Int), (M 11 6 - i).toNat = n → 0 ≤ i → i ≤ M 11 6 → whX M s = i + rl (uWX M s) n i.toNat → wp L 0 mX3_wholePicks 2 [some (.inr 11), some (.inl s), some (.inl i)] [] M (fun r M1 => r = some (.inl (whX M s)) ∧ M1 = M) := by
    intro n
    induction n with
    | zero =>
      intro i hn hi0 hi1 hw
      refine wp_il2 iX3_wholePicks_2 ?_
      refine wp_al0 iX3_wholePicks_3 ?_
      refine wp_gI iX3_wholePicks_4 fi_3_31 rfl ?_
      refine wp_cge iX3_wholePicks_7 (fun c_7 => ?_) (fun c_7 => ?_)
      · refine wp_il2 iX3_wholePicks_38 ?_
        refine wp_ret iX3_wholePicks_39 rfl ?_
        (exact ⟨by rw [hw]; simp [rl], rfl⟩)
      · refine wp_al0 iX3_wholePicks_10 ?_
        refine wp_gR iX3_wholePicks_11 fr_3_34 rfl rfl rfl ?_
        refine wp_il1 iX3_wholePicks_14 ?_
        refine wp_bp iX3_wholePicks_15 (by decide) ?_
        refine wp_mul iX3_wholePicks_17 (by omega) ?_
        refine wp_il2 iX3_wholePicks_18 ?_
        refine wp_add iX3_wholePicks_19 (by omega) ?_
        refine wp_ic iX3_wholePicks_20 (by decide) ?_
        refine wp_add iX3_wholePicks_21 (by omega) ?_
        refine wp_ia iX3_wholePicks_22 rfl (by omega) ?_
        refine wp_al0 iX3_wholePicks_23 ?_
        refine wp_gR iX3_wholePicks_24 fr_3_28 rfl rfl rfl ?_
        refine wp_il1 iX3_wholePicks_27 ?_
        refine wp_ia iX3_wholePicks_28 rfl (by omega) ?_
        refine wp_cgt iX3_wholePicks_29 (fun c_29 => ?_) (fun c_29 => ?_)
        · refine wp_il2 iX3_wholePicks_38 ?_
          refine wp_ret iX3_wholePicks_39 rfl ?_
          (exact ⟨by rw [hw]; simp [rl], rfl⟩)
        · refine wp_ii2 iX3_wholePicks_32 (by omega) ?_
          refine wp_goto iX3_wholePicks_35 ?_
          exact absurd hn (by omega)
    | succ n ih =>
      intro i hn hi0 hi1 hw
      have hu : (uWX M s i.toNat = true) ↔ M 16 (s * 11 + i + 1).toNat ≤ M 15 s.toNat := by
        unfold uWX
        rw [toNat_cast hi0, show 11 * s + i + 1 = s * 11 + i + 1 by omega]
        simp
      refine wp_il2 iX3_wholePicks_2 ?_
      refine wp_al0 iX3_wholePicks_3 ?_
      refine wp_gI iX3_wholePicks_4 fi_3_31 rfl ?_
      refine wp_cge iX3_wholePicks_7 (fun c_7 => ?_) (fun c_7 => ?_)
      · refine wp_il2 iX3_wholePicks_38 ?_
        refine wp_ret iX3_wholePicks_39 rfl ?_
        (first | (exact ⟨by rw [hw, rl_no (Or.inr (fun q => absurd (hu.mp q) (by omega)))]; simp, rfl⟩) | (exfalso; omega))
      · refine wp_al0 iX3_wholePicks_10 ?_
        refine wp_gR iX3_wholePicks_11 fr_3_34 rfl rfl rfl ?_
        refine wp_il1 iX3_wholePicks_14 ?_
        refine wp_bp iX3_wholePicks_15 (by decide) ?_
        refine wp_mul iX3_wholePicks_17 (by omega) ?_
        refine wp_il2 iX3_wholePicks_18 ?_
        refine wp_add iX3_wholePicks_19 (by omega) ?_
        refine wp_ic iX3_wholePicks_20 (by decide) ?_
        refine wp_add iX3_wholePicks_21 (by omega) ?_
        refine wp_ia iX3_wholePicks_22 rfl (by omega) ?_
        refine wp_al0 iX3_wholePicks_23 ?_
        refine wp_gR iX3_wholePicks_24 fr_3_28 rfl rfl rfl ?_
        refine wp_il1 iX3_wholePicks_27 ?_
        refine wp_ia iX3_wholePicks_28 rfl (by omega) ?_
        refine wp_cgt iX3_wholePicks_29 (fun c_29 => ?_) (fun c_29 => ?_)
        · refine wp_il2 iX3_wholePicks_38 ?_
          refine wp_ret iX3_wholePicks_39 rfl ?_
          (first | (exact ⟨by rw [hw, rl_no (Or.inr (fun q => absurd (hu.mp q) (by omega)))]; simp, rfl⟩) | (exfalso; omega))
        · refine wp_ii2 iX3_wholePicks_32 (by omega) ?_
          refine wp_goto iX3_wholePicks_35 ?_
          exact ih (i + 1) (by omega) (by omega) (by omega) (by rw [hw, rl_yes (hu.mpr (by assumption)), show (i + 1).toNat = i.toNat + 1 by omega]; omega)
  exact key _ 0 rfl (by omega) (by omega) (by unfold whX; simp)
/-- the fewest of whole picks, as a loop tells it -/
def few (f : Nat → Int) (a : Int) : Nat → Int
  | 0 => a
  | n + 1 => if f n < few f a n then f n else few f a n
theorem few_bd (f : Nat → Int) (a : Int) (hf : ∀ k, 0 ≤ f k) (ha : 0 ≤ a ∧ a ≤ 10) : ∀ n, 0 ≤ few f a n ∧ few f a n ≤ 10
  | 0 => ha
  | n + 1 => by
    have h1 := few_bd f a hf ha n
    have h2 := hf n
    simp only [few]
    split <;> omega
theorem c_X3_fewestWholePicks (h : hL0 M) : cF L 2 mX3_fewestWholePicks [.inr 11] M (few (fun k => whX M k) (M 11 6) (M 11 0).toNat) := by
  obtain ⟨h1, h2⟩ := id h
  refine cF_of rfl ?_
  change wp _ _ _ 0 [some (.inr 11), none, none] [] _ _
  refine wp_al0 iX3_fewestWholePicks_0 ?_
  refine wp_gI iX3_fewestWholePicks_1 fi_3_31 rfl ?_
  refine wp_is1 iX3_fewestWholePicks_4 ?_
  refine wp_ic iX3_fewestWholePicks_5 (by decide) ?_
  refine wp_is2 iX3_fewestWholePicks_6 ?_
  have key : ∀ (n : Nat) (i a : Int), (M 11 0 - i).toNat = n → 0 ≤ i → i ≤ M 11 0 → a = few (fun k => whX M k) (M 11 6) i.toNat → wp L 1 mX3_fewestWholePicks 7 [some (.inr 11), some (.inl a), some (.inl i)] [] M (fun r M1 => r = some (.inl (few (fun k => whX M k) (M 11 6) (M 11 0).toNat)) ∧ M1 = M) := by
    intro n
    induction n using Nat.strongRecOn with
    | ind n ih =>
      intro i a hn hi0 hi1 ha
      refine wp_il2 iX3_fewestWholePicks_7 ?_
      refine wp_al0 iX3_fewestWholePicks_8 ?_
      refine wp_gI iX3_fewestWholePicks_9 fi_3_9 rfl ?_
      refine wp_cge iX3_fewestWholePicks_12 (fun c_12 => ?_) (fun c_12 => ?_)
      · refine wp_il1 iX3_fewestWholePicks_31 ?_
        refine wp_ret iX3_fewestWholePicks_32 rfl ?_
        (exact ⟨by rw [ha, show i = M 11 0 by omega], rfl⟩)
      · refine wp_il1 iX3_fewestWholePicks_15 ?_
        refine wp_al0 iX3_fewestWholePicks_16 ?_
        refine wp_il2 iX3_fewestWholePicks_17 ?_
        refine wp_v1f iX3_fewestWholePicks_18 ml_3_66 rfl rfl rfl rfl (c_X3_wholePicks L M h i (by omega)) ?_
        refine wp_mn iX3_fewestWholePicks_21 ml_3_69 rfl ?_
        refine wp_is1 iX3_fewestWholePicks_24 ?_
        refine wp_ii2 iX3_fewestWholePicks_25 (by omega) ?_
        refine wp_goto iX3_fewestWholePicks_28 ?_
        exact ih _ (by omega) (i + 1) _ rfl (by omega) (by omega) (by rw [show (i + 1).toNat = i.toNat + 1 by omega]; simp only [few]; rw [← ha, toNat_cast hi0])
  exact key _ 0 _ rfl (by omega) (by omega) rfl
def mDawn (M : ab_Me) : ab_Me := ab_rw M 17 (fun k => if (k : Int) < M 11 0 then whX M k else M 17 k)
theorem c_X3_beginDay (h : hL0 M) : cV L 2 mX3_beginDay [.inr 11] M (mDawn M) := by
  obtain ⟨h1, h2⟩ := id h
  refine cV_of rfl ?_
  change wp _ _ _ 0 [some (.inr 11), none] [] _ _
  refine wp_ic iX3_beginDay_0 (by decide) ?_
  refine wp_is1 iX3_beginDay_1 ?_
  have key : ∀ (n : Nat) (i : Int), (M 11 0 - i).toNat = n → 0 ≤ i → i ≤ M 11 0 → wp L 1 mX3_beginDay 2 [some (.inr 11), some (.inl i)] [] (ab_rw M 17 (fun k => if (k : Int) < i then whX M k else M 17 k)) (fun r M1 => r = none ∧ M1 = mDawn M) := by
    intro n
    induction n using Nat.strongRecOn with
    | ind n ih =>
      intro i hn hi0 hi1
      have e11 : (ab_rw M 17 (fun k => if (k : Int) < i then whX M k else M 17 k)) 11 0 = M 11 0 := rfl
      have hw : cF L 1 mX3_wholePicks [.inr 11, .inl i] (ab_rw M 17 (fun k => if (k : Int) < i then whX M k else M 17 k)) (whX M i) ∨ 4 ≤ i := by
        by_cases h4 : i < 4
        · exact Or.inl (c_X3_wholePicks L (ab_rw M 17 (fun k => if (k : Int) < i then whX M k else M 17 k)) h i (by omega))
        · right; omega
      refine wp_il1 iX3_beginDay_2 ?_
      refine wp_al0 iX3_beginDay_3 ?_
      refine wp_gI iX3_beginDay_4 fi_3_9 rfl ?_
      refine wp_cge iX3_beginDay_7 (fun c_7 => ?_) (fun c_7 => ?_)
      · refine wp_retv iX3_beginDay_27 rfl ?_
        exact ⟨rfl, by unfold mDawn; rw [show i = M 11 0 by omega]⟩
      · refine wp_al0 iX3_beginDay_10 ?_
        refine wp_gR iX3_beginDay_11 fr_3_37 rfl rfl rfl ?_
        refine wp_il1 iX3_beginDay_14 ?_
        refine wp_al0 iX3_beginDay_15 ?_
        refine wp_il1 iX3_beginDay_16 ?_
        refine wp_v1f iX3_beginDay_17 ml_3_66 rfl rfl rfl rfl (hw.resolve_right (by omega)) ?_
        refine wp_is iX3_beginDay_20 rfl rfl (by omega) ?_
        rw [up_row, u1_fill _ _ i hi0 _ (by rw [toNat_cast hi0])]
        refine wp_ii1 iX3_beginDay_21 (by omega) ?_
        refine wp_goto iX3_beginDay_24 ?_
        exact ih _ (by omega) (i + 1) rfl (by omega) (by omega)
  have k0 := key _ 0 rfl (by omega) (by omega)
  rw [fill_n, rw_self] at k0
  exact k0
def tooX (M : ab_Me) (s g : Int) : Prop := (0 < s ∧ g ≤ M 17 s.toNat - M 17 (s - 1).toNat) ∨ (s < M 11 0 - 1 ∧ g ≤ M 17 s.toNat - M 17 (s + 1).toNat)
theorem c_X3_isTooFarAhead (h : hL0 M) (hw : ∀ k, -100 ≤ M 17 k ∧ M 17 k ≤ 100) (s g : Int) (hs : 0 ≤ s ∧ s < M 11 0) : cF L 1 mX3_isTooFarAhead [.inr 11, .inl s, .inl g] M (if (0 < s ∧ g ≤ M 17 s.toNat - M 17 (s - 1).toNat) ∨ (s < M 11 0 - 1 ∧ g ≤ M 17 s.toNat - M 17 (s + 1).toNat) then 1 else 0) := by
  obtain ⟨h1, h2⟩ := id h
  have w0 := hw s.toNat
  have w1 := hw (s - 1).toNat
  have w2 := hw (s + 1).toNat
  refine cF_of rfl ?_
  change wp _ _ _ 0 [some (.inr 11), some (.inl s), some (.inl g), none] [] _ _
  refine wp_al0 iX3_isTooFarAhead_0 ?_
  refine wp_gR iX3_isTooFarAhead_1 fr_3_37 rfl rfl rfl ?_
  refine wp_il1 iX3_isTooFarAhead_4 ?_
  refine wp_ia iX3_isTooFarAhead_5 rfl (by omega) ?_
  refine wp_is3 iX3_isTooFarAhead_6 ?_
  refine wp_il1 iX3_isTooFarAhead_7 ?_
  refine wp_zle iX3_isTooFarAhead_8 (fun c_8 => ?_) (fun c_8 => ?_)
  · refine wp_il1 iX3_isTooFarAhead_25 ?_
    refine wp_al0 iX3_isTooFarAhead_26 ?_
    refine wp_gI iX3_isTooFarAhead_27 fi_3_9 rfl ?_
    refine wp_ic iX3_isTooFarAhead_30 (by decide) ?_
    refine wp_sub iX3_isTooFarAhead_31 (by omega) ?_
    refine wp_cge iX3_isTooFarAhead_32 (fun c_32 => ?_) (fun c_32 => ?_)
    · refine wp_ic iX3_isTooFarAhead_53 (by decide) ?_
      refine wp_retb iX3_isTooFarAhead_54 rfl (by decide) ?_
      (refine ⟨?_, rfl⟩; split <;> first | rfl | (exfalso; omega))
    · refine wp_il3 iX3_isTooFarAhead_35 ?_
      refine wp_al0 iX3_isTooFarAhead_36 ?_
      refine wp_gR iX3_isTooFarAhead_37 fr_3_37 rfl rfl rfl ?_
      refine wp_il1 iX3_isTooFarAhead_40 ?_
      refine wp_ic iX3_isTooFarAhead_41 (by decide) ?_
      refine wp_add iX3_isTooFarAhead_42 (by omega) ?_
      refine wp_ia iX3_isTooFarAhead_43 rfl (by omega) ?_
      refine wp_sub iX3_isTooFarAhead_44 (by omega) ?_
      refine wp_il2 iX3_isTooFarAhead_45 ?_
      refine wp_clt iX3_isTooFarAhead_46 (fun c_46 => ?_) (fun c_46 => ?_)
      · refine wp_ic iX3_isTooFarAhead_53 (by decide) ?_
        refine wp_retb iX3_isTooFarAhead_54 rfl (by decide) ?_
        (refine ⟨?_, rfl⟩; split <;> first | rfl | (exfalso; omega))
      · refine wp_ic iX3_isTooFarAhead_49 (by decide) ?_
        refine wp_goto iX3_isTooFarAhead_50 ?_
        refine wp_retb iX3_isTooFarAhead_54 rfl (by decide) ?_
        (refine ⟨?_, rfl⟩; split <;> first | rfl | (exfalso; omega))
  · refine wp_il3 iX3_isTooFarAhead_11 ?_
    refine wp_al0 iX3_isTooFarAhead_12 ?_
    refine wp_gR iX3_isTooFarAhead_13 fr_3_37 rfl rfl rfl ?_
    refine wp_il1 iX3_isTooFarAhead_16 ?_
    refine wp_ic iX3_isTooFarAhead_17 (by decide) ?_
    refine wp_sub iX3_isTooFarAhead_18 (by omega) ?_
    refine wp_ia iX3_isTooFarAhead_19 rfl (by omega) ?_
    refine wp_sub iX3_isTooFarAhead_20 (by omega) ?_
    refine wp_il2 iX3_isTooFarAhead_21 ?_
    refine wp_cge iX3_isTooFarAhead_22 (fun c_22 => ?_) (fun c_22 => ?_)
    · refine wp_ic iX3_isTooFarAhead_49 (by decide) ?_
      refine wp_goto iX3_isTooFarAhead_50 ?_
      refine wp_retb iX3_isTooFarAhead_54 rfl (by decide) ?_
      (refine ⟨?_, rfl⟩; split <;> first | rfl | (exfalso; omega))
    · refine wp_il1 iX3_isTooFarAhead_25 ?_
      refine wp_al0 iX3_isTooFarAhead_26 ?_
      refine wp_gI iX3_isTooFarAhead_27 fi_3_9 rfl ?_
      refine wp_ic iX3_isTooFarAhead_30 (by decide) ?_
      refine wp_sub iX3_isTooFarAhead_31 (by omega) ?_
      refine wp_cge iX3_isTooFarAhead_32 (fun c_32 => ?_) (fun c_32 => ?_)
      · refine wp_ic iX3_isTooFarAhead_53 (by decide) ?_
        refine wp_retb iX3_isTooFarAhead_54 rfl (by decide) ?_
        (refine ⟨?_, rfl⟩; split <;> first | rfl | (exfalso; omega))
      · refine wp_il3 iX3_isTooFarAhead_35 ?_
        refine wp_al0 iX3_isTooFarAhead_36 ?_
        refine wp_gR iX3_isTooFarAhead_37 fr_3_37 rfl rfl rfl ?_
        refine wp_il1 iX3_isTooFarAhead_40 ?_
        refine wp_ic iX3_isTooFarAhead_41 (by decide) ?_
        refine wp_add iX3_isTooFarAhead_42 (by omega) ?_
        refine wp_ia iX3_isTooFarAhead_43 rfl (by omega) ?_
        refine wp_sub iX3_isTooFarAhead_44 (by omega) ?_
        refine wp_il2 iX3_isTooFarAhead_45 ?_
        refine wp_clt iX3_isTooFarAhead_46 (fun c_46 => ?_) (fun c_46 => ?_)
        · refine wp_ic iX3_isTooFarAhead_53 (by decide) ?_
          refine wp_retb iX3_isTooFarAhead_54 rfl (by decide) ?_
          (refine ⟨?_, rfl⟩; split <;> first | rfl | (exfalso; omega))
        · refine wp_ic iX3_isTooFarAhead_49 (by decide) ?_
          refine wp_goto iX3_isTooFarAhead_50 ?_
          refine wp_retb iX3_isTooFarAhead_54 rfl (by decide) ?_
          (refine ⟨?_, rfl⟩; split <;> first | rfl | (exfalso; omega))
end LoomX
