/-! ===== SLITS: words for both sides, and the class's methods ===== -/
def it (f : Int → Nat → Int) (a : Int) : Nat → Int
  | 0 => a
  | n + 1 => f (it f a n) n
theorem it_up (f : Int → Nat → Int) (a : Int) {i : Int} (h : 0 ≤ i) : it f a (i + 1).toNat = f (it f a i.toNat) i.toNat := by
  rw [show (i + 1).toNat = i.toNat + 1 by omega]
  rfl
theorem toNat_cast {i : Int} (h : 0 ≤ i) : ((i.toNat : Nat) : Int) = i := by omega
def uC (col : Nat → Int) (w : Int) (p : Nat) : Bool := decide (¬ col (12 * (p : Int) + w).toNat = col (12 * (p : Int) + (w + 1)).toNat)
def rl (u : Nat → Bool) : Nat → Nat → Int
  | 0, _ => 0
  | n + 1, p => if u p = true then rl u n (p + 1) + 1 else 0
theorem rl_bd (u : Nat → Bool) : ∀ n p, 0 ≤ rl u n p ∧ rl u n p ≤ n
  | 0, p => by simp [rl]
  | n + 1, p => by
    have := rl_bd u n (p + 1)
    simp only [rl]
    split <;> omega
def sf (u : Nat → Bool) (R p : Nat) : Int := if 0 < p ∧ u (p - 1) = true then 0 else rl u (R - p) p
theorem sf_bd (u : Nat → Bool) (R p : Nat) : 0 ≤ sf u R p ∧ sf u R p ≤ R := by
  have := rl_bd u (R - p) p
  unfold sf
  split <;> omega
theorem rl_no {u : Nat → Bool} {n p : Nat} (h : n = 0 ∨ ¬ u p = true) : rl u n p = 0 := by
  cases n with
  | zero => rfl
  | succ n =>
    rcases h with h | h
    · omega
    · simp [rl, h]
theorem rl_yes {u : Nat → Bool} {n p : Nat} (h : u p = true) : rl u (n + 1) p = rl u n (p + 1) + 1 := by simp [rl, h]
def stp (what S n told : Int) : Int := if what = 3 then (if told < n then n else told) else if what = 0 then told + (if 0 < n then 1 else 0) else if what = 1 then told + (if S < n then 1 else 0) else told + (if S < n then n else 0)
def slr (what S : Int) (R : Nat) (col : Nat → Int) (a : Int) (w : Nat) : Int := it (fun b p => stp what S (sf (uC col w) R p) b) a R
def sls (what S : Int) (C R : Nat) (col : Nat → Int) : Int := it (slr what S R col) 0 (C - 1)
def cX (M : ab_Me) : Nat → Int := fun k => M 4 k % 8
section SlX
variable (L : Nat) (M : ab_Me)
theorem c_X0_isSlit (hM : hB M) (w p : Int) (hw : 0 ≤ w ∧ w < 11) (hp : 0 ≤ p ∧ p < 10) : cF L 2 mX0_isSlitAt [.inr 3, .inl w, .inl p] M (if uC (cX M) w p.toNat = true then 1 else 0) := by
  have h := c_X0_isSlitAt L M hM w p hw hp
  have e : (if ¬ M 4 (12 * p + w).toNat % 8 = M 4 (12 * p + (w + 1)).toNat % 8 then (1 : Int) else 0) = (if uC (cX M) w p.toNat = true then 1 else 0) := by
    unfold uC cX
    rw [toNat_cast hp.1]
    simp only [decide_eq_true_eq]
  rw [e] at h
  exact h
theorem c_X0_lengthOfSlitFrom (hM : hB M) (w p : Int) (hw : 0 ≤ w ∧ w < 11) (hp : 0 ≤ p ∧ p < M 3 1) : cF L 3 mX0_lengthOfSlitFrom [.inr 3, .inl w, .inl p] M (sf (uC (cX M) w) (M 3 1).toNat p.toNat) := by
  obtain ⟨h1, h2, h3, h4, h5⟩ := id hM
  refine cF_of rfl ?_
  change wp _ _ _ 0 [some (.inr 3), some (.inl w), some (.inl p), none] [] _ _
  have key : ∀ (n : Nat) (i : Int), (M 3 1 - i).toNat = n → p ≤ i → i ≤ M 3 1 → rl (uC (cX M) w) ((M 3 1).toNat - p.toNat) p.toNat = (i - p) + rl (uC (cX M) w) n i.toNat → sf (uC (cX M) w) (M 3 1).toNat p.toNat = rl (uC (cX M) w) ((M 3 1).toNat - p.toNat) p.toNat → wp L 2 mX0_lengthOfSlitFrom 19 [some (.inr 3), some (.inl w), some (.inl p), some (.inl i)] [] M (fun r M1 => r = some (.inl (sf (uC (cX M) w) (M 3 1).toNat p.toNat)) ∧ M1 = M) := by
    intro n
    induction n with
    | zero =>
      intro i hn hi0 hi1 hrl hsf
      refine wp_il3 iX0_lengthOfSlitFrom_19 ?_
      refine wp_al0 iX0_lengthOfSlitFrom_20 ?_
      refine wp_gI iX0_lengthOfSlitFrom_21 fi_0_15 rfl ?_
      refine wp_cge iX0_lengthOfSlitFrom_24 (fun c_24 => ?_) (fun c_24 => ?_)
      · refine wp_il3 iX0_lengthOfSlitFrom_42 ?_
        refine wp_il2 iX0_lengthOfSlitFrom_43 ?_
        refine wp_sub iX0_lengthOfSlitFrom_44 (by omega) ?_
        refine wp_ret iX0_lengthOfSlitFrom_45 rfl ?_
        (exact ⟨by rw [hsf, hrl]; simp [rl], rfl⟩)
      · refine wp_al0 iX0_lengthOfSlitFrom_27 ?_
        refine wp_il1 iX0_lengthOfSlitFrom_28 ?_
        refine wp_il3 iX0_lengthOfSlitFrom_29 ?_
        refine wp_v2f iX0_lengthOfSlitFrom_30 ml_0_53 rfl rfl rfl rfl (c_X0_isSlit L M hM w i hw (by omega)) ?_
        refine wp_beq iX0_lengthOfSlitFrom_33 (fun c_33 => ?_) (fun c_33 => ?_)
        · refine wp_il3 iX0_lengthOfSlitFrom_42 ?_
          refine wp_il2 iX0_lengthOfSlitFrom_43 ?_
          refine wp_sub iX0_lengthOfSlitFrom_44 (by omega) ?_
          refine wp_ret iX0_lengthOfSlitFrom_45 rfl ?_
          (exact ⟨by rw [hsf, hrl]; simp [rl], rfl⟩)
        · refine wp_ii3 iX0_lengthOfSlitFrom_36 (by omega) ?_
          refine wp_goto iX0_lengthOfSlitFrom_39 ?_
          exact absurd hn (by omega)
    | succ n ih =>
      intro i hn hi0 hi1 hrl hsf
      refine wp_il3 iX0_lengthOfSlitFrom_19 ?_
      refine wp_al0 iX0_lengthOfSlitFrom_20 ?_
      refine wp_gI iX0_lengthOfSlitFrom_21 fi_0_15 rfl ?_
      refine wp_cge iX0_lengthOfSlitFrom_24 (fun c_24 => ?_) (fun c_24 => ?_)
      · refine wp_il3 iX0_lengthOfSlitFrom_42 ?_
        refine wp_il2 iX0_lengthOfSlitFrom_43 ?_
        refine wp_sub iX0_lengthOfSlitFrom_44 (by omega) ?_
        refine wp_ret iX0_lengthOfSlitFrom_45 rfl ?_
        (first | (exact ⟨by rw [hsf, hrl, rl_no (Or.inr (by assumption))]; simp, rfl⟩) | omega)
      · refine wp_al0 iX0_lengthOfSlitFrom_27 ?_
        refine wp_il1 iX0_lengthOfSlitFrom_28 ?_
        refine wp_il3 iX0_lengthOfSlitFrom_29 ?_
        refine wp_v2f iX0_lengthOfSlitFrom_30 ml_0_53 rfl rfl rfl rfl (c_X0_isSlit L M hM w i hw (by omega)) ?_
        refine wp_beq iX0_lengthOfSlitFrom_33 (fun c_33 => ?_) (fun c_33 => ?_)
        · refine wp_il3 iX0_lengthOfSlitFrom_42 ?_
          refine wp_il2 iX0_lengthOfSlitFrom_43 ?_
          refine wp_sub iX0_lengthOfSlitFrom_44 (by omega) ?_
          refine wp_ret iX0_lengthOfSlitFrom_45 rfl ?_
          (first | (exact ⟨by rw [hsf, hrl, rl_no (Or.inr (by assumption))]; simp, rfl⟩) | omega)
        · refine wp_ii3 iX0_lengthOfSlitFrom_36 (by omega) ?_
          refine wp_goto iX0_lengthOfSlitFrom_39 ?_
          exact ih (i + 1) (by omega) (by omega) (by omega) (by rw [hrl, rl_yes (by assumption), show (i + 1).toNat = i.toNat + 1 by omega]; omega) hsf
  refine wp_il2 iX0_lengthOfSlitFrom_0 ?_
  refine wp_zle iX0_lengthOfSlitFrom_1 (fun c_1 => ?_) (fun c_1 => ?_)
  · refine wp_il2 iX0_lengthOfSlitFrom_17 ?_
    refine wp_is3 iX0_lengthOfSlitFrom_18 ?_
    exact key _ p rfl (by omega) (by omega) (by rw [show (M 3 1 - p).toNat = (M 3 1).toNat - p.toNat by omega]; omega) (by unfold sf; rw [if_neg (by omega)])
  · refine wp_al0 iX0_lengthOfSlitFrom_4 ?_
    refine wp_il1 iX0_lengthOfSlitFrom_5 ?_
    refine wp_il2 iX0_lengthOfSlitFrom_6 ?_
    refine wp_ic iX0_lengthOfSlitFrom_7 (by decide) ?_
    refine wp_sub iX0_lengthOfSlitFrom_8 (by omega) ?_
    refine wp_v2f iX0_lengthOfSlitFrom_9 ml_0_53 rfl rfl rfl rfl (c_X0_isSlit L M hM w (p - 1) hw (by omega)) ?_
    refine wp_beq iX0_lengthOfSlitFrom_12 (fun c_12 => ?_) (fun c_12 => ?_)
    · refine wp_il2 iX0_lengthOfSlitFrom_17 ?_
      refine wp_is3 iX0_lengthOfSlitFrom_18 ?_
      exact key _ p rfl (by omega) (by omega) (by rw [show (M 3 1 - p).toNat = (M 3 1).toNat - p.toNat by omega]; omega) (by unfold sf; rw [if_neg (fun q => by rw [show p.toNat - 1 = (p - 1).toNat by omega] at q; exact absurd q.2 (by assumption))])
    · refine wp_ic iX0_lengthOfSlitFrom_15 (by decide) ?_
      refine wp_ret iX0_lengthOfSlitFrom_16 rfl ?_
      (exact ⟨by unfold sf; rw [if_pos ⟨by omega, by rw [show p.toNat - 1 = (p - 1).toNat by omega]; assumption⟩], rfl⟩)
def bk (u : Nat → Bool) : Nat → Nat
  | 0 => 0
  | p + 1 => if u p = true then bk u p else p + 1
theorem bk_le (u : Nat → Bool) : ∀ p, bk u p ≤ p
  | 0 => Nat.le_refl 0
  | p + 1 => by
    have := bk_le u p
    simp only [bk]
    split <;> omega
theorem bk_at (u : Nat → Bool) : ∀ p, bk u p = 0 ∨ ¬ u (bk u p - 1) = true
  | 0 => Or.inl rfl
  | p + 1 => by
    have := bk_at u p
    by_cases h : u p = true
    · simpa only [bk, h, if_true] using this
    · right
      simp only [bk, h, if_false]
      simpa using h
def slt (u : Nat → Bool) (R p : Nat) : Int := if u p = true then sf u R (bk u p) else 0
theorem c_X0_slitLength (hM : hB M) (w p : Int) (hw : 0 ≤ w ∧ w < 11) (hp : 0 ≤ p ∧ p < M 3 1) : cF L 4 mX0_slitLength [.inr 3, .inl w, .inl p] M (slt (uC (cX M) w) (M 3 1).toNat p.toNat) := by
  obtain ⟨h1, h2, h3, h4, h5⟩ := id hM
  refine cF_of rfl ?_
  change wp _ _ _ 0 [some (.inr 3), some (.inl w), some (.inl p), none] [] _ _
  refine wp_il2 iX0_slitLength_0 ?_
  refine wp_is3 iX0_slitLength_1 ?_
  have key : ∀ (n : Nat) (i : Int), i.toNat = n → 0 ≤ i → i ≤ p → slt (uC (cX M) w) (M 3 1).toNat p.toNat = (if uC (cX M) w i.toNat = true then sf (uC (cX M) w) (M 3 1).toNat (bk (uC (cX M) w) i.toNat) else sf (uC (cX M) w) (M 3 1).toNat i.toNat) → wp L 3 mX0_slitLength 2 [some (.inr 3), some (.inl w), some (.inl p), some (.inl i)] [] M (fun r M1 => r = some (.inl (slt (uC (cX M) w) (M 3 1).toNat p.toNat)) ∧ M1 = M) := by
    intro n
    induction n with
    | zero =>
      intro i hn hi0 hi1 hs
      rw [hn] at hs
      refine wp_il3 iX0_slitLength_2 ?_
      refine wp_zle iX0_slitLength_3 (fun c_3 => ?_) (fun c_3 => ?_)
      · refine wp_al0 iX0_slitLength_32 ?_
        refine wp_il1 iX0_slitLength_33 ?_
        refine wp_il3 iX0_slitLength_34 ?_
        refine wp_v2f iX0_slitLength_35 ml_0_56 rfl rfl rfl rfl (c_X0_lengthOfSlitFrom L M hM w i hw (by omega)) ?_
        refine wp_ret iX0_slitLength_38 rfl ?_
        (exact ⟨by rw [hs, hn]; split <;> rfl, rfl⟩)
      · refine wp_al0 iX0_slitLength_6 ?_
        refine wp_il1 iX0_slitLength_7 ?_
        refine wp_il3 iX0_slitLength_8 ?_
        refine wp_v2f iX0_slitLength_9 ml_0_53 rfl rfl rfl rfl (c_X0_isSlit L M hM w i hw (by omega)) ?_
        refine wp_beq iX0_slitLength_12 (fun c_12 => ?_) (fun c_12 => ?_)
        · refine wp_al0 iX0_slitLength_32 ?_
          refine wp_il1 iX0_slitLength_33 ?_
          refine wp_il3 iX0_slitLength_34 ?_
          refine wp_v2f iX0_slitLength_35 ml_0_56 rfl rfl rfl rfl (c_X0_lengthOfSlitFrom L M hM w i hw (by omega)) ?_
          refine wp_ret iX0_slitLength_38 rfl ?_
          (exact ⟨by rw [hs, hn]; split <;> rfl, rfl⟩)
        · refine wp_al0 iX0_slitLength_15 ?_
          refine wp_il1 iX0_slitLength_16 ?_
          refine wp_il3 iX0_slitLength_17 ?_
          refine wp_ic iX0_slitLength_18 (by decide) ?_
          refine wp_sub iX0_slitLength_19 (by omega) ?_
          refine wp_v2f iX0_slitLength_20 ml_0_53 rfl rfl rfl rfl (c_X0_isSlit L M hM w (i - 1) hw (by omega)) ?_
          refine wp_beq iX0_slitLength_23 (fun c_23 => ?_) (fun c_23 => ?_)
          · refine wp_al0 iX0_slitLength_32 ?_
            refine wp_il1 iX0_slitLength_33 ?_
            refine wp_il3 iX0_slitLength_34 ?_
            refine wp_v2f iX0_slitLength_35 ml_0_56 rfl rfl rfl rfl (c_X0_lengthOfSlitFrom L M hM w i hw (by omega)) ?_
            refine wp_ret iX0_slitLength_38 rfl ?_
            (exact ⟨by rw [hs, hn]; split <;> rfl, rfl⟩)
          · refine wp_ii3 iX0_slitLength_26 (by omega) ?_
            refine wp_goto iX0_slitLength_29 ?_
            exact absurd hn (by omega)
    | succ n ih =>
      intro i hn hi0 hi1 hs
      have hb : bk (uC (cX M) w) i.toNat = if uC (cX M) w (i - 1).toNat = true then bk (uC (cX M) w) (i - 1).toNat else i.toNat := by
        rw [show i.toNat = (i - 1).toNat + 1 by omega]
        rfl
      refine wp_il3 iX0_slitLength_2 ?_
      refine wp_zle iX0_slitLength_3 (fun c_3 => ?_) (fun c_3 => ?_)
      · refine wp_al0 iX0_slitLength_32 ?_
        refine wp_il1 iX0_slitLength_33 ?_
        refine wp_il3 iX0_slitLength_34 ?_
        refine wp_v2f iX0_slitLength_35 ml_0_56 rfl rfl rfl rfl (c_X0_lengthOfSlitFrom L M hM w i hw (by omega)) ?_
        refine wp_ret iX0_slitLength_38 rfl ?_
        (first | (exact absurd hn (by omega)) | (exact ⟨by rw [hs, if_neg c_12], rfl⟩) | (exact ⟨by rw [hs, if_pos c_12, hb, if_neg c_23], rfl⟩))
      · refine wp_al0 iX0_slitLength_6 ?_
        refine wp_il1 iX0_slitLength_7 ?_
        refine wp_il3 iX0_slitLength_8 ?_
        refine wp_v2f iX0_slitLength_9 ml_0_53 rfl rfl rfl rfl (c_X0_isSlit L M hM w i hw (by omega)) ?_
        refine wp_beq iX0_slitLength_12 (fun c_12 => ?_) (fun c_12 => ?_)
        · refine wp_al0 iX0_slitLength_32 ?_
          refine wp_il1 iX0_slitLength_33 ?_
          refine wp_il3 iX0_slitLength_34 ?_
          refine wp_v2f iX0_slitLength_35 ml_0_56 rfl rfl rfl rfl (c_X0_lengthOfSlitFrom L M hM w i hw (by omega)) ?_
          refine wp_ret iX0_slitLength_38 rfl ?_
          (first | (exact absurd hn (by omega)) | (exact ⟨by rw [hs, if_neg c_12], rfl⟩) | (exact ⟨by rw [hs, if_pos c_12, hb, if_neg c_23], rfl⟩))
        · refine wp_al0 iX0_slitLength_15 ?_
          refine wp_il1 iX0_slitLength_16 ?_
          refine wp_il3 iX0_slitLength_17 ?_
          refine wp_ic iX0_slitLength_18 (by decide) ?_
          refine wp_sub iX0_slitLength_19 (by omega) ?_
          refine wp_v2f iX0_slitLength_20 ml_0_53 rfl rfl rfl rfl (c_X0_isSlit L M hM w (i - 1) hw (by omega)) ?_
          refine wp_beq iX0_slitLength_23 (fun c_23 => ?_) (fun c_23 => ?_)
          · refine wp_al0 iX0_slitLength_32 ?_
            refine wp_il1 iX0_slitLength_33 ?_
            refine wp_il3 iX0_slitLength_34 ?_
            refine wp_v2f iX0_slitLength_35 ml_0_56 rfl rfl rfl rfl (c_X0_lengthOfSlitFrom L M hM w i hw (by omega)) ?_
            refine wp_ret iX0_slitLength_38 rfl ?_
            (first | (exact absurd hn (by omega)) | (exact ⟨by rw [hs, if_neg c_12], rfl⟩) | (exact ⟨by rw [hs, if_pos c_12, hb, if_neg c_23], rfl⟩))
          · refine wp_ii3 iX0_slitLength_26 (by omega) ?_
            refine wp_goto iX0_slitLength_29 ?_
            exact ih (i - 1) (by omega) (by omega) (by omega) (by rw [hs, if_pos c_12, hb, if_pos c_23, if_pos c_23])
  refine key _ p rfl (by omega) (by omega) ?_
  unfold slt
  by_cases hu : uC (cX M) w p.toNat = true
  · simp only [hu, if_true]
  · simp only [hu, if_false]
    unfold sf
    split
    · simp
    · rw [rl_no (Or.inr hu)]
      simp
theorem c_X8_addSlit (what told n : Int) (hw : 0 ≤ what ∧ what ≤ 3) (ht : 0 ≤ told ∧ told < 100000) (hn : 0 ≤ n ∧ n < 1000) : cF L 1 mX8_addSlit [.inr 1, .inl what, .inl told, .inl n] M (stp what (M 1 3) n told) := by
  refine cF_of rfl ?_
  change wp _ _ _ 0 [some (.inr 1), some (.inl what), some (.inl told), some (.inl n), none] [] _ _
  refine wp_il1 iX8_addSlit_0 ?_
  refine wp_ic iX8_addSlit_1 (by decide) ?_
  refine wp_cne iX8_addSlit_2 (fun c_2 => ?_) (fun c_2 => ?_)
  · refine wp_il3 iX8_addSlit_11 ?_
    refine wp_il1 iX8_addSlit_12 ?_
    refine wp_zne iX8_addSlit_13 (fun c_13 => ?_) (fun c_13 => ?_)
    · refine wp_al0 iX8_addSlit_20 ?_
      refine wp_gI iX8_addSlit_21 fi_8_23 rfl ?_
      refine wp_cle iX8_addSlit_24 (fun c_24 => ?_) (fun c_24 => ?_)
      · refine wp_ic iX8_addSlit_31 (by decide) ?_
        refine wp_is4 iX8_addSlit_32 ?_
        refine wp_il4 iX8_addSlit_34 ?_
        refine wp_zeq iX8_addSlit_36 (fun c_36 => ?_) (fun c_36 => ?_)
        · refine wp_il2 iX8_addSlit_54 ?_
          refine wp_ret iX8_addSlit_55 rfl ?_
          (refine ⟨?_, rfl⟩; unfold stp; congr 2; repeat' split) <;> omega
        · refine wp_il2 iX8_addSlit_39 ?_
          refine wp_il1 iX8_addSlit_40 ?_
          refine wp_ic iX8_addSlit_41 (by decide) ?_
          refine wp_cne iX8_addSlit_42 (fun c_42 => ?_) (fun c_42 => ?_)
          · refine wp_ic iX8_addSlit_49 (by decide) ?_
            refine wp_add iX8_addSlit_50 (by omega) ?_
            refine wp_goto iX8_addSlit_51 ?_
            refine wp_ret iX8_addSlit_55 rfl ?_
            (refine ⟨?_, rfl⟩; unfold stp; congr 2; repeat' split) <;> omega
          · refine wp_il3 iX8_addSlit_45 ?_
            refine wp_goto iX8_addSlit_46 ?_
            refine wp_add iX8_addSlit_50 (by omega) ?_
            refine wp_goto iX8_addSlit_51 ?_
            refine wp_ret iX8_addSlit_55 rfl ?_
            (refine ⟨?_, rfl⟩; unfold stp; congr 2; repeat' split) <;> omega
      · refine wp_ic iX8_addSlit_27 (by decide) ?_
        refine wp_goto iX8_addSlit_28 ?_
        refine wp_is4 iX8_addSlit_32 ?_
        refine wp_il4 iX8_addSlit_34 ?_
        refine wp_zeq iX8_addSlit_36 (fun c_36 => ?_) (fun c_36 => ?_)
        · refine wp_il2 iX8_addSlit_54 ?_
          refine wp_ret iX8_addSlit_55 rfl ?_
          (refine ⟨?_, rfl⟩; unfold stp; congr 2; repeat' split) <;> omega
        · refine wp_il2 iX8_addSlit_39 ?_
          refine wp_il1 iX8_addSlit_40 ?_
          refine wp_ic iX8_addSlit_41 (by decide) ?_
          refine wp_cne iX8_addSlit_42 (fun c_42 => ?_) (fun c_42 => ?_)
          · refine wp_ic iX8_addSlit_49 (by decide) ?_
            refine wp_add iX8_addSlit_50 (by omega) ?_
            refine wp_goto iX8_addSlit_51 ?_
            refine wp_ret iX8_addSlit_55 rfl ?_
            (refine ⟨?_, rfl⟩; unfold stp; congr 2; repeat' split) <;> omega
          · refine wp_il3 iX8_addSlit_45 ?_
            refine wp_goto iX8_addSlit_46 ?_
            refine wp_add iX8_addSlit_50 (by omega) ?_
            refine wp_goto iX8_addSlit_51 ?_
            refine wp_ret iX8_addSlit_55 rfl ?_
            (refine ⟨?_, rfl⟩; unfold stp; congr 2; repeat' split) <;> omega
    · refine wp_ic iX8_addSlit_16 (by decide) ?_
      refine wp_goto iX8_addSlit_17 ?_
      refine wp_cle iX8_addSlit_24 (fun c_24 => ?_) (fun c_24 => ?_)
      · refine wp_ic iX8_addSlit_31 (by decide) ?_
        refine wp_is4 iX8_addSlit_32 ?_
        refine wp_il4 iX8_addSlit_34 ?_
        refine wp_zeq iX8_addSlit_36 (fun c_36 => ?_) (fun c_36 => ?_)
        · refine wp_il2 iX8_addSlit_54 ?_
          refine wp_ret iX8_addSlit_55 rfl ?_
          (refine ⟨?_, rfl⟩; unfold stp; congr 2; repeat' split) <;> omega
        · refine wp_il2 iX8_addSlit_39 ?_
          refine wp_il1 iX8_addSlit_40 ?_
          refine wp_ic iX8_addSlit_41 (by decide) ?_
          refine wp_cne iX8_addSlit_42 (fun c_42 => ?_) (fun c_42 => ?_)
          · refine wp_ic iX8_addSlit_49 (by decide) ?_
            refine wp_add iX8_addSlit_50 (by omega) ?_
            refine wp_goto iX8_addSlit_51 ?_
            refine wp_ret iX8_addSlit_55 rfl ?_
            (refine ⟨?_, rfl⟩; unfold stp; congr 2; repeat' split) <;> omega
          · refine wp_il3 iX8_addSlit_45 ?_
            refine wp_goto iX8_addSlit_46 ?_
            refine wp_add iX8_addSlit_50 (by omega) ?_
            refine wp_goto iX8_addSlit_51 ?_
            refine wp_ret iX8_addSlit_55 rfl ?_
            (refine ⟨?_, rfl⟩; unfold stp; congr 2; repeat' split) <;> omega
      · refine wp_ic iX8_addSlit_27 (by decide) ?_
        refine wp_goto iX8_addSlit_28 ?_
        refine wp_is4 iX8_addSlit_32 ?_
        refine wp_il4 iX8_addSlit_34 ?_
        refine wp_zeq iX8_addSlit_36 (fun c_36 => ?_) (fun c_36 => ?_)
        · refine wp_il2 iX8_addSlit_54 ?_
          refine wp_ret iX8_addSlit_55 rfl ?_
          (refine ⟨?_, rfl⟩; unfold stp; congr 2; repeat' split) <;> omega
        · refine wp_il2 iX8_addSlit_39 ?_
          refine wp_il1 iX8_addSlit_40 ?_
          refine wp_ic iX8_addSlit_41 (by decide) ?_
          refine wp_cne iX8_addSlit_42 (fun c_42 => ?_) (fun c_42 => ?_)
          · refine wp_ic iX8_addSlit_49 (by decide) ?_
            refine wp_add iX8_addSlit_50 (by omega) ?_
            refine wp_goto iX8_addSlit_51 ?_
            refine wp_ret iX8_addSlit_55 rfl ?_
            (refine ⟨?_, rfl⟩; unfold stp; congr 2; repeat' split) <;> omega
          · refine wp_il3 iX8_addSlit_45 ?_
            refine wp_goto iX8_addSlit_46 ?_
            refine wp_add iX8_addSlit_50 (by omega) ?_
            refine wp_goto iX8_addSlit_51 ?_
            refine wp_ret iX8_addSlit_55 rfl ?_
            (refine ⟨?_, rfl⟩; unfold stp; congr 2; repeat' split) <;> omega
  · refine wp_il2 iX8_addSlit_5 ?_
    refine wp_il3 iX8_addSlit_6 ?_
    refine wp_mx iX8_addSlit_7 ml_8_264 rfl ?_
    refine wp_ret iX8_addSlit_10 rfl ?_
    (refine ⟨?_, rfl⟩; unfold stp; congr 2; repeat' split) <;> omega
end SlX
