/-! ===== the reference's loom ===== -/
def wkM (fac : Nat → Int) (a : Int) (n P : Nat) : Int := sm (fun i => sm (fun j => cwk fac (a + (i : Int)) (j : Int)) P) n
theorem sm_add (f g : Nat → Int) : ∀ n, sm (fun k => f k + g k) n = sm f n + sm g n
  | 0 => rfl
  | n + 1 => by
    have := sm_add f g n
    simp only [sm]
    rw [this]
    omega
theorem sm_zero : ∀ n, sm (fun _ => 0) n = 0
  | 0 => rfl
  | n + 1 => by
    have := sm_zero n
    simp only [sm]
    omega
theorem sm_comm (f : Nat → Nat → Int) (m : Nat) : ∀ n, sm (fun i => sm (fun j => f i j) m) n = sm (fun j => sm (fun i => f i j) n) m
  | 0 => (sm_zero m).symm
  | n + 1 => by
    have := sm_comm f m n
    simp only [sm]
    rw [this, sm_add]
theorem wkM_wb (fac : Nat → Int) (a : Int) (n P : Nat) : wkM fac a n P = wb fac a n P := by
  unfold wkM wb rs
  exact sm_comm (fun i j => cwk fac (a + (i : Int)) (j : Int)) P n
def hLM (M : ab_Me) : Prop := (0 ≤ M 56 12 ∧ M 56 12 ≤ 4) ∧ (∀ k, 0 ≤ M 63 k ∧ M 63 k < 4) ∧ (∀ k, 0 ≤ M 64 k ∧ 0 ≤ M 65 k ∧ M 64 k + M 65 k ≤ 12) ∧ (∀ k, 0 ≤ M 66 k ∧ M 66 k ≤ 1000) ∧ (∀ k, 0 ≤ M 61 k ∧ M 61 k ≤ 20) ∧ ∀ k, -100 ≤ M 85 k ∧ M 85 k ≤ 100
section LoomM
variable (L : Nat) (M : ab_Me)
theorem c_X9_workAt (h : hM M) (w p : Int) (hw : 0 ≤ w ∧ w < 12) (hp : 0 ≤ p ∧ p < 10) : cF L 1 mX9_workAt [.inr 56, .inl w, .inl p] M (cwk (M 58) w p) := by
  have h6 := h.2.2.2.2.2 (12 * p + w).toNat
  refine cF_of rfl ?_
  change wp _ _ _ 0 [some (.inr 56), some (.inl w), some (.inl p)] [] _ _
  refine wp_al0 iX9_workAt_0 ?_
  refine wp_gR iX9_workAt_1 fr_9_20 rfl rfl rfl ?_
  refine wp_bp iX9_workAt_4 (by decide) ?_
  refine wp_il2 iX9_workAt_6 ?_
  refine wp_mul iX9_workAt_7 (by omega) ?_
  refine wp_il1 iX9_workAt_8 ?_
  refine wp_add iX9_workAt_9 (by omega) ?_
  refine wp_ba iX9_workAt_10 rfl rfl (by omega) ?_
  refine wp_zeq iX9_workAt_11 (fun c_11 => ?_) (fun c_11 => ?_)
  · refine wp_ic iX9_workAt_18 (by decide) ?_
    refine wp_ret iX9_workAt_19 rfl ?_
    (refine ⟨?_, rfl⟩; unfold cwk; congr 2; omega)
  · refine wp_ic iX9_workAt_14 (by decide) ?_
    refine wp_goto iX9_workAt_15 ?_
    refine wp_ret iX9_workAt_19 rfl ?_
    (refine ⟨?_, rfl⟩; unfold cwk; congr 2; omega)
theorem c_X9_work (h : hM M) (a n P : Int) (ha : 0 ≤ a) (hn : 0 ≤ n ∧ a + n ≤ 12) (hP : 0 ≤ P ∧ P ≤ 10) : cF L 2 mX9_work [.inr 56, .inl a, .inl n, .inl P] M (wb (M 58) a n.toNat P.toNat) := by
  have h6 := h.2.2.2.2.2
  rw [← wkM_wb]
  refine cF_of rfl ?_
  change wp _ _ _ 0 [some (.inr 56), some (.inl a), some (.inl n), some (.inl P), none, none, none] [] _ _
  refine wp_ic iX9_work_0 (by decide) ?_
  refine wp_is4 iX9_work_1 ?_
  refine wp_il1 iX9_work_3 ?_
  refine wp_is5 iX9_work_4 ?_
  have hin : ∀ i : Nat, 0 ≤ sm (fun j => cwk (M 58) (a + (i : Int)) (j : Int)) P.toNat ∧ sm (fun j => cwk (M 58) (a + (i : Int)) (j : Int)) P.toNat ≤ 30 := fun i => by
    have := sm_bd (fun j : Nat => cwk (M 58) (a + (i : Int)) (j : Int)) 3 (fun j => by have := cwk_bd (M 58) h6 (a + (i : Int)) (j : Int); omega) P.toNat
    omega
  have key : ∀ (j : Nat) (w acc : Int), (a + n - w).toNat = j → a ≤ w → w ≤ a + n → acc = wkM (M 58) a (w - a).toNat P.toNat → ∀ v6 : Option ab_V, wp L 1 mX9_work 6 [some (.inr 56), some (.inl a), some (.inl n), some (.inl P), some (.inl acc), some (.inl w), v6] [] M (fun r M1 => r = some (.inl (wkM (M 58) a n.toNat P.toNat)) ∧ M1 = M) := by
    intro j
    induction j using Nat.strongRecOn with
    | ind j ih =>
      intro w acc hj hw0 hw1 hacc v6
      have hb : 0 ≤ wkM (M 58) a (w - a).toNat P.toNat ∧ wkM (M 58) a (w - a).toNat P.toNat ≤ 30 * (((w - a).toNat : Nat) : Int) := sm_bd _ 30 hin (w - a).toNat
      refine wp_il5 iX9_work_6 ?_
      refine wp_il1 iX9_work_8 ?_
      refine wp_il2 iX9_work_9 ?_
      refine wp_add iX9_work_10 (by omega) ?_
      refine wp_cge iX9_work_11 (fun c_11 => ?_) (fun c_11 => ?_)
      · refine wp_il4 iX9_work_48 ?_
        refine wp_ret iX9_work_50 rfl ?_
        exact ⟨by rw [hacc, show w - a = n by omega], rfl⟩
      · refine wp_ic iX9_work_14 (by decide) ?_
        refine wp_is6 iX9_work_15 ?_
        have key2 : ∀ (q : Nat) (p a2 : Int), (P - p).toNat = q → 0 ≤ p → p ≤ P → a2 = acc + sm (fun j => cwk (M 58) w (j : Int)) p.toNat → wp L 1 mX9_work 17 [some (.inr 56), some (.inl a), some (.inl n), some (.inl P), some (.inl a2), some (.inl w), some (.inl p)] [] M (fun r M1 => r = some (.inl (wkM (M 58) a n.toNat P.toNat)) ∧ M1 = M) := by
          intro q
          induction q using Nat.strongRecOn with
          | ind q ih2 =>
            intro p a2 hq hp0 hp1 ha2
            have hb2 := sm_bd (fun j : Nat => cwk (M 58) w (j : Int)) 3 (fun j => by have := cwk_bd (M 58) h6 w (j : Int); omega) p.toNat
            have hc2 := cwk_bd (M 58) h6 w p
            have hs := sm_up (fun j : Nat => cwk (M 58) w (j : Int)) hp0
            simp only [toNat_cast hp0] at hs
            refine wp_il6 iX9_work_17 ?_
            refine wp_il3 iX9_work_19 ?_
            refine wp_cge iX9_work_20 (fun c_20 => ?_) (fun c_20 => ?_)
            · refine wp_ii5 iX9_work_42 (by omega) ?_
              refine wp_goto iX9_work_45 ?_
              refine ih _ (by omega) (w + 1) a2 rfl (by omega) (by omega) ?_ _
              rw [ha2, hacc, show p = P by omega, show (w + 1 - a).toNat = (w - a).toNat + 1 by omega]
              show _ = wkM (M 58) a (w - a).toNat P.toNat + sm (fun j => cwk (M 58) (a + (((w - a).toNat : Nat) : Int)) (j : Int)) P.toNat
              rw [toNat_cast (by omega), show a + (w - a) = w by omega]
            · refine wp_il4 iX9_work_23 ?_
              refine wp_al0 iX9_work_25 ?_
              refine wp_il5 iX9_work_26 ?_
              refine wp_il6 iX9_work_28 ?_
              refine wp_v2f iX9_work_30 ml_9_177 rfl rfl rfl rfl (c_X9_workAt L M h w p (by omega) (by omega)) ?_
              refine wp_add iX9_work_33 (by omega) ?_
              refine wp_is4 iX9_work_34 ?_
              refine wp_ii6 iX9_work_36 (by omega) ?_
              refine wp_goto iX9_work_39 ?_
              exact ih2 _ (by omega) (p + 1) _ rfl (by omega) (by omega) (by rw [hs, ha2]; omega)
        exact key2 _ 0 acc rfl (by omega) (by omega) (by simp [sm])
  exact key _ a 0 rfl (by omega) (by omega) (by rw [show (a - a).toNat = 0 by omega]; rfl) _
theorem c_X9_allOf (h : hM M) (hl : hLM M) (s : Int) (hs : 0 ≤ s ∧ s < 4) : cF L 3 mX9_allOf [.inr 56, .inl s] M (wb (M 58) (M 64 s.toNat) (M 65 s.toNat).toNat (M 56 1).toNat) := by
  obtain ⟨h1, h2, h3, h4, h5, h6⟩ := id h
  have g := hl.2.2.1 s.toNat
  refine cF_of rfl ?_
  change wp _ _ _ 0 [some (.inr 56), some (.inl s)] [] _ _
  refine wp_al0 iX9_allOf_0 ?_
  refine wp_al0 iX9_allOf_1 ?_
  refine wp_gR iX9_allOf_2 fr_9_45 rfl rfl rfl ?_
  refine wp_il1 iX9_allOf_5 ?_
  refine wp_ia iX9_allOf_6 rfl (by omega) ?_
  refine wp_al0 iX9_allOf_7 ?_
  refine wp_gR iX9_allOf_8 fr_9_48 rfl rfl rfl ?_
  refine wp_il1 iX9_allOf_11 ?_
  refine wp_ia iX9_allOf_12 rfl (by omega) ?_
  refine wp_al0 iX9_allOf_13 ?_
  refine wp_gI iX9_allOf_14 fi_9_13 rfl ?_
  refine wp_v3f iX9_allOf_17 ml_9_183 rfl rfl rfl rfl (c_X9_work L M h _ _ _ g.1 g.2 (by omega)) ?_
  refine wp_ret iX9_allOf_20 rfl ?_
  (exact ⟨rfl, rfl⟩)
def uWM (M : ab_Me) (s : Int) (j : Nat) : Bool := decide (wb (M 58) (M 64 s.toNat) (M 65 s.toNat).toNat (j + 1) ≤ M 66 s.toNat)
def whM (M : ab_Me) (s : Int) : Int := rl (uWM M s) (M 56 1).toNat 0
theorem whM_bd (h : hM M) (s : Int) : 0 ≤ whM M s ∧ whM M s ≤ 10 := by
  have := rl_bd (uWM M s) (M 56 1).toNat 0
  obtain ⟨h1, h2, h3, h4, h5, h6⟩ := id h
  unfold whM
  omega
theorem c_X9_wholeOf (h : hM M) (hl : hLM M) (s : Int) (hs : 0 ≤ s ∧ s < 4) : cF L 3 mX9_wholeOf [.inr 56, .inl s] M (whM M s) := by
  obtain ⟨h1, h2, h3, h4, h5, h6⟩ := id h
  have g := hl.2.2.1 s.toNat
  refine cF_of rfl ?_
  change wp _ _ _ 0 [some (.inr 56), some (.inl s), none] [] _ _
  refine wp_ic iX9_wholeOf_0 (by decide) ?_
  refine wp_is2 iX9_wholeOf_1 ?_
  have key : ∀ (n : Nat) (i : Int), (M 56 1 - i).toNat = n → 0 ≤ i → i ≤ M 56 1 → whM M s = i + rl (uWM M s) n i.toNat → wp L 2 mX9_wholeOf 2 [some (.inr 56), some (.inl s), some (.inl i)] [] M (fun r M1 => r = some (.inl (whM M s)) ∧ M1 = M) := by
    intro n
    induction n with
    | zero =>
      intro i hn hi0 hi1 hw
      refine wp_il2 iX9_wholeOf_2 ?_
      refine wp_al0 iX9_wholeOf_3 ?_
      refine wp_gI iX9_wholeOf_4 fi_9_13 rfl ?_
      refine wp_cge iX9_wholeOf_7 (fun c_7 => ?_) (fun c_7 => ?_)
      · refine wp_il2 iX9_wholeOf_44 ?_
        refine wp_ret iX9_wholeOf_45 rfl ?_
        (exact ⟨by rw [hw]; simp [rl], rfl⟩)
      · refine wp_al0 iX9_wholeOf_10 ?_
        refine wp_al0 iX9_wholeOf_11 ?_
        refine wp_gR iX9_wholeOf_12 fr_9_45 rfl rfl rfl ?_
        refine wp_il1 iX9_wholeOf_15 ?_
        refine wp_ia iX9_wholeOf_16 rfl (by omega) ?_
        refine wp_al0 iX9_wholeOf_17 ?_
        refine wp_gR iX9_wholeOf_18 fr_9_48 rfl rfl rfl ?_
        refine wp_il1 iX9_wholeOf_21 ?_
        refine wp_ia iX9_wholeOf_22 rfl (by omega) ?_
        refine wp_il2 iX9_wholeOf_23 ?_
        refine wp_ic iX9_wholeOf_24 (by decide) ?_
        refine wp_add iX9_wholeOf_25 (by omega) ?_
        refine wp_v3f iX9_wholeOf_26 ml_9_183 rfl rfl rfl rfl (c_X9_work L M h _ _ (i + 1) g.1 g.2 (by omega)) ?_
        refine wp_al0 iX9_wholeOf_29 ?_
        refine wp_gR iX9_wholeOf_30 fr_9_51 rfl rfl rfl ?_
        refine wp_il1 iX9_wholeOf_33 ?_
        refine wp_ia iX9_wholeOf_34 rfl (by omega) ?_
        refine wp_cgt iX9_wholeOf_35 (fun c_35 => ?_) (fun c_35 => ?_)
        · refine wp_il2 iX9_wholeOf_44 ?_
          refine wp_ret iX9_wholeOf_45 rfl ?_
          (exact ⟨by rw [hw]; simp [rl], rfl⟩)
        · refine wp_ii2 iX9_wholeOf_38 (by omega) ?_
          refine wp_goto iX9_wholeOf_41 ?_
          exact absurd hn (by omega)
    | succ n ih =>
      intro i hn hi0 hi1 hw
      have hu : (uWM M s i.toNat = true) ↔ wb (M 58) (M 64 s.toNat) (M 65 s.toNat).toNat (i + 1).toNat ≤ M 66 s.toNat := by
        unfold uWM
        rw [show (i + 1).toNat = i.toNat + 1 by omega]
        simp
      refine wp_il2 iX9_wholeOf_2 ?_
      refine wp_al0 iX9_wholeOf_3 ?_
      refine wp_gI iX9_wholeOf_4 fi_9_13 rfl ?_
      refine wp_cge iX9_wholeOf_7 (fun c_7 => ?_) (fun c_7 => ?_)
      · refine wp_il2 iX9_wholeOf_44 ?_
        refine wp_ret iX9_wholeOf_45 rfl ?_
        (first | (exact ⟨by rw [hw, rl_no (Or.inr (fun q => absurd (hu.mp q) (by omega)))]; simp, rfl⟩) | (exfalso; omega))
      · refine wp_al0 iX9_wholeOf_10 ?_
        refine wp_al0 iX9_wholeOf_11 ?_
        refine wp_gR iX9_wholeOf_12 fr_9_45 rfl rfl rfl ?_
        refine wp_il1 iX9_wholeOf_15 ?_
        refine wp_ia iX9_wholeOf_16 rfl (by omega) ?_
        refine wp_al0 iX9_wholeOf_17 ?_
        refine wp_gR iX9_wholeOf_18 fr_9_48 rfl rfl rfl ?_
        refine wp_il1 iX9_wholeOf_21 ?_
        refine wp_ia iX9_wholeOf_22 rfl (by omega) ?_
        refine wp_il2 iX9_wholeOf_23 ?_
        refine wp_ic iX9_wholeOf_24 (by decide) ?_
        refine wp_add iX9_wholeOf_25 (by omega) ?_
        refine wp_v3f iX9_wholeOf_26 ml_9_183 rfl rfl rfl rfl (c_X9_work L M h _ _ (i + 1) g.1 g.2 (by omega)) ?_
        refine wp_al0 iX9_wholeOf_29 ?_
        refine wp_gR iX9_wholeOf_30 fr_9_51 rfl rfl rfl ?_
        refine wp_il1 iX9_wholeOf_33 ?_
        refine wp_ia iX9_wholeOf_34 rfl (by omega) ?_
        refine wp_cgt iX9_wholeOf_35 (fun c_35 => ?_) (fun c_35 => ?_)
        · refine wp_il2 iX9_wholeOf_44 ?_
          refine wp_ret iX9_wholeOf_45 rfl ?_
          (first | (exact ⟨by rw [hw, rl_no (Or.inr (fun q => absurd (hu.mp q) (by omega)))]; simp, rfl⟩) | (exfalso; omega))
        · refine wp_ii2 iX9_wholeOf_38 (by omega) ?_
          refine wp_goto iX9_wholeOf_41 ?_
          exact ih (i + 1) (by omega) (by omega) (by omega) (by rw [hw, rl_yes (hu.mpr (by assumption)), show (i + 1).toNat = i.toNat + 1 by omega]; omega)
  exact key _ 0 rfl (by omega) (by omega) (by unfold whM; simp)
def mWhl (M : ab_Me) : ab_Me := ab_rw M 85 (fun k => if (k : Int) < M 56 12 then whM M k else M 85 k)
theorem c_X9_findWhole (h : hM M) (hl : hLM M) : cV L 4 mX9_findWhole [.inr 56] M (mWhl M) := by
  have hh := hl.1
  refine cV_of rfl ?_
  change wp _ _ _ 0 [some (.inr 56), none] [] _ _
  refine wp_ic iX9_findWhole_0 (by decide) ?_
  refine wp_is1 iX9_findWhole_1 ?_
  have key : ∀ (n : Nat) (i : Int), (M 56 12 - i).toNat = n → 0 ≤ i → i ≤ M 56 12 → wp L 3 mX9_findWhole 2 [some (.inr 56), some (.inl i)] [] (ab_rw M 85 (fun k => if (k : Int) < i then whM M k else M 85 k)) (fun r M1 => r = none ∧ M1 = mWhl M) := by
    intro n
    induction n using Nat.strongRecOn with
    | ind n ih =>
      intro i hn hi0 hi1
      have e11 : (ab_rw M 85 (fun k => if (k : Int) < i then whM M k else M 85 k)) 56 12 = M 56 12 := rfl
      refine wp_il1 iX9_findWhole_2 ?_
      refine wp_al0 iX9_findWhole_3 ?_
      refine wp_gI iX9_findWhole_4 fi_9_115 rfl ?_
      refine wp_cge iX9_findWhole_7 (fun c_7 => ?_) (fun c_7 => ?_)
      · refine wp_retv iX9_findWhole_27 rfl ?_
        exact ⟨rfl, by unfold mWhl; rw [show i = M 56 12 by omega]⟩
      · have hlN : hLM (ab_rw M 85 (fun k => if (k : Int) < i then whM M k else M 85 k)) := by
          refine ⟨hl.1, hl.2.1, hl.2.2.1, hl.2.2.2.1, hl.2.2.2.2.1, fun k => ?_⟩
          have b1 := whM_bd M h k
          have b2 := hl.2.2.2.2.2 k
          rw [ab_rw_self]
          split <;> omega
        have hw : cF L 3 mX9_wholeOf [.inr 56, .inl i] (ab_rw M 85 (fun k => if (k : Int) < i then whM M k else M 85 k)) (whM M i) := c_X9_wholeOf L (ab_rw M 85 (fun k => if (k : Int) < i then whM M k else M 85 k)) h hlN i (by omega)
        refine wp_al0 iX9_findWhole_10 ?_
        refine wp_gR iX9_findWhole_11 fr_9_108 rfl rfl rfl ?_
        refine wp_il1 iX9_findWhole_14 ?_
        refine wp_al0 iX9_findWhole_15 ?_
        refine wp_il1 iX9_findWhole_16 ?_
        refine wp_v1f iX9_findWhole_17 ml_9_205 rfl rfl rfl rfl (hw) ?_
        refine wp_is iX9_findWhole_20 rfl rfl (by omega) ?_
        rw [up_row, u1_fill _ _ i hi0 _ (by rw [toNat_cast hi0])]
        refine wp_ii1 iX9_findWhole_21 (by omega) ?_
        refine wp_goto iX9_findWhole_24 ?_
        exact ih _ (by omega) (i + 1) rfl (by omega) (by omega)
  have k0 := key _ 0 rfl (by omega) (by omega)
  rw [fill_n, rw_self] at k0
  exact k0
theorem c_X9_isAhead (hl : hLM M) (s : Int) (hs : 0 ≤ s ∧ s < M 56 12) : cF L 1 mX9_isAhead [.inr 56, .inl s] M (if (0 < s ∧ M 56 11 ≤ M 85 s.toNat - M 85 (s - 1).toNat) ∨ (s < M 56 12 - 1 ∧ M 56 11 ≤ M 85 s.toNat - M 85 (s + 1).toNat) then 1 else 0) := by
  have hh := hl.1
  have w0 := hl.2.2.2.2.2 s.toNat
  have w1 := hl.2.2.2.2.2 (s - 1).toNat
  have w2 := hl.2.2.2.2.2 (s + 1).toNat
  refine cF_of rfl ?_
  change wp _ _ _ 0 [some (.inr 56), some (.inl s)] [] _ _
  refine wp_il1 iX9_isAhead_0 ?_
  refine wp_zle iX9_isAhead_1 (fun c_1 => ?_) (fun c_1 => ?_)
  · refine wp_il1 iX9_isAhead_26 ?_
    refine wp_ic iX9_isAhead_27 (by decide) ?_
    refine wp_add iX9_isAhead_28 (by omega) ?_
    refine wp_al0 iX9_isAhead_29 ?_
    refine wp_gI iX9_isAhead_30 fi_9_115 rfl ?_
    refine wp_cge iX9_isAhead_33 (fun c_33 => ?_) (fun c_33 => ?_)
    · refine wp_ic iX9_isAhead_62 (by decide) ?_
      refine wp_retb iX9_isAhead_63 rfl (by decide) ?_
      (refine ⟨?_, rfl⟩; split <;> first | rfl | (exfalso; omega))
    · refine wp_al0 iX9_isAhead_36 ?_
      refine wp_gR iX9_isAhead_37 fr_9_108 rfl rfl rfl ?_
      refine wp_il1 iX9_isAhead_40 ?_
      refine wp_ia iX9_isAhead_41 rfl (by omega) ?_
      refine wp_al0 iX9_isAhead_42 ?_
      refine wp_gR iX9_isAhead_43 fr_9_108 rfl rfl rfl ?_
      refine wp_il1 iX9_isAhead_46 ?_
      refine wp_ic iX9_isAhead_47 (by decide) ?_
      refine wp_add iX9_isAhead_48 (by omega) ?_
      refine wp_ia iX9_isAhead_49 rfl (by omega) ?_
      refine wp_sub iX9_isAhead_50 (by omega) ?_
      refine wp_al0 iX9_isAhead_51 ?_
      refine wp_gI iX9_isAhead_52 fi_9_39 rfl ?_
      refine wp_clt iX9_isAhead_55 (fun c_55 => ?_) (fun c_55 => ?_)
      · refine wp_ic iX9_isAhead_62 (by decide) ?_
        refine wp_retb iX9_isAhead_63 rfl (by decide) ?_
        (refine ⟨?_, rfl⟩; split <;> first | rfl | (exfalso; omega))
      · refine wp_ic iX9_isAhead_58 (by decide) ?_
        refine wp_goto iX9_isAhead_59 ?_
        refine wp_retb iX9_isAhead_63 rfl (by decide) ?_
        (refine ⟨?_, rfl⟩; split <;> first | rfl | (exfalso; omega))
  · refine wp_al0 iX9_isAhead_4 ?_
    refine wp_gR iX9_isAhead_5 fr_9_108 rfl rfl rfl ?_
    refine wp_il1 iX9_isAhead_8 ?_
    refine wp_ia iX9_isAhead_9 rfl (by omega) ?_
    refine wp_al0 iX9_isAhead_10 ?_
    refine wp_gR iX9_isAhead_11 fr_9_108 rfl rfl rfl ?_
    refine wp_il1 iX9_isAhead_14 ?_
    refine wp_ic iX9_isAhead_15 (by decide) ?_
    refine wp_sub iX9_isAhead_16 (by omega) ?_
    refine wp_ia iX9_isAhead_17 rfl (by omega) ?_
    refine wp_sub iX9_isAhead_18 (by omega) ?_
    refine wp_al0 iX9_isAhead_19 ?_
    refine wp_gI iX9_isAhead_20 fi_9_39 rfl ?_
    refine wp_cge iX9_isAhead_23 (fun c_23 => ?_) (fun c_23 => ?_)
    · refine wp_ic iX9_isAhead_58 (by decide) ?_
      refine wp_goto iX9_isAhead_59 ?_
      refine wp_retb iX9_isAhead_63 rfl (by decide) ?_
      (refine ⟨?_, rfl⟩; split <;> first | rfl | (exfalso; omega))
    · refine wp_il1 iX9_isAhead_26 ?_
      refine wp_ic iX9_isAhead_27 (by decide) ?_
      refine wp_add iX9_isAhead_28 (by omega) ?_
      refine wp_al0 iX9_isAhead_29 ?_
      refine wp_gI iX9_isAhead_30 fi_9_115 rfl ?_
      refine wp_cge iX9_isAhead_33 (fun c_33 => ?_) (fun c_33 => ?_)
      · refine wp_ic iX9_isAhead_62 (by decide) ?_
        refine wp_retb iX9_isAhead_63 rfl (by decide) ?_
        (refine ⟨?_, rfl⟩; split <;> first | rfl | (exfalso; omega))
      · refine wp_al0 iX9_isAhead_36 ?_
        refine wp_gR iX9_isAhead_37 fr_9_108 rfl rfl rfl ?_
        refine wp_il1 iX9_isAhead_40 ?_
        refine wp_ia iX9_isAhead_41 rfl (by omega) ?_
        refine wp_al0 iX9_isAhead_42 ?_
        refine wp_gR iX9_isAhead_43 fr_9_108 rfl rfl rfl ?_
        refine wp_il1 iX9_isAhead_46 ?_
        refine wp_ic iX9_isAhead_47 (by decide) ?_
        refine wp_add iX9_isAhead_48 (by omega) ?_
        refine wp_ia iX9_isAhead_49 rfl (by omega) ?_
        refine wp_sub iX9_isAhead_50 (by omega) ?_
        refine wp_al0 iX9_isAhead_51 ?_
        refine wp_gI iX9_isAhead_52 fi_9_39 rfl ?_
        refine wp_clt iX9_isAhead_55 (fun c_55 => ?_) (fun c_55 => ?_)
        · refine wp_ic iX9_isAhead_62 (by decide) ?_
          refine wp_retb iX9_isAhead_63 rfl (by decide) ?_
          (refine ⟨?_, rfl⟩; split <;> first | rfl | (exfalso; omega))
        · refine wp_ic iX9_isAhead_58 (by decide) ?_
          refine wp_goto iX9_isAhead_59 ?_
          refine wp_retb iX9_isAhead_63 rfl (by decide) ?_
          (refine ⟨?_, rfl⟩; split <;> first | rfl | (exfalso; omega))
end LoomM
