/-! ===== DEALING of the class: the sets are weighed ===== -/
theorem p5_nn (k : Nat) : 0 ≤ p5 k := Int.natCast_nonneg _
theorem p5_le {k : Nat} (h : k ≤ 7) : p5 k ≤ 78125 := by
  have h1 : 5 ^ k ≤ 5 ^ 7 := Nat.pow_le_pow_right (by decide) h
  have h1 : 5 ^ k ≤ 78125 := h1
  unfold p5
  omega
theorem p5_sum {n : Nat} (h : n ≤ 8) : sm p5 n ≤ 97656 := by
  have h1 := sm_mono p5 p5_nn n (8 - n)
  rw [show n + (8 - n) = 8 by omega] at h1
  have h2 : sm p5 8 = 97656 := by decide
  omega
theorem bs5_bd {n : Nat} (h : n ≤ 8) (S : Nat) : 0 ≤ bs p5 n S ∧ bs p5 n S ≤ 97656 :=
  ⟨bs_nn (fun k _ => p5_nn k) S, Int.le_trans (bs_le (fun k _ => p5_nn k) S) (p5_sum h)⟩
theorem sm_up_to {f : Nat → Int} {z : Int} : ∀ n : Nat, (∀ k, k < n → f k ≤ z) → sm f n ≤ z * n
  | 0, _ => by simp [sm]
  | n + 1, h => by
    have h1 := sm_up_to n (fun k hk => h k (by omega))
    have h2 := h n (by omega)
    show sm f n + f n ≤ z * ((n + 1 : Nat) : Int)
    rw [Int.natCast_add, Int.mul_add]
    omega
theorem bsy_bd {n : Nat} {y : Nat → Int} (h : n ≤ 8) (hy : ∀ k, k < n → 0 ≤ y k ∧ y k ≤ 720) (S : Nat) : 0 ≤ bs y n S ∧ bs y n S ≤ 5760 := by
  refine ⟨bs_nn (fun k hk => (hy k hk).1) S, Int.le_trans (bs_le (fun k hk => (hy k hk).1) S) ?_⟩
  have := sm_up_to n (fun k hk => (hy k hk).2)
  omega
theorem two_le {j : Nat} (h : j ≤ 8) : 1 ≤ 2 ^ j ∧ 2 ^ j ≤ 256 := by
  have h1 : 2 ^ j ≤ 2 ^ 8 := Nat.pow_le_pow_right (by decide) h
  have h2 : 0 < 2 ^ j := Nat.pow_pos (by decide)
  exact ⟨h2, h1⟩
def wgI (n : Nat) (y : Nat → Int) (M : ab_Me) (t : Nat) (N : ab_Me) : Prop := (∀ a, a ≠ 45 → a ≠ 46 → a ≠ 47 → N a = M a) ∧ ∀ S, S < t → N 45 S = bs y n S ∧ N 46 S = bs p5 n S ∧ N 47 S = -4 * bs p5 n S
section WeighX
variable (L : Nat) (M : ab_Me) {n : Nat} {y : Nat → Int}
theorem wgI_up {N : ab_Me} {s j : Nat} (hj : j < n) (hs : s < 2 ^ j) (h : wgI n y M (2 ^ j + s) N) : wgI n y M (2 ^ j + (s + 1)) (ab_up (ab_up (ab_up N 45 (s + 2 ^ j) (bs y n s + y j)) 46 (s + 2 ^ j) (bs p5 n s + p5 j)) 47 (s + 2 ^ j) (-4 * (bs p5 n s + p5 j))) := by
  refine ⟨fun a h1 h2 h3 => ?_, fun S hS => ?_⟩
  · rw [ab_up_ne _ _ _ h3, ab_up_ne _ _ _ h2, ab_up_ne _ _ _ h1]
    exact h.1 a h1 h2 h3
  · rw [ab_up_ne _ _ _ (show (45 : Nat) ≠ 47 by decide), ab_up_ne _ _ _ (show (45 : Nat) ≠ 46 by decide), ab_up_self, ab_up_ne _ _ _ (show (46 : Nat) ≠ 47 by decide), ab_up_self, ab_up_self, ab_up_ne N _ _ (show (46 : Nat) ≠ 45 by decide), ab_up_ne _ _ _ (show (47 : Nat) ≠ 46 by decide), ab_up_ne _ _ _ (show (47 : Nat) ≠ 45 by decide)]
    by_cases z : S = s + 2 ^ j
    · subst z
      rw [ab_u1_self, ab_u1_self, ab_u1_self, bs_add y n s j hs hj, bs_add p5 n s j hs hj]
      exact ⟨rfl, rfl, rfl⟩
    · rw [ab_u1_ne _ _ z, ab_u1_ne _ _ z, ab_u1_ne _ _ z]
      exact h.2 S (by omega)
theorem c_X1_weighSets (hn : n ≤ 8) (hC : M 41 0 = (n : Int)) (hi : ∀ i, i < n → 0 ≤ M 42 i ∧ M 42 i < 120 ∧ M 38 (M 42 i).toNat = y (n - 1 - i)) (hy : ∀ k, k < n → 0 ≤ y k ∧ y k ≤ 720) : ct L 1 mX1_weighSets [.inr 41, .inr 34] M (fun r N => r = none ∧ wgI n y M (2 ^ n) N) := by
  refine ct_of rfl ?_
  change wp _ _ _ 0 [some (.inr 41), some (.inr 34), none, none, none, none, none] [] _ _
  refine wp_al0 iX1_weighSets_0 ?_
  refine wp_gR iX1_weighSets_1 fr_1_28 rfl rfl rfl ?_
  refine wp_ic iX1_weighSets_4 (by decide) ?_
  refine wp_ic iX1_weighSets_5 (by decide) ?_
  refine wp_is iX1_weighSets_6 rfl rfl (by omega) ?_
  refine wp_al0 iX1_weighSets_7 ?_
  refine wp_gR iX1_weighSets_8 fr_1_31 rfl rfl rfl ?_
  refine wp_ic iX1_weighSets_11 (by decide) ?_
  refine wp_ic iX1_weighSets_12 (by decide) ?_
  refine wp_is iX1_weighSets_13 rfl rfl (by omega) ?_
  refine wp_al0 iX1_weighSets_14 ?_
  refine wp_gR iX1_weighSets_15 fr_1_34 rfl rfl rfl ?_
  refine wp_ic iX1_weighSets_18 (by decide) ?_
  refine wp_ic iX1_weighSets_19 (by decide) ?_
  refine wp_is iX1_weighSets_20 rfl rfl (by omega) ?_
  refine wp_ic iX1_weighSets_21 (by decide) ?_
  refine wp_is2 iX1_weighSets_22 ?_
  refine wp_al0 iX1_weighSets_23 ?_
  refine wp_gI iX1_weighSets_24 fi_1_9 rfl ?_
  rw [ab_up_ne _ _ _ (show (41 : Nat) ≠ 47 by decide), ab_up_ne _ _ _ (show (41 : Nat) ≠ 46 by decide), ab_up_ne _ _ _ (show (41 : Nat) ≠ 45 by decide), hC]
  refine wp_ic iX1_weighSets_27 (by decide) ?_
  refine wp_sub iX1_weighSets_28 (by omega) ?_
  refine wp_is3 iX1_weighSets_29 ?_
  have key : ∀ (m j : Nat) (N : ab_Me), n - j = m → j ≤ n → wgI n y M (2 ^ j) N → ∀ v4 v5 v6 : Option ab_V, wp L 0 mX1_weighSets 30 [some (.inr 41), some (.inr 34), some (.inl (p5 j)), some (.inl ((n : Int) - 1 - (j : Int))), v4, v5, v6] [] N (fun r N => r = none ∧ wgI n y M (2 ^ n) N) := by
    intro m
    induction m using Nat.strongRecOn with
    | ind m ih =>
      intro j N hm hj hI v4 v5 v6
      refine wp_il3 iX1_weighSets_30 ?_
      refine wp_zlt iX1_weighSets_31 (fun c_31 => ?_) (fun c_31 => ?_)
      · have e : j = n := by omega
        subst e
        refine wp_retv iX1_weighSets_138 rfl ?_
        exact ⟨rfl, hI⟩
      · have hjn : j < n := by omega
        have hp := two_le (j := j) (by omega)
        have hp7 := p5_le (k := j) (by omega)
        have hp8 : 2 ^ j ≤ 2 ^ 7 := Nat.pow_le_pow_right (by decide) (by omega)
        have hp8 : 2 ^ j ≤ 128 := hp8
        have hp0 := p5_nn j
        refine wp_ic iX1_weighSets_34 (by decide) ?_
        refine wp_al0 iX1_weighSets_35 ?_
        refine wp_gI iX1_weighSets_36 fi_1_9 rfl ?_
        rw [hI.1 41 (by decide) (by decide) (by decide), hC]
        refine wp_ic iX1_weighSets_39 (by decide) ?_
        refine wp_sub iX1_weighSets_40 (by omega) ?_
        refine wp_il3 iX1_weighSets_41 ?_
        refine wp_sub iX1_weighSets_42 (by omega) ?_
        rw [show (n : Int) - 1 - ((n : Int) - 1 - (j : Int)) = (j : Int) by omega]
        refine wp_shl iX1_weighSets_43 (bb_shl j (by omega)) ?_
        refine wp_is4 iX1_weighSets_44 ?_
        refine wp_ic iX1_weighSets_46 (by decide) ?_
        refine wp_is5 iX1_weighSets_47 ?_
        have key2 : ∀ (m2 s : Nat) (N : ab_Me), 2 ^ j - s = m2 → s ≤ 2 ^ j → wgI n y M (2 ^ j + s) N → ∀ v6 : Option ab_V, wp L 0 mX1_weighSets 49 [some (.inr 41), some (.inr 34), some (.inl (p5 j)), some (.inl ((n : Int) - 1 - (j : Int))), some (.inl ((2 ^ j : Nat) : Int)), some (.inl (s : Int)), v6] [] N (fun r N => r = none ∧ wgI n y M (2 ^ n) N) := by
          intro m2
          induction m2 using Nat.strongRecOn with
          | ind m2 ih2 =>
            intro s N hm2 hs hI v6
            refine wp_il5 iX1_weighSets_49 ?_
            refine wp_il4 iX1_weighSets_51 ?_
            refine wp_cge iX1_weighSets_53 (fun c_53 => ?_) (fun c_53 => ?_)
            · have e : s = 2 ^ j := by omega
              refine wp_il2 iX1_weighSets_128 ?_
              refine wp_ic iX1_weighSets_129 (by decide) ?_
              refine wp_mul iX1_weighSets_130 (by omega) ?_
              refine wp_is2 iX1_weighSets_131 ?_
              refine wp_ii3 iX1_weighSets_132 (by omega) ?_
              refine wp_goto iX1_weighSets_135 ?_
              rw [show p5 j * 5 = p5 (j + 1) by unfold p5; rw [Nat.pow_succ]; omega, show (n : Int) - 1 - (j : Int) + -1 = (n : Int) - 1 - ((j + 1 : Nat) : Int) by omega]
              refine ih _ (by omega) (j + 1) N rfl (by omega) ?_ _ _ _
              rw [Nat.pow_succ, show 2 ^ j * 2 = 2 ^ j + s by omega]
              exact hI
            · have hlt : s < 2 ^ j := by omega
              have hbs := hI.2 s (by omega)
              have h5 := bs5_bd hn s
              have hyb := bsy_bd hn hy s
              have hii := hi (n - 1 - j) (by omega)
              have hyj := hy j hjn
              rw [show n - 1 - (n - 1 - j) = j by omega] at hii
              have ti : ((n : Int) - 1 - (j : Int)).toNat = n - 1 - j := by omega
              refine wp_il5 iX1_weighSets_56 ?_
              refine wp_il4 iX1_weighSets_58 ?_
              refine wp_add iX1_weighSets_60 (by omega) ?_
              refine wp_is6 iX1_weighSets_61 ?_
              refine wp_al0 iX1_weighSets_63 ?_
              refine wp_gR iX1_weighSets_64 fr_1_28 rfl rfl rfl ?_
              refine wp_il6 iX1_weighSets_67 ?_
              refine wp_al0 iX1_weighSets_69 ?_
              refine wp_gR iX1_weighSets_70 fr_1_28 rfl rfl rfl ?_
              refine wp_il5 iX1_weighSets_73 ?_
              refine wp_ia iX1_weighSets_75 rfl (by omega) ?_
              rw [show ((s : Int)).toNat = s by omega, hbs.1]
              refine wp_al1 iX1_weighSets_76 ?_
              refine wp_gR iX1_weighSets_77 fr_1_74 rfl rfl rfl ?_
              refine wp_al0 iX1_weighSets_80 ?_
              refine wp_gR iX1_weighSets_81 fr_1_15 rfl rfl rfl ?_
              refine wp_il3 iX1_weighSets_84 ?_
              refine wp_ia iX1_weighSets_85 rfl (by omega) ?_
              rw [ti, hI.1 42 (by decide) (by decide) (by decide)]
              refine wp_ia iX1_weighSets_86 rfl (by omega) ?_
              rw [hI.1 38 (by decide) (by decide) (by decide), hii.2.2]
              have tw : ((s : Int) + ((2 ^ j : Nat) : Int)).toNat = s + 2 ^ j := by omega
              refine wp_add iX1_weighSets_87 (by omega) ?_
              refine wp_is iX1_weighSets_88 rfl rfl (by omega) ?_
              rw [tw]
              refine wp_al0 iX1_weighSets_89 ?_
              refine wp_gR iX1_weighSets_90 fr_1_31 rfl rfl rfl ?_
              refine wp_il6 iX1_weighSets_93 ?_
              refine wp_al0 iX1_weighSets_95 ?_
              refine wp_gR iX1_weighSets_96 fr_1_31 rfl rfl rfl ?_
              refine wp_il5 iX1_weighSets_99 ?_
              refine wp_ia iX1_weighSets_101 rfl (by omega) ?_
              rw [ab_up_ne _ _ _ (show (46 : Nat) ≠ 45 by decide), show ((s : Int)).toNat = s by omega, hbs.2.1]
              refine wp_il2 iX1_weighSets_102 ?_
              refine wp_add iX1_weighSets_103 (by omega) ?_
              refine wp_is iX1_weighSets_104 rfl rfl (by omega) ?_
              rw [tw]
              refine wp_al0 iX1_weighSets_105 ?_
              refine wp_gR iX1_weighSets_106 fr_1_34 rfl rfl rfl ?_
              refine wp_il6 iX1_weighSets_109 ?_
              refine wp_bp iX1_weighSets_111 (by decide) ?_
              refine wp_al0 iX1_weighSets_113 ?_
              refine wp_gR iX1_weighSets_114 fr_1_31 rfl rfl rfl ?_
              refine wp_il6 iX1_weighSets_117 ?_
              refine wp_ia iX1_weighSets_119 rfl (by omega) ?_
              rw [ab_up_self, tw, ab_u1_self]
              refine wp_mul iX1_weighSets_120 (by omega) ?_
              refine wp_is iX1_weighSets_121 rfl rfl (by omega) ?_
              rw [tw]
              refine wp_ii5 iX1_weighSets_122 (by omega) ?_
              refine wp_goto iX1_weighSets_125 ?_
              rw [show (s : Int) + 1 = ((s + 1 : Nat) : Int) by omega]
              exact ih2 _ (by omega) (s + 1) _ rfl (by omega) (wgI_up M hjn hlt hI) _
        exact key2 _ 0 N rfl (by omega) hI _
  rw [show (n : Int) - 1 = (n : Int) - 1 - ((0 : Nat) : Int) by omega]
  refine key _ 0 _ rfl (by omega) ⟨fun a h1 h2 h3 => ?_, fun S hS => ?_⟩ _ _ _
  · rw [ab_up_ne _ _ _ h3, ab_up_ne _ _ _ h2, ab_up_ne _ _ _ h1]
  · have e : S = 0 := by omega
    subst e
    rw [bs_zero, bs_zero]
    exact ⟨rfl, rfl, rfl⟩
end WeighX
