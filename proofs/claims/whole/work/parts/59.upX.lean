theorem pF_mono1 (p : sh_P) (k : Nat) : pF p k ≤ pF p (k + 1) := by
  by_cases h : k < p.length
  · rw [pF_up p k h]; have := (pWN_n p k).2; omega
  · unfold pF
    rw [List.take_of_length_le (by omega), List.take_of_length_le (by omega)]
    exact Int.le_refl _
theorem pF_mono (p : sh_P) (k : Nat) : ∀ n, pF p k ≤ pF p (k + n)
  | 0 => Int.le_refl _
  | n + 1 => Int.le_trans (pF_mono p k n) (pF_mono1 p (k + n))
theorem pF_find (p : sh_P) (w : Int) (h0 : 0 ≤ w) : ∀ n, w < pF p n → ∃ i, i < n ∧ pF p i ≤ w ∧ w < pF p (i + 1)
  | 0, h => by rw [pF_0] at h; omega
  | n + 1, h => by
    by_cases hw : w < pF p n
    · obtain ⟨i, hi, h1, h2⟩ := pF_find p w h0 n hw
      exact ⟨i, by omega, h1, h2⟩
    · exact ⟨n, by omega, by omega, h⟩
def frX (M N : ab_Me) : Prop := (∀ a, a < 49 ∨ 55 < a → N a = M a) ∧ N 52 0 = 0 ∧ N 53 0 = 0
def pUp (N : ab_Me) (p : sh_P) (R : Nat) (i : Nat) (N1 : ab_Me) : Prop := (∀ a, a < 11 ∨ 16 < a → N1 a = N a) ∧ (N1 11 0 = (p.length : Int) ∧ N1 11 1 = 0 ∧ N1 11 6 = (R : Int)) ∧ (∀ k, N1 12 k = if k < i then pW p k else N 12 k) ∧ (∀ k, N1 13 k = if k < i then pF p k else N 13 k) ∧ (∀ k, N1 14 k = if k < i then pN p k else N 14 k) ∧ (∀ k, N1 15 k = if k < i then 0 else N 15 k) ∧ (∀ k, 0 ≤ N1 16 k ∧ N1 16 k ≤ 1000) ∧ ∀ k j : Nat, k < i → j ≤ R → N1 16 (11 * k + j) = wb (fX4 N) (pF p k) (pN p k).toNat j
theorem row_up {f g h : Nat → Int} {i : Nat} {z : Int} (hf : ∀ k, f k = if k < i then g k else h k) (hz : z = g i) : ∀ k, ab_u1 f i z k = if k < i + 1 then g k else h k := by
  intro k
  by_cases hk : k = i
  · subst hk; rw [ab_u1_self, if_pos (by omega)]; exact hz
  · rw [ab_u1_ne _ _ hk, hf k]
    by_cases h2 : k < i
    · rw [if_pos h2, if_pos (by omega)]
    · rw [if_neg h2, if_neg (by omega)]
section UpX
variable (L : Nat)
theorem c_X5_weaverAt (N : ab_Me) (p : sh_P) (hl : p.length ≤ 4) (hs : sh_sw p ≤ 12) (h1 : N 49 1 = (p.length : Int)) (h2 : ∀ i, i < p.length → N 50 i = pW p i ∧ N 51 i = pN p i) (w : Int) (i : Nat) (hi : i < p.length) (ha : pF p i ≤ w) (hb : w < pF p (i + 1)) : cF L 1 mX5_weaverAt [.inr 49, .inl w] N (pW p i) := by
  refine cF_of rfl ?_
  change wp _ _ _ 0 [some (.inr 49), some (.inl w), none, none] [] _ _
  refine wp_ic iX5_weaverAt_0 (by decide) ?_
  refine wp_is2 iX5_weaverAt_1 ?_
  refine wp_ic iX5_weaverAt_2 (by decide) ?_
  refine wp_is3 iX5_weaverAt_3 ?_
  have key : ∀ (n j : Nat), i - j = n → j ≤ i → wp L 0 mX5_weaverAt 4 [some (.inr 49), some (.inl w), some (.inl (pF p j)), some (.inl (j : Int))] [] N (fun r M1 => r = some (.inl (pW p i)) ∧ M1 = N) := by
    intro n
    induction n using Nat.strongRecOn with
    | ind n ih =>
      intro j hn hj
      have tj : ((j : Int)).toNat = j := by omega
      have e := h2 j (by omega)
      have hu := pF_up p j (by omega)
      have hle := pF_le p (j + 1)
      have h0 := pF_n p j
      have hn0 := (pWN_n p j).2
      refine wp_il3 iX5_weaverAt_4 ?_
      refine wp_al0 iX5_weaverAt_5 ?_
      refine wp_gI iX5_weaverAt_6 fi_5_16 rfl ?_
      rw [h1]
      refine wp_cge iX5_weaverAt_9 (fun c_9 => ?_) (fun c_9 => ?_)
      · exfalso; omega
      · refine wp_il2 iX5_weaverAt_12 ?_
        refine wp_al0 iX5_weaverAt_13 ?_
        refine wp_gR iX5_weaverAt_14 fr_5_23 rfl rfl rfl ?_
        refine wp_il3 iX5_weaverAt_17 ?_
        refine wp_ia iX5_weaverAt_18 rfl (by omega) ?_
        rw [tj, e.2]
        refine wp_add iX5_weaverAt_19 (by omega) ?_
        refine wp_is2 iX5_weaverAt_20 ?_
        refine wp_il1 iX5_weaverAt_21 ?_
        refine wp_il2 iX5_weaverAt_22 ?_
        refine wp_cge iX5_weaverAt_23 (fun c_23 => ?_) (fun c_23 => ?_)
        · refine wp_ii3 iX5_weaverAt_33 (by omega) ?_
          refine wp_goto iX5_weaverAt_36 ?_
          rw [← hu, show (j : Int) + 1 = ((j + 1 : Nat) : Int) by omega]
          have hji : j ≠ i := fun q => by subst q; omega
          exact ih _ (by omega) (j + 1) rfl (by omega)
        · refine wp_al0 iX5_weaverAt_26 ?_
          refine wp_gR iX5_weaverAt_27 fr_5_19 rfl rfl rfl ?_
          refine wp_il3 iX5_weaverAt_30 ?_
          refine wp_ia iX5_weaverAt_31 rfl (by omega) ?_
          rw [tj, e.1]
          have hji : j = i := by
            by_cases q : j < i
            · have := pF_mono p (j + 1) (i - (j + 1))
              rw [show j + 1 + (i - (j + 1)) = i by omega] at this
              omega
            · omega
          refine wp_ret iX5_weaverAt_32 rfl ?_
          rw [hji]
          exact ⟨rfl, rfl⟩
  exact key _ 0 rfl (by omega)
set_option maxHeartbeats 1000000 in
theorem c_X3_setUp (N : ab_Me) (hBN : hB N) (p : sh_P) (hl : p.length ≤ 4) (hs : sh_sw p ≤ 12) (hok : sh_okp 4 p) (h1 : N 49 1 = (p.length : Int)) (h2 : ∀ i, i < p.length → N 50 i = pW p i ∧ N 51 i = pN p i) (h16 : ∀ k, 0 ≤ N 16 k ∧ N 16 k ≤ 1000) : ct L 5 mX3_setUp [.inr 11, .inr 49, .inr 3] N (fun r N1 => r = none ∧ pUp N p (N 3 1).toNat p.length N1) := by
  obtain ⟨b1, b2, b3, b4, b5⟩ := id hBN
  refine ct_of rfl ?_
  change wp _ _ _ 0 [some (.inr 11), some (.inr 49), some (.inr 3), none, none] [] _ _
  refine wp_al0 iX3_setUp_0 ?_
  refine wp_al1 iX3_setUp_1 ?_
  refine wp_gI iX3_setUp_2 fi_3_40 rfl ?_
  refine wp_pI iX3_setUp_5 fp_3_9 rfl ?_
  refine wp_al0 iX3_setUp_8 ?_
  refine wp_ic iX3_setUp_9 (by decide) ?_
  refine wp_pI iX3_setUp_10 fp_3_15 rfl ?_
  refine wp_al0 iX3_setUp_13 ?_
  refine wp_al2 iX3_setUp_14 ?_
  refine wp_gI iX3_setUp_15 fi_3_43 rfl ?_
  refine wp_pI iX3_setUp_18 fp_3_31 rfl ?_
  refine wp_ic iX3_setUp_21 (by decide) ?_
  refine wp_is3 iX3_setUp_22 ?_
  refine wp_ic iX3_setUp_23 (by decide) ?_
  refine wp_is4 iX3_setUp_24 ?_
  have key : ∀ (n i : Nat) (N1 : ab_Me), p.length - i = n → i ≤ p.length → pUp N p (N 3 1).toNat i N1 → wp L 4 mX3_setUp 26 [some (.inr 11), some (.inr 49), some (.inr 3), some (.inl (pF p i)), some (.inl (i : Int))] [] N1 (fun r N1 => r = none ∧ pUp N p (N 3 1).toNat p.length N1) := by
    intro n
    induction n using Nat.strongRecOn with
    | ind n ih =>
      intro i N1 hn hi hp
      obtain ⟨p1, ⟨p2, p3, p4⟩, p12, p13, p14, p15, p16, p17⟩ := id hp
      have ti : ((i : Int)).toNat = i := by omega
      refine wp_il4 iX3_setUp_26 ?_
      refine wp_al0 iX3_setUp_28 ?_
      refine wp_gI iX3_setUp_29 fi_3_9 rfl ?_
      rw [p2]
      refine wp_cge iX3_setUp_32 (fun c_32 => ?_) (fun c_32 => ?_)
      · refine wp_retv iX3_setUp_102 rfl ?_
        have hil : i = p.length := by omega
        rw [hil] at hp
        exact ⟨rfl, hp⟩
      · have hilt : i < p.length := by omega
        have e := h2 i hilt
        have e50 : N1 50 = N 50 := p1 50 (by omega)
        have e51 : N1 51 = N 51 := p1 51 (by omega)
        have e4 : N1 4 = N 4 := p1 4 (by omega)
        have e3 : N1 3 = N 3 := p1 3 (by omega)
        have hu := pF_up p i hilt
        have hle := pF_le p (i + 1)
        have h0 := pF_n p i
        have hn0 := pWN_ok hok hilt
        refine wp_al0 iX3_setUp_35 ?_
        refine wp_gR iX3_setUp_36 fr_3_18 rfl rfl rfl ?_
        refine wp_il4 iX3_setUp_39 ?_
        refine wp_al1 iX3_setUp_41 ?_
        refine wp_gR iX3_setUp_42 fr_3_48 rfl rfl rfl ?_
        refine wp_il4 iX3_setUp_45 ?_
        refine wp_ia iX3_setUp_47 rfl (by omega) ?_
        rw [ti, e50, e.1]
        refine wp_is iX3_setUp_48 rfl rfl (by omega) ?_
        rw [ti]
        obtain ⟨A, hA⟩ : ∃ A, A = ab_up N1 12 i (pW p i) := ⟨_, rfl⟩
        rw [← hA]
        refine wp_al0 iX3_setUp_49 ?_
        refine wp_gR iX3_setUp_50 fr_3_22 rfl rfl rfl ?_
        refine wp_il4 iX3_setUp_53 ?_
        refine wp_il3 iX3_setUp_55 ?_
        refine wp_is iX3_setUp_56 rfl rfl (by omega) ?_
        rw [ti]
        obtain ⟨B, hB1⟩ : ∃ B, B = ab_up A 13 i (pF p i) := ⟨_, rfl⟩
        rw [← hB1]
        have eB51 : B 51 = N 51 := by rw [hB1, ab_up_ne _ _ _ (by decide), hA, ab_up_ne _ _ _ (by decide)]; exact e51
        refine wp_al0 iX3_setUp_57 ?_
        refine wp_gR iX3_setUp_58 fr_3_25 rfl rfl rfl ?_
        refine wp_il4 iX3_setUp_61 ?_
        refine wp_al1 iX3_setUp_63 ?_
        refine wp_gR iX3_setUp_64 fr_3_49 rfl rfl rfl ?_
        refine wp_il4 iX3_setUp_67 ?_
        refine wp_ia iX3_setUp_69 rfl (by omega) ?_
        rw [ti, eB51, e.2]
        refine wp_is iX3_setUp_70 rfl rfl (by omega) ?_
        refine wp_al0 iX3_setUp_71 ?_
        refine wp_gR iX3_setUp_72 fr_3_28 rfl rfl rfl ?_
        refine wp_il4 iX3_setUp_75 ?_
        refine wp_ic iX3_setUp_77 (by decide) ?_
        refine wp_is iX3_setUp_78 rfl rfl (by omega) ?_
        rw [ti]
        obtain ⟨D, hD⟩ : ∃ D, D = ab_up (ab_up B 14 i (pN p i)) 15 i 0 := ⟨_, rfl⟩
        rw [← hD]
        have eD : ∀ a, a < 12 ∨ 15 < a → D a = N1 a := fun a ha => by
          rw [hD, ab_up_ne _ _ _ (by omega), ab_up_ne _ _ _ (by omega), hB1, ab_up_ne _ _ _ (by omega), hA, ab_up_ne _ _ _ (by omega)]
        have eD12 : D 12 = ab_u1 (N1 12) i (pW p i) := by rw [hD, ab_up_ne _ _ _ (by decide), ab_up_ne _ _ _ (by decide), hB1, ab_up_ne _ _ _ (by decide), hA, ab_up_self]
        have eD13 : D 13 = ab_u1 (N1 13) i (pF p i) := by rw [hD, ab_up_ne _ _ _ (by decide), ab_up_ne _ _ _ (by decide), hB1, ab_up_self, hA, ab_up_ne _ _ _ (by decide)]
        have eD14 : D 14 = ab_u1 (N1 14) i (pN p i) := by rw [hD, ab_up_ne _ _ _ (by decide), ab_up_self, hB1, ab_up_ne _ _ _ (by decide), hA, ab_up_ne _ _ _ (by decide)]
        have eD15 : D 15 = ab_u1 (N1 15) i 0 := by rw [hD, ab_up_self, ab_up_ne _ _ _ (by decide), hB1, ab_up_ne _ _ _ (by decide), hA, ab_up_ne _ _ _ (by decide)]
        have eD3 : D 3 = N 3 := by rw [eD 3 (by omega)]; exact e3
        have eD4 : D 4 = N 4 := by rw [eD 4 (by omega)]; exact e4
        have eD11 : D 11 = N1 11 := eD 11 (by omega)
        have hBD : hB D := by unfold hB; rw [eD3, eD4]; exact hBN
        have d13 : D 13 i = pF p i := by rw [eD13, ab_u1_self]
        have d14 : D 14 i = pN p i := by rw [eD14, ab_u1_self]
        have d116 : D 11 6 = N 3 1 := by rw [eD11, p4]; omega
        have hms := c_X3_measure L D hBD (i : Int) (by omega) (by rw [d116]; omega) (by rw [ti, d13, d14]; omega)
        rw [ti, d13, d14, d116] at hms
        have hfx : fX4 D = fX4 N := by unfold fX4; rw [eD4]
        rw [hfx] at hms
        obtain ⟨F, hF⟩ : ∃ F, F = ab_rw D 16 (wbF (D 16) (fX4 N) (pF p i) (pN p i).toNat (i : Int) (N 3 1)) := ⟨_, rfl⟩
        rw [← hF] at hms
        have eF : ∀ a, a ≠ 16 → F a = D a := fun a ha => by rw [hF, ab_rw_ne _ _ ha]
        have eF16 : F 16 = wbF (D 16) (fX4 N) (pF p i) (pN p i).toNat (i : Int) (N 3 1) := by rw [hF, ab_rw_self]
        have f14 : F 14 i = pN p i := by rw [eF 14 (by decide)]; exact d14
        refine wp_al0 iX3_setUp_79 ?_
        refine wp_al2 iX3_setUp_80 ?_
        refine wp_il4 iX3_setUp_81 ?_
        refine wp_v2v iX3_setUp_83 ml_3_50 rfl rfl rfl rfl (hms) ?_
        refine wp_il3 iX3_setUp_86 ?_
        refine wp_al0 iX3_setUp_87 ?_
        refine wp_gR iX3_setUp_88 fr_3_25 rfl rfl rfl ?_
        refine wp_il4 iX3_setUp_91 ?_
        refine wp_ia iX3_setUp_93 rfl (by omega) ?_
        rw [ti, f14]
        refine wp_add iX3_setUp_94 (by omega) ?_
        refine wp_is3 iX3_setUp_95 ?_
        refine wp_ii4 iX3_setUp_96 (by omega) ?_
        refine wp_goto iX3_setUp_99 ?_
        rw [← hu, show (i : Int) + 1 = ((i + 1 : Nat) : Int) by omega]
        have hwbb : ∀ j : Nat, j ≤ (N 3 1).toNat → 0 ≤ wb (fX4 N) (pF p i) (pN p i).toNat j ∧ wb (fX4 N) (pF p i) (pN p i).toNat j ≤ 1000 := fun j hj => by
          have q := wb_bd (fX4 N) (fX4_01 N hBN) (pF p i) (pN p i).toNat j
          have e1 : 3 * (((pN p i).toNat : Nat) : Int) * (j : Int) ≤ 36 * 10 := Int.mul_le_mul (by omega) (by omega) (by omega) (by omega)
          omega
        refine ih _ (by omega) (i + 1) F rfl (by omega) ⟨fun a ha => ?_, ⟨?_, ?_, ?_⟩, ?_, ?_, ?_, ?_, fun k => ?_, fun k j hk hj => ?_⟩
        · rw [eF a (by omega), eD a (by omega)]; exact p1 a ha
        · rw [eF 11 (by decide), eD11]; exact p2
        · rw [eF 11 (by decide), eD11]; exact p3
        · rw [eF 11 (by decide), eD11]; exact p4
        · rw [eF 12 (by decide), eD12]; exact row_up p12 rfl
        · rw [eF 13 (by decide), eD13]; exact row_up p13 rfl
        · rw [eF 14 (by decide), eD14]; exact row_up p14 rfl
        · rw [eF 15 (by decide), eD15]; exact row_up (g := fun _ => 0) p15 rfl
        · rw [eF16, eD 16 (by omega)]
          unfold wbF
          split
          · exact hwbb _ (by omega)
          · exact p16 k
        · rw [eF16, eD 16 (by omega)]
          unfold wbF
          by_cases hki : k = i
          · subst hki
            rw [if_pos (by omega), show (((11 * k + j : Nat) : Int) - 11 * (k : Int)).toNat = j by omega]
          · rw [if_neg (by omega)]
            exact p17 k j (by omega) hj
  refine key _ 0 _ rfl (by omega) ⟨fun a ha => ?_, ⟨?_, ?_, ?_⟩, ?_, ?_, ?_, ?_, ?_, fun k j hk => ?_⟩
  · rw [ab_up_ne _ _ _ (by omega), ab_up_ne _ _ _ (by omega), ab_up_ne _ _ _ (by omega)]
  · exact h1
  · rfl
  · show N 3 1 = _; omega
  · intro k; rw [if_neg (by omega)]; rfl
  · intro k; rw [if_neg (by omega)]; rfl
  · intro k; rw [if_neg (by omega)]; rfl
  · intro k; rw [if_neg (by omega)]; rfl
  · exact h16
  · omega
variable (M : ab_Me)
theorem c_X8_share (h : hB M) (hw : hW M) (hz : M 52 0 = 0 ∧ M 53 0 = 0) (x : Int) : ct L 9 mX8_share [.inr 1, .inl x] M (fun r N => r = some (.inl (if 0 ≤ x ∧ x ≤ 1 then (if 0 < (bstX M).2.length then (if x = 0 then (bstX M).1 else ((bstX M).2.length : Int)) else -4) else -1)) ∧ frX M N) := by
  refine ct_of rfl ?_
  change wp _ _ _ 0 [some (.inr 1), some (.inl x)] [] _ _
  refine wp_il1 iX8_share_0 ?_
  refine wp_ic iX8_share_1 (by decide) ?_
  refine wp_ic iX8_share_2 (by decide) ?_
  refine wp_s3f iX8_share_3 ml_8_51 rfl rfl rfl (c_X8_isFromTo L M x 0 1) ?_
  refine wp_bne iX8_share_6 (fun c_6 => ?_) (fun c_6 => ?_)
  · refine wp_al0 iX8_share_11 ?_
    refine wp_gR iX8_share_12 fr_8_47 rfl rfl rfl ?_
    refine wp_al0 iX8_share_15 ?_
    refine wp_gR iX8_share_16 fr_8_10 rfl rfl rfl ?_
    refine wp_gR iX8_share_19 fr_8_55 rfl rfl rfl ?_
    refine wp_al0 iX8_share_22 ?_
    refine wp_gR iX8_share_23 fr_8_10 rfl rfl rfl ?_
    refine wp_gR iX8_share_26 fr_8_181 rfl rfl rfl ?_
    refine wp_v2x iX8_share_29 ml_8_194 rfl rfl rfl rfl (c_X5_find L M h hw hz) (fun r N hx => ?_)
    obtain ⟨rfl, q1, q2, q3, q4, q5⟩ := hx
    refine wp_bne iX8_share_32 (fun c_32 => ?_) (fun c_32 => ?_)
    · refine wp_il1 iX8_share_38 ?_
      refine wp_zne iX8_share_39 (fun c_39 => ?_) (fun c_39 => ?_)
      · refine wp_al0 iX8_share_52 ?_
        refine wp_gR iX8_share_53 fr_8_47 rfl rfl rfl ?_
        refine wp_gI iX8_share_56 fi_8_200 rfl ?_
        refine wp_ret iX8_share_59 rfl ?_
        rw [q4]
        refine ⟨?_, q1, q2⟩
        rw [if_pos (by omega), if_neg c_39]
        rw [if_pos c_32]
      · refine wp_al0 iX8_share_42 ?_
        refine wp_gR iX8_share_43 fr_8_47 rfl rfl rfl ?_
        refine wp_gI iX8_share_46 fi_8_197 rfl ?_
        refine wp_goto iX8_share_49 ?_
        refine wp_ret iX8_share_59 rfl ?_
        rw [q3]
        refine ⟨?_, q1, q2⟩
        rw [if_pos (by omega), if_pos c_39]
        rw [if_pos c_32]
    · refine wp_bp iX8_share_35 (by decide) ?_
      refine wp_ret iX8_share_37 rfl ?_
      refine ⟨?_, q1, q2⟩
      rw [if_pos (by omega)]
      rw [if_neg c_32]
  · refine wp_ic iX8_share_9 (by decide) ?_
    refine wp_ret iX8_share_10 rfl ?_
    refine ⟨?_, fun _ _ => rfl, hz⟩
    rw [if_neg (by omega)]
theorem c_X8_who (h : hB M) (hw : hW M) (hz : M 52 0 = 0 ∧ M 53 0 = 0) (w : Int) : ct L 9 mX8_who [.inr 1, .inl w] M (fun r N => frX M N ∧ ((¬ (0 ≤ w ∧ w < M 3 0) ∧ r = some (.inl (-1))) ∨ ((0 ≤ w ∧ w < M 3 0) ∧ ¬ 0 < (bstX M).2.length ∧ r = some (.inl (-4))) ∨ ((0 ≤ w ∧ w < M 3 0) ∧ 0 < (bstX M).2.length ∧ ∀ i, i < (bstX M).2.length → pF (bstX M).2 i ≤ w → w < pF (bstX M).2 (i + 1) → r = some (.inl (pW (bstX M).2 i))))) := by
  refine ct_of rfl ?_
  change wp _ _ _ 0 [some (.inr 1), some (.inl w)] [] _ _
  refine wp_il1 iX8_who_0 ?_
  refine wp_al0 iX8_who_1 ?_
  refine wp_gR iX8_who_2 fr_8_10 rfl rfl rfl ?_
  refine wp_gR iX8_who_5 fr_8_55 rfl rfl rfl ?_
  refine wp_gI iX8_who_8 fi_8_74 rfl ?_
  refine wp_s2f iX8_who_11 ml_8_132 rfl rfl rfl (c_X8_isBelow L M w (M 3 0)) ?_
  refine wp_bne iX8_who_14 (fun c_14 => ?_) (fun c_14 => ?_)
  · refine wp_al0 iX8_who_19 ?_
    refine wp_gR iX8_who_20 fr_8_47 rfl rfl rfl ?_
    refine wp_al0 iX8_who_23 ?_
    refine wp_gR iX8_who_24 fr_8_10 rfl rfl rfl ?_
    refine wp_gR iX8_who_27 fr_8_55 rfl rfl rfl ?_
    refine wp_al0 iX8_who_30 ?_
    refine wp_gR iX8_who_31 fr_8_10 rfl rfl rfl ?_
    refine wp_gR iX8_who_34 fr_8_181 rfl rfl rfl ?_
    refine wp_v2x iX8_who_37 ml_8_194 rfl rfl rfl rfl (c_X5_find L M h hw hz) (fun r N hx => ?_)
    obtain ⟨rfl, q1, q2, q3, q4, q5⟩ := hx
    have hok := sh_best_ok (shw_X h hw)
    have ebs : sh_best (M 3 0).toNat (M 8 0).toNat (sh_dos (fX4 M) (M 3 1).toNat (M 9) (M 10)) = bstX M := rfl
    rw [ebs] at hok
    refine wp_beq iX8_who_40 (fun c_40 => ?_) (fun c_40 => ?_)
    · refine wp_bp iX8_who_54 (by decide) ?_
      refine wp_ret iX8_who_56 rfl ?_
      exact ⟨⟨q1, q2⟩, Or.inr (Or.inl ⟨c_14, c_40, rfl⟩)⟩
    · rcases hok with hok | ⟨hok1, hok2, hok3, hok4⟩
      · exfalso; rw [hok] at c_40; exact absurd c_40 (by decide)
      · have h2 := h.2.1
        obtain ⟨i, hi, ha, hb⟩ := pF_find (bstX M).2 w (by omega) (bstX M).2.length (by rw [pF_len, hok3]; omega)
        refine wp_al0 iX8_who_43 ?_
        refine wp_gR iX8_who_44 fr_8_47 rfl rfl rfl ?_
        refine wp_il1 iX8_who_47 ?_
        refine wp_v1f iX8_who_48 ml_8_203 rfl rfl rfl rfl (c_X5_weaverAt L N (bstX M).2 (by omega) (by omega) q4 q5 w i hi ha hb) ?_
        refine wp_goto iX8_who_51 ?_
        refine wp_ret iX8_who_56 rfl ?_
        refine ⟨⟨q1, q2⟩, Or.inr (Or.inr ⟨c_14, c_40, fun j hj hja hjb => ?_⟩)⟩
        have : i = j := by
          rcases Nat.lt_trichotomy i j with q | q | q
          · have := pF_mono (bstX M).2 (i + 1) (j - (i + 1))
            rw [show i + 1 + (j - (i + 1)) = j by omega] at this
            omega
          · exact q
          · have := pF_mono (bstX M).2 (j + 1) (i - (j + 1))
            rw [show j + 1 + (i - (j + 1)) = i by omega] at this
            omega
        rw [this]
  · refine wp_ic iX8_who_17 (by decide) ?_
    refine wp_ret iX8_who_18 rfl ?_
    exact ⟨⟨fun _ _ => rfl, hz⟩, Or.inl ⟨c_14, rfl⟩⟩
theorem c_X8_up (h : hB M) (hw : hW M) (hz : M 52 0 = 0 ∧ M 53 0 = 0) (h16 : ∀ k, 0 ≤ M 16 k ∧ M 16 k ≤ 1000) : ct L 9 mX8_up [.inr 1] M (fun r N1 => (¬ 0 < (bstX M).2.length ∧ r = some (.inl (-4)) ∧ frX M N1) ∨ (0 < (bstX M).2.length ∧ r = some (.inl ((bstX M).2.length : Int)) ∧ ∃ N, frX M N ∧ pUp N (bstX M).2 (M 3 1).toNat (bstX M).2.length N1)) := by
  refine ct_of rfl ?_
  change wp _ _ _ 0 [some (.inr 1)] [] _ _
  refine wp_al0 iX8_up_0 ?_
  refine wp_gR iX8_up_1 fr_8_47 rfl rfl rfl ?_
  refine wp_al0 iX8_up_4 ?_
  refine wp_gR iX8_up_5 fr_8_10 rfl rfl rfl ?_
  refine wp_gR iX8_up_8 fr_8_55 rfl rfl rfl ?_
  refine wp_al0 iX8_up_11 ?_
  refine wp_gR iX8_up_12 fr_8_10 rfl rfl rfl ?_
  refine wp_gR iX8_up_15 fr_8_181 rfl rfl rfl ?_
  refine wp_v2x iX8_up_18 ml_8_194 rfl rfl rfl rfl (c_X5_find L M h hw hz) (fun r N hx => ?_)
  obtain ⟨rfl, q1, q2, q3, q4, q5⟩ := hx
  have hok := sh_best_ok (shw_X h hw)
  have ebs : sh_best (M 3 0).toNat (M 8 0).toNat (sh_dos (fX4 M) (M 3 1).toNat (M 9) (M 10)) = bstX M := rfl
  rw [ebs] at hok
  have e3 : N 3 = M 3 := q1 3 (by omega)
  have e4 : N 4 = M 4 := q1 4 (by omega)
  have e16 : N 16 = M 16 := q1 16 (by omega)
  have hBN : hB N := by unfold hB; rw [e3, e4]; exact h
  have h2 := h.2.1
  have hw4 := hw.1
  refine wp_bne iX8_up_21 (fun c_21 => ?_) (fun c_21 => ?_)
  · rcases hok with hok | ⟨hok1, hok2, hok3, hok4⟩
    · exfalso; rw [hok] at c_21; exact absurd c_21 (by decide)
    · have hsu := c_X3_setUp L N hBN (bstX M).2 (by omega) (by omega) (fun q hq => ⟨by have := (hok4 q hq).1; omega, (hok4 q hq).2⟩) q4 q5 (by rw [e16]; exact h16)
      refine wp_al0 iX8_up_27 ?_
      refine wp_gR iX8_up_28 fr_8_10 rfl rfl rfl ?_
      refine wp_gR iX8_up_31 fr_8_65 rfl rfl rfl ?_
      refine wp_al0 iX8_up_34 ?_
      refine wp_gR iX8_up_35 fr_8_47 rfl rfl rfl ?_
      refine wp_al0 iX8_up_38 ?_
      refine wp_gR iX8_up_39 fr_8_10 rfl rfl rfl ?_
      refine wp_gR iX8_up_42 fr_8_55 rfl rfl rfl ?_
      refine wp_v2x iX8_up_45 ml_8_206 rfl rfl rfl rfl (hsu) (fun r N1 hx => ?_)
      obtain ⟨rfl, hu⟩ := hx
      rw [e3] at hu
      refine wp_al0 iX8_up_48 ?_
      refine wp_gR iX8_up_49 fr_8_10 rfl rfl rfl ?_
      refine wp_gR iX8_up_52 fr_8_65 rfl rfl rfl ?_
      refine wp_gI iX8_up_55 fi_8_210 rfl ?_
      rw [hu.2.1.1]
      refine wp_ret iX8_up_58 rfl ?_
      exact Or.inr ⟨c_21, rfl, N, ⟨q1, q2⟩, hu⟩
  · refine wp_bp iX8_up_24 (by decide) ?_
    refine wp_ret iX8_up_26 rfl ?_
    exact Or.inl ⟨c_21, rfl, q1, q2⟩
end UpX
