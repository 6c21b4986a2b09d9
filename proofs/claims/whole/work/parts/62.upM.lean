def bstM (M : ab_Me) : sh_B := sh_best (M 56 0).toNat (M 56 7).toNat (dosM M)
theorem bstM_ok {M : ab_Me} (h : hM M) (hw : hWM M) : sh_okb (M 56 0).toNat (M 56 7).toNat (bstM M) := sh_best_ok (shw_M h hw)
theorem rbM.sh {N : ab_Me} {b : sh_B} (h : rbM N b) {i : Nat} (hi : i < b.2.length) : (0 ≤ N 84 i ∧ N 84 i < 48) ∧ N 84 i / 12 = pW b.2 i ∧ N 84 i % 12 + 1 = pN b.2 i := by
  obtain ⟨-, -, -, h4⟩ := h
  have := h4 i _ (pWN_get b.2 hi)
  unfold pW pN
  omega
def pUpM (N : ab_Me) (p : sh_P) (i : Nat) (N1 : ab_Me) : Prop := (∀ a, a < 56 ∨ (56 < a ∧ a < 63) ∨ 66 < a → N1 a = N a) ∧ (N1 56 12 = (p.length : Int) ∧ N1 56 13 = 0 ∧ ∀ j, j ≠ 12 → j ≠ 13 → N1 56 j = N 56 j) ∧ (∀ k, N1 63 k = if k < i then pW p k else N 63 k) ∧ (∀ k, N1 64 k = if k < i then pF p k else N 64 k) ∧ (∀ k, N1 65 k = if k < i then pN p k else N 65 k) ∧ (∀ k, N1 66 k = if k < i then 0 else N 66 k)
section UpM
variable (L : Nat) (M : ab_Me)
theorem c_X9_findSharing (h : hM M) (hw : hWM M) : ct L 4 mX9_findSharing [.inr 56] M (fun r N => r = some (.inl (if 0 < (bstM M).2.length then 1 else 0)) ∧ gM M N ∧ rbM N (bstM M)) := by
  refine ct_of rfl ?_
  change wp _ _ _ 0 [some (.inr 56), none, none, none, none, none, none] [] _ _
  refine wp_al0 iX9_findSharing_0 ?_
  refine wp_ic iX9_findSharing_1 (by decide) ?_
  refine wp_pI iX9_findSharing_2 fp_9_186 rfl ?_
  refine wp_al0 iX9_findSharing_5 ?_
  refine wp_ic iX9_findSharing_6 (by decide) ?_
  refine wp_pI iX9_findSharing_7 fp_9_189 rfl ?_
  refine wp_ic iX9_findSharing_10 (by decide) ?_
  refine wp_is1 iX9_findSharing_11 ?_
  refine wp_al0 iX9_findSharing_12 ?_
  refine wp_gR iX9_findSharing_13 fr_9_96 rfl rfl rfl ?_
  refine wp_ic iX9_findSharing_16 (by decide) ?_
  refine wp_ic iX9_findSharing_17 (by decide) ?_
  refine wp_is iX9_findSharing_18 rfl rfl (by omega) ?_
  refine wp_al0 iX9_findSharing_19 ?_
  refine wp_gR iX9_findSharing_20 fr_9_99 rfl rfl rfl ?_
  refine wp_ic iX9_findSharing_23 (by decide) ?_
  refine wp_ic iX9_findSharing_24 (by decide) ?_
  refine wp_is iX9_findSharing_25 rfl rfl (by omega) ?_
  refine wp_al0 iX9_findSharing_26 ?_
  refine wp_gR iX9_findSharing_27 fr_9_102 rfl rfl rfl ?_
  refine wp_ic iX9_findSharing_30 (by decide) ?_
  refine wp_ic iX9_findSharing_31 (by decide) ?_
  refine wp_is iX9_findSharing_32 rfl rfl (by omega) ?_
  obtain ⟨N0, hN0⟩ : ∃ N0, N0 = ab_up (ab_up (ab_up (ab_up (ab_up M 56 41 0) 56 42 0) 81 0 (-1)) 82 0 0) 83 0 0 := ⟨_, rfl⟩
  have f56 : N0 56 = ab_u1 (ab_u1 (M 56) 41 0) 42 0 := by rw [hN0]; rfl
  refine fs_dfs L M h hw 4 [] 0 0 (1000000, []) _ rfl (by have := h.1; omega) (by omega) ?_ (fun i q hq => by simp at hq) rfl rfl rfl ?_ _ (fun N1 hf hb v2 v3 v4 v5 v6 => ?_) _ _ _ _ _
  · refine ⟨fun a b1 b2 b3 b4 b5 => ?_, fun j b1 b2 => ?_⟩
    · rw [ab_up_ne _ _ _ b4, ab_up_ne _ _ _ b3, ab_up_ne _ _ _ b2, ab_up_ne _ _ _ b1, ab_up_ne _ _ _ b1]
    · rw [ab_up_ne _ _ _ (by decide), ab_up_ne _ _ _ (by decide), ab_up_ne _ _ _ (by decide), ab_up_self, ab_u1_ne _ _ b2, ab_up_self, ab_u1_ne _ _ b1]
  · exact ⟨rfl, fun _ => rfl, fun z => absurd z (by decide), fun i q hq => by simp at hq⟩
  · have eb : sh_go (M 56 0).toNat (M 56 7).toNat (dosM M) 4 0 0 [] (1000000, []) = bstM M := rfl
    rw [eb] at hb
    have hg : gM M N1 := by
      refine gM.tr ?_ hf.1
      refine ⟨fun a b1 b2 b3 b4 b5 => ?_, fun j b1 b2 => ?_⟩
      · rw [ab_up_ne _ _ _ b4, ab_up_ne _ _ _ b3, ab_up_ne _ _ _ b2, ab_up_ne _ _ _ b1, ab_up_ne _ _ _ b1]
      · rw [ab_up_ne _ _ _ (by decide), ab_up_ne _ _ _ (by decide), ab_up_ne _ _ _ (by decide), ab_up_self, ab_u1_ne _ _ b2, ab_up_self, ab_u1_ne _ _ b1]
    refine wp_il1 iX9_findSharing_33 ?_
    refine wp_zlt iX9_findSharing_34 (fun c_34 => ?_) (fun c_34 => ?_)
    · refine wp_al0 iX9_findSharing_303 ?_
      refine wp_gI iX9_findSharing_304 fi_9_186 rfl ?_
      rw [hb.1]
      refine wp_zle iX9_findSharing_307 (fun c_307 => ?_) (fun c_307 => ?_)
      · refine wp_ic iX9_findSharing_314 (by decide) ?_
        refine wp_retb iX9_findSharing_315 rfl (by decide) ?_
        exact ⟨by rw [if_neg (by omega)], hg, hb⟩
      · refine wp_ic iX9_findSharing_310 (by decide) ?_
        refine wp_goto iX9_findSharing_311 ?_
        refine wp_retb iX9_findSharing_315 rfl (by decide) ?_
        exact ⟨by rw [if_pos (by omega)], hg, hb⟩
    · exfalso
      simp at c_34
theorem c_X9_share (h : hM M) (hw : hWM M) (x : Int) : ct L 5 mX9_share [.inr 56, .inl x] M (fun r N => r = some (.inl (if 0 ≤ x ∧ x ≤ 1 then (if 0 < (bstM M).2.length then (if x = 0 then (bstM M).1 else ((bstM M).2.length : Int)) else -4) else -1)) ∧ gM M N) := by
  refine ct_of rfl ?_
  change wp _ _ _ 0 [some (.inr 56), some (.inl x)] [] _ _
  refine wp_il1 iX9_share_0 ?_
  refine wp_ic iX9_share_1 (by decide) ?_
  refine wp_ic iX9_share_2 (by decide) ?_
  refine wp_s3f iX9_share_3 ml_9_111 rfl rfl rfl (c_X9_in L M x 0 1) ?_
  refine wp_bne iX9_share_6 (fun c_6 => ?_) (fun c_6 => ?_)
  · refine wp_al0 iX9_share_11 ?_
    refine wp_v0x iX9_share_12 ml_9_198 rfl rfl rfl rfl (c_X9_findSharing L M h hw) (fun r N hx => ?_)
    obtain ⟨rfl, hg, hb⟩ := hx
    refine wp_bne iX9_share_15 (fun c_15 => ?_) (fun c_15 => ?_)
    · refine wp_il1 iX9_share_21 ?_
      refine wp_zne iX9_share_22 (fun c_22 => ?_) (fun c_22 => ?_)
      · refine wp_al0 iX9_share_32 ?_
        refine wp_gI iX9_share_33 fi_9_186 rfl ?_
        refine wp_ret iX9_share_36 rfl ?_
        rw [hb.1]
        exact ⟨by rw [if_pos (by omega), if_neg c_22, if_pos c_15], hg⟩
      · refine wp_al0 iX9_share_25 ?_
        refine wp_gI iX9_share_26 fi_9_189 rfl ?_
        refine wp_goto iX9_share_29 ?_
        refine wp_ret iX9_share_36 rfl ?_
        rw [hb.2.2.1 c_15]
        exact ⟨by rw [if_pos (by omega), if_pos c_22, if_pos c_15], hg⟩
    · refine wp_bp iX9_share_18 (by decide) ?_
      refine wp_ret iX9_share_20 rfl ?_
      exact ⟨by rw [if_pos (by omega), if_neg c_15], hg⟩
  · refine wp_ic iX9_share_9 (by decide) ?_
    refine wp_ret iX9_share_10 rfl ?_
    exact ⟨by rw [if_neg (by omega)], ⟨fun _ _ _ _ _ _ => rfl, fun _ _ _ => rfl⟩⟩
theorem c_X9_who (h : hM M) (hw : hWM M) (w : Int) : ct L 5 mX9_who [.inr 56, .inl w] M (fun r N => gM M N ∧ ((¬ (0 ≤ w ∧ w < M 56 0) ∧ r = some (.inl (-1))) ∨ ((0 ≤ w ∧ w < M 56 0) ∧ ¬ 0 < (bstM M).2.length ∧ r = some (.inl (-4))) ∨ ((0 ≤ w ∧ w < M 56 0) ∧ 0 < (bstM M).2.length ∧ ∃ i, i < (bstM M).2.length ∧ pF (bstM M).2 i ≤ w ∧ w < pF (bstM M).2 (i + 1) ∧ r = some (.inl (pW (bstM M).2 i))))) := by
  obtain ⟨h1, h2, h3, h4, h5, h6⟩ := id h
  refine ct_of rfl ?_
  change wp _ _ _ 0 [some (.inr 56), some (.inl w), none, none] [] _ _
  refine wp_il1 iX9_who_0 ?_
  refine wp_ic iX9_who_1 (by decide) ?_
  refine wp_al0 iX9_who_2 ?_
  refine wp_gI iX9_who_3 fi_9_7 rfl ?_
  refine wp_ic iX9_who_6 (by decide) ?_
  refine wp_sub iX9_who_7 (by omega) ?_
  refine wp_s3f iX9_who_8 ml_9_111 rfl rfl rfl (c_X9_in L M w 0 (M 56 0 - 1)) ?_
  refine wp_bne iX9_who_11 (fun c_11 => ?_) (fun c_11 => ?_)
  · refine wp_al0 iX9_who_16 ?_
    refine wp_v0x iX9_who_17 ml_9_198 rfl rfl rfl rfl (c_X9_findSharing L M h hw) (fun r N hx => ?_)
    obtain ⟨rfl, hg, hb⟩ := hx
    have hok := bstM_ok h hw
    refine wp_bne iX9_who_20 (fun c_20 => ?_) (fun c_20 => ?_)
    · rcases hok with hok | ⟨hok1, hok2, hok3, hok4⟩
      · exfalso; rw [hok] at c_20; exact absurd c_20 (by decide)
      · obtain ⟨i, hi, ha, hbb⟩ := pF_find (bstM M).2 w (by omega) (bstM M).2.length (by rw [pF_len, hok3]; omega)
        have s0 := hb.sh c_20
        have s0' : 0 ≤ N 84 (0 : Int).toNat ∧ N 84 (0 : Int).toNat < 48 := s0.1
        have fb := fun j => pF_le (bstM M).2 j
        refine wp_ic iX9_who_26 (by decide) ?_
        refine wp_is2 iX9_who_27 ?_
        refine wp_al0 iX9_who_28 ?_
        refine wp_gR iX9_who_29 fr_9_105 rfl rfl rfl ?_
        refine wp_ic iX9_who_32 (by decide) ?_
        refine wp_ia iX9_who_33 rfl (by omega) ?_
        refine wp_bp iX9_who_34 (by decide) ?_
        refine wp_rem iX9_who_36 (by omega) ?_
        refine wp_ic iX9_who_37 (by decide) ?_
        refine wp_add iX9_who_38 (by omega) ?_
        refine wp_is3 iX9_who_39 ?_
        have key : ∀ (m j : Nat), i - j = m → j ≤ i → wp L 4 mX9_who 40 [some (.inr 56), some (.inl w), some (.inl (j : Int)), some (.inl (pF (bstM M).2 (j + 1)))] [] N (fun r N => gM M N ∧ ((¬ (0 ≤ w ∧ w < M 56 0) ∧ r = some (.inl (-1))) ∨ ((0 ≤ w ∧ w < M 56 0) ∧ ¬ 0 < (bstM M).2.length ∧ r = some (.inl (-4))) ∨ ((0 ≤ w ∧ w < M 56 0) ∧ 0 < (bstM M).2.length ∧ ∃ i, i < (bstM M).2.length ∧ pF (bstM M).2 i ≤ w ∧ w < pF (bstM M).2 (i + 1) ∧ r = some (.inl (pW (bstM M).2 i))))) := by
          intro m
          induction m using Nat.strongRecOn with
          | ind m ih =>
            intro j hm hj
            have tj : ((j : Int)).toNat = j := by omega
            refine wp_il1 iX9_who_40 ?_
            refine wp_il3 iX9_who_41 ?_
            refine wp_clt iX9_who_42 (fun c_42 => ?_) (fun c_42 => ?_)
            · have hji : j = i := by
                by_cases q : j < i
                · have := pF_mono (bstM M).2 (j + 1) (i - (j + 1))
                  rw [show j + 1 + (i - (j + 1)) = i by omega] at this
                  omega
                · omega
              have sj := hb.sh (i := j) (by omega)
              refine wp_al0 iX9_who_65 ?_
              refine wp_gR iX9_who_66 fr_9_105 rfl rfl rfl ?_
              refine wp_il2 iX9_who_69 ?_
              refine wp_ia iX9_who_70 rfl (by omega) ?_
              rw [tj]
              refine wp_bp iX9_who_71 (by decide) ?_
              refine wp_div iX9_who_73 (by omega) ?_
              refine wp_ret iX9_who_74 rfl ?_
              rw [sj.2.1]
              exact ⟨hg, Or.inr (Or.inr ⟨by omega, c_20, i, hi, ha, hbb, by rw [hji]⟩)⟩
            · have hji : j ≠ i := fun q => by rw [q] at c_42; omega
              have sj := hb.sh (i := j + 1) (by omega)
              have hu := pF_up (bstM M).2 (j + 1) (by omega)
              have := fb (j + 1)
              have := pF_n (bstM M).2 (j + 1)
              refine wp_ii2 iX9_who_45 (by omega) ?_
              refine wp_il3 iX9_who_48 ?_
              refine wp_al0 iX9_who_49 ?_
              refine wp_gR iX9_who_50 fr_9_105 rfl rfl rfl ?_
              refine wp_il2 iX9_who_53 ?_
              refine wp_ia iX9_who_54 rfl (by omega) ?_
              rw [show ((j : Int) + 1).toNat = j + 1 by omega]
              refine wp_bp iX9_who_55 (by decide) ?_
              refine wp_rem iX9_who_57 (by omega) ?_
              refine wp_ic iX9_who_58 (by decide) ?_
              refine wp_add iX9_who_59 (by omega) ?_
              refine wp_add iX9_who_60 (by omega) ?_
              refine wp_is3 iX9_who_61 ?_
              refine wp_goto iX9_who_62 ?_
              rw [sj.2.2, ← hu, show (j : Int) + 1 = ((j + 1 : Nat) : Int) by omega]
              exact ih _ (by omega) (j + 1) rfl (by omega)
        have k0 := key _ 0 rfl (by omega)
        have e1 : pF (bstM M).2 (0 + 1) = N 84 0 % 12 + 1 := by rw [pF_up _ 0 c_20, s0.2.2, pF_0]; omega
        rw [e1] at k0
        exact k0
    · refine wp_bp iX9_who_23 (by decide) ?_
      refine wp_ret iX9_who_25 rfl ?_
      exact ⟨hg, Or.inr (Or.inl ⟨by omega, c_20, rfl⟩)⟩
  · refine wp_ic iX9_who_14 (by decide) ?_
    refine wp_ret iX9_who_15 rfl ?_
    exact ⟨⟨fun _ _ _ _ _ _ => rfl, fun _ _ _ => rfl⟩, Or.inl ⟨by omega, rfl⟩⟩
set_option maxHeartbeats 1000000 in
theorem c_X9_up (h : hM M) (hw : hWM M) : ct L 5 mX9_up [.inr 56] M (fun r N1 => (¬ 0 < (bstM M).2.length ∧ r = some (.inl (-4)) ∧ gM M N1) ∨ (0 < (bstM M).2.length ∧ r = some (.inl ((bstM M).2.length : Int)) ∧ ∃ N, gM M N ∧ pUpM N (bstM M).2 (bstM M).2.length N1)) := by
  obtain ⟨h1, h2, h3, h4, h5, h6⟩ := id h
  refine ct_of rfl ?_
  change wp _ _ _ 0 [some (.inr 56), none, none] [] _ _
  refine wp_al0 iX9_up_0 ?_
  refine wp_v0x iX9_up_1 ml_9_198 rfl rfl rfl rfl (c_X9_findSharing L M h hw) (fun r N hx => ?_)
  obtain ⟨rfl, hg, hb⟩ := hx
  have hok := bstM_ok h hw
  refine wp_bne iX9_up_4 (fun c_4 => ?_) (fun c_4 => ?_)
  · rcases hok with hok | ⟨hok1, hok2, hok3, hok4⟩
    · exfalso; rw [hok] at c_4; exact absurd c_4 (by decide)
    · have hb1 := hb.1
      generalize hp : (bstM M).2 = p at *
      refine wp_al0 iX9_up_10 ?_
      refine wp_al0 iX9_up_11 ?_
      refine wp_gI iX9_up_12 fi_9_186 rfl ?_
      refine wp_pI iX9_up_15 fp_9_115 rfl ?_
      refine wp_al0 iX9_up_18 ?_
      refine wp_ic iX9_up_19 (by decide) ?_
      refine wp_pI iX9_up_20 fp_9_202 rfl ?_
      refine wp_ic iX9_up_23 (by decide) ?_
      refine wp_is1 iX9_up_24 ?_
      refine wp_ic iX9_up_25 (by decide) ?_
      refine wp_is2 iX9_up_26 ?_
      rw [hb1]
      have fb := fun j => pF_le p j
      have key : ∀ (m i : Nat) (N1 : ab_Me), p.length - i = m → i ≤ p.length → pUpM N p i N1 → wp L 4 mX9_up 27 [some (.inr 56), some (.inl (pF p i)), some (.inl (i : Int))] [] N1 (fun r N1 => (¬ 0 < p.length ∧ r = some (.inl (-4)) ∧ gM M N1) ∨ (0 < p.length ∧ r = some (.inl (p.length : Int)) ∧ ∃ N, gM M N ∧ pUpM N p p.length N1)) := by
        intro m
        induction m using Nat.strongRecOn with
        | ind m ih =>
          intro i N1 hm hi hq
          obtain ⟨q1, ⟨q2, q3, q4⟩, q63, q64, q65, q66⟩ := id hq
          have ti : ((i : Int)).toNat = i := by omega
          refine wp_il2 iX9_up_27 ?_
          refine wp_al0 iX9_up_28 ?_
          refine wp_gI iX9_up_29 fi_9_115 rfl ?_
          rw [q2]
          refine wp_cge iX9_up_32 (fun c_32 => ?_) (fun c_32 => ?_)
          · refine wp_al0 iX9_up_96 ?_
            refine wp_gI iX9_up_97 fi_9_115 rfl ?_
            rw [q2]
            refine wp_ret iX9_up_100 rfl ?_
            have hil : i = p.length := by omega
            rw [hil] at hq
            exact Or.inr ⟨c_4, rfl, N, hg, hq⟩
          · have hilt : i < p.length := by omega
            have sj := hb.sh (i := i) (by rw [hp]; exact hilt)
            rw [hp] at sj
            have hu := pF_up p i hilt
            have := fb i
            have := fb (i + 1)
            have := pF_n p i
            have hn0 := pWN_ok hok4 hilt
            have e84 : N1 84 = N 84 := q1 84 (by omega)
            refine wp_al0 iX9_up_35 ?_
            refine wp_gR iX9_up_36 fr_9_42 rfl rfl rfl ?_
            refine wp_il2 iX9_up_39 ?_
            refine wp_al0 iX9_up_40 ?_
            refine wp_gR iX9_up_41 fr_9_105 rfl rfl rfl ?_
            refine wp_il2 iX9_up_44 ?_
            refine wp_ia iX9_up_45 rfl (by omega) ?_
            rw [ti, e84]
            refine wp_bp iX9_up_46 (by decide) ?_
            refine wp_div iX9_up_48 (by omega) ?_
            refine wp_is iX9_up_49 rfl rfl (by omega) ?_
            rw [ti, sj.2.1]
            refine wp_al0 iX9_up_50 ?_
            refine wp_gR iX9_up_51 fr_9_45 rfl rfl rfl ?_
            refine wp_il2 iX9_up_54 ?_
            refine wp_il1 iX9_up_55 ?_
            refine wp_is iX9_up_56 rfl rfl (by omega) ?_
            rw [ti]
            obtain ⟨A, hA⟩ : ∃ A, A = ab_up (ab_up N1 63 i (pW p i)) 64 i (pF p i) := ⟨_, rfl⟩
            rw [← hA]
            have eA84 : A 84 = N 84 := by rw [hA, ab_up_ne _ _ _ (by decide), ab_up_ne _ _ _ (by decide)]; exact e84
            refine wp_al0 iX9_up_57 ?_
            refine wp_gR iX9_up_58 fr_9_48 rfl rfl rfl ?_
            refine wp_il2 iX9_up_61 ?_
            refine wp_al0 iX9_up_62 ?_
            refine wp_gR iX9_up_63 fr_9_105 rfl rfl rfl ?_
            refine wp_il2 iX9_up_66 ?_
            refine wp_ia iX9_up_67 rfl (by omega) ?_
            rw [ti, eA84]
            refine wp_bp iX9_up_68 (by decide) ?_
            refine wp_rem iX9_up_70 (by omega) ?_
            refine wp_ic iX9_up_71 (by decide) ?_
            refine wp_add iX9_up_72 (by omega) ?_
            rw [sj.2.2]
            refine wp_is iX9_up_73 rfl rfl (by omega) ?_
            refine wp_al0 iX9_up_74 ?_
            refine wp_gR iX9_up_75 fr_9_51 rfl rfl rfl ?_
            refine wp_il2 iX9_up_78 ?_
            refine wp_ic iX9_up_79 (by decide) ?_
            refine wp_is iX9_up_80 rfl rfl (by omega) ?_
            rw [ti]
            obtain ⟨B, hB1⟩ : ∃ B, B = ab_up (ab_up A 65 i (pN p i)) 66 i 0 := ⟨_, rfl⟩
            rw [← hB1]
            have eB : ∀ a, a < 63 ∨ 66 < a → B a = N1 a := fun a ha => by
              rw [hB1, ab_up_ne _ _ _ (by omega), ab_up_ne _ _ _ (by omega), hA, ab_up_ne _ _ _ (by omega), ab_up_ne _ _ _ (by omega)]
            have e63 : B 63 = ab_u1 (N1 63) i (pW p i) := by rw [hB1, ab_up_ne _ _ _ (by decide), ab_up_ne _ _ _ (by decide), hA, ab_up_ne _ _ _ (by decide), ab_up_self]
            have e64 : B 64 = ab_u1 (N1 64) i (pF p i) := by rw [hB1, ab_up_ne _ _ _ (by decide), ab_up_ne _ _ _ (by decide), hA, ab_up_self, ab_up_ne _ _ _ (by decide)]
            have e65 : B 65 = ab_u1 (N1 65) i (pN p i) := by rw [hB1, ab_up_ne _ _ _ (by decide), ab_up_self, hA, ab_up_ne _ _ _ (by decide), ab_up_ne _ _ _ (by decide)]
            have e66 : B 66 = ab_u1 (N1 66) i 0 := by rw [hB1, ab_up_self, ab_up_ne _ _ _ (by decide), hA, ab_up_ne _ _ _ (by decide), ab_up_ne _ _ _ (by decide)]
            have e65i : B 65 i = pN p i := by rw [e65, ab_u1_self]
            refine wp_il1 iX9_up_81 ?_
            refine wp_al0 iX9_up_82 ?_
            refine wp_gR iX9_up_83 fr_9_48 rfl rfl rfl ?_
            refine wp_il2 iX9_up_86 ?_
            refine wp_ia iX9_up_87 rfl (by omega) ?_
            rw [ti, e65i]
            refine wp_add iX9_up_88 (by omega) ?_
            refine wp_is1 iX9_up_89 ?_
            refine wp_ii2 iX9_up_90 (by omega) ?_
            refine wp_goto iX9_up_93 ?_
            rw [← hu, show (i : Int) + 1 = ((i + 1 : Nat) : Int) by omega]
            refine ih _ (by omega) (i + 1) B rfl (by omega) ⟨fun a ha => ?_, ⟨?_, ?_, fun j b1 b2 => ?_⟩, ?_, ?_, ?_, ?_⟩
            · rw [eB a (by omega)]; exact q1 a ha
            · rw [eB 56 (by omega)]; exact q2
            · rw [eB 56 (by omega)]; exact q3
            · rw [eB 56 (by omega)]; exact q4 j b1 b2
            · rw [e63]; exact row_up q63 rfl
            · rw [e64]; exact row_up q64 rfl
            · rw [e65]; exact row_up q65 rfl
            · rw [e66]; exact row_up (g := fun _ => 0) q66 rfl
      refine key _ 0 _ rfl (by omega) ⟨fun a ha => ?_, ⟨rfl, rfl, fun j b1 b2 => ?_⟩, ?_, ?_, ?_, ?_⟩
      · rw [ab_up_ne _ _ _ (by omega), ab_up_ne _ _ _ (by omega)]
      · rw [ab_up_self, ab_u1_ne _ _ b2, ab_up_self, ab_u1_ne _ _ b1]
      · intro k; rw [if_neg (by omega)]; rfl
      · intro k; rw [if_neg (by omega)]; rfl
      · intro k; rw [if_neg (by omega)]; rfl
      · intro k; rw [if_neg (by omega)]; rfl
  · refine wp_bp iX9_up_7 (by decide) ?_
    refine wp_ret iX9_up_9 rfl ?_
    exact Or.inl ⟨c_4, rfl, hg⟩
end UpM
