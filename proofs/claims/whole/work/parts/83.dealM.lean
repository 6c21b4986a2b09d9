/-! ===== DEALING of the reference: lot, deal, dealt ===== -/
def frM (M N : ab_Me) : Prop := (∀ a, a ≠ 56 → (a < 72 ∨ 80 < a) → N a = M a) ∧ ∀ j, j ≠ 24 → j ≠ 29 → j ≠ 31 → j ≠ 36 → N 56 j = M 56 j
def dkM (F T : List Nat) (yr : Nat → Int) (g : Nat → Nat) (N : ab_Me) : Prop := (F.length ≤ 8 ∧ T.length ≤ 4) ∧ (N 56 29 = (F.length : Int) ∧ N 56 31 = (T.length : Int)) ∧ rL (N 76) F ∧ rL (N 77) T ∧ (∀ i, i < F.length → 0 ≤ N 80 i ∧ nz T.length (N 80 i) = gi F g i) ∧ (∀ i, i < F.length → F.getD i 0 < 120 ∧ N 75 (F.getD i 0) = yr (F.getD i 0) ∧ 0 ≤ yr (F.getD i 0) ∧ yr (F.getD i 0) ≤ 720) ∧ (∀ l, l < T.length → T.getD l 0 < 12) ∧ N 56 36 = sm (yaT F T yr g) F.length
theorem dkM_lt {F T : List Nat} {yr : Nat → Int} {g : Nat → Nat} {N : ab_Me} (h : dkM F T yr g N) {i : Nat} (hi : i < F.length) : (N 80 i < (T.length : Int) ∧ gi F g i < T.length ∧ N 80 i = (gi F g i : Int)) ∨ ((T.length : Int) ≤ N 80 i ∧ ¬ gi F g i < T.length) := by
  have q := h.2.2.2.2.1 i hi
  have h4 := h.1.2
  rw [nz_eq q.1] at q
  by_cases z : N 80 i < (T.length : Int)
  · rw [if_pos z] at q; left; omega
  · rw [if_neg z] at q; right; omega
section DealM
variable (L : Nat) (M : ab_Me) {C R nL : Nat}
theorem c_X9_findDealing (h : hM M) (hC : M 56 0 = (C : Int)) (hR : M 56 1 = (R : Int)) (hl : hLoM M nL) (z : Int) : ct L 5 mX9_findDealing [.inr 56, .inl z] M (fun r N => frM M N ∧ ∃ nF xs fl, isF C R (M 57) nF xs fl ∧ ((r = some (.inl 0) ∧ ¬ ((gF (M 57) xs z nF).length ≤ 8 ∧ (gz (M 59) z nL).length ≤ 4)) ∨ (r = some (.inl 1) ∧ ∃ g, dbest (gz (M 59) z nL).length (gF (M 57) xs z nF).length (dC (gz (M 59) z nL) (M 60)) (dYn (gF (M 57) xs z nF) (fYarn C R (M 57) fl)) g ∧ dkM (gF (M 57) xs z nF) (gz (M 59) z nL) (fYarn C R (M 57) fl) g N))) := by
  refine ct_of rfl ?_
  change wp _ _ _ 0 [some (.inr 56), some (.inl z), none, none, none, none, none, none] [] _ _
  refine wp_al0 iX9_findDealing_0 ?_
  refine wp_il1 iX9_findDealing_1 ?_
  refine wp_v1x iX9_findDealing_2 ml_9_161 rfl rfl rfl rfl (c_X9_gather L M h hC hR hl z) (fun r N1 hx => ?_)
  obtain ⟨⟨a1, a2, n, xs, fl, a3, a4, a5, a6, a7, a8, a9, a10⟩, hr⟩ := hx
  have hin := gl_in (fun f => decide (M 57 (xs f) = z)) n
  have hiL := gl_in (fun f => decide (M 59 f = z)) nL
  change ∀ i, i < (gF (M 57) xs z n).length → (gF (M 57) xs z n).getD i 0 < n ∧ _ at hin
  change ∀ i, i < (gz (M 59) z nL).length → (gz (M 59) z nL).getD i 0 < nL ∧ _ at hiL
  generalize eF : gF (M 57) xs z n = F at *
  generalize eT : gz (M 59) z nL = T at *
  rw [a7, a8] at hr
  rcases hr with ⟨rfl, r1, r2⟩ | ⟨rfl, r1⟩
  · refine wp_zne iX9_findDealing_5 (fun _ => ?_) (fun c_5 => absurd c_5 (by decide))
    have hF8 : F.length ≤ 8 := by omega
    have hT4 : T.length ≤ 4 := by omega
    have b76 := a9 hF8
    have b77 := a10 hT4
    have e60 : N1 60 = M 60 := a1 60 (by decide) (by omega)
    have hyb : ∀ k, k < F.length → 0 ≤ dYn F (fYarn C R (M 57) fl) k ∧ dYn F (fYarn C R (M 57) fl) k ≤ 720 := fun k _ => fYarn_bd C R _ fl _
    have hcb : ∀ l, l < T.length → 0 ≤ dC T (M 60) l ∧ dC T (M 60) l ≤ 300 := fun l _ => hl.2.2 _
    have hii : ∀ i, i < F.length → 0 ≤ N1 76 i ∧ N1 76 i < 120 ∧ N1 75 (N1 76 i).toNat = dYn F (fYarn C R (M 57) fl) (F.length - 1 - i) := fun i hi => by
      have q := b76 i hi
      have q2 := (hin i hi).1
      rw [q]
      refine ⟨by omega, by omega, ?_⟩
      show _ = fYarn C R (M 57) fl (F.getD (F.length - 1 - (F.length - 1 - i)) 0)
      rw [show F.length - 1 - (F.length - 1 - i) = i by omega, Int.toNat_natCast]
      exact (a6 _ q2).2
    refine wp_ic iX9_findDealing_10 (by decide) ?_
    refine wp_is2 iX9_findDealing_11 ?_
    have key : ∀ (j l : Nat) (N : ab_Me), T.length - l = j → l ≤ T.length → (∀ a, a ≠ 78 → N a = N1 a) → (∀ l', l' < l → N 78 l' = dC T (M 60) l') → ∀ v3 v4 v5 v6 v7 : Option ab_V, wp L 4 mX9_findDealing 12 [some (.inr 56), some (.inl z), some (.inl (l : Int)), v3, v4, v5, v6, v7] [] N (fun r N => frM M N ∧ ∃ nF xs fl, isF C R (M 57) nF xs fl ∧ ((r = some (.inl 0) ∧ ¬ ((gF (M 57) xs z nF).length ≤ 8 ∧ T.length ≤ 4)) ∨ (r = some (.inl 1) ∧ ∃ g, dbest T.length (gF (M 57) xs z nF).length (dC T (M 60)) (dYn (gF (M 57) xs z nF) (fYarn C R (M 57) fl)) g ∧ dkM (gF (M 57) xs z nF) T (fYarn C R (M 57) fl) g N))) := by
      intro j
      induction j using Nat.strongRecOn with
      | ind j ih =>
        intro l N hj hlT hfr h78 v3 v4 v5 v6 v7
        have tl : ((l : Int)).toNat = l := by omega
        refine wp_il2 iX9_findDealing_12 ?_
        refine wp_al0 iX9_findDealing_13 ?_
        refine wp_gI iX9_findDealing_14 fi_9_158 rfl ?_
        rw [hfr 56 (by decide), a8]
        refine wp_cge iX9_findDealing_17 (fun c_17 => ?_) (fun c_17 => ?_)
        · have e : l = T.length := by omega
          subst e
          refine wp_al0 iX9_findDealing_43 ?_
          refine wp_ic iX9_findDealing_44 (by decide) ?_
          refine wp_pI iX9_findDealing_45 fp_9_165 rfl ?_
          refine wp_ic iX9_findDealing_48 (by decide) ?_
          refine wp_is2 iX9_findDealing_49 ?_
          refine wp_ic iX9_findDealing_50 (by decide) ?_
          refine wp_is3 iX9_findDealing_51 ?_
          refine wp_al0 iX9_findDealing_52 ?_
          refine wp_gR iX9_findDealing_53 fr_9_90 rfl rfl rfl ?_
          refine wp_ic iX9_findDealing_56 (by decide) ?_
          refine wp_ic iX9_findDealing_57 (by decide) ?_
          refine wp_is iX9_findDealing_58 rfl rfl (by omega) ?_
          refine wp_ic iX9_findDealing_59 (by decide) ?_
          refine wp_is4 iX9_findDealing_60 ?_
          have d00 : dst T.length F.length (dC T (M 60)) (dYn F (fYarn C R (M 57) fl)) N1 0 0 (ab_up N 56 36 (-1)) 0 := by
            refine ⟨⟨fun a x1 x2 x3 x4 => ?_, fun s hs => ?_⟩, fun i hi => by omega, fun i hi => by omega, fun l hlt => ?_, rfl⟩
            · rw [ab_up_ne _ _ _ x4]; exact hfr a x1
            · rw [ab_up_self, ab_u1_ne _ _ hs, hfr 56 (by decide)]
            · rw [ab_up_ne _ _ _ (by decide), h78 l hlt]
              refine ⟨?_, (hcb l hlt).1⟩
              show _ = _ - 0
              omega
          have dop := dst_open d00
          have eO : (sO T.length F.length (ab_up (ab_up N 56 36 (-1)) 79 0 (-1))).1 = -1 := by
            show ab_up (ab_up N 56 36 (-1)) 79 0 (-1) 56 36 = -1
            rw [ab_up_ne _ _ _ (by decide), ab_up_self, ab_u1_self]
          refine dfs_node L hF8 hT4 a7 a8 hii hyb hcb F.length 0 (by omega) (by omega) _ _ 0 (-1) rfl (fun _ => ⟨?_, dop⟩) (fun e0 => ?_) (Or.inl eO) ?_ _ _ _
          · show ab_up (ab_up N 56 36 (-1)) 79 0 (-1) 79 0 = -1
            rw [ab_up_self, ab_u1_self]
          · rw [← e0]
            refine ⟨dop.1, fun i hi => by omega, fun i hi => by omega, fun l hlt => ?_, rfl⟩
            have := d00.2.2.2.1 l hlt
            rw [← e0] at this
            show ab_up (ab_up N 56 36 (-1)) 79 0 (-1) 78 l = _ - 0 ∧ 0 ≤ ab_up (ab_up N 56 36 (-1)) 79 0 (-1) 78 l
            rw [ab_up_ne _ _ _ (show (78 : Nat) ≠ 79 by decide)]
            exact this
          · intro N' dl' zz v5 v6 v7 k1 k2 k3 k4
            have ez : zz = 0 := by omega
            subst ez
            refine wp_il4 iX9_findDealing_62 ?_
            refine wp_zeq iX9_findDealing_64 (fun _ => ?_) (fun c_64 => absurd rfl c_64)
            refine wp_ic iX9_findDealing_315 (by decide) ?_
            refine wp_retb iX9_findDealing_316 rfl (by decide) ?_
            have hyn : ∀ k, k < F.length → 0 ≤ dYn F (fYarn C R (M 57) fl) k := fun k hk => (hyb k hk).1
            have allX : ∀ b, dok T.length F.length (dC T (M 60)) (dYn F (fYarn C R (M 57) fl)) b → Xs T.length F.length (dC T (M 60)) (dYn F (fYarn C R (M 57) fl)) 0 (en T.length (ab_up (ab_up N 56 36 (-1)) 79 0 (-1))) (-1) b := fun b hb => ⟨hb, fun i hi => by omega, fun _ => ⟨by omega, by omega⟩⟩
            have h4 : dok T.length F.length (dC T (M 60)) (dYn F (fYarn C R (M 57) fl)) (fun _ => 4) := ⟨fun k hk => Or.inr rfl, fun l hlt => by
              rw [sm_congr F.length (g := fun _ => 0) (fun k hk => if_neg (show ¬ (4 : Nat) = l by omega)), sm_zero]
              exact (hcb l hlt).1⟩
            have q4 := k3.2 _ (allX _ h4)
            have qn := dY_nn (m := T.length) hyn (fun _ => 4)
            rcases k3.1 with ⟨w1, _⟩ | ⟨w1, w2, w3, w4⟩
            · rw [w1, eO] at q4
              omega
            · have gie : ∀ i, i < F.length → gi F (sO T.length F.length N').2 i = nz T.length (N' 80 i) := fun i hi => by
                show nz T.length (N' 80 (F.length - 1 - (F.length - 1 - i))) = _
                rw [show F.length - 1 - (F.length - 1 - i) = i by omega]
              have N76 : N' 76 = N1 76 := k1.1.1 76 (by decide) (by decide) (by decide) (by decide)
              have N77 : N' 77 = N1 77 := k1.1.1 77 (by decide) (by decide) (by decide) (by decide)
              have N75 : N' 75 = N1 75 := k1.1.1 75 (by decide) (by decide) (by decide) (by decide)
              refine ⟨⟨fun a x1 x2 => ?_, fun j x1 x2 x3 x4 => ?_⟩, n, xs, fl, a4, Or.inr ⟨rfl, (sO T.length F.length N').2, ?_⟩⟩
              · rw [k1.1.1 a (by omega) (by omega) (by omega) x1]; exact a1 a x1 (by omega)
              · rw [k1.1.2 j x4]; exact a2 j x1 x2 x3
              · rw [eF]
                refine ⟨⟨w2, fun b' hb' => (k3.2 b' (allX b' hb')).2⟩, ⟨hF8, hT4⟩, ⟨by rw [k1.1.2 29 (by decide)]; exact a7, by rw [k1.1.2 31 (by decide)]; exact a8⟩, by rw [N76]; exact b76, by rw [N77]; exact b77, fun i hi => ?_, fun i hi => ?_, fun l hlt => ?_, ?_⟩
                · have e := gie i hi
                  refine ⟨nz_pos hT4 ?_, e.symm⟩
                  rw [← e]
                  exact w2.1 (F.length - 1 - i) (by omega)
                · rw [N75]
                  have := (hin i hi).1
                  exact ⟨by omega, (a6 _ this).2, fYarn_bd C R _ fl _⟩
                · have := (hiL l hlt).1
                  have := hl.1
                  omega
                · show (sO T.length F.length N').1 = _
                  rw [w3]
                  unfold dY
                  rw [sm_rev]
                  refine sm_congr F.length (fun i hi => ?_)
                  show (if gi F (sO T.length F.length N').2 i < T.length then fYarn C R (M 57) fl (F.getD (F.length - 1 - (F.length - 1 - i)) 0) else 0) = yaT F T _ _ i
                  rw [show F.length - 1 - (F.length - 1 - i) = i by omega]
                  rfl
        · have hlt : l < T.length := by omega
          have q := (hiL l hlt).1
          have hl12 := hl.1
          refine wp_al0 iX9_findDealing_20 ?_
          refine wp_gR iX9_findDealing_21 fr_9_87 rfl rfl rfl ?_
          refine wp_il2 iX9_findDealing_24 ?_
          refine wp_al0 iX9_findDealing_25 ?_
          refine wp_gR iX9_findDealing_26 fr_9_27 rfl rfl rfl ?_
          refine wp_al0 iX9_findDealing_29 ?_
          refine wp_gR iX9_findDealing_30 fr_9_84 rfl rfl rfl ?_
          refine wp_il2 iX9_findDealing_33 ?_
          refine wp_ia iX9_findDealing_34 rfl (by omega) ?_
          rw [tl, hfr 77 (by decide), b77 l hlt]
          refine wp_ia iX9_findDealing_35 rfl (by omega) ?_
          refine wp_is iX9_findDealing_36 rfl rfl (by omega) ?_
          rw [tl, Int.toNat_natCast, hfr 60 (by decide), e60]
          refine wp_ii2 iX9_findDealing_37 (by omega) ?_
          refine wp_goto iX9_findDealing_40 ?_
          rw [show (l : Int) + 1 = ((l + 1 : Nat) : Int) by omega]
          refine ih _ (by omega) (l + 1) _ rfl (by omega) (fun a ha => by rw [ab_up_ne _ _ _ ha]; exact hfr a ha) (fun l' hl' => ?_) _ _ _ _ _
          rw [ab_up_self]
          by_cases e : l' = l
          · subst e; rw [ab_u1_self]; rfl
          · rw [ab_u1_ne _ _ e]; exact h78 l' (by omega)
    exact key _ 0 N1 rfl (by omega) (fun _ _ => rfl) (fun l' hl' => by omega) _ _ _ _ _
  · refine wp_zne iX9_findDealing_5 (fun c_5 => absurd rfl c_5) (fun _ => ?_)
    refine wp_ic iX9_findDealing_8 (by decide) ?_
    refine wp_retb iX9_findDealing_9 rfl (by decide) ?_
    refine ⟨⟨fun a x1 x2 => a1 a x1 (by omega), fun j x1 x2 x3 x4 => a2 j x1 x2 x3⟩, n, xs, fl, a4, Or.inl ⟨rfl, ?_⟩⟩
    rw [eF]
    omega
theorem c_X9_deal (h : hM M) (hC : M 56 0 = (C : Int)) (hR : M 56 1 = (R : Int)) (hl : hLoM M nL) (f : Int) : ct L 6 mX9_deal [.inr 56, .inl f] M (fun r N => frM M N ∧ ∃ nF xs fl, isF C R (M 57) nF xs fl ∧ ((¬ (0 ≤ f ∧ f < (nF : Int)) ∧ r = some (.inl (-1))) ∨ ((0 ≤ f ∧ f < (nF : Int)) ∧ ∃ v, r = some (.inl v) ∧ dAns (gF (M 57) xs (M 57 (xs f.toNat)) nF) (gz (M 59) (M 57 (xs f.toNat)) nL) (M 60) (fYarn C R (M 57) fl) (fun g => lfV (gF (M 57) xs (M 57 (xs f.toNat)) nF) (gz (M 59) (M 57 (xs f.toNat)) nL) f g (gF (M 57) xs (M 57 (xs f.toNat)) nF).length) v))) := by
  refine ct_of rfl ?_
  change wp _ _ _ 0 [some (.inr 56), some (.inl f), none, none] [] _ _
  refine wp_al0 iX9_deal_0 ?_
  refine wp_v0x iX9_deal_1 ml_9_149 rfl rfl rfl rfl (c_X9_findFields L M h hC hR) (fun r N hx => ?_)
  obtain ⟨rfl, f1, f1', n, xs, fl, f2, f3, f4, f5, f6⟩ := hx
  refine wp_il1 iX9_deal_4 ?_
  refine wp_ic iX9_deal_5 (by decide) ?_
  refine wp_al0 iX9_deal_6 ?_
  refine wp_gI iX9_deal_7 fi_9_143 rfl ?_
  rw [f4]
  refine wp_ic iX9_deal_10 (by decide) ?_
  refine wp_sub iX9_deal_11 (by omega) ?_
  refine wp_s3f iX9_deal_12 ml_9_111 rfl rfl rfl (c_X9_in L N f 0 ((n : Int) - 1)) ?_
  refine wp_bne iX9_deal_15 (fun c_15 => ?_) (fun c_15 => ?_)
  · have hft : f.toNat < n := by omega
    have e57 : N 57 = M 57 := f1 57 (by decide) (by omega)
    have e58 : N 58 = M 58 := f1 58 (by decide) (by omega)
    have e59 : N 59 = M 59 := f1 59 (by decide) (by omega)
    have e60 : N 60 = M 60 := f1 60 (by decide) (by omega)
    have hx120 : xs f.toNat < 120 := on_lt (by have := h.2.1; omega) (by have := h.2.2.2.1; omega) (f3.1 _ hft).1
    refine wp_al0 iX9_deal_20 ?_
    refine wp_al0 iX9_deal_21 ?_
    refine wp_gR iX9_deal_22 fr_9_16 rfl rfl rfl ?_
    refine wp_al0 iX9_deal_25 ?_
    refine wp_gR iX9_deal_26 fr_9_72 rfl rfl rfl ?_
    refine wp_il1 iX9_deal_29 ?_
    refine wp_ia iX9_deal_30 rfl (by omega) ?_
    rw [(f6 _ hft).1]
    refine wp_ia iX9_deal_31 rfl (by omega) ?_
    rw [Int.toNat_natCast, e57]
    refine wp_v1x iX9_deal_32 ml_9_171 rfl rfl rfl rfl (c_X9_findDealing L N (C := C) (R := R) (nL := nL) (by unfold hM; rw [f1' 0 (by decide), f1' 1 (by decide), e57, e58]; exact h) (by rw [f1' 0 (by decide)]; exact hC) (by rw [f1' 1 (by decide)]; exact hR) (by unfold hLoM; rw [f1' 4 (by decide), e60]; exact hl) (M 57 (xs f.toNat))) (fun r N1 hx => ?_)
    rw [e57, e59, e60] at hx
    obtain ⟨g1, n', xs', fl', g2, g3⟩ := hx
    obtain ⟨u1, u2, u3⟩ := isF_uq f3 g2
    subst u1
    have fr : frM M N1 := ⟨fun a x1 x2 => by rw [g1.1 a x1 x2]; exact f1 a x1 (by omega), fun j x1 x2 x3 x4 => by rw [g1.2 j x1 x2 x3 x4]; exact f1' j x1⟩
    rw [u2 _ hft] at g3
    generalize hz : M 57 (xs' f.toNat) = z at g3
    have c15 : 0 ≤ f ∧ f < (n : Int) := by omega
    rcases g3 with ⟨rfl, g3⟩ | ⟨rfl, g, g3, g4⟩
    · refine wp_zne iX9_deal_35 (fun c_35 => absurd rfl c_35) (fun _ => ?_)
      refine wp_bp iX9_deal_38 (by decide) ?_
      refine wp_ret iX9_deal_40 rfl ?_
      refine ⟨fr, n, xs', fl', g2, Or.inr ⟨c15, _, rfl, ?_⟩⟩
      rw [hz]
      exact Or.inl ⟨g3, rfl⟩
    · refine wp_zne iX9_deal_35 (fun _ => ?_) (fun c_35 => absurd c_35 (by decide))
      have fin : ∀ v : Int, v = lfV (gF (M 57) xs' z n) (gz (M 59) z nL) f g (gF (M 57) xs' z n).length → (frM M N1 ∧ ∃ nF xs fl, isF C R (M 57) nF xs fl ∧ ((¬ (0 ≤ f ∧ f < (nF : Int)) ∧ (some (.inl v) : Option ab_V) = some (.inl (-1))) ∨ ((0 ≤ f ∧ f < (nF : Int)) ∧ ∃ w, (some (.inl v) : Option ab_V) = some (.inl w) ∧ dAns (gF (M 57) xs (M 57 (xs f.toNat)) nF) (gz (M 59) (M 57 (xs f.toNat)) nL) (M 60) (fYarn C R (M 57) fl) (fun g => lfV (gF (M 57) xs (M 57 (xs f.toNat)) nF) (gz (M 59) (M 57 (xs f.toNat)) nL) f g (gF (M 57) xs (M 57 (xs f.toNat)) nF).length) w))) := fun v hv => by
        refine ⟨fr, n, xs', fl', g2, Or.inr ⟨c15, v, rfl, ?_⟩⟩
        rw [hz]
        exact Or.inr ⟨g4.1, g, g3, hv⟩
      generalize gF (M 57) xs' z n = F at g3 g4 fin
      generalize gz (M 59) z nL = T at g3 g4 fin
      obtain ⟨⟨k1, k2⟩, ⟨k3, k4⟩, k5, k6, k7, k8, k9, k10⟩ := id g4
      refine wp_bp iX9_deal_41 (by decide) ?_
      refine wp_is2 iX9_deal_43 ?_
      refine wp_ic iX9_deal_44 (by decide) ?_
      refine wp_is3 iX9_deal_45 ?_
      have key : ∀ (j i : Nat), F.length - i = j → i ≤ F.length → wp L 5 mX9_deal 46 [some (.inr 56), some (.inl f), some (.inl (lfV F T f g i)), some (.inl (i : Int))] [] N1 (fun r N => frM M N ∧ ∃ nF xs fl, isF C R (M 57) nF xs fl ∧ ((¬ (0 ≤ f ∧ f < (nF : Int)) ∧ r = some (.inl (-1))) ∨ ((0 ≤ f ∧ f < (nF : Int)) ∧ ∃ v, r = some (.inl v) ∧ dAns (gF (M 57) xs (M 57 (xs f.toNat)) nF) (gz (M 59) (M 57 (xs f.toNat)) nL) (M 60) (fYarn C R (M 57) fl) (fun g => lfV (gF (M 57) xs (M 57 (xs f.toNat)) nF) (gz (M 59) (M 57 (xs f.toNat)) nL) f g (gF (M 57) xs (M 57 (xs f.toNat)) nF).length) v))) := by
        intro j
        induction j using Nat.strongRecOn with
        | ind j ih =>
          intro i hj hi
          have ti : ((i : Int)).toNat = i := by omega
          refine wp_il3 iX9_deal_46 ?_
          refine wp_al0 iX9_deal_47 ?_
          refine wp_gI iX9_deal_48 fi_9_155 rfl ?_
          rw [k3]
          refine wp_cge iX9_deal_51 (fun c_51 => ?_) (fun c_51 => ?_)
          · have e : i = F.length := by omega
            subst e
            refine wp_il2 iX9_deal_99 ?_
            refine wp_ret iX9_deal_100 rfl ?_
            exact fin _ rfl
          · have hil : i < F.length := by omega
            have stp : ∀ v : Int, v = lfV F T f g (i + 1) → wp L 5 mX9_deal 92 [some (.inr 56), some (.inl f), some (.inl (lfV F T f g i)), some (.inl (i : Int))] [.inl v] N1 (fun r N => frM M N ∧ ∃ nF xs fl, isF C R (M 57) nF xs fl ∧ ((¬ (0 ≤ f ∧ f < (nF : Int)) ∧ r = some (.inl (-1))) ∨ ((0 ≤ f ∧ f < (nF : Int)) ∧ ∃ v, r = some (.inl v) ∧ dAns (gF (M 57) xs (M 57 (xs f.toNat)) nF) (gz (M 59) (M 57 (xs f.toNat)) nL) (M 60) (fYarn C R (M 57) fl) (fun g => lfV (gF (M 57) xs (M 57 (xs f.toNat)) nF) (gz (M 59) (M 57 (xs f.toNat)) nL) f g (gF (M 57) xs (M 57 (xs f.toNat)) nF).length) v))) := by
              intro v hv
              refine wp_is2 iX9_deal_92 ?_
              refine wp_ii3 iX9_deal_93 (by omega) ?_
              refine wp_goto iX9_deal_96 ?_
              rw [hv, show (i : Int) + 1 = ((i + 1 : Nat) : Int) by omega]
              exact ih _ (by omega) (i + 1) rfl (by omega)
            have un : lfV F T f g (i + 1) = if ((F.getD i 0 : Nat) : Int) = f ∧ gi F g i < T.length then ((T.getD (gi F g i) 0 : Nat) : Int) else lfV F T f g i := rfl
            have cs := dkM_lt g4 hil
            have q7 := k7 i hil
            refine wp_al0 iX9_deal_54 ?_
            refine wp_gR iX9_deal_55 fr_9_81 rfl rfl rfl ?_
            refine wp_il3 iX9_deal_58 ?_
            refine wp_ia iX9_deal_59 rfl (by omega) ?_
            rw [ti, k5 i hil]
            refine wp_il1 iX9_deal_60 ?_
            refine wp_cne iX9_deal_61 (fun c_61 => ?_) (fun c_61 => ?_)
            · refine wp_il2 iX9_deal_91 ?_
              exact stp _ (by rw [un, if_neg (fun w => c_61 w.1)])
            · have c_61 : ((F.getD i 0 : Nat) : Int) = f := by simpa using c_61
              refine wp_al0 iX9_deal_64 ?_
              refine wp_gR iX9_deal_65 fr_9_93 rfl rfl rfl ?_
              refine wp_il3 iX9_deal_68 ?_
              refine wp_ia iX9_deal_69 rfl (by omega) ?_
              rw [ti]
              refine wp_al0 iX9_deal_70 ?_
              refine wp_gI iX9_deal_71 fi_9_158 rfl ?_
              rw [k4]
              refine wp_cge iX9_deal_74 (fun c_74 => ?_) (fun c_74 => ?_)
              · refine wp_il2 iX9_deal_91 ?_
                exact stp _ (by rw [un, if_neg (fun w => by have := w.2; omega)])
              · have hgl : gi F g i < T.length := by omega
                have e80 : N1 80 i = (gi F g i : Int) := by omega
                refine wp_al0 iX9_deal_77 ?_
                refine wp_gR iX9_deal_78 fr_9_84 rfl rfl rfl ?_
                refine wp_al0 iX9_deal_81 ?_
                refine wp_gR iX9_deal_82 fr_9_93 rfl rfl rfl ?_
                refine wp_il3 iX9_deal_85 ?_
                refine wp_ia iX9_deal_86 rfl (by omega) ?_
                rw [ti, e80]
                refine wp_ia iX9_deal_87 rfl (by omega) ?_
                rw [Int.toNat_natCast, k6 _ hgl]
                refine wp_goto iX9_deal_88 ?_
                exact stp _ (by rw [un, if_pos ⟨c_61, hgl⟩])
      exact key _ 0 rfl (by omega)
  · refine wp_ic iX9_deal_18 (by decide) ?_
    refine wp_ret iX9_deal_19 rfl ?_
    exact ⟨⟨fun a x1 x2 => f1 a x1 (by omega), fun j x1 x2 x3 x4 => f1' j x1⟩, n, xs, fl, f3, Or.inl ⟨by omega, rfl⟩⟩
end DealM
