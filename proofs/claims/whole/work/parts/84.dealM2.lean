/-! ===== DEALING of the reference: lot, dealt ===== -/
section DealM2
variable (L : Nat) (M : ab_Me) {C R nL : Nat}
theorem c_X9_dealt (h : hM M) (hC : M 56 0 = (C : Int)) (hR : M 56 1 = (R : Int)) (hl : hLoM M nL) (z what : Int) : ct L 6 mX9_dealt [.inr 56, .inl z, .inl what] M (fun (r : Option ab_V) (N : ab_Me) => frM M N ∧ ((¬ ((0 ≤ z ∧ z < 8) ∧ 0 ≤ what ∧ what ≤ 2) ∧ r = some (.inl (-1))) ∨ (((0 ≤ z ∧ z < 8) ∧ 0 ≤ what ∧ what ≤ 2) ∧ ∃ nF xs fl v, isF C R (M 57) nF xs fl ∧ r = some (.inl v) ∧ dAns (gF (M 57) xs z nF) (gz (M 59) z nL) (M 60) (fYarn C R (M 57) fl) (dtV what (gF (M 57) xs z nF) (gz (M 59) z nL) (fYarn C R (M 57) fl)) v))) := by
  refine ct_of rfl ?_
  change wp _ _ _ 0 [some (.inr 56), some (.inl z), some (.inl what), none, none] [] _ _
  have rf : frM M M := ⟨fun _ _ _ => rfl, fun _ _ _ _ _ => rfl⟩
  refine wp_il1 iX9_dealt_0 ?_
  refine wp_ic iX9_dealt_1 (by decide) ?_
  refine wp_bp iX9_dealt_2 (by decide) ?_
  refine wp_s3f iX9_dealt_4 ml_9_111 rfl rfl rfl (c_X9_in L M z 0 7) ?_
  refine wp_beq iX9_dealt_7 (fun c_7 => ?_) (fun c_7 => ?_)
  · refine wp_ic iX9_dealt_19 (by decide) ?_
    refine wp_ret iX9_dealt_20 rfl ?_
    exact ⟨rf, Or.inl ⟨by omega, rfl⟩⟩
  · refine wp_il2 iX9_dealt_10 ?_
    refine wp_ic iX9_dealt_11 (by decide) ?_
    refine wp_ic iX9_dealt_12 (by decide) ?_
    refine wp_s3f iX9_dealt_13 ml_9_111 rfl rfl rfl (c_X9_in L M what 0 2) ?_
    refine wp_bne iX9_dealt_16 (fun c_16 => ?_) (fun c_16 => ?_)
    · have hok : (0 ≤ z ∧ z < 8) ∧ 0 ≤ what ∧ what ≤ 2 := by omega
      refine wp_al0 iX9_dealt_21 ?_
      refine wp_il1 iX9_dealt_22 ?_
      refine wp_v1x iX9_dealt_23 ml_9_171 rfl rfl rfl rfl (c_X9_findDealing L M h hC hR hl z) (fun r N hx => ?_)
      obtain ⟨g1, n, xs, fl, g2, g3⟩ := hx
      rcases g3 with ⟨rfl, g3⟩ | ⟨rfl, g, g3, g4⟩
      · refine wp_zne iX9_dealt_26 (fun c_26 => absurd rfl c_26) (fun _ => ?_)
        refine wp_bp iX9_dealt_29 (by decide) ?_
        refine wp_ret iX9_dealt_31 rfl ?_
        exact ⟨g1, Or.inr ⟨hok, n, xs, fl, _, g2, rfl, Or.inl ⟨g3, rfl⟩⟩⟩
      · refine wp_zne iX9_dealt_26 (fun _ => ?_) (fun c_26 => absurd c_26 (by decide))
        have fin : ∀ v : Int, v = dtV what (gF (M 57) xs z n) (gz (M 59) z nL) (fYarn C R (M 57) fl) g → (fun (r : Option ab_V) (N : ab_Me) => frM M N ∧ ((¬ ((0 ≤ z ∧ z < 8) ∧ 0 ≤ what ∧ what ≤ 2) ∧ r = some (.inl (-1))) ∨ (((0 ≤ z ∧ z < 8) ∧ 0 ≤ what ∧ what ≤ 2) ∧ ∃ nF xs fl v, isF C R (M 57) nF xs fl ∧ r = some (.inl v) ∧ dAns (gF (M 57) xs z nF) (gz (M 59) z nL) (M 60) (fYarn C R (M 57) fl) (dtV what (gF (M 57) xs z nF) (gz (M 59) z nL) (fYarn C R (M 57) fl)) v))) (some (.inl v)) N := fun v hv => ⟨g1, Or.inr ⟨hok, n, xs, fl, v, g2, rfl, Or.inr ⟨g4.1, g, g3, hv⟩⟩⟩
        generalize gF (M 57) xs z n = F at g3 g4 fin
        obtain ⟨⟨k1, k2⟩, ⟨k3, k4⟩, k5, k6, k7, k8, k9, k10⟩ := id g4
        have bd : ∀ i, i ≤ F.length → 0 ≤ sm (ctT F (gz (M 59) z nL) g) i ∧ sm (ctT F (gz (M 59) z nL) g) i ≤ 8 := fun i hi => by
          refine ⟨sm_nn i (fun k hk => ?_), Int.le_trans (sm_up_to (z := 1) i (fun k hk => ?_)) (by omega)⟩ <;> (unfold ctT; split <;> omega)
        refine wp_ic iX9_dealt_32 (by decide) ?_
        refine wp_is3 iX9_dealt_33 ?_
        refine wp_ic iX9_dealt_34 (by decide) ?_
        refine wp_is4 iX9_dealt_35 ?_
        have key : ∀ (j i : Nat), F.length - i = j → i ≤ F.length → wp L 5 mX9_dealt 37 [some (.inr 56), some (.inl z), some (.inl what), some (.inl (sm (ctT F (gz (M 59) z nL) g) i)), some (.inl (i : Int))] [] N (fun (r : Option ab_V) (N : ab_Me) => frM M N ∧ ((¬ ((0 ≤ z ∧ z < 8) ∧ 0 ≤ what ∧ what ≤ 2) ∧ r = some (.inl (-1))) ∨ (((0 ≤ z ∧ z < 8) ∧ 0 ≤ what ∧ what ≤ 2) ∧ ∃ nF xs fl v, isF C R (M 57) nF xs fl ∧ r = some (.inl v) ∧ dAns (gF (M 57) xs z nF) (gz (M 59) z nL) (M 60) (fYarn C R (M 57) fl) (dtV what (gF (M 57) xs z nF) (gz (M 59) z nL) (fYarn C R (M 57) fl)) v))) := by
          intro j
          induction j using Nat.strongRecOn with
          | ind j ih =>
            intro i hj hi
            have ti : ((i : Int)).toNat = i := by omega
            have b1 := bd i hi
            refine wp_il4 iX9_dealt_37 ?_
            refine wp_al0 iX9_dealt_39 ?_
            refine wp_gI iX9_dealt_40 fi_9_155 rfl ?_
            rw [k3]
            refine wp_cge iX9_dealt_43 (fun c_43 => ?_) (fun c_43 => ?_)
            · have e : i = F.length := by omega
              subst e
              refine wp_il2 iX9_dealt_74 ?_
              refine wp_zne iX9_dealt_75 (fun c_75 => ?_) (fun c_75 => ?_)
              · refine wp_il2 iX9_dealt_85 ?_
                refine wp_ic iX9_dealt_86 (by decide) ?_
                refine wp_cne iX9_dealt_87 (fun c_87 => ?_) (fun c_87 => ?_)
                · refine wp_al0 iX9_dealt_94 ?_
                  refine wp_gI iX9_dealt_95 fi_9_155 rfl ?_
                  rw [k3]
                  refine wp_il3 iX9_dealt_98 ?_
                  refine wp_sub iX9_dealt_99 (by omega) ?_
                  refine wp_ret iX9_dealt_100 rfl ?_
                  refine fin _ ?_
                  unfold dtV
                  rw [if_neg c_75, if_neg c_87]
                · refine wp_il3 iX9_dealt_90 ?_
                  refine wp_goto iX9_dealt_91 ?_
                  refine wp_ret iX9_dealt_100 rfl ?_
                  refine fin _ ?_
                  unfold dtV
                  rw [if_neg c_75, if_pos (by omega)]
              · refine wp_al0 iX9_dealt_78 ?_
                refine wp_gI iX9_dealt_79 fi_9_165 rfl ?_
                rw [k10]
                refine wp_goto iX9_dealt_82 ?_
                refine wp_ret iX9_dealt_100 rfl ?_
                refine fin _ ?_
                unfold dtV
                rw [if_pos (by omega)]
            · have hil : i < F.length := by omega
              have cs := dkM_lt g4 hil
              have stp : ∀ v : Int, v = ctT F (gz (M 59) z nL) g i → wp L 5 mX9_dealt 66 [some (.inr 56), some (.inl z), some (.inl what), some (.inl (sm (ctT F (gz (M 59) z nL) g) i)), some (.inl (i : Int))] [.inl v, .inl (sm (ctT F (gz (M 59) z nL) g) i)] N (fun (r : Option ab_V) (N : ab_Me) => frM M N ∧ ((¬ ((0 ≤ z ∧ z < 8) ∧ 0 ≤ what ∧ what ≤ 2) ∧ r = some (.inl (-1))) ∨ (((0 ≤ z ∧ z < 8) ∧ 0 ≤ what ∧ what ≤ 2) ∧ ∃ nF xs fl v, isF C R (M 57) nF xs fl ∧ r = some (.inl v) ∧ dAns (gF (M 57) xs z nF) (gz (M 59) z nL) (M 60) (fYarn C R (M 57) fl) (dtV what (gF (M 57) xs z nF) (gz (M 59) z nL) (fYarn C R (M 57) fl)) v))) := by
                intro v hv
                have hv2 : 0 ≤ v ∧ v ≤ 1 := by rw [hv]; unfold ctT; split <;> omega
                refine wp_add iX9_dealt_66 (by omega) ?_
                refine wp_is3 iX9_dealt_67 ?_
                refine wp_ii4 iX9_dealt_68 (by omega) ?_
                refine wp_goto iX9_dealt_71 ?_
                rw [show sm (ctT F (gz (M 59) z nL) g) i + v = sm (ctT F (gz (M 59) z nL) g) (i + 1) by rw [hv]; rfl, show (i : Int) + 1 = ((i + 1 : Nat) : Int) by omega]
                exact ih _ (by omega) (i + 1) rfl (by omega)
              refine wp_il3 iX9_dealt_46 ?_
              refine wp_al0 iX9_dealt_47 ?_
              refine wp_gR iX9_dealt_48 fr_9_93 rfl rfl rfl ?_
              refine wp_il4 iX9_dealt_51 ?_
              refine wp_ia iX9_dealt_53 rfl (by omega) ?_
              rw [ti]
              refine wp_al0 iX9_dealt_54 ?_
              refine wp_gI iX9_dealt_55 fi_9_158 rfl ?_
              rw [k4]
              refine wp_cge iX9_dealt_58 (fun c_58 => ?_) (fun c_58 => ?_)
              · refine wp_ic iX9_dealt_65 (by decide) ?_
                exact stp _ (by unfold ctT; rw [if_neg (by omega)])
              · refine wp_ic iX9_dealt_61 (by decide) ?_
                refine wp_goto iX9_dealt_62 ?_
                exact stp _ (by unfold ctT; rw [if_pos (by omega)])
        exact key _ 0 rfl (by omega)
    · refine wp_ic iX9_dealt_19 (by decide) ?_
      refine wp_ret iX9_dealt_20 rfl ?_
      exact ⟨rf, Or.inl ⟨by omega, rfl⟩⟩
theorem c_X9_lot (h : hM M) (hC : M 56 0 = (C : Int)) (hR : M 56 1 = (R : Int)) (hl : hLoM M nL) (lot what : Int) : ct L 6 mX9_lot [.inr 56, .inl lot, .inl what] M (fun (r : Option ab_V) (N : ab_Me) => frM M N ∧ ((¬ ((0 ≤ lot ∧ lot < (nL : Int)) ∧ 0 ≤ what ∧ what ≤ 2) ∧ r = some (.inl (-1))) ∨ ((0 ≤ lot ∧ lot < (nL : Int)) ∧ what = 0 ∧ r = some (.inl (M 59 lot.toNat))) ∨ ((0 ≤ lot ∧ lot < (nL : Int)) ∧ what = 1 ∧ r = some (.inl (M 60 lot.toNat))) ∨ ((0 ≤ lot ∧ lot < (nL : Int)) ∧ what = 2 ∧ ∃ nF xs fl v, isF C R (M 57) nF xs fl ∧ r = some (.inl v) ∧ dAns (gF (M 57) xs (M 59 lot.toNat) nF) (gz (M 59) (M 59 lot.toNat) nL) (M 60) (fYarn C R (M 57) fl) (fun g => sm (yfT (gF (M 57) xs (M 59 lot.toNat) nF) (gz (M 59) (M 59 lot.toNat) nL) (fYarn C R (M 57) fl) lot g) (gF (M 57) xs (M 59 lot.toNat) nF).length) v))) := by
  obtain ⟨l1, l2, l3⟩ := id hl
  refine ct_of rfl ?_
  change wp _ _ _ 0 [some (.inr 56), some (.inl lot), some (.inl what), none, none] [] _ _
  have rf : frM M M := ⟨fun _ _ _ => rfl, fun _ _ _ _ _ => rfl⟩
  refine wp_il1 iX9_lot_0 ?_
  refine wp_ic iX9_lot_1 (by decide) ?_
  refine wp_al0 iX9_lot_2 ?_
  refine wp_gI iX9_lot_3 fi_9_152 rfl ?_
  rw [l2]
  refine wp_ic iX9_lot_6 (by decide) ?_
  refine wp_sub iX9_lot_7 (by omega) ?_
  refine wp_s3f iX9_lot_8 ml_9_111 rfl rfl rfl (c_X9_in L M lot 0 ((nL : Int) - 1)) ?_
  refine wp_beq iX9_lot_11 (fun c_11 => ?_) (fun c_11 => ?_)
  · refine wp_ic iX9_lot_23 (by decide) ?_
    refine wp_ret iX9_lot_24 rfl ?_
    exact ⟨rf, Or.inl ⟨by omega, rfl⟩⟩
  · refine wp_il2 iX9_lot_14 ?_
    refine wp_ic iX9_lot_15 (by decide) ?_
    refine wp_ic iX9_lot_16 (by decide) ?_
    refine wp_s3f iX9_lot_17 ml_9_111 rfl rfl rfl (c_X9_in L M what 0 2) ?_
    refine wp_bne iX9_lot_20 (fun c_20 => ?_) (fun c_20 => ?_)
    · have hlo : 0 ≤ lot ∧ lot < (nL : Int) := by omega
      refine wp_il2 iX9_lot_25 ?_
      refine wp_ic iX9_lot_26 (by decide) ?_
      refine wp_cge iX9_lot_27 (fun c_27 => ?_) (fun c_27 => ?_)
      · have hw : what = 2 := by omega
        generalize hz : M 59 lot.toNat = z
        refine wp_al0 iX9_lot_50 ?_
        refine wp_al0 iX9_lot_51 ?_
        refine wp_gR iX9_lot_52 fr_9_24 rfl rfl rfl ?_
        refine wp_il1 iX9_lot_55 ?_
        refine wp_ia iX9_lot_56 rfl (by omega) ?_
        rw [hz]
        refine wp_v1x iX9_lot_57 ml_9_171 rfl rfl rfl rfl (c_X9_findDealing L M h hC hR hl z) (fun r N hx => ?_)
        obtain ⟨g1, n, xs, fl, g2, g3⟩ := hx
        rcases g3 with ⟨rfl, g3⟩ | ⟨rfl, g, g3, g4⟩
        · refine wp_zne iX9_lot_60 (fun c_60 => absurd rfl c_60) (fun _ => ?_)
          refine wp_bp iX9_lot_63 (by decide) ?_
          refine wp_ret iX9_lot_65 rfl ?_
          exact ⟨g1, Or.inr (Or.inr (Or.inr ⟨hlo, hw, n, xs, fl, _, g2, rfl, Or.inl ⟨g3, rfl⟩⟩))⟩
        · refine wp_zne iX9_lot_60 (fun _ => ?_) (fun c_60 => absurd c_60 (by decide))
          have fin : ∀ v : Int, v = sm (yfT (gF (M 57) xs z n) (gz (M 59) z nL) (fYarn C R (M 57) fl) lot g) (gF (M 57) xs z n).length → (fun (r : Option ab_V) (N : ab_Me) => frM M N ∧ ((¬ ((0 ≤ lot ∧ lot < (nL : Int)) ∧ 0 ≤ what ∧ what ≤ 2) ∧ r = some (.inl (-1))) ∨ ((0 ≤ lot ∧ lot < (nL : Int)) ∧ what = 0 ∧ r = some (.inl z)) ∨ ((0 ≤ lot ∧ lot < (nL : Int)) ∧ what = 1 ∧ r = some (.inl (M 60 lot.toNat))) ∨ ((0 ≤ lot ∧ lot < (nL : Int)) ∧ what = 2 ∧ ∃ nF xs fl v, isF C R (M 57) nF xs fl ∧ r = some (.inl v) ∧ dAns (gF (M 57) xs z nF) (gz (M 59) z nL) (M 60) (fYarn C R (M 57) fl) (fun g => sm (yfT (gF (M 57) xs z nF) (gz (M 59) z nL) (fYarn C R (M 57) fl) lot g) (gF (M 57) xs z nF).length) v))) (some (.inl v)) N := fun v hv => ⟨g1, Or.inr (Or.inr (Or.inr ⟨hlo, hw, n, xs, fl, v, g2, rfl, Or.inr ⟨g4.1, g, g3, hv⟩⟩))⟩
          generalize gF (M 57) xs z n = F at g3 g4 fin
          generalize fYarn C R (M 57) fl = yr at g3 g4 fin
          obtain ⟨⟨k1, k2⟩, ⟨k3, k4⟩, k5, k6, k7, k8, k9, k10⟩ := id g4
          have bd : ∀ i, i ≤ F.length → 0 ≤ sm (yfT F (gz (M 59) z nL) yr lot g) i ∧ sm (yfT F (gz (M 59) z nL) yr lot g) i ≤ 5760 := fun i hi => by
            refine ⟨sm_nn i (fun k hk => ?_), Int.le_trans (sm_up_to (z := 720) i (fun k hk => ?_)) (by omega)⟩ <;> (unfold yfT; have := k8 k (by omega); split <;> omega)
          refine wp_ic iX9_lot_66 (by decide) ?_
          refine wp_is3 iX9_lot_67 ?_
          refine wp_ic iX9_lot_68 (by decide) ?_
          refine wp_is4 iX9_lot_69 ?_
          have key : ∀ (j i : Nat), F.length - i = j → i ≤ F.length → wp L 5 mX9_lot 71 [some (.inr 56), some (.inl lot), some (.inl what), some (.inl (sm (yfT F (gz (M 59) z nL) yr lot g) i)), some (.inl (i : Int))] [] N (fun (r : Option ab_V) (N : ab_Me) => frM M N ∧ ((¬ ((0 ≤ lot ∧ lot < (nL : Int)) ∧ 0 ≤ what ∧ what ≤ 2) ∧ r = some (.inl (-1))) ∨ ((0 ≤ lot ∧ lot < (nL : Int)) ∧ what = 0 ∧ r = some (.inl z)) ∨ ((0 ≤ lot ∧ lot < (nL : Int)) ∧ what = 1 ∧ r = some (.inl (M 60 lot.toNat))) ∨ ((0 ≤ lot ∧ lot < (nL : Int)) ∧ what = 2 ∧ ∃ nF xs fl v, isF C R (M 57) nF xs fl ∧ r = some (.inl v) ∧ dAns (gF (M 57) xs z nF) (gz (M 59) z nL) (M 60) (fYarn C R (M 57) fl) (fun g => sm (yfT (gF (M 57) xs z nF) (gz (M 59) z nL) (fYarn C R (M 57) fl) lot g) (gF (M 57) xs z nF).length) v))) := by
            intro j
            induction j using Nat.strongRecOn with
            | ind j ih =>
              intro i hj hi
              have ti : ((i : Int)).toNat = i := by omega
              have b1 := bd i hi
              refine wp_il4 iX9_lot_71 ?_
              refine wp_al0 iX9_lot_73 ?_
              refine wp_gI iX9_lot_74 fi_9_155 rfl ?_
              rw [k3]
              refine wp_cge iX9_lot_77 (fun c_77 => ?_) (fun c_77 => ?_)
              · have e : i = F.length := by omega
                subst e
                refine wp_il3 iX9_lot_135 ?_
                refine wp_ret iX9_lot_136 rfl ?_
                exact fin _ rfl
              · have hil : i < F.length := by omega
                have cs := dkM_lt g4 hil
                have q8 := k8 i hil
                have q7 := k7 i hil
                have stp : ∀ v : Int, v = yfT F (gz (M 59) z nL) yr lot g i → wp L 5 mX9_lot 127 [some (.inr 56), some (.inl lot), some (.inl what), some (.inl (sm (yfT F (gz (M 59) z nL) yr lot g) i)), some (.inl (i : Int))] [.inl v, .inl (sm (yfT F (gz (M 59) z nL) yr lot g) i)] N (fun (r : Option ab_V) (N : ab_Me) => frM M N ∧ ((¬ ((0 ≤ lot ∧ lot < (nL : Int)) ∧ 0 ≤ what ∧ what ≤ 2) ∧ r = some (.inl (-1))) ∨ ((0 ≤ lot ∧ lot < (nL : Int)) ∧ what = 0 ∧ r = some (.inl z)) ∨ ((0 ≤ lot ∧ lot < (nL : Int)) ∧ what = 1 ∧ r = some (.inl (M 60 lot.toNat))) ∨ ((0 ≤ lot ∧ lot < (nL : Int)) ∧ what = 2 ∧ ∃ nF xs fl v, isF C R (M 57) nF xs fl ∧ r = some (.inl v) ∧ dAns (gF (M 57) xs z nF) (gz (M 59) z nL) (M 60) (fYarn C R (M 57) fl) (fun g => sm (yfT (gF (M 57) xs z nF) (gz (M 59) z nL) (fYarn C R (M 57) fl) lot g) (gF (M 57) xs z nF).length) v))) := by
                  intro v hv
                  have hv2 : 0 ≤ v ∧ v ≤ 720 := by rw [hv]; unfold yfT; split <;> omega
                  refine wp_add iX9_lot_127 (by omega) ?_
                  refine wp_is3 iX9_lot_128 ?_
                  refine wp_ii4 iX9_lot_129 (by omega) ?_
                  refine wp_goto iX9_lot_132 ?_
                  rw [show sm (yfT F (gz (M 59) z nL) yr lot g) i + v = sm (yfT F (gz (M 59) z nL) yr lot g) (i + 1) by rw [hv]; rfl, show (i : Int) + 1 = ((i + 1 : Nat) : Int) by omega]
                  exact ih _ (by omega) (i + 1) rfl (by omega)
                refine wp_il3 iX9_lot_80 ?_
                refine wp_al0 iX9_lot_81 ?_
                refine wp_gR iX9_lot_82 fr_9_93 rfl rfl rfl ?_
                refine wp_il4 iX9_lot_85 ?_
                refine wp_ia iX9_lot_87 rfl (by omega) ?_
                rw [ti]
                refine wp_al0 iX9_lot_88 ?_
                refine wp_gI iX9_lot_89 fi_9_158 rfl ?_
                rw [k4]
                refine wp_cge iX9_lot_92 (fun c_92 => ?_) (fun c_92 => ?_)
                · refine wp_ic iX9_lot_126 (by decide) ?_
                  exact stp _ (by unfold yfT; rw [if_neg (fun w => by have := w.1; omega)])
                · have hgl : gi F g i < (gz (M 59) z nL).length := by omega
                  have e80 : N 80 i = (gi F g i : Int) := by omega
                  refine wp_al0 iX9_lot_95 ?_
                  refine wp_gR iX9_lot_96 fr_9_84 rfl rfl rfl ?_
                  refine wp_al0 iX9_lot_99 ?_
                  refine wp_gR iX9_lot_100 fr_9_93 rfl rfl rfl ?_
                  refine wp_il4 iX9_lot_103 ?_
                  refine wp_ia iX9_lot_105 rfl (by omega) ?_
                  rw [ti, e80]
                  refine wp_ia iX9_lot_106 rfl (by omega) ?_
                  rw [Int.toNat_natCast, k6 _ hgl]
                  refine wp_il1 iX9_lot_107 ?_
                  refine wp_cne iX9_lot_108 (fun c_108 => ?_) (fun c_108 => ?_)
                  · refine wp_ic iX9_lot_126 (by decide) ?_
                    exact stp _ (by unfold yfT; rw [if_neg (fun w => c_108 w.2)])
                  · refine wp_al0 iX9_lot_111 ?_
                    refine wp_gR iX9_lot_112 fr_9_78 rfl rfl rfl ?_
                    refine wp_al0 iX9_lot_115 ?_
                    refine wp_gR iX9_lot_116 fr_9_81 rfl rfl rfl ?_
                    refine wp_il4 iX9_lot_119 ?_
                    refine wp_ia iX9_lot_121 rfl (by omega) ?_
                    rw [ti, k5 i hil]
                    refine wp_ia iX9_lot_122 rfl (by omega) ?_
                    rw [Int.toNat_natCast, q8.2.1]
                    refine wp_goto iX9_lot_123 ?_
                    exact stp _ (by unfold yfT; rw [if_pos ⟨hgl, by simpa using c_108⟩])
          exact key _ 0 rfl (by omega)
      · refine wp_il2 iX9_lot_30 ?_
        refine wp_zne iX9_lot_31 (fun c_31 => ?_) (fun c_31 => ?_)
        · refine wp_al0 iX9_lot_43 ?_
          refine wp_gR iX9_lot_44 fr_9_27 rfl rfl rfl ?_
          refine wp_il1 iX9_lot_47 ?_
          refine wp_ia iX9_lot_48 rfl (by omega) ?_
          refine wp_ret iX9_lot_49 rfl ?_
          exact ⟨rf, Or.inr (Or.inr (Or.inl ⟨hlo, by omega, rfl⟩))⟩
        · refine wp_al0 iX9_lot_34 ?_
          refine wp_gR iX9_lot_35 fr_9_24 rfl rfl rfl ?_
          refine wp_il1 iX9_lot_38 ?_
          refine wp_ia iX9_lot_39 rfl (by omega) ?_
          refine wp_goto iX9_lot_40 ?_
          refine wp_ret iX9_lot_49 rfl ?_
          exact ⟨rf, Or.inr (Or.inl ⟨hlo, by omega, rfl⟩)⟩
    · refine wp_ic iX9_lot_23 (by decide) ?_
      refine wp_ret iX9_lot_24 rfl ?_
      exact ⟨rf, Or.inl ⟨by omega, rfl⟩⟩
end DealM2
