/-! ===== DEALING: lot, deal, dealt of the class ===== -/
theorem fYarn_bd (C R : Nat) (col : Nat → Int) (fl : Nat → Nat) (f : Nat) : 0 ≤ fYarn C R col fl f ∧ fYarn C R col fl f ≤ 720 := by
  have := sm_bd (fun a => if onB C R a ∧ fl a = f then 2 + sds C R col a else 0) 6 (fun k => by
    have := sds_bd C R col k
    split <;> omega) 120
  unfold fYarn
  omega
/-- lots as they must be -/
def hLo (M : ab_Me) (nL : Nat) : Prop := nL ≤ 12 ∧ M 5 0 = (nL : Int) ∧ ∀ l, 0 ≤ M 7 l ∧ M 7 l ≤ 300
def gF (col : Nat → Int) (xs : Nat → Nat) (z : Int) (nF : Nat) : List Nat := gz (fun f => col (xs f)) z nF
section DealX8
variable (L : Nat) (M : ab_Me) {C R nL : Nat}
theorem c_X8_findDealing (h : hB M) (hC : M 3 0 = (C : Int)) (hR : M 3 1 = (R : Int)) (hl : hLo M nL) (z : Int) : ct L 6 mX8_findDealing [.inr 1, .inl z] M (fun r N => (∀ a, a < 34 ∨ 48 < a → N a = M a) ∧ ∃ nF xs fl, isF C R (clX M) nF xs fl ∧ ((r = some (.inl 0) ∧ ¬ ((gF (clX M) xs z nF).length ≤ 8 ∧ (gz (M 6) z nL).length ≤ 4)) ∨ (r = some (.inl 1) ∧ ∃ g, dbest (gz (M 6) z nL).length (gF (clX M) xs z nF).length (dC (gz (M 6) z nL) (M 7)) (dYn (gF (clX M) xs z nF) (fYarn C R (clX M) fl)) g ∧ dkN (gF (clX M) xs z nF) (gz (M 6) z nL) (fYarn C R (clX M) fl) g N))) := by
  obtain ⟨l1, l2, l3⟩ := hl
  refine ct_of rfl ?_
  change wp _ _ _ 0 [some (.inr 1), some (.inl z)] [] _ _
  refine wp_al0 iX8_findDealing_0 ?_
  refine wp_gR iX8_findDealing_1 fr_8_33 rfl rfl rfl ?_
  refine wp_al0 iX8_findDealing_4 ?_
  refine wp_gR iX8_findDealing_5 fr_8_10 rfl rfl rfl ?_
  refine wp_gR iX8_findDealing_8 fr_8_55 rfl rfl rfl ?_
  refine wp_v1x iX8_findDealing_11 ml_8_122 rfl rfl rfl rfl (c_X2_find L M h hC hR) (fun r N hx => ?_)
  obtain ⟨rfl, f1, n, xs, fl, f2, f3, f4, f5, f6⟩ := hx
  have e6 : N 6 = M 6 := f1 6 (by omega)
  have e7 : N 7 = M 7 := f1 7 (by omega)
  have eF : gz (N 36) z n = gF (clX M) xs z n := gl_congr n (fun f hf => by rw [(f6 f hf).1]; rfl)
  have hin := gl_in (fun f => decide (clX M (xs f) = z)) n
  have hiL := gl_in (fun f => decide (M 6 f = z)) nL
  change ∀ i, i < (gF (clX M) xs z n).length → (gF (clX M) xs z n).getD i 0 < n ∧ _ at hin
  change ∀ i, i < (gz (M 6) z nL).length → (gz (M 6) z nL).getD i 0 < nL ∧ _ at hiL
  refine wp_al0 iX8_findDealing_14 ?_
  refine wp_gR iX8_findDealing_15 fr_8_40 rfl rfl rfl ?_
  refine wp_il1 iX8_findDealing_18 ?_
  refine wp_al0 iX8_findDealing_19 ?_
  refine wp_gR iX8_findDealing_20 fr_8_33 rfl rfl rfl ?_
  refine wp_al0 iX8_findDealing_23 ?_
  refine wp_gR iX8_findDealing_24 fr_8_10 rfl rfl rfl ?_
  refine wp_gR iX8_findDealing_27 fr_8_147 rfl rfl rfl ?_
  refine wp_v3x iX8_findDealing_30 ml_8_261 rfl rfl rfl rfl (c_X1_find L N z f2 l1 f4 (by rw [f1 5 (by omega)]; exact l2) (fun f hf => by rw [(f6 f hf).2.2.1]; exact fYarn_bd C R _ fl f) (fun l _ => by rw [e7]; exact l3 l)) (fun r N1 hx => ?_)
  rw [eF, e6, e7] at hx
  obtain ⟨g1, g2⟩ := hx
  have fr : ∀ a, a < 34 ∨ 48 < a → N1 a = M a := fun a ha => by rw [g1 a (by omega)]; exact f1 a (by omega)
  rcases g2 with ⟨rfl, g2⟩ | ⟨rfl, k1, k2, k3, k4, k5, k6, g, k7, k8⟩
  · refine wp_retb iX8_findDealing_33 rfl (by decide) ?_
    exact ⟨fr, n, xs, fl, f3, Or.inl ⟨rfl, g2⟩⟩
  · refine wp_retb iX8_findDealing_33 rfl (by decide) ?_
    refine ⟨fr, n, xs, fl, f3, Or.inr ⟨rfl, g, dbest_congr (fun _ _ => rfl) (fun k hk => ?_) k7, ⟨k1, k2⟩, ⟨k3, k4⟩, k5, k6, k8, fun i hi => ?_, fun l hlt => ?_⟩⟩
    · exact (f6 _ (hin _ (by omega)).1).2.2.1
    · have q := (hin i hi).1
      have q3 := (f6 _ q).2.2.1
      rw [g1 38 (by omega)]
      exact ⟨by omega, q3, fYarn_bd C R _ fl _⟩
    · have := (hiL l hlt).1
      omega
theorem gl_incF {F : List Nat} {p : Nat → Bool} {n : Nat} (e : F = gl p n) : ∀ i j, i < j → j < F.length → F.getD i 0 < F.getD j 0 := by
  subst e
  exact gl_inc p n
theorem c_X8_deal (h : hB M) (hC : M 3 0 = (C : Int)) (hR : M 3 1 = (R : Int)) (hl : hLo M nL) (f : Int) : ct L 7 mX8_deal [.inr 1, .inl f] M (fun r N => (∀ a, a < 34 ∨ 48 < a → N a = M a) ∧ ∃ nF xs fl, isF C R (clX M) nF xs fl ∧ ((¬ (0 ≤ f ∧ f < (nF : Int)) ∧ r = some (.inl (-1))) ∨ ((0 ≤ f ∧ f < (nF : Int)) ∧ ∃ v, r = some (.inl v) ∧ dAns (gF (clX M) xs (clX M (xs f.toNat)) nF) (gz (M 6) (clX M (xs f.toNat)) nL) (M 7) (fYarn C R (clX M) fl) (fun g => lfV (gF (clX M) xs (clX M (xs f.toNat)) nF) (gz (M 6) (clX M (xs f.toNat)) nL) f g (gF (clX M) xs (clX M (xs f.toNat)) nF).length) v))) := by
  refine ct_of rfl ?_
  change wp _ _ _ 0 [some (.inr 1), some (.inl f)] [] _ _
  refine wp_al0 iX8_deal_0 ?_
  refine wp_gR iX8_deal_1 fr_8_33 rfl rfl rfl ?_
  refine wp_al0 iX8_deal_4 ?_
  refine wp_gR iX8_deal_5 fr_8_10 rfl rfl rfl ?_
  refine wp_gR iX8_deal_8 fr_8_55 rfl rfl rfl ?_
  refine wp_v1x iX8_deal_11 ml_8_122 rfl rfl rfl rfl (c_X2_find L M h hC hR) (fun r N hx => ?_)
  obtain ⟨rfl, f1, n, xs, fl, f2, f3, f4, f5, f6⟩ := hx
  refine wp_il1 iX8_deal_14 ?_
  refine wp_al0 iX8_deal_15 ?_
  refine wp_gR iX8_deal_16 fr_8_33 rfl rfl rfl ?_
  refine wp_gI iX8_deal_19 fi_8_129 rfl ?_
  rw [f4]
  refine wp_s2f iX8_deal_22 ml_8_132 rfl rfl rfl (c_X8_isBelow L N f (n : Int)) ?_
  refine wp_bne iX8_deal_25 (fun c_25 => ?_) (fun c_25 => ?_)
  · have hft : f.toNat < n := by omega
    have ecl : clX N = clX M := by unfold clX; rw [f1 4 (by omega)]
    refine wp_al0 iX8_deal_30 ?_
    refine wp_al0 iX8_deal_31 ?_
    refine wp_gR iX8_deal_32 fr_8_33 rfl rfl rfl ?_
    refine wp_gR iX8_deal_35 fr_8_135 rfl rfl rfl ?_
    refine wp_il1 iX8_deal_38 ?_
    refine wp_ia iX8_deal_39 rfl (by omega) ?_
    rw [(f6 _ hft).1]
    refine wp_v1x iX8_deal_40 ml_8_159 rfl rfl rfl rfl (c_X8_findDealing L N (C := C) (R := R) (nL := nL) (by unfold hB; rw [f1 3 (by omega), f1 4 (by omega)]; exact h) (by rw [f1 3 (by omega)]; exact hC) (by rw [f1 3 (by omega)]; exact hR) (by unfold hLo; rw [f1 5 (by omega), f1 7 (by omega)]; exact hl) (clX M (xs f.toNat))) (fun r N1 hx => ?_)
    rw [ecl, f1 6 (by omega), f1 7 (by omega)] at hx
    obtain ⟨g1, n', xs', fl', g2, g3⟩ := hx
    obtain ⟨u1, u2, u3⟩ := isF_uq f3 g2
    subst u1
    have fr : ∀ a, a < 34 ∨ 48 < a → N1 a = M a := fun a ha => by rw [g1 a ha]; exact f1 a (by omega)
    rw [u2 _ hft] at g3
    generalize hz : clX M (xs' f.toNat) = z at g3
    rcases g3 with ⟨rfl, g3⟩ | ⟨rfl, g, g3, g4⟩
    · refine wp_zeq iX8_deal_43 (fun _ => ?_) (fun c_43 => absurd rfl c_43)
      refine wp_bp iX8_deal_57 (by decide) ?_
      refine wp_ret iX8_deal_59 rfl ?_
      refine ⟨fr, n, xs', fl', g2, Or.inr ⟨c_25, _, rfl, ?_⟩⟩
      rw [hz]
      exact Or.inl ⟨g3, rfl⟩
    · refine wp_zeq iX8_deal_43 (fun c_43 => absurd c_43 (by decide)) (fun _ => ?_)
      refine wp_al0 iX8_deal_46 ?_
      refine wp_gR iX8_deal_47 fr_8_40 rfl rfl rfl ?_
      refine wp_il1 iX8_deal_50 ?_
      refine wp_v1f iX8_deal_51 ml_8_166 rfl rfl rfl rfl (c_X1_lotFor L N1 g4 (gl_incF rfl) f) ?_
      refine wp_goto iX8_deal_54 ?_
      refine wp_ret iX8_deal_59 rfl ?_
      refine ⟨fr, n, xs', fl', g2, Or.inr ⟨c_25, _, rfl, ?_⟩⟩
      rw [hz]
      exact Or.inr ⟨g4.1, g, g3, rfl⟩
  · refine wp_ic iX8_deal_28 (by decide) ?_
    refine wp_ret iX8_deal_29 rfl ?_
    exact ⟨fun a ha => f1 a (by omega), n, xs, fl, f3, Or.inl ⟨c_25, rfl⟩⟩
def dtV (what : Int) (F T : List Nat) (yr : Nat → Int) (g : Nat → Nat) : Int := if what = 0 then sm (yaT F T yr g) F.length else if what = 1 then sm (ctT F T g) F.length else (F.length : Int) - sm (ctT F T g) F.length
theorem c_X8_dealt (h : hB M) (hC : M 3 0 = (C : Int)) (hR : M 3 1 = (R : Int)) (hl : hLo M nL) (z what : Int) : ct L 7 mX8_dealt [.inr 1, .inl z, .inl what] M (fun r N => (∀ a, a < 34 ∨ 48 < a → N a = M a) ∧ ((¬ ((0 ≤ z ∧ z < 8) ∧ 0 ≤ what ∧ what ≤ 2) ∧ r = some (.inl (-1))) ∨ (((0 ≤ z ∧ z < 8) ∧ 0 ≤ what ∧ what ≤ 2) ∧ ∃ nF xs fl v, isF C R (clX M) nF xs fl ∧ r = some (.inl v) ∧ dAns (gF (clX M) xs z nF) (gz (M 6) z nL) (M 7) (fYarn C R (clX M) fl) (dtV what (gF (clX M) xs z nF) (gz (M 6) z nL) (fYarn C R (clX M) fl)) v))) := by
  refine ct_of rfl ?_
  change wp _ _ _ 0 [some (.inr 1), some (.inl z), some (.inl what), none] [] _ _
  refine wp_il1 iX8_dealt_0 ?_
  refine wp_s1f iX8_dealt_1 ml_8_83 rfl rfl rfl (c_X8_isColour L M z) ?_
  refine wp_beq iX8_dealt_4 (fun c_4 => ?_) (fun c_4 => ?_)
  · refine wp_ic iX8_dealt_16 (by decide) ?_
    refine wp_ret iX8_dealt_17 rfl ?_
    exact ⟨fun _ _ => rfl, Or.inl ⟨by omega, rfl⟩⟩
  · refine wp_il2 iX8_dealt_7 ?_
    refine wp_ic iX8_dealt_8 (by decide) ?_
    refine wp_ic iX8_dealt_9 (by decide) ?_
    refine wp_s3f iX8_dealt_10 ml_8_51 rfl rfl rfl (c_X8_isFromTo L M what 0 2) ?_
    refine wp_bne iX8_dealt_13 (fun c_13 => ?_) (fun c_13 => ?_)
    · have hok : (0 ≤ z ∧ z < 8) ∧ 0 ≤ what ∧ what ≤ 2 := by omega
      refine wp_al0 iX8_dealt_18 ?_
      refine wp_il1 iX8_dealt_19 ?_
      refine wp_v1x iX8_dealt_20 ml_8_159 rfl rfl rfl rfl (c_X8_findDealing L M h hC hR hl z) (fun r N hx => ?_)
      obtain ⟨g1, n, xs, fl, g2, g3⟩ := hx
      rcases g3 with ⟨rfl, g3⟩ | ⟨rfl, g, g3, g4⟩
      · refine wp_zne iX8_dealt_23 (fun c_23 => absurd rfl c_23) (fun _ => ?_)
        refine wp_bp iX8_dealt_26 (by decide) ?_
        refine wp_ret iX8_dealt_28 rfl ?_
        exact ⟨g1, Or.inr ⟨hok, n, xs, fl, _, g2, rfl, Or.inl ⟨g3, rfl⟩⟩⟩
      · refine wp_zne iX8_dealt_23 (fun _ => ?_) (fun c_23 => absurd c_23 (by decide))
        have fin : ∀ v : Int, v = dtV what (gF (clX M) xs z n) (gz (M 6) z nL) (fYarn C R (clX M) fl) g → ((∀ a, a < 34 ∨ 48 < a → N a = M a) ∧ ((¬ ((0 ≤ z ∧ z < 8) ∧ 0 ≤ what ∧ what ≤ 2) ∧ some (.inl v) = some ((.inl (-1)) : ab_V)) ∨ (((0 ≤ z ∧ z < 8) ∧ 0 ≤ what ∧ what ≤ 2) ∧ ∃ nF xs fl w, isF C R (clX M) nF xs fl ∧ some (.inl v : ab_V) = some (.inl w) ∧ dAns (gF (clX M) xs z nF) (gz (M 6) z nL) (M 7) (fYarn C R (clX M) fl) (dtV what (gF (clX M) xs z nF) (gz (M 6) z nL) (fYarn C R (clX M) fl)) w))) := fun v hv => ⟨g1, Or.inr ⟨hok, n, xs, fl, v, g2, rfl, Or.inr ⟨g4.1, g, g3, hv⟩⟩⟩
        have hlen := g4.2.1.1
        have hl8 := g4.1.1
        have bd : 0 ≤ sm (ctT (gF (clX M) xs z n) (gz (M 6) z nL) g) (gF (clX M) xs z n).length ∧ sm (ctT (gF (clX M) xs z n) (gz (M 6) z nL) g) (gF (clX M) xs z n).length ≤ 8 := by
          refine ⟨sm_nn _ (fun k hk => ?_), Int.le_trans (sm_up_to (z := 1) _ (fun k hk => ?_)) (by omega)⟩ <;> (unfold ctT; split <;> omega)
        refine wp_il2 iX8_dealt_29 ?_
        refine wp_zne iX8_dealt_30 (fun c_30 => ?_) (fun c_30 => ?_)
        · refine wp_al0 iX8_dealt_45 ?_
          refine wp_gR iX8_dealt_46 fr_8_40 rfl rfl rfl ?_
          refine wp_v0f iX8_dealt_49 ml_8_174 rfl rfl rfl rfl (c_X1_countServed L N g4) ?_
          refine wp_is3 iX8_dealt_52 ?_
          refine wp_il2 iX8_dealt_53 ?_
          refine wp_ic iX8_dealt_54 (by decide) ?_
          refine wp_cne iX8_dealt_55 (fun c_55 => ?_) (fun c_55 => ?_)
          · refine wp_al0 iX8_dealt_62 ?_
            refine wp_gR iX8_dealt_63 fr_8_40 rfl rfl rfl ?_
            refine wp_gI iX8_dealt_66 fi_8_178 rfl ?_
            rw [hlen]
            refine wp_il3 iX8_dealt_69 ?_
            refine wp_sub iX8_dealt_70 (by omega) ?_
            refine wp_ret iX8_dealt_71 rfl ?_
            refine fin _ ?_
            unfold dtV
            rw [if_neg c_30, if_neg c_55]
          · refine wp_il3 iX8_dealt_58 ?_
            refine wp_goto iX8_dealt_59 ?_
            refine wp_ret iX8_dealt_71 rfl ?_
            refine fin _ ?_
            unfold dtV
            rw [if_neg c_30, if_pos (by omega)]
        · refine wp_al0 iX8_dealt_33 ?_
          refine wp_gR iX8_dealt_34 fr_8_40 rfl rfl rfl ?_
          refine wp_al0 iX8_dealt_37 ?_
          refine wp_gR iX8_dealt_38 fr_8_33 rfl rfl rfl ?_
          refine wp_v1f iX8_dealt_41 ml_8_170 rfl rfl rfl rfl (c_X1_yarnInAll L N g4 (gl_incF rfl)) ?_
          refine wp_ret iX8_dealt_44 rfl ?_
          refine fin _ ?_
          unfold dtV
          rw [if_pos (by omega)]
    · refine wp_ic iX8_dealt_16 (by decide) ?_
      refine wp_ret iX8_dealt_17 rfl ?_
      exact ⟨fun _ _ => rfl, Or.inl ⟨by omega, rfl⟩⟩
theorem c_X8_lot (h : hB M) (hC : M 3 0 = (C : Int)) (hR : M 3 1 = (R : Int)) (hl : hLo M nL) (lot what : Int) : ct L 7 mX8_lot [.inr 1, .inl lot, .inl what] M (fun r N => (∀ a, a < 34 ∨ 48 < a → N a = M a) ∧ ((¬ ((0 ≤ lot ∧ lot < (nL : Int)) ∧ 0 ≤ what ∧ what ≤ 2) ∧ r = some (.inl (-1))) ∨ ((0 ≤ lot ∧ lot < (nL : Int)) ∧ what = 0 ∧ r = some (.inl (M 6 lot.toNat))) ∨ ((0 ≤ lot ∧ lot < (nL : Int)) ∧ what = 1 ∧ r = some (.inl (M 7 lot.toNat))) ∨ ((0 ≤ lot ∧ lot < (nL : Int)) ∧ what = 2 ∧ ∃ nF xs fl v, isF C R (clX M) nF xs fl ∧ r = some (.inl v) ∧ dAns (gF (clX M) xs (M 6 lot.toNat) nF) (gz (M 6) (M 6 lot.toNat) nL) (M 7) (fYarn C R (clX M) fl) (fun g => sm (yfT (gF (clX M) xs (M 6 lot.toNat) nF) (gz (M 6) (M 6 lot.toNat) nL) (fYarn C R (clX M) fl) lot g) (gF (clX M) xs (M 6 lot.toNat) nF).length) v))) := by
  obtain ⟨l1, l2, l3⟩ := id hl
  refine ct_of rfl ?_
  change wp _ _ _ 0 [some (.inr 1), some (.inl lot), some (.inl what)] [] _ _
  refine wp_il1 iX8_lot_0 ?_
  refine wp_al0 iX8_lot_1 ?_
  refine wp_gR iX8_lot_2 fr_8_10 rfl rfl rfl ?_
  refine wp_gR iX8_lot_5 fr_8_147 rfl rfl rfl ?_
  refine wp_gI iX8_lot_8 fi_8_151 rfl ?_
  rw [l2]
  refine wp_s2f iX8_lot_11 ml_8_132 rfl rfl rfl (c_X8_isBelow L M lot (nL : Int)) ?_
  refine wp_bne iX8_lot_14 (fun c_14 => ?_) (fun c_14 => ?_)
  · have k74 : what = 2 → wp L 6 mX8_lot 74 [some (.inr 1), some (.inl lot), some (.inl what)] [] M (fun r N => (∀ a, a < 34 ∨ 48 < a → N a = M a) ∧ ((¬ ((0 ≤ lot ∧ lot < (nL : Int)) ∧ 0 ≤ what ∧ what ≤ 2) ∧ r = some (.inl (-1))) ∨ ((0 ≤ lot ∧ lot < (nL : Int)) ∧ what = 0 ∧ r = some (.inl (M 6 lot.toNat))) ∨ ((0 ≤ lot ∧ lot < (nL : Int)) ∧ what = 1 ∧ r = some (.inl (M 7 lot.toNat))) ∨ ((0 ≤ lot ∧ lot < (nL : Int)) ∧ what = 2 ∧ ∃ nF xs fl v, isF C R (clX M) nF xs fl ∧ r = some (.inl v) ∧ dAns (gF (clX M) xs (M 6 lot.toNat) nF) (gz (M 6) (M 6 lot.toNat) nL) (M 7) (fYarn C R (clX M) fl) (fun g => sm (yfT (gF (clX M) xs (M 6 lot.toNat) nF) (gz (M 6) (M 6 lot.toNat) nL) (fYarn C R (clX M) fl) lot g) (gF (clX M) xs (M 6 lot.toNat) nF).length) v))) := by
      intro hw
      generalize hz : M 6 lot.toNat = z
      refine wp_al0 iX8_lot_74 ?_
      refine wp_al0 iX8_lot_75 ?_
      refine wp_gR iX8_lot_76 fr_8_10 rfl rfl rfl ?_
      refine wp_gR iX8_lot_79 fr_8_147 rfl rfl rfl ?_
      refine wp_gR iX8_lot_82 fr_8_157 rfl rfl rfl ?_
      refine wp_il1 iX8_lot_85 ?_
      refine wp_ia iX8_lot_86 rfl (by omega) ?_
      rw [hz]
      refine wp_v1x iX8_lot_87 ml_8_159 rfl rfl rfl rfl (c_X8_findDealing L M h hC hR hl z) (fun r N hx => ?_)
      obtain ⟨g1, n, xs, fl, g2, g3⟩ := hx
      rcases g3 with ⟨rfl, g3⟩ | ⟨rfl, g, g3, g4⟩
      · refine wp_zeq iX8_lot_90 (fun _ => ?_) (fun c_90 => absurd rfl c_90)
        refine wp_bp iX8_lot_108 (by decide) ?_
        refine wp_ret iX8_lot_110 rfl ?_
        exact ⟨g1, Or.inr (Or.inr (Or.inr ⟨c_14, hw, n, xs, fl, _, g2, rfl, Or.inl ⟨g3, rfl⟩⟩))⟩
      · refine wp_zeq iX8_lot_90 (fun c_90 => absurd c_90 (by decide)) (fun _ => ?_)
        refine wp_al0 iX8_lot_93 ?_
        refine wp_gR iX8_lot_94 fr_8_40 rfl rfl rfl ?_
        refine wp_il1 iX8_lot_97 ?_
        refine wp_al0 iX8_lot_98 ?_
        refine wp_gR iX8_lot_99 fr_8_33 rfl rfl rfl ?_
        refine wp_v2f iX8_lot_102 ml_8_162 rfl rfl rfl rfl (c_X1_yarnFrom L N g4 lot) ?_
        refine wp_goto iX8_lot_105 ?_
        refine wp_ret iX8_lot_110 rfl ?_
        exact ⟨g1, Or.inr (Or.inr (Or.inr ⟨c_14, hw, n, xs, fl, _, g2, rfl, Or.inr ⟨g4.1, g, g3, rfl⟩⟩))⟩
    refine wp_il2 iX8_lot_19 ?_
    refine wp_t3 (td := 111) (t0 := 48) (t1 := 61) (t2 := 74) iX8_lot_20 (by decide) (by decide) (by decide) (by decide) (fun c_20 => ?_) (fun c_20 => ?_) (fun c_20 => ?_) (fun c_20 => ?_)
    · refine wp_ic iX8_lot_111 (by decide) ?_
      refine wp_ret iX8_lot_112 rfl ?_
      (refine ⟨fun _ _ => rfl, ?_⟩; first | exact Or.inl ⟨by omega, rfl⟩ | exact Or.inr (Or.inl ⟨c_14, c_20, rfl⟩) | exact Or.inr (Or.inr (Or.inl ⟨c_14, c_20, rfl⟩)))
    · refine wp_al0 iX8_lot_48 ?_
      refine wp_gR iX8_lot_49 fr_8_10 rfl rfl rfl ?_
      refine wp_gR iX8_lot_52 fr_8_147 rfl rfl rfl ?_
      refine wp_gR iX8_lot_55 fr_8_157 rfl rfl rfl ?_
      refine wp_il1 iX8_lot_58 ?_
      refine wp_ia iX8_lot_59 rfl (by omega) ?_
      refine wp_ret iX8_lot_60 rfl ?_
      (refine ⟨fun _ _ => rfl, ?_⟩; first | exact Or.inl ⟨by omega, rfl⟩ | exact Or.inr (Or.inl ⟨c_14, c_20, rfl⟩) | exact Or.inr (Or.inr (Or.inl ⟨c_14, c_20, rfl⟩)))
    · refine wp_al0 iX8_lot_61 ?_
      refine wp_gR iX8_lot_62 fr_8_10 rfl rfl rfl ?_
      refine wp_gR iX8_lot_65 fr_8_147 rfl rfl rfl ?_
      refine wp_gR iX8_lot_68 fr_8_158 rfl rfl rfl ?_
      refine wp_il1 iX8_lot_71 ?_
      refine wp_ia iX8_lot_72 rfl (by omega) ?_
      refine wp_ret iX8_lot_73 rfl ?_
      (refine ⟨fun _ _ => rfl, ?_⟩; first | exact Or.inl ⟨by omega, rfl⟩ | exact Or.inr (Or.inl ⟨c_14, c_20, rfl⟩) | exact Or.inr (Or.inr (Or.inl ⟨c_14, c_20, rfl⟩)))
    · exact k74 c_20
  · refine wp_ic iX8_lot_17 (by decide) ?_
    refine wp_ret iX8_lot_18 rfl ?_
    exact ⟨fun _ _ => rfl, Or.inl ⟨by omega, rfl⟩⟩
end DealX8
