/-! ===== DEALING of the class: one lot more ===== -/
def dvl (n : Nat) (y B : Nat → Int) (l S q : Nat) : Int := 390625 * bs y n q - (l : Int) * bs p5 n q + B (S - q)
def adD (n : Nat) (y B : Nat → Int) (l : Nat) (Y : Int) (S : Nat) (v ch : Int) : Prop := 0 ≤ ch ∧ Sb ch.toNat S ∧ bs y n ch.toNat ≤ Y ∧ v = dvl n y B l S ch.toNat ∧ ∀ q, Sb q S → bs y n q ≤ Y → dvl n y B l S q ≤ v
def adI (n : Nat) (y B : Nat → Int) (l : Nat) (Y : Int) (M : ab_Me) (t : Nat) (N : ab_Me) : Prop := (∀ a, a ≠ 47 → a ≠ 48 → N a = M a) ∧ (∀ i, i < l * 256 ∨ l * 256 + 256 ≤ i → N 48 i = M 48 i) ∧ (∀ S, S < t → N 47 S = B S) ∧ ∀ S, t ≤ S → S < 2 ^ n → adD n y B l Y S (N 47 S) (N 48 (l * 256 + S))
theorem lot_bd {l : Nat} (hl : l ≤ 3) {x : Int} (h0 : 0 ≤ x) (h1 : x ≤ 97656) : 0 ≤ (l : Int) * x ∧ (l : Int) * x ≤ 292968 := by
  have : l = 0 ∨ l = 1 ∨ l = 2 ∨ l = 3 := by omega
  rcases this with rfl | rfl | rfl | rfl <;> omega
section AddX
variable (L : Nat) (M : ab_Me) {n : Nat} {y B : Nat → Int} {l : Nat} {Y : Int}
theorem adI_up {N : ab_Me} {S : Nat} {v ch : Int} (hS : S < 2 ^ n) (h256 : 2 ^ n ≤ 256) (h : adI n y B l Y M (S + 1) N) (hd : adD n y B l Y S v ch) : adI n y B l Y M S (ab_up (ab_up N 47 S v) 48 (l * 256 + S) ch) := by
  obtain ⟨h1, h2, h3, h4⟩ := h
  refine ⟨fun a e1 e2 => ?_, fun i hi => ?_, fun T hT => ?_, fun T hT hT2 => ?_⟩
  · rw [ab_up_ne _ _ _ e2, ab_up_ne _ _ _ e1]; exact h1 a e1 e2
  · rw [ab_up_self, ab_u1_ne _ _ (by omega), ab_up_ne _ _ _ (by decide)]; exact h2 i hi
  · rw [ab_up_ne _ _ _ (by decide), ab_up_self, ab_u1_ne _ _ (by omega)]; exact h3 T (by omega)
  · rw [ab_up_ne _ _ _ (show (47 : Nat) ≠ 48 by decide), ab_up_self, ab_up_self, ab_up_ne _ _ _ (show (48 : Nat) ≠ 47 by decide)]
    by_cases z : T = S
    · subst z
      rw [ab_u1_self, ab_u1_self]
      exact hd
    · rw [ab_u1_ne _ _ z, ab_u1_ne _ _ (by omega)]
      exact h4 T (by omega) hT2
theorem c_X1_addLot {U : Int} (hn : n ≤ 8) (hl : l ≤ 3) (hY : 0 ≤ Y ∧ Y ≤ 300) (hU : U ≤ 400000000) (hC : M 41 0 = (n : Int)) (hy : ∀ k, k < n → 0 ≤ y k ∧ y k ≤ 720) (h45 : ∀ S, S < 2 ^ n → M 45 S = bs y n S ∧ M 46 S = bs p5 n S) (hB : ∀ S, S < 2 ^ n → M 47 S = B S ∧ -400000 ≤ B S ∧ B S ≤ U) : ct L 1 mX1_addLot [.inr 41, .inl (l : Int), .inl Y] M (fun r N => r = none ∧ adI n y B l Y M 0 N) := by
  refine ct_of rfl ?_
  have hp := two_le hn
  change wp _ _ _ 0 [some (.inr 41), some (.inl (l : Int)), some (.inl Y), none, none, none, none, none] [] _ _
  refine wp_ic iX1_addLot_0 (by decide) ?_
  refine wp_al0 iX1_addLot_1 ?_
  refine wp_gI iX1_addLot_2 fi_1_9 rfl ?_
  rw [hC]
  refine wp_shl iX1_addLot_5 (bb_shl n (by omega)) ?_
  refine wp_ic iX1_addLot_6 (by decide) ?_
  refine wp_sub iX1_addLot_7 (by omega) ?_
  refine wp_is3 iX1_addLot_8 ?_
  have key : ∀ (t : Nat) (N : ab_Me), t ≤ 2 ^ n → adI n y B l Y M t N → ∀ v4 v5 v6 v7 : Option ab_V, wp L 0 mX1_addLot 9 [some (.inr 41), some (.inl (l : Int)), some (.inl Y), some (.inl ((t : Int) - 1)), v4, v5, v6, v7] [] N (fun r N => r = none ∧ adI n y B l Y M 0 N) := by
    intro t
    induction t with
    | zero =>
      intro N ht hI v4 v5 v6 v7
      refine wp_il3 iX1_addLot_9 ?_
      refine wp_zlt iX1_addLot_10 (fun c_10 => ?_) (fun c_10 => ?_)
      · refine wp_retv iX1_addLot_129 rfl ?_
        exact ⟨rfl, hI⟩
      · exfalso; omega
    | succ S ih =>
      intro N ht hI v4 v5 v6 v7
      obtain ⟨i1, i2, i3, i4⟩ := id hI
      rw [show ((S + 1 : Nat) : Int) - 1 = (S : Int) by omega]
      refine wp_il3 iX1_addLot_9 ?_
      refine wp_zlt iX1_addLot_10 (fun c_10 => ?_) (fun c_10 => ?_)
      · exfalso; omega
      · refine wp_al0 iX1_addLot_13 ?_
        refine wp_gR iX1_addLot_14 fr_1_34 rfl rfl rfl ?_
        refine wp_il3 iX1_addLot_17 ?_
        refine wp_ia iX1_addLot_18 rfl (by omega) ?_
        rw [show ((S : Int)).toNat = S by omega, i3 S (by omega)]
        refine wp_is4 iX1_addLot_19 ?_
        refine wp_ic iX1_addLot_21 (by decide) ?_
        refine wp_is5 iX1_addLot_22 ?_
        refine wp_il3 iX1_addLot_24 ?_
        refine wp_is6 iX1_addLot_25 ?_
        have key2 : ∀ (p : Nat) (best ch : Int), Sb p S → 0 ≤ ch → Sb ch.toNat S → bs y n ch.toNat ≤ Y → best = dvl n y B l S ch.toNat → (B S ≤ best) → (∀ q, Sb q S → p < q → bs y n q ≤ Y → dvl n y B l S q ≤ best) → ∀ v7 : Option ab_V, wp L 0 mX1_addLot 27 [some (.inr 41), some (.inl (l : Int)), some (.inl Y), some (.inl (S : Int)), some (.inl best), some (.inl ch), some (.inl (p : Int)), v7] [] N (fun r N => r = none ∧ adI n y B l Y M 0 N) := by
          intro p
          induction p using Nat.strongRecOn with
          | ind p ihp =>
            intro best ch hp1 hc0 hcs hcy hbe hb0 hq v7
            refine wp_il6 iX1_addLot_27 ?_
            refine wp_zle iX1_addLot_29 (fun c_29 => ?_) (fun c_29 => ?_)
            · have e : p = 0 := by omega
              subst e
              have hchS := Sb.le _ _ hcs
              refine wp_al0 iX1_addLot_101 ?_
              refine wp_gR iX1_addLot_102 fr_1_34 rfl rfl rfl ?_
              refine wp_il3 iX1_addLot_105 ?_
              refine wp_il4 iX1_addLot_106 ?_
              refine wp_is iX1_addLot_108 rfl rfl (by omega) ?_
              rw [show ((S : Int)).toNat = S by omega]
              refine wp_al0 iX1_addLot_109 ?_
              refine wp_gR iX1_addLot_110 fr_1_37 rfl rfl rfl ?_
              refine wp_il1 iX1_addLot_113 ?_
              refine wp_sp iX1_addLot_114 (by decide) ?_
              refine wp_mul iX1_addLot_117 (by omega) ?_
              refine wp_il3 iX1_addLot_118 ?_
              refine wp_add iX1_addLot_119 (by omega) ?_
              refine wp_il5 iX1_addLot_120 ?_
              refine wp_is iX1_addLot_122 rfl rfl (by omega) ?_
              rw [show ((l : Int) * 256 + (S : Int)).toNat = l * 256 + S by omega]
              refine wp_ii3 iX1_addLot_123 (by omega) ?_
              refine wp_goto iX1_addLot_126 ?_
              rw [show (S : Int) + -1 = (S : Int) - 1 by omega]
              refine ih _ (by omega) (adI_up M (by omega) hp.2 hI ⟨hc0, hcs, hcy, hbe, fun q hqs hqy => ?_⟩) _ _ _ _
              by_cases z : 0 < q
              · exact hq q hqs z hqy
              · have e : q = 0 := by omega
                subst e
                unfold dvl
                rw [bs_zero, bs_zero, Nat.sub_zero]
                omega
            · have hpS := Sb.le _ _ hp1
              have tp : ((p : Int)).toNat = p := by omega
              have g45 := h45 p (by omega)
              have hyb := bsy_bd hn hy p
              have h5 := bs5_bd hn p
              have hlb := lot_bd hl h5.1 h5.2
              have next : ∀ (best ch : Int), 0 ≤ ch → Sb ch.toNat S → bs y n ch.toNat ≤ Y → best = dvl n y B l S ch.toNat → B S ≤ best → (∀ q, Sb q S → p ≤ q → bs y n q ≤ Y → dvl n y B l S q ≤ best) → ∀ v7 : Option ab_V, wp L 0 mX1_addLot 90 [some (.inr 41), some (.inl (l : Int)), some (.inl Y), some (.inl (S : Int)), some (.inl best), some (.inl ch), some (.inl (p : Int)), v7] [] N (fun r N => r = none ∧ adI n y B l Y M 0 N) := by
                intro best ch k1 k2 k3 k4 k5 k6 v7
                refine wp_il6 iX1_addLot_90 ?_
                refine wp_ic iX1_addLot_92 (by decide) ?_
                refine wp_sub iX1_addLot_93 (by omega) ?_
                refine wp_il3 iX1_addLot_94 ?_
                rw [show (p : Int) - 1 = ((p - 1 : Nat) : Int) by omega]
                refine wp_and iX1_addLot_95 (bb_and (p - 1) S (by omega) (by omega)) ?_
                refine wp_is6 iX1_addLot_96 ?_
                refine wp_goto iX1_addLot_98 ?_
                have hle : (p - 1) &&& S ≤ p - 1 := Nat.and_le_left
                refine ihp _ (by omega) best ch (Sb.and _ _) k1 k2 k3 k4 k5 (fun q hqs hlt hqy => k6 q hqs ?_ hqy) _
                by_cases z : q < p
                · have := sb_next p S q hp1 hqs z
                  omega
                · omega
              refine wp_al0 iX1_addLot_32 ?_
              refine wp_gR iX1_addLot_33 fr_1_28 rfl rfl rfl ?_
              refine wp_il6 iX1_addLot_36 ?_
              refine wp_ia iX1_addLot_38 rfl (by omega) ?_
              rw [tp, i1 45 (by decide) (by decide), g45.1]
              refine wp_il2 iX1_addLot_39 ?_
              refine wp_cgt iX1_addLot_40 (fun c_40 => ?_) (fun c_40 => ?_)
              · exact next best ch hc0 hcs hcy hbe hb0 (fun q hqs hle hqy => by
                  by_cases z : q = p
                  · subst z; omega
                  · exact hq q hqs (by omega) hqy) _
              · have hBp := hB (S - p) (by omega)
                refine wp_al0 iX1_addLot_43 ?_
                refine wp_gR iX1_addLot_44 fr_1_28 rfl rfl rfl ?_
                refine wp_il6 iX1_addLot_47 ?_
                refine wp_ia iX1_addLot_49 rfl (by omega) ?_
                rw [tp, i1 45 (by decide) (by decide), g45.1]
                refine wp_ldc iX1_addLot_50 kl_1_75 (by decide) ?_
                refine wp_mul iX1_addLot_52 (by omega) ?_
                refine wp_il1 iX1_addLot_53 ?_
                refine wp_al0 iX1_addLot_54 ?_
                refine wp_gR iX1_addLot_55 fr_1_31 rfl rfl rfl ?_
                refine wp_il6 iX1_addLot_58 ?_
                refine wp_ia iX1_addLot_60 rfl (by omega) ?_
                rw [tp, i1 46 (by decide) (by decide), g45.2]
                refine wp_mul iX1_addLot_61 (by omega) ?_
                refine wp_sub iX1_addLot_62 (by omega) ?_
                refine wp_al0 iX1_addLot_63 ?_
                refine wp_gR iX1_addLot_64 fr_1_34 rfl rfl rfl ?_
                refine wp_il3 iX1_addLot_67 ?_
                refine wp_il6 iX1_addLot_68 ?_
                refine wp_sub iX1_addLot_70 (by omega) ?_
                refine wp_ia iX1_addLot_71 rfl (by omega) ?_
                rw [show ((S : Int) - (p : Int)).toNat = S - p by omega, i3 (S - p) (by omega)]
                have ev : bs y n p * 390625 - (l : Int) * bs p5 n p + B (S - p) = dvl n y B l S p := by unfold dvl; omega
                refine wp_add iX1_addLot_72 (by omega) ?_
                rw [ev]
                refine wp_is7 iX1_addLot_73 ?_
                refine wp_il7 iX1_addLot_75 ?_
                refine wp_il4 iX1_addLot_77 ?_
                refine wp_cle iX1_addLot_79 (fun c_79 => ?_) (fun c_79 => ?_)
                · exact next best ch hc0 hcs hcy hbe hb0 (fun q hqs hle hqy => by
                    by_cases z : q = p
                    · subst z; omega
                    · exact hq q hqs (by omega) hqy) _
                · refine wp_il7 iX1_addLot_82 ?_
                  refine wp_is4 iX1_addLot_84 ?_
                  refine wp_il6 iX1_addLot_86 ?_
                  refine wp_is5 iX1_addLot_88 ?_
                  refine next _ _ (by omega) (by rw [tp]; exact hp1) (by rw [tp]; omega) (by rw [tp]) (by omega) (fun q hqs hle hqy => ?_) _
                  by_cases z : q = p
                  · subst z; omega
                  · have := hq q hqs (by omega) hqy
                    omega
        refine key2 S (B S) 0 (Sb.rf S) (by omega) (Sb.zero S) (by show bs y n 0 ≤ Y; rw [bs_zero]; omega) ?_ (by omega) (fun q hqs hlt _ => ?_) _
        · show B S = dvl n y B l S 0
          unfold dvl
          rw [bs_zero, bs_zero, Nat.sub_zero]
          omega
        · have := Sb.le _ _ hqs
          omega
  refine key (2 ^ n) M (Nat.le_refl _) ⟨fun _ _ _ => rfl, fun _ _ => rfl, fun S hS => (hB S hS).1, fun S h1 h2 => by omega⟩ _ _ _ _
end AddX
