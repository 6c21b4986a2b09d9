/-! ===== DEALING of the class: the choices are read; find ===== -/
section ReadX
variable (L : Nat) (M : ab_Me) {n m : Nat} {c y : Nat → Int}
theorem c_X1_readChoices {Bf : Nat → Nat → Int} {ch : Nat → Nat → Nat} (hn : n ≤ 8) (hm : m ≤ 4) (hC : M 41 0 = (n : Int)) (hC3 : M 41 3 = (m : Int)) (hd : dps m n c y Bf ch 0) (hch : ∀ l S, l < m → S < 2 ^ n → M 48 (l * 256 + S) = (ch l S : Int)) : ct L 2 mX1_readChoices [.inr 41] M (fun r N => r = none ∧ (∀ a, a ≠ 43 → N a = M a) ∧ ∃ g, dbest m n c y g ∧ ∀ i, i < n → N 43 i = (g (n - 1 - i) : Int)) := by
  refine ct_of rfl ?_
  have hp := two_le hn
  change wp _ _ _ 0 [some (.inr 41), none, none, none, none] [] _ _
  refine wp_al0 iX1_readChoices_0 ?_
  refine wp_gR iX1_readChoices_1 fr_1_19 rfl rfl rfl ?_
  refine wp_ic iX1_readChoices_4 (by decide) ?_
  refine wp_s2v iX1_readChoices_5 ml_1_76 rfl rfl rfl (c_fill L _ 43 8 4 rfl rfl (by decide)) ?_
  refine wp_ic iX1_readChoices_8 (by decide) ?_
  refine wp_al0 iX1_readChoices_9 ?_
  refine wp_gI iX1_readChoices_10 fi_1_9 rfl ?_
  rw [ab_rw_ne _ _ (show (41 : Nat) ≠ 43 by decide), hC]
  refine wp_shl iX1_readChoices_13 (bb_shl n (by omega)) ?_
  refine wp_ic iX1_readChoices_14 (by decide) ?_
  refine wp_sub iX1_readChoices_15 (by omega) ?_
  refine wp_is1 iX1_readChoices_16 ?_
  refine wp_ic iX1_readChoices_17 (by decide) ?_
  refine wp_is2 iX1_readChoices_18 ?_
  have key : ∀ (j l left : Nat) (g : Nat → Nat) (N : ab_Me), m - l = j → l ≤ m → rdI m n c y Bf l left g → (∀ a, a ≠ 43 → N a = M a) → (∀ i, i < n → N 43 i = (g (n - 1 - i) : Int)) → ∀ v3 v4 : Option ab_V, wp L 1 mX1_readChoices 19 [some (.inr 41), some (.inl (left : Int)), some (.inl (l : Int)), v3, v4] [] N (fun r N => r = none ∧ (∀ a, a ≠ 43 → N a = M a) ∧ ∃ g, dbest m n c y g ∧ ∀ i, i < n → N 43 i = (g (n - 1 - i) : Int)) := by
    intro j
    induction j using Nat.strongRecOn with
    | ind j ih =>
      intro l left g N hj hl hr hfr hg v3 v4
      refine wp_il2 iX1_readChoices_19 ?_
      refine wp_al0 iX1_readChoices_20 ?_
      refine wp_gI iX1_readChoices_21 fi_1_22 rfl ?_
      rw [hfr 41 (by decide), hC3]
      refine wp_cge iX1_readChoices_24 (fun c_24 => ?_) (fun c_24 => ?_)
      · have e : l = m := by omega
        subst e
        refine wp_retv iX1_readChoices_93 rfl ?_
        exact ⟨rfl, hfr, g, rdI_end hm hd hr, hg⟩
      · have hlm : l < m := by omega
        have hleft := hr.1
        have hst := rdI_step hm hlm hd hr
        have hsub := Sb.le _ _ (hd.2 l (by omega) hlm left hleft).1
        refine wp_al0 iX1_readChoices_27 ?_
        refine wp_gR iX1_readChoices_28 fr_1_37 rfl rfl rfl ?_
        refine wp_il2 iX1_readChoices_31 ?_
        refine wp_sp iX1_readChoices_32 (by decide) ?_
        refine wp_mul iX1_readChoices_35 (by omega) ?_
        refine wp_il1 iX1_readChoices_36 ?_
        refine wp_add iX1_readChoices_37 (by omega) ?_
        refine wp_ia iX1_readChoices_38 rfl (by omega) ?_
        rw [show ((l : Int) * 256 + (left : Int)).toNat = l * 256 + left by omega, hfr 48 (by decide), hch l left hlm hleft]
        generalize hpp : ch l left = p at hst hsub
        refine wp_is3 iX1_readChoices_39 ?_
        refine wp_ic iX1_readChoices_40 (by decide) ?_
        refine wp_is4 iX1_readChoices_41 ?_
        have key2 : ∀ (j2 i : Nat) (N : ab_Me), n - i = j2 → i ≤ n → (∀ a, a ≠ 43 → N a = M a) → (∀ i', i' < n → N 43 i' = if i' < i then ((if p.testBit (n - 1 - i') = true then l else g (n - 1 - i') : Nat) : Int) else (g (n - 1 - i') : Int)) → wp L 1 mX1_readChoices 43 [some (.inr 41), some (.inl (left : Int)), some (.inl (l : Int)), some (.inl (p : Int)), some (.inl (i : Int))] [] N (fun r N => r = none ∧ (∀ a, a ≠ 43 → N a = M a) ∧ ∃ g, dbest m n c y g ∧ ∀ i, i < n → N 43 i = (g (n - 1 - i) : Int)) := by
          intro j2
          induction j2 using Nat.strongRecOn with
          | ind j2 ih2 =>
            intro i N hj2 hi hfr hg2
            refine wp_il4 iX1_readChoices_43 ?_
            refine wp_al0 iX1_readChoices_45 ?_
            refine wp_gI iX1_readChoices_46 fi_1_9 rfl ?_
            rw [hfr 41 (by decide), hC]
            refine wp_cge iX1_readChoices_49 (fun c_49 => ?_) (fun c_49 => ?_)
            · have e : i = n := by omega
              subst e
              refine wp_il1 iX1_readChoices_83 ?_
              refine wp_il3 iX1_readChoices_84 ?_
              refine wp_sub iX1_readChoices_85 (by omega) ?_
              refine wp_is1 iX1_readChoices_86 ?_
              refine wp_ii2 iX1_readChoices_87 (by omega) ?_
              refine wp_goto iX1_readChoices_90 ?_
              rw [show (left : Int) - (p : Int) = ((left - p : Nat) : Int) by omega, show (l : Int) + 1 = ((l + 1 : Nat) : Int) by omega]
              exact ih _ (by omega) (l + 1) (left - p) _ N rfl (by omega) hst hfr (fun i' hi' => by rw [hg2 i' hi', if_pos hi']) _ _
            · refine wp_il3 iX1_readChoices_52 ?_
              refine wp_al0 iX1_readChoices_53 ?_
              refine wp_gI iX1_readChoices_54 fi_1_9 rfl ?_
              rw [hfr 41 (by decide), hC]
              refine wp_ic iX1_readChoices_57 (by decide) ?_
              refine wp_sub iX1_readChoices_58 (by omega) ?_
              refine wp_il4 iX1_readChoices_59 ?_
              refine wp_sub iX1_readChoices_61 (by omega) ?_
              rw [show (n : Int) - 1 - (i : Int) = ((n - 1 - i : Nat) : Int) by omega]
              by_cases hb : p.testBit (n - 1 - i) = true
              · refine wp_shr iX1_readChoices_62 rfl ?_
                refine wp_ic iX1_readChoices_63 (by decide) ?_
                refine wp_and iX1_readChoices_64 ((bb_bit p (by omega) (n - 1 - i) (by omega)).trans (if_pos hb)) ?_
                refine wp_ic iX1_readChoices_65 (by decide) ?_
                refine wp_cne iX1_readChoices_66 (fun c_66 => absurd rfl c_66) (fun c_66 => ?_)
                refine wp_al0 iX1_readChoices_69 ?_
                refine wp_gR iX1_readChoices_70 fr_1_19 rfl rfl rfl ?_
                refine wp_il4 iX1_readChoices_73 ?_
                refine wp_il2 iX1_readChoices_75 ?_
                refine wp_is iX1_readChoices_76 rfl rfl (by omega) ?_
                rw [show ((i : Int)).toNat = i by omega]
                refine wp_ii4 iX1_readChoices_77 (by omega) ?_
                refine wp_goto iX1_readChoices_80 ?_
                rw [show (i : Int) + 1 = ((i + 1 : Nat) : Int) by omega]
                refine ih2 _ (by omega) (i + 1) _ rfl (by omega) (fun a ha => by rw [ab_up_ne _ _ _ ha]; exact hfr a ha) (fun i' hi' => ?_)
                rw [ab_up_self]
                by_cases z : i' = i
                · subst z
                  rw [ab_u1_self, if_pos (by omega), if_pos hb]
                · rw [ab_u1_ne _ _ z, hg2 i' hi']
                  by_cases w : i' < i
                  · rw [if_pos w, if_pos (show i' < i + 1 by omega)]
                  · rw [if_neg w, if_neg (show ¬ i' < i + 1 by omega)]
              · refine wp_shr iX1_readChoices_62 rfl ?_
                refine wp_ic iX1_readChoices_63 (by decide) ?_
                refine wp_and iX1_readChoices_64 ((bb_bit p (by omega) (n - 1 - i) (by omega)).trans (if_neg hb)) ?_
                refine wp_ic iX1_readChoices_65 (by decide) ?_
                refine wp_cne iX1_readChoices_66 (fun c_66 => ?_) (fun c_66 => absurd c_66 (by decide))
                refine wp_ii4 iX1_readChoices_77 (by omega) ?_
                refine wp_goto iX1_readChoices_80 ?_
                rw [show (i : Int) + 1 = ((i + 1 : Nat) : Int) by omega]
                refine ih2 _ (by omega) (i + 1) _ rfl (by omega) hfr (fun i' hi' => ?_)
                rw [hg2 i' hi']
                by_cases z : i' = i
                · subst z
                  rw [if_neg (by omega), if_pos (by omega), if_neg hb]
                · by_cases w : i' < i
                  · rw [if_pos w, if_pos (show i' < i + 1 by omega)]
                  · rw [if_neg w, if_neg (show ¬ i' < i + 1 by omega)]
        exact key2 _ 0 N rfl (by omega) hfr (fun i' hi' => by rw [if_neg (by omega)]; exact hg i' hi')
  rw [show ((2 ^ n : Nat) : Int) - 1 = ((2 ^ n - 1 : Nat) : Int) by omega]
  refine key _ 0 (2 ^ n - 1) (fun _ => 4) _ rfl (by omega) (rdI_ini m n c y Bf) (fun a ha => by rw [ab_rw_ne _ _ ha]) (fun i hi => ?_) _ _
  rw [ab_rw_self, if_pos (by omega)]
  rfl
end ReadX
/-- lots and fields of one colour -/
def dC (T : List Nat) (ly : Nat → Int) (l : Nat) : Int := ly (T.getD l 0)
def dYn (F : List Nat) (yr : Nat → Int) (k : Nat) : Int := yr (F.getD (F.length - 1 - k) 0)
def gz (col : Nat → Int) (z : Int) (n : Nat) : List Nat := gl (fun f => decide (col f = z)) n
def dkX (F T : List Nat) (ly yr : Nat → Int) (N : ab_Me) : Prop := F.length ≤ 8 ∧ T.length ≤ 4 ∧ N 41 0 = (F.length : Int) ∧ N 41 3 = (T.length : Int) ∧ rL (N 42) F ∧ rL (N 44) T ∧ ∃ g, dbest T.length F.length (dC T ly) (dYn F yr) g ∧ ∀ i, i < F.length → N 43 i = (g (F.length - 1 - i) : Int)
section FindX
variable (L : Nat) (M : ab_Me)
theorem c_X1_find {nF nL : Nat} (z : Int) (hnF : nF ≤ 120) (hnL : nL ≤ 12) (hF : M 34 0 = (nF : Int)) (hL : M 5 0 = (nL : Int)) (hyr : ∀ f, f < nF → 0 ≤ M 38 f ∧ M 38 f ≤ 720) (hly : ∀ l, l < nL → 0 ≤ M 7 l ∧ M 7 l ≤ 300) : ct L 3 mX1_find [.inr 41, .inl z, .inr 34, .inr 5] M (fun r N => (∀ a, a < 41 ∨ 48 < a → N a = M a) ∧ ((r = some (.inl 0) ∧ ¬ ((gz (M 36) z nF).length ≤ 8 ∧ (gz (M 6) z nL).length ≤ 4)) ∨ (r = some (.inl 1) ∧ dkX (gz (M 36) z nF) (gz (M 6) z nL) (M 7) (M 38) N))) := by
  refine ct_of rfl ?_
  change wp _ _ _ 0 [some (.inr 41), some (.inl z), some (.inr 34), some (.inr 5), none] [] _ _
  refine wp_al0 iX1_find_0 ?_
  refine wp_il1 iX1_find_1 ?_
  refine wp_al2 iX1_find_2 ?_
  refine wp_v2x iX1_find_3 ml_1_40 rfl rfl rfl rfl (c_X1_gatherFields L M z hnF hF) (fun r N hx => ?_)
  obtain ⟨a1, a2, a3⟩ := hx
  have e5 : N 5 = M 5 := a1 5 (by decide) (by decide)
  have e6 : N 6 = M 6 := a1 6 (by decide) (by decide)
  rcases a3 with ⟨rfl, a3⟩ | ⟨rfl, a3, a4, a5⟩
  · refine wp_zeq iX1_find_6 (fun _ => ?_) (fun c_6 => absurd rfl c_6)
    refine wp_ic iX1_find_18 (by decide) ?_
    refine wp_retb iX1_find_19 rfl (by decide) ?_
    refine ⟨fun a ha => a1 a (by omega) (by omega), Or.inl ⟨rfl, fun w => ?_⟩⟩
    have := w.1
    unfold gz at this
    omega
  · refine wp_zeq iX1_find_6 (fun c_6 => absurd c_6 (by decide)) (fun c_6 => ?_)
    refine wp_al0 iX1_find_9 ?_
    refine wp_il1 iX1_find_10 ?_
    refine wp_al3 iX1_find_11 ?_
    refine wp_v2x iX1_find_12 ml_1_44 rfl rfl rfl rfl (c_X1_gatherLots L N z hnL (by rw [e5]; exact hL)) (fun r N1 hx => ?_)
    rw [e6] at hx
    obtain ⟨b1, b2, b3⟩ := hx
    have fr1 : ∀ a, a < 41 ∨ 48 < a → N1 a = M a := fun a ha => by rw [b1 a (by omega) (by omega)]; exact a1 a (by omega) (by omega)
    rcases b3 with ⟨rfl, b3⟩ | ⟨rfl, b3, b4, b5⟩
    · refine wp_zne iX1_find_15 (fun c_15 => absurd rfl c_15) (fun _ => ?_)
      refine wp_ic iX1_find_18 (by decide) ?_
      refine wp_retb iX1_find_19 rfl (by decide) ?_
      refine ⟨fr1, Or.inl ⟨rfl, fun w => ?_⟩⟩
      have := w.2
      unfold gz at this
      omega
    · refine wp_zne iX1_find_15 (fun c_15 => ?_) (fun c_15 => absurd c_15 (by decide))
      have hgF := gl_in (fun f => decide (M 36 f = z)) nF
      have hgL := gl_in (fun f => decide (M 6 f = z)) nL
      change (gz (M 36) z nF).length ≤ 8 at a3
      change N 41 0 = ((gz (M 36) z nF).length : Int) at a4
      change rL (N 42) (gz (M 36) z nF) at a5
      change (gz (M 6) z nL).length ≤ 4 at b3
      change N1 41 3 = ((gz (M 6) z nL).length : Int) at b4
      change rL (N1 44) (gz (M 6) z nL) at b5
      change ∀ i, i < (gz (M 36) z nF).length → (gz (M 36) z nF).getD i 0 < nF ∧ _ at hgF
      change ∀ i, i < (gz (M 6) z nL).length → (gz (M 6) z nL).getD i 0 < nL ∧ _ at hgL
      generalize gz (M 36) z nF = F at *
      generalize gz (M 6) z nL = T at *
      have n41 : N1 41 0 = (F.length : Int) := by rw [b2 0 (by decide)]; exact a4
      have n42 : rL (N1 42) F := by rw [b1 42 (by decide) (by decide)]; exact a5
      have n38 : N1 38 = M 38 := fr1 38 (by omega)
      have n7 : N1 7 = M 7 := fr1 7 (by omega)
      have hyb : ∀ k, k < F.length → 0 ≤ dYn F (M 38) k ∧ dYn F (M 38) k ≤ 720 := fun k hk => hyr _ (hgF _ (by omega)).1
      have hii : ∀ i, i < F.length → 0 ≤ N1 42 i ∧ N1 42 i < 120 ∧ N1 38 (N1 42 i).toNat = dYn F (M 38) (F.length - 1 - i) := fun i hi => by
        have q := n42 i hi
        have q2 := (hgF i hi).1
        rw [q, n38]
        refine ⟨by omega, by omega, ?_⟩
        show _ = M 38 (F.getD (F.length - 1 - (F.length - 1 - i)) 0)
        rw [show F.length - 1 - (F.length - 1 - i) = i by omega, Int.toNat_natCast]
      refine wp_al0 iX1_find_20 ?_
      refine wp_al2 iX1_find_21 ?_
      refine wp_v1x iX1_find_22 ml_1_48 rfl rfl rfl rfl (c_X1_weighSets (n := F.length) (y := dYn F (M 38)) L N1 a3 n41 hii hyb) (fun r N2 hx => ?_)
      obtain ⟨rfl, w1, w2⟩ := hx
      refine wp_al0 iX1_find_25 ?_
      refine wp_gI iX1_find_26 fi_1_22 rfl ?_
      rw [w1 41 (by decide) (by decide) (by decide), b4]
      refine wp_ic iX1_find_29 (by decide) ?_
      refine wp_sub iX1_find_30 (by omega) ?_
      refine wp_is4 iX1_find_31 ?_
      have hp := two_le a3
      have key : ∀ (l : Nat) (N3 : ab_Me) (Bf : Nat → Nat → Int), l ≤ T.length → (∀ a, a ≠ 47 → a ≠ 48 → N3 a = N2 a) → (∀ S, S < 2 ^ F.length → N3 47 S = Bf l S ∧ -400000 ≤ Bf l S ∧ Bf l S ≤ ((T.length : Int) - l) * 117187500) → dps T.length F.length (dC T (M 7)) (dYn F (M 38)) Bf (fun l' S => (N3 48 (l' * 256 + S)).toNat) l → (∀ l' S, l ≤ l' → l' < T.length → S < 2 ^ F.length → 0 ≤ N3 48 (l' * 256 + S)) → wp L 2 mX1_find 33 [some (.inr 41), some (.inl z), some (.inr 34), some (.inr 5), some (.inl ((l : Int) - 1))] [] N3 (fun r N => (∀ a, a < 41 ∨ 48 < a → N a = M a) ∧ ((r = some (.inl 0) ∧ ¬ (F.length ≤ 8 ∧ T.length ≤ 4)) ∨ (r = some (.inl 1) ∧ dkX F T (M 7) (M 38) N))) := by
        intro l
        induction l with
        | zero =>
          intro N3 Bf hl f1 f2 f3 f4
          have g41 : N3 41 = N1 41 := by rw [f1 41 (by decide) (by decide), w1 41 (by decide) (by decide) (by decide)]
          refine wp_il4 iX1_find_33 ?_
          refine wp_zlt iX1_find_35 (fun c_35 => ?_) (fun c_35 => ?_)
          · refine wp_al0 iX1_find_62 ?_
            refine wp_v0x iX1_find_63 ml_1_61 rfl rfl rfl rfl (c_X1_readChoices L N3 a3 b3 (by rw [g41]; exact n41) (by rw [g41]; exact b4) f3 (fun l S hl hS => by have := f4 l S (by omega) hl hS; omega)) (fun r N4 hx => ?_)
            obtain ⟨rfl, q1, g, q2, q3⟩ := hx
            refine wp_ic iX1_find_66 (by decide) ?_
            refine wp_retb iX1_find_67 rfl (by decide) ?_
            refine ⟨fun a ha => ?_, Or.inr ⟨rfl, a3, b3, ?_, ?_, ?_, ?_, g, q2, q3⟩⟩
            · rw [q1 a (by omega), f1 a (by omega) (by omega), w1 a (by omega) (by omega) (by omega)]
              exact fr1 a ha
            · rw [q1 41 (by decide), g41]; exact n41
            · rw [q1 41 (by decide), g41]; exact b4
            · rw [q1 42 (by decide), f1 42 (by decide) (by decide), w1 42 (by decide) (by decide) (by decide)]; exact n42
            · rw [q1 44 (by decide), f1 44 (by decide) (by decide), w1 44 (by decide) (by decide) (by decide)]; exact b5
          · exfalso; omega
        | succ l ih =>
          intro N3 Bf hl f1 f2 f3 f4
          have hgl := (hgL l (by omega)).1
          have hlc := hly _ hgl
          have ll : ((l + 1 : Nat) : Int) - 1 = (l : Int) := by omega
          rw [ll]
          refine wp_il4 iX1_find_33 ?_
          refine wp_zlt iX1_find_35 (fun c_35 => ?_) (fun c_35 => ?_)
          · exfalso; omega
          · have g7 : N3 7 = M 7 := by rw [f1 7 (by decide) (by decide), w1 7 (by decide) (by decide) (by decide)]; exact n7
            have g44 : N3 44 l = (T.getD l 0 : Int) := by rw [f1 44 (by decide) (by decide), w1 44 (by decide) (by decide) (by decide)]; exact b5 l (by omega)
            refine wp_al0 iX1_find_38 ?_
            refine wp_il4 iX1_find_39 ?_
            refine wp_al3 iX1_find_41 ?_
            refine wp_gR iX1_find_42 fr_1_52 rfl rfl rfl ?_
            refine wp_al0 iX1_find_45 ?_
            refine wp_gR iX1_find_46 fr_1_25 rfl rfl rfl ?_
            refine wp_il4 iX1_find_49 ?_
            refine wp_ia iX1_find_51 rfl (by omega) ?_
            rw [show ((l : Int)).toNat = l by omega, g44]
            refine wp_ia iX1_find_52 rfl (by omega) ?_
            rw [g7, Int.toNat_natCast]
            refine wp_v2x iX1_find_53 ml_1_57 rfl rfl rfl rfl (c_X1_addLot (n := F.length) (y := dYn F (M 38)) (B := Bf (l + 1)) (l := l) (U := ((T.length : Int) - ((l + 1 : Nat) : Int)) * 117187500) L N3 a3 (by omega) hlc (by omega) (by rw [f1 41 (by decide) (by decide), w1 41 (by decide) (by decide) (by decide)]; exact n41) hyb (fun S hS => by rw [f1 45 (by decide) (by decide), f1 46 (by decide) (by decide)]; exact ⟨(w2 S hS).1, (w2 S hS).2.1⟩) f2) (fun r N4 hx => ?_)
            obtain ⟨rfl, q1, q2, q3, q4⟩ := hx
            refine wp_ii4 iX1_find_56 (by omega) ?_
            refine wp_goto iX1_find_59 ?_
            rw [show (l : Int) + -1 = (l : Int) - 1 by omega]
            have ee : ∀ l' S, l < l' → l' < T.length → S < 2 ^ F.length → N4 48 (l' * 256 + S) = N3 48 (l' * 256 + S) := fun l' S h1 h2 h3 => q2 _ (Or.inr (by omega))
            refine ih N4 (fun l' S => if l' = l then N4 47 S else Bf l' S) (by omega) (fun a h1 h2 => by rw [q1 a h1 h2]; exact f1 a h1 h2) (fun S hS => ?_) ⟨fun S hS => ?_, fun l' h1 h2 S hS => ?_⟩ (fun l' S h1 h2 hS => ?_)
            · rw [if_pos rfl]
              obtain ⟨d1, d2, d3, d4, d5⟩ := q4 S (by omega) hS
              have s0 := d5 0 (Sb.zero S) (by rw [bs_zero]; exact hlc.1)
              have sl := Sb.le _ _ d2
              unfold dvl at s0 d4
              rw [bs_zero, bs_zero, Nat.sub_zero] at s0
              have u1 := f2 S hS
              have u2 := f2 (S - (N4 48 (l * 256 + S)).toNat) (by omega)
              have u3 := bs5_bd a3 (N4 48 (l * 256 + S)).toNat
              have u4 := lot_bd (l := l) (by omega) u3.1 u3.2
              refine ⟨rfl, by omega, ?_⟩
              omega
            · dsimp only
              rw [if_neg (by omega)]; exact f3.1 S hS
            · have hne : ¬ (l' + 1 = l) := by omega
              simp only [hne, if_false]
              by_cases e : l' = l
              · subst e
                obtain ⟨d1, d2, d3, d4, d5⟩ := q4 S (by omega) hS
                simp only [if_true]
                exact ⟨d2, d3, d4, d5⟩
              · simp only [e, if_false]
                have := f3.2 l' (by omega) h2 S hS
                show Sb (N4 48 (l' * 256 + S)).toNat S ∧ bs _ _ (N4 48 (l' * 256 + S)).toNat ≤ _ ∧ Bf l' S = 390625 * bs _ _ (N4 48 (l' * 256 + S)).toNat - _ * bs _ _ (N4 48 (l' * 256 + S)).toNat + Bf (l' + 1) (S - (N4 48 (l' * 256 + S)).toNat) ∧ _
                rw [ee l' S (by omega) h2 hS]
                exact this
            · by_cases e : l' = l
              · subst e
                exact (q4 S (by omega) hS).1
              · rw [ee l' S (by omega) h2 hS]
                exact f4 l' S (by omega) h2 hS
      refine key T.length N2 (fun _ S => N2 47 S) (Nat.le_refl _) (fun _ _ _ => rfl) (fun S hS => ?_) ⟨fun S hS => (w2 S hS).2.2, fun l' h1 h2 => by omega⟩ (fun l' S h1 h2 => by omega)
      have := (w2 S hS).2.2
      have := bs5_bd a3 S
      refine ⟨rfl, by omega, by omega⟩
end FindX
