def fxM (C R : Nat) (T : ab_Me) : Prop := (∀ a, onB C R a → ∃ c : Nat, T 72 a = (c : Int) ∧ c ≤ a ∧ onB C R c ∧ Cn C R (T 57) a c) ∧ ∀ a b, adj C R (T 57) a b → T 72 a = T 72 b
def fdM (C R : Nat) (col : Nat → Int) (M N : ab_Me) : Prop := (∀ a, a ≠ 56 → (a < 72 ∨ 75 < a) → N a = M a) ∧ (∀ j, j ≠ 24 → N 56 j = M 56 j) ∧ ∃ n xs fl, n ≤ 120 ∧ isF C R col n xs fl ∧ N 56 24 = (n : Int) ∧ (∀ a, onB C R a → N 72 a = (xs (fl a) : Int)) ∧ ∀ f, f < n → N 73 f = (xs f : Int) ∧ N 74 f = fArea C R fl f ∧ N 75 f = fYarn C R col fl f
section NumM
variable (L : Nat) (T : ab_Me)
set_option maxHeartbeats 2000000 in
theorem c_X9_number {C R : Nat} (h : hM T) (hC : T 56 0 = (C : Int)) (hR : T 56 1 = (R : Int)) (hx : fxM C R T) : ct L 2 mX9_number [.inr 56] T (fun r N => r = none ∧ fdM C R (T 57) T N) := by
  obtain ⟨h1, h2, h3, h4, h5, h6⟩ := id h
  obtain ⟨x1, x2⟩ := hx
  refine ct_of rfl ?_
  change wp _ _ _ 0 [some (.inr 56), none, none, none, none] [] _ _
  refine wp_al0 iX9_number_0 ?_
  refine wp_ic iX9_number_1 (by decide) ?_
  refine wp_pI iX9_number_2 fp_9_143 rfl ?_
  refine wp_ic iX9_number_5 (by decide) ?_
  refine wp_is1 iX9_number_6 ?_
  -- the second walk
  have walk : ∀ (n : Nat) (xs fl : Nat → Nat) (N : ab_Me), n ≤ 120 → (∀ f g, f < g → g < n → xs f < xs g) → (∀ f, f < n → xs f < 120) → isF C R (T 57) n xs fl → (∀ a, onB C R a → fl a < n ∧ T 72 a = (xs (fl a) : Int)) → nuJ C R T n xs fl 0 N → ∀ v2 v3 v4 : Option ab_V, wp L 1 mX9_number 96 [some (.inr 56), some (.inl 0), v2, v3, v4] [] N (fun r N => r = none ∧ fdM C R (T 57) T N) := by
    intro n xs fl N hn hinc hxb hF hfl hJ
    have key : ∀ (m p : Nat) (N : ab_Me), R - p = m → p ≤ R → nuJ C R T n xs fl (12 * p) N → ∀ v2 v3 v4 : Option ab_V, wp L 1 mX9_number 96 [some (.inr 56), some (.inl (p : Int)), v2, v3, v4] [] N (fun r N => r = none ∧ fdM C R (T 57) T N) := by
      intro m
      induction m using Nat.strongRecOn with
      | ind m ih =>
        intro p N hm hp hJ v2 v3 v4
        have e1 : N 56 1 = (R : Int) := by rw [hJ.2.1 1 (by decide)]; exact hR
        refine wp_il1 iX9_number_96 ?_
        refine wp_al0 iX9_number_97 ?_
        refine wp_gI iX9_number_98 fi_9_13 rfl ?_
        rw [e1]
        refine wp_cge iX9_number_101 (fun c_101 => ?_) (fun c_101 => ?_)
        · refine wp_retv iX9_number_187 rfl ?_
          have hpR : p = R := by omega
          refine ⟨rfl, fun a b1 b2 => hJ.1 a b1 (by omega) (by omega) (by omega), hJ.2.1, n, xs, fl, hn, hF, hJ.2.2.1, fun a ha => ?_, fun f hf => ⟨hJ.2.2.2.1 f hf, ?_, ?_⟩⟩
          · rw [hJ.1 72 (by decide) (by decide) (by decide) (by decide)]; exact (hfl a ha).2
          · rw [(hJ.2.2.2.2 f hf).1]
            exact sm_congr _ (fun a _ => by
              by_cases z : onB C R a ∧ fl a = f
              · rw [if_pos ⟨z, by have := z.1.2; omega⟩, if_pos z]
              · rw [if_neg (fun y => z y.1), if_neg z])
          · rw [(hJ.2.2.2.2 f hf).2]
            exact sm_congr _ (fun a _ => by
              by_cases z : onB C R a ∧ fl a = f
              · rw [if_pos ⟨z, by have := z.1.2; omega⟩, if_pos z]
              · rw [if_neg (fun y => z y.1), if_neg z])
        · refine wp_ic iX9_number_104 (by decide) ?_
          refine wp_is2 iX9_number_105 ?_
          have key2 : ∀ (m2 w : Nat) (N : ab_Me), C - w = m2 → w ≤ C → nuJ C R T n xs fl (12 * p + w) N → ∀ v3 v4 : Option ab_V, wp L 1 mX9_number 106 [some (.inr 56), some (.inl (p : Int)), some (.inl (w : Int)), v3, v4] [] N (fun r N => r = none ∧ fdM C R (T 57) T N) := by
            intro m2
            induction m2 using Nat.strongRecOn with
            | ind m2 ih2 =>
              intro w N hm2 hw hJ v3 v4
              have e0 : N 56 0 = (C : Int) := by rw [hJ.2.1 0 (by decide)]; exact hC
              have e1 : N 56 1 = (R : Int) := by rw [hJ.2.1 1 (by decide)]; exact hR
              have e57 : N 57 = T 57 := hJ.1 57 (by decide) (by decide) (by decide) (by decide)
              have e58 : N 58 = T 58 := hJ.1 58 (by decide) (by decide) (by decide) (by decide)
              have e72 : N 72 = T 72 := hJ.1 72 (by decide) (by decide) (by decide) (by decide)
              refine wp_il2 iX9_number_106 ?_
              refine wp_al0 iX9_number_107 ?_
              refine wp_gI iX9_number_108 fi_9_7 rfl ?_
              rw [e0]
              refine wp_cge iX9_number_111 (fun c_111 => ?_) (fun c_111 => ?_)
              · refine wp_ii1 iX9_number_181 (by omega) ?_
                refine wp_goto iX9_number_184 ?_
                rw [show (p : Int) + 1 = ((p + 1 : Nat) : Int) by omega]
                refine ih _ (by omega) (p + 1) N rfl (by omega) (nuJ_go hJ (by omega) (fun a ha q1 q2 => ?_)) _ _ _
                have := ha.1
                omega
              · have hon : onB C R (12 * p + w) := ⟨by omega, by omega⟩
                have hc120 : 12 * p + w < 120 := by omega
                have tc : (12 * (p : Int) + (w : Int)).toNat = 12 * p + w := by omega
                obtain ⟨c, hcd⟩ : ∃ c, c = 12 * p + w := ⟨_, rfl⟩
                have hfc := hfl _ hon
                rw [← hcd] at hon hc120 tc hfc hJ
                refine wp_bp iX9_number_114 (by decide) ?_
                refine wp_il1 iX9_number_116 ?_
                refine wp_mul iX9_number_117 (by omega) ?_
                refine wp_il2 iX9_number_118 ?_
                refine wp_add iX9_number_119 (by omega) ?_
                refine wp_is3 iX9_number_120 ?_
                refine wp_ic iX9_number_121 (by decide) ?_
                refine wp_is4 iX9_number_122 ?_
                have srch : ∀ (m3 f : Nat), fl c - f = m3 → f ≤ fl c → wp L 1 mX9_number 124 [some (.inr 56), some (.inl (p : Int)), some (.inl (w : Int)), some (.inl (12 * (p : Int) + (w : Int))), some (.inl (f : Int))] [] N (fun r N => r = none ∧ fdM C R (T 57) T N) := by
                  intro m3
                  induction m3 using Nat.strongRecOn with
                  | ind m3 ih3 =>
                    intro f hm3 hf
                    have tf : ((f : Int)).toNat = f := by omega
                    have e73 : N 73 f = (xs f : Int) := hJ.2.2.2.1 f (by omega)
                    refine wp_al0 iX9_number_124 ?_
                    refine wp_gR iX9_number_125 fr_9_72 rfl rfl rfl ?_
                    refine wp_il4 iX9_number_128 ?_
                    refine wp_ia iX9_number_130 rfl (by omega) ?_
                    rw [tf, e73]
                    refine wp_al0 iX9_number_131 ?_
                    refine wp_gR iX9_number_132 fr_9_69 rfl rfl rfl ?_
                    refine wp_il3 iX9_number_135 ?_
                    refine wp_ia iX9_number_136 rfl (by omega) ?_
                    rw [tc, e72, hfc.2]
                    refine wp_ceq iX9_number_137 (fun c_137 => ?_) (fun c_137 => ?_)
                    · have hfe : f = fl c := inc_inj hinc (by omega) hfc.1 (by omega)
                      have hb74 := sm_bd (fun a => if (onB C R a ∧ fl a = f) ∧ a < c then (1 : Int) else 0) 1 (fun a => by split <;> omega) 120
                      have hb75 := sm_bd (fun a => if (onB C R a ∧ fl a = f) ∧ a < c then 2 + sds C R (T 57) a else 0) 6 (fun a => by have := sds_bd C R (T 57) a; split <;> omega) 120
                      rw [← (hJ.2.2.2.2 f (by omega)).1] at hb74
                      rw [← (hJ.2.2.2.2 f (by omega)).2] at hb75
                      refine wp_al0 iX9_number_146 ?_
                      refine wp_gR iX9_number_147 fr_9_75 rfl rfl rfl ?_
                      refine wp_il4 iX9_number_150 ?_
                      refine wp_dup2 iX9_number_152 ?_
                      refine wp_ia iX9_number_153 rfl (by omega) ?_
                      rw [tf]
                      refine wp_ic iX9_number_154 (by decide) ?_
                      refine wp_add iX9_number_155 (by omega) ?_
                      refine wp_is iX9_number_156 rfl rfl (by omega) ?_
                      rw [tf]
                      have hMA : hM (ab_up N 74 f (N 74 f + 1)) := by
                        have z0 : ab_up N 74 f (N 74 f + 1) 56 = N 56 := rfl
                        have z1 : ab_up N 74 f (N 74 f + 1) 57 = N 57 := rfl
                        have z2 : ab_up N 74 f (N 74 f + 1) 58 = N 58 := rfl
                        unfold hM
                        rw [z0, z1, z2, e0, e1, e57, e58]
                        exact ⟨by omega, by omega, by omega, by omega, h5, h6⟩
                      have hsd := c_X9_sides L (ab_up N 74 f (N 74 f + 1)) (C := C) (R := R) hMA e0 e1 w p (by omega) (by omega)
                      have hsv : sds C R (ab_up N 74 f (N 74 f + 1) 57) (12 * p + w) = sds C R (T 57) c := by
                        have z1 : ab_up N 74 f (N 74 f + 1) 57 = N 57 := rfl
                        rw [z1, e57, hcd]
                      rw [hsv] at hsd
                      have hsb := sds_bd C R (T 57) c
                      refine wp_al0 iX9_number_157 ?_
                      refine wp_gR iX9_number_158 fr_9_78 rfl rfl rfl ?_
                      refine wp_il4 iX9_number_161 ?_
                      refine wp_dup2 iX9_number_163 ?_
                      refine wp_ia iX9_number_164 rfl (by omega) ?_
                      rw [tf, show ab_up N 74 f (N 74 f + 1) 75 f = N 75 f from rfl]
                      refine wp_ic iX9_number_165 (by decide) ?_
                      refine wp_al0 iX9_number_166 ?_
                      refine wp_il2 iX9_number_167 ?_
                      refine wp_il1 iX9_number_168 ?_
                      refine wp_v2f iX9_number_169 ml_9_146 rfl rfl rfl rfl (hsd) ?_
                      refine wp_add iX9_number_172 (by omega) ?_
                      refine wp_add iX9_number_173 (by omega) ?_
                      refine wp_is iX9_number_174 rfl rfl (by omega) ?_
                      refine wp_ii2 iX9_number_175 (by omega) ?_
                      refine wp_goto iX9_number_178 ?_
                      rw [tf, show (w : Int) + 1 = ((w + 1 : Nat) : Int) by omega]
                      have hadd := nuJ_add hJ hon hc120 hfc.1
                      rw [← hfe] at hadd
                      refine ih2 _ (by omega) (w + 1) _ rfl (by omega) ?_ _ _
                      rw [show 12 * p + (w + 1) = c + 1 by omega]
                      exact hadd
                    · refine wp_ii4 iX9_number_140 (by omega) ?_
                      refine wp_goto iX9_number_143 ?_
                      rw [show (f : Int) + 1 = ((f + 1 : Nat) : Int) by omega]
                      have : f ≠ fl c := fun z => by rw [z] at c_137; exact c_137 rfl
                      exact ih3 _ (by omega) (f + 1) rfl (by omega)
                exact srch _ 0 rfl (by omega)
          exact key2 _ 0 N rfl (by omega) hJ _ _
    exact key _ 0 N rfl (by omega) hJ
  -- the first walk
  have key : ∀ (m p n : Nat) (xs : Nat → Nat) (N : ab_Me), R - p = m → p ≤ R → nuI C R T n xs (12 * p) N → ∀ v2 v3 v4 : Option ab_V, wp L 1 mX9_number 7 [some (.inr 56), some (.inl (p : Int)), v2, v3, v4] [] N (fun r N => r = none ∧ fdM C R (T 57) T N) := by
    intro m
    induction m using Nat.strongRecOn with
    | ind m ih =>
      intro p n xs N hm hp hI v2 v3 v4
      have e1 : N 56 1 = (R : Int) := by rw [hI.2.1 1 (by decide)]; exact hR
      refine wp_il1 iX9_number_7 ?_
      refine wp_al0 iX9_number_8 ?_
      refine wp_gI iX9_number_9 fi_9_13 rfl ?_
      rw [e1]
      refine wp_cge iX9_number_12 (fun c_12 => ?_) (fun c_12 => ?_)
      · refine wp_ic iX9_number_94 (by decide) ?_
        refine wp_is1 iX9_number_95 ?_
        have hpR : p = R := by omega
        have hn := nuI_n hI
        obtain ⟨i1, i2, i3, i4, i5, i6, i7⟩ := id hI
        have hex : ∀ a, ∃ f : Nat, onB C R a → f < n ∧ T 72 a = (xs f : Int) := by
          intro a
          by_cases ha : onB C R a
          · obtain ⟨c, c1, c2, c3, c4⟩ := x1 a ha
            have hcc : T 72 c = (c : Int) := by rw [← c1]; exact (c4.const (fl := T 72) x2).symm
            obtain ⟨f, hf, hfx⟩ := i7 c c3 (by have := c3.2; omega) hcc
            exact ⟨f, fun _ => ⟨hf, by rw [c1, hfx]⟩⟩
          · exact ⟨0, fun z => absurd z ha⟩
        obtain ⟨fl, hfl⟩ := Classical.axiomOfChoice hex
        have hF : isF C R (T 57) n xs fl := by
          refine ⟨fun f hf => ⟨(i6 f hf).1, ?_⟩, i5, fun a ha => ?_, fun a b hab => ?_⟩
          · have y := hfl (xs f) (i6 f hf).1
            have z := (i6 f hf).2.1
            exact inc_inj i5 y.1 hf (by omega)
          · have y := hfl a ha
            obtain ⟨c, c1, c2, c3, c4⟩ := x1 a ha
            have e : xs (fl a) = c := by omega
            rw [e]
            exact ⟨y.1, c2, c4⟩
          · have y := hfl a hab.1
            have y2 := hfl b hab.2.1
            have := x2 a b hab
            exact inc_inj i5 y.1 y2.1 (by omega)
        refine walk n xs fl N (by omega) i5 (fun f hf => on_lt (by omega) (by omega) (i6 f hf).1) hF hfl ⟨i1, i2, i3, fun f hf => (i4 f hf).1, fun f hf => ?_⟩ _ _ _
        have z : ∀ g : Nat → Int, sm (fun a => if (onB C R a ∧ fl a = f) ∧ a < 0 then g a else 0) 120 = 0 := fun g => by
          rw [sm_congr 120 (g := fun _ => 0) (fun a _ => if_neg (fun q => by have := q.2; omega)), sm_const]
          rfl
        exact ⟨by rw [z (fun _ => 1)]; exact (i4 f hf).2.1, by rw [z (fun a => 2 + sds C R (T 57) a)]; exact (i4 f hf).2.2⟩
      · refine wp_ic iX9_number_15 (by decide) ?_
        refine wp_is2 iX9_number_16 ?_
        have key2 : ∀ (m2 w n : Nat) (xs : Nat → Nat) (N : ab_Me), C - w = m2 → w ≤ C → nuI C R T n xs (12 * p + w) N → ∀ v3 v4 : Option ab_V, wp L 1 mX9_number 17 [some (.inr 56), some (.inl (p : Int)), some (.inl (w : Int)), v3, v4] [] N (fun r N => r = none ∧ fdM C R (T 57) T N) := by
          intro m2
          induction m2 using Nat.strongRecOn with
          | ind m2 ih2 =>
            intro w n xs N hm2 hw hI v3 v4
            have e0 : N 56 0 = (C : Int) := by rw [hI.2.1 0 (by decide)]; exact hC
            have e72 : N 72 = T 72 := hI.1 72 (by decide) (by decide) (by decide) (by decide)
            have hn := nuI_n hI
            refine wp_il2 iX9_number_17 ?_
            refine wp_al0 iX9_number_18 ?_
            refine wp_gI iX9_number_19 fi_9_7 rfl ?_
            rw [e0]
            refine wp_cge iX9_number_22 (fun c_22 => ?_) (fun c_22 => ?_)
            · refine wp_ii1 iX9_number_88 (by omega) ?_
              refine wp_goto iX9_number_91 ?_
              rw [show (p : Int) + 1 = ((p + 1 : Nat) : Int) by omega]
              refine ih _ (by omega) (p + 1) n xs N rfl (by omega) (nuI_go hI (by omega) (fun a ha q1 q2 => ?_)) _ _ _
              have := ha.1
              omega
            · have hon : onB C R (12 * p + w) := ⟨by omega, by omega⟩
              have tc : (12 * (p : Int) + (w : Int)).toNat = 12 * p + w := by omega
              have cc : (12 * (p : Int) + (w : Int)) = ((12 * p + w : Nat) : Int) := by omega
              have goOn : ∀ (n' : Nat) (xs' : Nat → Nat) (N' : ab_Me), nuI C R T n' xs' (12 * p + w + 1) N' → ∀ v3 v4 : Option ab_V, wp L 1 mX9_number 82 [some (.inr 56), some (.inl (p : Int)), some (.inl (w : Int)), v3, v4] [] N' (fun r N => r = none ∧ fdM C R (T 57) T N) := by
                intro n' xs' N' hI' v3 v4
                refine wp_ii2 iX9_number_82 (by omega) ?_
                refine wp_goto iX9_number_85 ?_
                rw [show (w : Int) + 1 = ((w + 1 : Nat) : Int) by omega]
                exact ih2 _ (by omega) (w + 1) n' xs' N' rfl (by omega) hI' _ _
              refine wp_bp iX9_number_25 (by decide) ?_
              refine wp_il1 iX9_number_27 ?_
              refine wp_mul iX9_number_28 (by omega) ?_
              refine wp_il2 iX9_number_29 ?_
              refine wp_add iX9_number_30 (by omega) ?_
              refine wp_is3 iX9_number_31 ?_
              refine wp_al0 iX9_number_32 ?_
              refine wp_gR iX9_number_33 fr_9_69 rfl rfl rfl ?_
              refine wp_il3 iX9_number_36 ?_
              refine wp_ia iX9_number_37 rfl (by omega) ?_
              rw [tc, e72]
              refine wp_il3 iX9_number_38 ?_
              refine wp_cne iX9_number_39 (fun c_39 => ?_) (fun c_39 => ?_)
              · refine goOn n xs N (nuI_go hI (by omega) (fun a ha q1 q2 => ?_)) _ _
                rw [show a = 12 * p + w by omega]
                intro z
                exact c_39 (by rw [z]; omega)
              · have ef : N 56 24 = (n : Int) := hI.2.2.1
                have tn : ((n : Int)).toNat = n := by omega
                refine wp_al0 iX9_number_42 ?_
                refine wp_gR iX9_number_43 fr_9_72 rfl rfl rfl ?_
                refine wp_al0 iX9_number_46 ?_
                refine wp_gI iX9_number_47 fi_9_143 rfl ?_
                rw [ef]
                refine wp_il3 iX9_number_50 ?_
                refine wp_is iX9_number_51 rfl rfl (by omega) ?_
                refine wp_al0 iX9_number_52 ?_
                refine wp_gR iX9_number_53 fr_9_75 rfl rfl rfl ?_
                refine wp_al0 iX9_number_56 ?_
                refine wp_gI iX9_number_57 fi_9_143 rfl ?_
                rw [tn, show ab_up N 73 n (12 * (p : Int) + (w : Int)) 56 24 = (n : Int) from ef]
                refine wp_ic iX9_number_60 (by decide) ?_
                refine wp_is iX9_number_61 rfl rfl (by omega) ?_
                refine wp_al0 iX9_number_62 ?_
                refine wp_gR iX9_number_63 fr_9_78 rfl rfl rfl ?_
                refine wp_al0 iX9_number_66 ?_
                refine wp_gI iX9_number_67 fi_9_143 rfl ?_
                rw [tn, show ab_up (ab_up N 73 n (12 * (p : Int) + (w : Int))) 74 n 0 56 24 = (n : Int) from ef]
                refine wp_ic iX9_number_70 (by decide) ?_
                refine wp_is iX9_number_71 rfl rfl (by omega) ?_
                refine wp_al0 iX9_number_72 ?_
                refine wp_dup iX9_number_73 ?_
                refine wp_gI iX9_number_74 fi_9_143 rfl ?_
                rw [tn, show ab_up (ab_up (ab_up N 73 n (12 * (p : Int) + (w : Int))) 74 n 0) 75 n 0 56 24 = (n : Int) from ef]
                refine wp_ic iX9_number_77 (by decide) ?_
                refine wp_add iX9_number_78 (by omega) ?_
                refine wp_pI iX9_number_79 fp_9_143 rfl ?_
                rw [cc]
                exact goOn _ _ _ (nuI_new hI hon (by rw [c_39]; omega)) _ _
        exact key2 _ 0 n xs N rfl (by omega) hI _ _
  exact key _ 0 0 (fun _ => 0) _ rfl (by omega) ⟨fun a b1 b2 b3 b4 => ab_up_ne _ _ _ b1, fun j hj => by rw [ab_up_self, ab_u1_ne _ _ hj], rfl, fun f hf => by omega, fun f g q1 q2 => by omega, fun f hf => by omega, fun a ha hlt => by omega⟩ _ _ _
end NumM
