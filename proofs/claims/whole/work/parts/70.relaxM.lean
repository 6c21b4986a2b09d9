/-! ===== findFields: labels sink until nothing moves ===== -/
def rxI (C R : Nat) (M : ab_Me) (N : ab_Me) : Prop := (∀ a, a ≠ 72 → N a = M a) ∧ ∀ a, onB C R a → ∃ c : Nat, N 72 a = (c : Int) ∧ c ≤ a ∧ onB C R c ∧ Cn C R (M 57) a c
def rxS (C R : Nat) (r : Nat → Int) : Int := sm (fun a => if onB C R a then r a else 0) 120
theorem rxS_n {C R : Nat} {r : Nat → Int} (h : ∀ a, onB C R a → 0 ≤ r a) : ∀ n, 0 ≤ sm (fun a => if onB C R a then r a else 0) n
  | 0 => Int.le_refl _
  | n + 1 => by
    have := rxS_n h n
    show 0 ≤ sm (fun a => if onB C R a then r a else 0) n + (if onB C R n then r n else 0)
    by_cases z : onB C R n
    · rw [if_pos z]; have := h n z; omega
    · rw [if_neg z]; omega
theorem rxS_up {C R : Nat} (r : Nat → Int) {c : Nat} (hc : onB C R c) (h120 : c < 120) (z : Int) : rxS C R (ab_u1 r c z) = rxS C R r + (z - r c) := by
  unfold rxS
  have := sm_one (fun a => if onB C R a then r a else 0) (fun a => if onB C R a then ab_u1 r c z a else 0) c (z - r c) (by
    show (if onB C R c then ab_u1 r c z c else 0) = (if onB C R c then r c else 0) + (z - r c)
    rw [if_pos hc, if_pos hc, ab_u1_self]
    omega) (fun a ha => by
    show (if onB C R a then ab_u1 r c z a else 0) = (if onB C R a then r a else 0)
    rw [ab_u1_ne _ _ ha]) 120
  rw [this, if_pos h120]
def bsOk (C R : Nat) (col r : Nat → Int) (a : Nat) (b : Int) : Prop := (b = r a ∨ ∃ o, adj C R col a o ∧ b = r o) ∧ b ≤ r a
theorem bsOk_lsr {C R : Nat} {N : ab_Me} {a o : Nat} {b : Int} (h : bsOk C R (N 57) (N 72) a b) (ho : N 57 a = N 57 o → adj C R (N 57) a o) : bsOk C R (N 57) (N 72) a (lsr N b a o) ∧ lsr N b a o ≤ b ∧ (N 57 a = N 57 o → lsr N b a o ≤ N 72 o) := by
  unfold lsr
  by_cases z : N 57 a = N 57 o ∧ N 72 o < b
  · rw [if_pos z]
    exact ⟨⟨Or.inr ⟨o, ho z.1, rfl⟩, by have := h.2; omega⟩, by omega, fun _ => Int.le_refl _⟩
  · rw [if_neg z]
    exact ⟨h, Int.le_refl _, fun y => by
      by_cases q : N 72 o < b
      · exact absurd ⟨y, q⟩ z
      · omega⟩
section RelaxM
variable (L : Nat) (M : ab_Me)
set_option maxHeartbeats 2000000 in
theorem c_X9_findFields {C R : Nat} (h : hM M) (hC : M 56 0 = (C : Int)) (hR : M 56 1 = (R : Int)) : ct L 3 mX9_findFields [.inr 56] M (fun r N => r = none ∧ fdM C R (M 57) M N) := by
  obtain ⟨h1, h2, h3, h4, h5, h6⟩ := id h
  refine ct_of rfl ?_
  change wp _ _ _ 0 [some (.inr 56), none, none, none, none, none] [] _ _
  have hmN : ∀ N : ab_Me, rxI C R M N → hM N ∧ N 56 = M 56 ∧ N 57 = M 57 := fun N hN => by
    have e56 := hN.1 56 (by decide)
    have e57 := hN.1 57 (by decide)
    have e58 := hN.1 58 (by decide)
    exact ⟨by unfold hM; rw [e56, e57, e58]; exact h, e56, e57⟩
  -- the end
  have fin : ∀ (N : ab_Me), rxI C R M N → (∀ a b, adj C R (M 57) a b → N 72 a ≤ N 72 b) → ∀ v1 v2 v3 v4 v5 : Option ab_V, wp L 2 mX9_findFields 246 [some (.inr 56), v1, v2, v3, v4, v5] [] N (fun r N => r = none ∧ fdM C R (M 57) M N) := by
    intro N hN hle v1 v2 v3 v4 v5
    obtain ⟨hMN, e56, e57⟩ := hmN N hN
    have hnum := c_X9_number L N (C := C) (R := R) hMN (by rw [e56]; exact hC) (by rw [e56]; exact hR) ⟨by rw [e57]; exact hN.2, by rw [e57]; exact fun a b hab => Int.le_antisymm (hle a b hab) (hle b a hab.sym)⟩
    refine wp_al0 iX9_findFields_246 ?_
    refine wp_v0x iX9_findFields_247 ml_9_140 rfl rfl rfl rfl (hnum) (fun r N1 hx => ?_)
    obtain ⟨rfl, f1, f2, f3⟩ := hx
    rw [e57] at f3
    refine wp_retv iX9_findFields_250 rfl ?_
    refine ⟨rfl, fun a b1 b2 => ?_, fun j hj => ?_, f3⟩
    · rw [f1 a b1 b2]; exact hN.1 a (by omega)
    · rw [f2 j hj, e56]
  -- the loop
  have loop : ∀ (s : Nat) (N : ab_Me), (rxS C R (N 72)).toNat = s → rxI C R M N → ∀ v2 v3 v4 v5 : Option ab_V, wp L 2 mX9_findFields 51 [some (.inr 56), some (.inl 1), v2, v3, v4, v5] [] N (fun r N => r = none ∧ fdM C R (M 57) M N) := by
    intro s
    induction s using Nat.strongRecOn with
    | ind s ihs =>
      intro N0 hs hN0 v2 v3 v4 v5
      have nn0 : 0 ≤ rxS C R (N0 72) := rxS_n (fun a ha => by obtain ⟨c, hc, -⟩ := hN0.2 a ha; omega) 120
      refine wp_il1 iX9_findFields_51 ?_
      refine wp_zeq iX9_findFields_52 (fun c_52 => ?_) (fun c_52 => ?_)
      · exact absurd c_52 (by decide)
      · refine wp_ic iX9_findFields_55 (by decide) ?_
        refine wp_is1 iX9_findFields_56 ?_
        refine wp_ic iX9_findFields_57 (by decide) ?_
        refine wp_is2 iX9_findFields_58 ?_
        -- a sweep
        have key : ∀ (m p : Nat) (mo : Int) (N : ab_Me), R - p = m → p ≤ R → rxI C R M N → ((mo = 0 ∧ N 72 = N0 72 ∧ ∀ a, onB C R a → a < 12 * p → ∀ b, adj C R (M 57) a b → N 72 a ≤ N 72 b) ∨ (mo = 1 ∧ rxS C R (N 72) < rxS C R (N0 72))) → ∀ v3 v4 v5 : Option ab_V, wp L 2 mX9_findFields 59 [some (.inr 56), some (.inl mo), some (.inl (p : Int)), v3, v4, v5] [] N (fun r N => r = none ∧ fdM C R (M 57) M N) := by
          intro m
          induction m using Nat.strongRecOn with
          | ind m ih =>
            intro p mo N hm hp hN hmo v3 v4 v5
            obtain ⟨hMN, e56, e57⟩ := hmN N hN
            have nn : 0 ≤ rxS C R (N 72) := rxS_n (fun a ha => by obtain ⟨c, hc, -⟩ := hN.2 a ha; omega) 120
            refine wp_il2 iX9_findFields_59 ?_
            refine wp_al0 iX9_findFields_60 ?_
            refine wp_gI iX9_findFields_61 fi_9_13 rfl ?_
            rw [e56, hR]
            refine wp_cge iX9_findFields_64 (fun c_64 => ?_) (fun c_64 => ?_)
            · refine wp_goto iX9_findFields_243 ?_
              rcases hmo with ⟨rfl, q1, q2⟩ | ⟨rfl, q1⟩
              · refine wp_il1 iX9_findFields_51 ?_
                refine wp_zeq iX9_findFields_52 (fun c_52b => ?_) (fun c_52b => ?_)
                · refine fin N hN (fun a b hab => q2 a hab.1 ?_ b hab) _ _ _ _ _
                  have := hab.1.2
                  omega
                · exact absurd rfl c_52b
              · exact ihs _ (by omega) N rfl hN _ _ _ _
            · refine wp_ic iX9_findFields_67 (by decide) ?_
              refine wp_is3 iX9_findFields_68 ?_
              have key2 : ∀ (m2 w : Nat) (mo : Int) (N : ab_Me), C - w = m2 → w ≤ C → rxI C R M N → ((mo = 0 ∧ N 72 = N0 72 ∧ ∀ a, onB C R a → a < 12 * p + w → ∀ b, adj C R (M 57) a b → N 72 a ≤ N 72 b) ∨ (mo = 1 ∧ rxS C R (N 72) < rxS C R (N0 72))) → ∀ v4 v5 : Option ab_V, wp L 2 mX9_findFields 69 [some (.inr 56), some (.inl mo), some (.inl (p : Int)), some (.inl (w : Int)), v4, v5] [] N (fun r N => r = none ∧ fdM C R (M 57) M N) := by
                intro m2
                induction m2 using Nat.strongRecOn with
                | ind m2 ih2 =>
                  intro w mo N hm2 hw hN hmo v4 v5
                  obtain ⟨hMN, e56, e57⟩ := hmN N hN
                  refine wp_il3 iX9_findFields_69 ?_
                  refine wp_al0 iX9_findFields_70 ?_
                  refine wp_gI iX9_findFields_71 fi_9_7 rfl ?_
                  rw [e56, hC]
                  refine wp_cge iX9_findFields_74 (fun c_74 => ?_) (fun c_74 => ?_)
                  · refine wp_ii2 iX9_findFields_237 (by omega) ?_
                    refine wp_goto iX9_findFields_240 ?_
                    rw [show (p : Int) + 1 = ((p + 1 : Nat) : Int) by omega]
                    refine ih _ (by omega) (p + 1) mo N rfl (by omega) hN (hmo.imp (fun q => ⟨q.1, q.2.1, fun a ha hlt => q.2.2 a ha ?_⟩) id) _ _ _
                    have := ha.1
                    omega
                  · have hon : onB C R (12 * p + w) := ⟨by omega, by omega⟩
                    have tc : (12 * (p : Int) + (w : Int)).toNat = 12 * p + w := by omega
                    have cc : (12 * (p : Int) + (w : Int)) = ((12 * p + w : Nat) : Int) := by omega
                    obtain ⟨c, hcd⟩ : ∃ c, c = 12 * p + w := ⟨_, rfl⟩
                    have hcm : c % 12 = w := by omega
                    have hcq : c / 12 = p := by omega
                    rw [← hcd] at hon tc cc hmo
                    have hc120 : c < 120 := by omega
                    have tcc : ((c : Int)).toNat = c := by omega
                    refine wp_bp iX9_findFields_77 (by decide) ?_
                    refine wp_il2 iX9_findFields_79 ?_
                    refine wp_mul iX9_findFields_80 (by omega) ?_
                    refine wp_il3 iX9_findFields_81 ?_
                    refine wp_add iX9_findFields_82 (by omega) ?_
                    refine wp_is4 iX9_findFields_83 ?_
                    refine wp_al0 iX9_findFields_85 ?_
                    refine wp_gR iX9_findFields_86 fr_9_69 rfl rfl rfl ?_
                    refine wp_il4 iX9_findFields_89 ?_
                    refine wp_ia iX9_findFields_91 rfl (by omega) ?_
                    rw [cc, tcc]
                    -- what is behind the four looks
                    have tail : ∀ b5 : Int, bsOk C R (M 57) (N 72) c b5 → (∀ o, adj C R (M 57) c o → b5 ≤ N 72 o) → ∀ v5, wp L 2 mX9_findFields 198 [some (.inr 56), some (.inl mo), some (.inl (p : Int)), some (.inl (w : Int)), some (.inl (c : Int)), v5] [.inl b5] N (fun r N => r = none ∧ fdM C R (M 57) M N) := by
                      intro b5 hb hall v5
                      have last : ∀ mo2 : Int, ((mo2 = 0 ∧ b5 = N 72 c ∧ N 72 = N0 72 ∧ ∀ a, onB C R a → a < c → ∀ b, adj C R (M 57) a b → N 72 a ≤ N 72 b) ∨ (mo2 = 1 ∧ rxS C R (ab_u1 (N 72) c b5) < rxS C R (N0 72))) → wp L 2 mX9_findFields 221 [some (.inr 56), some (.inl mo), some (.inl (p : Int)), some (.inl (w : Int)), some (.inl (c : Int)), some (.inl b5)] [.inl mo2] N (fun r N => r = none ∧ fdM C R (M 57) M N) := by
                        intro mo2 hm2'
                        refine wp_is1 iX9_findFields_221 ?_
                        refine wp_al0 iX9_findFields_222 ?_
                        refine wp_gR iX9_findFields_223 fr_9_69 rfl rfl rfl ?_
                        refine wp_il4 iX9_findFields_226 ?_
                        refine wp_il5 iX9_findFields_228 ?_
                        refine wp_is iX9_findFields_230 rfl rfl (by omega) ?_
                        refine wp_ii3 iX9_findFields_231 (by omega) ?_
                        refine wp_goto iX9_findFields_234 ?_
                        rw [tcc, show (w : Int) + 1 = ((w + 1 : Nat) : Int) by omega]
                        have a72 : ab_up N 72 c b5 72 = ab_u1 (N 72) c b5 := ab_up_self _ _ _ _
                        refine ih2 _ (by omega) (w + 1) mo2 (ab_up N 72 c b5) rfl (by omega) ⟨fun a ha => ?_, fun a ha => ?_⟩ ?_ _ _
                        · rw [ab_up_ne _ _ _ ha]; exact hN.1 a ha
                        · rw [a72]
                          by_cases z : a = c
                          · subst z
                            rw [ab_u1_self]
                            rcases hb.1 with y | ⟨o, y1, y2⟩
                            · rw [y]; exact hN.2 a ha
                            · obtain ⟨k, k1, k2, k3, k4⟩ := hN.2 o y1.2.1
                              obtain ⟨k', k1', k2', k3', k4'⟩ := hN.2 a ha
                              have := hb.2
                              exact ⟨k, by rw [y2, k1], by omega, k3, (Cn.ad y1).tr k4⟩
                          · rw [ab_u1_ne _ _ z]; exact hN.2 a ha
                        · rw [a72]
                          rcases hm2' with ⟨r1, r2, r3, r4⟩ | ⟨r1, r2⟩
                          · left
                            rw [r2, u1_same]
                            refine ⟨r1, r3, fun a ha hlt b hab => ?_⟩
                            by_cases z : a = c
                            · subst z
                              rw [← r2]; exact hall b hab
                            · exact r4 a ha (by omega) b hab
                          · exact Or.inr ⟨r1, r2⟩
                      refine wp_is5 iX9_findFields_198 ?_
                      refine wp_il1 iX9_findFields_200 ?_
                      have hSu := rxS_up (N 72) hon hc120 b5
                      refine wp_zne iX9_findFields_201 (fun c_201 => ?_) (fun c_201 => ?_)
                      · refine wp_ic iX9_findFields_216 (by decide) ?_
                        refine wp_goto iX9_findFields_217 ?_
                        refine last 1 (Or.inr ⟨rfl, ?_⟩)
                        rcases hmo with ⟨q1, -⟩ | ⟨q1, q2⟩
                        · exact absurd q1 c_201
                        · rw [hSu]; have := hb.2; omega
                      · rcases hmo with ⟨q1, q2, q3⟩ | ⟨q1, q2⟩
                        · refine wp_il5 iX9_findFields_204 ?_
                          refine wp_al0 iX9_findFields_206 ?_
                          refine wp_gR iX9_findFields_207 fr_9_69 rfl rfl rfl ?_
                          refine wp_il4 iX9_findFields_210 ?_
                          refine wp_ia iX9_findFields_212 rfl (by omega) ?_
                          rw [tcc]
                          refine wp_ceq iX9_findFields_213 (fun c_213 => ?_) (fun c_213 => ?_)
                          · refine wp_ic iX9_findFields_220 (by decide) ?_
                            exact last 0 (Or.inl ⟨rfl, c_213, q2, q3⟩)
                          · refine wp_ic iX9_findFields_216 (by decide) ?_
                            refine wp_goto iX9_findFields_217 ?_
                            refine last 1 (Or.inr ⟨rfl, ?_⟩)
                            rw [hSu, ← q2]
                            have := hb.2
                            omega
                        · exfalso; omega
                    -- the four looks, from behind
                    have adE : ∀ o : Nat, (∃ w' p' : Int, ((p' = ((c / 12 : Nat) : Int) ∧ (w' = ((c % 12 : Nat) : Int) - 1 ∨ w' = ((c % 12 : Nat) : Int) + 1)) ∨ (w' = ((c % 12 : Nat) : Int) ∧ (p' = ((c / 12 : Nat) : Int) - 1 ∨ p' = ((c / 12 : Nat) : Int) + 1))) ∧ ((0 ≤ w' ∧ w' < C) ∧ 0 ≤ p' ∧ p' < R) ∧ (12 * p' + w').toNat = o) → M 57 c = M 57 o → adj C R (M 57) c o := by
                      rintro o ⟨w', p', d, ob, rfl⟩ he
                      exact (adj_nb (x := c) (by omega) hon rfl w' p' d ob he.symm).sym
                    have look4 : ∀ b4 : Int, bsOk C R (M 57) (N 72) c b4 → (0 < w → M 57 c = M 57 (c - 1) → b4 ≤ N 72 (c - 1)) → (w + 1 < C → M 57 c = M 57 (c + 1) → b4 ≤ N 72 (c + 1)) → (0 < p → M 57 c = M 57 (c - 12) → b4 ≤ N 72 (c - 12)) → ∀ v5, wp L 2 mX9_findFields 168 [some (.inr 56), some (.inl mo), some (.inl (p : Int)), some (.inl (w : Int)), some (.inl (c : Int)), v5] [.inl b4] N (fun r N => r = none ∧ fdM C R (M 57) M N) := by
                      intro b4 hb f1 f2 f3 v5
                      have done : ∀ b5 : Int, b5 ≤ b4 → (p + 1 < R → M 57 c = M 57 (c + 12) → b5 ≤ N 72 (c + 12)) → ∀ o, adj C R (M 57) c o → b5 ≤ N 72 o := by
                        intro b5 hb5 f4 o ho
                        have hco := ho.2.2.1
                        obtain ⟨w', p', d, ob, e⟩ := nb_adj (by omega) ho
                        rw [hcm, hcq] at d
                        rcases d with ⟨rfl, rfl | rfl⟩ | ⟨rfl, rfl | rfl⟩
                        · have eo : o = c - 1 := by omega
                          rw [eo] at hco ⊢; have := f1 (by omega) hco; omega
                        · have eo : o = c + 1 := by omega
                          rw [eo] at hco ⊢; have := f2 (by omega) hco; omega
                        · have eo : o = c - 12 := by omega
                          rw [eo] at hco ⊢; have := f3 (by omega) hco; omega
                        · have eo : o = c + 12 := by omega
                          rw [eo] at hco ⊢; exact f4 (by omega) hco
                      refine wp_is5 iX9_findFields_168 ?_
                      refine wp_il2 iX9_findFields_170 ?_
                      refine wp_ic iX9_findFields_171 (by decide) ?_
                      refine wp_add iX9_findFields_172 (by omega) ?_
                      refine wp_al0 iX9_findFields_173 ?_
                      refine wp_gI iX9_findFields_174 fi_9_13 rfl ?_
                      rw [e56, hR]
                      refine wp_cge iX9_findFields_177 (fun c_177 => ?_) (fun c_177 => ?_)
                      · refine wp_il5 iX9_findFields_196 ?_
                        exact tail b4 hb (done b4 (Int.le_refl _) (fun z => by omega)) _
                      · have hl := c_X9_lesser L N b4 c (c + 12) hc120 (by omega)
                        rw [show ((c + 12 : Nat) : Int) = (c : Int) + 12 by omega] at hl
                        rw [← e57] at hb
                        have hk := bsOk_lsr hb (o := c + 12) (by rw [e57]; exact adE _ ⟨(w : Int), (p : Int) + 1, by omega, by omega, by omega⟩)
                        rw [e57] at hk
                        refine wp_al0 iX9_findFields_180 ?_
                        refine wp_il5 iX9_findFields_181 ?_
                        refine wp_il4 iX9_findFields_183 ?_
                        refine wp_il4 iX9_findFields_185 ?_
                        refine wp_bp iX9_findFields_187 (by decide) ?_
                        refine wp_add iX9_findFields_189 (by omega) ?_
                        refine wp_v3f iX9_findFields_190 ml_9_136 rfl rfl rfl rfl (hl) ?_
                        refine wp_goto iX9_findFields_193 ?_
                        exact tail _ hk.1 (done _ hk.2.1 (fun _ z => hk.2.2 z)) _
                    have look3 : ∀ b3 : Int, bsOk C R (M 57) (N 72) c b3 → (0 < w → M 57 c = M 57 (c - 1) → b3 ≤ N 72 (c - 1)) → (w + 1 < C → M 57 c = M 57 (c + 1) → b3 ≤ N 72 (c + 1)) → ∀ v5, wp L 2 mX9_findFields 144 [some (.inr 56), some (.inl mo), some (.inl (p : Int)), some (.inl (w : Int)), some (.inl (c : Int)), v5] [.inl b3] N (fun r N => r = none ∧ fdM C R (M 57) M N) := by
                      intro b3 hb f1 f2 v5
                      refine wp_is5 iX9_findFields_144 ?_
                      refine wp_il2 iX9_findFields_146 ?_
                      refine wp_zle iX9_findFields_147 (fun c_147 => ?_) (fun c_147 => ?_)
                      · refine wp_il5 iX9_findFields_166 ?_
                        exact look4 b3 hb f1 f2 (fun z => by omega) _
                      · have hl := c_X9_lesser L N b3 c (c - 12) hc120 (by omega)
                        rw [show ((c - 12 : Nat) : Int) = (c : Int) - 12 by omega] at hl
                        rw [← e57] at hb
                        have hk := bsOk_lsr hb (o := c - 12) (by rw [e57]; exact adE _ ⟨(w : Int), (p : Int) - 1, by omega, by omega, by omega⟩)
                        rw [e57] at hk
                        refine wp_al0 iX9_findFields_150 ?_
                        refine wp_il5 iX9_findFields_151 ?_
                        refine wp_il4 iX9_findFields_153 ?_
                        refine wp_il4 iX9_findFields_155 ?_
                        refine wp_bp iX9_findFields_157 (by decide) ?_
                        refine wp_sub iX9_findFields_159 (by omega) ?_
                        refine wp_v3f iX9_findFields_160 ml_9_136 rfl rfl rfl rfl (hl) ?_
                        refine wp_goto iX9_findFields_163 ?_
                        exact look4 _ hk.1 (fun z1 z2 => Int.le_trans hk.2.1 (f1 z1 z2)) (fun z1 z2 => Int.le_trans hk.2.1 (f2 z1 z2)) (fun _ z => hk.2.2 z) _
                    have look2 : ∀ b2 : Int, bsOk C R (M 57) (N 72) c b2 → (0 < w → M 57 c = M 57 (c - 1) → b2 ≤ N 72 (c - 1)) → ∀ v5, wp L 2 mX9_findFields 115 [some (.inr 56), some (.inl mo), some (.inl (p : Int)), some (.inl (w : Int)), some (.inl (c : Int)), v5] [.inl b2] N (fun r N => r = none ∧ fdM C R (M 57) M N) := by
                      intro b2 hb f1 v5
                      refine wp_is5 iX9_findFields_115 ?_
                      refine wp_il3 iX9_findFields_117 ?_
                      refine wp_ic iX9_findFields_118 (by decide) ?_
                      refine wp_add iX9_findFields_119 (by omega) ?_
                      refine wp_al0 iX9_findFields_120 ?_
                      refine wp_gI iX9_findFields_121 fi_9_7 rfl ?_
                      rw [e56, hC]
                      refine wp_cge iX9_findFields_124 (fun c_124 => ?_) (fun c_124 => ?_)
                      · refine wp_il5 iX9_findFields_142 ?_
                        exact look3 b2 hb f1 (fun z => by omega) _
                      · have hl := c_X9_lesser L N b2 c (c + 1) hc120 (by omega)
                        rw [show ((c + 1 : Nat) : Int) = (c : Int) + 1 by omega] at hl
                        rw [← e57] at hb
                        have hk := bsOk_lsr hb (o := c + 1) (by rw [e57]; exact adE _ ⟨(w : Int) + 1, (p : Int), by omega, by omega, by omega⟩)
                        rw [e57] at hk
                        refine wp_al0 iX9_findFields_127 ?_
                        refine wp_il5 iX9_findFields_128 ?_
                        refine wp_il4 iX9_findFields_130 ?_
                        refine wp_il4 iX9_findFields_132 ?_
                        refine wp_ic iX9_findFields_134 (by decide) ?_
                        refine wp_add iX9_findFields_135 (by omega) ?_
                        refine wp_v3f iX9_findFields_136 ml_9_136 rfl rfl rfl rfl (hl) ?_
                        refine wp_goto iX9_findFields_139 ?_
                        exact look3 _ hk.1 (fun z1 z2 => Int.le_trans hk.2.1 (f1 z1 z2)) (fun _ z => hk.2.2 z) _
                    have hb0 : bsOk C R (M 57) (N 72) c (N 72 c) := ⟨Or.inl rfl, Int.le_refl _⟩
                    refine wp_is5 iX9_findFields_92 ?_
                    refine wp_il3 iX9_findFields_94 ?_
                    refine wp_zle iX9_findFields_95 (fun c_95 => ?_) (fun c_95 => ?_)
                    · refine wp_il5 iX9_findFields_113 ?_
                      exact look2 _ hb0 (fun z => by omega) _
                    · have hl := c_X9_lesser L N (N 72 c) c (c - 1) hc120 (by omega)
                      rw [show ((c - 1 : Nat) : Int) = (c : Int) - 1 by omega] at hl
                      rw [← e57] at hb0
                      have hk := bsOk_lsr hb0 (o := c - 1) (by rw [e57]; exact adE _ ⟨(w : Int) - 1, (p : Int), by omega, by omega, by omega⟩)
                      rw [e57] at hk
                      refine wp_al0 iX9_findFields_98 ?_
                      refine wp_il5 iX9_findFields_99 ?_
                      refine wp_il4 iX9_findFields_101 ?_
                      refine wp_il4 iX9_findFields_103 ?_
                      refine wp_ic iX9_findFields_105 (by decide) ?_
                      refine wp_sub iX9_findFields_106 (by omega) ?_
                      refine wp_v3f iX9_findFields_107 ml_9_136 rfl rfl rfl rfl (hl) ?_
                      refine wp_goto iX9_findFields_110 ?_
                      exact look2 _ hk.1 (fun _ z => hk.2.2 z) _
              exact key2 _ 0 mo N rfl (by omega) hN hmo _ _
        exact key _ 0 0 N0 rfl (by omega) hN0 (Or.inl ⟨rfl, rfl, fun a ha hlt => by omega⟩) _ _ _
  -- the first walk
  refine wp_ic iX9_findFields_0 (by decide) ?_
  refine wp_is1 iX9_findFields_1 ?_
  have key : ∀ (m p : Nat) (N : ab_Me), R - p = m → p ≤ R → (∀ a, a ≠ 72 → N a = M a) → (∀ a, onB C R a → a < 12 * p → N 72 a = (a : Int)) → ∀ v2 v3 v4 v5 : Option ab_V, wp L 2 mX9_findFields 2 [some (.inr 56), some (.inl (p : Int)), v2, v3, v4, v5] [] N (fun r N => r = none ∧ fdM C R (M 57) M N) := by
    intro m
    induction m using Nat.strongRecOn with
    | ind m ih =>
      intro p N hm hp hfr hN v2 v3 v4 v5
      refine wp_il1 iX9_findFields_2 ?_
      refine wp_al0 iX9_findFields_3 ?_
      refine wp_gI iX9_findFields_4 fi_9_13 rfl ?_
      rw [hfr 56 (by decide), hR]
      refine wp_cge iX9_findFields_7 (fun c_7 => ?_) (fun c_7 => ?_)
      · refine wp_ic iX9_findFields_49 (by decide) ?_
        refine wp_is1 iX9_findFields_50 ?_
        refine loop _ N rfl ⟨hfr, fun a ha => ⟨a, hN a ha ?_, Nat.le_refl _, ha, Cn.rf a⟩⟩ _ _ _ _
        have := ha.2
        omega
      · refine wp_ic iX9_findFields_10 (by decide) ?_
        refine wp_is2 iX9_findFields_11 ?_
        have key2 : ∀ (m2 w : Nat) (N : ab_Me), C - w = m2 → w ≤ C → (∀ a, a ≠ 72 → N a = M a) → (∀ a, onB C R a → a < 12 * p + w → N 72 a = (a : Int)) → ∀ v3 v4 v5 : Option ab_V, wp L 2 mX9_findFields 12 [some (.inr 56), some (.inl (p : Int)), some (.inl (w : Int)), v3, v4, v5] [] N (fun r N => r = none ∧ fdM C R (M 57) M N) := by
          intro m2
          induction m2 using Nat.strongRecOn with
          | ind m2 ih2 =>
            intro w N hm2 hw hfr hN v3 v4 v5
            refine wp_il2 iX9_findFields_12 ?_
            refine wp_al0 iX9_findFields_13 ?_
            refine wp_gI iX9_findFields_14 fi_9_7 rfl ?_
            rw [hfr 56 (by decide), hC]
            refine wp_cge iX9_findFields_17 (fun c_17 => ?_) (fun c_17 => ?_)
            · refine wp_ii1 iX9_findFields_43 (by omega) ?_
              refine wp_goto iX9_findFields_46 ?_
              rw [show (p : Int) + 1 = ((p + 1 : Nat) : Int) by omega]
              refine ih _ (by omega) (p + 1) N rfl (by omega) hfr (fun a ha hlt => hN a ha ?_) _ _ _ _
              have := ha.1
              omega
            · refine wp_al0 iX9_findFields_20 ?_
              refine wp_gR iX9_findFields_21 fr_9_69 rfl rfl rfl ?_
              refine wp_bp iX9_findFields_24 (by decide) ?_
              refine wp_il1 iX9_findFields_26 ?_
              refine wp_mul iX9_findFields_27 (by omega) ?_
              refine wp_il2 iX9_findFields_28 ?_
              refine wp_add iX9_findFields_29 (by omega) ?_
              refine wp_bp iX9_findFields_30 (by decide) ?_
              refine wp_il1 iX9_findFields_32 ?_
              refine wp_mul iX9_findFields_33 (by omega) ?_
              refine wp_il2 iX9_findFields_34 ?_
              refine wp_add iX9_findFields_35 (by omega) ?_
              refine wp_is iX9_findFields_36 rfl rfl (by omega) ?_
              refine wp_ii2 iX9_findFields_37 (by omega) ?_
              refine wp_goto iX9_findFields_40 ?_
              rw [show (12 * (p : Int) + (w : Int)).toNat = 12 * p + w by omega, show (w : Int) + 1 = ((w + 1 : Nat) : Int) by omega]
              refine ih2 _ (by omega) (w + 1) _ rfl (by omega) (fun a ha => by rw [ab_up_ne _ _ _ ha]; exact hfr a ha) (fun a ha hlt => ?_) _ _ _
              rw [ab_up_self]
              by_cases z : a = 12 * p + w
              · subst z; rw [ab_u1_self]; omega
              · rw [ab_u1_ne _ _ z]; exact hN a ha (by omega)
        exact key2 _ 0 N rfl (by omega) hfr hN _ _ _
  exact key _ 0 M rfl (by omega) (fun _ _ => rfl) (fun a ha hlt => by omega) _ _ _ _
end RelaxM
