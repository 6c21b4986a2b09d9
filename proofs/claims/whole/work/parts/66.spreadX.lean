def spP (C R : Nat) (col : Nat → Int) (N0 : ab_Me) (f x : Nat) (N : ab_Me) : Prop :=
  (∀ a, a ≠ 34 → a ≠ 35 → a ≠ 36 → a ≠ 37 → a ≠ 38 → a ≠ 40 → N a = N0 a) ∧ N 34 0 = (f : Int) ∧ (∀ g, N 36 g = if g = f then col x else N0 36 g) ∧
  (∀ g, N 37 g = if g = f then sm (fun a => if onB C R a ∧ N 35 a = f then 1 else 0) 120 else N0 37 g) ∧
  (∀ g, N 38 g = if g = f then sm (fun a => if onB C R a ∧ N 35 a = f then 2 + sds C R col a else 0) 120 else N0 38 g) ∧
  (∀ a, onB C R a → N 35 a = N0 35 a ∨ (N0 35 a = -1 ∧ N 35 a = f ∧ Cn C R col a x)) ∧ N 35 x = f ∧ ∀ a b, adj C R col a b → N 35 a = f → N 35 b = f
theorem spB_init {C R : Nat} {col : Nat → Int} {N0 : ab_Me} {f : Nat} (hH : spH C R col N0 f) {x : Nat} (hx : onB C R x) (hn : N0 35 x < 0) : spB C R col N0 f x 1 (mJn (ab_up (ab_up (ab_up N0 36 f (col x)) 38 f 0) 34 7 0) (x : Int)) ∧ mJn (ab_up (ab_up (ab_up N0 36 f (col x)) 38 f 0) 34 7 0) (x : Int) 38 f = 0 := by
  obtain ⟨k1, k2, k3, k4, k5, k6, k7, k8, k9, k10⟩ := id hH
  have hx120 := on_lt k1.2 k2.2 hx
  have e : mJn (ab_up (ab_up (ab_up N0 36 f (col x)) 38 f 0) 34 7 0) (x : Int) = ab_up (ab_up (ab_up (ab_up (ab_up (ab_up N0 36 f (col x)) 38 f 0) 34 7 0) 35 x (f : Int)) 40 0 (x : Int)) 34 7 1 := by
    unfold mJn
    have e7 : ab_up (ab_up (ab_up N0 36 f (col x)) 38 f 0) 34 7 0 34 7 = 0 := rfl
    have e0 : ab_up (ab_up (ab_up N0 36 f (col x)) 38 f 0) 34 7 0 34 0 = (f : Int) := k8
    rw [e7, e0, if_pos (by decide), show ((x : Int)).toNat = x by omega]
    rfl
  rw [e]
  obtain ⟨A, hA⟩ : ∃ A, A = ab_up (ab_up (ab_up (ab_up (ab_up (ab_up N0 36 f (col x)) 38 f 0) 34 7 0) 35 x (f : Int)) 40 0 (x : Int)) 34 7 1 := ⟨_, rfl⟩
  rw [← hA]
  have a35 : A 35 = ab_u1 (N0 35) x (f : Int) := by rw [hA]; rfl
  have a40 : A 40 = ab_u1 (N0 40) 0 (x : Int) := by rw [hA]; rfl
  have a36 : A 36 = ab_u1 (N0 36) f (col x) := by rw [hA]; rfl
  have a38 : A 38 = ab_u1 (N0 38) f 0 := by rw [hA]; rfl
  have a34 : A 34 = ab_u1 (ab_u1 (N0 34) 7 0) 7 1 := by rw [hA]; rfl
  have ao : ∀ a, a ≠ 34 → a ≠ 35 → a ≠ 36 → a ≠ 38 → a ≠ 40 → A a = N0 a := fun a b1 b2 b3 b4 b5 => by rw [hA, ab_up_ne _ _ _ b1, ab_up_ne _ _ _ b5, ab_up_ne _ _ _ b2, ab_up_ne _ _ _ b1, ab_up_ne _ _ _ b4, ab_up_ne _ _ _ b3]
  have acc : A 35 x = (f : Int) := by rw [a35, ab_u1_self]
  have ane : ∀ b, b ≠ x → A 35 b = N0 35 b := fun b hb => by rw [a35, ab_u1_ne _ _ hb]
  have a0 : A 40 0 = (x : Int) := by rw [a40, ab_u1_self]
  refine ⟨⟨ao, fun j hj => ?_, ?_, fun g => ?_, fun g hg => ?_, fun a ha => ?_, acc, fun t ht => ?_, fun a ha hf => ?_, fun g => ?_⟩, ?_⟩
  · rw [a34, ab_u1_ne _ _ hj, ab_u1_ne _ _ hj]
  · rw [a34, ab_u1_self]; rfl
  · rw [a36]
    by_cases z : g = f
    · subst z; rw [ab_u1_self, if_pos rfl]
    · rw [ab_u1_ne _ _ z, if_neg z]
  · rw [a38, ab_u1_ne _ _ hg]
  · by_cases z : a = x
    · subst z
      exact Or.inr ⟨by have := k9 a ha; omega, acc, Cn.rf a⟩
    · exact Or.inl (ane a z)
  · rw [show t = 0 by omega]
    exact ⟨x, a0, hx, acc⟩
  · by_cases z : a = x
    · subst z
      exact ⟨0, by omega, a0⟩
    · rw [ane a z] at hf
      have := k9 a ha
      omega
  · have hl : sm (fun t => g (A 40 t).toNat) 1 = g x := by
      show 0 + g (A 40 0).toNat = _
      rw [a0, show ((x : Int)).toNat = x by omega]
      omega
    have hz : ∀ a, (if onB C R a ∧ N0 35 a = f then g a else 0) = 0 := fun a => by
      by_cases ha : onB C R a
      · have := k9 a ha; rw [if_neg (by omega)]
      · rw [if_neg (fun z => ha z.1)]
    have hr := sm_one (fun a => if onB C R a ∧ N0 35 a = f then g a else 0) (fun a => if onB C R a ∧ A 35 a = f then g a else 0) x (g x) (by
      have z2 : onB C R x ∧ A 35 x = f := ⟨hx, acc⟩
      rw [hz x, if_pos z2]
      omega) (fun a ha => by rw [ane a ha]) 120
    have h0 : sm (fun a => if onB C R a ∧ N0 35 a = f then g a else 0) 120 = 0 := by
      rw [sm_congr 120 (g := fun _ => 0) (fun a _ => hz a), sm_const]
      rfl
    rw [hl, hr, h0, if_pos hx120]
    omega
  · rw [a38, ab_u1_self]
theorem adj_nb {C R : Nat} {col : Nat → Int} (hC : C ≤ 12) {a x : Nat} (ha : onB C R a) (hax : col a = col x) (w p : Int) (hd : (p = ((a / 12 : Nat) : Int) ∧ (w = ((a % 12 : Nat) : Int) - 1 ∨ w = ((a % 12 : Nat) : Int) + 1)) ∨ (w = ((a % 12 : Nat) : Int) ∧ (p = ((a / 12 : Nat) : Int) - 1 ∨ p = ((a / 12 : Nat) : Int) + 1))) (ho : (0 ≤ w ∧ w < C) ∧ 0 ≤ p ∧ p < R) (hc : col (12 * p + w).toNat = col x) : adj C R col (12 * p + w).toNat a := by
  have e1 : (12 * p + w).toNat % 12 = w.toNat := by omega
  have e2 : (12 * p + w).toNat / 12 = p.toNat := by omega
  refine ⟨⟨by omega, by omega⟩, ha, by rw [hc, hax], ?_⟩
  rw [e1, e2]
  omega
theorem nb_adj {C R : Nat} {col : Nat → Int} (hC : C ≤ 12) {a b : Nat} (h : adj C R col a b) : ∃ w p : Int, ((p = ((a / 12 : Nat) : Int) ∧ (w = ((a % 12 : Nat) : Int) - 1 ∨ w = ((a % 12 : Nat) : Int) + 1)) ∨ (w = ((a % 12 : Nat) : Int) ∧ (p = ((a / 12 : Nat) : Int) - 1 ∨ p = ((a / 12 : Nat) : Int) + 1))) ∧ ((0 ≤ w ∧ w < C) ∧ 0 ≤ p ∧ p < R) ∧ (12 * p + w).toNat = b := by
  obtain ⟨h1, h2, h3, h4⟩ := h
  exact ⟨((b % 12 : Nat) : Int), ((b / 12 : Nat) : Int), by omega, by omega, by omega⟩
section SpreadX
variable (L : Nat)
set_option maxHeartbeats 2000000 in
theorem c_X2_spread {C R : Nat} {col : Nat → Int} {N0 : ab_Me} {f : Nat} (hH : spH C R col N0 f) (x : Nat) (hx : onB C R x) (hn : N0 35 x < 0) : ct L 4 mX2_spread [.inr 34, .inr 3, .inl (x : Int)] N0 (fun r N => r = none ∧ spP C R col N0 f x N) := by
  obtain ⟨k1, k2, k3, k4, k5, k6, k7, k8, k9, k10⟩ := id hH
  have hx120 := on_lt k1.2 k2.2 hx
  have tx : ((x : Int)).toNat = x := by omega
  have tf : ((f : Int)).toNat = f := by omega
  have hcol := c_X0_colourAt L N0 (x : Int) (by omega) (k4.2.2.2.2 _)
  rw [tx, ← k7 x] at hcol
  obtain ⟨hI, hI0⟩ := spB_init hH hx hn
  refine ct_of rfl ?_
  change wp _ _ _ 0 [some (.inr 34), some (.inr 3), some (.inl (x : Int)), none, none, none] [] _ _
  refine wp_al0 iX2_spread_0 ?_
  refine wp_gR iX2_spread_1 fr_2_19 rfl rfl rfl ?_
  refine wp_al0 iX2_spread_4 ?_
  refine wp_gI iX2_spread_5 fi_2_9 rfl ?_
  rw [k8]
  refine wp_al1 iX2_spread_8 ?_
  refine wp_il2 iX2_spread_9 ?_
  refine wp_v1f iX2_spread_10 ml_2_59 rfl rfl rfl rfl (hcol) ?_
  refine wp_is iX2_spread_13 rfl rfl (by omega) ?_
  rw [tf]
  refine wp_al0 iX2_spread_14 ?_
  refine wp_gR iX2_spread_15 fr_2_25 rfl rfl rfl ?_
  refine wp_al0 iX2_spread_18 ?_
  refine wp_gI iX2_spread_19 fi_2_9 rfl ?_
  have e0 : ab_up N0 36 f (col x) 34 0 = (f : Int) := k8
  rw [e0]
  refine wp_ic iX2_spread_22 (by decide) ?_
  refine wp_is iX2_spread_23 rfl rfl (by omega) ?_
  rw [tf]
  have hj := c_X2_join L (ab_up (ab_up (ab_up N0 36 f (col x)) 38 f 0) 34 7 0) (x : Int) (by omega) (Int.le_refl _)
  refine wp_al0 iX2_spread_24 ?_
  refine wp_ic iX2_spread_25 (by decide) ?_
  refine wp_pI iX2_spread_26 fp_2_34 rfl ?_
  refine wp_al0 iX2_spread_29 ?_
  refine wp_il2 iX2_spread_30 ?_
  refine wp_v1v iX2_spread_31 ml_2_63 rfl rfl rfl rfl (hj) ?_
  refine wp_ic iX2_spread_34 (by decide) ?_
  refine wp_is3 iX2_spread_35 ?_
  generalize mJn (ab_up (ab_up (ab_up N0 36 f (col x)) 38 f 0) 34 7 0) (x : Int) = N1 at hI hI0
  have key : ∀ (m tn q : Nat) (N : ab_Me), 120 - tn = m → tn ≤ q → spB C R col N0 f x q N → N 38 f = sm (fun t => 2 + sds C R col (N 40 t).toNat) tn → (∀ t, t < tn → ∀ b, adj C R col (N 40 t).toNat b → N 35 b = f) → ∀ v4 v5 : Option ab_V, wp L 3 mX2_spread 36 [some (.inr 34), some (.inr 3), some (.inl (x : Int)), some (.inl (tn : Int)), v4, v5] [] N (fun r N => r = none ∧ spP C R col N0 f x N) := by
    intro m
    induction m using Nat.strongRecOn with
    | ind m ih =>
      intro tn q N hm htq hS hY hCl v4 v5
      have hq := spB_q hS
      obtain ⟨s1, s2, s3, s4, s5, s6, s7, s8, s9, s10⟩ := id hS
      have ef : N 34 0 = (f : Int) := by rw [s2 0 (by decide)]; exact k8
      refine wp_il3 iX2_spread_36 ?_
      refine wp_al0 iX2_spread_37 ?_
      refine wp_gI iX2_spread_38 fi_2_34 rfl ?_
      rw [s3]
      have fin : tn = q → ∀ v4 v5 : Option ab_V, wp L 3 mX2_spread 135 [some (.inr 34), some (.inr 3), some (.inl (x : Int)), some (.inl (tn : Int)), v4, v5] [] N (fun r N => r = none ∧ spP C R col N0 f x N) := by
        intro hq1 v4 v5
        refine wp_al0 iX2_spread_135 ?_
        refine wp_gR iX2_spread_136 fr_2_22 rfl rfl rfl ?_
        refine wp_al0 iX2_spread_139 ?_
        refine wp_gI iX2_spread_140 fi_2_9 rfl ?_
        refine wp_al0 iX2_spread_143 ?_
        refine wp_gI iX2_spread_144 fi_2_34 rfl ?_
        rw [ef, s3]
        refine wp_is iX2_spread_147 rfl rfl (by omega) ?_
        refine wp_retv iX2_spread_148 rfl ?_
        rw [tf]
        have u35 : ab_up N 37 f (q : Int) 35 = N 35 := ab_up_ne _ _ _ (by decide)
        refine ⟨rfl, fun a b1 b2 b3 b4 b5 b6 => ?_, ef, s4, fun g => ?_, fun g => ?_, fun a ha => ?_, ?_, fun a b hab haf => ?_⟩
        · rw [ab_up_ne _ _ _ b4]; exact s1 a b1 b2 b3 b5 b6
        · rw [u35, ab_up_self]
          by_cases z : g = f
          · subst z
            rw [ab_u1_self, if_pos rfl, ← s10 (fun _ => 1), sm_const]
            omega
          · rw [ab_u1_ne _ _ z, if_neg z, s1 37 (by decide) (by decide) (by decide) (by decide) (by decide)]
        · rw [u35, ab_up_ne _ _ _ (by decide)]
          by_cases z : g = f
          · subst z
            rw [if_pos rfl, hY, hq1]
            exact s10 (fun a => 2 + sds C R col a)
          · rw [if_neg z]; exact s5 g z
        · rw [u35]; exact s6 a ha
        · rw [u35]; exact s7
        · rw [u35] at haf ⊢
          obtain ⟨t, ht, hta⟩ := s9 a hab.1 haf
          refine hCl t (by omega) b ?_
          rw [hta, show ((a : Int)).toNat = a by omega]
          exact hab
      refine wp_cge iX2_spread_41 (fun c_41 => ?_) (fun c_41 => ?_)
      · exact fin (by omega) _ _
      · refine wp_il3 iX2_spread_44 ?_
        refine wp_bp iX2_spread_45 (by decide) ?_
        refine wp_cge iX2_spread_47 (fun c_47 => ?_) (fun c_47 => ?_)
        · exfalso; omega
        · obtain ⟨a, ha1, ha2, ha3⟩ := s8 tn (by omega)
          have hax : Cn C R col a x := by
            rcases s6 a ha2 with y | y
            · have := k9 a ha2; omega
            · exact y.2.2
          have hacx : col a = col x := hax.cl
          have ha120 := on_lt k1.2 k2.2 ha2
          have tt : ((tn : Int)).toNat = tn := by omega
          have hYb := sm_bd (fun t => 2 + sds C R col (N 40 t).toNat) 6 (fun t => by have := sds_bd C R col (N 40 t).toNat; omega) tn
          rw [← hY] at hYb
          refine wp_al0 iX2_spread_50 ?_
          refine wp_gR iX2_spread_51 fr_2_31 rfl rfl rfl ?_
          refine wp_il3 iX2_spread_54 ?_
          refine wp_ia iX2_spread_55 rfl (by omega) ?_
          rw [tt, ha1]
          refine wp_bp iX2_spread_56 (by decide) ?_
          refine wp_rem iX2_spread_58 (by omega) ?_
          refine wp_is4 iX2_spread_59 ?_
          refine wp_al0 iX2_spread_61 ?_
          refine wp_gR iX2_spread_62 fr_2_31 rfl rfl rfl ?_
          refine wp_il3 iX2_spread_65 ?_
          refine wp_ia iX2_spread_66 rfl (by omega) ?_
          rw [tt, ha1]
          refine wp_bp iX2_spread_67 (by decide) ?_
          refine wp_div iX2_spread_69 (by omega) ?_
          refine wp_is5 iX2_spread_70 ?_
          refine wp_al0 iX2_spread_72 ?_
          refine wp_gR iX2_spread_73 fr_2_25 rfl rfl rfl ?_
          refine wp_al0 iX2_spread_76 ?_
          refine wp_gI iX2_spread_77 fi_2_9 rfl ?_
          rw [ef]
          refine wp_dup2 iX2_spread_80 ?_
          refine wp_ia iX2_spread_81 rfl (by omega) ?_
          rw [tf]
          refine wp_ic iX2_spread_82 (by decide) ?_
          refine wp_add iX2_spread_83 (by omega) ?_
          refine wp_is iX2_spread_84 rfl rfl (by omega) ?_
          rw [tf]
          rw [show (a : Int) % 12 = ((a % 12 : Nat) : Int) by omega, show (a : Int) / 12 = ((a / 12 : Nat) : Int) by omega]
          obtain ⟨A, hA⟩ : ∃ A, A = ab_up N 38 f (N 38 f + 2) := ⟨_, rfl⟩
          rw [← hA]
          have hSA : spB C R col N0 f x q A := by
            have e35 : A 35 = N 35 := by rw [hA]; rfl
            have e40 : A 40 = N 40 := by rw [hA]; rfl
            have e34 : A 34 = N 34 := by rw [hA]; rfl
            have e36 : A 36 = N 36 := by rw [hA]; rfl
            unfold spB
            rw [e35, e40, e34, e36]
            refine ⟨fun a b1 b2 b3 b4 b5 => ?_, s2, s3, s4, fun g hg => ?_, s6, s7, s8, s9, s10⟩
            · rw [hA, ab_up_ne _ _ _ b4]; exact s1 a b1 b2 b3 b4 b5
            · rw [hA, ab_up_self, ab_u1_ne _ _ hg]; exact s5 g hg
          have yA : A 38 f = N 38 f + 2 := by rw [hA, ab_up_self, ab_u1_self]
          have aA : A 35 a = f := by rw [hA]; exact ha3
          have tA : ∀ t, t < q → A 40 t = N 40 t := fun t _ => by rw [hA]; rfl
          have mA : ∀ b, N 35 b = f → A 35 b = f := fun b hb => by rw [hA]; exact hb
          -- a look keeps what is asked of a state
          have lk : ∀ (B : ab_Me) (qB : Nat) (w p : Int), spB C R col N0 f x qB B → (0 ≤ B 38 f ∧ B 38 f < 100000) → cV L 3 mX2_look [.inr 34, .inr 3, .inl w, .inl p] B (mLk B w p) := by
            intro B qB w p hB1 hyB
            have e3 : B 3 = N0 3 := hB1.1 3 (by decide) (by decide) (by decide) (by decide) (by decide)
            have e4 : B 4 = N0 4 := hB1.1 4 (by decide) (by decide) (by decide) (by decide) (by decide)
            have efB : B 34 0 = (f : Int) := by rw [hB1.2.1 0 (by decide)]; exact k8
            refine c_X2_look L B (by unfold hB; rw [e3, e4]; exact k4) w p (by omega) (by rw [hB1.2.2.1]; omega) ?_
            rw [efB, tf]
            exact hyB
          obtain ⟨q1, g1, g2, g3, g4, g5, g6⟩ := look_ok hH hSA ha2 aA (((a % 12 : Nat) : Int) - 1) ((a / 12 : Nat) : Int) (adj_nb k1.2 ha2 hacx _ _ (by omega))
          have l1 := lk A q (((a % 12 : Nat) : Int) - 1) ((a / 12 : Nat) : Int) hSA (by omega)
          have b1 := sd1_bd C R col (col x) (((a % 12 : Nat) : Int) - 1) ((a / 12 : Nat) : Int)
          refine wp_al0 iX2_spread_85 ?_
          refine wp_al1 iX2_spread_86 ?_
          refine wp_il4 iX2_spread_87 ?_
          refine wp_ic iX2_spread_89 (by decide) ?_
          refine wp_sub iX2_spread_90 (by omega) ?_
          refine wp_il5 iX2_spread_91 ?_
          refine wp_v3v iX2_spread_93 ml_2_67 rfl rfl rfl rfl (l1) ?_
          generalize mLk A (((a % 12 : Nat) : Int) - 1) ((a / 12 : Nat) : Int) = B1 at g2 g3 g4 g5 g6 ⊢
          obtain ⟨q2, j1, j2, j3, j4, j5, j6⟩ := look_ok hH g2 ha2 (g4 a aA) (((a % 12 : Nat) : Int) + 1) ((a / 12 : Nat) : Int) (adj_nb k1.2 ha2 hacx _ _ (by omega))
          have l2 := lk B1 q1 (((a % 12 : Nat) : Int) + 1) ((a / 12 : Nat) : Int) g2 (by omega)
          have b2 := sd1_bd C R col (col x) (((a % 12 : Nat) : Int) + 1) ((a / 12 : Nat) : Int)
          refine wp_al0 iX2_spread_96 ?_
          refine wp_al1 iX2_spread_97 ?_
          refine wp_il4 iX2_spread_98 ?_
          refine wp_ic iX2_spread_100 (by decide) ?_
          refine wp_add iX2_spread_101 (by omega) ?_
          refine wp_il5 iX2_spread_102 ?_
          refine wp_v3v iX2_spread_104 ml_2_67 rfl rfl rfl rfl (l2) ?_
          generalize mLk B1 (((a % 12 : Nat) : Int) + 1) ((a / 12 : Nat) : Int) = B2 at j2 j3 j4 j5 j6 ⊢
          obtain ⟨q3, u1, u2, u3, u4, u5, u6⟩ := look_ok hH j2 ha2 (j4 a (g4 a aA)) ((a % 12 : Nat) : Int) (((a / 12 : Nat) : Int) - 1) (adj_nb k1.2 ha2 hacx _ _ (by omega))
          have l3 := lk B2 q2 ((a % 12 : Nat) : Int) (((a / 12 : Nat) : Int) - 1) j2 (by omega)
          have b3 := sd1_bd C R col (col x) ((a % 12 : Nat) : Int) (((a / 12 : Nat) : Int) - 1)
          refine wp_al0 iX2_spread_107 ?_
          refine wp_al1 iX2_spread_108 ?_
          refine wp_il4 iX2_spread_109 ?_
          refine wp_il5 iX2_spread_111 ?_
          refine wp_ic iX2_spread_113 (by decide) ?_
          refine wp_sub iX2_spread_114 (by omega) ?_
          refine wp_v3v iX2_spread_115 ml_2_67 rfl rfl rfl rfl (l3) ?_
          generalize mLk B2 ((a % 12 : Nat) : Int) (((a / 12 : Nat) : Int) - 1) = B3 at u2 u3 u4 u5 u6 ⊢
          obtain ⟨q4, y1, y2, y3, y4, y5, y6⟩ := look_ok hH u2 ha2 (u4 a (j4 a (g4 a aA))) ((a % 12 : Nat) : Int) (((a / 12 : Nat) : Int) + 1) (adj_nb k1.2 ha2 hacx _ _ (by omega))
          have l4 := lk B3 q3 ((a % 12 : Nat) : Int) (((a / 12 : Nat) : Int) + 1) u2 (by omega)
          refine wp_al0 iX2_spread_118 ?_
          refine wp_al1 iX2_spread_119 ?_
          refine wp_il4 iX2_spread_120 ?_
          refine wp_il5 iX2_spread_122 ?_
          refine wp_ic iX2_spread_124 (by decide) ?_
          refine wp_add iX2_spread_125 (by omega) ?_
          refine wp_v3v iX2_spread_126 ml_2_67 rfl rfl rfl rfl (l4) ?_
          generalize mLk B3 ((a % 12 : Nat) : Int) (((a / 12 : Nat) : Int) + 1) = B4 at y2 y3 y4 y5 y6 ⊢
          refine wp_ii3 iX2_spread_129 (by omega) ?_
          refine wp_goto iX2_spread_132 ?_
          rw [show (tn : Int) + 1 = ((tn + 1 : Nat) : Int) by omega]
          have qt : ∀ t, t < q → B4 40 t = N 40 t := fun t ht => by rw [y3 t (by omega), u3 t (by omega), j3 t (by omega), g3 t ht, tA t ht]
          refine ih _ (by omega) (tn + 1) q4 B4 rfl (by omega) y2 ?_ (fun t ht b hb => ?_) _ _
          · have es : sm (fun t => 2 + sds C R col (B4 40 t).toNat) (tn + 1) = sm (fun t => 2 + sds C R col (N 40 t).toNat) tn + (2 + sds C R col a) := by
              show sm (fun t => 2 + sds C R col (B4 40 t).toNat) tn + (2 + sds C R col (B4 40 tn).toNat) = _
              rw [sm_congr tn (g := fun t => 2 + sds C R col (N 40 t).toNat) (fun t ht => by rw [qt t (by omega)]), qt tn (by omega), ha1, show ((a : Int)).toNat = a by omega]
            rw [es, ← hY, y5, u5, j5, g5, yA]
            unfold sds
            rw [hacx]
            omega
          · by_cases z : t = tn
            · subst z
              rw [qt t (by omega), ha1, show ((a : Int)).toNat = a by omega] at hb
              obtain ⟨w, p, d, o, e⟩ := nb_adj k1.2 hb
              have hbc : col b = col x := hb.2.2.1.symm.trans hacx
              rcases d with ⟨rfl, rfl | rfl⟩ | ⟨rfl, rfl | rfl⟩
              · have := g6 o (by rw [e]; exact hbc); rw [e] at this; exact y4 b (u4 b (j4 b this))
              · have := j6 o (by rw [e]; exact hbc); rw [e] at this; exact y4 b (u4 b this)
              · have := u6 o (by rw [e]; exact hbc); rw [e] at this; exact y4 b this
              · have := y6 o (by rw [e]; exact hbc); rw [e] at this; exact this
            · rw [qt t (by omega)] at hb
              exact y4 b (u4 b (j4 b (g4 b (mA b (hCl t (by omega) b hb)))))
  exact key _ 0 1 N1 rfl (by omega) hI (by rw [hI0]; rfl) (fun t ht => by omega) _ _
end SpreadX
