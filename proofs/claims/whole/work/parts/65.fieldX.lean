/-! ===== FIELDS of the class: cell 34 ===== -/
def mJn (N : ab_Me) (c : Int) : ab_Me := if N 34 7 < 120 then ab_up (ab_up (ab_up N 35 c.toNat (N 34 0)) 40 (N 34 7).toNat c) 34 7 (N 34 7 + 1) else N
def mLk (N : ab_Me) (w p : Int) : ab_Me := if (0 ≤ w ∧ w < N 3 0) ∧ 0 ≤ p ∧ p < N 3 1 then (if N 4 (12 * p + w).toNat % 8 = N 36 (N 34 0).toNat then (if N 35 (12 * p + w).toNat < 0 then mJn N (12 * p + w) else N) else ab_up N 38 (N 34 0).toNat (N 38 (N 34 0).toNat + 1)) else N
section FieldX
variable (L : Nat) (N : ab_Me)
theorem c_X2_join (c : Int) (hc : 0 ≤ c ∧ c < 120) (hq : 0 ≤ N 34 7) : cV L 1 mX2_join [.inr 34, .inl c] N (mJn N c) := by
  refine cV_of rfl ?_
  change wp _ _ _ 0 [some (.inr 34), some (.inl c)] [] _ _
  refine wp_al0 iX2_join_0 ?_
  refine wp_gI iX2_join_1 fi_2_34 rfl ?_
  refine wp_bp iX2_join_4 (by decide) ?_
  refine wp_cge iX2_join_6 (fun c_6 => ?_) (fun c_6 => ?_)
  · refine wp_retv iX2_join_39 rfl ?_
    exact ⟨rfl, by unfold mJn; rw [if_neg (by omega)]⟩
  · refine wp_al0 iX2_join_9 ?_
    refine wp_gR iX2_join_10 fr_2_15 rfl rfl rfl ?_
    refine wp_il1 iX2_join_13 ?_
    refine wp_al0 iX2_join_14 ?_
    refine wp_gI iX2_join_15 fi_2_9 rfl ?_
    refine wp_is iX2_join_18 rfl rfl (by first | omega | (simp [ab_up, ab_rw, ab_u1]; omega)) ?_
    refine wp_al0 iX2_join_19 ?_
    refine wp_gR iX2_join_20 fr_2_31 rfl rfl rfl ?_
    refine wp_al0 iX2_join_23 ?_
    refine wp_gI iX2_join_24 fi_2_34 rfl ?_
    refine wp_il1 iX2_join_27 ?_
    refine wp_is iX2_join_28 rfl rfl (by first | omega | (simp [ab_up, ab_rw, ab_u1]; omega)) ?_
    refine wp_al0 iX2_join_29 ?_
    refine wp_dup iX2_join_30 ?_
    refine wp_gI iX2_join_31 fi_2_34 rfl ?_
    refine wp_ic iX2_join_34 (by decide) ?_
    refine wp_add iX2_join_35 (by first | omega | (simp [ab_up, ab_rw, ab_u1]; omega)) ?_
    refine wp_pI iX2_join_36 fp_2_34 rfl ?_
    refine wp_retv iX2_join_39 rfl ?_
    exact ⟨rfl, by unfold mJn; rw [if_pos (by omega)]; rfl⟩
theorem c_X2_look (h : hB N) (w p : Int) (hc : 0 ≤ N 34 0 ∧ N 34 0 < 120) (hq : 0 ≤ N 34 7) (hy : 0 ≤ N 38 (N 34 0).toNat ∧ N 38 (N 34 0).toNat < 100000) : cV L 3 mX2_look [.inr 34, .inr 3, .inl w, .inl p] N (mLk N w p) := by
  obtain ⟨h1, h2, h3, h4, h5⟩ := id h
  refine cV_of rfl ?_
  change wp _ _ _ 0 [some (.inr 34), some (.inr 3), some (.inl w), some (.inl p), none] [] _ _
  refine wp_al1 iX2_look_0 ?_
  refine wp_il2 iX2_look_1 ?_
  refine wp_il3 iX2_look_2 ?_
  refine wp_v2f iX2_look_3 ml_2_71 rfl rfl rfl rfl (c_X0_hasSquare _ _ _ _) ?_
  refine wp_bne iX2_look_6 (fun c_6 => ?_) (fun c_6 => ?_)
  · refine wp_il2 iX2_look_10 ?_
    refine wp_il3 iX2_look_11 ?_
    refine wp_n2f iX2_look_12 ml_2_51 rfl rfl rfl (c_X8_cellOf _ _ _ _ (by omega)) ?_
    refine wp_is4 iX2_look_15 ?_
    refine wp_al1 iX2_look_17 ?_
    refine wp_il4 iX2_look_18 ?_
    refine wp_v1f iX2_look_20 ml_2_59 rfl rfl rfl rfl (c_X0_colourAt L N (12 * p + w) (by omega) (h5 _)) ?_
    refine wp_al0 iX2_look_23 ?_
    refine wp_gR iX2_look_24 fr_2_19 rfl rfl rfl ?_
    refine wp_al0 iX2_look_27 ?_
    refine wp_gI iX2_look_28 fi_2_9 rfl ?_
    refine wp_ia iX2_look_31 rfl (by omega) ?_
    refine wp_ceq iX2_look_32 (fun c_32 => ?_) (fun c_32 => ?_)
    · refine wp_al0 iX2_look_51 ?_
      refine wp_gR iX2_look_52 fr_2_15 rfl rfl rfl ?_
      refine wp_il4 iX2_look_55 ?_
      refine wp_ia iX2_look_57 rfl (by omega) ?_
      refine wp_zge iX2_look_58 (fun c_58 => ?_) (fun c_58 => ?_)
      · refine wp_retv iX2_look_67 rfl ?_
        exact ⟨rfl, by unfold mLk; rw [if_pos c_6, if_pos c_32, if_neg (by omega)]⟩
      · refine wp_al0 iX2_look_61 ?_
        refine wp_il4 iX2_look_62 ?_
        refine wp_v1v iX2_look_64 ml_2_63 rfl rfl rfl rfl (c_X2_join L N (12 * p + w) (by omega) hq) ?_
        refine wp_retv iX2_look_67 rfl ?_
        exact ⟨rfl, by unfold mLk; rw [if_pos c_6, if_pos c_32, if_pos (by omega)]⟩
    · refine wp_al0 iX2_look_35 ?_
      refine wp_gR iX2_look_36 fr_2_25 rfl rfl rfl ?_
      refine wp_al0 iX2_look_39 ?_
      refine wp_gI iX2_look_40 fi_2_9 rfl ?_
      refine wp_dup2 iX2_look_43 ?_
      refine wp_ia iX2_look_44 rfl (by omega) ?_
      refine wp_ic iX2_look_45 (by decide) ?_
      refine wp_add iX2_look_46 (by omega) ?_
      refine wp_is iX2_look_47 rfl rfl (by omega) ?_
      refine wp_goto iX2_look_48 ?_
      refine wp_retv iX2_look_67 rfl ?_
      exact ⟨rfl, by unfold mLk; rw [if_pos c_6, if_neg c_32]⟩
  · refine wp_retv iX2_look_9 rfl ?_
    exact ⟨rfl, by unfold mLk; rw [if_neg c_6]⟩
end FieldX
/-- what was there before a field is spread -/
def spH (C R : Nat) (col : Nat → Int) (N0 : ab_Me) (f : Nat) : Prop := (1 ≤ C ∧ C ≤ 12) ∧ (1 ≤ R ∧ R ≤ 10) ∧ f < 120 ∧ hB N0 ∧ N0 3 0 = (C : Int) ∧ N0 3 1 = (R : Int) ∧ (∀ a, col a = N0 4 a % 8) ∧ N0 34 0 = (f : Int) ∧ (∀ a, onB C R a → N0 35 a = -1 ∨ (0 ≤ N0 35 a ∧ N0 35 a < f)) ∧ ∀ a b, adj C R col a b → 0 ≤ N0 35 a → N0 35 b = N0 35 a
def spB (C R : Nat) (col : Nat → Int) (N0 : ab_Me) (f x q : Nat) (N : ab_Me) : Prop :=
  (∀ a, a ≠ 34 → a ≠ 35 → a ≠ 36 → a ≠ 38 → a ≠ 40 → N a = N0 a) ∧ (∀ j, j ≠ 7 → N 34 j = N0 34 j) ∧ N 34 7 = (q : Int) ∧ (∀ g, N 36 g = if g = f then col x else N0 36 g) ∧ (∀ g, g ≠ f → N 38 g = N0 38 g) ∧
  (∀ a, onB C R a → N 35 a = N0 35 a ∨ (N0 35 a = -1 ∧ N 35 a = f ∧ Cn C R col a x)) ∧ N 35 x = f ∧
  (∀ t, t < q → ∃ a : Nat, N 40 t = (a : Int) ∧ onB C R a ∧ N 35 a = f) ∧ (∀ a, onB C R a → N 35 a = f → ∃ t, t < q ∧ N 40 t = (a : Int)) ∧
  ∀ g : Nat → Int, sm (fun t => g (N 40 t).toNat) q = sm (fun a => if onB C R a ∧ N 35 a = f then g a else 0) 120
theorem on_lt {C R a : Nat} (hC : C ≤ 12) (hR : R ≤ 10) (h : onB C R a) : a < 120 := by
  obtain ⟨h1, h2⟩ := h
  omega
theorem spB_q {C R : Nat} {col : Nat → Int} {N0 : ab_Me} {f x q : Nat} {N : ab_Me} (h : spB C R col N0 f x q N) : q ≤ 120 := by
  have hJ := h.2.2.2.2.2.2.2.2.2 (fun _ => 1)
  rw [sm_const] at hJ
  have := sm_bd (fun a => if onB C R a ∧ N 35 a = f then (1 : Int) else 0) 1 (fun a => by split <;> omega) 120
  omega
theorem spB_q1 {C R : Nat} {col : Nat → Int} {N0 : ab_Me} {f x q : Nat} {N : ab_Me} (h : spB C R col N0 f x q N) {c : Nat} (hc : c < 120) (hn : N 35 c < 0) : q < 120 := by
  have hJ := h.2.2.2.2.2.2.2.2.2 (fun _ => 1)
  rw [sm_const] at hJ
  have hz : (if onB C R c ∧ N 35 c = f then (1 : Int) else 0) = 0 := if_neg (by omega)
  have h1 := sm_one (fun a => if onB C R a ∧ N 35 a = f then (1 : Int) else 0) (fun a => if a = c then 1 else if onB C R a ∧ N 35 a = f then (1 : Int) else 0) c 1 (by show (if c = c then (1 : Int) else _) = _ + 1; rw [if_pos rfl, hz]; rfl) (fun a ha => if_neg ha) 120
  have h2 := sm_bd (fun a => if a = c then 1 else if onB C R a ∧ N 35 a = f then (1 : Int) else 0) 1 (fun a => by split <;> (try split) <;> omega) 120
  rw [if_pos hc] at h1
  omega
/-- a new cell of the field -/
theorem join_ok {C R : Nat} {col : Nat → Int} {N0 : ab_Me} {f x q : Nat} {N : ab_Me} (hH : spH C R col N0 f) (h : spB C R col N0 f x q N) {c : Nat} (hc : onB C R c) (hn : N 35 c < 0) (hcn : Cn C R col c x) : spB C R col N0 f x (q + 1) (mJn N (c : Int)) ∧ (∀ t, t < q → mJn N (c : Int) 40 t = N 40 t) ∧ (∀ b, N 35 b = f → mJn N (c : Int) 35 b = f) ∧ mJn N (c : Int) 38 = N 38 ∧ mJn N (c : Int) 35 c = f := by
  obtain ⟨k1, k2, k3, k4, k5, k6, k7, k8, k9, k10⟩ := id hH
  have hc120 := on_lt k1.2 k2.2 hc
  have hq := spB_q1 h hc120 hn
  obtain ⟨s1, s2, s3, s4, s5, s6, s7, s8, s9, s10⟩ := id h
  have ef : N 34 0 = (f : Int) := by rw [s2 0 (by decide)]; exact k8
  have tc : ((c : Int)).toNat = c := by omega
  have e : mJn N (c : Int) = ab_up (ab_up (ab_up N 35 c (f : Int)) 40 q (c : Int)) 34 7 ((q + 1 : Nat) : Int) := by
    unfold mJn
    rw [if_pos (by omega), ef, s3, tc, show ((q : Int)).toNat = q by omega]
    rfl
  rw [e]
  obtain ⟨A, hA⟩ : ∃ A, A = ab_up (ab_up (ab_up N 35 c (f : Int)) 40 q (c : Int)) 34 7 ((q + 1 : Nat) : Int) := ⟨_, rfl⟩
  rw [← hA]
  have a35 : A 35 = ab_u1 (N 35) c (f : Int) := by rw [hA, ab_up_ne _ _ _ (by decide), ab_up_ne _ _ _ (by decide), ab_up_self]
  have a40 : A 40 = ab_u1 (N 40) q (c : Int) := by rw [hA, ab_up_ne _ _ _ (by decide), ab_up_self, ab_up_ne _ _ _ (by decide)]
  have a34 : A 34 = ab_u1 (N 34) 7 ((q + 1 : Nat) : Int) := by rw [hA, ab_up_self, ab_up_ne _ _ _ (by decide), ab_up_ne _ _ _ (by decide)]
  have ao : ∀ a, a ≠ 34 → a ≠ 35 → a ≠ 40 → A a = N a := fun a b1 b2 b3 => by rw [hA, ab_up_ne _ _ _ b1, ab_up_ne _ _ _ b3, ab_up_ne _ _ _ b2]
  have acc : A 35 c = (f : Int) := by rw [a35, ab_u1_self]
  have ane : ∀ b, b ≠ c → A 35 b = N 35 b := fun b hb => by rw [a35, ab_u1_ne _ _ hb]
  have aft : ∀ b, N 35 b = (f : Int) → A 35 b = (f : Int) := fun b hb => by
    by_cases z : b = c
    · rw [z]; exact acc
    · rw [ane b z]; exact hb
  have a40t : ∀ t, t < q → A 40 t = N 40 t := fun t ht => by rw [a40, ab_u1_ne _ _ (by omega)]
  refine ⟨⟨fun a b1 b2 b3 b4 b5 => ?_, fun j hj => ?_, ?_, fun g => ?_, fun g hg => ?_, fun a ha => ?_, aft x s7, fun t ht => ?_, fun a ha hf => ?_, fun g => ?_⟩, a40t, aft, ao 38 (by decide) (by decide) (by decide), acc⟩
  · rw [ao a b1 b2 b5]; exact s1 a b1 b2 b3 b4 b5
  · rw [a34, ab_u1_ne _ _ hj]; exact s2 j hj
  · rw [a34, ab_u1_self]
  · rw [ao 36 (by decide) (by decide) (by decide)]; exact s4 g
  · rw [ao 38 (by decide) (by decide) (by decide)]; exact s5 g hg
  · by_cases z : a = c
    · subst z
      right
      refine ⟨?_, acc, hcn⟩
      rcases s6 a ha with y | y
      · have := k9 a ha; omega
      · exact y.1
    · rw [ane a z]; exact s6 a ha
  · by_cases z : t = q
    · subst z
      exact ⟨c, by rw [a40, ab_u1_self], hc, acc⟩
    · obtain ⟨a, y1, y2, y3⟩ := s8 t (by omega)
      exact ⟨a, by rw [a40t t (by omega)]; exact y1, y2, aft a y3⟩
  · by_cases z : a = c
    · subst z
      exact ⟨q, by omega, by rw [a40, ab_u1_self]⟩
    · rw [ane a z] at hf
      obtain ⟨t, y1, y2⟩ := s9 a ha hf
      exact ⟨t, by omega, by rw [a40t t y1]; exact y2⟩
  · have hl : sm (fun t => g (A 40 t).toNat) (q + 1) = sm (fun t => g (N 40 t).toNat) q + g c := by
      show sm (fun t => g (A 40 t).toNat) q + g (A 40 q).toNat = _
      rw [sm_congr q (g := fun t => g (N 40 t).toNat) (fun t ht => by rw [a40t t ht]), a40, ab_u1_self, tc]
    have hr := sm_one (fun a => if onB C R a ∧ N 35 a = f then g a else 0) (fun a => if onB C R a ∧ A 35 a = f then g a else 0) c (g c) (by
      have z1 : ¬ (onB C R c ∧ N 35 c = f) := by omega
      have z2 : onB C R c ∧ A 35 c = f := ⟨hc, acc⟩
      rw [if_pos z2, if_neg z1]
      omega) (fun a ha => by rw [ane a ha]) 120
    rw [hl, hr, s10 g, if_pos hc120]
theorem look_ok {C R : Nat} {col : Nat → Int} {N0 : ab_Me} {f x q : Nat} {N : ab_Me} (hH : spH C R col N0 f) (h : spB C R col N0 f x q N) {a : Nat} (ha : onB C R a) (haf : N 35 a = f) (w p : Int) (hadj : ((0 ≤ w ∧ w < C) ∧ 0 ≤ p ∧ p < R) → col (12 * p + w).toNat = col x → adj C R col (12 * p + w).toNat a) : ∃ q1, q ≤ q1 ∧ spB C R col N0 f x q1 (mLk N w p) ∧ (∀ t, t < q → mLk N w p 40 t = N 40 t) ∧ (∀ b, N 35 b = f → mLk N w p 35 b = f) ∧ mLk N w p 38 f = N 38 f + sd1 C R col (col x) w p ∧ (((0 ≤ w ∧ w < C) ∧ 0 ≤ p ∧ p < R) → col (12 * p + w).toNat = col x → mLk N w p 35 (12 * p + w).toNat = f) := by
  obtain ⟨k1, k2, k3, k4, k5, k6, k7, k8, k9, k10⟩ := id hH
  obtain ⟨s1, s2, s3, s4, s5, s6, s7, s8, s9, s10⟩ := id h
  have ef : N 34 0 = (f : Int) := by rw [s2 0 (by decide)]; exact k8
  have e3 : N 3 = N0 3 := s1 3 (by decide) (by decide) (by decide) (by decide) (by decide)
  have e4 : N 4 = N0 4 := s1 4 (by decide) (by decide) (by decide) (by decide) (by decide)
  have tf : ((f : Int)).toNat = f := by omega
  have e36 : N 36 f = col x := by rw [s4 f, if_pos rfl]
  have em : mLk N w p = if (0 ≤ w ∧ w < (C : Int)) ∧ 0 ≤ p ∧ p < (R : Int) then (if col (12 * p + w).toNat = col x then (if N 35 (12 * p + w).toNat < 0 then mJn N (12 * p + w) else N) else ab_up N 38 f (N 38 f + 1)) else N := by
    unfold mLk
    rw [ef, tf, e36, e3, e4, k5, k6, k7 (12 * p + w).toNat]
  rw [em]
  by_cases ho : (0 ≤ w ∧ w < (C : Int)) ∧ 0 ≤ p ∧ p < (R : Int)
  · rw [if_pos ho]
    by_cases hcol : col (12 * p + w).toNat = col x
    · rw [if_pos hcol]
      have hsd : sd1 C R col (col x) w p = 0 := if_neg (fun z => z.2 hcol)
      rw [hsd]
      have had := hadj ho hcol
      have hon : onB C R (12 * p + w).toNat := had.1
      have hne : ¬ N0 35 a = f := by have := k9 a ha; omega
      have hax : N0 35 a = -1 ∧ Cn C R col a x := by
        rcases s6 a ha with y | y
        · rw [haf] at y; exact absurd y.symm hne
        · exact ⟨y.1, y.2.2⟩
      by_cases hn : N 35 (12 * p + w).toNat < 0
      · rw [if_pos hn]
        have := join_ok hH h hon hn ((Cn.ad had).tr hax.2)
        rw [show (((12 * p + w).toNat : Nat) : Int) = 12 * p + w by omega] at this
        obtain ⟨j1, j2, j3, j4, j5⟩ := this
        exact ⟨q + 1, by omega, j1, j2, j3, by rw [j4]; omega, fun _ _ => j5⟩
      · rw [if_neg hn]
        refine ⟨q, Nat.le_refl _, h, fun _ _ => rfl, fun _ hb => hb, by omega, fun _ _ => ?_⟩
        rcases s6 _ hon with y | y
        · exfalso
          have y0 : 0 ≤ N0 35 (12 * p + w).toNat := by omega
          have := k10 _ _ had y0
          omega
        · exact y.2.1
    · rw [if_neg hcol]
      have hsd : sd1 C R col (col x) w p = 1 := if_pos ⟨ho, hcol⟩
      rw [hsd]
      refine ⟨q, Nat.le_refl _, ⟨fun a b1 b2 b3 b4 b5 => ?_, s2, s3, s4, fun g hg => ?_, s6, s7, s8, s9, s10⟩, fun _ _ => rfl, fun _ hb => hb, ?_, fun _ z => absurd z hcol⟩
      · rw [ab_up_ne _ _ _ b4]; exact s1 a b1 b2 b3 b4 b5
      · rw [ab_up_self, ab_u1_ne _ _ hg]; exact s5 g hg
      · rw [ab_up_self, ab_u1_self]
  · rw [if_neg ho]
    have hsd : sd1 C R col (col x) w p = 0 := if_neg (fun z => ho z.1)
    rw [hsd]
    exact ⟨q, Nat.le_refl _, h, fun _ _ => rfl, fun _ hb => hb, by omega, fun z => absurd z ho⟩
