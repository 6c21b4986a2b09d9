/-! ===== FIELDS of the reference ===== -/
def lsr (N : ab_Me) (b : Int) (a o : Nat) : Int := if N 57 a = N 57 o ∧ N 72 o < b then N 72 o else b
theorem u1_same (f : Nat → Int) (k : Nat) : ab_u1 f k (f k) = f := by
  funext j
  by_cases h : j = k
  · subst h; rw [ab_u1_self]
  · rw [ab_u1_ne _ _ h]
section FieldM
variable (L : Nat) (N : ab_Me)
theorem c_X9_lesser (b : Int) (a o : Nat) (ha : a < 120) (ho : o < 120) : cF L 1 mX9_lesser [.inr 56, .inl b, .inl (a : Int), .inl (o : Int)] N (lsr N b a o) := by
  have ta : ((a : Int)).toNat = a := by omega
  have to : ((o : Int)).toNat = o := by omega
  refine cF_of rfl ?_
  change wp _ _ _ 0 [some (.inr 56), some (.inl b), some (.inl (a : Int)), some (.inl (o : Int))] [] _ _
  refine wp_al0 iX9_lesser_0 ?_
  refine wp_gR iX9_lesser_1 fr_9_16 rfl rfl rfl ?_
  refine wp_il2 iX9_lesser_4 ?_
  refine wp_ia iX9_lesser_5 rfl (by omega) ?_
  refine wp_al0 iX9_lesser_6 ?_
  refine wp_gR iX9_lesser_7 fr_9_16 rfl rfl rfl ?_
  refine wp_il3 iX9_lesser_10 ?_
  refine wp_ia iX9_lesser_11 rfl (by omega) ?_
  rw [ta, to]
  refine wp_cne iX9_lesser_12 (fun c_12 => ?_) (fun c_12 => ?_)
  · refine wp_il1 iX9_lesser_34 ?_
    refine wp_ret iX9_lesser_35 rfl ?_
    exact ⟨by unfold lsr; rw [if_neg (fun z => c_12 z.1)], rfl⟩
  · refine wp_al0 iX9_lesser_15 ?_
    refine wp_gR iX9_lesser_16 fr_9_69 rfl rfl rfl ?_
    refine wp_il3 iX9_lesser_19 ?_
    refine wp_ia iX9_lesser_20 rfl (by omega) ?_
    refine wp_il1 iX9_lesser_21 ?_
    rw [to]
    refine wp_cge iX9_lesser_22 (fun c_22 => ?_) (fun c_22 => ?_)
    · refine wp_il1 iX9_lesser_34 ?_
      refine wp_ret iX9_lesser_35 rfl ?_
      exact ⟨by unfold lsr; rw [if_neg (by omega)], rfl⟩
    · refine wp_al0 iX9_lesser_25 ?_
      refine wp_gR iX9_lesser_26 fr_9_69 rfl rfl rfl ?_
      refine wp_il3 iX9_lesser_29 ?_
      refine wp_ia iX9_lesser_30 rfl (by omega) ?_
      rw [to]
      refine wp_goto iX9_lesser_31 ?_
      refine wp_ret iX9_lesser_35 rfl ?_
      exact ⟨by unfold lsr; rw [if_pos ⟨c_12, by omega⟩], rfl⟩
theorem c_X9_sides {C R : Nat} (h : hM N) (hC : N 56 0 = (C : Int)) (hR : N 56 1 = (R : Int)) (w p : Nat) (hw : w < C) (hp : p < R) : cF L 1 mX9_sides [.inr 56, .inl (w : Int), .inl (p : Int)] N (sds C R (N 57) (12 * p + w)) := by
  obtain ⟨h1, h2, h3, h4, h5, h6⟩ := id h
  refine cF_of rfl ?_
  have ec : (12 * p + w) % 12 = w := by omega
  have er : (12 * p + w) / 12 = p := by omega
  have es : sds C R (N 57) (12 * p + w) = sd1 C R (N 57) (N 57 (12 * p + w)) ((w : Int) - 1) (p : Int) + sd1 C R (N 57) (N 57 (12 * p + w)) ((w : Int) + 1) (p : Int) + sd1 C R (N 57) (N 57 (12 * p + w)) (w : Int) ((p : Int) - 1) + sd1 C R (N 57) (N 57 (12 * p + w)) (w : Int) ((p : Int) + 1) := by
    unfold sds
    rw [ec, er]
  rw [es]
  have tc : (12 * (p : Int) + (w : Int)).toNat = 12 * p + w := by omega
  have b1 := sd1_bd C R (N 57) (N 57 (12 * p + w)) ((w : Int) - 1) (p : Int)
  have b2 := sd1_bd C R (N 57) (N 57 (12 * p + w)) ((w : Int) + 1) (p : Int)
  have b3 := sd1_bd C R (N 57) (N 57 (12 * p + w)) (w : Int) ((p : Int) - 1)
  have b4 := sd1_bd C R (N 57) (N 57 (12 * p + w)) (w : Int) ((p : Int) + 1)
  change wp _ _ _ 0 [some (.inr 56), some (.inl (w : Int)), some (.inl (p : Int)), none, none] [] _ _
  -- the parts from behind
  have p4 : ∀ s : Int, 0 ≤ s ∧ s ≤ 3 → wp L 0 mX9_sides 104 [some (.inr 56), some (.inl (w : Int)), some (.inl (p : Int)), some (.inl (12 * (p : Int) + (w : Int))), some (.inl s)] [] N (fun r M1 => r = some (.inl (s + sd1 C R (N 57) (N 57 (12 * p + w)) (w : Int) ((p : Int) + 1))) ∧ M1 = N) := by
    intro s hs
    refine wp_il4 iX9_sides_104 ?_
    refine wp_il2 iX9_sides_106 ?_
    refine wp_ic iX9_sides_107 (by decide) ?_
    refine wp_add iX9_sides_108 (by omega) ?_
    refine wp_al0 iX9_sides_109 ?_
    refine wp_gI iX9_sides_110 fi_9_13 rfl ?_
    rw [hR]
    refine wp_cge iX9_sides_113 (fun c_113 => ?_) (fun c_113 => ?_)
    · refine wp_ic iX9_sides_138 (by decide) ?_
      refine wp_add iX9_sides_139 (by omega) ?_
      refine wp_ret iX9_sides_140 rfl ?_
      exact ⟨by rw [show sd1 C R (N 57) (N 57 (12 * p + w)) (w : Int) ((p : Int) + 1) = 0 from if_neg (fun z => by have := z.1; omega)], rfl⟩
    · refine wp_al0 iX9_sides_116 ?_
      refine wp_gR iX9_sides_117 fr_9_16 rfl rfl rfl ?_
      refine wp_il3 iX9_sides_120 ?_
      refine wp_bp iX9_sides_121 (by decide) ?_
      refine wp_add iX9_sides_123 (by omega) ?_
      refine wp_ia iX9_sides_124 rfl (by omega) ?_
      refine wp_al0 iX9_sides_125 ?_
      refine wp_gR iX9_sides_126 fr_9_16 rfl rfl rfl ?_
      refine wp_il3 iX9_sides_129 ?_
      refine wp_ia iX9_sides_130 rfl (by omega) ?_
      rw [show (12 * (p : Int) + (w : Int) + 12) = 12 * ((p : Int) + 1) + (w : Int) by omega, tc]
      refine wp_ceq iX9_sides_131 (fun c_131 => ?_) (fun c_131 => ?_)
      · refine wp_ic iX9_sides_138 (by decide) ?_
        refine wp_add iX9_sides_139 (by omega) ?_
        refine wp_ret iX9_sides_140 rfl ?_
        exact ⟨by rw [show sd1 C R (N 57) (N 57 (12 * p + w)) (w : Int) ((p : Int) + 1) = 0 from if_neg (fun z => z.2 c_131)], rfl⟩
      · refine wp_ic iX9_sides_134 (by decide) ?_
        refine wp_goto iX9_sides_135 ?_
        refine wp_add iX9_sides_139 (by omega) ?_
        refine wp_ret iX9_sides_140 rfl ?_
        exact ⟨by rw [show sd1 C R (N 57) (N 57 (12 * p + w)) (w : Int) ((p : Int) + 1) = 1 from if_pos ⟨by omega, c_131⟩], rfl⟩
  have p3 : ∀ s : Int, 0 ≤ s ∧ s ≤ 2 → wp L 0 mX9_sides 72 [some (.inr 56), some (.inl (w : Int)), some (.inl (p : Int)), some (.inl (12 * (p : Int) + (w : Int))), some (.inl s)] [] N (fun r M1 => r = some (.inl (s + sd1 C R (N 57) (N 57 (12 * p + w)) (w : Int) ((p : Int) - 1) + sd1 C R (N 57) (N 57 (12 * p + w)) (w : Int) ((p : Int) + 1))) ∧ M1 = N) := by
    intro s hs
    refine wp_il4 iX9_sides_72 ?_
    refine wp_il2 iX9_sides_74 ?_
    refine wp_zle iX9_sides_75 (fun c_75 => ?_) (fun c_75 => ?_)
    · refine wp_ic iX9_sides_100 (by decide) ?_
      refine wp_add iX9_sides_101 (by omega) ?_
      refine wp_is4 iX9_sides_102 ?_
      rw [show sd1 C R (N 57) (N 57 (12 * p + w)) (w : Int) ((p : Int) - 1) = 0 from if_neg (fun z => by have := z.1; omega)]
      exact p4 _ (by omega)
    · refine wp_al0 iX9_sides_78 ?_
      refine wp_gR iX9_sides_79 fr_9_16 rfl rfl rfl ?_
      refine wp_il3 iX9_sides_82 ?_
      refine wp_bp iX9_sides_83 (by decide) ?_
      refine wp_sub iX9_sides_85 (by omega) ?_
      refine wp_ia iX9_sides_86 rfl (by omega) ?_
      refine wp_al0 iX9_sides_87 ?_
      refine wp_gR iX9_sides_88 fr_9_16 rfl rfl rfl ?_
      refine wp_il3 iX9_sides_91 ?_
      refine wp_ia iX9_sides_92 rfl (by omega) ?_
      rw [show (12 * (p : Int) + (w : Int) - 12) = 12 * ((p : Int) - 1) + (w : Int) by omega, tc]
      refine wp_ceq iX9_sides_93 (fun c_93 => ?_) (fun c_93 => ?_)
      · refine wp_ic iX9_sides_100 (by decide) ?_
        refine wp_add iX9_sides_101 (by omega) ?_
        refine wp_is4 iX9_sides_102 ?_
        rw [show sd1 C R (N 57) (N 57 (12 * p + w)) (w : Int) ((p : Int) - 1) = 0 from if_neg (fun z => z.2 c_93)]
        exact p4 _ (by omega)
      · refine wp_ic iX9_sides_96 (by decide) ?_
        refine wp_goto iX9_sides_97 ?_
        refine wp_add iX9_sides_101 (by omega) ?_
        refine wp_is4 iX9_sides_102 ?_
        rw [show sd1 C R (N 57) (N 57 (12 * p + w)) (w : Int) ((p : Int) - 1) = 1 from if_pos ⟨by omega, c_93⟩]
        exact p4 _ (by omega)
  have p2 : ∀ s : Int, 0 ≤ s ∧ s ≤ 1 → wp L 0 mX9_sides 35 [some (.inr 56), some (.inl (w : Int)), some (.inl (p : Int)), some (.inl (12 * (p : Int) + (w : Int))), some (.inl s)] [] N (fun r M1 => r = some (.inl (s + sd1 C R (N 57) (N 57 (12 * p + w)) ((w : Int) + 1) (p : Int) + sd1 C R (N 57) (N 57 (12 * p + w)) (w : Int) ((p : Int) - 1) + sd1 C R (N 57) (N 57 (12 * p + w)) (w : Int) ((p : Int) + 1))) ∧ M1 = N) := by
    intro s hs
    refine wp_il4 iX9_sides_35 ?_
    refine wp_il1 iX9_sides_37 ?_
    refine wp_ic iX9_sides_38 (by decide) ?_
    refine wp_add iX9_sides_39 (by omega) ?_
    refine wp_al0 iX9_sides_40 ?_
    refine wp_gI iX9_sides_41 fi_9_7 rfl ?_
    rw [hC]
    refine wp_cge iX9_sides_44 (fun c_44 => ?_) (fun c_44 => ?_)
    · refine wp_ic iX9_sides_68 (by decide) ?_
      refine wp_add iX9_sides_69 (by omega) ?_
      refine wp_is4 iX9_sides_70 ?_
      rw [show sd1 C R (N 57) (N 57 (12 * p + w)) ((w : Int) + 1) (p : Int) = 0 from if_neg (fun z => by have := z.1; omega)]
      exact p3 _ (by omega)
    · refine wp_al0 iX9_sides_47 ?_
      refine wp_gR iX9_sides_48 fr_9_16 rfl rfl rfl ?_
      refine wp_il3 iX9_sides_51 ?_
      refine wp_ic iX9_sides_52 (by decide) ?_
      refine wp_add iX9_sides_53 (by omega) ?_
      refine wp_ia iX9_sides_54 rfl (by omega) ?_
      refine wp_al0 iX9_sides_55 ?_
      refine wp_gR iX9_sides_56 fr_9_16 rfl rfl rfl ?_
      refine wp_il3 iX9_sides_59 ?_
      refine wp_ia iX9_sides_60 rfl (by omega) ?_
      rw [show (12 * (p : Int) + (w : Int) + 1) = 12 * (p : Int) + ((w : Int) + 1) by omega, tc]
      refine wp_ceq iX9_sides_61 (fun c_61 => ?_) (fun c_61 => ?_)
      · refine wp_ic iX9_sides_68 (by decide) ?_
        refine wp_add iX9_sides_69 (by omega) ?_
        refine wp_is4 iX9_sides_70 ?_
        rw [show sd1 C R (N 57) (N 57 (12 * p + w)) ((w : Int) + 1) (p : Int) = 0 from if_neg (fun z => z.2 c_61)]
        exact p3 _ (by omega)
      · refine wp_ic iX9_sides_64 (by decide) ?_
        refine wp_goto iX9_sides_65 ?_
        refine wp_add iX9_sides_69 (by omega) ?_
        refine wp_is4 iX9_sides_70 ?_
        rw [show sd1 C R (N 57) (N 57 (12 * p + w)) ((w : Int) + 1) (p : Int) = 1 from if_pos ⟨by omega, c_61⟩]
        exact p3 _ (by omega)
  refine wp_bp iX9_sides_0 (by decide) ?_
  refine wp_il2 iX9_sides_2 ?_
  refine wp_mul iX9_sides_3 (by omega) ?_
  refine wp_il1 iX9_sides_4 ?_
  refine wp_add iX9_sides_5 (by omega) ?_
  refine wp_is3 iX9_sides_6 ?_
  refine wp_il1 iX9_sides_7 ?_
  refine wp_zle iX9_sides_8 (fun c_8 => ?_) (fun c_8 => ?_)
  · refine wp_ic iX9_sides_32 (by decide) ?_
    refine wp_is4 iX9_sides_33 ?_
    rw [show sd1 C R (N 57) (N 57 (12 * p + w)) ((w : Int) - 1) (p : Int) = 0 from if_neg (fun z => by have := z.1; omega)]
    exact p2 _ (by omega)
  · refine wp_al0 iX9_sides_11 ?_
    refine wp_gR iX9_sides_12 fr_9_16 rfl rfl rfl ?_
    refine wp_il3 iX9_sides_15 ?_
    refine wp_ic iX9_sides_16 (by decide) ?_
    refine wp_sub iX9_sides_17 (by omega) ?_
    refine wp_ia iX9_sides_18 rfl (by omega) ?_
    refine wp_al0 iX9_sides_19 ?_
    refine wp_gR iX9_sides_20 fr_9_16 rfl rfl rfl ?_
    refine wp_il3 iX9_sides_23 ?_
    refine wp_ia iX9_sides_24 rfl (by omega) ?_
    rw [show (12 * (p : Int) + (w : Int) - 1) = 12 * (p : Int) + ((w : Int) - 1) by omega, tc]
    refine wp_ceq iX9_sides_25 (fun c_25 => ?_) (fun c_25 => ?_)
    · refine wp_ic iX9_sides_32 (by decide) ?_
      refine wp_is4 iX9_sides_33 ?_
      rw [show sd1 C R (N 57) (N 57 (12 * p + w)) ((w : Int) - 1) (p : Int) = 0 from if_neg (fun z => z.2 c_25)]
      exact p2 _ (by omega)
    · refine wp_ic iX9_sides_28 (by decide) ?_
      refine wp_goto iX9_sides_29 ?_
      refine wp_is4 iX9_sides_33 ?_
      rw [show sd1 C R (N 57) (N 57 (12 * p + w)) ((w : Int) - 1) (p : Int) = 1 from if_pos ⟨by omega, c_25⟩]
      exact p2 _ (by omega)
end FieldM
/-- numbers counted: what number() finds -/
def nuI (C R : Nat) (T : ab_Me) (n : Nat) (xs : Nat → Nat) (pos : Nat) (N : ab_Me) : Prop :=
  (∀ a, a ≠ 56 → a ≠ 73 → a ≠ 74 → a ≠ 75 → N a = T a) ∧ (∀ j, j ≠ 24 → N 56 j = T 56 j) ∧ N 56 24 = (n : Int) ∧ (∀ f, f < n → N 73 f = (xs f : Int) ∧ N 74 f = 0 ∧ N 75 f = 0) ∧ (∀ f g, f < g → g < n → xs f < xs g) ∧ (∀ f, f < n → onB C R (xs f) ∧ T 72 (xs f) = (xs f : Int) ∧ xs f < pos) ∧ ∀ a, onB C R a → a < pos → T 72 a = (a : Int) → ∃ f, f < n ∧ xs f = a
theorem nuI_n {C R : Nat} {T : ab_Me} {n : Nat} {xs : Nat → Nat} {pos : Nat} {N : ab_Me} (h : nuI C R T n xs pos N) : n ≤ pos := by
  obtain ⟨i1, i2, i3, i4, i5, i6, i7⟩ := h
  cases n with
  | zero => omega
  | succ n =>
    have := inc_ge i5 n (by omega)
    have := (i6 n (by omega)).2.2
    omega
theorem nuI_go {C R : Nat} {T : ab_Me} {n : Nat} {xs : Nat → Nat} {pos pos' : Nat} {N : ab_Me} (h : nuI C R T n xs pos N) (hp : pos ≤ pos') (hq : ∀ a, onB C R a → pos ≤ a → a < pos' → ¬ T 72 a = (a : Int)) : nuI C R T n xs pos' N := by
  obtain ⟨i1, i2, i3, i4, i5, i6, i7⟩ := h
  refine ⟨i1, i2, i3, i4, i5, fun f hf => ⟨(i6 f hf).1, (i6 f hf).2.1, by have := (i6 f hf).2.2; omega⟩, fun a ha hlt he => ?_⟩
  by_cases z : a < pos
  · exact i7 a ha z he
  · exact absurd he (hq a ha (by omega) hlt)
theorem nuI_new {C R : Nat} {T : ab_Me} {n : Nat} {xs : Nat → Nat} {c : Nat} {N : ab_Me} (h : nuI C R T n xs c N) (hc : onB C R c) (he : T 72 c = (c : Int)) : nuI C R T (n + 1) (fun g => if g = n then c else xs g) (c + 1) (ab_up (ab_up (ab_up (ab_up N 73 n (c : Int)) 74 n 0) 75 n 0) 56 24 ((n : Int) + 1)) := by
  obtain ⟨i1, i2, i3, i4, i5, i6, i7⟩ := h
  have xo : ∀ f, f < n → (fun g => if g = n then c else xs g) f = xs f := fun f hf => if_neg (by omega)
  have xn : (fun g => if g = n then c else xs g) n = c := if_pos rfl
  obtain ⟨A, hA⟩ : ∃ A, A = ab_up (ab_up (ab_up (ab_up N 73 n (c : Int)) 74 n 0) 75 n 0) 56 24 ((n : Int) + 1) := ⟨_, rfl⟩
  rw [← hA]
  have a56 : A 56 = ab_u1 (N 56) 24 ((n : Int) + 1) := by rw [hA]; rfl
  have a73 : A 73 = ab_u1 (N 73) n (c : Int) := by rw [hA]; rfl
  have a74 : A 74 = ab_u1 (N 74) n 0 := by rw [hA]; rfl
  have a75 : A 75 = ab_u1 (N 75) n 0 := by rw [hA]; rfl
  refine ⟨fun a b1 b2 b3 b4 => ?_, fun j hj => ?_, ?_, fun f hf => ?_, fun f g hfg hg => ?_, fun f hf => ?_, fun a ha hlt hea => ?_⟩
  · rw [hA, ab_up_ne _ _ _ b1, ab_up_ne _ _ _ b4, ab_up_ne _ _ _ b3, ab_up_ne _ _ _ b2]; exact i1 a b1 b2 b3 b4
  · rw [a56, ab_u1_ne _ _ hj]; exact i2 j hj
  · rw [a56, ab_u1_self]; omega
  · rw [a73, a74, a75]
    by_cases z : f = n
    · subst z
      rw [ab_u1_self, ab_u1_self, ab_u1_self, xn]
      exact ⟨rfl, rfl, rfl⟩
    · rw [ab_u1_ne _ _ z, ab_u1_ne _ _ z, ab_u1_ne _ _ z, xo f (by omega)]
      exact i4 f (by omega)
  · by_cases z : g = n
    · rw [z, xn, xo f (by omega)]; exact (i6 f (by omega)).2.2
    · rw [xo f (by omega), xo g (by omega)]; exact i5 f g hfg (by omega)
  · by_cases z : f = n
    · rw [z, xn]; exact ⟨hc, he, by omega⟩
    · rw [xo f (by omega)]; have := i6 f (by omega); exact ⟨this.1, this.2.1, by omega⟩
  · by_cases z : a = c
    · exact ⟨n, by omega, by rw [xn, z]⟩
    · obtain ⟨f, hf, hx⟩ := i7 a ha (by omega) hea
      exact ⟨f, by omega, by rw [xo f hf, hx]⟩
/-- areas and yarns up to a place -/
def nuJ (C R : Nat) (T : ab_Me) (n : Nat) (xs fl : Nat → Nat) (pos : Nat) (N : ab_Me) : Prop :=
  (∀ a, a ≠ 56 → a ≠ 73 → a ≠ 74 → a ≠ 75 → N a = T a) ∧ (∀ j, j ≠ 24 → N 56 j = T 56 j) ∧ N 56 24 = (n : Int) ∧ (∀ f, f < n → N 73 f = (xs f : Int)) ∧ ∀ f, f < n → N 74 f = sm (fun a => if (onB C R a ∧ fl a = f) ∧ a < pos then 1 else 0) 120 ∧ N 75 f = sm (fun a => if (onB C R a ∧ fl a = f) ∧ a < pos then 2 + sds C R (T 57) a else 0) 120
theorem nuJ_go {C R : Nat} {T : ab_Me} {n : Nat} {xs fl : Nat → Nat} {pos pos' : Nat} {N : ab_Me} (h : nuJ C R T n xs fl pos N) (hp : pos ≤ pos') (hq : ∀ a, onB C R a → pos ≤ a → ¬ a < pos') : nuJ C R T n xs fl pos' N := by
  obtain ⟨i1, i2, i3, i4, i5⟩ := h
  have e : ∀ (f : Nat) (g : Nat → Int), sm (fun a => if (onB C R a ∧ fl a = f) ∧ a < pos then g a else 0) 120 = sm (fun a => if (onB C R a ∧ fl a = f) ∧ a < pos' then g a else 0) 120 := fun f g => sm_congr _ (fun a _ => by
    by_cases ha : onB C R a ∧ fl a = f
    · by_cases z : a < pos
      · rw [if_pos ⟨ha, z⟩, if_pos ⟨ha, by omega⟩]
      · rw [if_neg (fun y => z y.2), if_neg (fun y => hq a ha.1 (by omega) y.2)]
    · rw [if_neg (fun y => ha y.1), if_neg (fun y => ha y.1)])
  exact ⟨i1, i2, i3, i4, fun f hf => ⟨by rw [(i5 f hf).1]; exact e f (fun _ => 1), by rw [(i5 f hf).2]; exact e f (fun a => 2 + sds C R (T 57) a)⟩⟩
theorem nuJ_add {C R : Nat} {T : ab_Me} {n : Nat} {xs fl : Nat → Nat} {c : Nat} {N : ab_Me} (h : nuJ C R T n xs fl c N) (hc : onB C R c) (hc120 : c < 120) (hn : fl c < n) : nuJ C R T n xs fl (c + 1) (ab_up (ab_up N 74 (fl c) (N 74 (fl c) + 1)) 75 (fl c) (N 75 (fl c) + (2 + sds C R (T 57) c))) := by
  obtain ⟨i1, i2, i3, i4, i5⟩ := h
  have e : ∀ (f : Nat) (g : Nat → Int), sm (fun a => if (onB C R a ∧ fl a = f) ∧ a < c + 1 then g a else 0) 120 = sm (fun a => if (onB C R a ∧ fl a = f) ∧ a < c then g a else 0) 120 + (if fl c = f then g c else 0) := fun f g => by
    have := sm_one (fun a => if (onB C R a ∧ fl a = f) ∧ a < c then g a else 0) (fun a => if (onB C R a ∧ fl a = f) ∧ a < c + 1 then g a else 0) c (if fl c = f then g c else 0) (by
      show (if (onB C R c ∧ fl c = f) ∧ c < c + 1 then g c else 0) = (if (onB C R c ∧ fl c = f) ∧ c < c then g c else 0) + _
      have z0 : ¬ ((onB C R c ∧ fl c = f) ∧ c < c) := fun z => Nat.lt_irrefl _ z.2
      rw [if_neg z0]
      by_cases z : fl c = f
      · have z1 : (onB C R c ∧ fl c = f) ∧ c < c + 1 := ⟨⟨hc, z⟩, Nat.lt_succ_self c⟩
        rw [if_pos z1, if_pos z, Int.zero_add]
      · rw [if_neg (fun y => z y.1.2), if_neg z]; rfl) (fun a ha => by
      show (if (onB C R a ∧ fl a = f) ∧ a < c + 1 then g a else 0) = (if (onB C R a ∧ fl a = f) ∧ a < c then g a else 0)
      by_cases z : onB C R a ∧ fl a = f
      · by_cases y : a < c
        · have y1 : (onB C R a ∧ fl a = f) ∧ a < c + 1 := ⟨z, by omega⟩
          rw [if_pos y1, if_pos ⟨z, y⟩]
        · have y1 : ¬ ((onB C R a ∧ fl a = f) ∧ a < c + 1) := fun q => by have := q.2; omega
          rw [if_neg y1, if_neg (fun q => y q.2)]
      · rw [if_neg (fun y => z y.1), if_neg (fun y => z y.1)]) 120
    rw [this, if_pos hc120]
  obtain ⟨A, hA⟩ : ∃ A, A = ab_up (ab_up N 74 (fl c) (N 74 (fl c) + 1)) 75 (fl c) (N 75 (fl c) + (2 + sds C R (T 57) c)) := ⟨_, rfl⟩
  rw [← hA]
  have a74 : A 74 = ab_u1 (N 74) (fl c) (N 74 (fl c) + 1) := by rw [hA]; rfl
  have a75 : A 75 = ab_u1 (N 75) (fl c) (N 75 (fl c) + (2 + sds C R (T 57) c)) := by rw [hA]; rfl
  have ao : ∀ a, a ≠ 74 → a ≠ 75 → A a = N a := fun a b1 b2 => by rw [hA, ab_up_ne _ _ _ b2, ab_up_ne _ _ _ b1]
  refine ⟨fun a b1 b2 b3 b4 => ?_, fun j hj => ?_, ?_, fun f hf => ?_, fun f hf => ⟨?_, ?_⟩⟩
  · rw [ao a b3 b4]; exact i1 a b1 b2 b3 b4
  · rw [ao 56 (by decide) (by decide)]; exact i2 j hj
  · rw [ao 56 (by decide) (by decide)]; exact i3
  · rw [ao 73 (by decide) (by decide)]; exact i4 f hf
  · rw [a74, e f (fun _ => 1), ← (i5 f hf).1]
    by_cases z : fl c = f
    · rw [z, ab_u1_self, if_pos rfl]
    · rw [ab_u1_ne _ _ (fun y => z y.symm), if_neg z]; omega
  · rw [a75, e f (fun a => 2 + sds C R (T 57) a), ← (i5 f hf).2]
    by_cases z : fl c = f
    · rw [z, ab_u1_self, if_pos rfl]
    · rw [ab_u1_ne _ _ (fun y => z y.symm), if_neg z]; omega
theorem inc_inj {n : Nat} {xs : Nat → Nat} (h : ∀ f g, f < g → g < n → xs f < xs g) {f g : Nat} (hf : f < n) (hg : g < n) (he : xs f = xs g) : f = g := by
  rcases Nat.lt_trichotomy f g with z | z | z
  · have := h f g z hg; omega
  · exact z
  · have := h g f z hf; omega
