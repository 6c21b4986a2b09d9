def fdI (C R : Nat) (col : Nat → Int) (M : ab_Me) (n : Nat) (xs : Nat → Nat) (pos : Nat) (N : ab_Me) : Prop :=
  (∀ a, a < 34 ∨ 40 < a → N a = M a) ∧ N 34 0 = (n : Int) ∧ (∀ a, onB C R a → N 35 a = -1 ∨ (0 ≤ N 35 a ∧ N 35 a < n)) ∧ (∀ a, onB C R a → a < pos → 0 ≤ N 35 a) ∧
  (∀ a b, adj C R col a b → 0 ≤ N 35 a → N 35 b = N 35 a) ∧ (∀ f, f < n → onB C R (xs f) ∧ N 35 (xs f) = (f : Int) ∧ xs f < pos) ∧ (∀ f g, f < g → g < n → xs f < xs g) ∧
  (∀ a, onB C R a → 0 ≤ N 35 a → xs (N 35 a).toNat ≤ a ∧ Cn C R col a (xs (N 35 a).toNat)) ∧
  ∀ f, f < n → N 36 f = col (xs f) ∧ N 37 f = sm (fun a => if onB C R a ∧ N 35 a = (f : Int) then 1 else 0) 120 ∧ N 38 f = sm (fun a => if onB C R a ∧ N 35 a = (f : Int) then 2 + sds C R col a else 0) 120 ∧ N 39 f = fPlc C (xs f)
def fdX (C R : Nat) (col : Nat → Int) (M N : ab_Me) : Prop := (∀ a, a < 34 ∨ 40 < a → N a = M a) ∧ ∃ n xs fl, n ≤ 120 ∧ isF C R col n xs fl ∧ N 34 0 = (n : Int) ∧ (∀ a, onB C R a → N 35 a = (fl a : Int)) ∧ ∀ f, f < n → N 36 f = col (xs f) ∧ N 37 f = fArea C R fl f ∧ N 38 f = fYarn C R col fl f ∧ N 39 f = fPlc C (xs f)
theorem inc_ge {n : Nat} {xs : Nat → Nat} (h : ∀ f g, f < g → g < n → xs f < xs g) : ∀ f, f < n → f ≤ xs f
  | 0, _ => Nat.zero_le _
  | f + 1, hf => by
    have := inc_ge h f (by omega)
    have := h f (f + 1) (by omega) hf
    omega
theorem fdI_n {C R : Nat} {col : Nat → Int} {M : ab_Me} {n : Nat} {xs : Nat → Nat} {pos : Nat} {N : ab_Me} (h : fdI C R col M n xs pos N) : n ≤ pos := by
  obtain ⟨i1, i2, i3, i4, i5, i6, i7, i8, i9⟩ := h
  cases n with
  | zero => omega
  | succ n =>
    have := inc_ge i7 n (by omega)
    have := (i6 n (by omega)).2.2
    omega
theorem fdI_go {C R : Nat} {col : Nat → Int} {M : ab_Me} {n : Nat} {xs : Nat → Nat} {pos pos' : Nat} {N : ab_Me} (h : fdI C R col M n xs pos N) (hp : pos ≤ pos') (hq : ∀ a, onB C R a → pos ≤ a → a < pos' → 0 ≤ N 35 a) : fdI C R col M n xs pos' N := by
  obtain ⟨i1, i2, i3, i4, i5, i6, i7, i8, i9⟩ := h
  refine ⟨i1, i2, i3, fun a ha hlt => ?_, i5, fun f hf => ⟨(i6 f hf).1, (i6 f hf).2.1, by have := (i6 f hf).2.2; omega⟩, i7, i8, i9⟩
  by_cases z : a < pos
  · exact i4 a ha z
  · exact hq a ha (by omega) hlt
theorem fdI_end {C R : Nat} {col : Nat → Int} {M : ab_Me} {n : Nat} {xs : Nat → Nat} {pos : Nat} {N : ab_Me} (hp : pos ≤ 120) (hR : ∀ a, onB C R a → a < pos) (h : fdI C R col M n xs pos N) : fdX C R col M N := by
  have hn := fdI_n h
  obtain ⟨i1, i2, i3, i4, i5, i6, i7, i8, i9⟩ := h
  have pos0 : ∀ a, onB C R a → 0 ≤ N 35 a := fun a ha => i4 a ha (hR a ha)
  have e : ∀ a, onB C R a → N 35 a = (((N 35 a).toNat : Nat) : Int) := fun a ha => by have := pos0 a ha; omega
  have eqv : ∀ (f : Nat) (g : Nat → Int), sm (fun a => if onB C R a ∧ N 35 a = (f : Int) then g a else 0) 120 = sm (fun a => if onB C R a ∧ (N 35 a).toNat = f then g a else 0) 120 := fun f g => sm_congr _ (fun a _ => by
    by_cases ha : onB C R a
    · have := pos0 a ha
      by_cases z : N 35 a = (f : Int)
      · rw [if_pos ⟨ha, z⟩, if_pos ⟨ha, by omega⟩]
      · rw [if_neg (fun y => z y.2), if_neg (fun y => z (by have := y.2; omega))]
    · rw [if_neg (fun y => ha y.1), if_neg (fun y => ha y.1)])
  refine ⟨i1, n, xs, fun a => (N 35 a).toNat, by omega, ⟨fun f hf => ⟨(i6 f hf).1, by show (N 35 (xs f)).toNat = f; rw [(i6 f hf).2.1]; omega⟩, i7, fun a ha => ⟨?_, i8 a ha (pos0 a ha)⟩, fun a b hab => ?_⟩, i2, e, fun f hf => ?_⟩
  · show (N 35 a).toNat < n
    have := i3 a ha
    have := pos0 a ha
    omega
  · show (N 35 a).toNat = (N 35 b).toNat
    rw [i5 a b hab (pos0 a hab.1)]
  · obtain ⟨j1, j2, j3, j4⟩ := i9 f hf
    exact ⟨j1, by rw [j2]; exact eqv f (fun _ => 1), by rw [j3]; exact eqv f (fun a => 2 + sds C R col a), j4⟩
theorem fdI_new {C R : Nat} {col : Nat → Int} {M : ab_Me} {n : Nat} {xs : Nat → Nat} {c : Nat} {N N2 : ab_Me} (h : fdI C R col M n xs c N) (hc : onB C R c) (hs : spP C R col (ab_up N 39 n (fPlc C c)) n c N2) : fdI C R col M (n + 1) (fun g => if g = n then c else xs g) (c + 1) (ab_up N2 34 0 ((n : Int) + 1)) := by
  obtain ⟨i1, i2, i3, i4, i5, i6, i7, i8, i9⟩ := h
  obtain ⟨p1, p2, p3, p4, p5, p6, p7, p8⟩ := hs
  have p6 : ∀ a, onB C R a → N2 35 a = N 35 a ∨ (N 35 a = -1 ∧ N2 35 a = n ∧ Cn C R col a c) := p6
  have p3 : ∀ g, N2 36 g = if g = n then col c else N 36 g := p3
  have p4 : ∀ g, N2 37 g = if g = n then sm (fun a => if onB C R a ∧ N2 35 a = (n : Int) then 1 else 0) 120 else N 37 g := p4
  have p5 : ∀ g, N2 38 g = if g = n then sm (fun a => if onB C R a ∧ N2 35 a = (n : Int) then 2 + sds C R col a else 0) 120 else N 38 g := p5
  have p39 : N2 39 = ab_u1 (N 39) n (fPlc C c) := by rw [p1 39 (by decide) (by decide) (by decide) (by decide) (by decide) (by decide), ab_up_self]
  have keep : ∀ a, onB C R a → 0 ≤ N 35 a → N2 35 a = N 35 a := fun a ha h0 => by
    rcases p6 a ha with y | y
    · exact y
    · omega
  have old : ∀ a, onB C R a → ∀ f : Nat, f < n → (N2 35 a = (f : Int) ↔ N 35 a = (f : Int)) := fun a ha f hf => by
    rcases p6 a ha with y | y
    · rw [y]
    · constructor <;> intro <;> omega
  have xo : ∀ f, f < n → (fun g => if g = n then c else xs g) f = xs f := fun f hf => if_neg (by omega)
  have xn : (fun g => if g = n then c else xs g) n = c := if_pos rfl
  have e34 : ab_up N2 34 0 ((n : Int) + 1) 34 0 = (n : Int) + 1 := rfl
  have e35 : ab_up N2 34 0 ((n : Int) + 1) 35 = N2 35 := rfl
  have e36 : ab_up N2 34 0 ((n : Int) + 1) 36 = N2 36 := rfl
  have e37 : ab_up N2 34 0 ((n : Int) + 1) 37 = N2 37 := rfl
  have e38 : ab_up N2 34 0 ((n : Int) + 1) 38 = N2 38 := rfl
  have e39 : ab_up N2 34 0 ((n : Int) + 1) 39 = N2 39 := rfl
  unfold fdI
  rw [e34, e35, e36, e37, e38, e39]
  refine ⟨fun a ha => ?_, by omega, fun a ha => ?_, fun a ha hlt => ?_, fun a b hab h0 => ?_, fun f hf => ?_, fun f g hfg hg => ?_, fun a ha h0 => ?_, fun f hf => ?_⟩
  · rw [ab_up_ne _ _ _ (by omega), p1 a (by omega) (by omega) (by omega) (by omega) (by omega) (by omega), ab_up_ne _ _ _ (by omega)]
    exact i1 a ha
  · rcases p6 a ha with y | y
    · rw [y]; have := i3 a ha; omega
    · omega
  · by_cases z : a = c
    · rw [z, p7]; omega
    · have := i4 a ha (by omega)
      rw [keep a ha this]; exact this
  · by_cases z : N2 35 a = (n : Int)
    · rw [z]; exact p8 a b hab z
    · rcases p6 a hab.1 with y | y
      · rw [y] at h0 ⊢
        have q := i5 a b hab h0
        rw [keep b hab.2.1 (by omega)]
        exact q
      · exact absurd y.2.1 z
  · by_cases z : f = n
    · rw [z, xn]; exact ⟨hc, p7, by omega⟩
    · have y := i6 f (by omega)
      rw [xo f (by omega)]
      exact ⟨y.1, by rw [keep _ y.1 (by omega)]; exact y.2.1, by omega⟩
  · by_cases z : g = n
    · rw [z, xn, xo f (by omega)]; exact (i6 f (by omega)).2.2
    · rw [xo f (by omega), xo g (by omega)]; exact i7 f g hfg (by omega)
  · by_cases z : N2 35 a = (n : Int)
    · rw [z, show ((n : Int)).toNat = n by omega, xn]
      rcases p6 a ha with y | y
      · exfalso
        have := i3 a ha
        omega
      · refine ⟨?_, y.2.2⟩
        by_cases w : a < c
        · have := i4 a ha w; omega
        · omega
    · rcases p6 a ha with y | y
      · rw [y] at h0 ⊢
        have := i3 a ha
        rw [xo _ (by omega)]
        exact i8 a ha h0
      · exact absurd y.2.1 z
  · by_cases z : f = n
    · rw [z, xn]
      refine ⟨by rw [p3, if_pos rfl], by rw [p4, if_pos rfl], by rw [p5, if_pos rfl], by rw [p39, ab_u1_self]⟩
    · have y := i9 f (by omega)
      rw [xo f (by omega), p3, p4, p5, if_neg z, if_neg z, if_neg z, p39, ab_u1_ne _ _ z]
      refine ⟨y.1, ?_, ?_, y.2.2.2⟩
      · rw [y.2.1]
        exact sm_congr _ (fun a _ => by
          by_cases ha : onB C R a
          · have := old a ha f (by omega)
            by_cases w : N 35 a = (f : Int)
            · rw [if_pos ⟨ha, w⟩, if_pos ⟨ha, this.2 w⟩]
            · rw [if_neg (fun v => w v.2), if_neg (fun v => w (this.1 v.2))]
          · rw [if_neg (fun v => ha v.1), if_neg (fun v => ha v.1)])
      · rw [y.2.2.1]
        exact sm_congr _ (fun a _ => by
          by_cases ha : onB C R a
          · have := old a ha f (by omega)
            by_cases w : N 35 a = (f : Int)
            · rw [if_pos ⟨ha, w⟩, if_pos ⟨ha, this.2 w⟩]
            · rw [if_neg (fun v => w v.2), if_neg (fun v => w (this.1 v.2))]
          · rw [if_neg (fun v => ha v.1), if_neg (fun v => ha v.1)])
theorem pC_bd {p C : Nat} (hp : p ≤ 10) (hC : C ≤ 12) : 0 ≤ (p : Int) * (C : Int) ∧ (p : Int) * (C : Int) ≤ 120 := by
  have : p * C ≤ 10 * 12 := Nat.mul_le_mul hp hC
  rw [← Int.natCast_mul]
  omega
section FindF
variable (L : Nat) (M : ab_Me)
set_option maxHeartbeats 1000000 in
theorem c_X2_find {C R : Nat} (h : hB M) (hC : M 3 0 = (C : Int)) (hR : M 3 1 = (R : Int)) : ct L 5 mX2_find [.inr 34, .inr 3] M (fun r N => r = none ∧ fdX C R (fun a => M 4 a % 8) M N) := by
  obtain ⟨h1, h2, h3, h4, h5⟩ := id h
  refine ct_of rfl ?_
  change wp _ _ _ 0 [some (.inr 34), some (.inr 3), none, none] [] _ _
  refine wp_al0 iX2_find_0 ?_
  refine wp_ic iX2_find_1 (by decide) ?_
  refine wp_pI iX2_find_2 fp_2_9 rfl ?_
  refine wp_al0 iX2_find_5 ?_
  refine wp_gR iX2_find_6 fr_2_15 rfl rfl rfl ?_
  refine wp_ic iX2_find_9 (by decide) ?_
  refine wp_s2v iX2_find_10 ml_2_37 rfl rfl rfl (c_fill L _ 35 120 (-1) rfl rfl (by omega)) ?_
  refine wp_ic iX2_find_13 (by decide) ?_
  refine wp_is2 iX2_find_14 ?_
  have key : ∀ (m p n : Nat) (xs : Nat → Nat) (N : ab_Me), R - p = m → p ≤ R → fdI C R (fun a => M 4 a % 8) M n xs (12 * p) N → ∀ v3 : Option ab_V, wp L 4 mX2_find 15 [some (.inr 34), some (.inr 3), some (.inl (p : Int)), v3] [] N (fun r N => r = none ∧ fdX C R (fun a => M 4 a % 8) M N) := by
    intro m
    induction m using Nat.strongRecOn with
    | ind m ih =>
      intro p n xs N hm hp hI v3
      have e3 : N 3 = M 3 := hI.1 3 (by omega)
      refine wp_il2 iX2_find_15 ?_
      refine wp_al1 iX2_find_16 ?_
      refine wp_gI iX2_find_17 fi_2_43 rfl ?_
      rw [e3, hR]
      refine wp_cge iX2_find_20 (fun c_20 => ?_) (fun c_20 => ?_)
      · refine wp_retv iX2_find_95 rfl ?_
        refine ⟨rfl, fdI_end (pos := 12 * p) (by omega) (fun a ha => ?_) hI⟩
        have := ha.2
        omega
      · refine wp_ic iX2_find_23 (by decide) ?_
        refine wp_is3 iX2_find_24 ?_
        have key2 : ∀ (m2 w n : Nat) (xs : Nat → Nat) (N : ab_Me), C - w = m2 → w ≤ C → fdI C R (fun a => M 4 a % 8) M n xs (12 * p + w) N → wp L 4 mX2_find 25 [some (.inr 34), some (.inr 3), some (.inl (p : Int)), some (.inl (w : Int))] [] N (fun r N => r = none ∧ fdX C R (fun a => M 4 a % 8) M N) := by
          intro m2
          induction m2 using Nat.strongRecOn with
          | ind m2 ih2 =>
            intro w n xs N hm2 hw hI
            have e3 : N 3 = M 3 := hI.1 3 (by omega)
            have e4 : N 4 = M 4 := hI.1 4 (by omega)
            refine wp_il3 iX2_find_25 ?_
            refine wp_al1 iX2_find_26 ?_
            refine wp_gI iX2_find_27 fi_2_48 rfl ?_
            rw [e3, hC]
            refine wp_cge iX2_find_30 (fun c_30 => ?_) (fun c_30 => ?_)
            · refine wp_ii2 iX2_find_89 (by omega) ?_
              refine wp_goto iX2_find_92 ?_
              rw [show (p : Int) + 1 = ((p + 1 : Nat) : Int) by omega]
              refine ih _ (by omega) (p + 1) n xs N rfl (by omega) (fdI_go hI (by omega) (fun a ha q1 q2 => ?_)) _
              have := ha.1
              omega
            · have hon : onB C R (12 * p + w) := ⟨by omega, by omega⟩
              have hcell : ((12 * (p : Int) + (w : Int))).toNat = 12 * p + w := by omega
              refine wp_al0 iX2_find_33 ?_
              refine wp_gR iX2_find_34 fr_2_15 rfl rfl rfl ?_
              refine wp_il3 iX2_find_37 ?_
              refine wp_il2 iX2_find_38 ?_
              refine wp_n2f iX2_find_39 ml_2_51 rfl rfl rfl (c_X8_cellOf _ _ _ _ (by omega)) ?_
              refine wp_ia iX2_find_42 rfl (by omega) ?_
              rw [hcell]
              have i3 := hI.2.2.1 _ hon
              have goOn : ∀ (n' : Nat) (xs' : Nat → Nat) (N' : ab_Me), fdI C R (fun a => M 4 a % 8) M n' xs' (12 * p + w + 1) N' → wp L 4 mX2_find 83 [some (.inr 34), some (.inr 3), some (.inl (p : Int)), some (.inl (w : Int))] [] N' (fun r N => r = none ∧ fdX C R (fun a => M 4 a % 8) M N) := by
                intro n' xs' N' hI'
                refine wp_ii3 iX2_find_83 (by omega) ?_
                refine wp_goto iX2_find_86 ?_
                rw [show (w : Int) + 1 = ((w + 1 : Nat) : Int) by omega]
                exact ih2 _ (by omega) (w + 1) n' xs' N' rfl (by omega) hI'
              refine wp_zge iX2_find_43 (fun c_43 => ?_) (fun c_43 => ?_)
              · refine goOn n xs N (fdI_go hI (by omega) (fun a ha q1 q2 => ?_))
                rw [show a = 12 * p + w by omega]
                exact c_43
              · have hn := fdI_n hI
                have ef : N 34 0 = (n : Int) := hI.2.1
                have hpc := pC_bd (p := p) (C := C) (by omega) (by omega)
                refine wp_al0 iX2_find_46 ?_
                refine wp_gR iX2_find_47 fr_2_28 rfl rfl rfl ?_
                refine wp_al0 iX2_find_50 ?_
                refine wp_gI iX2_find_51 fi_2_9 rfl ?_
                refine wp_il2 iX2_find_54 ?_
                refine wp_al1 iX2_find_55 ?_
                refine wp_gI iX2_find_56 fi_2_48 rfl ?_
                rw [ef, e3, hC]
                refine wp_mul iX2_find_59 (by omega) ?_
                refine wp_il3 iX2_find_60 ?_
                refine wp_add iX2_find_61 (by omega) ?_
                refine wp_is iX2_find_62 rfl rfl (by omega) ?_
                rw [show ((n : Int)).toNat = n by omega]
                have epl : (p : Int) * (C : Int) + (w : Int) = fPlc C (12 * p + w) := by
                  unfold fPlc
                  rw [show (12 * p + w) / 12 = p by omega, show (12 * p + w) % 12 = w by omega]
                rw [epl]
                have hH : spH C R (fun a => M 4 a % 8) (ab_up N 39 n (fPlc C (12 * p + w))) n := by
                  have e35 : ab_up N 39 n (fPlc C (12 * p + w)) 35 = N 35 := rfl
                  have e30 : ab_up N 39 n (fPlc C (12 * p + w)) 3 = M 3 := e3
                  have e40 : ab_up N 39 n (fPlc C (12 * p + w)) 4 = M 4 := e4
                  refine ⟨by omega, by omega, by omega, by unfold hB; rw [e30, e40]; exact h, by rw [e30]; exact hC, by rw [e30]; exact hR, fun a => by rw [e40], ef, ?_, ?_⟩
                  · rw [e35]; exact hI.2.2.1
                  · rw [e35]; exact hI.2.2.2.2.1
                have hsp := c_X2_spread L hH (12 * p + w) hon (by show N 35 (12 * p + w) < 0; omega)
                rw [show (((12 * p + w : Nat)) : Int) = 12 * (p : Int) + (w : Int) by omega] at hsp
                refine wp_al0 iX2_find_63 ?_
                refine wp_al1 iX2_find_64 ?_
                refine wp_il3 iX2_find_65 ?_
                refine wp_il2 iX2_find_66 ?_
                refine wp_n2f iX2_find_67 ml_2_51 rfl rfl rfl (c_X8_cellOf _ _ _ _ (by omega)) ?_
                refine wp_v2x iX2_find_70 ml_2_55 rfl rfl rfl rfl (hsp) (fun r N2 hx => ?_)
                obtain ⟨rfl, hs⟩ := hx
                refine wp_al0 iX2_find_73 ?_
                refine wp_dup iX2_find_74 ?_
                refine wp_gI iX2_find_75 fi_2_9 rfl ?_
                rw [hs.2.1]
                refine wp_ic iX2_find_78 (by decide) ?_
                refine wp_add iX2_find_79 (by omega) ?_
                refine wp_pI iX2_find_80 fp_2_9 rfl ?_
                exact goOn _ _ _ (fdI_new hI hon hs)
        exact key2 _ 0 n xs N rfl (by omega) hI
  refine key _ 0 0 (fun _ => 0) _ rfl (by omega) ⟨fun a ha => ?_, rfl, fun a ha => Or.inl ?_, fun a ha q => by omega, fun a b hab q => ?_, fun f hf => by omega, fun f g q1 q2 => by omega, fun a ha q => ?_, fun f hf => by omega⟩ _
  · rw [ab_rw_ne _ _ (by omega), ab_up_ne _ _ _ (by omega)]
  · have := on_lt (by omega) (by omega) ha
    rw [ab_rw_self, if_pos (by omega)]
  · exfalso
    have := on_lt (by omega) (by omega) hab.1
    rw [ab_rw_self, if_pos (by omega)] at q
    omega
  · exfalso
    have := on_lt (by omega) (by omega) ha
    rw [ab_rw_self, if_pos (by omega)] at q
    omega
end FindF
