/-! ===== gathering: those that a test takes, in their order ===== -/
def gl (p : Nat → Bool) : Nat → List Nat
  | 0 => []
  | k + 1 => if p k = true then gl p k ++ [k] else gl p k
theorem gl_yes {p : Nat → Bool} {k : Nat} (h : p k = true) : gl p (k + 1) = gl p k ++ [k] := by
  show (if p k = true then gl p k ++ [k] else gl p k) = _
  rw [if_pos h]
theorem gl_no {p : Nat → Bool} {k : Nat} (h : ¬ p k = true) : gl p (k + 1) = gl p k := by
  show (if p k = true then gl p k ++ [k] else gl p k) = _
  rw [if_neg h]
theorem gl_le (p : Nat → Bool) (k : Nat) : ∀ d, (gl p k).length ≤ (gl p (k + d)).length
  | 0 => Nat.le_refl _
  | d + 1 => by
    have := gl_le p k d
    by_cases h : p (k + d) = true
    · rw [show k + (d + 1) = k + d + 1 from rfl, gl_yes h, List.length_append]; omega
    · rw [show k + (d + 1) = k + d + 1 from rfl, gl_no h]; exact this
theorem getD_lt {l : List Nat} {i : Nat} (h : i < l.length) (t : List Nat) : (l ++ t).getD i 0 = l.getD i 0 := by
  simp [List.getD, List.getElem?_append_left h]
theorem getD_at (l : List Nat) (x : Nat) : (l ++ [x]).getD l.length 0 = x := by
  simp [List.getD]
theorem gl_in (p : Nat → Bool) : ∀ k i, i < (gl p k).length → (gl p k).getD i 0 < k ∧ p ((gl p k).getD i 0) = true
  | 0, i, h => by simp [gl] at h
  | k + 1, i, h => by
    by_cases z : p k = true
    · rw [gl_yes z] at h ⊢
      rw [List.length_append] at h
      by_cases w : i < (gl p k).length
      · rw [getD_lt w]
        have := gl_in p k i w
        exact ⟨by omega, this.2⟩
      · have e : i = (gl p k).length := by simp at h; omega
        rw [e, getD_at]
        exact ⟨by omega, z⟩
    · rw [gl_no z] at h ⊢
      have := gl_in p k i h
      exact ⟨by omega, this.2⟩
theorem gl_inc (p : Nat → Bool) : ∀ k i j, i < j → j < (gl p k).length → (gl p k).getD i 0 < (gl p k).getD j 0
  | 0, i, j, _, h => by simp [gl] at h
  | k + 1, i, j, hij, h => by
    by_cases z : p k = true
    · rw [gl_yes z] at h ⊢
      rw [List.length_append] at h
      by_cases w : j < (gl p k).length
      · rw [getD_lt w, getD_lt (by omega)]
        exact gl_inc p k i j hij w
      · have e : j = (gl p k).length := by simp at h; omega
        rw [e, getD_at, getD_lt (by omega)]
        exact (gl_in p k i (by omega)).1
    · rw [gl_no z] at h ⊢
      exact gl_inc p k i j hij h
theorem gl_congr {p q : Nat → Bool} : ∀ k, (∀ i, i < k → p i = q i) → gl p k = gl q k
  | 0, _ => rfl
  | k + 1, h => by
    have ih := gl_congr k (fun i hi => h i (by omega))
    show (if p k = true then gl p k ++ [k] else gl p k) = (if q k = true then gl q k ++ [k] else gl q k)
    rw [ih, h k (by omega)]
def rL (row : Nat → Int) (l : List Nat) : Prop := ∀ i, i < l.length → row i = (l.getD i 0 : Int)
theorem rL_push {row : Nat → Int} {l : List Nat} (h : rL row l) (x : Nat) : rL (ab_u1 row l.length (x : Int)) (l ++ [x]) := fun i hi => by
  rw [List.length_append] at hi
  by_cases w : i < l.length
  · rw [getD_lt w, ab_u1_ne _ _ (by omega)]
    exact h i w
  · have e : i = l.length := by simp at hi; omega
    rw [e, getD_at, ab_u1_self]
section GathX
variable (L : Nat) (M : ab_Me)
theorem c_X1_gatherFields {n : Nat} (z : Int) (hn : n ≤ 120) (hF : M 34 0 = (n : Int)) : ct L 1 mX1_gatherFields [.inr 41, .inl z, .inr 34] M (fun r N => (∀ a, a ≠ 41 → a ≠ 42 → N a = M a) ∧ (∀ s, s ≠ 0 → N 41 s = M 41 s) ∧ ((r = some (.inl 0) ∧ 8 < (gl (fun f => decide (M 36 f = z)) n).length) ∨ (r = some (.inl 1) ∧ (gl (fun f => decide (M 36 f = z)) n).length ≤ 8 ∧ N 41 0 = ((gl (fun f => decide (M 36 f = z)) n).length : Int) ∧ rL (N 42) (gl (fun f => decide (M 36 f = z)) n)))) := by
  refine ct_of rfl ?_
  change wp _ _ _ 0 [some (.inr 41), some (.inl z), some (.inr 34), none] [] _ _
  refine wp_al0 iX1_gatherFields_0 ?_
  refine wp_ic iX1_gatherFields_1 (by decide) ?_
  refine wp_pI iX1_gatherFields_2 fp_1_9 rfl ?_
  refine wp_ic iX1_gatherFields_5 (by decide) ?_
  refine wp_is3 iX1_gatherFields_6 ?_
  have key : ∀ (j f : Nat) (N : ab_Me), n - f = j → f ≤ n → (∀ a, a ≠ 41 → a ≠ 42 → N a = M a) → (∀ s, s ≠ 0 → N 41 s = M 41 s) → (gl (fun f => decide (M 36 f = z)) f).length ≤ 8 → N 41 0 = ((gl (fun f => decide (M 36 f = z)) f).length : Int) → rL (N 42) (gl (fun f => decide (M 36 f = z)) f) → wp L 0 mX1_gatherFields 7 [some (.inr 41), some (.inl z), some (.inr 34), some (.inl (f : Int))] [] N (fun r N => (∀ a, a ≠ 41 → a ≠ 42 → N a = M a) ∧ (∀ s, s ≠ 0 → N 41 s = M 41 s) ∧ ((r = some (.inl 0) ∧ 8 < (gl (fun f => decide (M 36 f = z)) n).length) ∨ (r = some (.inl 1) ∧ (gl (fun f => decide (M 36 f = z)) n).length ≤ 8 ∧ N 41 0 = ((gl (fun f => decide (M 36 f = z)) n).length : Int) ∧ rL (N 42) (gl (fun f => decide (M 36 f = z)) n)))) := by
    intro j
    induction j using Nat.strongRecOn with
    | ind j ih =>
      intro f N hj hf h1 h2 h3 h4 h5
      have tf : ((f : Int)).toNat = f := by omega
      refine wp_il3 iX1_gatherFields_7 ?_
      refine wp_al2 iX1_gatherFields_8 ?_
      refine wp_gI iX1_gatherFields_9 fi_1_64 rfl ?_
      rw [h1 34 (by decide) (by decide), hF]
      refine wp_cge iX1_gatherFields_12 (fun c_12 => ?_) (fun c_12 => ?_)
      · have e : f = n := by omega
        subst e
        refine wp_ic iX1_gatherFields_62 (by decide) ?_
        refine wp_retb iX1_gatherFields_63 rfl (by decide) ?_
        exact ⟨h1, h2, Or.inr ⟨rfl, h3, h4, h5⟩⟩
      · refine wp_al2 iX1_gatherFields_15 ?_
        refine wp_gR iX1_gatherFields_16 fr_1_69 rfl rfl rfl ?_
        refine wp_il3 iX1_gatherFields_19 ?_
        refine wp_ia iX1_gatherFields_20 rfl (by omega) ?_
        rw [tf, h1 36 (by decide) (by decide)]
        refine wp_il1 iX1_gatherFields_21 ?_
        refine wp_cne iX1_gatherFields_22 (fun c_22 => ?_) (fun c_22 => ?_)
        · refine wp_ii3 iX1_gatherFields_56 (by omega) ?_
          refine wp_goto iX1_gatherFields_59 ?_
          rw [show (f : Int) + 1 = ((f + 1 : Nat) : Int) by omega]
          have e : gl (fun f => decide (M 36 f = z)) (f + 1) = gl (fun f => decide (M 36 f = z)) f := gl_no (by simpa using c_22)
          exact ih _ (by omega) (f + 1) N rfl (by omega) h1 h2 (by rw [e]; exact h3) (by rw [e]; exact h4) (by rw [e]; exact h5)
        · have e : gl (fun f => decide (M 36 f = z)) (f + 1) = gl (fun f => decide (M 36 f = z)) f ++ [f] := gl_yes (by simpa using c_22)
          refine wp_al0 iX1_gatherFields_25 ?_
          refine wp_gI iX1_gatherFields_26 fi_1_9 rfl ?_
          refine wp_bp iX1_gatherFields_29 (by decide) ?_
          rw [h4]
          refine wp_cne iX1_gatherFields_31 (fun c_31 => ?_) (fun c_31 => ?_)
          · refine wp_al0 iX1_gatherFields_36 ?_
            refine wp_gR iX1_gatherFields_37 fr_1_15 rfl rfl rfl ?_
            refine wp_al0 iX1_gatherFields_40 ?_
            refine wp_gI iX1_gatherFields_41 fi_1_9 rfl ?_
            rw [h4]
            refine wp_il3 iX1_gatherFields_44 ?_
            refine wp_is iX1_gatherFields_45 rfl rfl (by omega) ?_
            rw [show (((gl (fun f => decide (M 36 f = z)) f).length : Nat) : Int).toNat = (gl (fun f => decide (M 36 f = z)) f).length by omega]
            refine wp_al0 iX1_gatherFields_46 ?_
            refine wp_dup iX1_gatherFields_47 ?_
            refine wp_gI iX1_gatherFields_48 fi_1_9 rfl ?_
            rw [ab_up_ne _ _ _ (show (41 : Nat) ≠ 42 by decide), h4]
            refine wp_ic iX1_gatherFields_51 (by decide) ?_
            refine wp_add iX1_gatherFields_52 (by omega) ?_
            refine wp_pI iX1_gatherFields_53 fp_1_9 rfl ?_
            refine wp_ii3 iX1_gatherFields_56 (by omega) ?_
            refine wp_goto iX1_gatherFields_59 ?_
            rw [show (f : Int) + 1 = ((f + 1 : Nat) : Int) by omega]
            refine ih _ (by omega) (f + 1) _ rfl (by omega) (fun a ha hb => ?_) (fun s hs => ?_) ?_ ?_ ?_
            · rw [ab_up_ne _ _ _ ha, ab_up_ne _ _ _ hb]; exact h1 a ha hb
            · rw [ab_up_self, ab_u1_ne _ _ hs, ab_up_ne _ _ _ (by decide)]; exact h2 s hs
            · rw [e, List.length_append]; simp; omega
            · rw [e, List.length_append, ab_up_self, ab_u1_self]; simp
            · rw [e, ab_up_ne _ _ _ (by decide), ab_up_self]
              exact rL_push h5 f
          · refine wp_ic iX1_gatherFields_34 (by decide) ?_
            refine wp_retb iX1_gatherFields_35 rfl (by decide) ?_
            refine ⟨h1, h2, Or.inl ⟨rfl, ?_⟩⟩
            have := gl_le (fun f => decide (M 36 f = z)) (f + 1) (n - (f + 1))
            rw [show f + 1 + (n - (f + 1)) = n by omega, e, List.length_append] at this
            simp at this
            omega
  refine key _ 0 _ rfl (by omega) (fun a ha hb => ?_) (fun s hs => ?_) (by simp [gl]) ?_ (fun i hi => by simp [gl] at hi)
  · rw [ab_up_ne _ _ _ ha]
  · rw [ab_up_self, ab_u1_ne _ _ hs]
  · rw [ab_up_self, ab_u1_self]; simp [gl]
theorem c_X1_gatherLots {n : Nat} (z : Int) (hn : n ≤ 12) (hF : M 5 0 = (n : Int)) : ct L 1 mX1_gatherLots [.inr 41, .inl z, .inr 5] M (fun r N => (∀ a, a ≠ 41 → a ≠ 44 → N a = M a) ∧ (∀ s, s ≠ 3 → N 41 s = M 41 s) ∧ ((r = some (.inl 0) ∧ 4 < (gl (fun f => decide (M 6 f = z)) n).length) ∨ (r = some (.inl 1) ∧ (gl (fun f => decide (M 6 f = z)) n).length ≤ 4 ∧ N 41 3 = ((gl (fun f => decide (M 6 f = z)) n).length : Int) ∧ rL (N 44) (gl (fun f => decide (M 6 f = z)) n)))) := by
  refine ct_of rfl ?_
  change wp _ _ _ 0 [some (.inr 41), some (.inl z), some (.inr 5), none] [] _ _
  refine wp_al0 iX1_gatherLots_0 ?_
  refine wp_ic iX1_gatherLots_1 (by decide) ?_
  refine wp_pI iX1_gatherLots_2 fp_1_22 rfl ?_
  refine wp_ic iX1_gatherLots_5 (by decide) ?_
  refine wp_is3 iX1_gatherLots_6 ?_
  have key : ∀ (j f : Nat) (N : ab_Me), n - f = j → f ≤ n → (∀ a, a ≠ 41 → a ≠ 44 → N a = M a) → (∀ s, s ≠ 3 → N 41 s = M 41 s) → (gl (fun f => decide (M 6 f = z)) f).length ≤ 4 → N 41 3 = ((gl (fun f => decide (M 6 f = z)) f).length : Int) → rL (N 44) (gl (fun f => decide (M 6 f = z)) f) → wp L 0 mX1_gatherLots 7 [some (.inr 41), some (.inl z), some (.inr 5), some (.inl (f : Int))] [] N (fun r N => (∀ a, a ≠ 41 → a ≠ 44 → N a = M a) ∧ (∀ s, s ≠ 3 → N 41 s = M 41 s) ∧ ((r = some (.inl 0) ∧ 4 < (gl (fun f => decide (M 6 f = z)) n).length) ∨ (r = some (.inl 1) ∧ (gl (fun f => decide (M 6 f = z)) n).length ≤ 4 ∧ N 41 3 = ((gl (fun f => decide (M 6 f = z)) n).length : Int) ∧ rL (N 44) (gl (fun f => decide (M 6 f = z)) n)))) := by
    intro j
    induction j using Nat.strongRecOn with
    | ind j ih =>
      intro f N hj hf h1 h2 h3 h4 h5
      have tf : ((f : Int)).toNat = f := by omega
      refine wp_il3 iX1_gatherLots_7 ?_
      refine wp_al2 iX1_gatherLots_8 ?_
      refine wp_gI iX1_gatherLots_9 fi_1_72 rfl ?_
      rw [h1 5 (by decide) (by decide), hF]
      refine wp_cge iX1_gatherLots_12 (fun c_12 => ?_) (fun c_12 => ?_)
      · have e : f = n := by omega
        subst e
        refine wp_ic iX1_gatherLots_61 (by decide) ?_
        refine wp_retb iX1_gatherLots_62 rfl (by decide) ?_
        exact ⟨h1, h2, Or.inr ⟨rfl, h3, h4, h5⟩⟩
      · refine wp_al2 iX1_gatherLots_15 ?_
        refine wp_gR iX1_gatherLots_16 fr_1_73 rfl rfl rfl ?_
        refine wp_il3 iX1_gatherLots_19 ?_
        refine wp_ia iX1_gatherLots_20 rfl (by omega) ?_
        rw [tf, h1 6 (by decide) (by decide)]
        refine wp_il1 iX1_gatherLots_21 ?_
        refine wp_cne iX1_gatherLots_22 (fun c_22 => ?_) (fun c_22 => ?_)
        · refine wp_ii3 iX1_gatherLots_55 (by omega) ?_
          refine wp_goto iX1_gatherLots_58 ?_
          rw [show (f : Int) + 1 = ((f + 1 : Nat) : Int) by omega]
          have e : gl (fun f => decide (M 6 f = z)) (f + 1) = gl (fun f => decide (M 6 f = z)) f := gl_no (by simpa using c_22)
          exact ih _ (by omega) (f + 1) N rfl (by omega) h1 h2 (by rw [e]; exact h3) (by rw [e]; exact h4) (by rw [e]; exact h5)
        · have e : gl (fun f => decide (M 6 f = z)) (f + 1) = gl (fun f => decide (M 6 f = z)) f ++ [f] := gl_yes (by simpa using c_22)
          refine wp_al0 iX1_gatherLots_25 ?_
          refine wp_gI iX1_gatherLots_26 fi_1_22 rfl ?_
          refine wp_ic iX1_gatherLots_29 (by decide) ?_
          rw [h4]
          refine wp_cne iX1_gatherLots_30 (fun c_30 => ?_) (fun c_30 => ?_)
          · refine wp_al0 iX1_gatherLots_35 ?_
            refine wp_gR iX1_gatherLots_36 fr_1_25 rfl rfl rfl ?_
            refine wp_al0 iX1_gatherLots_39 ?_
            refine wp_gI iX1_gatherLots_40 fi_1_22 rfl ?_
            rw [h4]
            refine wp_il3 iX1_gatherLots_43 ?_
            refine wp_is iX1_gatherLots_44 rfl rfl (by omega) ?_
            rw [show (((gl (fun f => decide (M 6 f = z)) f).length : Nat) : Int).toNat = (gl (fun f => decide (M 6 f = z)) f).length by omega]
            refine wp_al0 iX1_gatherLots_45 ?_
            refine wp_dup iX1_gatherLots_46 ?_
            refine wp_gI iX1_gatherLots_47 fi_1_22 rfl ?_
            rw [ab_up_ne _ _ _ (show (41 : Nat) ≠ 44 by decide), h4]
            refine wp_ic iX1_gatherLots_50 (by decide) ?_
            refine wp_add iX1_gatherLots_51 (by omega) ?_
            refine wp_pI iX1_gatherLots_52 fp_1_22 rfl ?_
            refine wp_ii3 iX1_gatherLots_55 (by omega) ?_
            refine wp_goto iX1_gatherLots_58 ?_
            rw [show (f : Int) + 1 = ((f + 1 : Nat) : Int) by omega]
            refine ih _ (by omega) (f + 1) _ rfl (by omega) (fun a ha hb => ?_) (fun s hs => ?_) ?_ ?_ ?_
            · rw [ab_up_ne _ _ _ ha, ab_up_ne _ _ _ hb]; exact h1 a ha hb
            · rw [ab_up_self, ab_u1_ne _ _ hs, ab_up_ne _ _ _ (by decide)]; exact h2 s hs
            · rw [e, List.length_append]; simp; omega
            · rw [e, List.length_append, ab_up_self, ab_u1_self]; simp
            · rw [e, ab_up_ne _ _ _ (by decide), ab_up_self]
              exact rL_push h5 f
          · refine wp_ic iX1_gatherLots_33 (by decide) ?_
            refine wp_retb iX1_gatherLots_34 rfl (by decide) ?_
            refine ⟨h1, h2, Or.inl ⟨rfl, ?_⟩⟩
            have := gl_le (fun f => decide (M 6 f = z)) (f + 1) (n - (f + 1))
            rw [show f + 1 + (n - (f + 1)) = n by omega, e, List.length_append] at this
            simp at this
            omega
  refine key _ 0 _ rfl (by omega) (fun a ha hb => ?_) (fun s hs => ?_) (by simp [gl]) ?_ (fun i hi => by simp [gl] at hi)
  · rw [ab_up_ne _ _ _ ha]
  · rw [ab_up_self, ab_u1_ne _ _ hs]
  · rw [ab_up_self, ab_u1_self]; simp [gl]
end GathX
