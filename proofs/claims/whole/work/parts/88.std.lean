/-! ===== A LOOM THAT STANDS: its strips ===== -/
theorem rl_cg {u u' : Nat → Bool} : ∀ (n p : Nat), (∀ j, p ≤ j → j < p + n → u j = u' j) → rl u n p = rl u' n p
  | 0, _, _ => rfl
  | n + 1, p, h => by
    have ih := rl_cg n (p + 1) (fun j h1 h2 => h j (by omega) (by omega))
    show (if u p = true then rl u n (p + 1) + 1 else 0) = (if u' p = true then rl u' n (p + 1) + 1 else 0)
    rw [h p (by omega) (by omega), ih]
theorem rl_at {u : Nat → Bool} : ∀ (k n p : Nat), k ≤ n → (∀ j, p ≤ j → j < p + k → u j = true) → (k < n → u (p + k) = false) → rl u n p = (k : Int)
  | 0, 0, _, _, _, _ => rfl
  | 0, n + 1, p, _, _, h => by
    show (if u p = true then rl u n (p + 1) + 1 else 0) = _
    have := h (by omega)
    rw [Nat.add_zero] at this
    rw [this]
    rfl
  | k + 1, 0, _, h, _, _ => by omega
  | k + 1, n + 1, p, h1, h2, h3 => by
    have ih := rl_at k n (p + 1) (by omega) (fun j a b => h2 j (by omega) (by omega)) (fun a => by
      have := h3 (by omega)
      rw [show p + 1 + k = p + (k + 1) by omega]
      exact this) (u := u)
    show (if u p = true then rl u n (p + 1) + 1 else 0) = _
    rw [h2 p (by omega) (by omega), if_pos rfl, ih]
    omega
theorem few_cg {f g : Nat → Int} (a : Int) : ∀ n, (∀ k, k < n → f k = g k) → few f a n = few g a n
  | 0, _ => rfl
  | n + 1, h => by
    have ih := few_cg a n (fun k hk => h k (by omega)) (f := f) (g := g)
    show (if f n < few f a n then f n else few f a n) = (if g n < few g a n then g n else few g a n)
    rw [ih, h n (by omega)]
theorem wh_eq {A B : ab_Me} {s R : Nat} (hA : A 11 6 = (R : Int)) (hB : B 56 1 = (R : Int)) (h15 : A 15 s = B 66 s) (h16 : ∀ j, j ≤ R → A 16 (11 * s + j) = wb (B 58) (B 64 s) (B 65 s).toNat j) : whX A (s : Int) = whM B (s : Int) := by
  unfold whX whM
  rw [hA, hB]
  refine rl_cg _ 0 (fun j _ hj => ?_)
  unfold uWX uWM
  rw [show ((s : Int)).toNat = s by omega, show (11 * (s : Int) + (j : Int) + 1).toNat = 11 * s + (j + 1) by omega, h15, h16 (j + 1) (by omega)]
section StdS
variable {L : Nat} {M : ab_Me} {t : Int}
/-- the starts go up -/
theorem std_mono (hs : stdL M) (hb : ∀ k, 0 ≤ M 14 k) : ∀ (d j : Nat), (j : Int) + d + 1 < M 11 0 → M 13 j + M 14 j ≤ M 13 (j + d + 1)
  | 0, j, h => by
    have := hs.2.1 j (by omega)
    rw [Nat.add_zero]
    omega
  | d + 1, j, h => by
    have ih := std_mono hs hb d j (by omega)
    have := hs.2.1 (j + d + 1) (by omega)
    have := hb (j + d + 1)
    rw [show j + (d + 1) + 1 = j + d + 1 + 1 by omega]
    omega
theorem st_at (h : Inv t M) (h0 : 0 < M 11 0) (k : Nat) (hk : (k : Int) < M 11 0) (w : Int) (h1 : M 13 k ≤ w) (h2 : w < M 13 k + M 14 k) : stM M w = (k : Int) ∧ stX M w = (k : Int) := by
  obtain ⟨⟨_, _, _, ⟨m1, m2, m3, m4, m5, m6, m7⟩, j5⟩, _, _, _, ⟨o1, ⟨o2, o3, o4, o5⟩, _⟩, _⟩ := h
  have hs := j5 h0
  have hb : ∀ k, 0 ≤ M 14 k := fun k => (m5 k).2.1
  have lo : ∀ j, j < k → M 13 j + M 14 j ≤ w := fun j hj => by
    have := std_mono hs hb (k - j - 1) j (by omega)
    rw [show j + (k - j - 1) + 1 = k by omega] at this
    omega
  constructor
  · unfold stM
    rw [← o3, ← o4]
    refine rl_at k 4 0 (by omega) (fun j _ hj => ?_) (fun _ => ?_)
    · rw [decide_eq_true_eq]; exact lo j (by omega)
    · rw [Nat.zero_add, decide_eq_false_iff_not]; omega
  · unfold stX
    refine rl_at k _ 0 (by omega) (fun j _ hj => ?_) (fun q => ?_)
    · rw [decide_eq_true_eq, hs.2.1 j (by omega)]; exact lo j (by omega)
    · rw [Nat.zero_add, decide_eq_false_iff_not, hs.2.1 k (by omega)]; omega
/-- each warp lies in a strip -/
theorem st_ex (h : Inv t M) (h0 : 0 < M 11 0) (w : Int) (hw : 0 ≤ w ∧ w < M 3 0) : ∃ k : Nat, (k : Int) < M 11 0 ∧ M 13 k ≤ w ∧ w < M 13 k + M 14 k := by
  have hs := h.1.2.2.2.2 h0
  have key : ∀ n : Nat, (n : Int) < M 11 0 → w < M 13 n + M 14 n → ∃ k : Nat, (k : Int) < M 11 0 ∧ M 13 k ≤ w ∧ w < M 13 k + M 14 k := by
    intro n
    induction n with
    | zero =>
      intro h1 h2
      exact ⟨0, h1, by rw [hs.1]; exact hw.1, h2⟩
    | succ n ih =>
      intro h1 h2
      by_cases q : M 13 (n + 1) ≤ w
      · exact ⟨n + 1, h1, q, h2⟩
      · have := hs.2.1 n (by omega)
        exact ih (by omega) (by omega)
  have e := hs.2.2.2.1 ((M 11 0).toNat - 1) (by omega)
  exact key ((M 11 0).toNat - 1) (by omega) (by omega)
theorem Inv.hPt (h : Inv t M) (h0 : 0 < M 11 0) : hPt M := by
  intro w w0 w1
  have ok := h.1.2.2.2.1.1
  rw [← h.2.1.1] at w1
  obtain ⟨k, k1, k2, k3⟩ := st_ex h h0 w ⟨w0, w1⟩
  obtain ⟨o1, ⟨o2, o3, o4, o5⟩, _⟩ := h.2.2.2.2.1
  rw [(st_at h h0 k k1 w k2 k3).1, ← o3, ← o4]
  exact ⟨⟨k, by omega, k3⟩, by rw [show ((k : Int)).toNat = k by omega]; exact k2⟩
theorem Inv.w16 (h : Inv t M) (h0 : 0 < M 11 0) (k j : Nat) (hk : (k : Int) < M 11 0) (hj : (j : Int) ≤ M 3 1) : M 16 (11 * k + j) = wb (M 58) (M 64 k) (M 65 k).toNat j := by
  have hs := h.1.2.2.2.2 h0
  obtain ⟨o1, ⟨o2, o3, o4, o5⟩, _⟩ := h.2.2.2.2.1
  rw [hs.2.2.2.2.2.1 k j hk hj, h.fX4, o3, o4]
theorem p_woven (hz : Zm L M) (h : Inv t M) (w p : Int) : pr L t 5 4 mX8_woven mX9_woven [.inl w, .inl p] M := by
  obtain ⟨o1, ⟨o2, o3, o4, o5⟩, _⟩ := h.2.2.2.2.1
  have hok := h.1.2.2.2.1
  refine pr_FF hz h (c_X8_woven L M h.hB h.hL1 (fun q => (h.1.2.2.2.2 q).1) (fun k => (hok.2.2.2.2.1 k).1) w p) (c_X9_woven L M h.hM h.hLM (fun q => h.hPt (by have := hok.1.1; omega)) w p) ?_
  rw [← o1, ← h.2.1.1, ← h.2.1.2.1]
  by_cases a : 0 < M 11 0
  · rw [if_pos a, if_neg (by omega)]
    by_cases b : (0 ≤ w ∧ w < M 3 0) ∧ 0 ≤ p ∧ p < M 3 1
    · rw [if_pos b, if_pos b]
      obtain ⟨k, k1, k2, k3⟩ := st_ex h a w b.1
      obtain ⟨e1, e2⟩ := st_at h a k k1 w k2 k3
      unfold iwM
      rw [e1, e2, show ((k : Int)).toNat = k by omega, show (11 * (k : Int) + p).toNat = 11 * k + p.toNat by omega, h.w16 a k p.toNat k1 (by omega), h.fX4, o3, o5]
    · rw [if_neg b, if_neg b]
  · rw [if_neg a, if_pos (by have := hok.1.1; omega)]
theorem p_unweave (hz : Zm L M) (h : Inv t M) (s p : Int) : pr L t 2 3 mX8_unweave mX9_unweave [.inl s, .inl p] M := by
  obtain ⟨o1, ⟨o2, o3, o4, o5⟩, o6⟩ := id h.2.2.2.2.1
  have hok := h.1.2.2.2.1
  have c1 := c_X8_unweave L M h.hB h.hL1 s p
  by_cases a : 0 < M 11 0
  · by_cases b : (0 ≤ s ∧ s < M 11 0) ∧ 0 ≤ p ∧ p < M 3 1
    · have ew : M 16 (11 * s + p).toNat = wb (M 58) (M 64 s.toNat) (M 65 s.toNat).toNat p.toNat := by
        rw [show (11 * s + p).toNat = 11 * s.toNat + p.toNat by omega]
        exact h.w16 a s.toNat p.toNat (by omega) (by omega)
      rw [if_pos a, if_pos b, if_pos (show 0 < M 11 0 ∧ (0 ≤ s ∧ s < M 11 0) ∧ 0 ≤ p ∧ p < M 3 1 from ⟨a, b⟩), ew] at c1
      generalize hw : wb (M 58) (M 64 s.toNat) (M 65 s.toNat).toNat p.toNat = wv at c1 ew
      generalize hd : (if wv < M 15 s.toNat then wv else M 15 s.toNat) = dv' at c1
      have hdb : 0 ≤ dv' ∧ dv' ≤ M 15 s.toNat := by
        have w0 : 0 ≤ wv := by rw [← ew]; exact (hok.2.2.2.2.2.2 _).1
        have d0 := hok.2.2.2.2.2.1 s.toNat
        rw [← hd]; split <;> omega
      have c2 := c_X9_unweave L (ab_up M 15 s.toNat dv') h.hM h.hLM s p
      change cG L 3 mX9_unweave [.inr 56, .inl s, .inl p] _ (if M 56 12 = 0 then -3 else if (0 ≤ s ∧ s < M 56 12) ∧ 0 ≤ p ∧ p < M 56 1 then (if wb (M 58) (M 64 s.toNat) (M 65 s.toNat).toNat p.toNat < M 66 s.toNat then M 66 s.toNat - wb (M 58) (M 64 s.toNat) (M 65 s.toNat).toNat p.toNat else 0) else -1) (if ¬ M 56 12 = 0 ∧ (0 ≤ s ∧ s < M 56 12) ∧ 0 ≤ p ∧ p < M 56 1 then ab_up (ab_up M 15 s.toNat dv') 66 s.toNat (if wb (M 58) (M 64 s.toNat) (M 65 s.toNat).toNat p.toNat < M 66 s.toNat then wb (M 58) (M 64 s.toNat) (M 65 s.toNat).toNat p.toNat else M 66 s.toNat) else _) at c2
      rw [← o1, ← h.2.1.2.1, if_neg (by omega), if_pos b, if_pos (show ¬ M 11 0 = 0 ∧ (0 ≤ s ∧ s < M 11 0) ∧ 0 ≤ p ∧ p < M 3 1 from ⟨by omega, b⟩), hw, ← o5, hd] at c2
      refine pr_GG hz c1 c2 rfl rfl rfl (fun _ => ?_)
      obtain ⟨⟨j1, j2, j3, ⟨m1, m2, m3, m4, m5, m6, m7⟩, j5⟩, i2, i3, i4, i5, i6, i7, i8⟩ := h
      have hs := j5 a
      have le : ∀ k, 0 ≤ ab_u1 (M 15) s.toNat dv' k ∧ ab_u1 (M 15) s.toNat dv' k ≤ M 15 k := fun k => by
        by_cases e : k = s.toNat
        · rw [e, ab_u1_self]; exact hdb
        · rw [ab_u1_ne _ _ e]; have := m6 k; omega
      refine ⟨⟨okB_cg j1 rfl rfl, okL_cg j2 rfl rfl, okW_cg j3 rfl rfl rfl, ⟨m1, m2, ⟨m3.1, ?_, m3.2.2⟩, m4, m5, fun k => ?_, m7⟩, fun _ => ⟨hs.1, hs.2.1, hs.2.2.1, hs.2.2.2.1, hs.2.2.2.2.1, hs.2.2.2.2.2.1, fun k hk => ?_⟩⟩, eqB_cg i2 rfl rfl rfl rfl rfl rfl, eqL_cg i3 rfl rfl rfl rfl rfl rfl, eqW_cg i4 rfl rfl rfl rfl rfl rfl, ⟨o1, ⟨o2, o3, o4, ?_⟩, o6.1, o6.2.1, by show M 56 13 ≤ _; omega⟩, i6, kep_cg i7 (by omega) rfl rfl (fun k h1 h2 => by rw [ab_up_ne _ _ _ (by omega), ab_up_ne _ _ _ (by omega)]) (fun k h1 h2 => by rw [ab_up_ne _ _ _ (by omega), ab_up_ne _ _ _ (by omega)]), i8⟩
      · show M 11 1 ≤ _; omega
      · have := le k
        have := m6 k
        show 0 ≤ ab_u1 (M 15) s.toNat dv' k ∧ ab_u1 (M 15) s.toNat dv' k ≤ 1000
        omega
      · have := le k
        have := hs.2.2.2.2.2.2 k hk
        show ab_u1 (M 15) s.toNat dv' k ≤ wb (fX4 M) (M 13 k) (M 14 k).toNat (M 3 1).toNat
        omega
      · show ab_u1 (M 15) s.toNat dv' = ab_u1 (M 66) s.toNat dv'
        rw [o5]
    · rw [if_pos a, if_neg b, if_neg (fun q => b q.2)] at c1
      have c2 := c_X9_unweave L M h.hM h.hLM s p
      rw [← o1, ← h.2.1.2.1, if_neg (by omega), if_neg b, if_neg (fun q => b q.2)] at c2
      exact p_same hz h c1 c2
  · rw [if_neg a, if_neg (fun q => a q.1)] at c1
    have c2 := c_X9_unweave L M h.hM h.hLM s p
    rw [← o1, if_pos (by have := hok.1.1; omega), if_neg (fun q => by have := q.1; have := hok.1.1; omega)] at c2
    exact p_same hz h c1 c2
end StdS
