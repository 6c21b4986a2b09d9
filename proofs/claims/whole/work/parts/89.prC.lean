/-! ===== CALLS: many, strip, days ===== -/
theorem sm_cut {f : Nat → Int} (n : Nat) : ∀ d, (∀ k, n ≤ k → k < n + d → f k = 0) → sm f (n + d) = sm f n
  | 0, _ => rfl
  | d + 1, h => by
    have ih := sm_cut n d (fun k a b => h k a (by omega)) (f := f)
    show sm f (n + d) + f (n + d) = sm f n
    rw [ih, h (n + d) (by omega) (by omega)]
    omega
theorem sm_blk (f : Nat → Int) : ∀ n, sm f (12 * n) = sm (fun p => sm (fun w => f (12 * p + w)) 12) n
  | 0 => rfl
  | n + 1 => by
    have ih := sm_blk f n
    rw [show 12 * (n + 1) = 12 * n + 12 by omega, sm_split]
    show _ = sm (fun p => sm (fun w => f (12 * p + w)) 12) n + sm (fun w => f (12 * n + w)) 12
    rw [ih]
theorem sm_grid (f : Nat → Int) (C R : Nat) (hC : C ≤ 12) (hR : R ≤ 10) (h0 : ∀ k, ¬ onB C R k → f k = 0) : sm f 120 = sm (fun w => sm (fun p => f (12 * p + w)) R) C := by
  rw [show (120 : Nat) = 12 * 10 from rfl, sm_blk f 10]
  have e1 : sm (fun p => sm (fun w => f (12 * p + w)) 12) 10 = sm (fun p => sm (fun w => f (12 * p + w)) 12) R := by
    have := sm_cut (f := fun p => sm (fun w => f (12 * p + w)) 12) R (10 - R) (fun p h1 h2 => by
      show sm (fun w => f (12 * p + w)) 12 = 0
      rw [sm_congr 12 (g := fun _ => 0) (fun w hw => h0 _ (fun q => by have := q.2; omega)), sm_zero])
    rw [show R + (10 - R) = 10 by omega] at this
    exact this
  rw [e1]
  have e2 : ∀ p, p < R → sm (fun w => f (12 * p + w)) 12 = sm (fun w => f (12 * p + w)) C := fun p hp => by
    have := sm_cut (f := fun w => f (12 * p + w)) C (12 - C) (fun w h1 h2 => h0 _ (fun q => by have := q.1; omega))
    rw [show C + (12 - C) = 12 by omega] at this
    exact this
  rw [sm_congr R e2]
  exact sm_comm (fun p w => f (12 * p + w)) C R
section PrC
variable {L : Nat} {M : ab_Me} {t : Int}
theorem part_sum (h : Inv t M) (h0 : 0 < M 11 0) (f : Nat → Int) : ∀ k : Nat, (k : Int) < M 11 0 → sm f ((M 13 k).toNat + (M 14 k).toNat) = sm (fun j => sm (fun i => f ((M 13 j).toNat + i)) (M 14 j).toNat) (k + 1)
  | 0, hk => by
    have hs := h.1.2.2.2.2 h0
    show _ = 0 + sm (fun i => f ((M 13 0).toNat + i)) (M 14 0).toNat
    rw [sm_split, hs.1]
    rfl
  | k + 1, hk => by
    have ih := part_sum h h0 f k (by omega)
    have hs := h.1.2.2.2.2 h0
    have b := h.1.2.2.2.1.2.2.2.2.1 k
    rw [sm_split]
    show _ = sm (fun j => sm (fun i => f ((M 13 j).toNat + i)) (M 14 j).toNat) (k + 1) + sm (fun i => f ((M 13 (k + 1)).toNat + i)) (M 14 (k + 1)).toNat
    rw [← ih, show (M 13 (k + 1)).toNat = (M 13 k).toNat + (M 14 k).toNat by rw [hs.2.1 k (by omega)]; omega]
theorem many_eq (h : Inv t M) (x : Int) : manyX M x = manyM M x := by
  obtain ⟨o1, ⟨o2, o3, o4, o5⟩, o6, o7⟩ := id h.2.2.2.2.1
  obtain ⟨m1, m2, m3, m4, m5, m6, m7⟩ := h.1.2.2.2.1
  obtain ⟨b1, b2, b3, b4, b5⟩ := h.hB
  unfold manyX manyM
  rw [← h.2.1.1, ← h.2.1.2.1, ← h.2.2.1.1, ← h.2.2.2.1.1, ← o1]
  have e6 : sm (fun k => cnt (fX4 M) (M 13 k) (M 14 k).toNat (M 15 k) (M 11 6).toNat) (M 11 0).toNat = (if 0 < M 11 0 then sm (fun p => sm (fun w => iwM M (w : Int) (p : Int)) (M 3 0).toNat) (M 3 1).toNat else 0) := by
    by_cases a : 0 < M 11 0
    · rw [if_pos a]
      have hs := h.1.2.2.2.2 a
      rw [hs.2.2.2.2.1]
      show sm (fun k => sm (fun p => sm (cnw (fX4 M) (M 13 k) (M 14 k).toNat (M 15 k) p) (M 14 k).toNat) (M 3 1).toNat) (M 11 0).toNat = _
      rw [sm_comm (fun k p => sm (cnw (fX4 M) (M 13 k) (M 14 k).toNat (M 15 k) p) (M 14 k).toNat) (M 3 1).toNat (M 11 0).toNat]
      refine sm_congr _ (fun p hp => ?_)
      have ps := part_sum h a (fun w => iwM M (w : Int) (p : Int)) ((M 11 0).toNat - 1) (by omega)
      have last := hs.2.2.2.1 ((M 11 0).toNat - 1) (by omega)
      have bl := m5 ((M 11 0).toNat - 1)
      rw [show (M 13 ((M 11 0).toNat - 1)).toNat + (M 14 ((M 11 0).toNat - 1)).toNat = (M 3 0).toNat by omega, show (M 11 0).toNat - 1 + 1 = (M 11 0).toNat by omega] at ps
      rw [ps]
      refine sm_congr _ (fun k hk => sm_congr _ (fun i hi => ?_))
      have bk := m5 k
      have st := st_at h a k (by omega) (((M 13 k).toNat + i : Nat) : Int) (by omega) (by omega)
      unfold cnw iwM
      rw [st.1, show ((k : Int)).toNat = k by omega, ← o3, ← o4, ← o5, h.fX4, show ((p : Int)).toNat = p by omega, show ((((M 13 k).toNat + i : Nat) : Int) + 1 - M 13 k).toNat = i + 1 by omega]
    · rw [if_neg a, show (M 11 0).toNat = 0 by omega]
      rfl
  have e7 : M 11 1 = (if M 11 0 = 0 then 0 else M 56 13) := by
    by_cases a : M 11 0 = 0
    · rw [if_pos a]; exact m3.2.2 a
    · rw [if_neg a]; exact o6 (by omega)
  have e8 : sm (fun w => sm (fcW M w) (M 3 1).toNat) (M 3 0).toNat = sm (M 58) 120 := by
    rw [sm_grid (M 58) (M 3 0).toNat (M 3 1).toNat (by omega) (by omega) (fun k hk => by rw [← h.fX4]; exact h.1.1.2 k hk)]
    refine sm_congr _ (fun w hw => sm_congr _ (fun p hp => ?_))
    show M 4 (12 * (p : Int) + (w : Int)).toNat / 8 = _
    rw [← h.fX4, show (12 * (p : Int) + (w : Int)).toNat = 12 * p + w by omega]
    rfl
  rw [e6, e7, e8]
theorem manyM_cg {N : ab_Me} (e : ∀ a, 55 < a → N a = M a) (x : Int) : manyM N x = manyM M x := by
  unfold manyM iwM stM
  rw [e 56 (by omega), e 58 (by omega), e 64 (by omega), e 65 (by omega), e 66 (by omega)]
theorem p_many (hz : Zm L M) (h : Inv t M) (x : Int) : pr L t 6 5 mX8_many mX9_many [.inl x] M := by
  obtain ⟨C, R, hC, hR, hC', hR', h12⟩ := h.dims
  have hok := h.1.2.2.2.1
  refine pr_sc (A := fun v => (x = 2 ∧ ∃ n xs fl, isF C R (M 57) n xs fl ∧ v = (n : Int)) ∨ (x ≠ 2 ∧ v = manyM M x)) hz h (ct_mono (c_X8_many L M h.hB h.hL1 (fun k _ => hok.2.2.2.2.1 k) hC hR x) (fun r N q => ?_)) (fun N hN e => ct_mono (c_X9_many L N hN.hM hN.hLM (fun q => hN.hPt (by rw [hN.2.2.2.2.1.1]; exact q)) (C := C) (R := R) (by rw [e 56 (by omega)]; exact hC') (by rw [e 56 (by omega)]; exact hR') x) (fun r N' q => ?_)) (fun v v' a a' => ?_)
  · rw [h.clX, many_eq h] at q
    rcases q with ⟨q1, q2, n, xs, fl, q3, q4⟩ | ⟨q1, q2, q3⟩
    · exact ⟨fdX_cl h q2, _, q4, Or.inl ⟨q1, n, xs, fl, q3, rfl⟩⟩
    · subst q2; exact ⟨cl_rf h, _, q3, Or.inr ⟨q1, rfl⟩⟩
  · rw [e 57 (by omega), manyM_cg e] at q
    rcases q with ⟨q1, q2, n, xs, fl, q3, q4⟩ | ⟨q1, q2, q3⟩
    · exact ⟨fdM_md q2, _, q4, Or.inl ⟨q1, n, xs, fl, q3, rfl⟩⟩
    · subst q2; exact ⟨md_rf, _, q3, Or.inr ⟨q1, rfl⟩⟩
  · rcases a with ⟨a1, n, xs, fl, a2, a3⟩ | ⟨a1, a2⟩
    · rcases a' with ⟨b1, n', xs', fl', b2, b3⟩ | ⟨b1, b2⟩
      · obtain ⟨u1, _, _⟩ := isF_uq a2 b2
        rw [a3, b3, u1]
      · exact absurd a1 b1
    · rcases a' with ⟨b1, _⟩ | ⟨b1, b2⟩
      · exact absurd b1 a1
      · rw [a2, b2]
theorem Inv.wh (h : Inv t M) (h0 : 0 < M 11 0) (k : Nat) (hk : (k : Int) < M 11 0) : whX M (k : Int) = whM M (k : Int) := by
  obtain ⟨C, R, hC, hR, hC', hR', h12⟩ := h.dims
  have hs := h.1.2.2.2.2 h0
  obtain ⟨o1, ⟨o2, o3, o4, o5⟩, o6, o7⟩ := id h.2.2.2.2.1
  exact wh_eq (R := R) (by rw [hs.2.2.2.2.1]; exact hR) hR' (by rw [o5]) (fun j hj => h.w16 h0 k j hk (by omega))
theorem mDawn_at (M : ab_Me) {k : Nat} (hk : (k : Int) < M 11 0) : mDawn M 17 k = whX M k := by
  unfold mDawn
  rw [ab_rw_self, if_pos hk]
theorem mWhl_at (M : ab_Me) {k : Nat} (hk : (k : Int) < M 56 12) : mWhl M 85 k = whM M k := by
  unfold mWhl
  rw [ab_rw_self, if_pos hk]
theorem Inv.dw (h : Inv t M) (h0 : 0 < M 11 0) {k : Nat} (hk : (k : Int) < M 11 0) : mDawn M 17 k = mWhl M 85 k := by
  rw [mDawn_at M hk, mWhl_at M (by rw [← h.2.2.2.2.1.1]; exact hk), h.wh h0 k hk]
theorem p_strip (hz : Zm L M) (h : Inv t M) (s what : Int) : pr L t 4 5 mX8_strip mX9_strip [.inl s, .inl what] M := by
  obtain ⟨o1, ⟨o2, o3, o4, o5⟩, o6⟩ := id h.2.2.2.2.1
  have hok := h.1.2.2.2.1
  have c1 := c_X8_strip L M h.hL1 s what
  by_cases a : 0 < M 11 0
  · by_cases b : 0 ≤ s ∧ s < M 11 0
    · have hs := h.1.2.2.2.2 a
      have e11 : (11 * s + M 11 6).toNat = 11 * s.toNat + (M 3 1).toNat := by rw [hs.2.2.2.2.1]; have := h.hB.2.2.1; omega
      have ew : M 16 (11 * s + M 11 6).toNat = wb (M 58) (M 64 s.toNat) (M 65 s.toNat).toNat (M 3 1).toNat := by
        rw [e11]
        exact h.w16 a s.toNat (M 3 1).toNat (by omega) (by have := h.hB.2.2.1; omega)
      have es : ((s.toNat : Nat) : Int) = s := by omega
      have ewh : whX M s = whM M s := by rw [← es]; exact h.wh a s.toNat (by omega)
      rw [if_pos a, if_pos b, ew, ewh] at c1
      by_cases w6 : what = 6
      · subst w6
        rw [if_pos (show 0 < M 11 0 ∧ (0 ≤ s ∧ s < M 11 0) ∧ (6 : Int) = 6 from ⟨a, b, rfl⟩), if_neg (by decide), if_neg (by decide), if_neg (by decide), if_neg (by decide), if_neg (by decide), if_neg (by decide), if_pos rfl] at c1
        have hMd : hM (mDawn M) := h.hM
        have hLd : hLM (mDawn M) := h.hLM
        have c2 := c_X9_strip L (mDawn M) hMd hLd s 6
        have em : ∀ k, mWhl (mDawn M) 85 k = mWhl M 85 k := fun k => rfl
        change cG L 5 mX9_strip [.inr 56, .inl s, .inl 6] _ (if M 56 12 = 0 then -3 else if (0 ≤ s ∧ s < M 56 12) ∧ 0 ≤ (6 : Int) ∧ (6 : Int) ≤ 6 then (if (6 : Int) = 0 then M 63 s.toNat else if (6 : Int) = 1 then M 64 s.toNat else if (6 : Int) = 2 then M 65 s.toNat else if (6 : Int) = 3 then M 66 s.toNat else if (6 : Int) = 4 then wb (M 58) (M 64 s.toNat) (M 65 s.toNat).toNat (M 56 1).toNat else if (6 : Int) = 5 then whM M s else (if M 66 s.toNat < wb (M 58) (M 64 s.toNat) (M 65 s.toNat).toNat (M 56 1).toNat ∧ ¬ ((0 < s ∧ M 56 11 ≤ mWhl M 85 s.toNat - mWhl M 85 (s - 1).toNat) ∨ (s < M 56 12 - 1 ∧ M 56 11 ≤ mWhl M 85 s.toNat - mWhl M 85 (s + 1).toNat)) then 1 else 0)) else -1) (if ¬ M 56 12 = 0 ∧ (0 ≤ s ∧ s < M 56 12) ∧ (6 : Int) = 6 then mWhl (mDawn M) else _) at c2
        rw [← o1, if_neg (by omega), if_pos (show (0 ≤ s ∧ s < M 11 0) ∧ 0 ≤ (6 : Int) ∧ (6 : Int) ≤ 6 from ⟨b, by decide, by decide⟩), if_neg (by decide), if_neg (by decide), if_neg (by decide), if_neg (by decide), if_neg (by decide), if_neg (by decide), if_pos (show ¬ M 11 0 = 0 ∧ (0 ≤ s ∧ s < M 11 0) ∧ (6 : Int) = 6 from ⟨by omega, b, rfl⟩), ← o5, ← h.2.1.2.1, ← h.2.2.2.2.2.1.2] at c2
        have d0 := h.dw a (k := s.toNat) (by omega)
        have iff' : ((0 < s ∧ M 1 4 ≤ mDawn M 17 s.toNat - mDawn M 17 (s - 1).toNat) ∨ (s < M 11 0 - 1 ∧ M 1 4 ≤ mDawn M 17 s.toNat - mDawn M 17 (s + 1).toNat)) ↔ ((0 < s ∧ M 1 4 ≤ mWhl M 85 s.toNat - mWhl M 85 (s - 1).toNat) ∨ (s < M 11 0 - 1 ∧ M 1 4 ≤ mWhl M 85 s.toNat - mWhl M 85 (s + 1).toNat)) := by
          have d1 : 0 < s → mDawn M 17 (s - 1).toNat = mWhl M 85 (s - 1).toNat := fun q => h.dw a (by omega)
          have d2 : s < M 11 0 - 1 → mDawn M 17 (s + 1).toNat = mWhl M 85 (s + 1).toNat := fun q => h.dw a (by omega)
          constructor
          · rintro (⟨q1, q2⟩ | ⟨q1, q2⟩)
            · have := d1 q1; left; omega
            · have := d2 q1; right; omega
          · rintro (⟨q1, q2⟩ | ⟨q1, q2⟩)
            · have := d1 q1; left; omega
            · have := d2 q1; right; omega
        refine pr_GG hz c1 c2 (by simp only [iff']) rfl rfl (fun _ => ?_)
        have l1 := hL1_dawn M h.hL1
        have l2 := hLM_whl (mDawn M) hMd hLd
        refine Inv_fr h (by omega) (fun k h1 h2 h3 => ?_) (fun j hj => rfl) (fun k h1 h2 => ?_) ⟨h.2.2.2.2.2.2.2.1, l1.2.2.2.2.2, l2.2.2.2.2.2⟩
        · unfold mWhl
          rw [ab_rw_ne _ _ (by omega)]
          unfold mDawn
          rw [ab_rw_ne _ _ h3]
        · unfold mWhl
          rw [ab_rw_ne _ _ (by omega)]
          unfold mDawn
          rw [ab_rw_ne _ _ (by omega)]
      · rw [if_neg (show ¬ (0 < M 11 0 ∧ (0 ≤ s ∧ s < M 11 0) ∧ what = 6) from fun q => w6 q.2.2)] at c1
        have c2 := c_X9_strip L M h.hM h.hLM s what
        rw [← o1, if_neg (show ¬ M 11 0 = 0 by omega), if_neg (show ¬ (¬ M 11 0 = 0 ∧ (0 ≤ s ∧ s < M 11 0) ∧ what = 6) from fun q => w6 q.2.2), ← h.2.1.2.1] at c2
        refine pr_FF hz h c1 c2 ?_
        rw [← o2, ← o3, ← o4, ← o5]
        by_cases w0 : what = 0
        · subst w0; rw [if_pos (show (0 ≤ s ∧ s < M 11 0) ∧ 0 ≤ (0 : Int) ∧ (0 : Int) ≤ 6 from ⟨b, by decide, by decide⟩)]; rfl
        · by_cases w1 : what = 1
          · subst w1; rw [if_pos (show (0 ≤ s ∧ s < M 11 0) ∧ 0 ≤ (1 : Int) ∧ (1 : Int) ≤ 6 from ⟨b, by decide, by decide⟩)]; rfl
          · by_cases w2 : what = 2
            · subst w2; rw [if_pos (show (0 ≤ s ∧ s < M 11 0) ∧ 0 ≤ (2 : Int) ∧ (2 : Int) ≤ 6 from ⟨b, by decide, by decide⟩)]; rfl
            · by_cases w3 : what = 3
              · subst w3; rw [if_pos (show (0 ≤ s ∧ s < M 11 0) ∧ 0 ≤ (3 : Int) ∧ (3 : Int) ≤ 6 from ⟨b, by decide, by decide⟩)]; rfl
              · by_cases w4 : what = 4
                · subst w4; rw [if_pos (show (0 ≤ s ∧ s < M 11 0) ∧ 0 ≤ (4 : Int) ∧ (4 : Int) ≤ 6 from ⟨b, by decide, by decide⟩)]; rfl
                · by_cases w5 : what = 5
                  · subst w5; rw [if_pos (show (0 ≤ s ∧ s < M 11 0) ∧ 0 ≤ (5 : Int) ∧ (5 : Int) ≤ 6 from ⟨b, by decide, by decide⟩)]; rfl
                  · rw [if_neg (show ¬ ((0 ≤ s ∧ s < M 11 0) ∧ 0 ≤ what ∧ what ≤ 6) by omega), if_neg w0, if_neg w1, if_neg w2, if_neg w3, if_neg w4, if_neg w5, if_neg w6]
    · rw [if_pos a, if_neg b, if_neg (fun q => b q.2.1)] at c1
      have c2 := c_X9_strip L M h.hM h.hLM s what
      rw [← o1, if_neg (by omega), if_neg (fun q => b q.1), if_neg (fun q => b q.2.1)] at c2
      exact p_same hz h c1 c2
  · rw [if_neg a, if_neg (fun q => a q.1)] at c1
    have c2 := c_X9_strip L M h.hM h.hLM s what
    have z0 : M 11 0 = 0 := by have := hok.1.1; omega
    rw [← o1, if_pos z0, if_neg (fun q => q.1 z0)] at c2
    exact p_same hz h c1 c2
end PrC
