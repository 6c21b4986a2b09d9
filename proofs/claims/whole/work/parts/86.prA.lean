/-! ===== CALLS: cartoon, loom, slits, slit, rule, size, face, paint ===== -/
section PrA
variable {L : Nat} {t : Int} {M : ab_Me}
theorem p_cartoon (hz : Zm L M) (h : Inv t M) (x y : Int) : pr L t 3 3 mX8_cartoon mX9_cartoon [.inl x, .inl y] M := by
  refine pr_FF hz h (c_X8_cartoon L M h.hB x y) (c_X9_cartoon L M h.hM x y) ?_
  rw [← h.2.1.1, ← h.2.1.2.1, h.2.1.2.2.1]
theorem p_loom (hz : Zm L M) (h : Inv t M) (x y : Int) : pr L t 3 3 mX8_loom mX9_loom [.inl x, .inl y] M := by
  refine pr_FF hz h (c_X8_loom L M h.hB x y) (c_X9_loom L M h.hM x y) ?_
  rw [← h.2.1.1, ← h.2.1.2.1, h.2.1.2.2.1]
theorem p_slits (hz : Zm L M) (h : Inv t M) (x : Int) : pr L t 4 3 mX8_slits mX9_slits [.inl x] M := by
  refine pr_FF hz h (c_X8_slits L M h.hB x) (c_X9_slits L M h.hM x) ?_
  rw [← h.2.1.1, ← h.2.1.2.1, h.cX, h.2.2.2.2.2.1.1]
theorem p_slit (hz : Zm L M) (h : Inv t M) (x y : Int) : pr L t 5 3 mX8_slit mX9_slit [.inl x, .inl y] M := by
  refine pr_FF hz h (c_X8_slit L M h.hB x y) (c_X9_slit L M h.hM x y) ?_
  rw [← h.2.1.1, ← h.2.1.2.1, h.cX]
theorem p_same {v : Int} {d1 d2 : Nat} {mx mm : ab_M} {as : List ab_V} (hz : Zm L M) (hI : Inv t M) (h1 : cG L d1 mx (.inr 1 :: as) M v M) (h2 : cG L d2 mm (.inr 56 :: as) M v M) : pr L t d1 d2 mx mm as M := pr_FF hz hI h1 h2 rfl
theorem p_rule (hz : Zm L M) (h : Inv t M) (x y : Int) : pr L t 2 2 mX8_rule mX9_rule [.inl x, .inl y] M := by
  obtain ⟨r1, r2⟩ := h.2.2.2.2.2.1
  have c1 := c_X8_rule L M x y
  by_cases a : x = 0 ∧ 0 ≤ y ∧ y ≤ 10
  · rw [if_pos a, if_pos a] at c1
    have c2 := c_X9_rule L (ab_up M 1 3 y) x y
    rw [if_pos a, if_pos a] at c2
    refine pr_GG hz c1 c2 r1.symm rfl rfl (fun _ => ?_)
    obtain ⟨i1, i2, i3, i4, i5, i6, i7, i8⟩ := h
    exact ⟨okS_t (okS_cg i1 (fun k h1 h2 => by rw [ab_up_ne _ _ _ (by omega), ab_up_ne _ _ _ (by omega)])) (by omega), i2, i3, i4, eqO_t (eqO_cg i5 rfl rfl rfl rfl rfl rfl rfl rfl rfl rfl rfl) (by omega), ⟨rfl, r2⟩, kep_cg i7 (by omega) rfl rfl (fun k h1 h2 => by rw [ab_up_ne _ _ _ (by omega), ab_up_ne _ _ _ (by omega)]) (fun k h1 h2 => by rw [ab_up_ne _ _ _ (by omega), ab_up_ne _ _ _ (by omega)]), i8⟩
  · rw [if_neg a, if_neg a] at c1
    by_cases b : x = 1 ∧ 1 ≤ y ∧ y ≤ 10
    · rw [if_pos b, if_pos b] at c1
      have c2 := c_X9_rule L (ab_up M 1 4 y) x y
      rw [if_neg a, if_neg a, if_pos b, if_pos b] at c2
      refine pr_GG hz c1 c2 r2.symm rfl rfl (fun _ => ?_)
      obtain ⟨i1, i2, i3, i4, i5, i6, i7, i8⟩ := h
      exact ⟨okS_t (okS_cg i1 (fun k h1 h2 => by rw [ab_up_ne _ _ _ (by omega), ab_up_ne _ _ _ (by omega)])) (by omega), i2, i3, i4, eqO_t (eqO_cg i5 rfl rfl rfl rfl rfl rfl rfl rfl rfl rfl rfl) (by omega), ⟨r1, rfl⟩, kep_cg i7 (by omega) rfl rfl (fun k h1 h2 => by rw [ab_up_ne _ _ _ (by omega), ab_up_ne _ _ _ (by omega)]) (fun k h1 h2 => by rw [ab_up_ne _ _ _ (by omega), ab_up_ne _ _ _ (by omega)]), i8⟩
    · rw [if_neg b, if_neg b] at c1
      have c2 := c_X9_rule L M x y
      rw [if_neg a, if_neg a, if_neg b, if_neg b] at c2
      exact p_same hz h c1 c2
/-- the loom is taken down on both sides; the board is new -/
theorem Inv_down {N : ab_Me} (h : Inv t M) (hX : ∀ a, 1 ≤ a → a ≤ 32 → a ≠ 3 → a ≠ 4 → a ≠ 11 → N a = M a) (h11 : N 11 0 = 0 ∧ N 11 1 = 0 ∧ N 11 6 = M 11 6) (h56 : ∀ j, 2 ≤ j → j ≤ 18 → j ≠ 12 → N 56 j = M 56 j) (h12 : N 56 12 = 0) (hm : ∀ a, 59 ≤ a → a ≤ 71 → N a = M a) (hs : N 52 = M 52 ∧ N 53 = M 53 ∧ N 85 = M 85) (hb : okB N) (hq : eqB N) : Inv (t + 1) N := by
  obtain ⟨⟨j1, j2, j3, j4, j5⟩, i2, i3, i4, i5, i6, i7, i8⟩ := h
  have x : ∀ a, 1 ≤ a → a ≤ 32 → a ≠ 3 → a ≠ 4 → a ≠ 11 → N a = M a := hX
  obtain ⟨m1, m2, m3, m4, m5, m6, m7⟩ := j4
  obtain ⟨o1, ⟨o2, o3, o4, o5⟩, o6, o7, o8⟩ := i5
  refine ⟨⟨hb, okL_cg j2 (x 5 (by omega) (by omega) (by omega) (by omega) (by omega)) (x 7 (by omega) (by omega) (by omega) (by omega) (by omega)), okW_cg j3 (x 8 (by omega) (by omega) (by omega) (by omega) (by omega)) (x 9 (by omega) (by omega) (by omega) (by omega) (by omega)) (x 10 (by omega) (by omega) (by omega) (by omega) (by omega)), ?_, fun q => by omega⟩, hq, eqL_cg i3 (x 5 (by omega) (by omega) (by omega) (by omega) (by omega)) (x 6 (by omega) (by omega) (by omega) (by omega) (by omega)) (x 7 (by omega) (by omega) (by omega) (by omega) (by omega)) (h56 4 (by omega) (by omega) (by omega)) (hm 59 (by omega) (by omega)) (hm 60 (by omega) (by omega)), eqW_cg i4 (x 8 (by omega) (by omega) (by omega) (by omega) (by omega)) (x 9 (by omega) (by omega) (by omega) (by omega) (by omega)) (x 10 (by omega) (by omega) (by omega) (by omega) (by omega)) (h56 7 (by omega) (by omega) (by omega)) (hm 61 (by omega) (by omega)) (hm 62 (by omega) (by omega)), ?_, ?_, kep_cg i7 (by omega) (by rw [x 1 (by omega) (by omega) (by omega) (by omega) (by omega)]) (h56 18 (by omega) (by omega) (by omega)) (fun a h1 h2 => x a (by omega) (by omega) (by omega) (by omega) (by omega)) (fun a h1 h2 => hm a (by omega) (by omega)), ?_⟩
  · unfold okM
    rw [h11.1, h11.2.1, h11.2.2, x 12 (by omega) (by omega) (by omega) (by omega) (by omega), x 13 (by omega) (by omega) (by omega) (by omega) (by omega), x 14 (by omega) (by omega) (by omega) (by omega) (by omega), x 15 (by omega) (by omega) (by omega) (by omega) (by omega), x 16 (by omega) (by omega) (by omega) (by omega) (by omega)]
    exact ⟨by omega, m2, by omega, m4, m5, m6, m7⟩
  · unfold eqO
    rw [h11.1, h12, x 12 (by omega) (by omega) (by omega) (by omega) (by omega), x 13 (by omega) (by omega) (by omega) (by omega) (by omega), x 14 (by omega) (by omega) (by omega) (by omega) (by omega), x 15 (by omega) (by omega) (by omega) (by omega) (by omega), hm 63 (by omega) (by omega), hm 64 (by omega) (by omega), hm 65 (by omega) (by omega), hm 66 (by omega) (by omega), h56 13 (by omega) (by omega) (by omega)]
    exact ⟨rfl, ⟨o2, o3, o4, o5⟩, fun q => by omega, o7, by omega⟩
  · unfold eqR
    rw [x 1 (by omega) (by omega) (by omega) (by omega) (by omega), h56 10 (by omega) (by omega) (by omega), h56 11 (by omega) (by omega) (by omega)]
    exact i6
  · unfold scr
    rw [hs.1, hs.2.1, hs.2.2, x 17 (by omega) (by omega) (by omega) (by omega) (by omega)]
    exact i8
theorem p_size (hz : Zm L M) (h : Inv t M) (x y : Int) : pr L t 3 2 mX8_size mX9_size [.inl x, .inl y] M := by
  have c1 := c_X8_size L M x y
  by_cases a : (1 ≤ x ∧ x ≤ 12) ∧ 1 ≤ y ∧ y ≤ 10
  · rw [if_pos a, if_pos a] at c1
    have c2 := c_X9_size L (mDn (mRen M x y)) x y
    rw [if_pos a, if_pos a] at c2
    refine pr_GG hz c1 c2 rfl rfl rfl (fun z => ?_)
    have z4 := fun k hk => z.z 4 rfl (k := k) hk
    have z57 := fun k hk => z.z 57 rfl (k := k) hk
    have z58 := fun k hk => z.z 58 rfl (k := k) hk
    generalize hN : ab_up (ab_rw (ab_rw (ab_up (ab_up (mDn (mRen M x y)) 56 0 x) 56 1 y) 57 (fun k => if (k : Int) < 120 then 0 else mDn (mRen M x y) 57 k)) 58 (fun k => if (k : Int) < 120 then 0 else mDn (mRen M x y) 58 k)) 56 12 0 = N at z4 z57 z58
    have e3 : N 3 0 = x := by rw [← hN]; rfl
    have e31 : N 3 1 = y := by rw [← hN]; rfl
    have e4 : ∀ k, N 4 k = 0 := fun k => by
      by_cases q : k < 120
      · rw [← hN, ab_up_ne _ _ _ (show (4 : Nat) ≠ 56 by decide), ab_rw_ne _ _ (show (4 : Nat) ≠ 58 by decide), ab_rw_ne _ _ (show (4 : Nat) ≠ 57 by decide), ab_up_ne _ _ _ (show (4 : Nat) ≠ 56 by decide), ab_up_ne _ _ _ (show (4 : Nat) ≠ 56 by decide)]
        unfold mDn mRen
        rw [ab_up_ne _ _ _ (show (4 : Nat) ≠ 11 by decide), ab_up_ne _ _ _ (show (4 : Nat) ≠ 11 by decide), ab_rw_self]
        exact if_pos (by omega)
      · exact z4 k (by omega)
    have e57 : ∀ k, N 57 k = 0 := fun k => by
      by_cases q : k < 120
      · rw [← hN, ab_up_ne _ _ _ (show (57 : Nat) ≠ 56 by decide), ab_rw_ne _ _ (show (57 : Nat) ≠ 58 by decide), ab_rw_self]
        exact if_pos (by omega)
      · exact z57 k (by omega)
    have e58 : ∀ k, N 58 k = 0 := fun k => by
      by_cases q : k < 120
      · rw [← hN, ab_up_ne _ _ _ (show (58 : Nat) ≠ 56 by decide), ab_rw_self]
        exact if_pos (by omega)
      · exact z58 k (by omega)
    have e56 : N 56 0 = x ∧ N 56 1 = y := by rw [← hN]; exact ⟨rfl, rfl⟩
    refine Inv_down h (fun k k1 k2 k3 k4 k5 => ?_) (by rw [← hN]; exact ⟨rfl, rfl, rfl⟩) (fun j j1 j2 j3 => ?_) (by rw [← hN]; rfl) (fun k k1 k2 => ?_) (by rw [← hN]; exact ⟨rfl, rfl, rfl⟩) ⟨⟨by omega, by omega, by omega, by omega, fun k => by rw [e4 k]; omega⟩, fun k _ => by rw [e4 k]; rfl⟩ ⟨by omega, by omega, fun k => by rw [e4 k, e57 k, e58 k]; rfl, fun k => by rw [e57 k]; omega, fun k => Or.inl (e58 k)⟩
    · rw [← hN, ab_up_ne _ _ _ (by omega), ab_rw_ne _ _ (by omega), ab_rw_ne _ _ (by omega), ab_up_ne _ _ _ (by omega), ab_up_ne _ _ _ (by omega)]
      show ab_up (ab_up (mRen M x y) 11 0 0) 11 1 0 k = M k
      rw [ab_up_ne _ _ _ (by omega), ab_up_ne _ _ _ (by omega)]
      show ab_rw (ab_up (ab_up M 3 0 x) 3 1 y) 4 _ k = M k
      rw [ab_rw_ne _ _ (by omega), ab_up_ne _ _ _ (by omega), ab_up_ne _ _ _ (by omega)]
    · rw [← hN, ab_up_self, ab_u1_ne _ _ (by omega), ab_rw_ne _ _ (by omega), ab_rw_ne _ _ (by omega), ab_up_self, ab_u1_ne _ _ (by omega), ab_up_self, ab_u1_ne _ _ (by omega)]
      rfl
    · rw [← hN, ab_up_ne _ _ _ (by omega), ab_rw_ne _ _ (by omega), ab_rw_ne _ _ (by omega), ab_up_ne _ _ _ (by omega), ab_up_ne _ _ _ (by omega)]
      show ab_up (ab_up (mRen M x y) 11 0 0) 11 1 0 k = M k
      rw [ab_up_ne _ _ _ (by omega), ab_up_ne _ _ _ (by omega)]
      show ab_rw (ab_up (ab_up M 3 0 x) 3 1 y) 4 _ k = M k
      rw [ab_rw_ne _ _ (by omega), ab_up_ne _ _ _ (by omega), ab_up_ne _ _ _ (by omega)]
  · rw [if_neg a, if_neg a] at c1
    have c2 := c_X9_size L M x y
    rw [if_neg a, if_neg a] at c2
    exact p_same hz h c1 c2
theorem on_at {C R : Nat} {x y : Int} (hC : C ≤ 12) (hx : 0 ≤ x ∧ x < C) (hy : 0 ≤ y ∧ y < R) : onB C R (12 * y + (C - 1 - x)).toNat := ⟨by omega, by omega⟩
theorem p_face (hz : Zm L M) (h : Inv t M) (x y z : Int) (hzz : z = 0 ∨ z = 1) : pr L t 3 3 mX8_face mX9_face [.inl x, .inl y, .inl z] M := by
  obtain ⟨b1, b2, b3, b4, b5⟩ := h.hB
  have q := h.2.1
  obtain ⟨q1, q2, q3, q4, q5⟩ := q
  have c1 := c_X8_face L M h.hB x y z hzz
  by_cases a : (0 ≤ x ∧ x < M 3 0) ∧ 0 ≤ y ∧ y < M 3 1
  · rw [if_pos a, if_pos a] at c1
    generalize hk0 : (12 * y + (M 3 0 - 1 - x)).toNat = k0 at c1
    have hon : onB (M 3 0).toNat (M 3 1).toNat k0 := ⟨by omega, by omega⟩
    have hv := b5 k0
    have hq := q3 k0
    have h57 := q4 k0
    by_cases b : M 4 k0 / 8 = z
    · rw [if_pos b, if_pos b] at c1
      have c2 := c_X9_face L M h.hM x y z hzz
      rw [← q1, ← q2, if_pos a, if_pos a, hk0, if_pos (by omega), if_pos (by omega)] at c2
      exact p_same hz h c1 c2
    · rw [if_neg b, if_neg b] at c1
      have hMd : hM (mDn (ab_up M 4 k0 (M 4 k0 % 8 + 8 * (1 - M 4 k0 / 8)))) := h.hM
      have c2 := c_X9_face L (mDn (ab_up M 4 k0 (M 4 k0 % 8 + 8 * (1 - M 4 k0 / 8)))) hMd x y z hzz
      change cG L 3 mX9_face [.inr 56, .inl x, .inl y, .inl z] _ (if (0 ≤ x ∧ x < M 56 0) ∧ 0 ≤ y ∧ y < M 56 1 then (if M 58 (12 * y + (M 56 0 - 1 - x)).toNat = z then 0 else 1) else -1) (if (0 ≤ x ∧ x < M 56 0) ∧ 0 ≤ y ∧ y < M 56 1 then (if M 58 (12 * y + (M 56 0 - 1 - x)).toNat = z then _ else ab_up (ab_up (mDn (ab_up M 4 k0 (M 4 k0 % 8 + 8 * (1 - M 4 k0 / 8)))) 58 (12 * y + (M 56 0 - 1 - x)).toNat z) 56 12 0) else _) at c2
      rw [← q1, ← q2, if_pos a, if_pos a, hk0, if_neg (by omega), if_neg (by omega)] at c2
      refine pr_GG hz c1 c2 rfl rfl rfl (fun _ => ?_)
      have e4 : ∀ k, k ≠ k0 → ab_u1 (M 4) k0 (M 4 k0 % 8 + 8 * (1 - M 4 k0 / 8)) k = M 4 k := fun k hk => ab_u1_ne _ _ hk
      have e58 : ∀ k, k ≠ k0 → ab_u1 (M 58) k0 z k = M 58 k := fun k hk => ab_u1_ne _ _ hk
      have f4 : ab_u1 (M 4) k0 (M 4 k0 % 8 + 8 * (1 - M 4 k0 / 8)) k0 = M 4 k0 % 8 + 8 * (1 - M 4 k0 / 8) := ab_u1_self _ _ _
      have f58 : ab_u1 (M 58) k0 z k0 = z := ab_u1_self _ _ _
      refine Inv_down h (fun k k1 k2 k3 k4 k5 => ?_) ⟨rfl, rfl, rfl⟩ (fun j j1 j2 j3 => ?_) rfl (fun k k1 k2 => ?_) ⟨rfl, rfl, rfl⟩ ⟨⟨b1, b2, b3, b4, fun k => ?_⟩, fun k hk => ?_⟩ ⟨q1, q2, fun k => ?_, q4, fun k => ?_⟩
      · rw [ab_up_ne _ _ _ (by omega), ab_up_ne _ _ _ (by omega)]
        show ab_up (ab_up (ab_up M 4 k0 _) 11 0 0) 11 1 0 k = M k
        rw [ab_up_ne _ _ _ (by omega), ab_up_ne _ _ _ (by omega), ab_up_ne _ _ _ (by omega)]
      · rw [ab_up_self, ab_u1_ne _ _ (by omega)]
        rfl
      · rw [ab_up_ne _ _ _ (by omega), ab_up_ne _ _ _ (by omega)]
        show ab_up (ab_up (ab_up M 4 k0 _) 11 0 0) 11 1 0 k = M k
        rw [ab_up_ne _ _ _ (by omega), ab_up_ne _ _ _ (by omega), ab_up_ne _ _ _ (by omega)]
      · show 0 ≤ ab_u1 (M 4) k0 _ k ∧ ab_u1 (M 4) k0 _ k < 16
        by_cases e : k = k0
        · rw [e, f4]; omega
        · rw [e4 k e]; exact b5 k
      · show ab_u1 (M 4) k0 _ k / 8 = 0
        have hk : ¬ onB (M 3 0).toNat (M 3 1).toNat k := hk
        have e : k ≠ k0 := fun e => hk (by rw [e]; exact hon)
        rw [e4 k e]
        exact h.1.1.2 k hk
      · show ab_u1 (M 4) k0 _ k = M 57 k + 8 * ab_u1 (M 58) k0 z k
        by_cases e : k = k0
        · rw [e, f4, f58]; omega
        · rw [e4 k e, e58 k e]; exact q3 k
      · show ab_u1 (M 58) k0 z k = 0 ∨ ab_u1 (M 58) k0 z k = 1
        by_cases e : k = k0
        · rw [e, f58]; exact hzz
        · rw [e58 k e]; exact q5 k
  · rw [if_neg a, if_neg a] at c1
    have c2 := c_X9_face L M h.hM x y z hzz
    rw [← q1, ← q2, if_neg a, if_neg a] at c2
    exact p_same hz h c1 c2
theorem p_paint (hz : Zm L M) (h : Inv t M) (c r w hh x : Int) (hc : c < 2147483648) (hr : r < 2147483648) : pr L t 3 3 mX8_paint mX9_paint [.inl c, .inl r, .inl w, .inl hh, .inl x] M := by
  obtain ⟨b1, b2, b3, b4, b5⟩ := h.hB
  obtain ⟨q1, q2, q3, q4, q5⟩ := h.2.1
  have c1 := c_X8_paint L M h.hB c r w hh x hc hr
  by_cases a : (0 ≤ c ∧ 1 ≤ w ∧ w ≤ M 3 0 - c) ∧ (0 ≤ r ∧ 1 ≤ hh ∧ hh ≤ M 3 1 - r) ∧ 0 ≤ x ∧ x < 8
  · rw [if_pos a, if_pos a] at c1
    have hMd : hM (mDn (ab_rw M 4 (fX (M 4) (M 3 0) c r w x (r + hh) c))) := h.hM
    have c2 := c_X9_paint L (mDn (ab_rw M 4 (fX (M 4) (M 3 0) c r w x (r + hh) c))) hMd c r w hh x
    change cG L 3 mX9_paint [.inr 56, .inl c, .inl r, .inl w, .inl hh, .inl x] _ (if (0 ≤ c ∧ 1 ≤ w ∧ w ≤ M 56 0 - c) ∧ (0 ≤ r ∧ 1 ≤ hh ∧ hh ≤ M 56 1 - r) ∧ 0 ≤ x ∧ x < 8 then w * hh else -1) (if (0 ≤ c ∧ 1 ≤ w ∧ w ≤ M 56 0 - c) ∧ (0 ≤ r ∧ 1 ≤ hh ∧ hh ≤ M 56 1 - r) ∧ 0 ≤ x ∧ x < 8 then ab_up (ab_rw (mDn (ab_rw M 4 (fX (M 4) (M 3 0) c r w x (r + hh) c))) 57 (fM (M 57) (M 56 0) c r w hh x (c + w) r)) 56 12 0 else _) at c2
    rw [← q1, ← q2, if_pos a, if_pos a] at c2
    refine pr_GG hz c1 c2 rfl rfl rfl (fun _ => ?_)
    have rel : ∀ k, (fX (M 4) (M 3 0) c r w x (r + hh) c k = M 4 k ∧ fM (M 57) (M 3 0) c r w hh x (c + w) r k = M 57 k) ∨ (onB (M 3 0).toNat (M 3 1).toNat k ∧ fX (M 4) (M 3 0) c r w x (r + hh) c k = 8 * (M 4 k / 8) + x ∧ fM (M 57) (M 3 0) c r w hh x (c + w) r k = x) := fun k => by
      by_cases e : c ≤ M 3 0 - 1 - (k : Int) % 12 ∧ M 3 0 - 1 - (k : Int) % 12 < c + w ∧ r ≤ (k : Int) / 12 ∧ (k : Int) / 12 < r + hh
      · right
        refine ⟨⟨by omega, by omega⟩, ?_, ?_⟩
        · unfold fX
          rw [if_pos]
          unfold inB
          simp only [Bool.and_eq_true, Bool.or_eq_true, decide_eq_true_eq]
          omega
        · unfold fM
          rw [if_pos]
          simp only [Bool.and_eq_true, Bool.or_eq_true, decide_eq_true_eq]
          omega
      · left
        refine ⟨?_, ?_⟩
        · unfold fX
          rw [if_neg]
          unfold inB
          simp only [Bool.and_eq_true, Bool.or_eq_true, decide_eq_true_eq]
          omega
        · unfold fM
          rw [if_neg]
          simp only [Bool.and_eq_true, Bool.or_eq_true, decide_eq_true_eq]
          omega
    refine Inv_down h (fun k k1 k2 k3 k4 k5 => ?_) ⟨rfl, rfl, rfl⟩ (fun j j1 j2 j3 => ?_) rfl (fun k k1 k2 => ?_) ⟨rfl, rfl, rfl⟩ ⟨⟨b1, b2, b3, b4, fun k => ?_⟩, fun k hk => ?_⟩ ⟨q1, q2, fun k => ?_, fun k => ?_, q5⟩
    · rw [ab_up_ne _ _ _ (by omega), ab_rw_ne _ _ (by omega)]
      show ab_up (ab_up (ab_rw M 4 _) 11 0 0) 11 1 0 k = M k
      rw [ab_up_ne _ _ _ (by omega), ab_up_ne _ _ _ (by omega), ab_rw_ne _ _ (by omega)]
    · rw [ab_up_self, ab_u1_ne _ _ (by omega)]
      rfl
    · rw [ab_up_ne _ _ _ (by omega), ab_rw_ne _ _ (by omega)]
      show ab_up (ab_up (ab_rw M 4 _) 11 0 0) 11 1 0 k = M k
      rw [ab_up_ne _ _ _ (by omega), ab_up_ne _ _ _ (by omega), ab_rw_ne _ _ (by omega)]
    · show 0 ≤ fX (M 4) (M 3 0) c r w x (r + hh) c k ∧ fX (M 4) (M 3 0) c r w x (r + hh) c k < 16
      have := b5 k
      rcases rel k with e | e <;> omega
    · have hk : ¬ onB (M 3 0).toNat (M 3 1).toNat k := hk
      show fX (M 4) (M 3 0) c r w x (r + hh) c k / 8 = 0
      have := h.1.1.2 k hk
      rcases rel k with e | e
      · rw [e.1]; exact this
      · exact absurd e.1 hk
    · show fX (M 4) (M 3 0) c r w x (r + hh) c k = fM (M 57) (M 3 0) c r w hh x (c + w) r k + 8 * M 58 k
      have := q3 k
      have := q4 k
      rcases rel k with e | e <;> omega
    · show 0 ≤ fM (M 57) (M 3 0) c r w hh x (c + w) r k ∧ fM (M 57) (M 3 0) c r w hh x (c + w) r k < 8
      have := q4 k
      rcases rel k with e | e <;> omega
  · rw [if_neg a, if_neg a] at c1
    have c2 := c_X9_paint L M h.hM c r w hh x
    rw [← q1, ← q2, if_neg a, if_neg a] at c2
    exact p_same hz h c1 c2
end PrA
