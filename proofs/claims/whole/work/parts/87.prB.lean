/-! ===== CALLS: dye, weaver, speed; field, of, lot, deal, dealt; share, who ===== -/
section PrB
variable {L : Nat} {t : Int} {M : ab_Me}
theorem p_dye (hz : Zm L M) (h : Inv t M) (x y : Int) : pr L t 3 2 mX8_dye mX9_dye [.inl x, .inl y] M := by
  obtain ⟨q1, q2, q3⟩ := h.2.2.1
  obtain ⟨hn, hl⟩ := h.1.2.1
  have c1 := c_X8_dye L M x y hn
  by_cases a : (0 ≤ x ∧ x < 8) ∧ 1 ≤ y ∧ y ≤ 300
  · rw [if_pos a, if_pos a] at c1
    by_cases b : M 5 0 = 12
    · rw [if_pos b, if_pos b] at c1
      have c2 := c_X9_dye L M x y (by rw [← q1]; exact hn)
      rw [if_pos a, if_pos a, ← q1, if_pos b, if_pos b] at c2
      exact p_same hz h c1 c2
    · rw [if_neg b, if_neg b] at c1
      have c2 := c_X9_dye L (mLot M x y) x y (by show 0 ≤ M 56 4 ∧ M 56 4 ≤ 12; rw [← q1]; exact hn)
      rw [if_pos a, if_pos a] at c2
      have e4 : mLot M x y 56 4 = M 5 0 := q1.symm
      rw [e4, if_neg b, if_neg b] at c2
      refine pr_GG hz c1 c2 rfl rfl rfl (fun _ => ?_)
      obtain ⟨⟨j1, j2, j3, j4, j5⟩, i2, i3, i4, i5, i6, i7, i8⟩ := h
      have f : ∀ a, a ≠ 5 → a ≠ 6 → a ≠ 7 → a ≠ 56 → a ≠ 59 → a ≠ 60 → mLotM (mLot M x y) x y a = M a := fun a a1 a2 a3 a4 a5 a6 => by
        unfold mLotM
        rw [ab_up_ne _ _ _ a4, ab_up_ne _ _ _ a6, ab_up_ne _ _ _ a5]
        unfold mLot
        rw [ab_up_ne _ _ _ a1, ab_up_ne _ _ _ a3, ab_up_ne _ _ _ a2]
      refine ⟨⟨okB_cg j1 rfl rfl, ⟨⟨?_, ?_⟩, fun l => ?_⟩, okW_cg j3 rfl rfl rfl, okM_t (okM_cg j4 rfl rfl rfl rfl rfl rfl) (by omega), fun q => stdL_cg (j5 q) rfl rfl rfl rfl rfl rfl rfl⟩, eqB_cg i2 rfl rfl rfl rfl rfl rfl, ⟨?_, ?_, ?_⟩, eqW_cg i4 rfl rfl rfl rfl rfl rfl, eqO_t (eqO_cg i5 rfl rfl rfl rfl rfl rfl rfl rfl rfl rfl rfl) (by omega), i6, kep_cg i7 (by omega) rfl rfl (fun a a1 a2 => f a (by omega) (by omega) (by omega) (by omega) (by omega) (by omega)) (fun a a1 a2 => f a (by omega) (by omega) (by omega) (by omega) (by omega) (by omega)), i8⟩
      · show 0 ≤ M 5 0 + 1; omega
      · show M 5 0 + 1 ≤ 12; omega
      · show 0 ≤ ab_u1 (M 7) (M 5 0).toNat y l ∧ ab_u1 (M 7) (M 5 0).toNat y l ≤ 300
        by_cases e : l = (M 5 0).toNat
        · rw [e, ab_u1_self]; omega
        · rw [ab_u1_ne _ _ e]; exact hl l
      · show M 5 0 + 1 = M 56 4 + 1
        rw [q1]
      · show ab_u1 (M 6) (M 5 0).toNat x = ab_u1 (M 59) (M 56 4).toNat x
        rw [q1, q2]
      · show ab_u1 (M 7) (M 5 0).toNat y = ab_u1 (M 60) (M 56 4).toNat y
        rw [q1, q3]
  · rw [if_neg a, if_neg a] at c1
    have c2 := c_X9_dye L M x y (by rw [← q1]; exact hn)
    rw [if_neg a, if_neg a] at c2
    exact p_same hz h c1 c2
/-- the loom is taken down on both sides; the weavers are new -/
theorem Inv_down2 {N : ab_Me} (h : Inv t M) (hX : ∀ a, 1 ≤ a → a ≤ 32 → a ≠ 8 → a ≠ 9 → a ≠ 10 → a ≠ 11 → N a = M a) (h11 : N 11 0 = 0 ∧ N 11 1 = 0 ∧ N 11 6 = M 11 6) (h56 : ∀ j, j ≤ 18 → j ≠ 7 → j ≠ 12 → N 56 j = M 56 j) (h12 : N 56 12 = 0) (hm : ∀ a, 57 ≤ a → a ≤ 71 → a ≠ 61 → a ≠ 62 → N a = M a) (hs : N 52 = M 52 ∧ N 53 = M 53 ∧ N 85 = M 85) (hb : okW N) (hq : eqW N) : Inv (t + 1) N := by
  obtain ⟨⟨j1, j2, j3, j4, j5⟩, i2, i3, i4, i5, i6, i7, i8⟩ := h
  have x : ∀ a, 1 ≤ a → a ≤ 32 → a ≠ 8 → a ≠ 9 → a ≠ 10 → a ≠ 11 → N a = M a := hX
  obtain ⟨m1, m2, m3, m4, m5, m6, m7⟩ := j4
  obtain ⟨o1, ⟨o2, o3, o4, o5⟩, o6, o7, o8⟩ := i5
  have x1 := x 1 (by omega) (by omega) (by omega) (by omega) (by omega) (by omega)
  have x3 := x 3 (by omega) (by omega) (by omega) (by omega) (by omega) (by omega)
  have x4 := x 4 (by omega) (by omega) (by omega) (by omega) (by omega) (by omega)
  have x5 := x 5 (by omega) (by omega) (by omega) (by omega) (by omega) (by omega)
  have x6 := x 6 (by omega) (by omega) (by omega) (by omega) (by omega) (by omega)
  have x7 := x 7 (by omega) (by omega) (by omega) (by omega) (by omega) (by omega)
  have x12 := x 12 (by omega) (by omega) (by omega) (by omega) (by omega) (by omega)
  have x13 := x 13 (by omega) (by omega) (by omega) (by omega) (by omega) (by omega)
  have x14 := x 14 (by omega) (by omega) (by omega) (by omega) (by omega) (by omega)
  have x15 := x 15 (by omega) (by omega) (by omega) (by omega) (by omega) (by omega)
  have x16 := x 16 (by omega) (by omega) (by omega) (by omega) (by omega) (by omega)
  have x17 := x 17 (by omega) (by omega) (by omega) (by omega) (by omega) (by omega)
  have y := hm
  refine ⟨⟨okB_cg j1 x3 x4, okL_cg j2 x5 x7, hb, ?_, fun q => by omega⟩, eqB_cg i2 x3 x4 (h56 0 (by omega) (by omega) (by omega)) (h56 1 (by omega) (by omega) (by omega)) (y 57 (by omega) (by omega) (by omega) (by omega)) (y 58 (by omega) (by omega) (by omega) (by omega)), eqL_cg i3 x5 x6 x7 (h56 4 (by omega) (by omega) (by omega)) (y 59 (by omega) (by omega) (by omega) (by omega)) (y 60 (by omega) (by omega) (by omega) (by omega)), hq, ?_, ?_, kep_cg i7 (by omega) (by rw [x1]) (h56 18 (by omega) (by omega) (by omega)) (fun a h1 h2 => x a (by omega) (by omega) (by omega) (by omega) (by omega) (by omega)) (fun a h1 h2 => y a (by omega) (by omega) (by omega) (by omega)), ?_⟩
  · unfold okM
    rw [h11.1, h11.2.1, h11.2.2, x12, x13, x14, x15, x16]
    exact ⟨by omega, m2, by omega, m4, m5, m6, m7⟩
  · unfold eqO
    rw [h11.1, h12, x12, x13, x14, x15, y 63 (by omega) (by omega) (by omega) (by omega), y 64 (by omega) (by omega) (by omega) (by omega), y 65 (by omega) (by omega) (by omega) (by omega), y 66 (by omega) (by omega) (by omega) (by omega), h56 13 (by omega) (by omega) (by omega)]
    exact ⟨rfl, ⟨o2, o3, o4, o5⟩, fun q => by omega, o7, by omega⟩
  · unfold eqR
    rw [x1, h56 10 (by omega) (by omega) (by omega), h56 11 (by omega) (by omega) (by omega)]
    exact i6
  · unfold scr
    rw [hs.1, hs.2.1, hs.2.2, x17]
    exact i8
theorem p_weaver (hz : Zm L M) (h : Inv t M) (x z : Int) (hzz : z = 0 ∨ z = 1) : pr L t 2 2 mX8_weaver mX9_weaver [.inl x, .inl z] M := by
  obtain ⟨q1, q2, q3⟩ := h.2.2.2.1
  obtain ⟨⟨hn, w2, w3⟩, w4⟩ := h.1.2.2.1
  have c1 := c_X8_weaver L M x z hzz hn
  by_cases a : 1 ≤ x ∧ x ≤ 20
  · rw [if_pos a, if_pos a] at c1
    by_cases b : M 8 0 = 4
    · rw [if_pos b, if_pos b] at c1
      have c2 := c_X9_weaver L M x z hzz (by rw [← q1]; exact hn)
      rw [if_pos a, if_pos a, ← q1, if_pos b, if_pos b] at c2
      exact p_same hz h c1 c2
    · rw [if_neg b, if_neg b] at c1
      have c2 := c_X9_weaver L (mWv (mDn M) x z) x z hzz (by show 0 ≤ M 56 7 ∧ M 56 7 ≤ 4; rw [← q1]; exact hn)
      rw [if_pos a, if_pos a] at c2
      have e4 : mWv (mDn M) x z 56 7 = M 8 0 := q1.symm
      rw [e4, if_neg b, if_neg b] at c2
      refine pr_GG hz c1 c2 rfl rfl rfl (fun _ => ?_)
      have f : ∀ a, a ≠ 8 → a ≠ 9 → a ≠ 10 → a ≠ 11 → a ≠ 56 → a ≠ 61 → a ≠ 62 → mWvM (mWv (mDn M) x z) x z a = M a := fun a a1 a2 a3 a4 a5 a6 a7 => by
        unfold mWvM
        rw [ab_up_ne _ _ _ a5, ab_up_ne _ _ _ a5, ab_up_ne _ _ _ a7, ab_up_ne _ _ _ a6]
        unfold mWv mDn
        rw [ab_up_ne _ _ _ a1, ab_up_ne _ _ _ a3, ab_up_ne _ _ _ a2, ab_up_ne _ _ _ a4, ab_up_ne _ _ _ a4]
      have r9 : mWvM (mWv (mDn M) x z) x z 9 = ab_u1 (M 9) (M 8 0).toNat x := rfl
      have r10 : mWvM (mWv (mDn M) x z) x z 10 = ab_u1 (M 10) (M 8 0).toNat z := rfl
      have r8 : mWvM (mWv (mDn M) x z) x z 8 0 = M 8 0 + 1 := rfl
      refine Inv_down2 h (fun a a1 a2 a3 a4 a5 a6 => f a a3 a4 a5 a6 (by omega) (by omega) (by omega)) ⟨rfl, rfl, rfl⟩ (fun j j1 j2 j3 => ?_) rfl (fun a a1 a2 a3 a4 => f a (by omega) (by omega) (by omega) (by omega) (by omega) a3 a4) ⟨rfl, rfl, rfl⟩ ⟨⟨?_, fun v hv => ?_, fun v => ?_⟩, fun v => ?_⟩ ⟨?_, ?_, ?_⟩
      · unfold mWvM
        rw [ab_up_self, ab_u1_ne _ _ j3, ab_up_self, ab_u1_ne _ _ j2]
        rfl
      · rw [r8]; omega
      · rw [r8] at hv
        rw [r9]
        by_cases e : v = (M 8 0).toNat
        · rw [e, ab_u1_self]; exact a
        · rw [ab_u1_ne _ _ e]; exact w2 v (by omega)
      · rw [r10]
        by_cases e : v = (M 8 0).toNat
        · rw [e, ab_u1_self]; exact hzz
        · rw [ab_u1_ne _ _ e]; exact w3 v
      · rw [r9]
        by_cases e : v = (M 8 0).toNat
        · rw [e, ab_u1_self]; omega
        · rw [ab_u1_ne _ _ e]; exact w4 v
      · show M 8 0 + 1 = M 56 7 + 1
        rw [q1]
      · show ab_u1 (M 9) (M 8 0).toNat x = ab_u1 (M 61) (M 56 7).toNat x
        rw [q1, q2]
      · show ab_u1 (M 10) (M 8 0).toNat z = ab_u1 (M 62) (M 56 7).toNat z
        rw [q1, q3]
  · rw [if_neg a, if_neg a] at c1
    have c2 := c_X9_weaver L M x z hzz (by rw [← q1]; exact hn)
    rw [if_neg a, if_neg a] at c2
    exact p_same hz h c1 c2
theorem p_speed (hz : Zm L M) (h : Inv t M) (x y : Int) : pr L t 2 2 mX8_speed mX9_speed [.inl x, .inl y] M := by
  obtain ⟨q1, q2, q3⟩ := h.2.2.2.1
  obtain ⟨⟨hn, w2, w3⟩, w4⟩ := h.1.2.2.1
  have c1 := c_X8_speed L M x y hn
  by_cases a : (0 ≤ x ∧ x < M 8 0) ∧ 1 ≤ y ∧ y ≤ 20
  · rw [if_pos a, if_pos a] at c1
    have c2 := c_X9_speed L (mDn (ab_up M 9 x.toNat y)) x y (by show 0 ≤ M 56 7 ∧ M 56 7 ≤ 4; rw [← q1]; exact hn)
    have e4 : mDn (ab_up M 9 x.toNat y) 56 7 = M 8 0 := q1.symm
    rw [e4, if_pos a, if_pos a] at c2
    have ev : mDn (ab_up M 9 x.toNat y) 61 x.toNat = M 9 x.toNat := by rw [q2]; rfl
    refine pr_GG hz c1 c2 ev rfl rfl (fun _ => ?_)
    have f : ∀ a, a ≠ 9 → a ≠ 11 → a ≠ 56 → a ≠ 61 → ab_up (ab_up (mDn (ab_up M 9 x.toNat y)) 61 x.toNat y) 56 12 0 a = M a := fun a a1 a2 a3 a4 => by
      rw [ab_up_ne _ _ _ a3, ab_up_ne _ _ _ a4]
      unfold mDn
      rw [ab_up_ne _ _ _ a2, ab_up_ne _ _ _ a2, ab_up_ne _ _ _ a1]
    have r9 : ab_up (ab_up (mDn (ab_up M 9 x.toNat y)) 61 x.toNat y) 56 12 0 9 = ab_u1 (M 9) x.toNat y := rfl
    refine Inv_down2 h (fun a a1 a2 a3 a4 a5 a6 => f a a4 a6 (by omega) (by omega)) ⟨rfl, rfl, rfl⟩ (fun j j1 j2 j3 => ?_) rfl (fun a a1 a2 a3 a4 => f a (by omega) (by omega) (by omega) a3) ⟨rfl, rfl, rfl⟩ ⟨⟨hn, fun v hv => ?_, w3⟩, fun v => ?_⟩ ⟨q1, ?_, q3⟩
    · rw [ab_up_self, ab_u1_ne _ _ j3]
      rfl
    · rw [r9]
      by_cases e : v = x.toNat
      · rw [e, ab_u1_self]; omega
      · rw [ab_u1_ne _ _ e]; exact w2 v hv
    · rw [r9]
      by_cases e : v = x.toNat
      · rw [e, ab_u1_self]; omega
      · rw [ab_u1_ne _ _ e]; exact w4 v
    · show ab_u1 (M 9) x.toNat y = ab_u1 (M 61) x.toNat y
      rw [q2]
  · rw [if_neg a, if_neg a] at c1
    have c2 := c_X9_speed L M x y (by rw [← q1]; exact hn)
    rw [← q1, if_neg a, if_neg a] at c2
    exact p_same hz h c1 c2
/-- both only look -/
def clF (M N : ab_Me) : Prop := (∀ a, a < 34 ∨ 55 < a → N a = M a) ∧ N 52 0 = 0 ∧ N 53 0 = 0
def mdF (M N : ab_Me) : Prop := (∀ a, a < 56 ∨ (57 ≤ a ∧ a ≤ 71) ∨ 85 ≤ a → N a = M a) ∧ ∀ j, j ≤ 18 → N 56 j = M 56 j
theorem Inv_cl {N : ab_Me} (h : Inv t M) (hc : clF M N) : Inv t N := by
  refine Inv_fr h (by omega) (fun a h1 h2 h3 => hc.1 a (by omega)) (fun j _ => by rw [hc.1 56 (by omega)]) (fun a h1 h2 => hc.1 a (by omega)) ⟨hc.2, ?_, ?_⟩
  · rw [hc.1 17 (by omega)]; exact h.2.2.2.2.2.2.2.2.1
  · rw [hc.1 85 (by omega)]; exact h.2.2.2.2.2.2.2.2.2
theorem pr_sc {A : Int → Prop} {d1 d2 : Nat} {mx mm : ab_M} {as : List ab_V} (hz : Zm L M) (h : Inv t M) (h1 : ct L d1 mx (.inr 1 :: as) M (fun r N => clF M N ∧ ∃ v, r = some (.inl v) ∧ A v)) (h2 : ∀ N, Inv t N → (∀ a, 55 < a → N a = M a) → ct L d2 mm (.inr 56 :: as) N (fun r N' => mdF N N' ∧ ∃ v, r = some (.inl v) ∧ A v)) (hA : ∀ v v', A v → A v' → v' = v) : pr L t d1 d2 mx mm as M := by
  refine pr_of hz h1 (fun r N q _ => ?_)
  obtain ⟨q1, v, q2, q3⟩ := q
  refine ⟨q1.1 0 (by omega), v, q2, ct_mono (h2 N (Inv_cl h q1) (fun a ha => q1.1 a (by omega))) (fun r' N' k _ => ?_)⟩
  obtain ⟨⟨k1, k1'⟩, v', k2, k3⟩ := k
  refine ⟨by rw [k2, hA v v' q3 k3], by rw [k1 0 (by omega)]; exact q1.1 0 (by omega), ?_⟩
  have hN := Inv_cl h q1
  refine Inv_fr hN (by omega) (fun a h1 h2 h3 => k1 a (by omega)) (fun j hj => k1' j hj) (fun a h1 h2 => k1 a (by omega)) ⟨?_, ?_, ?_⟩
  · rw [k1 52 (by omega), k1 53 (by omega)]; exact q1.2
  · rw [k1 17 (by omega)]; exact hN.2.2.2.2.2.2.2.2.1
  · rw [k1 85 (by omega)]; exact hN.2.2.2.2.2.2.2.2.2
theorem fdX_cl {C R : Nat} {col : Nat → Int} {N : ab_Me} (h : Inv t M) (hf : fdX C R col M N) : clF M N := ⟨fun a ha => hf.1 a (by omega), by rw [hf.1 52 (by omega)]; exact h.2.2.2.2.2.2.2.1.1, by rw [hf.1 53 (by omega)]; exact h.2.2.2.2.2.2.2.1.2⟩
theorem fdM_md {C R : Nat} {col : Nat → Int} {N : ab_Me} (hf : fdM C R col M N) : mdF M N := ⟨fun a ha => hf.1 a (by omega) (by omega), fun j hj => hf.2.1 j (by omega)⟩
theorem cl_rf (h : Inv t M) : clF M M := ⟨fun _ _ => rfl, h.2.2.2.2.2.2.2.1.1, h.2.2.2.2.2.2.2.1.2⟩
theorem md_rf : mdF M M := ⟨fun _ _ => rfl, fun _ _ => rfl⟩
theorem Inv.dims (h : Inv t M) : ∃ C R : Nat, M 3 0 = (C : Int) ∧ M 3 1 = (R : Int) ∧ M 56 0 = (C : Int) ∧ M 56 1 = (R : Int) ∧ C ≤ 12 := by
  obtain ⟨b1, b2, b3, b4, b5⟩ := h.hB
  refine ⟨(M 3 0).toNat, (M 3 1).toNat, by omega, by omega, by rw [← h.2.1.1]; omega, by rw [← h.2.1.2.1]; omega, by omega⟩
theorem p_field (hz : Zm L M) (h : Inv t M) (w p : Int) : pr L t 6 4 mX8_field mX9_field [.inl w, .inl p] M := by
  obtain ⟨C, R, hC, hR, hC', hR', h12⟩ := h.dims
  refine pr_sc (A := fun v => (¬ ((0 ≤ w ∧ w < C) ∧ 0 ≤ p ∧ p < R) ∧ v = -1) ∨ (((0 ≤ w ∧ w < C) ∧ 0 ≤ p ∧ p < R) ∧ ∃ n xs fl, isF C R (M 57) n xs fl ∧ v = (fl (12 * p + w).toNat : Int))) hz h (ct_mono (c_X8_field L M h.hB hC hR w p) (fun r N q => ?_)) (fun N hN e => ct_mono (c_X9_field L N hN.hM (C := C) (R := R) (by rw [e 56 (by omega)]; exact hC') (by rw [e 56 (by omega)]; exact hR') w p) (fun r N' q => ?_)) (fun v v' a a' => ?_)
  · rw [h.clX] at q
    rcases q with ⟨q1, q2, q3⟩ | ⟨q1, q2, n, xs, fl, q3, q4⟩
    · subst q3; exact ⟨cl_rf h, _, q2, Or.inl ⟨q1, rfl⟩⟩
    · exact ⟨fdX_cl h q2, _, q4, Or.inr ⟨q1, n, xs, fl, q3, rfl⟩⟩
  · rw [e 57 (by omega)] at q
    rcases q with ⟨q1, q2, q3⟩ | ⟨q1, q2, n, xs, fl, q3, q4⟩
    · subst q3; exact ⟨md_rf, _, q2, Or.inl ⟨q1, rfl⟩⟩
    · exact ⟨fdM_md q2, _, q4, Or.inr ⟨q1, n, xs, fl, q3, rfl⟩⟩
  · rcases a with ⟨a1, a2⟩ | ⟨a1, n, xs, fl, a2, a3⟩
    · rcases a' with ⟨b1, b2⟩ | ⟨b1, _⟩
      · omega
      · exact absurd b1 a1
    · rcases a' with ⟨b1, _⟩ | ⟨b1, n', xs', fl', b2, b3⟩
      · exact absurd a1 b1
      · obtain ⟨_, _, u3⟩ := isF_uq a2 b2
        rw [a3, b3, u3 _ ⟨by omega, by omega⟩]
theorem p_of (hz : Zm L M) (h : Inv t M) (f what : Int) : pr L t 6 4 mX8_of mX9_of [.inl f, .inl what] M := by
  obtain ⟨C, R, hC, hR, hC', hR', h12⟩ := h.dims
  refine pr_sc (A := fun v => ∃ n xs fl, isF C R (M 57) n xs fl ∧ v = ofV C R (M 57) n xs fl f what) hz h (ct_mono (c_X8_of L M h.hB hC hR f what) (fun r N q => ?_)) (fun N hN e => ct_mono (c_X9_of L N hN.hM (C := C) (R := R) (by rw [e 56 (by omega)]; exact hC') (by rw [e 56 (by omega)]; exact hR') f what) (fun r N' q => ?_)) (fun v v' a a' => ?_)
  · rw [h.clX] at q
    obtain ⟨q2, n, xs, fl, q3, q4⟩ := q
    exact ⟨fdX_cl h q2, _, q4, n, xs, fl, q3, rfl⟩
  · rw [e 57 (by omega)] at q
    obtain ⟨q2, n, xs, fl, q3, q4⟩ := q
    exact ⟨fdM_md q2, _, q4, n, xs, fl, q3, rfl⟩
  · obtain ⟨n, xs, fl, a2, a3⟩ := a
    obtain ⟨n', xs', fl', b2, b3⟩ := a'
    rw [a3, b3, ofV_uq a2 b2]
theorem Inv.lo (h : Inv t M) : ∃ nL : Nat, hLo M nL ∧ hLoM M nL := by
  obtain ⟨q1, q2, q3⟩ := h.2.2.1
  obtain ⟨hn, hl⟩ := h.1.2.1
  refine ⟨(M 5 0).toNat, ⟨by omega, by omega, hl⟩, ⟨by omega, by omega, by rw [← q3]; exact hl⟩⟩
theorem dA_uq {kk : List Nat → List Nat → (Nat → Int) → (Nat → Nat) → Int} (hk : ∀ F T yr g g', (∀ k, k < F.length → g k = g' k) → kk F T yr g = kk F T yr g') {C R n n' : Nat} {col : Nat → Int} {xs xs' fl fl' : Nat → Nat} {z : Int} {T : List Nat} {ly : Nat → Int} {v v' : Int} (h : isF C R col n xs fl) (h' : isF C R col n' xs' fl') (a : dAns (gF col xs z n) T ly (fYarn C R col fl) (kk (gF col xs z n) T (fYarn C R col fl)) v) (a' : dAns (gF col xs' z n') T ly (fYarn C R col fl') (kk (gF col xs' z n') T (fYarn C R col fl')) v') : v' = v := by
  obtain ⟨u1, u2, u3⟩ := isF_uq h h'
  subst u1
  have eF : gF col xs z n = gF col xs' z n := gl_congr n (fun f hf => by show decide (col (xs f) = z) = decide (col (xs' f) = z); rw [u2 f hf])
  have eY : fYarn C R col fl = fYarn C R col fl' := funext (fun f => fYarn_uq u3 f)
  rw [eF, eY] at a
  exact dAns_uq (hk _ _ _) a' a
theorem p_deal (hz : Zm L M) (h : Inv t M) (f : Int) : pr L t 7 6 mX8_deal mX9_deal [.inl f] M := by
  obtain ⟨C, R, hC, hR, hC', hR', h12⟩ := h.dims
  obtain ⟨nL, l1, l2⟩ := h.lo
  obtain ⟨q1, q2, q3⟩ := h.2.2.1
  refine pr_sc (A := fun v => ∃ nF xs fl, isF C R (M 57) nF xs fl ∧ ((¬ (0 ≤ f ∧ f < (nF : Int)) ∧ v = -1) ∨ ((0 ≤ f ∧ f < (nF : Int)) ∧ dAns (gF (M 57) xs (M 57 (xs f.toNat)) nF) (gz (M 59) (M 57 (xs f.toNat)) nL) (M 60) (fYarn C R (M 57) fl) (fun g => lfV (gF (M 57) xs (M 57 (xs f.toNat)) nF) (gz (M 59) (M 57 (xs f.toNat)) nL) f g (gF (M 57) xs (M 57 (xs f.toNat)) nF).length) v))) hz h (ct_mono (c_X8_deal L M h.hB hC hR l1 f) (fun r N q => ?_)) (fun N hN e => ct_mono (c_X9_deal L N hN.hM (C := C) (R := R) (nL := nL) (by rw [e 56 (by omega)]; exact hC') (by rw [e 56 (by omega)]; exact hR') (by unfold hLoM; rw [e 56 (by omega), e 60 (by omega)]; exact l2) f) (fun r N' q => ?_)) (fun v v' a a' => ?_)
  · rw [h.clX, q2, q3] at q
    obtain ⟨g1, nF, xs, fl, g2, g3⟩ := q
    have hcl : clF M N := ⟨fun a ha => g1 a (by omega), by rw [g1 52 (by omega)]; exact h.2.2.2.2.2.2.2.1.1, by rw [g1 53 (by omega)]; exact h.2.2.2.2.2.2.2.1.2⟩
    rcases g3 with ⟨g3, g4⟩ | ⟨g3, v, g4, g5⟩
    · exact ⟨hcl, _, g4, nF, xs, fl, g2, Or.inl ⟨g3, rfl⟩⟩
    · exact ⟨hcl, _, g4, nF, xs, fl, g2, Or.inr ⟨g3, g5⟩⟩
  · rw [e 57 (by omega), e 59 (by omega), e 60 (by omega)] at q
    obtain ⟨g1, nF, xs, fl, g2, g3⟩ := q
    have hmd : mdF N N' := ⟨fun a ha => g1.1 a (by omega) (by omega), fun j hj => g1.2 j (by omega) (by omega) (by omega) (by omega)⟩
    rcases g3 with ⟨g3, g4⟩ | ⟨g3, v, g4, g5⟩
    · exact ⟨hmd, _, g4, nF, xs, fl, g2, Or.inl ⟨g3, rfl⟩⟩
    · exact ⟨hmd, _, g4, nF, xs, fl, g2, Or.inr ⟨g3, g5⟩⟩
  · obtain ⟨n, xs, fl, a2, a3⟩ := a
    obtain ⟨n', xs', fl', b2, b3⟩ := a'
    obtain ⟨u1, u2, u3⟩ := isF_uq a2 b2
    rcases a3 with ⟨a3, a4⟩ | ⟨a3, a4⟩
    · rcases b3 with ⟨b3, b4⟩ | ⟨b3, b4⟩
      · omega
      · exact absurd (by omega) a3
    · rcases b3 with ⟨b3, b4⟩ | ⟨b3, b4⟩
      · exact absurd (by omega) b3
      · rw [u2 f.toNat (by omega)] at a4
        exact dA_uq (kk := fun F T _ g => lfV F T f g F.length) (fun F T _ g g' hg => lfV_ag hg _ (Nat.le_refl _)) a2 b2 a4 b4
theorem dtV_ag (what : Int) (F T : List Nat) (yr : Nat → Int) (g g' : Nat → Nat) (h : ∀ k, k < F.length → g k = g' k) : dtV what F T yr g = dtV what F T yr g' := by
  unfold dtV
  rw [sm_ag h (fun g => yaT F T yr g) (fun i e => by unfold yaT; rw [e]), sm_ag h (fun g => ctT F T g) (fun i e => by unfold ctT; rw [e])]
theorem p_dealt (hz : Zm L M) (h : Inv t M) (z what : Int) : pr L t 7 6 mX8_dealt mX9_dealt [.inl z, .inl what] M := by
  obtain ⟨C, R, hC, hR, hC', hR', h12⟩ := h.dims
  obtain ⟨nL, l1, l2⟩ := h.lo
  obtain ⟨q1, q2, q3⟩ := h.2.2.1
  refine pr_sc (A := fun v => (¬ ((0 ≤ z ∧ z < 8) ∧ 0 ≤ what ∧ what ≤ 2) ∧ v = -1) ∨ (((0 ≤ z ∧ z < 8) ∧ 0 ≤ what ∧ what ≤ 2) ∧ ∃ nF xs fl, isF C R (M 57) nF xs fl ∧ dAns (gF (M 57) xs z nF) (gz (M 59) z nL) (M 60) (fYarn C R (M 57) fl) (dtV what (gF (M 57) xs z nF) (gz (M 59) z nL) (fYarn C R (M 57) fl)) v)) hz h (ct_mono (c_X8_dealt L M h.hB hC hR l1 z what) (fun r N q => ?_)) (fun N hN e => ct_mono (c_X9_dealt L N hN.hM (C := C) (R := R) (nL := nL) (by rw [e 56 (by omega)]; exact hC') (by rw [e 56 (by omega)]; exact hR') (by unfold hLoM; rw [e 56 (by omega), e 60 (by omega)]; exact l2) z what) (fun r N' q => ?_)) (fun v v' a a' => ?_)
  · rw [h.clX, q2, q3] at q
    obtain ⟨g1, g3⟩ := q
    have hcl : clF M N := ⟨fun a ha => g1 a (by omega), by rw [g1 52 (by omega)]; exact h.2.2.2.2.2.2.2.1.1, by rw [g1 53 (by omega)]; exact h.2.2.2.2.2.2.2.1.2⟩
    rcases g3 with ⟨g3, g4⟩ | ⟨g3, nF, xs, fl, v, g2, g4, g5⟩
    · exact ⟨hcl, _, g4, Or.inl ⟨g3, rfl⟩⟩
    · exact ⟨hcl, _, g4, Or.inr ⟨g3, nF, xs, fl, g2, g5⟩⟩
  · rw [e 57 (by omega), e 59 (by omega), e 60 (by omega)] at q
    obtain ⟨g1, g3⟩ := q
    have hmd : mdF N N' := ⟨fun a ha => g1.1 a (by omega) (by omega), fun j hj => g1.2 j (by omega) (by omega) (by omega) (by omega)⟩
    rcases g3 with ⟨g3, g4⟩ | ⟨g3, nF, xs, fl, v, g2, g4, g5⟩
    · exact ⟨hmd, _, g4, Or.inl ⟨g3, rfl⟩⟩
    · exact ⟨hmd, _, g4, Or.inr ⟨g3, nF, xs, fl, g2, g5⟩⟩
  · rcases a with ⟨a3, a4⟩ | ⟨a3, n, xs, fl, a2, a4⟩
    · rcases a' with ⟨b3, b4⟩ | ⟨b3, b4⟩
      · omega
      · exact absurd b3 a3
    · rcases a' with ⟨b3, b4⟩ | ⟨b3, n', xs', fl', b2, b4⟩
      · exact absurd a3 b3
      · exact dA_uq (kk := dtV what) (dtV_ag what) a2 b2 a4 b4
theorem p_lot (hz : Zm L M) (h : Inv t M) (lot what : Int) : pr L t 7 6 mX8_lot mX9_lot [.inl lot, .inl what] M := by
  obtain ⟨C, R, hC, hR, hC', hR', h12⟩ := h.dims
  obtain ⟨nL, l1, l2⟩ := h.lo
  obtain ⟨q1, q2, q3⟩ := h.2.2.1
  refine pr_sc (A := fun v => (¬ ((0 ≤ lot ∧ lot < (nL : Int)) ∧ 0 ≤ what ∧ what ≤ 2) ∧ v = -1) ∨ ((0 ≤ lot ∧ lot < (nL : Int)) ∧ what = 0 ∧ v = M 59 lot.toNat) ∨ ((0 ≤ lot ∧ lot < (nL : Int)) ∧ what = 1 ∧ v = M 60 lot.toNat) ∨ ((0 ≤ lot ∧ lot < (nL : Int)) ∧ what = 2 ∧ ∃ nF xs fl, isF C R (M 57) nF xs fl ∧ dAns (gF (M 57) xs (M 59 lot.toNat) nF) (gz (M 59) (M 59 lot.toNat) nL) (M 60) (fYarn C R (M 57) fl) (fun g => sm (yfT (gF (M 57) xs (M 59 lot.toNat) nF) (gz (M 59) (M 59 lot.toNat) nL) (fYarn C R (M 57) fl) lot g) (gF (M 57) xs (M 59 lot.toNat) nF).length) v)) hz h (ct_mono (c_X8_lot L M h.hB hC hR l1 lot what) (fun r N q => ?_)) (fun N hN e => ct_mono (c_X9_lot L N hN.hM (C := C) (R := R) (nL := nL) (by rw [e 56 (by omega)]; exact hC') (by rw [e 56 (by omega)]; exact hR') (by unfold hLoM; rw [e 56 (by omega), e 60 (by omega)]; exact l2) lot what) (fun r N' q => ?_)) (fun v v' a a' => ?_)
  · rw [h.clX, q2, q3] at q
    obtain ⟨g1, g3⟩ := q
    have hcl : clF M N := ⟨fun a ha => g1 a (by omega), by rw [g1 52 (by omega)]; exact h.2.2.2.2.2.2.2.1.1, by rw [g1 53 (by omega)]; exact h.2.2.2.2.2.2.2.1.2⟩
    rcases g3 with ⟨g3, g4⟩ | ⟨g3, g4, g5⟩ | ⟨g3, g4, g5⟩ | ⟨g3, gw, nF, xs, fl, v, g2, g4, g5⟩
    · exact ⟨hcl, _, g4, Or.inl ⟨g3, rfl⟩⟩
    · exact ⟨hcl, _, g5, Or.inr (Or.inl ⟨g3, g4, rfl⟩)⟩
    · exact ⟨hcl, _, g5, Or.inr (Or.inr (Or.inl ⟨g3, g4, rfl⟩))⟩
    · exact ⟨hcl, _, g4, Or.inr (Or.inr (Or.inr ⟨g3, gw, nF, xs, fl, g2, g5⟩))⟩
  · rw [e 57 (by omega), e 59 (by omega), e 60 (by omega)] at q
    obtain ⟨g1, g3⟩ := q
    have hmd : mdF N N' := ⟨fun a ha => g1.1 a (by omega) (by omega), fun j hj => g1.2 j (by omega) (by omega) (by omega) (by omega)⟩
    rcases g3 with ⟨g3, g4⟩ | ⟨g3, g4, g5⟩ | ⟨g3, g4, g5⟩ | ⟨g3, gw, nF, xs, fl, v, g2, g4, g5⟩
    · exact ⟨hmd, _, g4, Or.inl ⟨g3, rfl⟩⟩
    · exact ⟨hmd, _, g5, Or.inr (Or.inl ⟨g3, g4, rfl⟩)⟩
    · exact ⟨hmd, _, g5, Or.inr (Or.inr (Or.inl ⟨g3, g4, rfl⟩))⟩
    · exact ⟨hmd, _, g4, Or.inr (Or.inr (Or.inr ⟨g3, gw, nF, xs, fl, g2, g5⟩))⟩
  · rcases a with ⟨a3, a4⟩ | ⟨a3, aw, a4⟩ | ⟨a3, aw, a4⟩ | ⟨a3, aw, n, xs, fl, a2, a4⟩
    · rcases a' with ⟨b3, b4⟩ | ⟨b3, bw, _⟩ | ⟨b3, bw, _⟩ | ⟨b3, bw, _⟩ <;> omega
    · rcases a' with ⟨b3, b4⟩ | ⟨b3, bw, b4⟩ | ⟨b3, bw, _⟩ | ⟨b3, bw, _⟩ <;> omega
    · rcases a' with ⟨b3, b4⟩ | ⟨b3, bw, _⟩ | ⟨b3, bw, b4⟩ | ⟨b3, bw, _⟩ <;> omega
    · rcases a' with ⟨b3, b4⟩ | ⟨b3, bw, _⟩ | ⟨b3, bw, _⟩ | ⟨b3, bw, n', xs', fl', b2, b4⟩
      · omega
      · omega
      · omega
      · exact dA_uq (kk := fun F T yr g => sm (yfT F T yr lot g) F.length) (fun F T yr g g' hg => sm_ag hg (fun g => yfT F T yr lot g) (fun i e => by unfold yfT; rw [e])) a2 b2 a4 b4
theorem Inv.bst (h : Inv t M) : bstX M = bstM M := by
  unfold bstX bstM dosM
  rw [h.fX4, h.2.1.1, h.2.1.2.1, h.2.2.2.1.1, h.2.2.2.1.2.1, h.2.2.2.1.2.2]
theorem Inv.hW (h : Inv t M) : hW M := h.1.2.2.1.1
theorem Inv.hWM (h : Inv t M) : hWM M := by
  obtain ⟨q1, q2, q3⟩ := h.2.2.2.1
  refine ⟨by rw [← q1]; exact h.hW.1, fun v hv => by rw [← q2]; rw [← q1] at hv; exact h.hW.2.1 v hv, fun v => by rw [← q3]; exact h.hW.2.2 v⟩
theorem bstM_cg {N : ab_Me} (e : ∀ a, 55 < a → N a = M a) : bstM N = bstM M := by
  unfold bstM dosM
  rw [e 56 (by omega), e 58 (by omega), e 61 (by omega), e 62 (by omega)]
theorem gM_md {N : ab_Me} (hf : gM M N) : mdF M N := ⟨fun a ha => hf.1 a (by omega) (by omega) (by omega) (by omega) (by omega), fun j hj => hf.2 j (by omega) (by omega)⟩
theorem frX_cl {N : ab_Me} (hf : frX M N) : clF M N := ⟨fun a ha => hf.1 a (by omega), hf.2⟩
theorem p_share (hz : Zm L M) (h : Inv t M) (x : Int) : pr L t 9 5 mX8_share mX9_share [.inl x] M := by
  refine pr_sc (A := fun v => v = (if 0 ≤ x ∧ x ≤ 1 then (if 0 < (bstM M).2.length then (if x = 0 then (bstM M).1 else ((bstM M).2.length : Int)) else -4) else -1)) hz h (ct_mono (c_X8_share L M h.hB h.hW h.2.2.2.2.2.2.2.1 x) (fun r N q => ?_)) (fun N hN e => ct_mono (c_X9_share L N hN.hM hN.hWM x) (fun r N' q => ?_)) (fun v v' a a' => by rw [a, a'])
  · rw [h.bst] at q
    exact ⟨frX_cl q.2, _, q.1, rfl⟩
  · rw [bstM_cg e] at q
    exact ⟨gM_md q.2, _, q.1, rfl⟩
theorem p_who (hz : Zm L M) (h : Inv t M) (w : Int) : pr L t 9 5 mX8_who mX9_who [.inl w] M := by
  have ok := bstM_ok h.hM h.hWM
  refine pr_sc (A := fun v => (¬ (0 ≤ w ∧ w < M 56 0) ∧ v = -1) ∨ ((0 ≤ w ∧ w < M 56 0) ∧ ¬ 0 < (bstM M).2.length ∧ v = -4) ∨ ((0 ≤ w ∧ w < M 56 0) ∧ 0 < (bstM M).2.length ∧ ∀ i, i < (bstM M).2.length → pF (bstM M).2 i ≤ w → w < pF (bstM M).2 (i + 1) → v = pW (bstM M).2 i)) hz h (ct_mono (c_X8_who L M h.hB h.hW h.2.2.2.2.2.2.2.1 w) (fun r N q => ?_)) (fun N hN e => ct_mono (c_X9_who L N hN.hM hN.hWM w) (fun r N' q => ?_)) (fun v v' a a' => ?_)
  · rw [h.bst, h.2.1.1] at q
    obtain ⟨q1, q2 | q2 | q2⟩ := q
    · exact ⟨frX_cl q1, _, q2.2, Or.inl ⟨q2.1, rfl⟩⟩
    · exact ⟨frX_cl q1, _, q2.2.2, Or.inr (Or.inl ⟨q2.1, q2.2.1, rfl⟩)⟩
    · obtain ⟨q2, q3, q4⟩ := q2
      rcases ok with ok | ⟨_, _, ok, _⟩
      · rw [ok] at q3; simp at q3
      · obtain ⟨i, i1, i2, i3⟩ := pF_find (bstM M).2 w q2.1 (bstM M).2.length (by rw [pF_len, ok]; omega)
        refine ⟨frX_cl q1, _, q4 i i1 i2 i3, Or.inr (Or.inr ⟨q2, q3, fun j j1 j2 j3 => ?_⟩)⟩
        have := q4 i i1 i2 i3
        rw [q4 j j1 j2 j3] at this
        simpa using this.symm
  · rw [bstM_cg e, e 56 (by omega)] at q
    obtain ⟨q1, q2 | q2 | q2⟩ := q
    · exact ⟨gM_md q1, _, q2.2, Or.inl ⟨q2.1, rfl⟩⟩
    · exact ⟨gM_md q1, _, q2.2.2, Or.inr (Or.inl ⟨q2.1, q2.2.1, rfl⟩)⟩
    · obtain ⟨q2, q3, i, i1, i2, i3, i4⟩ := q2
      refine ⟨gM_md q1, _, i4, Or.inr (Or.inr ⟨q2, q3, fun j j1 j2 j3 => ?_⟩)⟩
      have : i = j := by
        by_cases lt : i < j
        · exfalso
          have := pF_mono (bstM M).2 (i + 1) (j - (i + 1))
          rw [show i + 1 + (j - (i + 1)) = j by omega] at this
          omega
        · by_cases gt : j < i
          · exfalso
            have := pF_mono (bstM M).2 (j + 1) (i - (j + 1))
            rw [show j + 1 + (i - (j + 1)) = i by omega] at this
            omega
          · omega
      rw [this]
  · rcases a with ⟨a1, a2⟩ | ⟨a1, a2, a3⟩ | ⟨a1, a2, a3⟩
    · rcases a' with ⟨b1, b2⟩ | ⟨b1, b2, b3⟩ | ⟨b1, b2, b3⟩ <;> omega
    · rcases a' with ⟨b1, b2⟩ | ⟨b1, b2, b3⟩ | ⟨b1, b2, b3⟩ <;> omega
    · rcases a' with ⟨b1, b2⟩ | ⟨b1, b2, b3⟩ | ⟨b1, b2, b3⟩
      · omega
      · omega
      · rcases ok with ok | ⟨_, _, ok, _⟩
        · rw [ok] at a2; simp at a2
        · obtain ⟨i, i1, i2, i3⟩ := pF_find (bstM M).2 w a1.1 (bstM M).2.length (by rw [pF_len, ok]; omega)
          rw [a3 i i1 i2 i3, b3 i i1 i2 i3]
end PrB
