/-! ===== CALLS: keep, back, up ===== -/
section PrE
variable {L : Nat} {M V W : ab_Me} {t : Int}
theorem okS_cg2 (h : okS V t) (s30 : W 3 0 = V 3 0) (s31 : W 3 1 = V 3 1) (r4 : W 4 = V 4) (s50 : W 5 0 = V 5 0) (r7 : W 7 = V 7) (s80 : W 8 0 = V 8 0) (r9 : W 9 = V 9) (r10 : W 10 = V 10) (s110 : W 11 0 = V 11 0) (s111 : W 11 1 = V 11 1) (s116 : W 11 6 = V 11 6) (r12 : W 12 = V 12) (r13 : W 13 = V 13) (r14 : W 14 = V 14) (r15 : W 15 = V 15) (r16 : W 16 = V 16) : okS W t := by
  obtain ⟨h1, h2, h3, h4, h5⟩ := h
  refine ⟨?_, ?_, ?_, ?_, fun q => ?_⟩
  · unfold okB hB; rw [s30, s31, r4]; exact h1
  · unfold okL; rw [s50, r7]; exact h2
  · unfold okW hW; rw [s80, r9, r10]; exact h3
  · unfold okM; rw [s110, s111, s116, r12, r13, r14, r15, r16]; exact h4
  · rw [s110] at q
    unfold stdL fX4; rw [s30, s31, r4, s110, s116, r13, r14, r15, r16]; exact h5 q
theorem row_eq {f g : Nat → Int} (n : Nat) (h1 : ∀ k, k < n → f k = g k) (h2 : ∀ k, n ≤ k → f k = 0) (h3 : ∀ k, n ≤ k → g k = 0) : f = g := by
  funext k
  by_cases q : k < n
  · exact h1 k q
  · rw [h2 k (by omega), h3 k (by omega)]
theorem cpR_self (n D S : Nat) (M : ab_Me) {k : Nat} (h : k < n) : cpR n D S M D k = M S k := by
  unfold cpR
  rw [ab_rw_self, if_pos h]
theorem cpR_ne (n D S : Nat) (M : ab_Me) {a : Nat} (h : a ≠ D) : cpR n D S M a = M a := by
  unfold cpR
  rw [ab_rw_ne _ _ h]
/-- a shop copied from S to D: its rows -/
theorem cpS_rows (D S : Nat) (M : ab_Me) (hDS : D = 18 ∧ S = 2 ∨ D = 2 ∧ S = 18) :
    (∀ a, ¬ (D < a ∧ a < D + 15) → cpS D S M a = M a) ∧ (cpS D S M (D + 1) 0 = M (S + 1) 0 ∧ cpS D S M (D + 1) 1 = M (S + 1) 1) ∧ (∀ k, k < 120 → cpS D S M (D + 2) k = M (S + 2) k) ∧ cpS D S M (D + 3) 0 = M (S + 3) 0 ∧ (∀ k, k < 12 → cpS D S M (D + 4) k = M (S + 4) k ∧ cpS D S M (D + 5) k = M (S + 5) k) ∧ cpS D S M (D + 6) 0 = M (S + 6) 0 ∧ (∀ k, k < 4 → cpS D S M (D + 7) k = M (S + 7) k ∧ cpS D S M (D + 8) k = M (S + 8) k) ∧ (cpS D S M (D + 9) 0 = M (S + 9) 0 ∧ cpS D S M (D + 9) 1 = M (S + 9) 1 ∧ cpS D S M (D + 9) 6 = M (S + 9) 6) ∧ (∀ k, k < 4 → cpS D S M (D + 10) k = M (S + 10) k ∧ cpS D S M (D + 11) k = M (S + 11) k ∧ cpS D S M (D + 12) k = M (S + 12) k ∧ cpS D S M (D + 13) k = M (S + 13) k) ∧ ∀ k, k < 44 → cpS D S M (D + 14) k = M (S + 14) k := by
  have B : ∀ (N : ab_Me) a, a ≠ D + 1 → a ≠ D + 2 → cpB (D + 1) (S + 1) N a = N a := fun N a h1 h2 => by
    unfold cpB
    rw [cpR_ne _ _ _ _ h2, ab_up_ne _ _ _ h1, ab_up_ne _ _ _ h1]
  have Lo : ∀ (N : ab_Me) a, a ≠ D + 3 → a ≠ D + 4 → a ≠ D + 5 → cpL (D + 3) (S + 3) N a = N a := fun N a h1 h2 h3 => by
    unfold cpL
    rw [cpR_ne _ _ _ _ h3, cpR_ne _ _ _ _ h2, ab_up_ne _ _ _ h1]
  have We : ∀ (N : ab_Me) a, a ≠ D + 6 → a ≠ D + 7 → a ≠ D + 8 → cpW (D + 6) (S + 6) N a = N a := fun N a h1 h2 h3 => by
    unfold cpW
    rw [cpR_ne _ _ _ _ h3, cpR_ne _ _ _ _ h2, ab_up_ne _ _ _ h1]
  have Mo : ∀ (N : ab_Me) a, ¬ (D + 9 ≤ a ∧ a ≤ D + 14) → cpM (D + 9) (S + 9) N a = N a := fun N a h => by
    unfold cpM
    rw [cpR_ne _ _ _ _ (by omega), cpR_ne _ _ _ _ (by omega), cpR_ne _ _ _ _ (by omega), cpR_ne _ _ _ _ (by omega), cpR_ne _ _ _ _ (by omega), ab_up_ne _ _ _ (by omega), ab_up_ne _ _ _ (by omega), ab_up_ne _ _ _ (by omega)]
  have src : ∀ a, S < a → a < S + 15 → cpB (D + 1) (S + 1) M a = M a ∧ cpL (D + 3) (S + 3) (cpB (D + 1) (S + 1) M) a = M a ∧ cpW (D + 6) (S + 6) (cpL (D + 3) (S + 3) (cpB (D + 1) (S + 1) M)) a = M a := fun a h1 h2 => by
    have e1 := B M a (by omega) (by omega)
    have e2 := Lo (cpB (D + 1) (S + 1) M) a (by omega) (by omega) (by omega)
    have e3 := We (cpL (D + 3) (S + 3) (cpB (D + 1) (S + 1) M)) a (by omega) (by omega) (by omega)
    exact ⟨e1, by rw [e2, e1], by rw [e3, e2, e1]⟩
  refine ⟨fun a ha => ?_, ⟨?_, ?_⟩, fun k hk => ?_, ?_, fun k hk => ⟨?_, ?_⟩, ?_, fun k hk => ⟨?_, ?_⟩, ⟨?_, ?_, ?_⟩, fun k hk => ⟨?_, ?_, ?_, ?_⟩, fun k hk => ?_⟩
  · unfold cpS
    rw [Mo _ a (by omega), We _ a (by omega) (by omega) (by omega), Lo _ a (by omega) (by omega) (by omega), B _ a (by omega) (by omega)]
  · unfold cpS
    rw [Mo _ _ (by omega), We _ _ (by omega) (by omega) (by omega), Lo _ _ (by omega) (by omega) (by omega)]
    unfold cpB
    rw [cpR_ne _ _ _ _ (by omega), ab_up_self, ab_u1_ne _ _ (by decide), ab_up_self, ab_u1_self]
  · unfold cpS
    rw [Mo _ _ (by omega), We _ _ (by omega) (by omega) (by omega), Lo _ _ (by omega) (by omega) (by omega)]
    unfold cpB
    rw [cpR_ne _ _ _ _ (by omega), ab_up_self, ab_u1_self]
  · unfold cpS
    rw [Mo _ _ (by omega), We _ _ (by omega) (by omega) (by omega), Lo _ _ (by omega) (by omega) (by omega)]
    unfold cpB
    rw [show D + 1 + 1 = D + 2 from rfl, show S + 1 + 1 = S + 2 from rfl, cpR_self _ _ _ _ hk, ab_up_ne _ _ _ (by omega), ab_up_ne _ _ _ (by omega)]
  · unfold cpS
    rw [Mo _ _ (by omega), We _ _ (by omega) (by omega) (by omega)]
    unfold cpL
    rw [cpR_ne _ _ _ _ (by omega), cpR_ne _ _ _ _ (by omega), ab_up_self, ab_u1_self, (src _ (by omega) (by omega)).1]
  · unfold cpS
    rw [Mo _ _ (by omega), We _ _ (by omega) (by omega) (by omega)]
    unfold cpL
    rw [cpR_ne _ _ _ _ (by omega), show D + 3 + 1 = D + 4 from rfl, show S + 3 + 1 = S + 4 from rfl, cpR_self _ _ _ _ hk, ab_up_ne _ _ _ (by omega), (src _ (by omega) (by omega)).1]
  · unfold cpS
    rw [Mo _ _ (by omega), We _ _ (by omega) (by omega) (by omega)]
    unfold cpL
    rw [show D + 3 + 2 = D + 5 from rfl, show S + 3 + 2 = S + 5 from rfl, cpR_self _ _ _ _ hk, cpR_ne _ _ _ _ (by omega), ab_up_ne _ _ _ (by omega), (src _ (by omega) (by omega)).1]
  · unfold cpS
    rw [Mo _ _ (by omega)]
    unfold cpW
    rw [cpR_ne _ _ _ _ (by omega), cpR_ne _ _ _ _ (by omega), ab_up_self, ab_u1_self, (src _ (by omega) (by omega)).2.1]
  · unfold cpS
    rw [Mo _ _ (by omega)]
    unfold cpW
    rw [cpR_ne _ _ _ _ (by omega), show D + 6 + 1 = D + 7 from rfl, show S + 6 + 1 = S + 7 from rfl, cpR_self _ _ _ _ hk, ab_up_ne _ _ _ (by omega), (src _ (by omega) (by omega)).2.1]
  · unfold cpS
    rw [Mo _ _ (by omega)]
    unfold cpW
    rw [show D + 6 + 2 = D + 8 from rfl, show S + 6 + 2 = S + 8 from rfl, cpR_self _ _ _ _ hk, cpR_ne _ _ _ _ (by omega), ab_up_ne _ _ _ (by omega), (src _ (by omega) (by omega)).2.1]
  · unfold cpS cpM
    rw [cpR_ne _ _ _ _ (by omega), cpR_ne _ _ _ _ (by omega), cpR_ne _ _ _ _ (by omega), cpR_ne _ _ _ _ (by omega), cpR_ne _ _ _ _ (by omega), ab_up_self, ab_u1_ne _ _ (by decide), ab_up_self, ab_u1_ne _ _ (by decide), ab_up_self, ab_u1_self, (src _ (by omega) (by omega)).2.2]
  · unfold cpS cpM
    rw [cpR_ne _ _ _ _ (by omega), cpR_ne _ _ _ _ (by omega), cpR_ne _ _ _ _ (by omega), cpR_ne _ _ _ _ (by omega), cpR_ne _ _ _ _ (by omega), ab_up_self, ab_u1_ne _ _ (by decide), ab_up_self, ab_u1_self, (src _ (by omega) (by omega)).2.2]
  · unfold cpS cpM
    rw [cpR_ne _ _ _ _ (by omega), cpR_ne _ _ _ _ (by omega), cpR_ne _ _ _ _ (by omega), cpR_ne _ _ _ _ (by omega), cpR_ne _ _ _ _ (by omega), ab_up_self, ab_u1_self, (src _ (by omega) (by omega)).2.2]
  · unfold cpS cpM
    rw [cpR_ne _ _ _ _ (by omega), cpR_ne _ _ _ _ (by omega), cpR_ne _ _ _ _ (by omega), cpR_ne _ _ _ _ (by omega), show D + 9 + 1 = D + 10 from rfl, show S + 9 + 1 = S + 10 from rfl, cpR_self _ _ _ _ hk, ab_up_ne _ _ _ (by omega), ab_up_ne _ _ _ (by omega), ab_up_ne _ _ _ (by omega), (src _ (by omega) (by omega)).2.2]
  · unfold cpS cpM
    rw [cpR_ne _ _ _ _ (by omega), cpR_ne _ _ _ _ (by omega), cpR_ne _ _ _ _ (by omega), show D + 9 + 2 = D + 11 from rfl, show S + 9 + 2 = S + 11 from rfl, cpR_self _ _ _ _ hk, cpR_ne _ _ _ _ (by omega), ab_up_ne _ _ _ (by omega), ab_up_ne _ _ _ (by omega), ab_up_ne _ _ _ (by omega), (src _ (by omega) (by omega)).2.2]
  · unfold cpS cpM
    rw [cpR_ne _ _ _ _ (by omega), cpR_ne _ _ _ _ (by omega), show D + 9 + 3 = D + 12 from rfl, show S + 9 + 3 = S + 12 from rfl, cpR_self _ _ _ _ hk, cpR_ne _ _ _ _ (by omega), cpR_ne _ _ _ _ (by omega), ab_up_ne _ _ _ (by omega), ab_up_ne _ _ _ (by omega), ab_up_ne _ _ _ (by omega), (src _ (by omega) (by omega)).2.2]
  · unfold cpS cpM
    rw [cpR_ne _ _ _ _ (by omega), show D + 9 + 4 = D + 13 from rfl, show S + 9 + 4 = S + 13 from rfl, cpR_self _ _ _ _ hk, cpR_ne _ _ _ _ (by omega), cpR_ne _ _ _ _ (by omega), cpR_ne _ _ _ _ (by omega), ab_up_ne _ _ _ (by omega), ab_up_ne _ _ _ (by omega), ab_up_ne _ _ _ (by omega), (src _ (by omega) (by omega)).2.2]
  · unfold cpS cpM
    rw [show D + 9 + 5 = D + 14 from rfl, show S + 9 + 5 = S + 14 from rfl, cpR_self _ _ _ _ hk, cpR_ne _ _ _ _ (by omega), cpR_ne _ _ _ _ (by omega), cpR_ne _ _ _ _ (by omega), cpR_ne _ _ _ _ (by omega), ab_up_ne _ _ _ (by omega), ab_up_ne _ _ _ (by omega), ab_up_ne _ _ _ (by omega), (src _ (by omega) (by omega)).2.2]
theorem p_keep (hz : Zm L M) (h : Inv t M) : pr L t 3 3 mX8_keep mX9_keep [] M := by
  obtain ⟨c0, c1, c2, c3, c4, c5, c6, c7, c8, c9⟩ := cpS_rows 18 2 M (Or.inl ⟨rfl, rfl⟩)
  have g1 := c_X8_keep L M h.hW.2.2
  have z1 := cG_Z g1 hz
  have fr : ∀ a, a ≠ 1 → ¬ (18 < a ∧ a < 33) → ab_up (cpS 18 2 M) 1 2 1 a = M a := fun a h1 h2 => by rw [ab_up_ne _ _ _ h1]; exact c0 a h2
  have rw' : ∀ a, a ≠ 1 → ab_up (cpS 18 2 M) 1 2 1 a = cpS 18 2 M a := fun a h1 => ab_up_ne _ _ _ h1
  have e1 : ab_up (cpS 18 2 M) 1 2 1 1 2 = 1 := by rw [ab_up_self, ab_u1_self]
  have e1' : ∀ j, j ≠ 2 → ab_up (cpS 18 2 M) 1 2 1 1 j = M 1 j := fun j hj => by rw [ab_up_self, ab_u1_ne _ _ hj, c0 1 (by omega)]
  generalize ab_up (cpS 18 2 M) 1 2 1 = N at g1 z1 fr rw' e1 e1'
  have hMN : hM N := by unfold hM; rw [fr 56 (by omega) (by omega), fr 57 (by omega) (by omega), fr 58 (by omega) (by omega)]; exact h.hM
  have h62 : ∀ k, N 62 k = 0 ∨ N 62 k = 1 := by rw [fr 62 (by omega) (by omega), ← h.2.2.2.1.2.2]; exact h.hW.2.2
  refine pr_of hz (Q1 := fun r N' => r = some (.inl 1) ∧ N' = N) ⟨_, _, g1, rfl, rfl⟩ (fun r N' q _ => ?_)
  obtain ⟨rfl, rfl⟩ := q
  refine ⟨fr 0 (by omega) (by omega), 1, rfl, ct_mono (c_X9_keep L N' hMN h62) (fun r' P q z => ?_)⟩
  obtain ⟨rfl, k1, k2, ⟨k30, k31, k32, k33, k34, k35⟩, k4, k5, k6, k7, k8⟩ := q
  have frP : ∀ a, a ≠ 1 → ¬ (18 < a ∧ a < 33) → a ≠ 56 → ¬ (67 ≤ a ∧ a ≤ 71) → P a = M a := fun a h1 h2 h3 h4 => by rw [k8 a h3 (by omega) (by omega) (by omega) (by omega) (by omega)]; exact fr a h1 h2
  have frK : ∀ a, 18 < a → a < 33 → P a = cpS 18 2 M a := fun a h1 h2 => by rw [k8 a (by omega) (by omega) (by omega) (by omega) (by omega) (by omega)]; exact rw' a (by omega)
  have m56 : ∀ j, j ≠ 18 → P 56 j = M 56 j := fun j hj => by rw [k2 j hj, fr 56 (by omega) (by omega)]
  have p1 : P 1 2 = 1 := by rw [k8 1 (by omega) (by omega) (by omega) (by omega) (by omega) (by omega)]; exact e1
  have p1' : ∀ j, j ≠ 2 → P 1 j = M 1 j := fun j hj => by rw [k8 1 (by omega) (by omega) (by omega) (by omega) (by omega) (by omega)]; exact e1' j hj
  refine ⟨rfl, frP 0 (by omega) (by omega) (by omega) (by omega), ?_⟩
  obtain ⟨i1, i2, i3, i4, i5, i6, i7, i8⟩ := id h
  have x : ∀ a, 3 ≤ a → a ≤ 17 → P a = M a := fun a h1 h2 => frP a (by omega) (by omega) (by omega) (by omega)
  have y : ∀ a, 57 ≤ a → a ≤ 66 → P a = M a := fun a h1 h2 => frP a (by omega) (by omega) (by omega) (by omega)
  have q68 : ∀ k, k < 120 → P 68 k = M 4 k := fun k hk => by rw [k4 k hk, fr 57 (by omega) (by omega), fr 58 (by omega) (by omega), i2.2.2.1 k]
  have b5 := h.hB.2.2.2.2
  have r20 : P 20 = M 4 := row_eq 120 (fun k hk => by rw [frK 20 (by omega) (by omega)]; exact c2 k hk) (fun k hk => z.z 20 rfl hk) (fun k hk => hz.z 4 rfl hk)
  have r23 : P 23 = M 7 := row_eq 12 (fun k hk => by rw [frK 23 (by omega) (by omega)]; exact (c4 k hk).2) (fun k hk => z.z 23 rfl hk) (fun k hk => hz.z 7 rfl hk)
  have r25 : P 25 = M 9 := row_eq 4 (fun k hk => by rw [frK 25 (by omega) (by omega)]; exact (c6 k hk).1) (fun k hk => z.z 25 rfl hk) (fun k hk => hz.z 9 rfl hk)
  have r26 : P 26 = M 10 := row_eq 4 (fun k hk => by rw [frK 26 (by omega) (by omega)]; exact (c6 k hk).2) (fun k hk => z.z 26 rfl hk) (fun k hk => hz.z 10 rfl hk)
  have r28 : P 28 = M 12 := row_eq 4 (fun k hk => by rw [frK 28 (by omega) (by omega)]; exact (c8 k hk).1) (fun k hk => z.z 28 rfl hk) (fun k hk => hz.z 12 rfl hk)
  have r29 : P 29 = M 13 := row_eq 4 (fun k hk => by rw [frK 29 (by omega) (by omega)]; exact (c8 k hk).2.1) (fun k hk => z.z 29 rfl hk) (fun k hk => hz.z 13 rfl hk)
  have r30 : P 30 = M 14 := row_eq 4 (fun k hk => by rw [frK 30 (by omega) (by omega)]; exact (c8 k hk).2.2.1) (fun k hk => z.z 30 rfl hk) (fun k hk => hz.z 14 rfl hk)
  have r31 : P 31 = M 15 := row_eq 4 (fun k hk => by rw [frK 31 (by omega) (by omega)]; exact (c8 k hk).2.2.2) (fun k hk => z.z 31 rfl hk) (fun k hk => hz.z 15 rfl hk)
  have r32 : P 32 = M 16 := row_eq 44 (fun k hk => by rw [frK 32 (by omega) (by omega)]; exact c9 k hk) (fun k hk => z.z 32 rfl hk) (fun k hk => hz.z 16 rfl hk)
  have s190 : P 19 0 = M 3 0 := by rw [frK 19 (by omega) (by omega)]; exact c1.1
  have s191 : P 19 1 = M 3 1 := by rw [frK 19 (by omega) (by omega)]; exact c1.2
  have s21 : P 21 0 = M 5 0 := by rw [frK 21 (by omega) (by omega)]; exact c3
  have s24 : P 24 0 = M 8 0 := by rw [frK 24 (by omega) (by omega)]; exact c5
  have s270 : P 27 0 = M 11 0 := by rw [frK 27 (by omega) (by omega)]; exact c7.1
  have s271 : P 27 1 = M 11 1 := by rw [frK 27 (by omega) (by omega)]; exact c7.2.1
  have s276 : P 27 6 = M 11 6 := by rw [frK 27 (by omega) (by omega)]; exact c7.2.2
  refine ⟨okS_t (okS_cg i1 (fun a h1 h2 => x a h1 (by omega))) (by omega), eqB_cg i2 (x 3 (by omega) (by omega)) (x 4 (by omega) (by omega)) (m56 0 (by decide)) (m56 1 (by decide)) (y 57 (by omega) (by omega)) (y 58 (by omega) (by omega)), eqL_cg i3 (x 5 (by omega) (by omega)) (x 6 (by omega) (by omega)) (x 7 (by omega) (by omega)) (m56 4 (by decide)) (y 59 (by omega) (by omega)) (y 60 (by omega) (by omega)), eqW_cg i4 (x 8 (by omega) (by omega)) (x 9 (by omega) (by omega)) (x 10 (by omega) (by omega)) (m56 7 (by decide)) (y 61 (by omega) (by omega)) (y 62 (by omega) (by omega)), eqO_t (eqO_cg i5 (x 11 (by omega) (by omega)) (x 12 (by omega) (by omega)) (x 13 (by omega) (by omega)) (x 14 (by omega) (by omega)) (x 15 (by omega) (by omega)) (m56 12 (by decide)) (m56 13 (by decide)) (y 63 (by omega) (by omega)) (y 64 (by omega) (by omega)) (y 65 (by omega) (by omega)) (y 66 (by omega) (by omega))) (by omega), ?_, ⟨Or.inr p1, by rw [p1, k1], by rw [r26]; exact h.hW.2.2, fun k => ?_, fun _ => ⟨okS_t (okS_cg2 i1 s190 s191 r20 s21 r23 s24 r25 r26 s270 s271 s276 r28 r29 r30 r31 r32) (by omega), ?_⟩⟩, ?_⟩
  · unfold eqR
    rw [p1' 3 (by decide), p1' 4 (by decide), m56 10 (by decide), m56 11 (by decide)]
    exact i6
  · by_cases q : k < 120
    · rw [q68 k q]; exact b5 k
    · rw [z.z 68 rfl (by omega)]; omega
  · refine ⟨⟨by rw [s190, k30, fr 56 (by omega) (by omega)]; exact i2.1, by rw [s191, k31, fr 56 (by omega) (by omega)]; exact i2.2.1⟩, fun k hk => by rw [r20, q68 k hk], by rw [s21, k32, fr 56 (by omega) (by omega)]; exact i3.1, fun k hk => ⟨?_, ?_⟩, by rw [s24, k33, fr 56 (by omega) (by omega)]; exact i4.1, fun k hk => ⟨?_, ?_⟩, by rw [s270, k34, fr 56 (by omega) (by omega)]; exact i5.1, ⟨fun q => ?_, ?_, ?_⟩, fun k hk => ⟨?_, ?_, ?_, ?_⟩⟩
    · rw [frK 22 (by omega) (by omega), (k5 k hk).1, fr 59 (by omega) (by omega), ← i3.2.1]; exact (c4 k hk).1
    · rw [r23, (k5 k hk).2, fr 60 (by omega) (by omega), ← i3.2.2]
    · rw [r25, (k6 k hk).1, fr 61 (by omega) (by omega), ← i4.2.1]
    · rw [r26, (k6 k hk).2, fr 62 (by omega) (by omega), ← i4.2.2]
    · rw [s270] at q
      rw [s271, k35, fr 56 (by omega) (by omega)]; exact i5.2.2.1 q
    · rw [k35, fr 56 (by omega) (by omega)]; exact i5.2.2.2.1
    · rw [k35, fr 56 (by omega) (by omega)]; have := i5.2.2.2.2; omega
    · rw [r28, (k7 k hk).1, fr 63 (by omega) (by omega), ← i5.2.1.1]
    · rw [r29, (k7 k hk).2.1, fr 64 (by omega) (by omega), ← i5.2.1.2.1]
    · rw [r30, (k7 k hk).2.2.1, fr 65 (by omega) (by omega), ← i5.2.1.2.2.1]
    · rw [r31, (k7 k hk).2.2.2, fr 66 (by omega) (by omega), ← i5.2.1.2.2.2]
  · unfold scr
    rw [frP 52 (by omega) (by omega) (by omega) (by omega), frP 53 (by omega) (by omega) (by omega) (by omega), x 17 (by omega) (by omega), frP 85 (by omega) (by omega) (by omega) (by omega)]
    exact i8
theorem p_back (hz : Zm L M) (h : Inv t M) : pr L t 3 1 mX8_back mX9_back [] M := by
  obtain ⟨i1, i2, i3, i4, i5, i6, i7, i8⟩ := id h
  obtain ⟨k1, k2, k3, k4, k5⟩ := id i7
  have g1 := c_X8_back L M k3
  by_cases a : M 1 2 = 0
  · rw [if_pos a, if_pos a] at g1
    refine pr_of hz (Q1 := fun r N' => r = some (.inl (-4)) ∧ N' = M) ⟨_, _, g1, rfl, rfl⟩ (fun r N' q _ => ?_)
    obtain ⟨rfl, rfl⟩ := q
    refine ⟨rfl, -4, rfl, ct_mono (c_X9_back L N' k4) (fun r' P q z => ?_)⟩
    rcases q with ⟨_, q2, q3⟩ | ⟨q1, _⟩
    · subst q3
      exact ⟨q2, rfl, Inv_fr h (by omega) (fun _ _ _ _ => rfl) (fun _ _ => rfl) (fun _ _ _ => rfl) i8⟩
    · rw [← k2] at q1
      exact absurd a q1
  · rw [if_neg a, if_neg a] at g1
    have a1 : M 1 2 = 1 := by omega
    obtain ⟨ok, ⟨⟨e0, e1⟩, e2, e3, e4, e5, e6, e7, ⟨e8, e9, e10⟩, e11⟩⟩ := k5 a1
    obtain ⟨c0, c1, c2, c3, c4, c5, c6, c7, c8, c9⟩ := cpS_rows 2 18 M (Or.inr ⟨rfl, rfl⟩)
    generalize cpS 2 18 M = N at g1 c0 c1 c2 c3 c4 c5 c6 c7 c8 c9
    refine pr_of hz (Q1 := fun r N' => r = some (.inl 1) ∧ N' = N) ⟨_, _, g1, rfl, rfl⟩ (fun r N' q zN => ?_)
    obtain ⟨rfl, rfl⟩ := q
    have fr : ∀ a, ¬ (2 < a ∧ a < 17) → N' a = M a := c0
    refine ⟨fr 0 (by omega), 1, rfl, ct_mono (c_X9_back L N' (by rw [fr 68 (by omega)]; exact k4)) (fun r' P q z => ?_)⟩
    rcases q with ⟨q1, _⟩ | ⟨_, q2, p56, p57, p59, p61, pf⟩
    · rw [fr 56 (by omega), ← k2] at q1
      exact absurd q1 a
    · refine ⟨q2, by rw [pf 0 (by omega)]; exact fr 0 (by omega), ?_⟩
      have x : ∀ a, 2 < a → a < 17 → P a = N' a := fun a h1 h2 => pf a (by omega)
      have y : ∀ a, ¬ (2 < a ∧ a < 17) → (a < 56 ∨ 66 < a) → P a = M a := fun a h1 h2 => by rw [pf a h2]; exact fr a h1
      have f67 : N' 67 = M 67 := fr 67 (by omega)
      have f68 : N' 68 = M 68 := fr 68 (by omega)
      have f69 : N' 69 = M 69 := fr 69 (by omega)
      have f70 : N' 70 = M 70 := fr 70 (by omega)
      have f71 : N' 71 = M 71 := fr 71 (by omega)
      have f56 : N' 56 = M 56 := fr 56 (by omega)
      rw [f68] at p57
      rw [f69] at p59
      rw [f70, f71] at p61
      have s56 : P 56 0 = M 67 0 ∧ P 56 1 = M 67 1 ∧ P 56 4 = M 67 2 ∧ P 56 7 = M 67 3 ∧ P 56 12 = M 67 4 ∧ P 56 13 = M 67 5 := by
        rw [p56, ← f67]
        exact ⟨rfl, rfl, rfl, rfl, rfl, rfl⟩
      have s56' : P 56 10 = M 56 10 ∧ P 56 11 = M 56 11 ∧ P 56 18 = M 56 18 := by
        rw [p56, ← f56]
        exact ⟨rfl, rfl, rfl⟩
      have r4 : P 4 = M 20 := row_eq 120 (fun k hk => by rw [x 4 (by omega) (by omega)]; exact c2 k hk) (fun k hk => z.z 4 rfl hk) (fun k hk => hz.z 20 rfl hk)
      have r6 : P 6 = M 22 := row_eq 12 (fun k hk => by rw [x 6 (by omega) (by omega)]; exact (c4 k hk).1) (fun k hk => z.z 6 rfl hk) (fun k hk => hz.z 22 rfl hk)
      have r7 : P 7 = M 23 := row_eq 12 (fun k hk => by rw [x 7 (by omega) (by omega)]; exact (c4 k hk).2) (fun k hk => z.z 7 rfl hk) (fun k hk => hz.z 23 rfl hk)
      have r9 : P 9 = M 25 := row_eq 4 (fun k hk => by rw [x 9 (by omega) (by omega)]; exact (c6 k hk).1) (fun k hk => z.z 9 rfl hk) (fun k hk => hz.z 25 rfl hk)
      have r10 : P 10 = M 26 := row_eq 4 (fun k hk => by rw [x 10 (by omega) (by omega)]; exact (c6 k hk).2) (fun k hk => z.z 10 rfl hk) (fun k hk => hz.z 26 rfl hk)
      have r12 : P 12 = M 28 := row_eq 4 (fun k hk => by rw [x 12 (by omega) (by omega)]; exact (c8 k hk).1) (fun k hk => z.z 12 rfl hk) (fun k hk => hz.z 28 rfl hk)
      have r13 : P 13 = M 29 := row_eq 4 (fun k hk => by rw [x 13 (by omega) (by omega)]; exact (c8 k hk).2.1) (fun k hk => z.z 13 rfl hk) (fun k hk => hz.z 29 rfl hk)
      have r14 : P 14 = M 30 := row_eq 4 (fun k hk => by rw [x 14 (by omega) (by omega)]; exact (c8 k hk).2.2.1) (fun k hk => z.z 14 rfl hk) (fun k hk => hz.z 30 rfl hk)
      have r15 : P 15 = M 31 := row_eq 4 (fun k hk => by rw [x 15 (by omega) (by omega)]; exact (c8 k hk).2.2.2) (fun k hk => z.z 15 rfl hk) (fun k hk => hz.z 31 rfl hk)
      have r16 : P 16 = M 32 := row_eq 44 (fun k hk => by rw [x 16 (by omega) (by omega)]; exact c9 k hk) (fun k hk => z.z 16 rfl hk) (fun k hk => hz.z 32 rfl hk)
      have s30 : P 3 0 = M 19 0 := by rw [x 3 (by omega) (by omega)]; exact c1.1
      have s31 : P 3 1 = M 19 1 := by rw [x 3 (by omega) (by omega)]; exact c1.2
      have s5 : P 5 0 = M 21 0 := by rw [x 5 (by omega) (by omega)]; exact c3
      have s8 : P 8 0 = M 24 0 := by rw [x 8 (by omega) (by omega)]; exact c5
      have s110 : P 11 0 = M 27 0 := by rw [x 11 (by omega) (by omega)]; exact c7.1
      have s111 : P 11 1 = M 27 1 := by rw [x 11 (by omega) (by omega)]; exact c7.2.1
      have s116 : P 11 6 = M 27 6 := by rw [x 11 (by omega) (by omega)]; exact c7.2.2
      have q57 : ∀ k, P 4 k = P 57 k + 8 * P 58 k ∧ (0 ≤ P 57 k ∧ P 57 k < 8) ∧ (P 58 k = 0 ∨ P 58 k = 1) := fun k => by
        by_cases q : k < 120
        · rw [(p57 k q).1, (p57 k q).2, r4, e2 k q]
          have := k4 k
          by_cases w : 7 < M 68 k
          · rw [if_pos w]; omega
          · rw [if_neg w]; omega
        · rw [z.z 4 rfl (show 120 ≤ k by omega), z.z 57 rfl (show 120 ≤ k by omega), z.z 58 rfl (show 120 ≤ k by omega)]
          omega
      refine ⟨okS_t (okS_cg2 (V := sh16 M) ok s30 s31 r4 s5 r7 s8 r9 r10 s110 s111 s116 r12 r13 r14 r15 r16) (by omega), ⟨by rw [s30, s56.1]; exact e0, by rw [s31, s56.2.1]; exact e1, fun k => (q57 k).1, fun k => (q57 k).2.1, fun k => (q57 k).2.2⟩, ⟨by rw [s5, s56.2.2.1]; exact e3, ?_, ?_⟩, ⟨by rw [s8, s56.2.2.2.1]; exact e5, ?_, ?_⟩, ⟨by rw [s110, s56.2.2.2.2.1]; exact e7, ⟨?_, ?_, ?_, ?_⟩, fun q => ?_, ?_, ?_⟩, ?_, kep_cg i7 (by omega) (by rw [y 1 (by omega) (by omega)]) s56'.2.2 (fun a h1 h2 => y a (by omega) (by omega)) (fun a h1 h2 => y a (by omega) (by omega)), ?_⟩
      · rw [r6]; exact row_eq 12 (fun k hk => by rw [(p59 k hk).1]; exact (e4 k hk).1) (fun k hk => hz.z 22 rfl hk) (fun k hk => z.z 59 rfl hk)
      · rw [r7]; exact row_eq 12 (fun k hk => by rw [(p59 k hk).2]; exact (e4 k hk).2) (fun k hk => hz.z 23 rfl hk) (fun k hk => z.z 60 rfl hk)
      · rw [r9]; exact row_eq 4 (fun k hk => by rw [(p61 k hk).1]; exact (e6 k hk).1) (fun k hk => hz.z 25 rfl hk) (fun k hk => z.z 61 rfl hk)
      · rw [r10]
        refine row_eq 4 (fun k hk => ?_) (fun k hk => hz.z 26 rfl hk) (fun k hk => z.z 62 rfl hk)
        rw [(p61 k hk).2.1, ← (e6 k hk).2]
        have := k3 k
        by_cases w : M 26 k = 1
        · rw [if_pos w]; exact w
        · rw [if_neg w]; omega
      · rw [r12]; exact row_eq 4 (fun k hk => by rw [(p61 k hk).2.2.1]; exact (e11 k hk).1) (fun k hk => hz.z 28 rfl hk) (fun k hk => z.z 63 rfl hk)
      · rw [r13]; exact row_eq 4 (fun k hk => by rw [(p61 k hk).2.2.2.1]; exact (e11 k hk).2.1) (fun k hk => hz.z 29 rfl hk) (fun k hk => z.z 64 rfl hk)
      · rw [r14]; exact row_eq 4 (fun k hk => by rw [(p61 k hk).2.2.2.2.1]; exact (e11 k hk).2.2.1) (fun k hk => hz.z 30 rfl hk) (fun k hk => z.z 65 rfl hk)
      · rw [r15]; exact row_eq 4 (fun k hk => by rw [(p61 k hk).2.2.2.2.2]; exact (e11 k hk).2.2.2) (fun k hk => hz.z 31 rfl hk) (fun k hk => z.z 66 rfl hk)
      · rw [s110] at q
        rw [s111, s56.2.2.2.2.2]; exact e8 q
      · rw [s56.2.2.2.2.2]; exact e9
      · rw [s56.2.2.2.2.2]; omega
      · unfold eqR
        rw [y 1 (by omega) (by omega), s56'.1, s56'.2.1]
        exact i6
      · unfold scr
        rw [y 52 (by omega) (by omega), y 53 (by omega) (by omega), y 17 (by omega) (by omega), y 85 (by omega) (by omega)]
        exact i8
theorem p_up (hz : Zm L M) (h : Inv t M) : pr L t 9 5 mX8_up mX9_up [] M := by
  obtain ⟨i1, i2, i3, i4, i5, i6, i7, i8⟩ := id h
  obtain ⟨j1, j2, j3, ⟨m1, m2, m3, m4, m5, m6, m7⟩, j5⟩ := id i1
  obtain ⟨o1, ⟨o2, o3, o4, o5⟩, o6, o7, o8⟩ := id i5
  have ok := bstM_ok h.hM h.hWM
  refine pr_of hz (c_X8_up L M h.hB h.hW i8.1 m7) (fun r N q zN => ?_)
  rw [h.bst] at q
  rcases q with ⟨q1, rfl, q2⟩ | ⟨q1, rfl, N0, q2, q3⟩
  · have hN := Inv_cl h (frX_cl q2)
    have e : ∀ a, 55 < a → N a = M a := fun a ha => q2.1 a (by omega)
    refine ⟨q2.1 0 (by omega), -4, rfl, ct_mono (c_X9_up L N hN.hM hN.hWM) (fun r' P q z => ?_)⟩
    rw [bstM_cg e] at q
    rcases q with ⟨_, g2, g3⟩ | ⟨g1, _⟩
    · have md := gM_md g3
      refine ⟨g2, by rw [md.1 0 (by omega)]; exact q2.1 0 (by omega), Inv_fr hN (by omega) (fun a h1 h2 h3 => md.1 a (by omega)) md.2 (fun a h1 h2 => md.1 a (by omega)) ?_⟩
      have := hN.2.2.2.2.2.2.2
      unfold scr at this ⊢
      rw [md.1 52 (by omega), md.1 53 (by omega), md.1 17 (by omega), md.1 85 (by omega)]
      exact this
    · exact absurd g1 q1
  · rcases ok with ok | ⟨ok0, ok1, ok2, ok3⟩
    · rw [ok] at q1; simp at q1
    · obtain ⟨u1, ⟨u2, u3, u4⟩, u5, u6, u7, u8, u9, u10⟩ := q3
      have e : ∀ a, 55 < a → N a = M a := fun a ha => by rw [u1 a (by omega)]; exact q2.1 a (by omega)
      have hMN : hM N := by unfold hM; rw [e 56 (by omega), e 57 (by omega), e 58 (by omega)]; exact h.hM
      have hWN : hWM N := by unfold hWM; rw [e 56 (by omega), e 61 (by omega), e 62 (by omega)]; exact h.hWM
      have n0 : N 0 = M 0 := by rw [u1 0 (by omega)]; exact q2.1 0 (by omega)
      refine ⟨n0, _, rfl, ct_mono (c_X9_up L N hMN hWN) (fun r' P q z => ?_)⟩
      rw [bstM_cg e] at q
      rcases q with ⟨g1, _⟩ | ⟨_, g2, N2, g3, v1, ⟨v2, v3, v4⟩, v5, v6, v7, v8⟩
      · exact absurd q1 g1
      · have hgt : ∀ k, k < (bstM M).2.length → ((bstM M).2.getD k (0, 0)).1 < (M 56 7).toNat ∧ 1 ≤ ((bstM M).2.getD k (0, 0)).2 := fun k hk => ok3 _ (by
          rw [List.getD_eq_getElem?_getD, List.getElem?_eq_getElem hk]
          exact List.getElem_mem hk)
        generalize (bstM M).2 = p at *
        have hw4 := h.hWM.1.2
        have hpW : ∀ k, k < p.length → 0 ≤ pW p k ∧ pW p k < 4 := fun k hk => by
          have := (hgt k hk).1
          unfold pW
          omega
        have hpN : ∀ k, k < p.length → 1 ≤ pN p k := fun k hk => by
          have := (hgt k hk).2
          unfold pN
          omega
        have hC12 := h.hM.2.1
        have hC1 := h.hM.1
        have hpF : ∀ k, k < p.length → 0 ≤ pF p k ∧ 0 ≤ pN p k ∧ pF p k + pN p k ≤ 12 := fun k hk => by
          have a1 := pF_n p k
          have a2 := pF_up p k hk
          have a3 := pF_le p (k + 1)
          have a4 := hpN k hk
          rw [ok2] at a3
          omega
        have X : ∀ a, a < 56 → P a = N a := fun a ha => by rw [v1 a (by omega)]; exact g3.1 a (by omega) (by omega) (by omega) (by omega) (by omega)
        have XM : ∀ a, (a < 11 ∨ (16 < a ∧ a < 49)) → P a = M a := fun a ha => by rw [X a (by omega), u1 a (by omega)]; exact q2.1 a (by omega)
        have Y : ∀ a, 56 < a → ¬ (63 ≤ a ∧ a ≤ 66) → ¬ (81 ≤ a ∧ a ≤ 84) → P a = M a := fun a x1 x2 x3 => by rw [v1 a (by omega), g3.1 a (by omega) (by omega) (by omega) (by omega) (by omega)]; exact e a (by omega)
        have S56 : ∀ j, j ≤ 18 → j ≠ 12 → j ≠ 13 → P 56 j = M 56 j := fun j x0 x1 x2 => by rw [v4 j x1 x2, g3.2 j (by omega) (by omega), e 56 (by omega)]
        have N0M : ∀ a, a < 49 → N0 a = M a := fun a ha => q2.1 a (by omega)
        have w12 : ∀ k, P 12 k = if k < p.length then pW p k else M 12 k := fun k => by rw [X 12 (by omega), u5 k, N0M 12 (by omega)]
        have w13 : ∀ k, P 13 k = if k < p.length then pF p k else M 13 k := fun k => by rw [X 13 (by omega), u6 k, N0M 13 (by omega)]
        have w14 : ∀ k, P 14 k = if k < p.length then pN p k else M 14 k := fun k => by rw [X 14 (by omega), u7 k, N0M 14 (by omega)]
        have w15 : ∀ k, P 15 k = if k < p.length then 0 else M 15 k := fun k => by rw [X 15 (by omega), u8 k, N0M 15 (by omega)]
        have M2 : ∀ a, 56 < a → ¬ (81 ≤ a ∧ a ≤ 84) → N2 a = M a := fun a x1 x2 => by rw [g3.1 a (by omega) (by omega) (by omega) (by omega) (by omega)]; exact e a (by omega)
        have s110 : P 11 0 = (p.length : Int) := by rw [X 11 (by omega)]; exact u2
        have s111 : P 11 1 = 0 := by rw [X 11 (by omega)]; exact u3
        have s116 : P 11 6 = M 3 1 := by rw [X 11 (by omega), u4]; have := h.hB.2.2.1; omega
        have x3 := XM 3 (by omega)
        have x4 := XM 4 (by omega)
        have efx : fX4 N0 = fX4 P := by unfold fX4; rw [N0M 4 (by omega), x4]
        have hb := h.hB
        refine ⟨g2, by rw [X 0 (by omega)]; exact n0, ⟨okB_cg j1 x3 x4, okL_cg j2 (XM 5 (by omega)) (XM 7 (by omega)), okW_cg j3 (XM 8 (by omega)) (XM 9 (by omega)) (XM 10 (by omega)), ?_, fun _ => ?_⟩, eqB_cg i2 x3 x4 (S56 0 (by omega) (by omega) (by omega)) (S56 1 (by omega) (by omega) (by omega)) (Y 57 (by omega) (by omega) (by omega)) (Y 58 (by omega) (by omega) (by omega)), eqL_cg i3 (XM 5 (by omega)) (XM 6 (by omega)) (XM 7 (by omega)) (S56 4 (by omega) (by omega) (by omega)) (Y 59 (by omega) (by omega) (by omega)) (Y 60 (by omega) (by omega) (by omega)), eqW_cg i4 (XM 8 (by omega)) (XM 9 (by omega)) (XM 10 (by omega)) (S56 7 (by omega) (by omega) (by omega)) (Y 61 (by omega) (by omega) (by omega)) (Y 62 (by omega) (by omega) (by omega)), ?_, ?_, kep_cg i7 (by omega) (by rw [XM 1 (by omega)]) (S56 18 (by omega) (by omega) (by omega)) (fun a h1 h2 => XM a (by omega)) (fun a h1 h2 => Y a (by omega) (by omega) (by omega)), ?_⟩
        · refine ⟨by rw [s110]; omega, by rw [s116]; have := hb.2.2; omega, by rw [s111, s110]; omega, fun k => ?_, fun k => ?_, fun k => ?_, fun k => ?_⟩
          · rw [w12 k]; split
            · next hk => exact hpW k hk
            · exact m4 k
          · rw [w13 k, w14 k]; split
            · next hk => exact hpF k hk
            · exact m5 k
          · rw [w15 k]; split
            · omega
            · exact m6 k
          · rw [X 16 (by omega)]; exact u9 k
        · unfold stdL
          rw [s110, s116, x3]
          refine ⟨by rw [w13 0, if_pos q1]; exact pF_0 p, fun k hk => ?_, fun k hk => ?_, fun k hk => ?_, rfl, fun k j hk hj => ?_, fun k hk => ?_⟩
          · rw [w13, w13, w14, if_pos (by omega), if_pos (by omega), if_pos (by omega)]; exact pF_up p k (by omega)
          · rw [w14, if_pos (by omega)]; exact hpN k (by omega)
          · rw [w13, w14, if_pos (by omega), if_pos (by omega), ← pF_up p k (by omega), show k + 1 = p.length by omega, pF_len, ok2, i2.1]; omega
          · rw [X 16 (by omega), w13, w14, if_pos (by omega), if_pos (by omega), ← efx]; exact u10 k j (by omega) (by omega)
          · rw [w15, if_pos (by omega)]
            refine (wb_bd _ (fun k => ?_) _ _ _).1
            rw [← efx]
            show N0 4 k / 8 = 0 ∨ N0 4 k / 8 = 1
            rw [N0M 4 (by omega)]
            have := hb.2.2.2.2 k
            omega
        · refine ⟨by rw [s110, v2], ⟨?_, ?_, ?_, ?_⟩, fun _ => by rw [s111, v3], by rw [v3]; omega, by rw [v3]; omega⟩
          · funext k; rw [w12, v5, M2 63 (by omega) (by omega), o2]
          · funext k; rw [w13, v6, M2 64 (by omega) (by omega), o3]
          · funext k; rw [w14, v7, M2 65 (by omega) (by omega), o4]
          · funext k; rw [w15, v8, M2 66 (by omega) (by omega), o5]
        · unfold eqR
          rw [XM 1 (by omega), S56 10 (by omega) (by omega) (by omega), S56 11 (by omega) (by omega) (by omega)]
          exact i6
        · refine ⟨⟨?_, ?_⟩, ?_, ?_⟩
          · rw [X 52 (by omega), u1 52 (by omega)]; exact q2.2.1
          · rw [X 53 (by omega), u1 53 (by omega)]; exact q2.2.2
          · rw [XM 17 (by omega)]; exact i8.2.1
          · rw [Y 85 (by omega) (by omega) (by omega)]; exact i8.2.2
end PrE
