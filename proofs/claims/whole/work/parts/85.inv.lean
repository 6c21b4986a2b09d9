/-! ===== WHAT HOLDS BETWEEN TWO CALLS OF THE LAW ===== -/
def okB (V : ab_Me) : Prop := hB V ∧ ∀ k, ¬ onB (V 3 0).toNat (V 3 1).toNat k → V 4 k / 8 = 0
def okL (V : ab_Me) : Prop := (0 ≤ V 5 0 ∧ V 5 0 ≤ 12) ∧ ∀ l, 0 ≤ V 7 l ∧ V 7 l ≤ 300
def okW (V : ab_Me) : Prop := hW V ∧ ∀ k, 0 ≤ V 9 k ∧ V 9 k ≤ 20
def okM (V : ab_Me) (t : Int) : Prop := (0 ≤ V 11 0 ∧ V 11 0 ≤ 4) ∧ (0 ≤ V 11 6 ∧ V 11 6 ≤ 10) ∧ (0 ≤ V 11 1 ∧ V 11 1 ≤ 100 * t ∧ (V 11 0 = 0 → V 11 1 = 0)) ∧ (∀ k, 0 ≤ V 12 k ∧ V 12 k < 4) ∧ (∀ k, 0 ≤ V 13 k ∧ 0 ≤ V 14 k ∧ V 13 k + V 14 k ≤ 12) ∧ (∀ k, 0 ≤ V 15 k ∧ V 15 k ≤ 1000) ∧ ∀ k, 0 ≤ V 16 k ∧ V 16 k ≤ 1000
def stdL (V : ab_Me) : Prop := V 13 0 = 0 ∧ (∀ k : Nat, (k : Int) + 1 < V 11 0 → V 13 (k + 1) = V 13 k + V 14 k) ∧ (∀ k : Nat, (k : Int) < V 11 0 → 1 ≤ V 14 k) ∧ (∀ k : Nat, (k : Int) + 1 = V 11 0 → V 13 k + V 14 k = V 3 0) ∧ V 11 6 = V 3 1 ∧ (∀ k j : Nat, (k : Int) < V 11 0 → (j : Int) ≤ V 3 1 → V 16 (11 * k + j) = wb (fX4 V) (V 13 k) (V 14 k).toNat j) ∧ ∀ k : Nat, (k : Int) < V 11 0 → V 15 k ≤ wb (fX4 V) (V 13 k) (V 14 k).toNat (V 3 1).toNat
def okS (V : ab_Me) (t : Int) : Prop := okB V ∧ okL V ∧ okW V ∧ okM V t ∧ (0 < V 11 0 → stdL V)
def eqB (M : ab_Me) : Prop := M 3 0 = M 56 0 ∧ M 3 1 = M 56 1 ∧ (∀ k, M 4 k = M 57 k + 8 * M 58 k) ∧ (∀ k, 0 ≤ M 57 k ∧ M 57 k < 8) ∧ ∀ k, M 58 k = 0 ∨ M 58 k = 1
def eqL (M : ab_Me) : Prop := M 5 0 = M 56 4 ∧ M 6 = M 59 ∧ M 7 = M 60
def eqW (M : ab_Me) : Prop := M 8 0 = M 56 7 ∧ M 9 = M 61 ∧ M 10 = M 62
def eqO (M : ab_Me) (t : Int) : Prop := M 11 0 = M 56 12 ∧ (M 12 = M 63 ∧ M 13 = M 64 ∧ M 14 = M 65 ∧ M 15 = M 66) ∧ (0 < M 11 0 → M 11 1 = M 56 13) ∧ 0 ≤ M 56 13 ∧ M 56 13 ≤ 100 * t
def eqR (M : ab_Me) : Prop := M 1 3 = M 56 10 ∧ M 1 4 = M 56 11
def sh16 (M : ab_Me) : ab_Me := fun a => M (a + 16)
def eqK (M : ab_Me) (t : Int) : Prop := (M 19 0 = M 67 0 ∧ M 19 1 = M 67 1) ∧ (∀ k, k < 120 → M 20 k = M 68 k) ∧ M 21 0 = M 67 2 ∧ (∀ k, k < 12 → M 22 k = M 69 k ∧ M 23 k = M 69 (12 + k)) ∧ M 24 0 = M 67 3 ∧ (∀ k, k < 4 → M 25 k = M 70 k ∧ M 26 k = M 70 (4 + k)) ∧ M 27 0 = M 67 4 ∧ ((0 < M 27 0 → M 27 1 = M 67 5) ∧ 0 ≤ M 67 5 ∧ M 67 5 ≤ 100 * t) ∧ ∀ k, k < 4 → M 28 k = M 71 k ∧ M 29 k = M 71 (4 + k) ∧ M 30 k = M 71 (8 + k) ∧ M 31 k = M 71 (12 + k)
def kep (M : ab_Me) (t : Int) : Prop := (M 1 2 = 0 ∨ M 1 2 = 1) ∧ M 1 2 = M 56 18 ∧ (∀ k, M 26 k = 0 ∨ M 26 k = 1) ∧ (∀ k, 0 ≤ M 68 k ∧ M 68 k < 16) ∧ (M 1 2 = 1 → okS (sh16 M) t ∧ eqK M t)
def scr (M : ab_Me) : Prop := (M 52 0 = 0 ∧ M 53 0 = 0) ∧ (∀ k, -100 ≤ M 17 k ∧ M 17 k ≤ 100) ∧ ∀ k, -100 ≤ M 85 k ∧ M 85 k ≤ 100
def Inv (t : Int) (M : ab_Me) : Prop := okS M t ∧ eqB M ∧ eqL M ∧ eqW M ∧ eqO M t ∧ eqR M ∧ kep M t ∧ scr M
section InvS
variable {V W M N : ab_Me} {t u : Int}
theorem okB_cg (h : okB V) (h3 : W 3 = V 3) (h4 : W 4 = V 4) : okB W := by unfold okB hB; rw [h3, h4]; exact h
theorem okL_cg (h : okL V) (h5 : W 5 = V 5) (h7 : W 7 = V 7) : okL W := by unfold okL; rw [h5, h7]; exact h
theorem okW_cg (h : okW V) (h8 : W 8 = V 8) (h9 : W 9 = V 9) (h10 : W 10 = V 10) : okW W := by unfold okW hW; rw [h8, h9, h10]; exact h
theorem okM_cg (h : okM V t) (h11 : W 11 = V 11) (h12 : W 12 = V 12) (h13 : W 13 = V 13) (h14 : W 14 = V 14) (h15 : W 15 = V 15) (h16 : W 16 = V 16) : okM W t := by unfold okM; rw [h11, h12, h13, h14, h15, h16]; exact h
theorem stdL_cg (h : stdL V) (h3 : W 3 = V 3) (h4 : W 4 = V 4) (h11 : W 11 = V 11) (h13 : W 13 = V 13) (h14 : W 14 = V 14) (h15 : W 15 = V 15) (h16 : W 16 = V 16) : stdL W := by unfold stdL fX4; rw [h3, h4, h11, h13, h14, h15, h16]; exact h
theorem okM_t (h : okM V t) (hu : t ≤ u) : okM V u := by
  obtain ⟨h1, h2, h3, h4⟩ := h
  exact ⟨h1, h2, ⟨h3.1, by omega, h3.2.2⟩, h4⟩
theorem okS_cg (h : okS V t) (e : ∀ a, 3 ≤ a → a ≤ 16 → W a = V a) : okS W t := by
  obtain ⟨h1, h2, h3, h4, h5⟩ := h
  refine ⟨okB_cg h1 (e 3 (by omega) (by omega)) (e 4 (by omega) (by omega)), okL_cg h2 (e 5 (by omega) (by omega)) (e 7 (by omega) (by omega)), okW_cg h3 (e 8 (by omega) (by omega)) (e 9 (by omega) (by omega)) (e 10 (by omega) (by omega)), okM_cg h4 (e 11 (by omega) (by omega)) (e 12 (by omega) (by omega)) (e 13 (by omega) (by omega)) (e 14 (by omega) (by omega)) (e 15 (by omega) (by omega)) (e 16 (by omega) (by omega)), fun q => ?_⟩
  rw [e 11 (by omega) (by omega)] at q
  exact stdL_cg (h5 q) (e 3 (by omega) (by omega)) (e 4 (by omega) (by omega)) (e 11 (by omega) (by omega)) (e 13 (by omega) (by omega)) (e 14 (by omega) (by omega)) (e 15 (by omega) (by omega)) (e 16 (by omega) (by omega))
theorem okS_t (h : okS V t) (hu : t ≤ u) : okS V u := ⟨h.1, h.2.1, h.2.2.1, okM_t h.2.2.2.1 hu, h.2.2.2.2⟩
theorem eqB_cg (h : eqB M) (h3 : N 3 = M 3) (h4 : N 4 = M 4) (a0 : N 56 0 = M 56 0) (a1 : N 56 1 = M 56 1) (h57 : N 57 = M 57) (h58 : N 58 = M 58) : eqB N := by unfold eqB; rw [h3, h4, a0, a1, h57, h58]; exact h
theorem eqL_cg (h : eqL M) (h5 : N 5 = M 5) (h6 : N 6 = M 6) (h7 : N 7 = M 7) (a4 : N 56 4 = M 56 4) (h59 : N 59 = M 59) (h60 : N 60 = M 60) : eqL N := by unfold eqL; rw [h5, h6, h7, a4, h59, h60]; exact h
theorem eqW_cg (h : eqW M) (h8 : N 8 = M 8) (h9 : N 9 = M 9) (h10 : N 10 = M 10) (a7 : N 56 7 = M 56 7) (h61 : N 61 = M 61) (h62 : N 62 = M 62) : eqW N := by unfold eqW; rw [h8, h9, h10, a7, h61, h62]; exact h
theorem eqO_cg (h : eqO M t) (h11 : N 11 = M 11) (h12 : N 12 = M 12) (h13 : N 13 = M 13) (h14 : N 14 = M 14) (h15 : N 15 = M 15) (a12 : N 56 12 = M 56 12) (a13 : N 56 13 = M 56 13) (h63 : N 63 = M 63) (h64 : N 64 = M 64) (h65 : N 65 = M 65) (h66 : N 66 = M 66) : eqO N t := by unfold eqO; rw [h11, h12, h13, h14, h15, a12, a13, h63, h64, h65, h66]; exact h
theorem eqO_t (h : eqO M t) (hu : t ≤ u) : eqO M u := ⟨h.1, h.2.1, h.2.2.1, h.2.2.2.1, by have := h.2.2.2.2; omega⟩
theorem kep_cg (h : kep M t) (hu : t ≤ u) (h1 : N 1 2 = M 1 2) (a18 : N 56 18 = M 56 18) (hk : ∀ a, 19 ≤ a → a ≤ 32 → N a = M a) (hm : ∀ a, 67 ≤ a → a ≤ 71 → N a = M a) : kep N u := by
  obtain ⟨k1, k2, k3, k4, k5⟩ := h
  refine ⟨by rw [h1]; exact k1, by rw [h1, a18]; exact k2, by rw [hk 26 (by omega) (by omega)]; exact k3, by rw [hm 68 (by omega) (by omega)]; exact k4, fun q => ?_⟩
  rw [h1] at q
  obtain ⟨q1, q2⟩ := k5 q
  refine ⟨okS_t (okS_cg q1 (fun a h3 h16 => ?_)) hu, ?_⟩
  · show N (a + 16) = M (a + 16)
    exact hk (a + 16) (by omega) (by omega)
  · obtain ⟨e1, e2, e3, e4, e5, e6, e7, ⟨e8, e9, e10⟩, e11⟩ := q2
    unfold eqK
    rw [hk 19 (by omega) (by omega), hk 20 (by omega) (by omega), hk 21 (by omega) (by omega), hk 22 (by omega) (by omega), hk 23 (by omega) (by omega), hk 24 (by omega) (by omega), hk 25 (by omega) (by omega), hk 26 (by omega) (by omega), hk 27 (by omega) (by omega), hk 28 (by omega) (by omega), hk 29 (by omega) (by omega), hk 30 (by omega) (by omega), hk 31 (by omega) (by omega), hm 67 (by omega) (by omega), hm 68 (by omega) (by omega), hm 69 (by omega) (by omega), hm 70 (by omega) (by omega), hm 71 (by omega) (by omega)]
    exact ⟨e1, e2, e3, e4, e5, e6, e7, ⟨e8, e9, by omega⟩, e11⟩
theorem Inv_fr (h : Inv t M) (hu : t ≤ u) (hX : ∀ a, 1 ≤ a → a ≤ 32 → a ≠ 17 → N a = M a) (h56 : ∀ j, j ≤ 18 → N 56 j = M 56 j) (hm : ∀ a, 57 ≤ a → a ≤ 71 → N a = M a) (hs : scr N) : Inv u N := by
  obtain ⟨i1, i2, i3, i4, i5, i6, i7, i8⟩ := h
  have x : ∀ a, 1 ≤ a → a ≤ 16 → N a = M a := fun a h1 h2 => hX a h1 (by omega) (by omega)
  refine ⟨okS_t (okS_cg i1 (fun a h1 h2 => x a (by omega) h2)) hu, eqB_cg i2 (x 3 (by omega) (by omega)) (x 4 (by omega) (by omega)) (h56 0 (by omega)) (h56 1 (by omega)) (hm 57 (by omega) (by omega)) (hm 58 (by omega) (by omega)), eqL_cg i3 (x 5 (by omega) (by omega)) (x 6 (by omega) (by omega)) (x 7 (by omega) (by omega)) (h56 4 (by omega)) (hm 59 (by omega) (by omega)) (hm 60 (by omega) (by omega)), eqW_cg i4 (x 8 (by omega) (by omega)) (x 9 (by omega) (by omega)) (x 10 (by omega) (by omega)) (h56 7 (by omega)) (hm 61 (by omega) (by omega)) (hm 62 (by omega) (by omega)), eqO_t (eqO_cg i5 (x 11 (by omega) (by omega)) (x 12 (by omega) (by omega)) (x 13 (by omega) (by omega)) (x 14 (by omega) (by omega)) (x 15 (by omega) (by omega)) (h56 12 (by omega)) (h56 13 (by omega)) (hm 63 (by omega) (by omega)) (hm 64 (by omega) (by omega)) (hm 65 (by omega) (by omega)) (hm 66 (by omega) (by omega))) hu, ?_, kep_cg i7 hu (by rw [x 1 (by omega) (by omega)]) (h56 18 (by omega)) (fun a h1 h2 => hX a (by omega) h2 (by omega)) (fun a h1 h2 => hm a (by omega) h2), hs⟩
  unfold eqR
  rw [x 1 (by omega) (by omega), h56 10 (by omega), h56 11 (by omega)]
  exact i6
theorem Inv.hB (h : Inv t M) : hB M := h.1.1.1
theorem Inv.hM (h : Inv t M) : hM M := by
  obtain ⟨⟨⟨⟨b1, b2, b3, b4, b5⟩, _⟩, _⟩, ⟨e1, e2, e3, e4, e5⟩, _⟩ := h
  exact ⟨by omega, by omega, by omega, by omega, e4, e5⟩
theorem Inv.hL1 (h : Inv t M) : hL1 M := by
  obtain ⟨⟨_, _, ⟨_, w9⟩, ⟨m1, m2, m3, m4, m5, m6, m7⟩, _⟩, _, _, _, _, _, _, ⟨_, s2, s3⟩⟩ := h
  exact ⟨⟨m1, m2⟩, m4, m6, m7, w9, s2⟩
theorem Inv.hLM (h : Inv t M) : hLM M := by
  obtain ⟨⟨_, _, ⟨_, w9⟩, ⟨m1, m2, m3, m4, m5, m6, m7⟩, _⟩, _, _, ⟨_, w61, _⟩, ⟨o1, ⟨o2, o3, o4, o5⟩, _⟩, _, _, ⟨_, s2, s3⟩⟩ := h
  refine ⟨by omega, by rw [← o2]; exact m4, by rw [← o3, ← o4]; exact m5, by rw [← o5]; exact m6, by rw [← w61]; exact w9, s3⟩
theorem Inv.cX (h : Inv t M) : cX M = M 57 := by
  funext k
  have := h.2.1.2.2.1 k
  have := h.2.1.2.2.2.1 k
  show M 4 k % 8 = M 57 k
  omega
theorem Inv.clX (h : Inv t M) : clX M = M 57 := h.cX
theorem Inv.fX4 (h : Inv t M) : fX4 M = M 58 := by
  funext k
  have := h.2.1.2.2.1 k
  have := h.2.1.2.2.2.1 k
  show M 4 k / 8 = M 58 k
  omega
end InvS
/-- one call of both, with one answer -/
def pr (L : Nat) (t : Int) (d1 d2 : Nat) (mx mm : ab_M) (as : List ab_V) (M : ab_Me) : Prop :=
  ct L d1 mx (.inr 1 :: as) M (fun r N => N 0 = M 0 ∧ ∃ v, r = some (.inl v) ∧ ct L d2 mm (.inr 56 :: as) N (fun r' N' => r' = some (.inl v) ∧ Zm L N' ∧ N' 0 = M 0 ∧ Inv (t + 1) N'))
section PrS
variable {L : Nat} {t : Int} {d1 d2 : Nat} {mx mm : ab_M} {as : List ab_V} {M : ab_Me}
theorem pr_of {Q1 : Option ab_V → ab_Me → Prop} (hz : Zm L M) (h1 : ct L d1 mx (.inr 1 :: as) M Q1) (h2 : ∀ r N, Q1 r N → Zm L N → N 0 = M 0 ∧ ∃ v, r = some (.inl v) ∧ ct L d2 mm (.inr 56 :: as) N (fun r' N' => Zm L N' → r' = some (.inl v) ∧ N' 0 = M 0 ∧ Inv (t + 1) N')) : pr L t d1 d2 mx mm as M := by
  obtain ⟨r, N, e1, e2, e3⟩ := ct_Z h1 hz
  obtain ⟨g1, v, g2, g3⟩ := h2 r N e2 e3
  obtain ⟨r', N', k1, k2, k3⟩ := ct_Z g3 e3
  obtain ⟨k4, k5, k6⟩ := k2 k3
  exact ⟨r, N, e1, g1, v, g2, r', N', k1, k4, k3, k5, k6⟩
theorem pr_GG {v1 v2 : Int} {N1 N2 : ab_Me} (hz : Zm L M) (h1 : cG L d1 mx (.inr 1 :: as) M v1 N1) (h2 : cG L d2 mm (.inr 56 :: as) N1 v2 N2) (hv : v2 = v1) (h0 : N1 0 = M 0) (h0' : N2 0 = M 0) (hI : Zm L N2 → Inv (t + 1) N2) : pr L t d1 d2 mx mm as M := by
  refine pr_of hz (Q1 := fun r N => r = some (.inl v1) ∧ N = N1) ⟨_, _, h1, rfl, rfl⟩ (fun r N q _ => ?_)
  obtain ⟨rfl, rfl⟩ := q
  exact ⟨h0, v1, rfl, _, _, h2, fun z => ⟨by rw [hv], h0', hI z⟩⟩
theorem pr_FF {v1 v2 : Int} (hz : Zm L M) (hI : Inv t M) (h1 : cF L d1 mx (.inr 1 :: as) M v1) (h2 : cF L d2 mm (.inr 56 :: as) M v2) (hv : v2 = v1) : pr L t d1 d2 mx mm as M :=
  pr_GG hz h1 h2 hv rfl rfl (fun _ => Inv_fr hI (by omega) (fun _ _ _ _ => rfl) (fun _ _ => rfl) (fun _ _ _ => rfl) hI.2.2.2.2.2.2.2)
end PrS
