/-! ===== CALLS: days ===== -/
def dR (M A B : ab_Me) : Prop := (∀ a, a ≠ 11 → a ≠ 15 → a ≠ 17 → A a = M a) ∧ (A 11 0 = M 11 0 ∧ A 11 6 = M 11 6) ∧ (∀ a, 55 < a → a ≠ 66 → a ≠ 85 → B a = M a) ∧ A 15 = B 66 ∧ ∀ k : Nat, (k : Int) < M 11 0 → A 15 k ≤ wb (M 58) (M 64 k) (M 65 k).toNat (M 3 1).toNat
section PrD
variable {L : Nat} {M : ab_Me} {t : Int}
theorem dR_step (h : Inv t M) (h0 : 0 < M 11 0) {A B : ab_Me} (hd : dR M A B) : dR M (mDay A (M 1 4)) (mDayM B) := by
  obtain ⟨C, R, hC, hR, hC', hR', h12⟩ := h.dims
  obtain ⟨o1, ⟨o2, o3, o4, o5⟩, o6⟩ := id h.2.2.2.2.1
  have hs := h.1.2.2.2.2 h0
  obtain ⟨d1, ⟨d2, d3⟩, d4, d5, d6⟩ := hd
  have e56 : B 56 = M 56 := d4 56 (by omega) (by omega) (by omega)
  have e58 : B 58 = M 58 := d4 58 (by omega) (by omega) (by omega)
  have e61 : B 61 = M 61 := d4 61 (by omega) (by omega) (by omega)
  have e63 : B 63 = M 63 := d4 63 (by omega) (by omega) (by omega)
  have e64 : B 64 = M 64 := d4 64 (by omega) (by omega) (by omega)
  have e65 : B 65 = M 65 := d4 65 (by omega) (by omega) (by omega)
  have a16 : A 16 = M 16 := d1 16 (by omega) (by omega) (by omega)
  have a9 : A 9 = M 9 := d1 9 (by omega) (by omega) (by omega)
  have a12 : A 12 = M 12 := d1 12 (by omega) (by omega) (by omega)
  have wh : ∀ k : Nat, (k : Int) < M 11 0 → mDawn A 17 k = mWhl B 85 k := fun k hk => by
    rw [mDawn_at A (by rw [d2]; exact hk), mWhl_at B (by rw [e56, ← o1]; exact hk)]
    refine wh_eq (R := R) (by rw [d3, hs.2.2.2.2.1]; exact hR) (by rw [e56]; exact hR') (by rw [d5]) (fun j hj => ?_)
    rw [a16, e58, e64, e65]
    exact h.w16 h0 k j hk (by omega)
  have i16 : ∀ k : Nat, (k : Int) < M 11 0 → M 16 (11 * (k : Int) + M 11 6).toNat = wb (M 58) (M 64 k) (M 65 k).toNat (M 3 1).toNat := fun k hk => by
    rw [hs.2.2.2.2.1, show (11 * (k : Int) + M 3 1).toNat = 11 * k + (M 3 1).toNat by omega]
    exact h.w16 h0 k (M 3 1).toNat hk (by omega)
  have nd : ∀ k : Nat, (k : Int) < M 11 0 → ndX A (M 1 4) k = ndM B k ∧ ndX A (M 1 4) k ≤ wb (M 58) (M 64 k) (M 65 k).toNat (M 3 1).toNat := fun k hk => by
    have hle := d6 k hk
    have d0 := wh k hk
    have iff' : ((0 < (k : Int) ∧ M 1 4 ≤ mDawn A 17 k - mDawn A 17 ((k : Int) - 1).toNat) ∨ ((k : Int) < A 11 0 - 1 ∧ M 1 4 ≤ mDawn A 17 k - mDawn A 17 ((k : Int) + 1).toNat)) ↔ ((0 < (k : Int) ∧ B 56 11 ≤ mWhl B 85 k - mWhl B 85 ((k : Int) - 1).toNat) ∨ ((k : Int) < B 56 12 - 1 ∧ B 56 11 ≤ mWhl B 85 k - mWhl B 85 ((k : Int) + 1).toNat)) := by
      have e1 : 0 < (k : Int) → mDawn A 17 ((k : Int) - 1).toNat = mWhl B 85 ((k : Int) - 1).toNat := fun q => wh _ (by omega)
      have e2 : (k : Int) < M 11 0 - 1 → mDawn A 17 ((k : Int) + 1).toNat = mWhl B 85 ((k : Int) + 1).toNat := fun q => wh _ (by omega)
      have er := h.2.2.2.2.2.1.2
      rw [e56, ← er, ← o1, d2]
      constructor
      · rintro (⟨q1, q2⟩ | ⟨q1, q2⟩)
        · have := e1 q1; left; omega
        · have := e2 q1; right; omega
      · rintro (⟨q1, q2⟩ | ⟨q1, q2⟩)
        · have := e1 q1; left; omega
        · have := e2 q1; right; omega
    unfold ndX ndM
    rw [d3, a16, a9, a12, d5, i16 k hk]
    rw [d5] at hle
    simp only [iff']
    rw [e58, e64, e65, e61, e63, e56, ← h.2.2.2.1.2.1, ← o2, ← h.2.1.2.1]
    generalize wb (M 58) (M 64 k) (M 65 k).toNat (M 3 1).toNat = wv at hle ⊢
    split <;> (constructor <;> (repeat' split) <;> omega)
  refine ⟨fun a x1 x2 x3 => ?_, ⟨d2, d3⟩, fun a x1 x2 x3 => ?_, ?_, fun k hk => ?_⟩
  · unfold mDay
    rw [ab_up_ne _ _ _ x1, ab_rw_ne _ _ x2]
    unfold mDawn
    rw [ab_rw_ne _ _ x3]
    exact d1 a x1 x2 x3
  · unfold mDayM
    rw [ab_rw_ne _ _ x2]
    unfold mWhl
    rw [ab_rw_ne _ _ x3]
    exact d4 a x1 x2 x3
  · funext k
    have l1 : mDay A (M 1 4) 15 k = if (k : Int) < A 11 0 then ndX A (M 1 4) k else A 15 k := by
      unfold mDay
      rw [ab_up_ne _ _ _ (by decide), ab_rw_self]
    have l2 : mDayM B 66 k = if (k : Int) < B 56 12 then ndM B k else B 66 k := by
      unfold mDayM
      rw [ab_rw_self]
    rw [l1, l2, d2, e56, ← o1, d5]
    by_cases q : (k : Int) < M 11 0
    · rw [if_pos q, if_pos q, (nd k q).1]
    · rw [if_neg q, if_neg q]
  · have l1 : mDay A (M 1 4) 15 k = if (k : Int) < A 11 0 then ndX A (M 1 4) k else A 15 k := by
      unfold mDay
      rw [ab_up_ne _ _ _ (by decide), ab_rw_self]
    rw [l1, d2, if_pos hk]
    exact (nd k hk).2
theorem dR_all (h : Inv t M) (h0 : 0 < M 11 0) {B : ab_Me} (hB : ∀ a, 55 < a → B a = M a) : ∀ n, dR M (dayN (M 1 4) n M) (dayM n B)
  | 0 => by
    obtain ⟨o1, ⟨o2, o3, o4, o5⟩, o6⟩ := id h.2.2.2.2.1
    have hs := h.1.2.2.2.2 h0
    refine ⟨fun _ _ _ _ => rfl, ⟨rfl, rfl⟩, fun a x1 _ _ => hB a x1, ?_, fun k hk => ?_⟩
    · show M 15 = B 66
      rw [hB 66 (by omega), o5]
    · have := hs.2.2.2.2.2.2 k hk
      rw [h.fX4, o3, o4] at this
      exact this
  | n + 1 => dR_step h h0 (dR_all h h0 hB n)
theorem dayM_fr (B : ab_Me) : ∀ n a, a ≠ 66 → a ≠ 85 → dayM n B a = B a
  | 0, _, _, _ => rfl
  | n + 1, a, h1, h2 => by
    show mDayM (dayM n B) a = B a
    unfold mDayM
    rw [ab_rw_ne _ _ h1]
    unfold mWhl
    rw [ab_rw_ne _ _ h2]
    exact dayM_fr B n a h1 h2
theorem p_days (hz : Zm L M) (h : Inv t M) (ht : t ≤ 5000) (n : Int) : pr L t 4 5 mX8_days mX9_days [.inl n] M := by
  obtain ⟨o1, ⟨o2, o3, o4, o5⟩, o6, o7, o8⟩ := id h.2.2.2.2.1
  have hok := h.1.2.2.2.1
  have c1 := c_X8_days L M h.hL1 ⟨hok.2.2.1.1, by have := hok.2.2.1.2.1; omega⟩ n
  have hd13 : 0 ≤ M 56 13 ∧ M 56 13 < 900000 := ⟨o7, by omega⟩
  by_cases a : 1 ≤ n ∧ n ≤ 100
  · by_cases b : 0 < M 11 0
    · rw [if_pos a, if_pos b, if_pos a, if_pos b] at c1
      have hs := h.1.2.2.2.2 b
      have ok := dayN_ok M h.hL1 (M 1 4) n.toNat
      have frA := (dR_all h b (B := M) (fun _ _ => rfl) n.toNat).1
      generalize hA : dayN (M 1 4) n.toNat M = A at c1 ok frA
      have hBm : ∀ a, 55 < a → A a = M a := fun a ha => frA a (by omega) (by omega) (by omega)
      have dr := dR_all h b hBm n.toNat
      rw [hA] at dr
      have hMA : hM A := by unfold hM; rw [hBm 56 (by omega), hBm 57 (by omega), hBm 58 (by omega)]; exact h.hM
      have hLA : hLM A := by unfold hLM; rw [hBm 56 (by omega), hBm 63 (by omega), hBm 64 (by omega), hBm 65 (by omega), hBm 66 (by omega), hBm 61 (by omega), hBm 85 (by omega)]; exact h.hLM
      have c2 := c_X9_days L A hMA hLA (by rw [hBm 56 (by omega)]; exact hd13) n
      have okB := dayM_ok A hMA hLA n.toNat
      rw [hBm 56 (by omega), ← o1, if_pos a, if_pos (show ¬ M 11 0 = 0 by omega), if_pos a, if_pos (show ¬ M 11 0 = 0 by omega)] at c2
      have frB := dayM_fr A n.toNat
      generalize hBd : dayM n.toNat A = B at c2 dr okB frB
      obtain ⟨d1, ⟨d2, d3⟩, d4, d5, d6⟩ := dr
      obtain ⟨k1, k2, k3⟩ := okB
      obtain ⟨a1, a2, a3, a4⟩ := ok
      have hMB' : hM (ab_up B 56 13 (M 56 13 + n)) := k2
      have hLB' : hLM (ab_up B 56 13 (M 56 13 + n)) := k1
      have lw := hLM_whl _ hMB' hLB'
      have e12 : ab_up B 56 13 (M 56 13 + n) 56 12 = M 11 0 := by rw [ab_up_self, ab_u1_ne _ _ (by decide), k3, hBm 56 (by omega), o1]
      have ewh : ∀ k : Nat, (k : Int) < M 11 0 → mWhl (ab_up B 56 13 (M 56 13 + n)) 85 k = whX A k := fun k hk => by
        obtain ⟨C, R, hC, hR, hC', hR', h12⟩ := h.dims
        rw [mWhl_at _ (by rw [e12]; exact hk)]
        symm
        refine wh_eq (R := R) (by rw [d3, hs.2.2.2.2.1]; exact hR) ?_ ?_ (fun j hj => ?_)
        · rw [ab_up_self, ab_u1_ne _ _ (by decide), k3, hBm 56 (by omega)]; exact hR'
        · rw [ab_up_ne _ _ _ (by decide), d5]
        · rw [ab_up_ne _ _ _ (by decide), ab_up_ne _ _ _ (by decide), ab_up_ne _ _ _ (by decide), d1 16 (by omega) (by omega) (by omega), d4 58 (by omega) (by omega) (by omega), d4 64 (by omega) (by omega) (by omega), d4 65 (by omega) (by omega) (by omega)]
          exact h.w16 b k j hk (by omega)
      have N0 : ∀ a, a ≠ 56 → a ≠ 85 → mWhl (ab_up B 56 13 (M 56 13 + n)) a = B a := fun a x1 x2 => by
        unfold mWhl
        rw [ab_rw_ne _ _ x2, ab_up_ne _ _ _ x1]
      have N56 : mWhl (ab_up B 56 13 (M 56 13 + n)) 56 = ab_u1 (M 56) 13 (M 56 13 + n) := by
        unfold mWhl
        rw [ab_rw_ne _ _ (by decide), ab_up_self, k3, hBm 56 (by omega)]
      have NX : ∀ a, a < 56 → mWhl (ab_up B 56 13 (M 56 13 + n)) a = A a := fun a ha => by rw [N0 a (by omega) (by omega)]; exact frB a (by omega) (by omega)
      refine pr_GG hz c1 c2 ?_ (by exact d1 0 (by omega) (by omega) (by omega)) (by rw [NX 0 (by omega)]; exact d1 0 (by omega) (by omega) (by omega)) (fun _ => ?_)
      · rw [d3, hs.2.2.2.2.1, h.2.1.2.1]
        exact few_cg _ _ (fun k hk => ewh k (by omega))
      · generalize mWhl (ab_up B 56 13 (M 56 13 + n)) = N at N0 N56 NX lw
        obtain ⟨⟨j1, j2, j3, ⟨m1, m2, m3, m4, m5, m6, m7⟩, j5⟩, i2, i3, i4, i5, i6, i7, i8⟩ := h
        have NM : ∀ a, a < 56 → a ≠ 11 → a ≠ 15 → a ≠ 17 → N a = M a := fun a x0 x1 x2 x3 => by rw [NX a x0]; exact d1 a x1 x2 x3
        have Nm : ∀ a, 56 < a → a ≠ 66 → a ≠ 85 → N a = M a := fun a x0 x1 x2 => by rw [N0 a (by omega) x2]; exact d4 a (by omega) x1 x2
        have Ns : ∀ j, j ≠ 13 → N 56 j = M 56 j := fun j hj => by rw [N56, ab_u1_ne _ _ hj]
        have N13 : N 56 13 = M 56 13 + n := by rw [N56, ab_u1_self]
        have N15 : N 15 = A 15 := NX 15 (by omega)
        have N66 : N 66 = A 15 := by rw [N0 66 (by omega) (by omega), d5]
        have N110 : N 11 0 = M 11 0 := by rw [NX 11 (by omega)]; exact d2
        have N111 : N 11 1 = M 11 1 + n := by rw [NX 11 (by omega), a3]; omega
        have N116 : N 11 6 = M 11 6 := by rw [NX 11 (by omega)]; exact d3
        have n3 := NM 3 (by omega) (by omega) (by omega) (by omega)
        have n4 := NM 4 (by omega) (by omega) (by omega) (by omega)
        have n13 := NM 13 (by omega) (by omega) (by omega) (by omega)
        have n14 := NM 14 (by omega) (by omega) (by omega) (by omega)
        have n16 := NM 16 (by omega) (by omega) (by omega) (by omega)
        have n12 := NM 12 (by omega) (by omega) (by omega) (by omega)
        have efx : fX4 N = fX4 M := by unfold fX4; rw [n4]
        refine ⟨⟨okB_cg j1 n3 n4, okL_cg j2 (NM 5 (by omega) (by omega) (by omega) (by omega)) (NM 7 (by omega) (by omega) (by omega) (by omega)), okW_cg j3 (NM 8 (by omega) (by omega) (by omega) (by omega)) (NM 9 (by omega) (by omega) (by omega) (by omega)) (NM 10 (by omega) (by omega) (by omega) (by omega)), ?_, fun _ => ?_⟩, eqB_cg i2 n3 n4 (Ns 0 (by decide)) (Ns 1 (by decide)) (Nm 57 (by omega) (by omega) (by omega)) (Nm 58 (by omega) (by omega) (by omega)), eqL_cg i3 (NM 5 (by omega) (by omega) (by omega) (by omega)) (NM 6 (by omega) (by omega) (by omega) (by omega)) (NM 7 (by omega) (by omega) (by omega) (by omega)) (Ns 4 (by decide)) (Nm 59 (by omega) (by omega) (by omega)) (Nm 60 (by omega) (by omega) (by omega)), eqW_cg i4 (NM 8 (by omega) (by omega) (by omega) (by omega)) (NM 9 (by omega) (by omega) (by omega) (by omega)) (NM 10 (by omega) (by omega) (by omega) (by omega)) (Ns 7 (by decide)) (Nm 61 (by omega) (by omega) (by omega)) (Nm 62 (by omega) (by omega) (by omega)), ?_, ?_, kep_cg i7 (by omega) (by rw [NM 1 (by omega) (by omega) (by omega) (by omega)]) (Ns 18 (by decide)) (fun a x1 x2 => NM a (by omega) (by omega) (by omega) (by omega)) (fun a x1 x2 => Nm a (by omega) (by omega) (by omega)), ?_⟩
        · unfold okM
          rw [N110, N111, N116, n12, n13, n14, N15, n16]
          exact ⟨m1, m2, ⟨by omega, by omega, fun q => by omega⟩, m4, m5, a1.2.2.1, m7⟩
        · unfold stdL
          rw [N110, N116, n3, n13, n14, N15, n16, efx]
          refine ⟨hs.1, hs.2.1, hs.2.2.1, hs.2.2.2.1, hs.2.2.2.2.1, hs.2.2.2.2.2.1, fun k hk => ?_⟩
          have := d6 k hk
          rw [Inv.fX4 ⟨⟨j1, j2, j3, ⟨m1, m2, m3, m4, m5, m6, m7⟩, j5⟩, i2, i3, i4, i5, i6, i7, i8⟩, o3, o4]
          exact this
        · unfold eqO
          rw [N110, N111, N13, n12, n13, n14, N15, N66, Ns 12 (by decide), Nm 63 (by omega) (by omega) (by omega), Nm 64 (by omega) (by omega) (by omega), Nm 65 (by omega) (by omega) (by omega)]
          exact ⟨o1, ⟨o2, o3, o4, rfl⟩, fun q => by have := o6 q; omega, by omega, by omega⟩
        · unfold eqR
          rw [NM 1 (by omega) (by omega) (by omega) (by omega), Ns 10 (by decide), Ns 11 (by decide)]
          exact i6
        · unfold scr
          rw [NM 52 (by omega) (by omega) (by omega) (by omega), NM 53 (by omega) (by omega) (by omega) (by omega), NX 17 (by omega)]
          exact ⟨i8.1, a1.2.2.2.2.2, lw.2.2.2.2.2⟩
    · have z0 : M 11 0 = 0 := by have := hok.1.1; omega
      rw [if_pos a, if_neg b, if_pos a, if_neg b] at c1
      have c2 := c_X9_days L M h.hM h.hLM hd13 n
      rw [← o1, if_pos a, if_neg (fun q => q z0), if_pos a, if_neg (fun q => q z0)] at c2
      exact p_same hz h c1 c2
  · rw [if_neg a, if_neg a] at c1
    have c2 := c_X9_days L M h.hM h.hLM hd13 n
    rw [if_neg a, if_neg a] at c2
    exact p_same hz h c1 c2
end PrD
