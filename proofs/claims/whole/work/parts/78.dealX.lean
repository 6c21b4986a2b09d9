/-! ===== DEALING: the answers, class ===== -/
def gi (F : List Nat) (g : Nat → Nat) (i : Nat) : Nat := g (F.length - 1 - i)
def lfV (F T : List Nat) (f : Int) (g : Nat → Nat) : Nat → Int
  | 0 => -4
  | k + 1 => if ((F.getD k 0 : Nat) : Int) = f ∧ gi F g k < T.length then ((T.getD (gi F g k) 0 : Nat) : Int) else lfV F T f g k
def yfT (F T : List Nat) (yr : Nat → Int) (lot : Int) (g : Nat → Nat) (i : Nat) : Int := if gi F g i < T.length ∧ ((T.getD (gi F g i) 0 : Nat) : Int) = lot then yr (F.getD i 0) else 0
def yaT (F T : List Nat) (yr : Nat → Int) (g : Nat → Nat) (i : Nat) : Int := if gi F g i < T.length then yr (F.getD i 0) else 0
def ctT (F T : List Nat) (g : Nat → Nat) (i : Nat) : Int := if gi F g i < T.length then 1 else 0
def dAns (F T : List Nat) (ly yr : Nat → Int) (kk : (Nat → Nat) → Int) (v : Int) : Prop :=
  (¬ (F.length ≤ 8 ∧ T.length ≤ 4) ∧ v = -5) ∨ ((F.length ≤ 8 ∧ T.length ≤ 4) ∧ ∃ g, dbest T.length F.length (dC T ly) (dYn F yr) g ∧ v = kk g)
theorem dAns_uq {F T : List Nat} {ly yr : Nat → Int} {kk : (Nat → Nat) → Int} {v v' : Int} (hk : ∀ g g', (∀ k, k < F.length → g k = g' k) → kk g = kk g') (h : dAns F T ly yr kk v) (h' : dAns F T ly yr kk v') : v = v' := by
  rcases h with ⟨h1, h2⟩ | ⟨h1, g, h2, h3⟩
  · rcases h' with ⟨_, k2⟩ | ⟨k1, _⟩
    · omega
    · exact absurd k1 h1
  · rcases h' with ⟨k1, _⟩ | ⟨_, g', k2, k3⟩
    · exact absurd h1 k1
    · rw [h3, k3]
      exact hk g g' (dbest_uq h1.2 h1.1 h2 k2)
theorem dbest_congr {m n : Nat} {c c' y y' : Nat → Int} {b : Nat → Nat} (hc : ∀ l, l < m → c l = c' l) (hy : ∀ k, k < n → y k = y' k) (h : dbest m n c y b) : dbest m n c' y' b := by
  have e1 : ∀ b, dok m n c y b ↔ dok m n c' y' b := fun b => by
    have e : ∀ l, sm (fun k => if b k = l then y k else 0) n = sm (fun k => if b k = l then y' k else 0) n := fun l => sm_congr n (fun k hk => by rw [hy k hk])
    constructor
    · intro q; exact ⟨q.1, fun l hl => by rw [← e, ← hc l hl]; exact q.2 l hl⟩
    · intro q; exact ⟨q.1, fun l hl => by rw [e, hc l hl]; exact q.2 l hl⟩
  have e2 : ∀ b, sm (dv m y b) n = sm (dv m y' b) n := fun b => sm_congr n (fun k hk => by unfold dv; rw [hy k hk])
  exact ⟨(e1 b).1 h.1, fun b' hb' => by rw [← e2, ← e2]; exact h.2 b' ((e1 b').2 hb')⟩
theorem gi_ag {F : List Nat} {g g' : Nat → Nat} (h : ∀ k, k < F.length → g k = g' k) {i : Nat} (hi : i < F.length) : gi F g i = gi F g' i := h _ (by omega)
theorem lfV_ag {F T : List Nat} {f : Int} {g g' : Nat → Nat} (h : ∀ k, k < F.length → g k = g' k) : ∀ k, k ≤ F.length → lfV F T f g k = lfV F T f g' k
  | 0, _ => rfl
  | k + 1, hk => by
    have ih := lfV_ag h k (by omega) (T := T) (f := f)
    show (if _ then _ else _) = (if _ then _ else _)
    rw [gi_ag h (by omega), ih]
theorem sm_ag {F : List Nat} {g g' : Nat → Nat} (h : ∀ k, k < F.length → g k = g' k) (u : (Nat → Nat) → Nat → Int) (hu : ∀ i, gi F g i = gi F g' i → u g i = u g' i) : sm (u g) F.length = sm (u g') F.length := sm_congr _ (fun i hi => hu i (gi_ag h hi))
def dkN (F T : List Nat) (yr : Nat → Int) (g : Nat → Nat) (N : ab_Me) : Prop := (F.length ≤ 8 ∧ T.length ≤ 4) ∧ (N 41 0 = (F.length : Int) ∧ N 41 3 = (T.length : Int)) ∧ rL (N 42) F ∧ rL (N 44) T ∧ (∀ i, i < F.length → N 43 i = (gi F g i : Int)) ∧ (∀ i, i < F.length → F.getD i 0 < 120 ∧ N 38 (F.getD i 0) = yr (F.getD i 0) ∧ 0 ≤ yr (F.getD i 0) ∧ yr (F.getD i 0) ≤ 720) ∧ ∀ l, l < T.length → T.getD l 0 < 12
section AnsX
variable (L : Nat) (N : ab_Me) {F T : List Nat} {yr : Nat → Int} {g : Nat → Nat}
theorem c_X1_yarnFrom (h : dkN F T yr g N) (lot : Int) : cF L 1 mX1_yarnFrom [.inr 41, .inl lot, .inr 34] N (sm (yfT F T yr lot g) F.length) := by
  obtain ⟨⟨h1, h2⟩, ⟨h3, h4⟩, h5, h6, h7, h8, h9⟩ := h
  refine cF_of rfl ?_
  change wp _ _ _ 0 [some (.inr 41), some (.inl lot), some (.inr 34), none, none] [] _ _
  refine wp_ic iX1_yarnFrom_0 (by decide) ?_
  refine wp_is3 iX1_yarnFrom_1 ?_
  refine wp_ic iX1_yarnFrom_2 (by decide) ?_
  refine wp_is4 iX1_yarnFrom_3 ?_
  have key : ∀ (j i : Nat), F.length - i = j → i ≤ F.length → wp L 0 mX1_yarnFrom 5 [some (.inr 41), some (.inl lot), some (.inr 34), some (.inl (sm (yfT F T yr lot g) i)), some (.inl (i : Int))] [] N (fun r M1 => r = some (.inl (sm (yfT F T yr lot g) F.length)) ∧ M1 = N) := by
    intro j
    induction j using Nat.strongRecOn with
    | ind j ih =>
      intro i hj hi
      have ti : ((i : Int)).toNat = i := by omega
      refine wp_il4 iX1_yarnFrom_5 ?_
      refine wp_al0 iX1_yarnFrom_7 ?_
      refine wp_gI iX1_yarnFrom_8 fi_1_9 rfl ?_
      rw [h3]
      refine wp_cge iX1_yarnFrom_11 (fun c_11 => ?_) (fun c_11 => ?_)
      · have e : i = F.length := by omega
        subst e
        refine wp_il3 iX1_yarnFrom_65 ?_
        refine wp_ret iX1_yarnFrom_66 rfl ?_
        exact ⟨rfl, rfl⟩
      · have hil : i < F.length := by omega
        have bd : 0 ≤ sm (yfT F T yr lot g) i ∧ sm (yfT F T yr lot g) i ≤ 5760 := by
          refine ⟨sm_nn i (fun k hk => ?_), Int.le_trans (sm_up_to (z := 720) i (fun k hk => ?_)) (by omega)⟩
          · unfold yfT; split
            · exact (h8 k (by omega)).2.2.1
            · omega
          · unfold yfT; split
            · exact (h8 k (by omega)).2.2.2
            · omega
        have h8i := h8 i hil
        have stp : ∀ v : Int, v = sm (yfT F T yr lot g) i + yfT F T yr lot g i → wp L 0 mX1_yarnFrom 59 [some (.inr 41), some (.inl lot), some (.inr 34), some (.inl v), some (.inl (i : Int))] [] N (fun r M1 => r = some (.inl (sm (yfT F T yr lot g) F.length)) ∧ M1 = N) := by
          intro v hv
          refine wp_ii4 iX1_yarnFrom_59 (by omega) ?_
          refine wp_goto iX1_yarnFrom_62 ?_
          rw [hv, show (i : Int) + 1 = ((i + 1 : Nat) : Int) by omega]
          exact ih _ (by omega) (i + 1) rfl (by omega)
        refine wp_al0 iX1_yarnFrom_14 ?_
        refine wp_gR iX1_yarnFrom_15 fr_1_19 rfl rfl rfl ?_
        refine wp_il4 iX1_yarnFrom_18 ?_
        refine wp_ia iX1_yarnFrom_20 rfl (by omega) ?_
        rw [ti, h7 i hil]
        refine wp_al0 iX1_yarnFrom_21 ?_
        refine wp_gI iX1_yarnFrom_22 fi_1_22 rfl ?_
        rw [h4]
        refine wp_cge iX1_yarnFrom_25 (fun c_25 => ?_) (fun c_25 => ?_)
        · refine stp _ ?_
          unfold yfT
          rw [if_neg (fun w => by have := w.1; omega)]
          omega
        · have hgl : gi F g i < T.length := by omega
          refine wp_al0 iX1_yarnFrom_28 ?_
          refine wp_gR iX1_yarnFrom_29 fr_1_25 rfl rfl rfl ?_
          refine wp_al0 iX1_yarnFrom_32 ?_
          refine wp_gR iX1_yarnFrom_33 fr_1_19 rfl rfl rfl ?_
          refine wp_il4 iX1_yarnFrom_36 ?_
          refine wp_ia iX1_yarnFrom_38 rfl (by omega) ?_
          rw [ti, h7 i hil]
          refine wp_ia iX1_yarnFrom_39 rfl (by omega) ?_
          rw [Int.toNat_natCast, h6 _ hgl]
          refine wp_il1 iX1_yarnFrom_40 ?_
          refine wp_cne iX1_yarnFrom_41 (fun c_41 => ?_) (fun c_41 => ?_)
          · refine stp _ ?_
            unfold yfT
            rw [if_neg (fun w => c_41 w.2)]
            omega
          · refine wp_il3 iX1_yarnFrom_44 ?_
            refine wp_al2 iX1_yarnFrom_45 ?_
            refine wp_gR iX1_yarnFrom_46 fr_1_74 rfl rfl rfl ?_
            refine wp_al0 iX1_yarnFrom_49 ?_
            refine wp_gR iX1_yarnFrom_50 fr_1_15 rfl rfl rfl ?_
            refine wp_il4 iX1_yarnFrom_53 ?_
            refine wp_ia iX1_yarnFrom_55 rfl (by omega) ?_
            rw [ti, h5 i hil]
            refine wp_ia iX1_yarnFrom_56 rfl (by omega) ?_
            rw [Int.toNat_natCast, h8i.2.1]
            refine wp_add iX1_yarnFrom_57 (by omega) ?_
            refine wp_is3 iX1_yarnFrom_58 ?_
            refine stp _ ?_
            unfold yfT
            rw [if_pos ⟨hgl, by simpa using c_41⟩]
  exact key _ 0 rfl (by omega)
theorem c_X1_countServed (h : dkN F T yr g N) : cF L 1 mX1_countServed [.inr 41] N (sm (ctT F T g) F.length) := by
  obtain ⟨⟨h1, h2⟩, ⟨h3, h4⟩, h5, h6, h7, h8, h9⟩ := h
  refine cF_of rfl ?_
  change wp _ _ _ 0 [some (.inr 41), none, none] [] _ _
  refine wp_ic iX1_countServed_0 (by decide) ?_
  refine wp_is1 iX1_countServed_1 ?_
  refine wp_ic iX1_countServed_2 (by decide) ?_
  refine wp_is2 iX1_countServed_3 ?_
  have key : ∀ (j i : Nat), F.length - i = j → i ≤ F.length → wp L 0 mX1_countServed 4 [some (.inr 41), some (.inl (sm (ctT F T g) i)), some (.inl (i : Int))] [] N (fun r M1 => r = some (.inl (sm (ctT F T g) F.length)) ∧ M1 = N) := by
    intro j
    induction j using Nat.strongRecOn with
    | ind j ih =>
      intro i hj hi
      have ti : ((i : Int)).toNat = i := by omega
      refine wp_il2 iX1_countServed_4 ?_
      refine wp_al0 iX1_countServed_5 ?_
      refine wp_gI iX1_countServed_6 fi_1_9 rfl ?_
      rw [h3]
      refine wp_cge iX1_countServed_9 (fun c_9 => ?_) (fun c_9 => ?_)
      · have e : i = F.length := by omega
        subst e
        refine wp_il1 iX1_countServed_34 ?_
        refine wp_ret iX1_countServed_35 rfl ?_
        exact ⟨rfl, rfl⟩
      · have hil : i < F.length := by omega
        have bd : 0 ≤ sm (ctT F T g) i ∧ sm (ctT F T g) i ≤ 8 := by
          refine ⟨sm_nn i (fun k hk => ?_), Int.le_trans (sm_up_to (z := 1) i (fun k hk => ?_)) (by omega)⟩ <;> (unfold ctT; split <;> omega)
        have stp : ∀ v : Int, v = sm (ctT F T g) i + ctT F T g i → wp L 0 mX1_countServed 28 [some (.inr 41), some (.inl v), some (.inl (i : Int))] [] N (fun r M1 => r = some (.inl (sm (ctT F T g) F.length)) ∧ M1 = N) := by
          intro v hv
          refine wp_ii2 iX1_countServed_28 (by omega) ?_
          refine wp_goto iX1_countServed_31 ?_
          rw [hv, show (i : Int) + 1 = ((i + 1 : Nat) : Int) by omega]
          exact ih _ (by omega) (i + 1) rfl (by omega)
        refine wp_al0 iX1_countServed_12 ?_
        refine wp_gR iX1_countServed_13 fr_1_19 rfl rfl rfl ?_
        refine wp_il2 iX1_countServed_16 ?_
        refine wp_ia iX1_countServed_17 rfl (by omega) ?_
        rw [ti, h7 i hil]
        refine wp_al0 iX1_countServed_18 ?_
        refine wp_gI iX1_countServed_19 fi_1_22 rfl ?_
        rw [h4]
        refine wp_cge iX1_countServed_22 (fun c_22 => ?_) (fun c_22 => ?_)
        · refine stp _ ?_
          unfold ctT
          rw [if_neg (by omega)]
          omega
        · refine wp_ii1 iX1_countServed_25 (by omega) ?_
          refine stp _ ?_
          unfold ctT
          rw [if_pos (by omega)]
  exact key _ 0 rfl (by omega)
theorem c_X1_lotFor (h : dkN F T yr g N) (hinj : ∀ i j, i < j → j < F.length → F.getD i 0 < F.getD j 0) (f : Int) : cF L 1 mX1_lotFor [.inr 41, .inl f] N (lfV F T f g F.length) := by
  obtain ⟨⟨h1, h2⟩, ⟨h3, h4⟩, h5, h6, h7, h8, h9⟩ := h
  refine cF_of rfl ?_
  change wp _ _ _ 0 [some (.inr 41), some (.inl f), none] [] _ _
  refine wp_ic iX1_lotFor_0 (by decide) ?_
  refine wp_is2 iX1_lotFor_1 ?_
  have key : ∀ (j i : Nat), F.length - i = j → i ≤ F.length → lfV F T f g i = -4 → wp L 0 mX1_lotFor 2 [some (.inr 41), some (.inl f), some (.inl (i : Int))] [] N (fun r M1 => r = some (.inl (lfV F T f g F.length)) ∧ M1 = N) := by
    intro j
    induction j using Nat.strongRecOn with
    | ind j ih =>
      intro i hj hi hv
      have ti : ((i : Int)).toNat = i := by omega
      refine wp_il2 iX1_lotFor_2 ?_
      refine wp_al0 iX1_lotFor_3 ?_
      refine wp_gI iX1_lotFor_4 fi_1_9 rfl ?_
      rw [h3]
      refine wp_cge iX1_lotFor_7 (fun c_7 => ?_) (fun c_7 => ?_)
      · have e : i = F.length := by omega
        subst e
        refine wp_bp iX1_lotFor_51 (by decide) ?_
        refine wp_ret iX1_lotFor_53 rfl ?_
        exact ⟨by rw [hv], rfl⟩
      · have hil : i < F.length := by omega
        have stp : ¬ (((F.getD i 0 : Nat) : Int) = f ∧ gi F g i < T.length) → wp L 0 mX1_lotFor 45 [some (.inr 41), some (.inl f), some (.inl (i : Int))] [] N (fun r M1 => r = some (.inl (lfV F T f g F.length)) ∧ M1 = N) := by
          intro hn
          refine wp_ii2 iX1_lotFor_45 (by omega) ?_
          refine wp_goto iX1_lotFor_48 ?_
          rw [show (i : Int) + 1 = ((i + 1 : Nat) : Int) by omega]
          refine ih _ (by omega) (i + 1) rfl (by omega) ?_
          show (if ((F.getD i 0 : Nat) : Int) = f ∧ gi F g i < T.length then _ else _) = _
          rw [if_neg hn]
          exact hv
        refine wp_al0 iX1_lotFor_10 ?_
        refine wp_gR iX1_lotFor_11 fr_1_15 rfl rfl rfl ?_
        refine wp_il2 iX1_lotFor_14 ?_
        refine wp_ia iX1_lotFor_15 rfl (by omega) ?_
        rw [ti, h5 i hil]
        refine wp_il1 iX1_lotFor_16 ?_
        refine wp_cne iX1_lotFor_17 (fun c_17 => ?_) (fun c_17 => ?_)
        · exact stp (fun w => c_17 w.1)
        · refine wp_al0 iX1_lotFor_20 ?_
          refine wp_gR iX1_lotFor_21 fr_1_19 rfl rfl rfl ?_
          refine wp_il2 iX1_lotFor_24 ?_
          refine wp_ia iX1_lotFor_25 rfl (by omega) ?_
          rw [ti, h7 i hil]
          refine wp_al0 iX1_lotFor_26 ?_
          refine wp_gI iX1_lotFor_27 fi_1_22 rfl ?_
          rw [h4]
          refine wp_cge iX1_lotFor_30 (fun c_30 => ?_) (fun c_30 => ?_)
          · exact stp (fun w => by have := w.2; omega)
          · have hgl : gi F g i < T.length := by omega
            refine wp_al0 iX1_lotFor_33 ?_
            refine wp_gR iX1_lotFor_34 fr_1_25 rfl rfl rfl ?_
            refine wp_al0 iX1_lotFor_37 ?_
            refine wp_gR iX1_lotFor_38 fr_1_19 rfl rfl rfl ?_
            refine wp_il2 iX1_lotFor_41 ?_
            refine wp_ia iX1_lotFor_42 rfl (by omega) ?_
            rw [ti, h7 i hil]
            refine wp_ia iX1_lotFor_43 rfl (by omega) ?_
            rw [Int.toNat_natCast, h6 _ hgl]
            refine wp_ret iX1_lotFor_44 rfl ?_
            have c_17 : ((F.getD i 0 : Nat) : Int) = f := by simpa using c_17
            have fin : ∀ d, i + 1 + d ≤ F.length → lfV F T f g (i + 1 + d) = ((T.getD (gi F g i) 0 : Nat) : Int) := by
              intro d
              induction d with
              | zero =>
                intro _
                show (if ((F.getD i 0 : Nat) : Int) = f ∧ gi F g i < T.length then _ else _) = _
                rw [if_pos ⟨c_17, hgl⟩]
              | succ d ihd =>
                intro hd
                show (if ((F.getD (i + 1 + d) 0 : Nat) : Int) = f ∧ gi F g (i + 1 + d) < T.length then _ else _) = _
                have := hinj i (i + 1 + d) (by omega) (by omega)
                rw [if_neg (fun w => by have := w.1; omega)]
                exact ihd (by omega)
            have q := fin (F.length - (i + 1)) (by omega)
            rw [show i + 1 + (F.length - (i + 1)) = F.length by omega] at q
            exact ⟨by rw [q], rfl⟩
  exact key _ 0 rfl (by omega) rfl
theorem yf_sum (hT : ∀ i j, i < j → j < T.length → T.getD i 0 < T.getD j 0) (i : Nat) : ∀ k, k ≤ T.length → sm (fun l => yfT F T yr ((T.getD l 0 : Nat) : Int) g i) k = if gi F g i < k then yr (F.getD i 0) else 0
  | 0, _ => by simp [sm]
  | k + 1, hk => by
    have ih := yf_sum hT i k (by omega)
    show sm _ k + yfT F T yr ((T.getD k 0 : Nat) : Int) g i = _
    rw [ih]
    unfold yfT
    by_cases z : gi F g i < k
    · have := hT (gi F g i) k z (by omega)
      rw [if_pos z, if_neg (fun w => by have := w.2; omega), if_pos (by omega)]
      omega
    · by_cases w : gi F g i = k
      · rw [if_neg z, w, if_pos ⟨by omega, rfl⟩, if_pos (by omega)]
        omega
      · rw [if_neg z, if_neg (show ¬ gi F g i < k + 1 by omega)]
        by_cases x : gi F g i < T.length
        · have := hT k (gi F g i) (by omega) x
          rw [if_neg (fun w => by have := w.2; omega)]
          omega
        · rw [if_neg (fun w => x w.1)]
          omega
theorem c_X1_yarnInAll (h : dkN F T yr g N) (hT : ∀ i j, i < j → j < T.length → T.getD i 0 < T.getD j 0) : cF L 2 mX1_yarnInAll [.inr 41, .inr 34] N (sm (yaT F T yr g) F.length) := by
  obtain ⟨⟨h1, h2⟩, ⟨h3, h4⟩, h5, h6, h7, h8, h9⟩ := id h
  refine cF_of rfl ?_
  change wp _ _ _ 0 [some (.inr 41), some (.inr 34), none, none] [] _ _
  refine wp_ic iX1_yarnInAll_0 (by decide) ?_
  refine wp_is2 iX1_yarnInAll_1 ?_
  refine wp_ic iX1_yarnInAll_2 (by decide) ?_
  refine wp_is3 iX1_yarnInAll_3 ?_
  have bd1 : ∀ l, 0 ≤ sm (yfT F T yr ((T.getD l 0 : Nat) : Int) g) F.length ∧ sm (yfT F T yr ((T.getD l 0 : Nat) : Int) g) F.length ≤ 5760 := fun l => by
    refine ⟨sm_nn _ (fun k hk => ?_), Int.le_trans (sm_up_to (z := 720) _ (fun k hk => ?_)) (by omega)⟩
    · unfold yfT; split
      · exact (h8 k (by omega)).2.2.1
      · omega
    · unfold yfT; split
      · exact (h8 k (by omega)).2.2.2
      · omega
  have key : ∀ (j i : Nat), T.length - i = j → i ≤ T.length → wp L 1 mX1_yarnInAll 4 [some (.inr 41), some (.inr 34), some (.inl (sm (fun l => sm (yfT F T yr ((T.getD l 0 : Nat) : Int) g) F.length) i)), some (.inl (i : Int))] [] N (fun r M1 => r = some (.inl (sm (yaT F T yr g) F.length)) ∧ M1 = N) := by
    intro j
    induction j using Nat.strongRecOn with
    | ind j ih =>
      intro i hj hi
      have ti : ((i : Int)).toNat = i := by omega
      refine wp_il3 iX1_yarnInAll_4 ?_
      refine wp_al0 iX1_yarnInAll_5 ?_
      refine wp_gI iX1_yarnInAll_6 fi_1_22 rfl ?_
      rw [h4]
      refine wp_cge iX1_yarnInAll_9 (fun c_9 => ?_) (fun c_9 => ?_)
      · have e : i = T.length := by omega
        subst e
        refine wp_il2 iX1_yarnInAll_32 ?_
        refine wp_ret iX1_yarnInAll_33 rfl ?_
        refine ⟨?_, rfl⟩
        rw [sm_comm (fun l i => yfT F T yr ((T.getD l 0 : Nat) : Int) g i) F.length T.length]
        rw [sm_congr F.length (fun i _ => yf_sum hT i T.length (Nat.le_refl _))]
        rfl
      · have b2 := sm_bd (fun l => sm (yfT F T yr ((T.getD l 0 : Nat) : Int) g) F.length) 5760 bd1 i
        have b3 := bd1 i
        refine wp_il2 iX1_yarnInAll_12 ?_
        refine wp_al0 iX1_yarnInAll_13 ?_
        refine wp_al0 iX1_yarnInAll_14 ?_
        refine wp_gR iX1_yarnInAll_15 fr_1_25 rfl rfl rfl ?_
        refine wp_il3 iX1_yarnInAll_18 ?_
        refine wp_ia iX1_yarnInAll_19 rfl (by omega) ?_
        rw [ti, h6 i (by omega)]
        refine wp_al1 iX1_yarnInAll_20 ?_
        refine wp_v2f iX1_yarnInAll_21 ml_1_82 rfl rfl rfl rfl (c_X1_yarnFrom L N h _) ?_
        refine wp_add iX1_yarnInAll_24 (by omega) ?_
        refine wp_is2 iX1_yarnInAll_25 ?_
        refine wp_ii3 iX1_yarnInAll_26 (by omega) ?_
        refine wp_goto iX1_yarnInAll_29 ?_
        rw [show (i : Int) + 1 = ((i + 1 : Nat) : Int) by omega]
        exact ih _ (by omega) (i + 1) rfl (by omega)
  exact key _ 0 rfl (by omega)
end AnsX
