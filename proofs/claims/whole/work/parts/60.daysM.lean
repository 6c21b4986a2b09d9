/-! ===== THE SHARING of the reference ===== -/
def hWM (M : ab_Me) : Prop := (0 ≤ M 56 7 ∧ M 56 7 ≤ 4) ∧ (∀ v : Nat, (v : Int) < M 56 7 → 1 ≤ M 61 v ∧ M 61 v ≤ 20) ∧ (∀ v, M 62 v = 0 ∨ M 62 v = 1)
theorem shw_M {M : ab_Me} (h : hM M) (hw : hWM M) : shw (M 56 0).toNat (M 56 7).toNat (M 56 1).toNat (M 58) (M 61) (M 62) := by
  obtain ⟨h1, h2, h3, h4, h5, h6⟩ := id h
  obtain ⟨w1, w2, w3⟩ := hw
  exact ⟨by omega, by omega, by omega, h6, fun v hv => w2 v (by omega), w3⟩
def fcM (M : ab_Me) (a : Nat) (i j : Nat) : Int := M 58 (12 * (j : Int) + ((a : Int) + (i : Int))).toNat
section DaysM
variable (L : Nat) (M : ab_Me)
theorem c_X9_hasFace (h : hM M) (a n : Nat) (han : a + n ≤ 12) : cF L 1 mX9_hasFace [.inr 56, .inl (a : Int), .inl (n : Int)] M (if 0 < sm (fun i => sm (fcM M a i) (M 56 1).toNat) n then 1 else 0) := by
  obtain ⟨h1, h2, h3, h4, h5, h6⟩ := id h
  have hcb : ∀ i R, 0 ≤ sm (fcM M a i) R ∧ sm (fcM M a i) R ≤ 1 * R := fun i R => sm_bd (fcM M a i) 1 (fun j => by have := h6 (12 * (j : Int) + ((a : Int) + (i : Int))).toNat; unfold fcM; omega) R
  have hsb : ∀ i, 0 ≤ sm (fun i => sm (fcM M a i) (M 56 1).toNat) i := fun i => (sm_bd (fun i => sm (fcM M a i) (M 56 1).toNat) 10 (fun i => by have := hcb i (M 56 1).toNat; omega) i).1
  refine cF_of rfl ?_
  change wp _ _ _ 0 [some (.inr 56), some (.inl (a : Int)), some (.inl (n : Int)), none, none, none] [] _ _
  refine wp_ic iX9_hasFace_0 (by decide) ?_
  refine wp_is3 iX9_hasFace_1 ?_
  refine wp_il1 iX9_hasFace_2 ?_
  refine wp_is4 iX9_hasFace_3 ?_
  have key : ∀ (m i : Nat) (acc w : Int), n - i = m → i ≤ n → w = (a : Int) + (i : Int) → acc = (if 0 < sm (fun i => sm (fcM M a i) (M 56 1).toNat) i then 1 else 0) → ∀ v5 : Option ab_V, wp L 0 mX9_hasFace 5 [some (.inr 56), some (.inl (a : Int)), some (.inl (n : Int)), some (.inl acc), some (.inl w), v5] [] M (fun r M1 => r = some (.inl (if 0 < sm (fun i => sm (fcM M a i) (M 56 1).toNat) n then 1 else 0)) ∧ M1 = M) := by
    intro m
    induction m using Nat.strongRecOn with
    | ind m ih =>
      intro i acc w hm hi hw hacc v5
      refine wp_il4 iX9_hasFace_5 ?_
      refine wp_il1 iX9_hasFace_7 ?_
      refine wp_il2 iX9_hasFace_8 ?_
      refine wp_add iX9_hasFace_9 (by omega) ?_
      refine wp_cge iX9_hasFace_10 (fun c_10 => ?_) (fun c_10 => ?_)
      · refine wp_il3 iX9_hasFace_63 ?_
        have hin : i = n := by omega
        refine wp_retb iX9_hasFace_64 rfl (by rw [hacc]; split <;> simp) ?_
        rw [hacc, hin]
        exact ⟨rfl, rfl⟩
      · refine wp_ic iX9_hasFace_13 (by decide) ?_
        refine wp_is5 iX9_hasFace_14 ?_
        have key2 : ∀ (q j : Nat) (a2 : Int), (M 56 1).toNat - j = q → j ≤ (M 56 1).toNat → a2 = (if 0 < sm (fun i => sm (fcM M a i) (M 56 1).toNat) i + sm (fcM M a i) j then 1 else 0) → wp L 0 mX9_hasFace 16 [some (.inr 56), some (.inl (a : Int)), some (.inl (n : Int)), some (.inl a2), some (.inl w), some (.inl (j : Int))] [] M (fun r M1 => r = some (.inl (if 0 < sm (fun i => sm (fcM M a i) (M 56 1).toNat) n then 1 else 0)) ∧ M1 = M) := by
          intro q
          induction q using Nat.strongRecOn with
          | ind q ih2 =>
            intro j a2 hq hj ha2
            refine wp_il5 iX9_hasFace_16 ?_
            refine wp_al0 iX9_hasFace_18 ?_
            refine wp_gI iX9_hasFace_19 fi_9_13 rfl ?_
            refine wp_cge iX9_hasFace_22 (fun c_22 => ?_) (fun c_22 => ?_)
            · refine wp_ii4 iX9_hasFace_57 (by omega) ?_
              refine wp_goto iX9_hasFace_60 ?_
              have hjr : j = (M 56 1).toNat := by omega
              refine ih _ (by omega) (i + 1) a2 (w + 1) rfl (by omega) (by omega) ?_ _
              rw [ha2, hjr]
              rfl
            · have hfj : fcM M a i j = M 58 (12 * (j : Int) + w).toNat := by unfold fcM; rw [hw]
              have hf01 := h6 (12 * (j : Int) + w).toNat
              have hsj : sm (fcM M a i) (j + 1) = sm (fcM M a i) j + fcM M a i j := rfl
              have g1 := hsb i
              have g2 := (hcb i j).1
              have nx : ∀ a3 : Int, a3 = (if 0 < sm (fun i => sm (fcM M a i) (M 56 1).toNat) i + sm (fcM M a i) (j + 1) then 1 else 0) → wp L 0 mX9_hasFace 50 [some (.inr 56), some (.inl (a : Int)), some (.inl (n : Int)), some (.inl a2), some (.inl w), some (.inl (j : Int))] [.inl a3] M (fun r M1 => r = some (.inl (if 0 < sm (fun i => sm (fcM M a i) (M 56 1).toNat) n then 1 else 0)) ∧ M1 = M) := by
                intro a3 h3
                refine wp_is3 iX9_hasFace_50 ?_
                refine wp_ii5 iX9_hasFace_51 (by omega) ?_
                refine wp_goto iX9_hasFace_54 ?_
                rw [show (j : Int) + 1 = ((j + 1 : Nat) : Int) by omega]
                exact ih2 _ (by omega) (j + 1) a3 rfl (by omega) h3
              refine wp_il3 iX9_hasFace_25 ?_
              refine wp_zne iX9_hasFace_26 (fun c_26 => ?_) (fun c_26 => ?_)
              · refine wp_ic iX9_hasFace_45 (by decide) ?_
                refine wp_goto iX9_hasFace_46 ?_
                refine nx 1 ?_
                have : 0 < sm (fun i => sm (fcM M a i) (M 56 1).toNat) i + sm (fcM M a i) j := by
                  by_cases z : 0 < sm (fun i => sm (fcM M a i) (M 56 1).toNat) i + sm (fcM M a i) j
                  · exact z
                  · rw [if_neg z] at ha2; exact absurd ha2 c_26
                rw [if_pos (by omega)]
              · refine wp_al0 iX9_hasFace_29 ?_
                refine wp_gR iX9_hasFace_30 fr_9_20 rfl rfl rfl ?_
                refine wp_bp iX9_hasFace_33 (by decide) ?_
                refine wp_il5 iX9_hasFace_35 ?_
                refine wp_mul iX9_hasFace_37 (by omega) ?_
                refine wp_il4 iX9_hasFace_38 ?_
                refine wp_add iX9_hasFace_40 (by omega) ?_
                refine wp_ba iX9_hasFace_41 rfl rfl (by omega) ?_
                have hz : ¬ 0 < sm (fun i => sm (fcM M a i) (M 56 1).toNat) i + sm (fcM M a i) j := by
                  intro z
                  rw [if_pos z] at ha2
                  omega
                refine wp_zeq iX9_hasFace_42 (fun c_42 => ?_) (fun c_42 => ?_)
                · refine wp_ic iX9_hasFace_49 (by decide) ?_
                  refine nx 0 ?_
                  rw [if_neg (by omega)]
                · refine wp_ic iX9_hasFace_45 (by decide) ?_
                  refine wp_goto iX9_hasFace_46 ?_
                  refine nx 1 ?_
                  rw [if_pos (by omega)]
        refine key2 _ 0 acc rfl (by omega) ?_
        rw [hacc]
        simp [sm]
  exact key _ 0 0 _ rfl (by omega) (by omega) rfl _
theorem c_X9_daysOf (h : hM M) (hw : hWM M) (a n v : Nat) (hv : (v : Int) < M 56 7) (hn : 1 ≤ n) (han : ((a + n : Nat) : Int) ≤ M 56 0) : cF L 3 mX9_daysOf [.inr 56, .inl (a : Int), .inl (n : Int), .inl (v : Int)] M (sh_dos (M 58) (M 56 1).toNat (M 61) (M 62) v a n) := by
  obtain ⟨h1, h2, h3, h4, h5, h6⟩ := id h
  obtain ⟨w1, w2, w3⟩ := id hw
  have hs := w2 v hv
  have hm := w3 v
  have tv : ((v : Int)).toNat = v := by omega
  have hwb := wb_bd (M 58) h6 (a : Int) n (M 56 1).toNat
  have e1 : 3 * (n : Int) * (((M 56 1).toNat : Nat) : Int) ≤ 36 * 10 := Int.mul_le_mul (by omega) (by omega) (by omega) (by omega)
  have hwk := c_X9_work L M h (a : Int) (n : Int) (M 56 1) (by omega) (by omega) (by omega)
  rw [show ((n : Int)).toNat = n by omega] at hwk
  refine cF_of rfl ?_
  change wp _ _ _ 0 [some (.inr 56), some (.inl (a : Int)), some (.inl (n : Int)), some (.inl (v : Int))] [] _ _
  have tail : ¬ (0 < sm (fun i => sm (fcM M a i) (M 56 1).toNat) n ∧ M 62 v = 0) → wp L 2 mX9_daysOf 20 [some (.inr 56), some (.inl (a : Int)), some (.inl (n : Int)), some (.inl (v : Int))] [] M (fun r M1 => r = some (.inl (sh_dos (M 58) (M 56 1).toNat (M 61) (M 62) v a n)) ∧ M1 = M) := by
    intro q
    refine wp_al0 iX9_daysOf_20 ?_
    refine wp_il1 iX9_daysOf_21 ?_
    refine wp_il2 iX9_daysOf_22 ?_
    refine wp_al0 iX9_daysOf_23 ?_
    refine wp_gI iX9_daysOf_24 fi_9_13 rfl ?_
    refine wp_v3f iX9_daysOf_27 ml_9_183 rfl rfl rfl rfl (hwk) ?_
    refine wp_al0 iX9_daysOf_30 ?_
    refine wp_gR iX9_daysOf_31 fr_9_30 rfl rfl rfl ?_
    refine wp_il3 iX9_daysOf_34 ?_
    refine wp_ia iX9_daysOf_35 rfl (by omega) ?_
    rw [tv]
    refine wp_add iX9_daysOf_36 (by omega) ?_
    refine wp_ic iX9_daysOf_37 (by decide) ?_
    refine wp_sub iX9_daysOf_38 (by omega) ?_
    refine wp_al0 iX9_daysOf_39 ?_
    refine wp_gR iX9_daysOf_40 fr_9_30 rfl rfl rfl ?_
    refine wp_il3 iX9_daysOf_43 ?_
    refine wp_ia iX9_daysOf_44 rfl (by omega) ?_
    rw [tv]
    refine wp_div iX9_daysOf_45 (by omega) ?_
    refine wp_ret iX9_daysOf_46 rfl ?_
    have e : sh_dos (M 58) (M 56 1).toNat (M 61) (M 62) v a n = (wb (M 58) (a : Int) n (M 56 1).toNat + M 61 v - 1) / M 61 v := if_neg q
    rw [e]
    exact ⟨rfl, rfl⟩
  refine wp_al0 iX9_daysOf_0 ?_
  refine wp_il1 iX9_daysOf_1 ?_
  refine wp_il2 iX9_daysOf_2 ?_
  refine wp_v2f iX9_daysOf_3 ml_9_180 rfl rfl rfl rfl (c_X9_hasFace L M h a n (by omega)) ?_
  refine wp_beq iX9_daysOf_6 (fun c_6 => ?_) (fun c_6 => ?_)
  · exact tail (fun q => c_6 q.1)
  · refine wp_al0 iX9_daysOf_9 ?_
    refine wp_gR iX9_daysOf_10 fr_9_33 rfl rfl rfl ?_
    refine wp_il3 iX9_daysOf_13 ?_
    refine wp_ba iX9_daysOf_14 rfl rfl (by omega) ?_
    rw [tv]
    refine wp_zne iX9_daysOf_15 (fun c_15 => ?_) (fun c_15 => ?_)
    · exact tail (fun q => c_15 q.2)
    · refine wp_ic iX9_daysOf_18 (by decide) ?_
      refine wp_ret iX9_daysOf_19 rfl ?_
      have e : sh_dos (M 58) (M 56 1).toNat (M 61) (M 62) v a n = 0 := if_pos ⟨c_6, c_15⟩
      rw [e]
      exact ⟨rfl, rfl⟩
def rpM (N : ab_Me) (pre : sh_P) : Prop := ∀ (i : Nat) (q : Nat × Nat), pre[i]? = some q → (q.1 < 4 ∧ 1 ≤ q.2 ∧ q.2 ≤ 12) ∧ N 81 i = 12 * (q.1 : Int) + (q.2 : Int) - 1
theorem sh_used_take (pre : sh_P) (v i : Nat) (hi : i < pre.length) : sh_used (pre.take (i + 1)) v = (sh_used (pre.take i) v || (pre[i].1 == v)) := by
  unfold sh_used
  rw [List.take_succ, List.getElem?_eq_getElem hi]
  simp only [Option.toList_some, List.any_append, List.any_cons, List.any_nil, Bool.or_false]
theorem c_X9_isTaken (pre : sh_P) (hp : rpM M pre) (hl : pre.length ≤ 4) (v : Nat) (hv : v < 4) : cF L 1 mX9_isTaken [.inr 56, .inl (pre.length : Int), .inl (v : Int)] M (if sh_used pre v = true then 1 else 0) := by
  refine cF_of rfl ?_
  change wp _ _ _ 0 [some (.inr 56), some (.inl (pre.length : Int)), some (.inl (v : Int)), none, none] [] _ _
  refine wp_ic iX9_isTaken_0 (by decide) ?_
  refine wp_is3 iX9_isTaken_1 ?_
  refine wp_ic iX9_isTaken_2 (by decide) ?_
  refine wp_is4 iX9_isTaken_3 ?_
  have key : ∀ (m i : Nat) (acc : Int), pre.length - i = m → i ≤ pre.length → acc = (if sh_used (pre.take i) v = true then 1 else 0) → wp L 0 mX9_isTaken 5 [some (.inr 56), some (.inl (pre.length : Int)), some (.inl (v : Int)), some (.inl acc), some (.inl (i : Int))] [] M (fun r M1 => r = some (.inl (if sh_used pre v = true then 1 else 0)) ∧ M1 = M) := by
    intro m
    induction m using Nat.strongRecOn with
    | ind m ih =>
      intro i acc hm hi hacc
      refine wp_il4 iX9_isTaken_5 ?_
      refine wp_il1 iX9_isTaken_7 ?_
      refine wp_cge iX9_isTaken_8 (fun c_8 => ?_) (fun c_8 => ?_)
      · refine wp_il3 iX9_isTaken_41 ?_
        have hil : i = pre.length := by omega
        refine wp_retb iX9_isTaken_42 rfl (by rw [hacc]; split <;> simp) ?_
        rw [hacc, hil, List.take_length]
        exact ⟨rfl, rfl⟩
      · have hlt : i < pre.length := by omega
        have hut := sh_used_take pre v i hlt
        have hq := hp i pre[i] (List.getElem?_eq_getElem hlt)
        generalize pre[i] = q at hut hq
        have ti : ((i : Int)).toNat = i := by omega
        have nx : ∀ a3 : Int, a3 = (if sh_used (pre.take (i + 1)) v = true then 1 else 0) → wp L 0 mX9_isTaken 34 [some (.inr 56), some (.inl (pre.length : Int)), some (.inl (v : Int)), some (.inl acc), some (.inl (i : Int))] [.inl a3] M (fun r M1 => r = some (.inl (if sh_used pre v = true then 1 else 0)) ∧ M1 = M) := by
          intro a3 h3
          refine wp_is3 iX9_isTaken_34 ?_
          refine wp_ii4 iX9_isTaken_35 (by omega) ?_
          refine wp_goto iX9_isTaken_38 ?_
          rw [show (i : Int) + 1 = ((i + 1 : Nat) : Int) by omega]
          exact ih _ (by omega) (i + 1) a3 rfl (by omega) h3
        refine wp_il3 iX9_isTaken_11 ?_
        refine wp_zne iX9_isTaken_12 (fun c_12 => ?_) (fun c_12 => ?_)
        · refine wp_ic iX9_isTaken_29 (by decide) ?_
          refine wp_goto iX9_isTaken_30 ?_
          refine nx 1 ?_
          have hu : sh_used (pre.take i) v = true := by
            by_cases z : sh_used (pre.take i) v = true
            · exact z
            · rw [if_neg z] at hacc; exact absurd hacc c_12
          rw [if_pos (by rw [hut, hu]; rfl)]
        · have hnu : ¬ sh_used (pre.take i) v = true := by
            intro z
            rw [if_pos z] at hacc
            omega
          refine wp_al0 iX9_isTaken_15 ?_
          refine wp_gR iX9_isTaken_16 fr_9_96 rfl rfl rfl ?_
          refine wp_il4 iX9_isTaken_19 ?_
          refine wp_ia iX9_isTaken_21 rfl (by omega) ?_
          rw [ti, hq.2]
          refine wp_bp iX9_isTaken_22 (by decide) ?_
          refine wp_div iX9_isTaken_24 (by omega) ?_
          refine wp_il2 iX9_isTaken_25 ?_
          have hdv : (12 * (q.1 : Int) + (q.2 : Int) - 1).tdiv 12 = (q.1 : Int) := by
            rw [Int.tdiv_eq_ediv_of_nonneg (by omega)]; omega
          refine wp_cne iX9_isTaken_26 (fun c_26 => ?_) (fun c_26 => ?_)
          · refine wp_ic iX9_isTaken_33 (by decide) ?_
            refine nx 0 ?_
            rw [if_neg ?_]
            rw [hut]
            simp only [Bool.or_eq_true, beq_iff_eq]
            rintro (z | z)
            · exact hnu z
            · omega
          · refine wp_ic iX9_isTaken_29 (by decide) ?_
            refine wp_goto iX9_isTaken_30 ?_
            refine nx 1 ?_
            rw [if_pos ?_]
            rw [hut]
            simp only [Bool.or_eq_true, beq_iff_eq]
            right
            omega
  exact key _ 0 0 rfl (by omega) rfl
end DaysM
