def shr (N : ab_Me) (pre : sh_P) (b : sh_B) : Prop := (∀ (i : Nat) (q : Nat × Nat), pre[i]? = some q → N 54 i = (q.1 : Int) ∧ N 55 i = (q.2 : Int)) ∧ N 49 0 = b.1 ∧ N 49 1 = (b.2.length : Int) ∧ ∀ (i : Nat) (q : Nat × Nat), b.2[i]? = some q → N 50 i = (q.1 : Int) ∧ N 51 i = (q.2 : Int)
def shf (N N1 : ab_Me) : Prop := (∀ a, a ≠ 49 → a ≠ 50 → a ≠ 51 → a ≠ 54 → a ≠ 55 → N1 a = N a) ∧ ∀ j, j ≠ 0 → j ≠ 1 → N1 49 j = N 49 j
theorem shf.rf (N : ab_Me) : shf N N := ⟨fun _ _ _ _ _ _ => rfl, fun _ _ _ => rfl⟩
theorem shf.tr {A B C : ab_Me} (h1 : shf A B) (h2 : shf B C) : shf A C := ⟨fun a b1 b2 b3 b4 b5 => (h2.1 a b1 b2 b3 b4 b5).trans (h1.1 a b1 b2 b3 b4 b5), fun j b1 b2 => (h2.2 j b1 b2).trans (h1.2 j b1 b2)⟩
theorem shc.fr {N N1 : ab_Me} {C W R : Nat} {fac sp ms : Nat → Int} (h : shc N C W R fac sp ms) (hf : shf N N1) : shc N1 C W R fac sp ms := by
  unfold shc
  rw [hf.2 4 (by decide) (by decide), hf.1 8 (by decide) (by decide) (by decide) (by decide) (by decide), hf.1 52 (by decide) (by decide) (by decide) (by decide) (by decide), hf.1 53 (by decide) (by decide) (by decide) (by decide) (by decide), hf.1 9 (by decide) (by decide) (by decide) (by decide) (by decide), hf.1 10 (by decide) (by decide) (by decide) (by decide) (by decide)]
  exact h
theorem shr.pre {N : ab_Me} {pre : sh_P} {q : Nat × Nat} {b : sh_B} (h : shr N (pre ++ [q]) b) : shr N pre b := by
  refine ⟨fun i r hr => h.1 i r ?_, h.2⟩
  rw [List.getElem?_append_left (List.getElem?_eq_some_iff.mp hr).1]
  exact hr
theorem shr.push {N : ab_Me} {pre : sh_P} {b : sh_B} (h : shr N pre b) (v n : Nat) : shr (ab_up (ab_up N 54 pre.length (v : Int)) 55 pre.length (n : Int)) (pre ++ [(v, n)]) b := by
  obtain ⟨h1, h2, h3, h4⟩ := h
  refine ⟨fun i r hr => ?_, h2, h3, h4⟩
  have e54 : ab_up (ab_up N 54 pre.length (v : Int)) 55 pre.length (n : Int) 54 = ab_u1 (N 54) pre.length (v : Int) := by rw [ab_up_ne _ _ _ (by decide), ab_up_self]
  have e55 : ab_up (ab_up N 54 pre.length (v : Int)) 55 pre.length (n : Int) 55 = ab_u1 (N 55) pre.length (n : Int) := by rw [ab_up_self, ab_up_ne _ _ _ (by decide)]
  rw [e54, e55]
  by_cases hi : i < pre.length
  · rw [List.getElem?_append_left hi] at hr
    rw [ab_u1_ne _ _ (by omega), ab_u1_ne _ _ (by omega)]
    exact h1 i r hr
  · have hl : i < (pre ++ [(v, n)]).length := (List.getElem?_eq_some_iff.mp hr).1
    have hi2 : i = pre.length := by simp at hl; omega
    subst hi2
    simp at hr
    subst hr
    rw [ab_u1_self, ab_u1_self]
    exact ⟨rfl, rfl⟩
theorem shf.push (N : ab_Me) (l : Nat) (x y : Int) : shf N (ab_up (ab_up N 54 l x) 55 l y) := ⟨fun a b1 b2 b3 b4 b5 => by rw [ab_up_ne _ _ _ b5, ab_up_ne _ _ _ b4], fun j b1 b2 => rfl⟩
theorem take_ok {N : ab_Me} {pre : sh_P} {b : sh_B} (h : shr N pre b) (hl : pre.length ≤ 4) (so : Int) : shr (if so < N 49 0 ∨ (so = N 49 0 ∧ (pre.length : Int) < N 49 1) then cpR 4 51 55 (cpR 4 50 54 (ab_up (ab_up N 49 0 so) 49 1 (pre.length : Int))) else N) pre (sh_upd b pre so) ∧ shf N (if so < N 49 0 ∨ (so = N 49 0 ∧ (pre.length : Int) < N 49 1) then cpR 4 51 55 (cpR 4 50 54 (ab_up (ab_up N 49 0 so) 49 1 (pre.length : Int))) else N) := by
  obtain ⟨h1, h2, h3, h4⟩ := id h
  by_cases hq : so < N 49 0 ∨ (so = N 49 0 ∧ (pre.length : Int) < N 49 1)
  · rw [if_pos hq]
    have e : sh_upd b pre so = (so, pre) := by unfold sh_upd; rw [if_pos (by rw [← h2]; omega)]
    rw [e]
    refine ⟨⟨h1, rfl, rfl, fun i r hr => ?_⟩, ⟨fun a b1 b2 b3 b4 b5 => ?_, fun j b1 b2 => ?_⟩⟩
    · have hi := (List.getElem?_eq_some_iff.mp hr).1
      have hi : i < pre.length := hi
      have := h1 i r hr
      refine ⟨?_, ?_⟩
      · show (if i < 4 then N 54 i else _) = _
        rw [if_pos (by omega)]
        exact this.1
      · show (if i < 4 then N 55 i else _) = _
        rw [if_pos (by omega)]
        exact this.2
    · unfold cpR
      rw [ab_rw_ne _ _ b3, ab_rw_ne _ _ b2, ab_up_ne _ _ _ b1, ab_up_ne _ _ _ b1]
    · show ab_up (ab_up N 49 0 so) 49 1 (pre.length : Int) 49 j = _
      rw [ab_up_self, ab_u1_ne _ _ b2, ab_up_self, ab_u1_ne _ _ b1]
  · rw [if_neg hq]
    have e : sh_upd b pre so = b := by unfold sh_upd; rw [if_neg (by rw [← h2]; omega)]
    rw [e]
    exact ⟨h, shf.rf N⟩
theorem stp_at (C : Nat) (dos : Nat → Nat → Nat → Int) (g : Nat → Int → sh_P → sh_B → sh_B) (warp : Nat) (so : Int) (pre : sh_P) (b : sh_B) (v m : Nat) (hm : m < 12) : sh_stp C dos g warp so pre b (12 * v + m) = if C < warp + (m + 1) ∨ sh_used pre v = true ∨ dos v warp (m + 1) = 0 ∨ b.1 < sh_mx so (dos v warp (m + 1)) then b else g (warp + (m + 1)) (sh_mx so (dos v warp (m + 1))) (pre ++ [(v, m + 1)]) b := by
  unfold sh_stp
  rw [show (12 * v + m) / 12 = v by omega, show (12 * v + m) % 12 = m by omega]
section TryX
variable (L : Nat)
set_option maxHeartbeats 2000000 in
theorem c_X5_tryFrom {C W R : Nat} {fac sp ms : Nat → Int} (hw : shw C W R fac sp ms) : ∀ (k : Nat) (pre : sh_P) (warp : Nat) (so : Int) (b : sh_B) (N : ab_Me), pre.length + k = 4 → warp ≤ C → (0 ≤ so ∧ so ≤ 400) → shc N C W R fac sp ms → shr N pre b → ct L (k + 3) mX5_tryFrom [.inr 49, .inr 8, .inl (pre.length : Int), .inl (warp : Int), .inl so, .inl (sh_mk (sh_used pre))] N (fun r N1 => r = none ∧ shf N N1 ∧ shr N1 pre (sh_go C W (sh_dos fac R sp ms) k warp so pre b)) := by
  intro k
  obtain ⟨w1, w2, w3, w4, w5, w6⟩ := id hw
  induction k with
  | zero =>
    intro pre warp so b N hlen hwarp hso hc hr
    have hC : N 49 4 = C := hc.1
    have tk := take_ok hr (by omega) so
    refine ct_of rfl ?_
    change wp _ _ _ 0 [some (.inr 49), some (.inr 8), some (.inl (pre.length : Int)), some (.inl (warp : Int)), some (.inl so), some (.inl (sh_mk (sh_used pre))), none, none, none] [] _ _
    refine wp_il3 iX5_tryFrom_0 ?_
    refine wp_al0 iX5_tryFrom_1 ?_
    refine wp_gI iX5_tryFrom_2 fi_5_26 rfl ?_
    rw [hC]
    refine wp_cne iX5_tryFrom_5 (fun c_5 => ?_) (fun c_5 => ?_)
    · refine wp_il2 iX5_tryFrom_16 ?_
      refine wp_ic iX5_tryFrom_17 (by decide) ?_
      refine wp_clt iX5_tryFrom_18 (fun c_18 => ?_) (fun c_18 => ?_)
      · exfalso; omega
      · refine wp_retv iX5_tryFrom_21 rfl ?_
        refine ⟨rfl, shf.rf N, ?_⟩
        simp only [sh_go]
        rw [if_neg (by omega)]
        exact hr
    · refine wp_al0 iX5_tryFrom_8 ?_
      refine wp_il2 iX5_tryFrom_9 ?_
      refine wp_il4 iX5_tryFrom_10 ?_
      refine wp_v2v iX5_tryFrom_12 ml_5_55 rfl rfl rfl rfl (c_X5_takeIfBetter L N (pre.length : Int) so) ?_
      refine wp_retv iX5_tryFrom_15 rfl ?_
      have hwC : warp = C := by omega
      refine ⟨rfl, tk.2, ?_⟩
      have e : sh_go C W (sh_dos fac R sp ms) 0 warp so pre b = sh_upd b pre so := by
        simp only [sh_go]
        rw [if_pos hwC]
      rw [e]
      exact tk.1
  | succ k ih =>
    intro pre warp so b N hlen hwarp hso hc hr
    have hC : N 49 4 = C := hc.1
    have tk := take_ok hr (by omega) so
    refine ct_of rfl ?_
    change wp _ _ _ 0 [some (.inr 49), some (.inr 8), some (.inl (pre.length : Int)), some (.inl (warp : Int)), some (.inl so), some (.inl (sh_mk (sh_used pre))), none, none, none] [] _ _
    refine wp_il3 iX5_tryFrom_0 ?_
    refine wp_al0 iX5_tryFrom_1 ?_
    refine wp_gI iX5_tryFrom_2 fi_5_26 rfl ?_
    rw [hC]
    refine wp_cne iX5_tryFrom_5 (fun c_5 => ?_) (fun c_5 => ?_)
    · have hne : ¬ warp = C := by omega
      refine wp_il2 iX5_tryFrom_16 ?_
      refine wp_ic iX5_tryFrom_17 (by decide) ?_
      refine wp_clt iX5_tryFrom_18 (fun c_18 => ?_) (fun c_18 => ?_)
      · refine wp_ic iX5_tryFrom_22 (by decide) ?_
        refine wp_is6 iX5_tryFrom_23 ?_
        have key : ∀ (j v : Nat) (N1 : ab_Me), W - v = j → v ≤ W → shf N N1 → shr N1 pre (sh_fld (sh_stp C (sh_dos fac R sp ms) (sh_go C W (sh_dos fac R sp ms) k) warp so pre) b (12 * v)) → ∀ v7 v8 : Option ab_V, wp L (k + 3) mX5_tryFrom 25 [some (.inr 49), some (.inr 8), some (.inl (pre.length : Int)), some (.inl (warp : Int)), some (.inl so), some (.inl (sh_mk (sh_used pre))), some (.inl (v : Int)), v7, v8] [] N1 (fun r N1 => r = none ∧ shf N N1 ∧ shr N1 pre (sh_go C W (sh_dos fac R sp ms) (k + 1) warp so pre b)) := by
          intro j
          induction j using Nat.strongRecOn with
          | ind j ihj =>
            intro v N1 hj hv hf1 hr1 v7 v8
            have hc1 := hc.fr hf1
            have hW : N1 8 0 = W := hc1.2.1
            refine wp_il6 iX5_tryFrom_25 ?_
            refine wp_al1 iX5_tryFrom_27 ?_
            refine wp_gI iX5_tryFrom_28 fi_5_59 rfl ?_
            rw [hW]
            refine wp_cge iX5_tryFrom_31 (fun c_31 => ?_) (fun c_31 => ?_)
            · refine wp_retv iX5_tryFrom_147 rfl ?_
              refine ⟨rfl, hf1, ?_⟩
              simp only [sh_go]
              rw [if_neg hne]
              rw [show v = W by omega] at hr1
              exact hr1
            · have nextv : ∀ (N2 : ab_Me) (v7 v8 : Option ab_V), shf N N2 → shr N2 pre (sh_fld (sh_stp C (sh_dos fac R sp ms) (sh_go C W (sh_dos fac R sp ms) k) warp so pre) b (12 * (v + 1))) → wp L (k + 3) mX5_tryFrom 141 [some (.inr 49), some (.inr 8), some (.inl (pre.length : Int)), some (.inl (warp : Int)), some (.inl so), some (.inl (sh_mk (sh_used pre))), some (.inl (v : Int)), v7, v8] [] N2 (fun r N1 => r = none ∧ shf N N1 ∧ shr N1 pre (sh_go C W (sh_dos fac R sp ms) (k + 1) warp so pre b)) := by
                intro N2 v7 v8 hf2 hr2
                refine wp_ii6 iX5_tryFrom_141 (by omega) ?_
                refine wp_goto iX5_tryFrom_144 ?_
                have := ihj (W - (v + 1)) (by omega) (v + 1) N2 rfl (by omega) hf2 hr2 v7 v8
                exact this
              have skipto : ∀ m : Nat, m ≤ 12 → (∀ i, m ≤ i → i < 12 → C < warp + (i + 1) ∨ sh_used pre v = true ∨ sh_dos fac R sp ms v warp (i + 1) = 0 ∨ (sh_fld (sh_stp C (sh_dos fac R sp ms) (sh_go C W (sh_dos fac R sp ms) k) warp so pre) b (12 * v + m)).1 < sh_mx so (sh_dos fac R sp ms v warp (i + 1))) → sh_fld (sh_stp C (sh_dos fac R sp ms) (sh_go C W (sh_dos fac R sp ms) k) warp so pre) b (12 * (v + 1)) = sh_fld (sh_stp C (sh_dos fac R sp ms) (sh_go C W (sh_dos fac R sp ms) k) warp so pre) b (12 * v + m) := by
                intro m hm hs
                have := sh_fld_skip2 (sh_stp C (sh_dos fac R sp ms) (sh_go C W (sh_dos fac R sp ms) k) warp so pre) b (12 * v + m) (12 - m) (fun o h1 h2 => by
                  obtain ⟨i, rfl⟩ : ∃ i, o = 12 * v + i := ⟨o - 12 * v, by omega⟩
                  rw [stp_at _ _ _ _ _ _ _ _ _ (by omega), if_pos (hs i (by omega) (by omega))])
                rw [show 12 * v + m + (12 - m) = 12 * (v + 1) by omega] at this
                exact this
              have hbit := sh_bit (sh_used pre) v (by omega)
              refine wp_il5 iX5_tryFrom_34 ?_
              refine wp_il6 iX5_tryFrom_36 ?_
              refine wp_shr iX5_tryFrom_38 rfl ?_
              refine wp_ic iX5_tryFrom_39 (by decide) ?_
              refine wp_and iX5_tryFrom_40 rfl ?_
              refine wp_ic iX5_tryFrom_41 (by decide) ?_
              rw [hbit]
              refine wp_cne iX5_tryFrom_42 (fun c_42 => ?_) (fun c_42 => ?_)
              · have hnu : ¬ sh_used pre v = true := fun q => by rw [if_pos q] at c_42; exact c_42 rfl
                refine wp_ic iX5_tryFrom_48 (by decide) ?_
                refine wp_is7 iX5_tryFrom_49 ?_
                have keyn : ∀ (i m : Nat) (N2 : ab_Me), C - (warp + m) = i → m ≤ C - warp → shf N N2 → shr N2 pre (sh_fld (sh_stp C (sh_dos fac R sp ms) (sh_go C W (sh_dos fac R sp ms) k) warp so pre) b (12 * v + m)) → ∀ v8 : Option ab_V, wp L (k + 3) mX5_tryFrom 51 [some (.inr 49), some (.inr 8), some (.inl (pre.length : Int)), some (.inl (warp : Int)), some (.inl so), some (.inl (sh_mk (sh_used pre))), some (.inl (v : Int)), some (.inl ((m + 1 : Nat) : Int)), v8] [] N2 (fun r N1 => r = none ∧ shf N N1 ∧ shr N1 pre (sh_go C W (sh_dos fac R sp ms) (k + 1) warp so pre b)) := by
                  intro i
                  induction i using Nat.strongRecOn with
                  | ind i ihi =>
                    intro m N2 hi hm hf2 hr2 v8
                    have hc2 := hc.fr hf2
                    have hC2 : N2 49 4 = C := hc2.1
                    refine wp_il7 iX5_tryFrom_51 ?_
                    refine wp_al0 iX5_tryFrom_53 ?_
                    refine wp_gI iX5_tryFrom_54 fi_5_26 rfl ?_
                    rw [hC2]
                    refine wp_il3 iX5_tryFrom_57 ?_
                    refine wp_sub iX5_tryFrom_58 (by omega) ?_
                    refine wp_cgt iX5_tryFrom_59 (fun c_59 => ?_) (fun c_59 => ?_)
                    · exact nextv N2 _ _ hf2 (by rw [skipto m (by omega) (fun i h1 h2 => Or.inl (by omega))]; exact hr2)
                    · have hd := c_X5_daysOfStrip L N2 hc2 hw v warp (m + 1) (by omega) (by omega) (by omega)
                      have hdb := sh_dos_bd hw (v := v) (a := warp) (n := m + 1) (by omega) (by omega) (by omega)
                      have hD : N2 49 0 = (sh_fld (sh_stp C (sh_dos fac R sp ms) (sh_go C W (sh_dos fac R sp ms) k) warp so pre) b (12 * v + m)).1 := hr2.2.1
                      have brk : (sh_dos fac R sp ms v warp (m + 1) = 0 ∨ (sh_fld (sh_stp C (sh_dos fac R sp ms) (sh_go C W (sh_dos fac R sp ms) k) warp so pre) b (12 * v + m)).1 < sh_mx so (sh_dos fac R sp ms v warp (m + 1))) → ∀ v7 v8, wp L (k + 3) mX5_tryFrom 141 [some (.inr 49), some (.inr 8), some (.inl (pre.length : Int)), some (.inl (warp : Int)), some (.inl so), some (.inl (sh_mk (sh_used pre))), some (.inl (v : Int)), v7, v8] [] N2 (fun r N1 => r = none ∧ shf N N1 ∧ shr N1 pre (sh_go C W (sh_dos fac R sp ms) (k + 1) warp so pre b)) := by
                        intro hq v7 v8
                        refine nextv N2 _ _ hf2 ?_
                        rw [skipto m (by omega) (fun i h1 h2 => ?_)]
                        · exact hr2
                        · have z := sh_dos_mono fac w4 R sp ms v warp (m + 1) (i - m) (by have := w5 v (by omega); omega) so (sh_fld (sh_stp C (sh_dos fac R sp ms) (sh_go C W (sh_dos fac R sp ms) k) warp so pre) b (12 * v + m)).1 (hq.imp (fun q => ⟨q, by omega, by omega⟩) id)
                          rw [show m + 1 + (i - m) = i + 1 by omega] at z
                          exact Or.inr (Or.inr z)
                      have hfup : ¬ (sh_dos fac R sp ms v warp (m + 1) = 0 ∨ (sh_fld (sh_stp C (sh_dos fac R sp ms) (sh_go C W (sh_dos fac R sp ms) k) warp so pre) b (12 * v + m)).1 < sh_mx so (sh_dos fac R sp ms v warp (m + 1))) → sh_fld (sh_stp C (sh_dos fac R sp ms) (sh_go C W (sh_dos fac R sp ms) k) warp so pre) b (12 * v + (m + 1)) = sh_go C W (sh_dos fac R sp ms) k (warp + (m + 1)) (sh_mx so (sh_dos fac R sp ms v warp (m + 1))) (pre ++ [(v, m + 1)]) (sh_fld (sh_stp C (sh_dos fac R sp ms) (sh_go C W (sh_dos fac R sp ms) k) warp so pre) b (12 * v + m)) := by
                        intro hq
                        show sh_stp C (sh_dos fac R sp ms) (sh_go C W (sh_dos fac R sp ms) k) warp so pre (sh_fld (sh_stp C (sh_dos fac R sp ms) (sh_go C W (sh_dos fac R sp ms) k) warp so pre) b (12 * v + m)) (12 * v + m) = _
                        rw [stp_at _ _ _ _ _ _ _ _ _ (by omega), if_neg (by
                          intro z
                          rcases z with z | z | z
                          · omega
                          · exact hnu z
                          · exact hq z)]
                      generalize hbb : sh_fld (sh_stp C (sh_dos fac R sp ms) (sh_go C W (sh_dos fac R sp ms) k) warp so pre) b (12 * v + m) = bb at *
                      refine wp_il4 iX5_tryFrom_62 ?_
                      refine wp_al0 iX5_tryFrom_64 ?_
                      refine wp_al1 iX5_tryFrom_65 ?_
                      refine wp_il6 iX5_tryFrom_66 ?_
                      refine wp_il3 iX5_tryFrom_68 ?_
                      refine wp_il7 iX5_tryFrom_69 ?_
                      refine wp_v4f iX5_tryFrom_71 ml_5_64 rfl rfl rfl (Nat.ble_eq_true_of_le (by omega)) (hd) ?_
                      refine wp_mx iX5_tryFrom_74 ml_5_68 rfl ?_
                      refine wp_is8 iX5_tryFrom_77 ?_
                      by_cases hz : sh_dos fac R sp ms v warp (m + 1) = 0
                      · rw [if_pos hz, if_pos (show so < 1000000 by omega)]
                        refine wp_il8 iX5_tryFrom_79 ?_
                        refine wp_al0 iX5_tryFrom_81 ?_
                        refine wp_gI iX5_tryFrom_82 fi_5_10 rfl ?_
                        refine wp_cgt iX5_tryFrom_85 (fun c_85 => ?_) (fun c_85 => ?_)
                        · exact brk (Or.inl hz) _ _
                        · refine wp_il8 iX5_tryFrom_88 ?_
                          refine wp_ldc iX5_tryFrom_90 kl_5_9 (by decide) ?_
                          refine wp_cne iX5_tryFrom_92 (fun c_92 => ?_) (fun c_92 => ?_)
                          · exact absurd rfl c_92
                          · refine wp_goto iX5_tryFrom_95 ?_
                            exact brk (Or.inl hz) _ _
                      · rw [if_neg hz]
                        have hmx : (if so < sh_dos fac R sp ms v warp (m + 1) then sh_dos fac R sp ms v warp (m + 1) else so) = sh_mx so (sh_dos fac R sp ms v warp (m + 1)) := rfl
                        rw [hmx]
                        have hmb : 0 ≤ sh_mx so (sh_dos fac R sp ms v warp (m + 1)) ∧ sh_mx so (sh_dos fac R sp ms v warp (m + 1)) ≤ 400 := by unfold sh_mx; split <;> omega
                        refine wp_il8 iX5_tryFrom_79 ?_
                        refine wp_al0 iX5_tryFrom_81 ?_
                        refine wp_gI iX5_tryFrom_82 fi_5_10 rfl ?_
                        rw [hD]
                        refine wp_cgt iX5_tryFrom_85 (fun c_85 => ?_) (fun c_85 => ?_)
                        · exact brk (Or.inr c_85) _ _
                        · refine wp_il8 iX5_tryFrom_88 ?_
                          refine wp_ldc iX5_tryFrom_90 kl_5_9 (by decide) ?_
                          refine wp_cne iX5_tryFrom_92 (fun c_92 => ?_) (fun c_92 => ?_)
                          · have hor := sh_or (sh_used pre) v (by omega) (by simpa using hnu)
                            have hus : (fun w => sh_used pre w || v == w) = sh_used (pre ++ [(v, m + 1)]) := funext fun w => (sh_used_app pre v (m + 1) w).symm
                            rw [hus] at hor
                            have hr3 := hr2.push v (m + 1)
                            have hf3 := hf2.tr (shf.push N2 pre.length (v : Int) ((m + 1 : Nat) : Int))
                            have hcall := ih (pre ++ [(v, m + 1)]) (warp + (m + 1)) (sh_mx so (sh_dos fac R sp ms v warp (m + 1))) bb _ (by simp; omega) (by omega) hmb (hc.fr hf3) hr3
                            refine wp_al0 iX5_tryFrom_98 ?_
                            refine wp_gR iX5_tryFrom_99 fr_5_35 rfl rfl rfl ?_
                            refine wp_il2 iX5_tryFrom_102 ?_
                            refine wp_il6 iX5_tryFrom_103 ?_
                            refine wp_is iX5_tryFrom_105 rfl rfl (by omega) ?_
                            refine wp_al0 iX5_tryFrom_106 ?_
                            refine wp_gR iX5_tryFrom_107 fr_5_38 rfl rfl rfl ?_
                            refine wp_il2 iX5_tryFrom_110 ?_
                            refine wp_il7 iX5_tryFrom_111 ?_
                            refine wp_is iX5_tryFrom_113 rfl rfl (by omega) ?_
                            refine wp_al0 iX5_tryFrom_114 ?_
                            refine wp_al1 iX5_tryFrom_115 ?_
                            refine wp_il2 iX5_tryFrom_116 ?_
                            refine wp_ic iX5_tryFrom_117 (by decide) ?_
                            refine wp_add iX5_tryFrom_118 (by omega) ?_
                            refine wp_il3 iX5_tryFrom_119 ?_
                            refine wp_il7 iX5_tryFrom_120 ?_
                            refine wp_add iX5_tryFrom_122 (by omega) ?_
                            refine wp_il8 iX5_tryFrom_123 ?_
                            refine wp_il5 iX5_tryFrom_125 ?_
                            refine wp_ic iX5_tryFrom_127 (by decide) ?_
                            refine wp_il6 iX5_tryFrom_128 ?_
                            refine wp_shl iX5_tryFrom_130 rfl ?_
                            refine wp_or iX5_tryFrom_131 hor ?_
                            have el : ((pre ++ [(v, m + 1)]).length : Int) = (pre.length : Int) + 1 := by simp
                            have ew : ((warp + (m + 1) : Nat) : Int) = (warp : Int) + ((m + 1 : Nat) : Int) := by omega
                            rw [el, ew] at hcall
                            have tl : ((pre.length : Int)).toNat = pre.length := by omega
                            rw [tl]
                            refine wp_s6x iX5_tryFrom_132 ml_5_51 rfl rfl (Nat.ble_eq_true_of_le (by omega)) hcall (fun r N4 hx => ?_)
                            obtain ⟨rfl, hf4, hr4⟩ := hx
                            refine wp_ii7 iX5_tryFrom_135 (by omega) ?_
                            refine wp_goto iX5_tryFrom_138 ?_
                            have em : ((m + 1 : Nat) : Int) + 1 = ((m + 1 + 1 : Nat) : Int) := by omega
                            rw [em]
                            refine ihi (C - (warp + (m + 1))) (by omega) (m + 1) N4 rfl (by omega) (hf3.tr hf4) ?_ _
                            rw [hfup (fun q => by rcases q with q | q; exact hz q; omega)]
                            exact hr4.pre
                          · exfalso; omega
                exact keyn _ 0 N1 rfl (by omega) hf1 hr1 _
              · have hu : sh_used pre v = true := by
                  by_cases q : sh_used pre v = true
                  · exact q
                  · rw [if_neg q] at c_42; omega
                refine wp_goto iX5_tryFrom_45 ?_
                exact nextv N1 _ _ hf1 (by rw [skipto 0 (by omega) (fun i h1 h2 => Or.inr (Or.inl hu))]; exact hr1)
        exact key _ 0 N rfl (by omega) (shf.rf N) hr _ _
      · exfalso; omega
    · refine wp_al0 iX5_tryFrom_8 ?_
      refine wp_il2 iX5_tryFrom_9 ?_
      refine wp_il4 iX5_tryFrom_10 ?_
      refine wp_v2v iX5_tryFrom_12 ml_5_55 rfl rfl rfl (Nat.ble_eq_true_of_le (by omega)) (c_X5_takeIfBetter L N (pre.length : Int) so) ?_
      refine wp_retv iX5_tryFrom_15 rfl ?_
      have hwC : warp = C := by omega
      refine ⟨rfl, tk.2, ?_⟩
      have e : sh_go C W (sh_dos fac R sp ms) (k + 1) warp so pre b = sh_upd b pre so := by
        simp only [sh_go]
        rw [if_pos hwC]
      rw [e]
      exact tk.1
end TryX
