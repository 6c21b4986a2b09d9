/-! ===== THE SHARING of the class: cell 49 ===== -/
theorem sh_fld_skip2 {α : Type} (f : α → Nat → α) (b : α) (a : Nat) : ∀ n, (∀ o, a ≤ o → o < a + n → f (sh_fld f b a) o = sh_fld f b a) → sh_fld f b (a + n) = sh_fld f b a
  | 0, _ => rfl
  | n + 1, h => by
    have := sh_fld_skip2 f b a n (fun o h1 h2 => h o h1 (by omega))
    show f (sh_fld f b (a + n)) (a + n) = _
    rw [this]
    exact h (a + n) (by omega) (by omega)
def fcs (fac : Nat → Int) (R : Nat) (i : Nat) : Int := sm (fun j => fac (12 * (j : Int) + (i : Int)).toNat) R
def shc (N : ab_Me) (C W R : Nat) (fac sp ms : Nat → Int) : Prop := N 49 4 = C ∧ N 8 0 = W ∧ (∀ w : Nat, w ≤ C → N 52 w = sm (fun i => (R : Int) + 2 * fcs fac R i) w ∧ N 53 w = sm (fcs fac R) w) ∧ (∀ v, N 9 v = sp v) ∧ ∀ v, N 10 v = ms v
def shw (C W R : Nat) (fac sp ms : Nat → Int) : Prop := (1 ≤ C ∧ C ≤ 12) ∧ W ≤ 4 ∧ (1 ≤ R ∧ R ≤ 10) ∧ (∀ k, fac k = 0 ∨ fac k = 1) ∧ (∀ v, v < W → 1 ≤ sp v ∧ sp v ≤ 20) ∧ ∀ v, ms v = 0 ∨ ms v = 1
theorem sm_split (g : Nat → Int) (a : Nat) : ∀ n, sm g (a + n) = sm g a + sm (fun i => g (a + i)) n
  | 0 => by simp [sm]
  | n + 1 => by
    have := sm_split g a n
    show sm g (a + n) + g (a + n) = sm g a + (sm (fun i => g (a + i)) n + g (a + n))
    omega
theorem sm_congr {f g : Nat → Int} : ∀ n, (∀ i, i < n → f i = g i) → sm f n = sm g n
  | 0, _ => rfl
  | n + 1, h => by
    show sm f n + f n = sm g n + g n
    rw [sm_congr n (fun i hi => h i (by omega)), h n (by omega)]
theorem sm_const (c : Int) : ∀ n : Nat, sm (fun _ => c) n = c * n
  | 0 => by simp [sm]
  | n + 1 => by
    show sm (fun _ => c) n + c = c * ((n + 1 : Nat) : Int)
    rw [sm_const c n, Int.natCast_add, Int.mul_add]
    simp
theorem sm_mul (c : Int) (g : Nat → Int) : ∀ n : Nat, sm (fun k => c * g k) n = c * sm g n
  | 0 => by simp [sm]
  | n + 1 => by
    show sm (fun k => c * g k) n + c * g n = c * (sm g n + g n)
    rw [sm_mul c g n, Int.mul_add]
theorem sh_work (fac : Nat → Int) (R a n : Nat) : sm (fun i => (R : Int) + 2 * fcs fac R i) (a + n) - sm (fun i => (R : Int) + 2 * fcs fac R i) a = wb fac (a : Int) n R := by
  rw [sm_split, wb_n]
  have : sm (fun i => (R : Int) + 2 * fcs fac R (a + i)) n = sm (fun i => sm (fun j => cwk fac ((a : Int) + (i : Int)) (j : Int)) R) n := sm_congr n (fun i _ => by
    unfold cwk
    rw [sm_add (fun _ => (1 : Int)), sm_const, sm_mul]
    unfold fcs
    simp)
  rw [this]
  omega
theorem sh_faces (fac : Nat → Int) (R a n : Nat) : sm (fcs fac R) (a + n) - sm (fcs fac R) a = sm (fun i => sm (fun j => fac (12 * (j : Int) + ((a : Int) + (i : Int))).toNat) R) n := by
  rw [sm_split]
  have : sm (fun i => fcs fac R (a + i)) n = sm (fun i => sm (fun j => fac (12 * (j : Int) + ((a : Int) + (i : Int))).toNat) R) n := sm_congr n (fun i _ => by unfold fcs; simp)
  rw [this]
  omega
theorem sh_dos_bd {C W R : Nat} {fac sp ms : Nat → Int} (h : shw C W R fac sp ms) {v a n : Nat} (hv : v < W) (hn : 1 ≤ n) (han : a + n ≤ C) : 0 ≤ sh_dos fac R sp ms v a n ∧ sh_dos fac R sp ms v a n ≤ 400 := by
  obtain ⟨h1, h2, h3, h4, h5, h6⟩ := h
  have hs := h5 v hv
  have hw := wb_bd fac h4 (a : Int) n R
  have e1 : 3 * (n : Int) * (R : Int) ≤ 36 * 10 := Int.mul_le_mul (by omega) (by omega) (by omega) (by omega)
  unfold sh_dos
  split
  · omega
  · have a1 : 0 ≤ (wb fac (a : Int) n R + sp v - 1) / sp v := Int.ediv_nonneg (by omega) (by omega)
    have a2 : (wb fac (a : Int) n R + sp v - 1) / sp v ≤ (wb fac (a : Int) n R + sp v - 1) := Int.ediv_le_self _ (by omega)
    omega
theorem wb_pos (fac : Nat → Int) (hf : ∀ k, fac k = 0 ∨ fac k = 1) (a : Int) (n R : Nat) (hn : 1 ≤ n) (hR : 1 ≤ R) : 1 ≤ wb fac a n R := by
  obtain ⟨R', rfl⟩ : ∃ R', R = R' + 1 := ⟨R - 1, by omega⟩
  obtain ⟨n', rfl⟩ : ∃ n', n = n' + 1 := ⟨n - 1, by omega⟩
  have h1 := wb_bd fac hf a (n' + 1) R'
  have h2 := rs_bd fac hf a n' ((R' : Nat) : Int)
  have h3 := cwk_bd fac hf (a + ((n' : Nat) : Int)) ((R' : Nat) : Int)
  show 1 ≤ wb fac a (n' + 1) R' + (rs fac a n' ((R' : Nat) : Int) + cwk fac (a + ((n' : Nat) : Int)) ((R' : Nat) : Int))
  omega
section ShareX
variable (L : Nat) (N : ab_Me)
theorem c_X7_daysFor (v w : Int) (hv : 0 ≤ v ∧ v < 4) (hw : 0 ≤ w ∧ w < 100000) (hs : 1 ≤ N 9 v.toNat ∧ N 9 v.toNat ≤ 20) : cF L 1 mX7_daysFor [.inr 8, .inl v, .inl w] N ((w + N 9 v.toNat - 1) / N 9 v.toNat) := by
  refine cF_of rfl ?_
  change wp _ _ _ 0 [some (.inr 8), some (.inl v), some (.inl w), none] [] _ _
  refine wp_al0 iX7_daysFor_0 ?_
  refine wp_gR iX7_daysFor_1 fr_7_15 rfl rfl rfl ?_
  refine wp_il1 iX7_daysFor_4 ?_
  refine wp_ia iX7_daysFor_5 rfl (by omega) ?_
  refine wp_is3 iX7_daysFor_6 ?_
  refine wp_il3 iX7_daysFor_7 ?_
  refine wp_ic iX7_daysFor_8 (by decide) ?_
  refine wp_cge iX7_daysFor_9 (fun c_9 => ?_) (fun c_9 => ?_)
  · refine wp_il2 iX7_daysFor_17 ?_
    refine wp_il3 iX7_daysFor_18 ?_
    refine wp_add iX7_daysFor_19 (by omega) ?_
    refine wp_ic iX7_daysFor_20 (by decide) ?_
    refine wp_sub iX7_daysFor_21 (by omega) ?_
    refine wp_il3 iX7_daysFor_22 ?_
    refine wp_div iX7_daysFor_23 (by omega) ?_
    refine wp_ret iX7_daysFor_24 rfl ?_
    (first | (exfalso; omega) | exact ⟨rfl, rfl⟩)
  · refine wp_ldc iX7_daysFor_12 kl_7_23 (by decide) ?_
    refine wp_goto iX7_daysFor_14 ?_
    refine wp_ret iX7_daysFor_24 rfl ?_
    (first | (exfalso; omega) | exact ⟨rfl, rfl⟩)
theorem c_X5_daysOfStrip {C W R : Nat} {fac sp ms : Nat → Int} (hc : shc N C W R fac sp ms) (h : shw C W R fac sp ms) (v a n : Nat) (hv : v < W) (hn : 1 ≤ n) (han : a + n ≤ C) : cF L 2 mX5_daysOfStrip [.inr 49, .inr 8, .inl (v : Int), .inl (a : Int), .inl (n : Int)] N (if sh_dos fac R sp ms v a n = 0 then 1000000 else sh_dos fac R sp ms v a n) := by
  obtain ⟨c1, c2, c3, c4, c5⟩ := hc
  obtain ⟨h1, h2, h3, h4, h5, h6⟩ := id h
  have hs := h5 v hv
  have hm := h6 v
  have ea := c3 a (by omega)
  have ean := c3 (a + n) han
  have hwk := sh_work fac R a n
  have hfk := sh_faces fac R a n
  have hw := wb_bd fac h4 (a : Int) n R
  have hwp := wb_pos fac h4 (a : Int) n R hn h3.1
  have e1 : 3 * (n : Int) * (R : Int) ≤ 36 * 10 := Int.mul_le_mul (by omega) (by omega) (by omega) (by omega)
  have hfb : ∀ i, 0 ≤ fcs fac R i ∧ fcs fac R i ≤ 10 := fun i => by
    have := sm_bd (fun j : Nat => fac (12 * (j : Int) + (i : Int)).toNat) 1 (fun j => by have := h4 (12 * (j : Int) + (i : Int)).toNat; omega) R
    unfold fcs
    omega
  have b1 := sm_bd (fun i => (R : Int) + 2 * fcs fac R i) 30 (fun i => by have := hfb i; omega) (a + n)
  have b2 := sm_bd (fun i => (R : Int) + 2 * fcs fac R i) 30 (fun i => by have := hfb i; omega) a
  have t1 : ((a : Int) + (n : Int)).toNat = a + n := by omega
  have t2 : ((a : Int)).toNat = a := by omega
  have t3 : ((v : Int)).toNat = v := by omega
  have hdp : ¬ (0 < sm (fun i => sm (fun j => fac (12 * (j : Int) + ((a : Int) + (i : Int))).toNat) R) n ∧ ms v = 0) → sh_dos fac R sp ms v a n = (wb fac (a : Int) n R + sp v - 1) / sp v ∧ ¬ sh_dos fac R sp ms v a n = 0 := by
    intro q
    have e : sh_dos fac R sp ms v a n = (wb fac (a : Int) n R + sp v - 1) / sp v := by unfold sh_dos; rw [if_neg q]
    refine ⟨e, ?_⟩
    rw [e]
    have : 1 ≤ (wb fac (a : Int) n R + sp v - 1) / sp v := (Int.le_ediv_iff_mul_le (by omega)).mpr (by omega)
    omega
  have hday : cF L 1 mX7_daysFor [.inr 8, .inl (v : Int), .inl (N 52 (a + n) - N 52 a)] N ((wb fac (a : Int) n R + sp v - 1) / sp v) := by
    have z := c_X7_daysFor L N (v : Int) (N 52 (a + n) - N 52 a) (by omega) (by omega) (by rw [t3, c4]; exact hs)
    rw [t3, c4, ean.1, ea.1, hwk] at z
    rw [ean.1, ea.1, hwk]
    exact z
  refine cF_of rfl ?_
  change wp _ _ _ 0 [some (.inr 49), some (.inr 8), some (.inl (v : Int)), some (.inl (a : Int)), some (.inl (n : Int))] [] _ _
  refine wp_al0 iX5_daysOfStrip_0 ?_
  refine wp_gR iX5_daysOfStrip_1 fr_5_32 rfl rfl rfl ?_
  refine wp_il3 iX5_daysOfStrip_4 ?_
  refine wp_il4 iX5_daysOfStrip_5 ?_
  refine wp_add iX5_daysOfStrip_7 (by omega) ?_
  refine wp_ia iX5_daysOfStrip_8 rfl (by omega) ?_
  rw [t1]
  refine wp_al0 iX5_daysOfStrip_9 ?_
  refine wp_gR iX5_daysOfStrip_10 fr_5_32 rfl rfl rfl ?_
  refine wp_il3 iX5_daysOfStrip_13 ?_
  refine wp_ia iX5_daysOfStrip_14 rfl (by omega) ?_
  rw [t2]
  have tail : ¬ (0 < sm (fun i => sm (fun j => fac (12 * (j : Int) + ((a : Int) + (i : Int))).toNat) R) n ∧ ms v = 0) → wp L 1 mX5_daysOfStrip 30 [some (.inr 49), some (.inr 8), some (.inl (v : Int)), some (.inl (a : Int)), some (.inl (n : Int))] [] N (fun r M1 => r = some (.inl (if sh_dos fac R sp ms v a n = 0 then 1000000 else sh_dos fac R sp ms v a n)) ∧ M1 = N) := by
    intro q
    obtain ⟨q1, q2⟩ := hdp q
    rw [if_neg q2, q1]
    refine wp_al1 iX5_daysOfStrip_30 ?_
    refine wp_il2 iX5_daysOfStrip_31 ?_
    refine wp_al0 iX5_daysOfStrip_32 ?_
    refine wp_gR iX5_daysOfStrip_33 fr_5_29 rfl rfl rfl ?_
    refine wp_il3 iX5_daysOfStrip_36 ?_
    refine wp_il4 iX5_daysOfStrip_37 ?_
    refine wp_add iX5_daysOfStrip_39 (by omega) ?_
    refine wp_ia iX5_daysOfStrip_40 rfl (by omega) ?_
    rw [t1]
    refine wp_al0 iX5_daysOfStrip_41 ?_
    refine wp_gR iX5_daysOfStrip_42 fr_5_29 rfl rfl rfl ?_
    refine wp_il3 iX5_daysOfStrip_45 ?_
    refine wp_ia iX5_daysOfStrip_46 rfl (by omega) ?_
    rw [t2]
    refine wp_sub iX5_daysOfStrip_47 (by omega) ?_
    refine wp_v2f iX5_daysOfStrip_48 ml_5_78 rfl rfl rfl rfl (hday) ?_
    refine wp_ret iX5_daysOfStrip_51 rfl ?_
    exact ⟨rfl, rfl⟩
  refine wp_cle iX5_daysOfStrip_15 (fun c_15 => ?_) (fun c_15 => ?_)
  · exact tail (by omega)
  · refine wp_al1 iX5_daysOfStrip_18 ?_
    refine wp_gR iX5_daysOfStrip_19 fr_5_74 rfl rfl rfl ?_
    refine wp_il2 iX5_daysOfStrip_22 ?_
    refine wp_ba iX5_daysOfStrip_23 rfl rfl (by omega) ?_
    rw [t3, c5]
    refine wp_zne iX5_daysOfStrip_24 (fun c_24 => ?_) (fun c_24 => ?_)
    · exact tail (by omega)
    · refine wp_ldc iX5_daysOfStrip_27 kl_5_9 (by decide) ?_
      refine wp_ret iX5_daysOfStrip_29 rfl ?_
      refine ⟨?_, rfl⟩
      have e : sh_dos fac R sp ms v a n = 0 := by unfold sh_dos; rw [if_pos ⟨by omega, c_24⟩]
      rw [if_pos e]
theorem c_X5_takeIfBetter (ts td : Int) : cV L 1 mX5_takeIfBetter [.inr 49, .inl ts, .inl td] N (if td < N 49 0 ∨ (td = N 49 0 ∧ ts < N 49 1) then cpR 4 51 55 (cpR 4 50 54 (ab_up (ab_up N 49 0 td) 49 1 ts)) else N) := by
  refine cV_of rfl ?_
  change wp _ _ _ 0 [some (.inr 49), some (.inl ts), some (.inl td)] [] _ _
  refine wp_il2 iX5_takeIfBetter_0 ?_
  refine wp_al0 iX5_takeIfBetter_1 ?_
  refine wp_gI iX5_takeIfBetter_2 fi_5_10 rfl ?_
  refine wp_cgt iX5_takeIfBetter_5 (fun c_5 => ?_) (fun c_5 => ?_)
  · refine wp_retv iX5_takeIfBetter_24 rfl ?_
    (refine ⟨rfl, ?_⟩; split <;> first | rfl | (exfalso; omega))
  · refine wp_il2 iX5_takeIfBetter_8 ?_
    refine wp_al0 iX5_takeIfBetter_9 ?_
    refine wp_gI iX5_takeIfBetter_10 fi_5_10 rfl ?_
    refine wp_cne iX5_takeIfBetter_13 (fun c_13 => ?_) (fun c_13 => ?_)
    · refine wp_al0 iX5_takeIfBetter_25 ?_
      refine wp_il2 iX5_takeIfBetter_26 ?_
      refine wp_pI iX5_takeIfBetter_27 fp_5_10 rfl ?_
      refine wp_al0 iX5_takeIfBetter_30 ?_
      refine wp_il1 iX5_takeIfBetter_31 ?_
      refine wp_pI iX5_takeIfBetter_32 fp_5_16 rfl ?_
      refine wp_al0 iX5_takeIfBetter_35 ?_
      refine wp_gR iX5_takeIfBetter_36 fr_5_35 rfl rfl rfl ?_
      refine wp_ic iX5_takeIfBetter_39 (by decide) ?_
      refine wp_al0 iX5_takeIfBetter_40 ?_
      refine wp_gR iX5_takeIfBetter_41 fr_5_19 rfl rfl rfl ?_
      refine wp_ic iX5_takeIfBetter_44 (by decide) ?_
      refine wp_ic iX5_takeIfBetter_45 (by decide) ?_
      refine wp_cp iX5_takeIfBetter_46 ml_5_81 rfl (N := 4) rfl rfl rfl (by decide) rfl rfl rfl rfl (by decide) ?_
      refine wp_al0 iX5_takeIfBetter_49 ?_
      refine wp_gR iX5_takeIfBetter_50 fr_5_38 rfl rfl rfl ?_
      refine wp_ic iX5_takeIfBetter_53 (by decide) ?_
      refine wp_al0 iX5_takeIfBetter_54 ?_
      refine wp_gR iX5_takeIfBetter_55 fr_5_23 rfl rfl rfl ?_
      refine wp_ic iX5_takeIfBetter_58 (by decide) ?_
      refine wp_ic iX5_takeIfBetter_59 (by decide) ?_
      refine wp_cp iX5_takeIfBetter_60 ml_5_81 rfl (N := 4) rfl rfl rfl (by decide) rfl rfl rfl rfl (by decide) ?_
      refine wp_retv iX5_takeIfBetter_63 rfl ?_
      (refine ⟨rfl, ?_⟩; split <;> first | rfl | (exfalso; omega))
    · refine wp_il1 iX5_takeIfBetter_16 ?_
      refine wp_al0 iX5_takeIfBetter_17 ?_
      refine wp_gI iX5_takeIfBetter_18 fi_5_16 rfl ?_
      refine wp_clt iX5_takeIfBetter_21 (fun c_21 => ?_) (fun c_21 => ?_)
      · refine wp_al0 iX5_takeIfBetter_25 ?_
        refine wp_il2 iX5_takeIfBetter_26 ?_
        refine wp_pI iX5_takeIfBetter_27 fp_5_10 rfl ?_
        refine wp_al0 iX5_takeIfBetter_30 ?_
        refine wp_il1 iX5_takeIfBetter_31 ?_
        refine wp_pI iX5_takeIfBetter_32 fp_5_16 rfl ?_
        refine wp_al0 iX5_takeIfBetter_35 ?_
        refine wp_gR iX5_takeIfBetter_36 fr_5_35 rfl rfl rfl ?_
        refine wp_ic iX5_takeIfBetter_39 (by decide) ?_
        refine wp_al0 iX5_takeIfBetter_40 ?_
        refine wp_gR iX5_takeIfBetter_41 fr_5_19 rfl rfl rfl ?_
        refine wp_ic iX5_takeIfBetter_44 (by decide) ?_
        refine wp_ic iX5_takeIfBetter_45 (by decide) ?_
        refine wp_cp iX5_takeIfBetter_46 ml_5_81 rfl (N := 4) rfl rfl rfl (by decide) rfl rfl rfl rfl (by decide) ?_
        refine wp_al0 iX5_takeIfBetter_49 ?_
        refine wp_gR iX5_takeIfBetter_50 fr_5_38 rfl rfl rfl ?_
        refine wp_ic iX5_takeIfBetter_53 (by decide) ?_
        refine wp_al0 iX5_takeIfBetter_54 ?_
        refine wp_gR iX5_takeIfBetter_55 fr_5_23 rfl rfl rfl ?_
        refine wp_ic iX5_takeIfBetter_58 (by decide) ?_
        refine wp_ic iX5_takeIfBetter_59 (by decide) ?_
        refine wp_cp iX5_takeIfBetter_60 ml_5_81 rfl (N := 4) rfl rfl rfl (by decide) rfl rfl rfl rfl (by decide) ?_
        refine wp_retv iX5_takeIfBetter_63 rfl ?_
        (refine ⟨rfl, ?_⟩; split <;> first | rfl | (exfalso; omega))
      · refine wp_retv iX5_takeIfBetter_24 rfl ?_
        (refine ⟨rfl, ?_⟩; split <;> first | rfl | (exfalso; omega))
end ShareX
