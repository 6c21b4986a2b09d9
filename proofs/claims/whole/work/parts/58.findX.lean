/-! ===== what the search finds is a path ===== -/
def sh_sw : sh_P → Nat
  | [] => 0
  | q :: t => q.2 + sh_sw t
theorem sh_sw_app (p : sh_P) (q : Nat × Nat) : sh_sw (p ++ [q]) = sh_sw p + q.2 := by
  induction p with
  | nil => simp [sh_sw]
  | cons a t ih => simp only [List.cons_append, sh_sw, ih]; omega
def sh_okp (W : Nat) (p : sh_P) : Prop := ∀ q ∈ p, q.1 < W ∧ 1 ≤ q.2
def sh_okb (C W : Nat) (b : sh_B) : Prop := b = (1000000, []) ∨ ((0 ≤ b.1 ∧ b.1 ≤ 400) ∧ (1 ≤ b.2.length ∧ b.2.length ≤ 4) ∧ sh_sw b.2 = C ∧ sh_okp W b.2)
theorem sh_upd_ok {C W : Nat} (hC : 1 ≤ C) {b : sh_B} {pre : sh_P} {so : Int} (hl : pre.length ≤ 4) (hs : sh_sw pre = C) (hp : sh_okp W pre) (hso : 0 ≤ so ∧ so ≤ 400) (hb : sh_okb C W b) : sh_okb C W (sh_upd b pre so) := by
  unfold sh_upd
  split
  · right
    refine ⟨hso, ⟨?_, hl⟩, hs, hp⟩
    cases pre with
    | nil => simp [sh_sw] at hs; omega
    | cons a t => simp
  · exact hb
theorem sh_go_ok {C W : Nat} {dos : Nat → Nat → Nat → Int} (hC : 1 ≤ C) (hd : ∀ v a n, v < W → 1 ≤ n → a + n ≤ C → 0 ≤ dos v a n ∧ dos v a n ≤ 400) : ∀ (k warp : Nat) (so : Int) (pre : sh_P) (b : sh_B), pre.length + k = 4 → sh_sw pre = warp → sh_okp W pre → (0 ≤ so ∧ so ≤ 400) → sh_okb C W b → sh_okb C W (sh_go C W dos k warp so pre b) := by
  intro k
  induction k with
  | zero =>
    intro warp so pre b hl hs hp hso hb
    simp only [sh_go]
    split
    · rename_i h; exact sh_upd_ok hC (by omega) (by omega) hp hso hb
    · exact hb
  | succ k ih =>
    intro warp so pre b hl hs hp hso hb
    simp only [sh_go]
    split
    · rename_i h; exact sh_upd_ok hC (by omega) (by omega) hp hso hb
    · have key : ∀ n, n ≤ 12 * W → sh_okb C W (sh_fld (sh_stp C dos (sh_go C W dos k) warp so pre) b n) := by
        intro n
        induction n with
        | zero => intro _; exact hb
        | succ n ihn =>
          intro hn
          have h0 := ihn (by omega)
          show sh_okb C W (sh_stp C dos (sh_go C W dos k) warp so pre (sh_fld (sh_stp C dos (sh_go C W dos k) warp so pre) b n) n)
          unfold sh_stp
          split
          · exact h0
          · rename_i hc
            have hv : n / 12 < W := by omega
            have hw : warp + (n % 12 + 1) ≤ C := by omega
            have hdd := hd (n / 12) warp (n % 12 + 1) hv (by omega) hw
            refine ih _ _ _ _ ?_ ?_ ?_ ?_ h0
            · simp; omega
            · rw [sh_sw_app]; show _ + (n % 12 + 1) = _; omega
            · intro q hq
              rw [List.mem_append] at hq
              rcases hq with hq | hq
              · exact hp q hq
              · simp at hq; subst hq; exact ⟨hv, by show 1 ≤ n % 12 + 1; omega⟩
            · unfold sh_mx; split <;> omega
      exact key _ (Nat.le_refl _)
theorem sh_best_ok {C W R : Nat} {fac sp ms : Nat → Int} (h : shw C W R fac sp ms) : sh_okb C W (sh_best C W (sh_dos fac R sp ms)) := by
  unfold sh_best
  refine sh_go_ok h.1.1 (fun v a n hv hn ha => sh_dos_bd h hv hn ha) 4 0 0 [] _ rfl rfl (fun q hq => by simp at hq) (by omega) (Or.inl rfl)
def pW (p : sh_P) (k : Nat) : Int := ((p.getD k (0, 0)).1 : Int)
def pN (p : sh_P) (k : Nat) : Int := ((p.getD k (0, 0)).2 : Int)
def pF (p : sh_P) (k : Nat) : Int := (sh_sw (p.take k) : Int)
theorem pF_up (p : sh_P) (k : Nat) (h : k < p.length) : pF p (k + 1) = pF p k + pN p k := by
  unfold pF pN
  rw [List.take_succ, List.getElem?_eq_getElem h, List.getD_eq_getElem?_getD, List.getElem?_eq_getElem h]
  simp only [Option.toList_some, Option.getD_some, sh_sw_app]
  omega
theorem pF_len (p : sh_P) : pF p p.length = sh_sw p := by unfold pF; rw [List.take_length]
theorem pF_le (p : sh_P) : ∀ k, pF p k ≤ sh_sw p := by
  unfold pF
  induction p with
  | nil => intro k; simp
  | cons a t ih =>
    intro k
    cases k with
    | zero => simp [sh_sw]; omega
    | succ k => have := ih k; simp only [List.take_succ_cons, sh_sw]; omega
theorem pF_0 (p : sh_P) : pF p 0 = 0 := rfl
theorem pF_n (p : sh_P) (k : Nat) : 0 ≤ pF p k := by unfold pF; omega
theorem pWN_ok {W : Nat} {p : sh_P} (h : sh_okp W p) {k : Nat} (hk : k < p.length) : (0 ≤ pW p k ∧ pW p k < W) ∧ 1 ≤ pN p k := by
  have := h p[k] (List.getElem_mem hk)
  unfold pW pN
  rw [List.getD_eq_getElem?_getD, List.getElem?_eq_getElem hk]
  simp only [Option.getD_some]
  omega
theorem pWN_n (p : sh_P) (k : Nat) : 0 ≤ pW p k ∧ 0 ≤ pN p k := by unfold pW pN; omega
theorem pWN_get (p : sh_P) {k : Nat} (hk : k < p.length) : p[k]? = some (p.getD k (0, 0)) := by
  rw [List.getD_eq_getElem?_getD, List.getElem?_eq_getElem hk]; rfl
/-! ===== the search of the class ===== -/
def bstX (M : ab_Me) : sh_B := sh_best (M 3 0).toNat (M 8 0).toNat (sh_dos (fX4 M) (M 3 1).toNat (M 9) (M 10))
def hW (M : ab_Me) : Prop := (0 ≤ M 8 0 ∧ M 8 0 ≤ 4) ∧ (∀ v : Nat, (v : Int) < M 8 0 → 1 ≤ M 9 v ∧ M 9 v ≤ 20) ∧ (∀ v, M 10 v = 0 ∨ M 10 v = 1)
theorem shw_X {M : ab_Me} (h : hB M) (hw : hW M) : shw (M 3 0).toNat (M 8 0).toNat (M 3 1).toNat (fX4 M) (M 9) (M 10) := by
  obtain ⟨h1, h2, h3, h4, h5⟩ := id h
  obtain ⟨w1, w2, w3⟩ := hw
  exact ⟨by omega, by omega, by omega, fX4_01 M h, fun v hv => w2 v (by omega), w3⟩
def fnd (M : ab_Me) (i : Nat) (N : ab_Me) : Prop := (∀ a, a < 49 ∨ 55 < a → N a = M a) ∧ N 49 0 = 1000000 ∧ N 49 1 = 0 ∧ N 49 4 = M 3 0 ∧ ∀ w, w ≤ i → N 52 w = sm (fun i => M 3 1 + 2 * fcs (fX4 M) (M 3 1).toNat i) w ∧ N 53 w = sm (fcs (fX4 M) (M 3 1).toNat) w
def pFd (M N : ab_Me) : Prop := (∀ a, a < 49 ∨ 55 < a → N a = M a) ∧ (N 52 0 = 0 ∧ N 53 0 = 0) ∧ N 49 0 = (bstX M).1 ∧ N 49 1 = ((bstX M).2.length : Int) ∧ ∀ i, i < (bstX M).2.length → N 50 i = pW (bstX M).2 i ∧ N 51 i = pN (bstX M).2 i
section FindX
variable (L : Nat) (M : ab_Me)
theorem c_X5_find (h : hB M) (hw : hW M) (hz : M 52 0 = 0 ∧ M 53 0 = 0) : ct L 8 mX5_find [.inr 49, .inr 3, .inr 8] M (fun r N => r = some (.inl (if 0 < (bstX M).2.length then 1 else 0)) ∧ pFd M N) := by
  obtain ⟨h1, h2, h3, h4, h5⟩ := id h
  have hsw := shw_X h hw
  refine ct_of rfl ?_
  change wp _ _ _ 0 [some (.inr 49), some (.inr 3), some (.inr 8), none] [] _ _
  refine wp_al0 iX5_find_0 ?_
  refine wp_ldc iX5_find_1 kl_5_9 (by decide) ?_
  refine wp_pI iX5_find_3 fp_5_10 rfl ?_
  refine wp_al0 iX5_find_6 ?_
  refine wp_ic iX5_find_7 (by decide) ?_
  refine wp_pI iX5_find_8 fp_5_16 rfl ?_
  refine wp_al0 iX5_find_11 ?_
  refine wp_al1 iX5_find_12 ?_
  refine wp_gI iX5_find_13 fi_5_41 rfl ?_
  refine wp_pI iX5_find_16 fp_5_26 rfl ?_
  refine wp_ic iX5_find_19 (by decide) ?_
  refine wp_is3 iX5_find_20 ?_
  have hfb : ∀ i, 0 ≤ fcs (fX4 M) (M 3 1).toNat i ∧ fcs (fX4 M) (M 3 1).toNat i ≤ 10 := fun i => by
    have := sm_bd (fun j : Nat => fX4 M (12 * (j : Int) + (i : Int)).toNat) 1 (fun j => by have := fX4_01 M h (12 * (j : Int) + (i : Int)).toNat; omega) (M 3 1).toNat
    unfold fcs
    omega
  have key : ∀ (n i : Nat) (N : ab_Me), (M 3 0).toNat - i = n → i ≤ (M 3 0).toNat → fnd M i N → wp L 7 mX5_find 21 [some (.inr 49), some (.inr 3), some (.inr 8), some (.inl (i : Int))] [] N (fun r N => r = some (.inl (if 0 < (bstX M).2.length then 1 else 0)) ∧ pFd M N) := by
    intro n
    induction n using Nat.strongRecOn with
    | ind n ih =>
      intro i N hn hi hf
      obtain ⟨f1, f2, f3, f4, f5⟩ := id hf
      have e3 : N 3 = M 3 := f1 3 (by omega)
      have e4 : N 4 = M 4 := f1 4 (by omega)
      refine wp_il3 iX5_find_21 ?_
      refine wp_al0 iX5_find_22 ?_
      refine wp_gI iX5_find_23 fi_5_26 rfl ?_
      rw [f4]
      refine wp_cge iX5_find_26 (fun c_26 => ?_) (fun c_26 => ?_)
      · have hi2 : i = (M 3 0).toNat := by omega
        have e8 : N 8 = M 8 := f1 8 (by omega)
        have e9 : N 9 = M 9 := f1 9 (by omega)
        have e10 : N 10 = M 10 := f1 10 (by omega)
        have hc : shc N (M 3 0).toNat (M 8 0).toNat (M 3 1).toNat (fX4 M) (M 9) (M 10) := by
          refine ⟨by rw [f4]; omega, by rw [e8]; have := hw.1; omega, fun w hw => ?_, fun v => by rw [e9], fun v => by rw [e10]⟩
          have := f5 w (by omega)
          rw [show (((M 3 1).toNat : Nat) : Int) = M 3 1 by omega]
          exact this
        have hr : shr N [] (1000000, []) := ⟨fun i q hq => by simp at hq, f2, f3, fun i q hq => by simp at hq⟩
        have hcall := c_X5_tryFrom L hsw 4 [] 0 0 (1000000, []) N rfl (by omega) (by omega) hc hr
        have emk : sh_mk (sh_used []) = 0 := by decide
        rw [emk] at hcall
        refine wp_al0 iX5_find_75 ?_
        refine wp_al2 iX5_find_76 ?_
        refine wp_ic iX5_find_77 (by decide) ?_
        refine wp_ic iX5_find_78 (by decide) ?_
        refine wp_ic iX5_find_79 (by decide) ?_
        refine wp_ic iX5_find_80 (by decide) ?_
        refine wp_s6x iX5_find_81 ml_5_51 rfl rfl rfl hcall (fun r N1 hx => ?_)
        obtain ⟨rfl, hf1, hr1⟩ := hx
        have eb : sh_go (M 3 0).toNat (M 8 0).toNat (sh_dos (fX4 M) (M 3 1).toNat (M 9) (M 10)) 4 0 0 [] (1000000, []) = bstX M := rfl
        rw [eb] at hr1
        obtain ⟨-, r2, r3, r4⟩ := hr1
        have hp : pFd M N1 := by
          refine ⟨fun a ha => ?_, ?_, r2, r3, fun i hi => ?_⟩
          · rw [hf1.1 a (by omega) (by omega) (by omega) (by omega) (by omega)]; exact f1 a ha
          · rw [hf1.1 52 (by decide) (by decide) (by decide) (by decide) (by decide), hf1.1 53 (by decide) (by decide) (by decide) (by decide) (by decide)]
            exact f5 0 (by omega)
          · exact r4 i _ (pWN_get _ hi)
        refine wp_al0 iX5_find_84 ?_
        refine wp_gI iX5_find_85 fi_5_16 rfl ?_
        rw [r3]
        refine wp_zle iX5_find_88 (fun c_88 => ?_) (fun c_88 => ?_)
        · refine wp_ic iX5_find_95 (by decide) ?_
          refine wp_retb iX5_find_96 rfl (by decide) ?_
          exact ⟨by rw [if_neg (by omega)], hp⟩
        · refine wp_ic iX5_find_91 (by decide) ?_
          refine wp_goto iX5_find_92 ?_
          refine wp_retb iX5_find_96 rfl (by decide) ?_
          exact ⟨by rw [if_pos (by omega)], hp⟩
      · have ti : ((i : Int)).toNat = i := by omega
        have ti1 : ((i : Int) + 1).toNat = i + 1 := by omega
        have fi := f5 i (by omega)
        have hBN : hB N := by unfold hB; rw [e3, e4]; exact h
        have hwk : cF L 3 mX0_workOfWarp [.inr 3, .inl (i : Int)] N (M 3 1 + 2 * fcs (fX4 M) (M 3 1).toNat i) := by
          have z := c_X0_workOfWarp L N hBN (i : Int) (by omega)
          have e : sm (fcW N (i : Int)) (N 3 1).toNat = fcs (fX4 M) (M 3 1).toNat i := by unfold fcW fcs fX4; rw [e3, e4]
          rw [e, e3] at z
          exact z
        have b1 := sm_bd (fun i => M 3 1 + 2 * fcs (fX4 M) (M 3 1).toNat i) 30 (fun i => by have := hfb i; omega) i
        have b2 := sm_bd (fcs (fX4 M) (M 3 1).toNat) 10 hfb i
        have bi := hfb i
        refine wp_al0 iX5_find_29 ?_
        refine wp_gR iX5_find_30 fr_5_29 rfl rfl rfl ?_
        refine wp_il3 iX5_find_33 ?_
        refine wp_ic iX5_find_34 (by decide) ?_
        refine wp_add iX5_find_35 (by omega) ?_
        refine wp_al0 iX5_find_36 ?_
        refine wp_gR iX5_find_37 fr_5_29 rfl rfl rfl ?_
        refine wp_il3 iX5_find_40 ?_
        refine wp_ia iX5_find_41 rfl (by omega) ?_
        rw [ti, fi.1]
        refine wp_al1 iX5_find_42 ?_
        refine wp_il3 iX5_find_43 ?_
        refine wp_v1f iX5_find_44 ml_5_44 rfl rfl rfl rfl (hwk) ?_
        refine wp_add iX5_find_47 (by omega) ?_
        obtain ⟨N1, hN1⟩ : ∃ N1, N1 = ab_up N 52 (i + 1) (sm (fun i => M 3 1 + 2 * fcs (fX4 M) (M 3 1).toNat i) i + (M 3 1 + 2 * fcs (fX4 M) (M 3 1).toNat i)) := ⟨_, rfl⟩
        refine wp_is iX5_find_48 rfl rfl (by omega) ?_
        rw [ti1, ← hN1]
        refine wp_al0 iX5_find_49 ?_
        refine wp_gR iX5_find_50 fr_5_32 rfl rfl rfl ?_
        refine wp_il3 iX5_find_53 ?_
        refine wp_ic iX5_find_54 (by decide) ?_
        refine wp_add iX5_find_55 (by omega) ?_
        refine wp_al0 iX5_find_56 ?_
        refine wp_gR iX5_find_57 fr_5_32 rfl rfl rfl ?_
        refine wp_il3 iX5_find_60 ?_
        refine wp_ia iX5_find_61 rfl (by omega) ?_
        rw [ti]
        have e3' : N1 3 = M 3 := by rw [hN1, ab_up_ne _ _ _ (by decide)]; exact e3
        have e4' : N1 4 = M 4 := by rw [hN1, ab_up_ne _ _ _ (by decide)]; exact e4
        have hBN1 : hB N1 := by unfold hB; rw [e3', e4']; exact h
        have e53 : N1 53 = N 53 := by rw [hN1, ab_up_ne _ _ _ (by decide)]
        have hfk : cF L 2 mX0_facesOfWarp [.inr 3, .inl (i : Int)] N1 (fcs (fX4 M) (M 3 1).toNat i) := by
          have z := c_X0_facesOfWarp L N1 hBN1 (i : Int) (by omega)
          have e : sm (fcW N1 (i : Int)) (N1 3 1).toNat = fcs (fX4 M) (M 3 1).toNat i := by unfold fcW fcs fX4; rw [e3', e4']
          rw [e] at z
          exact z
        rw [e53, fi.2]
        refine wp_al1 iX5_find_62 ?_
        refine wp_il3 iX5_find_63 ?_
        refine wp_v1f iX5_find_64 ml_5_48 rfl rfl rfl rfl (hfk) ?_
        refine wp_add iX5_find_67 (by omega) ?_
        refine wp_is iX5_find_68 rfl rfl (by omega) ?_
        refine wp_ii3 iX5_find_69 (by omega) ?_
        refine wp_goto iX5_find_72 ?_
        rw [ti1]
        have ei : (i : Int) + 1 = ((i + 1 : Nat) : Int) := by omega
        rw [ei]
        refine ih _ (by omega) (i + 1) _ rfl (by omega) ⟨fun a ha => ?_, ?_, ?_, ?_, fun w hw => ?_⟩
        · rw [ab_up_ne _ _ _ (by omega), hN1, ab_up_ne _ _ _ (by omega)]; exact f1 a ha
        · rw [ab_up_ne _ _ _ (by decide), hN1, ab_up_ne _ _ _ (by decide)]; exact f2
        · rw [ab_up_ne _ _ _ (by decide), hN1, ab_up_ne _ _ _ (by decide)]; exact f3
        · rw [ab_up_ne _ _ _ (by decide), hN1, ab_up_ne _ _ _ (by decide)]; exact f4
        · rw [ab_up_ne _ _ _ (by decide), hN1, ab_up_self, ab_up_self, ab_up_ne _ _ _ (by decide)]
          by_cases hwi : w = i + 1
          · subst hwi
            rw [ab_u1_self, ab_u1_self]
            exact ⟨rfl, rfl⟩
          · rw [ab_u1_ne _ _ hwi, ab_u1_ne _ _ hwi]
            exact f5 w (by omega)
  refine key _ 0 _ rfl (by omega) ⟨fun a ha => ?_, ?_, ?_, ?_, fun w hw => ?_⟩
  · rw [ab_up_ne _ _ _ (by omega), ab_up_ne _ _ _ (by omega), ab_up_ne _ _ _ (by omega)]
  · rfl
  · rfl
  · rfl
  · rw [show w = 0 by omega]
    exact hz
end FindX
