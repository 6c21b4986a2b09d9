/-! ===== DEALING of the reference: gathering ===== -/
def gaM (C R : Nat) (col : Nat → Int) (z : Int) (nL : Nat) (M N : ab_Me) : Prop := (∀ a, a ≠ 56 → (a < 72 ∨ 77 < a) → N a = M a) ∧ (∀ j, j ≠ 24 → j ≠ 29 → j ≠ 31 → N 56 j = M 56 j) ∧ ∃ nF xs fl, nF ≤ 120 ∧ isF C R col nF xs fl ∧ N 56 24 = (nF : Int) ∧ (∀ f, f < nF → N 73 f = (xs f : Int) ∧ N 75 f = fYarn C R col fl f) ∧ N 56 29 = ((gF col xs z nF).length : Int) ∧ N 56 31 = ((gz (M 59) z nL).length : Int) ∧ ((gF col xs z nF).length ≤ 8 → rL (N 76) (gF col xs z nF)) ∧ ((gz (M 59) z nL).length ≤ 4 → rL (N 77) (gz (M 59) z nL))
def hLoM (M : ab_Me) (nL : Nat) : Prop := nL ≤ 12 ∧ M 56 4 = (nL : Int) ∧ ∀ l, 0 ≤ M 60 l ∧ M 60 l ≤ 300
theorem rL_push8 {row : Nat → Int} {l : List Nat} {b : Nat} (hb : 1 ≤ b) (h : l.length ≤ b → rL row l) (x : Nat) {i : Nat} (hi : i = if l.length < b then l.length else b - 1) : (l ++ [x]).length ≤ b → rL (ab_u1 row i (x : Int)) (l ++ [x]) := by
  intro q
  rw [List.length_append] at q
  simp at q
  rw [if_pos (by omega)] at hi
  subst hi
  exact rL_push (h (by omega)) x
theorem gl_len (p : Nat → Bool) : ∀ k, (gl p k).length ≤ k
  | 0 => by simp [gl]
  | k + 1 => by
    have := gl_len p k
    by_cases h : p k = true
    · rw [gl_yes h, List.length_append]; simp; omega
    · rw [gl_no h]; omega
section GathM
variable (L : Nat) (M : ab_Me) {C R nL : Nat}
theorem c_X9_gather (h : hM M) (hC : M 56 0 = (C : Int)) (hR : M 56 1 = (R : Int)) (hl : hLoM M nL) (z : Int) : ct L 4 mX9_gather [.inr 56, .inl z] M (fun r N => gaM C R (M 57) z nL M N ∧ ((r = some (.inl 1) ∧ N 56 29 ≤ 8 ∧ N 56 31 ≤ 4) ∨ (r = some (.inl 0) ∧ ¬ (N 56 29 ≤ 8 ∧ N 56 31 ≤ 4)))) := by
  obtain ⟨l1, l2, l3⟩ := hl
  refine ct_of rfl ?_
  change wp _ _ _ 0 [some (.inr 56), some (.inl z), none, none, none] [] _ _
  refine wp_al0 iX9_gather_0 ?_
  refine wp_v0x iX9_gather_1 ml_9_149 rfl rfl rfl rfl (c_X9_findFields L M h hC hR) (fun r N0 hx => ?_)
  obtain ⟨rfl, f1, f1', nF, xs, fl, f2, f3, f4, f5, f6⟩ := hx
  have hx120 : ∀ f, f < nF → xs f < 120 := fun f hf => on_lt (by have := h.2.1; omega) (by have := h.2.2.2.1; omega) (f3.1 f hf).1
  have e57 : N0 57 = M 57 := f1 57 (by decide) (by omega)
  have e59 : N0 59 = M 59 := f1 59 (by decide) (by omega)
  refine wp_ic iX9_gather_4 (by decide) ?_
  refine wp_is2 iX9_gather_5 ?_
  refine wp_ic iX9_gather_6 (by decide) ?_
  refine wp_is3 iX9_gather_7 ?_
  refine wp_ic iX9_gather_8 (by decide) ?_
  refine wp_is4 iX9_gather_9 ?_
  have last : ∀ (j l : Nat) (N : ab_Me), nL - l = j → l ≤ nL → (∀ a, a ≠ 76 → a ≠ 77 → N a = N0 a) → ((gF (M 57) xs z nF).length ≤ 8 → rL (N 76) (gF (M 57) xs z nF)) → ((gz (M 59) z l).length ≤ 4 → rL (N 77) (gz (M 59) z l)) → wp L 3 mX9_gather 67 [some (.inr 56), some (.inl z), some (.inl ((gF (M 57) xs z nF).length : Int)), some (.inl ((gz (M 59) z l).length : Int)), some (.inl (l : Int))] [] N (fun r N => gaM C R (M 57) z nL M N ∧ ((r = some (.inl 1) ∧ N 56 29 ≤ 8 ∧ N 56 31 ≤ 4) ∨ (r = some (.inl 0) ∧ ¬ (N 56 29 ≤ 8 ∧ N 56 31 ≤ 4)))) := by
    intro j
    induction j using Nat.strongRecOn with
    | ind j ih =>
      intro l N hj hl hfr h76 h77
      have tl : ((l : Int)).toNat = l := by omega
      have hgl := gl_len (fun f => decide (M 59 f = z)) l
      change (gz (M 59) z l).length ≤ l at hgl
      refine wp_il4 iX9_gather_67 ?_
      refine wp_al0 iX9_gather_69 ?_
      refine wp_gI iX9_gather_70 fi_9_152 rfl ?_
      rw [hfr 56 (by decide) (by decide), f1' 4 (by decide), l2]
      refine wp_cge iX9_gather_73 (fun c_73 => ?_) (fun c_73 => ?_)
      · have e : l = nL := by omega
        subst e
        refine wp_al0 iX9_gather_113 ?_
        refine wp_il2 iX9_gather_114 ?_
        refine wp_pI iX9_gather_115 fp_9_155 rfl ?_
        refine wp_al0 iX9_gather_118 ?_
        refine wp_il3 iX9_gather_119 ?_
        refine wp_pI iX9_gather_120 fp_9_158 rfl ?_
        refine wp_il2 iX9_gather_123 ?_
        refine wp_bp iX9_gather_124 (by decide) ?_
        have hga : gaM C R (M 57) z l M (ab_up (ab_up N 56 29 ((gF (M 57) xs z nF).length : Int)) 56 31 ((gz (M 59) z l).length : Int)) := by
          refine ⟨fun a h1 h2 => ?_, fun j h1 h2 h3 => ?_, nF, xs, fl, f2, f3, ?_, fun f hf => ?_, ?_, ?_, fun q => ?_, fun q => ?_⟩
          · rw [ab_up_ne _ _ _ h1, ab_up_ne _ _ _ h1, hfr a (by omega) (by omega)]; exact f1 a h1 (by omega)
          · rw [ab_up_self, ab_u1_ne _ _ h3, ab_up_self, ab_u1_ne _ _ h2, hfr 56 (by decide) (by decide)]; exact f1' j h1
          · rw [ab_up_self, ab_u1_ne _ _ (by decide), ab_up_self, ab_u1_ne _ _ (by decide), hfr 56 (by decide) (by decide)]; exact f4
          · rw [ab_up_ne _ _ _ (show (73 : Nat) ≠ 56 by decide), ab_up_ne _ _ _ (show (73 : Nat) ≠ 56 by decide), ab_up_ne _ _ _ (show (75 : Nat) ≠ 56 by decide), ab_up_ne _ _ _ (show (75 : Nat) ≠ 56 by decide), hfr 73 (by decide) (by decide), hfr 75 (by decide) (by decide)]
            exact ⟨(f6 f hf).1, (f6 f hf).2.2⟩
          · rw [ab_up_self, ab_u1_ne _ _ (by decide), ab_up_self, ab_u1_self]
          · rw [ab_up_self, ab_u1_self]
          · rw [ab_up_ne _ _ _ (by decide), ab_up_ne _ _ _ (by decide)]; exact h76 q
          · rw [ab_up_ne _ _ _ (by decide), ab_up_ne _ _ _ (by decide)]; exact h77 q
        have v29 : ab_up (ab_up N 56 29 ((gF (M 57) xs z nF).length : Int)) 56 31 ((gz (M 59) z l).length : Int) 56 29 = ((gF (M 57) xs z nF).length : Int) := by rw [ab_up_self, ab_u1_ne _ _ (by decide), ab_up_self, ab_u1_self]
        have v31 : ab_up (ab_up N 56 29 ((gF (M 57) xs z nF).length : Int)) 56 31 ((gz (M 59) z l).length : Int) 56 31 = ((gz (M 59) z l).length : Int) := by rw [ab_up_self, ab_u1_self]
        refine wp_cgt iX9_gather_126 (fun c_126 => ?_) (fun c_126 => ?_)
        · refine wp_ic iX9_gather_138 (by decide) ?_
          refine wp_retb iX9_gather_139 rfl (by decide) ?_
          exact ⟨hga, Or.inr ⟨rfl, by rw [v29, v31]; omega⟩⟩
        · refine wp_il3 iX9_gather_129 ?_
          refine wp_ic iX9_gather_130 (by decide) ?_
          refine wp_cgt iX9_gather_131 (fun c_131 => ?_) (fun c_131 => ?_)
          · refine wp_ic iX9_gather_138 (by decide) ?_
            refine wp_retb iX9_gather_139 rfl (by decide) ?_
            exact ⟨hga, Or.inr ⟨rfl, by rw [v29, v31]; omega⟩⟩
          · refine wp_ic iX9_gather_134 (by decide) ?_
            refine wp_goto iX9_gather_135 ?_
            refine wp_retb iX9_gather_139 rfl (by decide) ?_
            exact ⟨hga, Or.inl ⟨rfl, by rw [v29, v31]; omega⟩⟩
      · refine wp_al0 iX9_gather_76 ?_
        refine wp_gR iX9_gather_77 fr_9_24 rfl rfl rfl ?_
        refine wp_il4 iX9_gather_80 ?_
        refine wp_ia iX9_gather_82 rfl (by omega) ?_
        rw [tl, hfr 59 (by decide) (by decide), e59]
        refine wp_il1 iX9_gather_83 ?_
        refine wp_cne iX9_gather_84 (fun c_84 => ?_) (fun c_84 => ?_)
        · refine wp_ii4 iX9_gather_107 (by omega) ?_
          refine wp_goto iX9_gather_110 ?_
          have e : gz (M 59) z (l + 1) = gz (M 59) z l := gl_no (by simpa using c_84)
          rw [show (l : Int) + 1 = ((l + 1 : Nat) : Int) by omega, ← e]
          exact ih _ (by omega) (l + 1) N rfl (by omega) hfr h76 (by rw [e]; exact h77)
        · have e : gz (M 59) z (l + 1) = gz (M 59) z l ++ [l] := gl_yes (by simpa using c_84)
          have elen : ((gz (M 59) z l).length : Int) + 1 = ((gz (M 59) z (l + 1)).length : Int) := by rw [e, List.length_append]; simp
          have stp : ∀ i : Int, i.toNat = (if (gz (M 59) z l).length < 4 then (gz (M 59) z l).length else 4 - 1) → (0 ≤ i ∧ i < 4) → wp L 3 mX9_gather 101 [some (.inr 56), some (.inl z), some (.inl ((gF (M 57) xs z nF).length : Int)), some (.inl ((gz (M 59) z l).length : Int)), some (.inl (l : Int))] [.inl i, .inr 77] N (fun r N => gaM C R (M 57) z nL M N ∧ ((r = some (.inl 1) ∧ N 56 29 ≤ 8 ∧ N 56 31 ≤ 4) ∨ (r = some (.inl 0) ∧ ¬ (N 56 29 ≤ 8 ∧ N 56 31 ≤ 4)))) := by
            intro i hi hi2
            refine wp_il4 iX9_gather_101 ?_
            refine wp_is iX9_gather_103 rfl rfl (by omega) ?_
            refine wp_ii3 iX9_gather_104 (by omega) ?_
            refine wp_ii4 iX9_gather_107 (by omega) ?_
            refine wp_goto iX9_gather_110 ?_
            rw [show (l : Int) + 1 = ((l + 1 : Nat) : Int) by omega, elen]
            refine ih _ (by omega) (l + 1) _ rfl (by omega) (fun a h1 h2 => by rw [ab_up_ne _ _ _ h2]; exact hfr a h1 h2) (fun q => by rw [ab_up_ne _ _ _ (by decide)]; exact h76 q) ?_
            rw [e, ab_up_self]
            exact rL_push8 (by decide) h77 l hi
          refine wp_al0 iX9_gather_87 ?_
          refine wp_gR iX9_gather_88 fr_9_84 rfl rfl rfl ?_
          refine wp_il3 iX9_gather_91 ?_
          refine wp_ic iX9_gather_92 (by decide) ?_
          refine wp_cge iX9_gather_93 (fun c_93 => ?_) (fun c_93 => ?_)
          · refine wp_ic iX9_gather_100 (by decide) ?_
            refine stp _ ?_ (by omega)
            rw [if_neg (by omega)]; rfl
          · refine wp_il3 iX9_gather_96 ?_
            refine wp_goto iX9_gather_97 ?_
            refine stp _ ?_ (by omega)
            rw [if_pos (by omega)]; omega
  have key : ∀ (j f : Nat) (N : ab_Me), nF - f = j → f ≤ nF → (∀ a, a ≠ 76 → N a = N0 a) → ((gF (M 57) xs z f).length ≤ 8 → rL (N 76) (gF (M 57) xs z f)) → wp L 3 mX9_gather 11 [some (.inr 56), some (.inl z), some (.inl ((gF (M 57) xs z f).length : Int)), some (.inl 0), some (.inl (f : Int))] [] N (fun r N => gaM C R (M 57) z nL M N ∧ ((r = some (.inl 1) ∧ N 56 29 ≤ 8 ∧ N 56 31 ≤ 4) ∨ (r = some (.inl 0) ∧ ¬ (N 56 29 ≤ 8 ∧ N 56 31 ≤ 4)))) := by
    intro j
    induction j using Nat.strongRecOn with
    | ind j ih =>
      intro f N hj hf hfr h76
      have tf : ((f : Int)).toNat = f := by omega
      have hgl := gl_len (fun f => decide (M 57 (xs f) = z)) f
      change (gF (M 57) xs z f).length ≤ f at hgl
      refine wp_il4 iX9_gather_11 ?_
      refine wp_al0 iX9_gather_13 ?_
      refine wp_gI iX9_gather_14 fi_9_143 rfl ?_
      rw [hfr 56 (by decide), f4]
      refine wp_cge iX9_gather_17 (fun c_17 => ?_) (fun c_17 => ?_)
      · have e : f = nF := by omega
        subst e
        refine wp_ic iX9_gather_64 (by decide) ?_
        refine wp_is4 iX9_gather_65 ?_
        exact last _ 0 N rfl (by omega) (fun a h1 _ => hfr a h1) h76 (fun _ i hi => by simp [gz, gl] at hi)
      · have hfn : f < nF := by omega
        have hx := hx120 f hfn
        refine wp_al0 iX9_gather_20 ?_
        refine wp_gR iX9_gather_21 fr_9_16 rfl rfl rfl ?_
        refine wp_al0 iX9_gather_24 ?_
        refine wp_gR iX9_gather_25 fr_9_72 rfl rfl rfl ?_
        refine wp_il4 iX9_gather_28 ?_
        refine wp_ia iX9_gather_30 rfl (by omega) ?_
        rw [tf, hfr 73 (by decide), (f6 f hfn).1]
        refine wp_ia iX9_gather_31 rfl (by omega) ?_
        rw [Int.toNat_natCast, hfr 57 (by decide), e57]
        refine wp_il1 iX9_gather_32 ?_
        refine wp_cne iX9_gather_33 (fun c_33 => ?_) (fun c_33 => ?_)
        · refine wp_ii4 iX9_gather_58 (by omega) ?_
          refine wp_goto iX9_gather_61 ?_
          have e : gF (M 57) xs z (f + 1) = gF (M 57) xs z f := gl_no (p := fun f => decide (M 57 (xs f) = z)) (k := f) (by simpa using c_33)
          rw [show (f : Int) + 1 = ((f + 1 : Nat) : Int) by omega, ← e]
          exact ih _ (by omega) (f + 1) N rfl (by omega) hfr (by rw [e]; exact h76)
        · have e : gF (M 57) xs z (f + 1) = gF (M 57) xs z f ++ [f] := gl_yes (p := fun f => decide (M 57 (xs f) = z)) (k := f) (by simpa using c_33)
          have elen : ((gF (M 57) xs z f).length : Int) + 1 = ((gF (M 57) xs z (f + 1)).length : Int) := by rw [e, List.length_append]; simp
          have stp : ∀ i : Int, i.toNat = (if (gF (M 57) xs z f).length < 8 then (gF (M 57) xs z f).length else 8 - 1) → (0 ≤ i ∧ i < 8) → wp L 3 mX9_gather 52 [some (.inr 56), some (.inl z), some (.inl ((gF (M 57) xs z f).length : Int)), some (.inl 0), some (.inl (f : Int))] [.inl i, .inr 76] N (fun r N => gaM C R (M 57) z nL M N ∧ ((r = some (.inl 1) ∧ N 56 29 ≤ 8 ∧ N 56 31 ≤ 4) ∨ (r = some (.inl 0) ∧ ¬ (N 56 29 ≤ 8 ∧ N 56 31 ≤ 4)))) := by
            intro i hi hi2
            refine wp_il4 iX9_gather_52 ?_
            refine wp_is iX9_gather_54 rfl rfl (by omega) ?_
            refine wp_ii2 iX9_gather_55 (by omega) ?_
            refine wp_ii4 iX9_gather_58 (by omega) ?_
            refine wp_goto iX9_gather_61 ?_
            rw [show (f : Int) + 1 = ((f + 1 : Nat) : Int) by omega, elen]
            refine ih _ (by omega) (f + 1) _ rfl (by omega) (fun a h1 => by rw [ab_up_ne _ _ _ h1]; exact hfr a h1) ?_
            rw [e, ab_up_self]
            exact rL_push8 (by decide) h76 f hi
          refine wp_al0 iX9_gather_36 ?_
          refine wp_gR iX9_gather_37 fr_9_81 rfl rfl rfl ?_
          refine wp_il2 iX9_gather_40 ?_
          refine wp_bp iX9_gather_41 (by decide) ?_
          refine wp_cge iX9_gather_43 (fun c_43 => ?_) (fun c_43 => ?_)
          · refine wp_bp iX9_gather_50 (by decide) ?_
            refine stp _ ?_ (by omega)
            rw [if_neg (by omega)]; rfl
          · refine wp_il2 iX9_gather_46 ?_
            refine wp_goto iX9_gather_47 ?_
            refine stp _ ?_ (by omega)
            rw [if_pos (by omega)]; omega
  exact key _ 0 N0 rfl (by omega) (fun _ _ => rfl) (fun _ i hi => by simp [gF, gz, gl] at hi)
theorem c_X9_yarnFrom {n : Nat} {yi : Nat → Int} (hn : n ≤ 8) (h29 : M 56 29 = (n : Int)) (hi : ∀ i, i < n → 0 ≤ M 76 i ∧ M 76 i < 120 ∧ M 75 (M 76 i).toNat = yi i) (hy : ∀ i, i < n → 0 ≤ yi i ∧ yi i ≤ 720) (d : Nat) (hd : d ≤ n) : cF L 1 mX9_yarnFrom [.inr 56, .inl (d : Int)] M (sm yi n - sm yi d) := by
  refine cF_of rfl ?_
  change wp _ _ _ 0 [some (.inr 56), some (.inl (d : Int)), none, none] [] _ _
  refine wp_ic iX9_yarnFrom_0 (by decide) ?_
  refine wp_is2 iX9_yarnFrom_1 ?_
  refine wp_il1 iX9_yarnFrom_2 ?_
  refine wp_is3 iX9_yarnFrom_3 ?_
  have bd : ∀ k, k ≤ n → 0 ≤ sm yi k ∧ sm yi k ≤ 5760 := fun k hk => ⟨sm_nn k (fun i h => (hy i (by omega)).1), Int.le_trans (sm_up_to k (fun i h => (hy i (by omega)).2)) (by omega)⟩
  have b0 := bd d hd
  have key : ∀ (j i : Nat), n - i = j → i ≤ n → wp L 0 mX9_yarnFrom 4 [some (.inr 56), some (.inl (d : Int)), some (.inl (sm yi i - sm yi d)), some (.inl (i : Int))] [] M (fun r M1 => r = some (.inl (sm yi n - sm yi d)) ∧ M1 = M) := by
    intro j
    induction j using Nat.strongRecOn with
    | ind j ih =>
      intro i hj hin
      have ti : ((i : Int)).toNat = i := by omega
      refine wp_il3 iX9_yarnFrom_4 ?_
      refine wp_al0 iX9_yarnFrom_5 ?_
      refine wp_gI iX9_yarnFrom_6 fi_9_155 rfl ?_
      rw [h29]
      refine wp_cge iX9_yarnFrom_9 (fun c_9 => ?_) (fun c_9 => ?_)
      · have e : i = n := by omega
        subst e
        refine wp_il2 iX9_yarnFrom_32 ?_
        refine wp_ret iX9_yarnFrom_33 rfl ?_
        exact ⟨rfl, rfl⟩
      · have q := hi i (by omega)
        have q2 := hy i (by omega)
        have b1 := bd i hin
        refine wp_il2 iX9_yarnFrom_12 ?_
        refine wp_al0 iX9_yarnFrom_13 ?_
        refine wp_gR iX9_yarnFrom_14 fr_9_78 rfl rfl rfl ?_
        refine wp_al0 iX9_yarnFrom_17 ?_
        refine wp_gR iX9_yarnFrom_18 fr_9_81 rfl rfl rfl ?_
        refine wp_il3 iX9_yarnFrom_21 ?_
        refine wp_ia iX9_yarnFrom_22 rfl (by omega) ?_
        rw [ti]
        refine wp_ia iX9_yarnFrom_23 rfl (by omega) ?_
        rw [q.2.2]
        refine wp_add iX9_yarnFrom_24 (by omega) ?_
        refine wp_is2 iX9_yarnFrom_25 ?_
        refine wp_ii3 iX9_yarnFrom_26 (by omega) ?_
        refine wp_goto iX9_yarnFrom_29 ?_
        rw [show sm yi i - sm yi d + yi i = sm yi (i + 1) - sm yi d by show _ = sm yi i + yi i - _; omega, show (i : Int) + 1 = ((i + 1 : Nat) : Int) by omega]
        exact ih _ (by omega) (i + 1) rfl (by omega)
  have := key _ d rfl hd
  rw [show sm yi d - sm yi d = 0 by omega] at this
  exact this
end GathM
