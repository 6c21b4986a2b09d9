/-! ===== DEALING of the reference: the search ===== -/
section SrchM
variable (L : Nat) {M1 : ab_Me} {m n : Nat} {c y : Nat → Int} {z : Int} {Q : Option ab_V → ab_Me → Prop}
theorem dfs_leaf (hn : n ≤ 8) (hm : m ≤ 4) (h29 : M1 56 29 = (n : Int)) (hy : ∀ k, k < n → 0 ≤ y k ∧ y k ≤ 720) (hc : ∀ l, l < m → 0 ≤ c l ∧ c l ≤ 300) {N : ab_Me} {dl w : Int} (hd : dst m n c y M1 n n N dl) (hp : bP m n c y (Xs m n c y n (en m N) w) (sO m n N))
    (K : ∀ (N' : ab_Me) (zz : Int) (v5 v6 v7 : Option ab_V), dst m n c y M1 n n N' dl → (∀ i, i < n → N' 79 i = N 79 i) → bR m n c y (Xs m n c y n (en m N) w) (sO m n N) (sO m n N') → ((zz = 1 ∧ 1 ≤ n) ∨ (zz = 0 ∧ n = 0)) → wp L 4 mX9_findDealing 62 [some (.inr 56), some (.inl z), some (.inl ((n : Int) - 1)), some (.inl dl), some (.inl zz), v5, v6, v7] [] N' Q)
    (v5 v6 v7 : Option ab_V) : wp L 4 mX9_findDealing 62 [some (.inr 56), some (.inl z), some (.inl (n : Int)), some (.inl dl), some (.inl 1), v5, v6, v7] [] N Q := by
  have out : ∀ (N' : ab_Me) (v5 v6 v7 : Option ab_V), dst m n c y M1 n n N' dl → (∀ i, i < n → N' 79 i = N 79 i) → bR m n c y (Xs m n c y n (en m N) w) (sO m n N) (sO m n N') → wp L 4 mX9_findDealing 118 [some (.inr 56), some (.inl z), some (.inl (n : Int)), some (.inl dl), some (.inl 1), v5, v6, v7] [] N' Q := by
    intro N' v5 v6 v7 h1 h2 h3
    refine wp_ii2 iX9_findDealing_118 (by omega) ?_
    refine wp_il2 iX9_findDealing_121 ?_
    rw [show (n : Int) + -1 = (n : Int) - 1 by omega]
    refine wp_zlt iX9_findDealing_122 (fun c_122 => ?_) (fun c_122 => ?_)
    · refine wp_ic iX9_findDealing_129 (by decide) ?_
      refine wp_is4 iX9_findDealing_130 ?_
      refine wp_goto iX9_findDealing_132 ?_
      exact K N' 0 _ _ _ h1 h2 h3 (Or.inr ⟨rfl, by omega⟩)
    · refine wp_ic iX9_findDealing_125 (by decide) ?_
      refine wp_goto iX9_findDealing_126 ?_
      refine wp_is4 iX9_findDealing_130 ?_
      refine wp_goto iX9_findDealing_132 ?_
      exact K N' 1 _ _ _ h1 h2 h3 (Or.inl ⟨rfl, by omega⟩)
  obtain ⟨ok1, ok2⟩ := dst_ok hm (fun l hl => (hc l hl).1) hd
  have db := dst_bd hn hy (Nat.le_refl _) hd
  have hX : ∀ b, Xs m n c y n (en m N) w b → ∀ k, k < n → b k = nz m (N 79 (n - 1 - k)) := fun b hb k hk => by
    have := hb.2.1 (n - 1 - k) (by omega)
    rw [show n - 1 - (n - 1 - k) = k by omega] at this
    exact this
  refine wp_il4 iX9_findDealing_62 ?_
  refine wp_zeq iX9_findDealing_64 (fun c_64 => absurd c_64 (by decide)) (fun _ => ?_)
  refine wp_il2 iX9_findDealing_67 ?_
  refine wp_al0 iX9_findDealing_68 ?_
  refine wp_gI iX9_findDealing_69 fi_9_155 rfl ?_
  rw [hd.1.2 29 (by decide), h29]
  refine wp_cne iX9_findDealing_72 (fun c_72 => absurd rfl c_72) (fun _ => ?_)
  refine wp_il3 iX9_findDealing_75 ?_
  refine wp_al0 iX9_findDealing_76 ?_
  refine wp_gI iX9_findDealing_77 fi_9_165 rfl ?_
  refine wp_cle iX9_findDealing_80 (fun c_80 => ?_) (fun c_80 => ?_)
  · refine out N _ _ _ hd (fun _ _ => rfl) (bR_cut (fun k hk => (hy k hk).1) hp (fun b hb => ?_))
    have e : dY m y b n = dl := by
      rw [ok2]
      exact sm_congr n (fun k hk => by rw [hX b hb k hk])
    show dY m y b n ≤ N 56 36
    omega
  · refine wp_al0 iX9_findDealing_83 ?_
    refine wp_il3 iX9_findDealing_84 ?_
    refine wp_pI iX9_findDealing_85 fp_9_165 rfl ?_
    refine wp_ic iX9_findDealing_88 (by decide) ?_
    refine wp_is5 iX9_findDealing_89 ?_
    have key : ∀ (j i : Nat) (N' : ab_Me), 8 - i = j → i ≤ 8 → (∀ a, a ≠ 80 → N' a = ab_up N 56 36 dl a) → (∀ k, k < i → N' 80 k = N 79 k) → wp L 4 mX9_findDealing 91 [some (.inr 56), some (.inl z), some (.inl (n : Int)), some (.inl dl), some (.inl 1), some (.inl (i : Int)), v6, v7] [] N' Q := by
      intro j
      induction j using Nat.strongRecOn with
      | ind j ih =>
        intro i N' hj hi k1 k2
        have ti : ((i : Int)).toNat = i := by omega
        refine wp_il5 iX9_findDealing_91 ?_
        refine wp_bp iX9_findDealing_93 (by decide) ?_
        refine wp_cge iX9_findDealing_95 (fun c_95 => ?_) (fun c_95 => ?_)
        · have e : i = 8 := by omega
          subst e
          have e56 : N' 56 = ab_u1 (N 56) 36 dl := by rw [k1 56 (by decide), ab_up_self]
          have e78 : N' 78 = N 78 := by rw [k1 78 (by decide), ab_up_ne _ _ _ (by decide)]
          have e79 : N' 79 = N 79 := by rw [k1 79 (by decide), ab_up_ne _ _ _ (by decide)]
          have es : (sO m n N').2 = fun k => nz m (N 79 (n - 1 - k)) := by
            funext k
            show nz m (N' 80 (n - 1 - k)) = _
            rw [k2 _ (by omega)]
          have es1 : (sO m n N').1 = dl := by show N' 56 36 = dl; rw [e56, ab_u1_self]
          refine out N' _ _ _ (dst_cong hd e78 e79 ⟨fun a a1 a2 a3 a4 => ?_, fun s hs => ?_⟩) (fun i _ => by rw [e79]) (bR_leaf hm hn (fun b hb k hk => ?_) ?_ ?_ ?_ ?_)
          · rw [k1 a a3, ab_up_ne _ _ _ a4]; exact hd.1.1 a a1 a2 a3 a4
          · rw [e56, ab_u1_ne _ _ hs]; exact hd.1.2 s hs
          · rw [es]; exact hX b hb k hk
          · rw [es]
            refine ⟨ok1, fun i hi => ?_, fun h => by omega⟩
            show nz m (N 79 (n - 1 - (n - 1 - i))) = nz m (N 79 i)
            rw [show n - 1 - (n - 1 - i) = i by omega]
          · rw [es]; exact ok1
          · rw [es1, es]; exact ok2
          · rw [es1]; show N 56 36 < dl; omega
        · refine wp_al0 iX9_findDealing_98 ?_
          refine wp_gR iX9_findDealing_99 fr_9_93 rfl rfl rfl ?_
          refine wp_il5 iX9_findDealing_102 ?_
          refine wp_al0 iX9_findDealing_104 ?_
          refine wp_gR iX9_findDealing_105 fr_9_90 rfl rfl rfl ?_
          refine wp_il5 iX9_findDealing_108 ?_
          refine wp_ia iX9_findDealing_110 rfl (by omega) ?_
          rw [ti, k1 79 (by decide), ab_up_ne _ _ _ (show (79 : Nat) ≠ 56 by decide)]
          refine wp_is iX9_findDealing_111 rfl rfl (by omega) ?_
          refine wp_ii5 iX9_findDealing_112 (by omega) ?_
          refine wp_goto iX9_findDealing_115 ?_
          rw [ti, show (i : Int) + 1 = ((i + 1 : Nat) : Int) by omega]
          refine ih _ (by omega) (i + 1) _ rfl (by omega) (fun a ha => by rw [ab_up_ne _ _ _ ha]; exact k1 a ha) (fun k hk => ?_)
          rw [ab_up_self]
          by_cases e : k = i
          · rw [e, ab_u1_self]
          · rw [ab_u1_ne _ _ e]; exact k2 k (by omega)
    exact key _ 0 _ rfl (by omega) (fun _ _ => rfl) (fun k hk => by omega)
theorem dfs_node (hn : n ≤ 8) (hm : m ≤ 4) (h29 : M1 56 29 = (n : Int)) (h31 : M1 56 31 = (m : Int)) (hi : ∀ i, i < n → 0 ≤ M1 76 i ∧ M1 76 i < 120 ∧ M1 75 (M1 76 i).toNat = y (n - 1 - i)) (hy : ∀ k, k < n → 0 ≤ y k ∧ y k ≤ 720) (hc : ∀ l, l < m → 0 ≤ c l ∧ c l ≤ 300) : ∀ (r d : Nat), n - d = r → d ≤ n → ∀ (j : Nat) (N : ab_Me) (dl w : Int), ((m : Int) - w).toNat = j → (d < n → N 79 d = w ∧ dst m n c y M1 (d + 1) d N dl) → (d = n → dst m n c y M1 n n N dl) → bP m n c y (Xs m n c y d (en m N) w) (sO m n N) →
    (∀ (N' : ab_Me) (dl' zz : Int) (v5 v6 v7 : Option ab_V), dst m n c y M1 d d N' dl' → (∀ i, i < d → N' 79 i = N 79 i) → bR m n c y (Xs m n c y d (en m N) w) (sO m n N) (sO m n N') → ((zz = 1 ∧ 1 ≤ d) ∨ (zz = 0 ∧ d = 0)) → wp L 4 mX9_findDealing 62 [some (.inr 56), some (.inl z), some (.inl ((d : Int) - 1)), some (.inl dl'), some (.inl zz), v5, v6, v7] [] N' Q) →
    ∀ (v5 v6 v7 : Option ab_V), wp L 4 mX9_findDealing 62 [some (.inr 56), some (.inl z), some (.inl (d : Int)), some (.inl dl), some (.inl 1), v5, v6, v7] [] N Q := by
  intro r
  induction r with
  | zero =>
    intro d hr hdn j N dl w hj h1 h2 hp K v5 v6 v7
    have e : d = n := by omega
    subst e
    exact dfs_leaf L hn hm h29 hy hc (h2 rfl) hp (fun N' zz v5 v6 v7 a1 a2 a3 a4 => K N' dl zz v5 v6 v7 a1 a2 a3 a4) v5 v6 v7
  | succ r ihr =>
    intro d hr hdn j
    induction j using Nat.strongRecOn with
    | ind j ih =>
      intro N dl w hj h1 h2 hp K v5 v6 v7
      have hd : d < n := by omega
      have hy0 : ∀ k, k < n → 0 ≤ y k := fun k hk => (hy k hk).1
      have hyd := hy (n - 1 - d) (by omega)
      obtain ⟨hw, hs⟩ := h1 hd
      have hii := hi d hd
      have td : ((d : Int)).toNat = d := by omega
      have hwb := hs.2.2.1 d (by omega)
      rw [hw] at hwb
      have f76 : N 76 = M1 76 := hs.1.1 76 (by decide) (by decide) (by decide) (by decide)
      have f75 : N 75 = M1 75 := hs.1.1 75 (by decide) (by decide) (by decide) (by decide)
      refine wp_il4 iX9_findDealing_62 ?_
      refine wp_zeq iX9_findDealing_64 (fun c_64 => absurd c_64 (by decide)) (fun _ => ?_)
      refine wp_il2 iX9_findDealing_67 ?_
      refine wp_al0 iX9_findDealing_68 ?_
      refine wp_gI iX9_findDealing_69 fi_9_155 rfl ?_
      rw [hs.1.2 29 (by decide), h29]
      refine wp_cne iX9_findDealing_72 (fun _ => ?_) (fun c_72 => by exfalso; omega)
      refine wp_al0 iX9_findDealing_135 ?_
      refine wp_gR iX9_findDealing_136 fr_9_78 rfl rfl rfl ?_
      refine wp_al0 iX9_findDealing_139 ?_
      refine wp_gR iX9_findDealing_140 fr_9_81 rfl rfl rfl ?_
      refine wp_il2 iX9_findDealing_143 ?_
      refine wp_ia iX9_findDealing_144 rfl (by omega) ?_
      rw [td, f76]
      refine wp_ia iX9_findDealing_145 rfl (by omega) ?_
      rw [f75, hii.2.2]
      refine wp_is5 iX9_findDealing_146 ?_
      refine wp_al0 iX9_findDealing_148 ?_
      refine wp_gR iX9_findDealing_149 fr_9_90 rfl rfl rfl ?_
      refine wp_il2 iX9_findDealing_152 ?_
      refine wp_ia iX9_findDealing_153 rfl (by omega) ?_
      rw [td, hw]
      -- after giving back what was taken here
      have mid : ∀ (N2 : ab_Me) (dl2 : Int) (v7 : Option ab_V), dst m n c y M1 d d N2 dl2 → N2 79 = N 79 → N2 80 = N 80 → N2 56 = N 56 → wp L 4 mX9_findDealing 187 [some (.inr 56), some (.inl z), some (.inl (d : Int)), some (.inl dl2), some (.inl 1), some (.inl (y (n - 1 - d))), some (.inl w), v7] [] N2 Q := by
        intro N2 dl2 v7 g1 g2 g3 g4
        have g31 : N2 56 31 = (m : Int) := by rw [g4, hs.1.2 31 (by decide)]; exact h31
        have g29 : N2 56 29 = (n : Int) := by rw [g4, hs.1.2 29 (by decide)]; exact h29
        have n76 : N2 76 = M1 76 := g1.1.1 76 (by decide) (by decide) (by decide) (by decide)
        have n75 : N2 75 = M1 75 := g1.1.1 75 (by decide) (by decide) (by decide) (by decide)
        have eO : sO m n N2 = sO m n N := by unfold sO; rw [g3, g4]
        have eE : ∀ i, en m N2 i = en m N i := fun i => by unfold en; rw [g2]
        have db := dst_bd hn hy hdn g1
        have back : ∀ (v5 v6 v7 : Option ab_V), bR m n c y (Xs m n c y d (en m N) w) (sO m n N) (sO m n N2) → wp L 4 mX9_findDealing 243 [some (.inr 56), some (.inl z), some (.inl (d : Int)), some (.inl dl2), some (.inl 1), v5, v6, v7] [] N2 Q := by
          intro v5 v6 v7 hb
          refine wp_ii2 iX9_findDealing_243 (by omega) ?_
          refine wp_il2 iX9_findDealing_246 ?_
          rw [show (d : Int) + -1 = (d : Int) - 1 by omega]
          refine wp_zlt iX9_findDealing_247 (fun c_247 => ?_) (fun c_247 => ?_)
          · refine wp_ic iX9_findDealing_254 (by decide) ?_
            refine wp_is4 iX9_findDealing_255 ?_
            refine wp_goto iX9_findDealing_257 ?_
            exact K N2 dl2 0 _ _ _ g1 (fun i _ => by rw [g2]) hb (Or.inr ⟨rfl, by omega⟩)
          · refine wp_ic iX9_findDealing_250 (by decide) ?_
            refine wp_goto iX9_findDealing_251 ?_
            refine wp_is4 iX9_findDealing_255 ?_
            refine wp_goto iX9_findDealing_257 ?_
            exact K N2 dl2 1 _ _ _ g1 (fun i _ => by rw [g2]) hb (Or.inl ⟨rfl, by omega⟩)
        have fin : ∀ x : Nat, w < (x : Int) → ((x : Int) ≤ m ∨ ((x : Int) = w + 1 ∧ w = m)) → (∀ l : Nat, w < (l : Int) → l < x → l < m → N2 78 l < y (n - 1 - d)) → (x < m → y (n - 1 - d) ≤ N2 78 x) → wp L 4 mX9_findDealing 220 [some (.inr 56), some (.inl z), some (.inl (d : Int)), some (.inl dl2), some (.inl 1), some (.inl (y (n - 1 - d))), some (.inl w), some (.inl (x : Int))] [] N2 Q := by
          intro x hx1 hx2 hx3 hx4
          have tx : ((x : Int)).toNat = x := by omega
          refine wp_il7 iX9_findDealing_220 ?_
          refine wp_al0 iX9_findDealing_222 ?_
          refine wp_gI iX9_findDealing_223 fi_9_158 rfl ?_
          rw [g31]
          refine wp_cgt iX9_findDealing_226 (fun c_226 => ?_) (fun c_226 => ?_)
          · refine back _ _ _ ?_
            rw [eO]
            exact bR_none _ (fun b hb => by have := (hb.2.2 hd).2; omega)
          · have hyf : ∀ i, i < n → 0 ≤ N2 76 i ∧ N2 76 i < 120 ∧ N2 75 (N2 76 i).toNat = (fun i => y (n - 1 - i)) i := fun i hi' => by rw [n76, n75]; exact hi i hi'
            have ybd : ∀ k, k ≤ n → 0 ≤ sm (fun i => y (n - 1 - i)) k ∧ sm (fun i => y (n - 1 - i)) k ≤ 5760 := fun k hk => ⟨sm_nn k (fun i h => (hy _ (by omega)).1), Int.le_trans (sm_up_to k (fun i h => (hy (n - 1 - i) (by omega)).2)) (by omega)⟩
            have yb1 := ybd n (Nat.le_refl _)
            have yb2 := ybd d hdn
            have ye : sm (fun i => y (n - 1 - i)) n - sm (fun i => y (n - 1 - i)) d = sm y (n - d) := by
              have a1 := sm_pre y n d hdn
              have a2 := sm_rev y n
              omega
            refine wp_il3 iX9_findDealing_229 ?_
            refine wp_al0 iX9_findDealing_230 ?_
            refine wp_il2 iX9_findDealing_231 ?_
            refine wp_v1f iX9_findDealing_232 ml_9_168 rfl rfl rfl rfl (c_X9_yarnFrom L N2 hn g29 hyf (fun i h => hy _ (by omega)) d hdn) ?_
            refine wp_add iX9_findDealing_235 (by omega) ?_
            refine wp_al0 iX9_findDealing_236 ?_
            refine wp_gI iX9_findDealing_237 fi_9_165 rfl ?_
            rw [ye]
            refine wp_cgt iX9_findDealing_240 (fun c_240 => ?_) (fun c_240 => ?_)
            · -- go on with the choice x
              have xm : (x : Int) ≤ m := by omega
              have hwm : w < (m : Int) := by omega
              have nzx : (x < m ∧ nz m (x : Int) = x) ∨ (x = m ∧ nz m (x : Int) = 4) := by rw [nz_eq (by omega)]; split <;> omega
              have child : ∀ (N3 : ab_Me) (dl3 : Int) (v5 v6 v7 : Option ab_V), dst m n c y M1 (d + 1) (d + 1) N3 dl3 → (∀ i, i < d → N3 79 i = N 79 i) → N3 79 d = (x : Int) → N3 80 = N 80 → N3 56 = N 56 → wp L 4 mX9_findDealing 294 [some (.inr 56), some (.inl z), some (.inl (d : Int)), some (.inl dl3), some (.inl 1), v5, v6, v7] [] N3 Q := by
                intro N3 dl3 v5 v6 v7 s1 s2 s3 s4 s5
                have m29 : N3 56 29 = (n : Int) := by rw [s5, hs.1.2 29 (by decide)]; exact h29
                have run : ∀ (N4 : ab_Me) (v5 v6 v7 : Option ab_V), (d + 1 < n → N4 79 (d + 1) = -1 ∧ dst m n c y M1 (d + 1 + 1) (d + 1) N4 dl3) → (d + 1 = n → dst m n c y M1 n n N4 dl3) → (∀ i, i < d + 1 → N4 79 i = N3 79 i) → N4 80 = N 80 → N4 56 = N 56 → wp L 4 mX9_findDealing 62 [some (.inr 56), some (.inl z), some (.inl ((d + 1 : Nat) : Int)), some (.inl dl3), some (.inl 1), v5, v6, v7] [] N4 Q := by
                  intro N4 v5 v6 v7 t1 t2 t3 t4 t5
                  have eO4 : sO m n N4 = sO m n N := by unfold sO; rw [t4, t5]
                  have eE4 : ∀ i, i < d + 1 → en m N4 i = (fun i => if i = d then nz m (x : Int) else en m N i) i := fun i hid => by
                    show nz m (N4 79 i) = if i = d then nz m (x : Int) else nz m (N 79 i)
                    rw [t3 i hid]
                    by_cases e : i = d
                    · rw [if_pos e, e, s3]
                    · rw [if_neg e, s2 i (by omega)]
                  have sub1 : ∀ b, Xs m n c y (d + 1) (en m N4) (-1) b → Xs m n c y d (en m N) w b := fun b hb => by
                    refine ⟨hb.1, fun i hid => ?_, fun _ => ?_⟩
                    · rw [hb.2.1 i (by omega), eE4 i (by omega)]
                      show (if i = d then _ else _) = _
                      rw [if_neg (by omega)]
                    · have e := hb.2.1 d (by omega)
                      rw [eE4 d (by omega)] at e
                      have e : b (n - 1 - d) = nz m (x : Int) := by rw [e]; show (if d = d then _ else _) = _; rw [if_pos rfl]
                      rw [e]
                      omega
                  refine ihr (d + 1) (by omega) (by omega) _ N4 dl3 (-1) rfl t1 t2 ?_ ?_ v5 v6 v7
                  · rw [eO4]; exact bP_sub hp sub1
                  · intro N' dl' zz v5 v6 v7 k1 k2 k3 k4
                    rw [eO4] at k3
                    have k2' : ∀ i, i < d → N' 79 i = N 79 i := fun i hid => by rw [k2 i (by omega), t3 i (by omega), s2 i hid]
                    have k2d : N' 79 d = (x : Int) := by rw [k2 d (by omega), t3 d (by omega), s3]
                    have ez : zz = 1 := by omega
                    subst ez
                    rw [show ((d + 1 : Nat) : Int) - 1 = (d : Int) by omega]
                    have sub2 : ∀ b, Xs m n c y d (en m N') (x : Int) b → Xs m n c y d (en m N) w b := fun b hb => by
                      refine ⟨hb.1, fun i hid => ?_, fun _ => ?_⟩
                      · rw [hb.2.1 i hid]; unfold en; rw [k2' i hid]
                      · have := hb.2.2 hd
                        exact ⟨by omega, hwm⟩
                    refine ih _ (by omega) N' dl' (x : Int) rfl (fun _ => ⟨k2d, dst_low k1⟩) (fun e => by omega) ?_ ?_ v5 v6 v7
                    · refine bR_P hy0 (bP_sub hp sub2) k3 (fun b b' hb hb' => ?_)
                      refine Xs_lex (x := nz m (x : Int)) (e := en m N) (w := -1) (w' := w) hm hd (Xs_cg hb eE4) (sub2 b' hb') ?_
                      have := hb'.2.2 hd
                      omega
                    · intro N'' dl'' zz v5 v6 v7 q1 q2 q3 q4
                      refine K N'' dl'' zz v5 v6 v7 q1 (fun i hid => by rw [q2 i hid]; exact k2' i hid) ?_ q4
                      refine bR_tr hm hn hy0 (bP_sub hp sub1) k3 q3 sub1 sub2 (fun b hb => ?_)
                      have hb1 := hb.2.2 hd
                      have hb2 := hb.1.1 (n - 1 - d) (by omega)
                      have hagr : ∀ i, i < d → en m N' i = en m N i := fun i hid => by unfold en; rw [k2' i hid]
                      have toN : ((x : Int) < (b (n - 1 - d) : Int) ∧ (x : Int) < (m : Int)) → Xs m n c y d (en m N') (x : Int) b := fun hh => ⟨hb.1, fun i hid => by rw [hagr i hid]; exact hb.2.1 i hid, fun _ => hh⟩
                      have toC : b (n - 1 - d) = nz m (x : Int) → Xs m n c y (d + 1) (en m N4) (-1) b := fun hh => by
                        refine ⟨hb.1, fun i hid => ?_, fun _ => by omega⟩
                        rw [eE4 i hid]
                        show _ = if i = d then _ else _
                        by_cases e : i = d
                        · rw [if_pos e, e]; exact hh
                        · rw [if_neg e]; exact hb.2.1 i (by omega)
                      by_cases lt : b (n - 1 - d) < m
                      · by_cases lx : b (n - 1 - d) < x
                        · exfalso
                          have cap := Xs_cap hy0 hd lt hb rfl
                          have sl := dst_sl hm g1 lt
                          have left := (g1.2.2.2.1 (b (n - 1 - d)) lt).1
                          have low := hx3 (b (n - 1 - d)) hb1.1 lx lt
                          have se : sm (fun i => if en m N2 i = b (n - 1 - d) then y (n - 1 - i) else 0) d = sm (fun i => if en m N i = b (n - 1 - d) then y (n - 1 - i) else 0) d := sm_congr d (fun i _ => by rw [eE i])
                          omega
                        · by_cases ex : b (n - 1 - d) = x
                          · exact Or.inl (toC (by omega))
                          · exact Or.inr (toN ⟨by omega, by omega⟩)
                      · by_cases ex : x = m
                        · exact Or.inl (toC (by omega))
                        · exact Or.inr (toN ⟨by omega, by omega⟩)
                refine wp_ii2 iX9_findDealing_294 (by omega) ?_
                refine wp_il2 iX9_findDealing_297 ?_
                refine wp_al0 iX9_findDealing_298 ?_
                refine wp_gI iX9_findDealing_299 fi_9_155 rfl ?_
                rw [m29, show (d : Int) + 1 = ((d + 1 : Nat) : Int) by omega]
                refine wp_cge iX9_findDealing_302 (fun c_302 => ?_) (fun c_302 => ?_)
                · refine wp_goto iX9_findDealing_312 ?_
                  exact run N3 _ _ _ (fun e => by omega) (fun e => by subst e; exact s1) (fun _ _ => rfl) s4 s5
                · refine wp_al0 iX9_findDealing_305 ?_
                  refine wp_gR iX9_findDealing_306 fr_9_90 rfl rfl rfl ?_
                  refine wp_il2 iX9_findDealing_309 ?_
                  refine wp_ic iX9_findDealing_310 (by decide) ?_
                  refine wp_is iX9_findDealing_311 rfl rfl (by omega) ?_
                  refine wp_goto iX9_findDealing_312 ?_
                  rw [show (((d + 1 : Nat) : Int)).toNat = d + 1 by omega]
                  refine run _ _ _ _ (fun _ => ⟨by rw [ab_up_self, ab_u1_self], dst_open s1⟩) (fun e => by omega) (fun i hid => by rw [ab_up_self, ab_u1_ne _ _ (by omega)]) ?_ ?_
                  · rw [ab_up_ne _ _ _ (by decide)]; exact s4
                  · rw [ab_up_ne _ _ _ (by decide)]; exact s5
              refine wp_al0 iX9_findDealing_260 ?_
              refine wp_gR iX9_findDealing_261 fr_9_90 rfl rfl rfl ?_
              refine wp_il2 iX9_findDealing_264 ?_
              refine wp_il7 iX9_findDealing_265 ?_
              refine wp_is iX9_findDealing_267 rfl rfl (by omega) ?_
              refine wp_il7 iX9_findDealing_268 ?_
              refine wp_al0 iX9_findDealing_270 ?_
              refine wp_gI iX9_findDealing_271 fi_9_158 rfl ?_
              rw [td, ab_up_ne _ _ _ (show (56 : Nat) ≠ 79 by decide), g31]
              refine wp_cge iX9_findDealing_274 (fun c_274 => ?_) (fun c_274 => ?_)
              · have e : x = m := by omega
                refine child _ dl2 _ _ _ (by rw [e]; exact dst_none g1) (fun i hid => ?_) ?_ ?_ ?_
                · rw [ab_up_self, ab_u1_ne _ _ (by omega), g2]
                · rw [ab_up_self, ab_u1_self]
                · rw [ab_up_ne _ _ _ (by decide)]; exact g3
                · rw [ab_up_ne _ _ _ (by decide)]; exact g4
              · have hxm : x < m := by omega
                have lb := dst_lb hy hdn g1 hxm
                have cx := hc x hxm
                refine wp_al0 iX9_findDealing_277 ?_
                refine wp_gR iX9_findDealing_278 fr_9_87 rfl rfl rfl ?_
                refine wp_il7 iX9_findDealing_281 ?_
                refine wp_dup2 iX9_findDealing_283 ?_
                refine wp_ia iX9_findDealing_284 rfl (by omega) ?_
                rw [tx, ab_up_ne _ _ _ (show (78 : Nat) ≠ 79 by decide)]
                refine wp_il5 iX9_findDealing_285 ?_
                refine wp_sub iX9_findDealing_287 (by omega) ?_
                refine wp_is iX9_findDealing_288 rfl rfl (by omega) ?_
                refine wp_il3 iX9_findDealing_289 ?_
                refine wp_il5 iX9_findDealing_290 ?_
                refine wp_add iX9_findDealing_292 (by omega) ?_
                refine wp_is3 iX9_findDealing_293 ?_
                rw [tx]
                refine child _ _ _ _ _ (dst_pick hxm (hx4 hxm) g1) (fun i hid => ?_) ?_ ?_ ?_
                · rw [ab_up_ne _ _ _ (by decide), ab_up_self, ab_u1_ne _ _ (by omega), g2]
                · rw [ab_up_ne _ _ _ (by decide), ab_up_self, ab_u1_self]
                · rw [ab_up_ne _ _ _ (by decide), ab_up_ne _ _ _ (by decide)]; exact g3
                · rw [ab_up_ne _ _ _ (by decide), ab_up_ne _ _ _ (by decide)]; exact g4
            · refine back _ _ _ ?_
              rw [eO]
              refine bR_cut hy0 hp (fun b hb => ?_)
              have bnd := Xs_bound hy0 hdn hb
              have sd := dst_sd hm g1
              have se : sm (fun i => if en m N2 i < m then y (n - 1 - i) else 0) d = sm (fun i => if en m N i < m then y (n - 1 - i) else 0) d := sm_congr d (fun i _ => by rw [eE i])
              show _ ≤ N 56 36
              rw [g4] at c_240
              omega
        have loop : ∀ (k x : Nat), m - x = k → w < (x : Int) → ((x : Int) ≤ m ∨ ((x : Int) = w + 1 ∧ w = m)) → (∀ l : Nat, w < (l : Int) → l < x → l < m → N2 78 l < y (n - 1 - d)) → wp L 4 mX9_findDealing 193 [some (.inr 56), some (.inl z), some (.inl (d : Int)), some (.inl dl2), some (.inl 1), some (.inl (y (n - 1 - d))), some (.inl w), some (.inl (x : Int))] [] N2 Q := by
          intro k
          induction k using Nat.strongRecOn with
          | ind k ihk =>
            intro x hk hx1 hx2 hx3
            have tx : ((x : Int)).toNat = x := by omega
            refine wp_il7 iX9_findDealing_193 ?_
            refine wp_al0 iX9_findDealing_195 ?_
            refine wp_gI iX9_findDealing_196 fi_9_158 rfl ?_
            rw [g31]
            refine wp_cge iX9_findDealing_199 (fun c_199 => ?_) (fun c_199 => ?_)
            · exact fin x hx1 hx2 hx3 (fun e => by omega)
            · refine wp_al0 iX9_findDealing_202 ?_
              refine wp_gR iX9_findDealing_203 fr_9_87 rfl rfl rfl ?_
              refine wp_il7 iX9_findDealing_206 ?_
              refine wp_ia iX9_findDealing_208 rfl (by omega) ?_
              rw [tx]
              refine wp_il5 iX9_findDealing_209 ?_
              refine wp_cge iX9_findDealing_211 (fun c_211 => ?_) (fun c_211 => ?_)
              · exact fin x hx1 hx2 hx3 (fun e => by omega)
              · refine wp_ii7 iX9_findDealing_214 (by omega) ?_
                refine wp_goto iX9_findDealing_217 ?_
                rw [show (x : Int) + 1 = ((x + 1 : Nat) : Int) by omega]
                refine ihk _ (by omega) (x + 1) rfl (by omega) (by omega) (fun l l1 l2 l3 => ?_)
                by_cases e : l = x
                · rw [e]; omega
                · exact hx3 l l1 (by omega) l3
        refine wp_il6 iX9_findDealing_187 ?_
        refine wp_ic iX9_findDealing_189 (by decide) ?_
        refine wp_add iX9_findDealing_190 (by omega) ?_
        refine wp_is7 iX9_findDealing_191 ?_
        rw [show w + 1 = (((w + 1).toNat : Nat) : Int) by omega]
        exact loop _ _ rfl (by omega) (by omega) (fun l l1 l2 _ => by omega)
      refine wp_is6 iX9_findDealing_154 ?_
      refine wp_il6 iX9_findDealing_156 ?_
      refine wp_zlt iX9_findDealing_158 (fun c_158 => ?_) (fun c_158 => ?_)
      · exact mid N dl _ (dst_skip hs (by omega)) rfl rfl rfl
      · refine wp_il6 iX9_findDealing_161 ?_
        refine wp_al0 iX9_findDealing_163 ?_
        refine wp_gI iX9_findDealing_164 fi_9_158 rfl ?_
        rw [hs.1.2 31 (by decide), h31]
        refine wp_cge iX9_findDealing_167 (fun c_167 => ?_) (fun c_167 => ?_)
        · exact mid N dl _ (dst_skip hs (by omega)) rfl rfl rfl
        · have lb := dst_lb (l := w.toNat) hy (by omega) hs (by omega)
          have cx := hc w.toNat (by omega)
          have db := dst_bd hn hy (by omega) hs
          refine wp_al0 iX9_findDealing_170 ?_
          refine wp_gR iX9_findDealing_171 fr_9_87 rfl rfl rfl ?_
          refine wp_il6 iX9_findDealing_174 ?_
          refine wp_dup2 iX9_findDealing_176 ?_
          refine wp_ia iX9_findDealing_177 rfl (by omega) ?_
          refine wp_il5 iX9_findDealing_178 ?_
          refine wp_add iX9_findDealing_180 (by omega) ?_
          refine wp_is iX9_findDealing_181 rfl rfl (by omega) ?_
          refine wp_il3 iX9_findDealing_182 ?_
          refine wp_il5 iX9_findDealing_183 ?_
          refine wp_sub iX9_findDealing_185 (by omega) ?_
          refine wp_is3 iX9_findDealing_186 ?_
          have bk := dst_back hyd.1 hs (by omega) (by omega)
          rw [hw] at bk
          refine mid _ _ _ bk ?_ ?_ ?_ <;> exact ab_up_ne _ _ _ (by decide)
end SrchM
