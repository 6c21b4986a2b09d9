def rbM (N : ab_Me) (b : sh_B) : Prop := N 56 41 = (b.2.length : Int) ∧ (b.2.length = 0 → b.1 = 1000000) ∧ (0 < b.2.length → N 56 42 = b.1) ∧ ∀ (i : Nat) (q : Nat × Nat), b.2[i]? = some q → (q.1 < 4 ∧ 1 ≤ q.2 ∧ q.2 ≤ 12) ∧ N 84 i = 12 * (q.1 : Int) + (q.2 : Int) - 1
def gM (N N1 : ab_Me) : Prop := (∀ a, a ≠ 56 → a ≠ 81 → a ≠ 82 → a ≠ 83 → a ≠ 84 → N1 a = N a) ∧ ∀ j, j ≠ 41 → j ≠ 42 → N1 56 j = N 56 j
def fsM (l : Nat) (N N1 : ab_Me) : Prop := gM N N1 ∧ (∀ i, i < l → N1 81 i = N 81 i) ∧ ∀ i, i ≤ l → N1 82 i = N 82 i ∧ N1 83 i = N 83 i
theorem gM.tr {A B C : ab_Me} (h1 : gM A B) (h2 : gM B C) : gM A C := ⟨fun a b1 b2 b3 b4 b5 => (h2.1 a b1 b2 b3 b4 b5).trans (h1.1 a b1 b2 b3 b4 b5), fun j b1 b2 => (h2.2 j b1 b2).trans (h1.2 j b1 b2)⟩
theorem fsM.tr {l : Nat} {A B C : ab_Me} (h1 : fsM l A B) (h2 : fsM l B C) : fsM l A C := ⟨h1.1.tr h2.1, fun i hi => (h2.2.1 i hi).trans (h1.2.1 i hi), fun i hi => ⟨(h2.2.2 i hi).1.trans (h1.2.2 i hi).1, (h2.2.2 i hi).2.trans (h1.2.2 i hi).2⟩⟩
theorem fsM.le {l m : Nat} {A B : ab_Me} (h : fsM m A B) (hl : l ≤ m) : fsM l A B := ⟨h.1, fun i hi => h.2.1 i (by omega), fun i hi => h.2.2 i (by omega)⟩
theorem fsM.o (N : ab_Me) (l : Nat) (z : Int) : fsM l N (ab_up N 81 l z) := ⟨⟨fun a b1 b2 b3 b4 b5 => ab_up_ne _ _ _ b2, fun j _ _ => rfl⟩, fun i hi => by rw [ab_up_self, ab_u1_ne _ _ (by omega)], fun i hi => ⟨rfl, rfl⟩⟩
theorem rpM.fr {N N1 : ab_Me} {pre : sh_P} (h : rpM N pre) (hf : ∀ i, i < pre.length → N1 81 i = N 81 i) : rpM N1 pre := by
  intro i q hq
  have := h i q hq
  rw [hf i (List.getElem?_eq_some_iff.mp hq).1]
  exact this
theorem rbM.fr {N N1 : ab_Me} {b : sh_B} (h : rbM N b) (h56 : N1 56 = N 56) (h84 : N1 84 = N 84) : rbM N1 b := by
  unfold rbM
  rw [h56, h84]
  exact h
def dosM (M : ab_Me) : Nat → Nat → Nat → Int := sh_dos (M 58) (M 56 1).toNat (M 61) (M 62)
theorem app_get {pre : sh_P} {q r : Nat × Nat} {i : Nat} (h : (pre ++ [q])[i]? = some r) : pre[i]? = some r ∨ (i = pre.length ∧ r = q) := by
  by_cases hi : i < pre.length
  · rw [List.getElem?_append_left hi] at h; exact Or.inl h
  · have hl : i < (pre ++ [q]).length := (List.getElem?_eq_some_iff.mp h).1
    have hi2 : i = pre.length := by simp at hl; omega
    subst hi2
    simp at h
    exact Or.inr ⟨rfl, h.symm⟩
theorem rpM.push {N : ab_Me} {pre : sh_P} (h : rpM N pre) (v n : Nat) (hv : v < 4) (hn : 1 ≤ n ∧ n ≤ 12) (ho : N 81 pre.length = 12 * (v : Int) + (n : Int) - 1) : rpM N (pre ++ [(v, n)]) := by
  intro i q hq
  rcases app_get hq with hq | ⟨rfl, rfl⟩
  · exact h i q hq
  · exact ⟨⟨hv, hn⟩, ho⟩
section FindM
variable (L : Nat) (M : ab_Me)
/-- shared[0 .. l] = option[0 .. l] -/
theorem fs_copy (N : ab_Me) (l : Nat) (hl : l < 4) (Q : Option ab_V → ab_Me → Prop) (v2 v3 v4 v5 : Option ab_V) (k : ∀ v6 : Option ab_V, wp L 3 mX9_findSharing 33 [some (.inr 56), some (.inl (l : Int)), v2, v3, v4, v5, v6] [] (ab_rw N 84 (fun i => if i < l + 1 then N 81 i else N 84 i)) Q) : wp L 3 mX9_findSharing 245 [some (.inr 56), some (.inl (l : Int)), v2, v3, v4, v5, some (.inl 0)] [] N Q := by
  have key : ∀ (m i : Nat) (N1 : ab_Me), l + 1 - i = m → i ≤ l + 1 → N1 = ab_rw N 84 (fun j => if j < i then N 81 j else N 84 j) → wp L 3 mX9_findSharing 245 [some (.inr 56), some (.inl (l : Int)), v2, v3, v4, v5, some (.inl (i : Int))] [] N1 Q := by
    intro m
    induction m using Nat.strongRecOn with
    | ind m ih =>
      intro i N1 hm hi hN
      refine wp_il6 iX9_findSharing_245 ?_
      refine wp_il1 iX9_findSharing_247 ?_
      refine wp_cgt iX9_findSharing_248 (fun c_248 => ?_) (fun c_248 => ?_)
      · refine wp_goto iX9_findSharing_271 ?_
        have hil : i = l + 1 := by omega
        rw [hN, hil]
        exact k _
      · have ti : ((i : Int)).toNat = i := by omega
        have e81 : N1 81 = N 81 := by rw [hN, ab_rw_ne _ _ (by decide)]
        refine wp_al0 iX9_findSharing_251 ?_
        refine wp_gR iX9_findSharing_252 fr_9_105 rfl rfl rfl ?_
        refine wp_il6 iX9_findSharing_255 ?_
        refine wp_al0 iX9_findSharing_257 ?_
        refine wp_gR iX9_findSharing_258 fr_9_96 rfl rfl rfl ?_
        refine wp_il6 iX9_findSharing_261 ?_
        refine wp_ia iX9_findSharing_263 rfl (by omega) ?_
        rw [ti, e81]
        refine wp_is iX9_findSharing_264 rfl rfl (by omega) ?_
        refine wp_ii6 iX9_findSharing_265 (by omega) ?_
        refine wp_goto iX9_findSharing_268 ?_
        rw [ti, show (i : Int) + 1 = ((i + 1 : Nat) : Int) by omega]
        refine ih _ (by omega) (i + 1) _ rfl (by omega) ?_
        rw [hN, up_row]
        congr 1
        funext j
        exact row_up (g := N 81) (h := N 84) (fun _ => rfl) rfl j
  refine key _ 0 N rfl (by omega) ?_
  have : (fun j => if j < 0 then N 81 j else N 84 j) = N 84 := funext fun j => if_neg (by omega)
  rw [this, rw_self]
set_option maxHeartbeats 2000000 in
theorem fs_dfs (h : hM M) (hw : hWM M) : ∀ (k : Nat) (pre : sh_P) (warp : Nat) (so : Int) (b : sh_B) (N : ab_Me), pre.length + k = 4 → ((warp : Int) < M 56 0) → (0 ≤ so ∧ so ≤ 400) → gM M N → rpM N pre → N 82 pre.length = (warp : Int) → N 83 pre.length = so → N 81 pre.length = -1 → rbM N b → ∀ Q : Option ab_V → ab_Me → Prop, (∀ N1, fsM pre.length N N1 → rbM N1 (sh_go (M 56 0).toNat (M 56 7).toNat (dosM M) k warp so pre b) → ∀ v2 v3 v4 v5 v6, wp L 3 mX9_findSharing 33 [some (.inr 56), some (.inl ((pre.length : Int) + -1)), v2, v3, v4, v5, v6] [] N1 Q) → ∀ v2 v3 v4 v5 v6, wp L 3 mX9_findSharing 33 [some (.inr 56), some (.inl (pre.length : Int)), v2, v3, v4, v5, v6] [] N Q := by
  obtain ⟨h1, h2, h3, h4, h5, h6⟩ := id h
  obtain ⟨w1, w2, w3⟩ := id hw
  have hsw := shw_M h hw
  intro k
  induction k with
  | zero =>
    intro pre warp so b N hl hwp hso hg hp e82 e83 e81 hb Q hQ v2 v3 v4 v5 v6
    have tl : ((pre.length : Int)).toNat = pre.length := by omega
    refine wp_il1 iX9_findSharing_33 ?_
    refine wp_zlt iX9_findSharing_34 (fun c_34 => ?_) (fun c_34 => ?_)
    · exfalso; omega
    · refine wp_al0 iX9_findSharing_37 ?_
      refine wp_gR iX9_findSharing_38 fr_9_96 rfl rfl rfl ?_
      refine wp_il1 iX9_findSharing_41 ?_
      refine wp_dup2 iX9_findSharing_42 ?_
      refine wp_ia iX9_findSharing_43 rfl (by omega) ?_
      rw [tl, e81]
      refine wp_ic iX9_findSharing_44 (by decide) ?_
      refine wp_add iX9_findSharing_45 (by omega) ?_
      refine wp_is iX9_findSharing_46 rfl rfl (by omega) ?_
      refine wp_al0 iX9_findSharing_47 ?_
      refine wp_gR iX9_findSharing_48 fr_9_96 rfl rfl rfl ?_
      refine wp_il1 iX9_findSharing_51 ?_
      refine wp_ia iX9_findSharing_52 rfl (by omega) ?_
      rw [tl]
      refine wp_is2 iX9_findSharing_53 ?_
      refine wp_il1 iX9_findSharing_54 ?_
      refine wp_ic iX9_findSharing_55 (by decide) ?_
      refine wp_ceq iX9_findSharing_56 (fun c_56 => ?_) (fun c_56 => ?_)
      · refine wp_ii1 iX9_findSharing_70 (by omega) ?_
        refine wp_goto iX9_findSharing_73 ?_
        refine hQ _ (fsM.o N _ _) ?_ _ _ _ _ _
        have e : sh_go (M 56 0).toNat (M 56 7).toNat (dosM M) 0 warp so pre b = b := by
          simp only [sh_go]
          rw [if_neg (by omega)]
        rw [e]
        exact hb.fr (ab_up_ne _ _ _ (by decide)) (ab_up_ne _ _ _ (by decide))
      · exfalso; omega
  | succ k ih =>
    intro pre warp so b N hl hwp hso hg hp e82 e83 e81 hb Q hQ
    have tl : ((pre.length : Int)).toNat = pre.length := by omega
    have key : ∀ (m o : Nat) (N1 : ab_Me), 12 * (M 56 7).toNat - o = m → o ≤ 12 * (M 56 7).toNat → fsM pre.length N N1 → N1 81 pre.length = (o : Int) - 1 → rbM N1 (sh_fld (sh_stp (M 56 0).toNat (dosM M) (sh_go (M 56 0).toNat (M 56 7).toNat (dosM M) k) warp so pre) b o) → ∀ v2 v3 v4 v5 v6, wp L 3 mX9_findSharing 33 [some (.inr 56), some (.inl (pre.length : Int)), v2, v3, v4, v5, v6] [] N1 Q := by
      intro m
      induction m using Nat.strongRecOn with
      | ind m ihm =>
        intro o N1 hm ho hf1 e1 hb1 v2 v3 v4 v5 v6
        refine wp_il1 iX9_findSharing_33 ?_
        refine wp_zlt iX9_findSharing_34 (fun c_34 => ?_) (fun c_34 => ?_)
        · exfalso; omega
        · refine wp_al0 iX9_findSharing_37 ?_
          refine wp_gR iX9_findSharing_38 fr_9_96 rfl rfl rfl ?_
          refine wp_il1 iX9_findSharing_41 ?_
          refine wp_dup2 iX9_findSharing_42 ?_
          refine wp_ia iX9_findSharing_43 rfl (by omega) ?_
          rw [tl, e1]
          refine wp_ic iX9_findSharing_44 (by decide) ?_
          refine wp_add iX9_findSharing_45 (by omega) ?_
          refine wp_is iX9_findSharing_46 rfl rfl (by omega) ?_
          rw [tl, show (o : Int) - 1 + 1 = (o : Int) by omega]
          obtain ⟨N2, hN2⟩ : ∃ N2, N2 = ab_up N1 81 pre.length (o : Int) := ⟨_, rfl⟩
          rw [← hN2]
          have hf2 : fsM pre.length N N2 := by rw [hN2]; exact hf1.tr (fsM.o N1 _ _)
          have e2 : N2 81 pre.length = (o : Int) := by rw [hN2, ab_up_self, ab_u1_self]
          have hb2 : rbM N2 (sh_fld (sh_stp (M 56 0).toNat (dosM M) (sh_go (M 56 0).toNat (M 56 7).toNat (dosM M) k) warp so pre) b o) := hb1.fr (by rw [hN2, ab_up_ne _ _ _ (by decide)]) (by rw [hN2, ab_up_ne _ _ _ (by decide)])
          have hg2 : gM M N2 := hg.tr hf2.1
          have z0 : N2 56 0 = M 56 0 := hg2.2 0 (by decide) (by decide)
          have z1 : N2 56 1 = M 56 1 := hg2.2 1 (by decide) (by decide)
          have z7 : N2 56 7 = M 56 7 := hg2.2 7 (by decide) (by decide)
          have z57 : N2 57 = M 57 := hg2.1 57 (by decide) (by decide) (by decide) (by decide) (by decide)
          have z58 : N2 58 = M 58 := hg2.1 58 (by decide) (by decide) (by decide) (by decide) (by decide)
          have z61 : N2 61 = M 61 := hg2.1 61 (by decide) (by decide) (by decide) (by decide) (by decide)
          have z62 : N2 62 = M 62 := hg2.1 62 (by decide) (by decide) (by decide) (by decide) (by decide)
          have hMN : hM N2 := by unfold hM; rw [z0, z1, z57, z58]; exact h
          have hWN : hWM N2 := by unfold hWM; rw [z7, z61, z62]; exact hw
          have hp2 : rpM N2 pre := hp.fr (fun i hi => hf2.2.1 i hi)
          have e82' : N2 82 pre.length = (warp : Int) := by rw [(hf2.2.2 _ (Nat.le_refl _)).1]; exact e82
          have e83' : N2 83 pre.length = so := by rw [(hf2.2.2 _ (Nat.le_refl _)).2]; exact e83
          -- what comes next, once option o is done with
          have nxt : ∀ (N3 : ab_Me), fsM pre.length N N3 → N3 81 pre.length = (o : Int) → rbM N3 (sh_fld (sh_stp (M 56 0).toNat (dosM M) (sh_go (M 56 0).toNat (M 56 7).toNat (dosM M) k) warp so pre) b (o + 1)) → o < 12 * (M 56 7).toNat → ∀ v2 v3 v4 v5 v6, wp L 3 mX9_findSharing 33 [some (.inr 56), some (.inl (pre.length : Int)), v2, v3, v4, v5, v6] [] N3 Q := fun N3 q1 q2 q3 q4 => ihm _ (by omega) (o + 1) N3 rfl (by omega) q1 (by rw [q2]; omega) q3
          generalize hbb : sh_fld (sh_stp (M 56 0).toNat (dosM M) (sh_go (M 56 0).toNat (M 56 7).toNat (dosM M) k) warp so pre) b o = bb at hb1 hb2
          have hfs : sh_fld (sh_stp (M 56 0).toNat (dosM M) (sh_go (M 56 0).toNat (M 56 7).toNat (dosM M) k) warp so pre) b (o + 1) = sh_stp (M 56 0).toNat (dosM M) (sh_go (M 56 0).toNat (M 56 7).toNat (dosM M) k) warp so pre bb o := by rw [← hbb]; rfl
          rw [hfs] at nxt
          have hnb : ¬ ((warp : Int) = M 56 0) := by omega
          refine wp_al0 iX9_findSharing_47 ?_
          refine wp_gR iX9_findSharing_48 fr_9_96 rfl rfl rfl ?_
          refine wp_il1 iX9_findSharing_51 ?_
          refine wp_ia iX9_findSharing_52 rfl (by omega) ?_
          rw [tl, e2]
          refine wp_is2 iX9_findSharing_53 ?_
          refine wp_il1 iX9_findSharing_54 ?_
          refine wp_ic iX9_findSharing_55 (by decide) ?_
          refine wp_ceq iX9_findSharing_56 (fun c_56 => ?_) (fun c_56 => ?_)
          · exfalso; omega
          · refine wp_il2 iX9_findSharing_59 ?_
            refine wp_bp iX9_findSharing_60 (by decide) ?_
            refine wp_al0 iX9_findSharing_62 ?_
            refine wp_gI iX9_findSharing_63 fi_9_174 rfl ?_
            rw [z7]
            refine wp_mul iX9_findSharing_66 (by omega) ?_
            have back : ¬ (o < 12 * (M 56 7).toNat) → ∀ v2 v3 v4 v5 v6, wp L 3 mX9_findSharing 70 [some (.inr 56), some (.inl (pre.length : Int)), v2, v3, v4, v5, v6] [] N2 Q := by
              intro q v2 v3 v4 v5 v6
              refine wp_ii1 iX9_findSharing_70 (by omega) ?_
              refine wp_goto iX9_findSharing_73 ?_
              refine hQ N2 hf2 ?_ _ _ _ _ _
              have e : sh_go (M 56 0).toNat (M 56 7).toNat (dosM M) (k + 1) warp so pre b = bb := by
                simp only [sh_go]
                rw [if_neg (by omega), ← hbb, show 12 * (M 56 7).toNat = o by omega]
              rw [e]
              exact hb2
            refine wp_clt iX9_findSharing_67 (fun c_67 => ?_) (fun c_67 => ?_)
            · have hov : o < 12 * (M 56 7).toNat := by omega
              have hv4 : o / 12 < 4 := by omega
              have hvW : ((o / 12 : Nat) : Int) < M 56 7 := by omega
              refine wp_il2 iX9_findSharing_76 ?_
              refine wp_bp iX9_findSharing_77 (by decide) ?_
              refine wp_rem iX9_findSharing_79 (by omega) ?_
              refine wp_ic iX9_findSharing_80 (by decide) ?_
              refine wp_add iX9_findSharing_81 (by omega) ?_
              refine wp_is3 iX9_findSharing_82 ?_
              refine wp_al0 iX9_findSharing_83 ?_
              refine wp_gR iX9_findSharing_84 fr_9_99 rfl rfl rfl ?_
              refine wp_il1 iX9_findSharing_87 ?_
              refine wp_ia iX9_findSharing_88 rfl (by omega) ?_
              rw [tl, e82']
              have eo12 : (o : Int) / 12 = ((o / 12 : Nat) : Int) := by omega
              have en : (o : Int) % 12 + 1 = ((o % 12 + 1 : Nat) : Int) := by omega
              rw [en]
              refine wp_il3 iX9_findSharing_89 ?_
              refine wp_add iX9_findSharing_90 (by omega) ?_
              refine wp_is4 iX9_findSharing_91 ?_
              refine wp_il4 iX9_findSharing_93 ?_
              refine wp_al0 iX9_findSharing_95 ?_
              refine wp_gI iX9_findSharing_96 fi_9_7 rfl ?_
              rw [z0]
              have skip : (M 56 0).toNat < warp + (o % 12 + 1) ∨ sh_used pre (o / 12) = true ∨ dosM M (o / 12) warp (o % 12 + 1) = 0 ∨ bb.1 < sh_mx so (dosM M (o / 12) warp (o % 12 + 1)) → ∀ v2 v3 v4 v5 v6, wp L 3 mX9_findSharing 33 [some (.inr 56), some (.inl (pre.length : Int)), v2, v3, v4, v5, v6] [] N2 Q := by
                intro hs
                refine nxt N2 hf2 e2 ?_ hov
                unfold sh_stp
                rw [if_pos hs]
                exact hb2
              refine wp_cgt iX9_findSharing_99 (fun c_99 => ?_) (fun c_99 => ?_)
              · exact skip (Or.inl (by omega)) _ _ _ _ _
              · have htk := c_X9_isTaken L N2 pre hp2 (by omega) (o / 12) hv4
                rw [← eo12] at htk
                refine wp_al0 iX9_findSharing_102 ?_
                refine wp_il1 iX9_findSharing_103 ?_
                refine wp_il2 iX9_findSharing_104 ?_
                refine wp_bp iX9_findSharing_105 (by decide) ?_
                refine wp_div iX9_findSharing_107 (by omega) ?_
                refine wp_v2f iX9_findSharing_108 ml_9_192 rfl rfl rfl rfl (htk) ?_
                refine wp_beq iX9_findSharing_111 (fun c_111 => ?_) (fun c_111 => ?_)
                · have hds := c_X9_daysOf L N2 hMN hWN warp (o % 12 + 1) (o / 12) (by rw [z7]; exact hvW) (by omega) (by rw [z0]; omega)
                  have hdb := sh_dos_bd hsw (v := o / 12) (a := warp) (n := o % 12 + 1) (by omega) (by omega) (by omega)
                  rw [z58, z1, z61, z62, ← eo12] at hds
                  have edos : sh_dos (M 58) (M 56 1).toNat (M 61) (M 62) (o / 12) warp (o % 12 + 1) = dosM M (o / 12) warp (o % 12 + 1) := rfl
                  rw [edos] at hds hdb
                  obtain ⟨ds, hdse⟩ : ∃ ds, ds = dosM M (o / 12) warp (o % 12 + 1) := ⟨_, rfl⟩
                  rw [← hdse] at hds hdb skip
                  refine wp_al0 iX9_findSharing_117 ?_
                  refine wp_al0 iX9_findSharing_118 ?_
                  refine wp_gR iX9_findSharing_119 fr_9_99 rfl rfl rfl ?_
                  refine wp_il1 iX9_findSharing_122 ?_
                  refine wp_ia iX9_findSharing_123 rfl (by omega) ?_
                  rw [tl, e82']
                  refine wp_il3 iX9_findSharing_124 ?_
                  refine wp_il2 iX9_findSharing_125 ?_
                  refine wp_bp iX9_findSharing_126 (by decide) ?_
                  refine wp_div iX9_findSharing_128 (by omega) ?_
                  refine wp_v3f iX9_findSharing_129 ml_9_195 rfl rfl rfl rfl (hds) ?_
                  refine wp_is5 iX9_findSharing_132 ?_
                  refine wp_il5 iX9_findSharing_134 ?_
                  refine wp_zne iX9_findSharing_136 (fun c_136 => ?_) (fun c_136 => ?_)
                  · refine wp_il5 iX9_findSharing_142 ?_
                    refine wp_al0 iX9_findSharing_144 ?_
                    refine wp_gR iX9_findSharing_145 fr_9_102 rfl rfl rfl ?_
                    refine wp_il1 iX9_findSharing_148 ?_
                    refine wp_ia iX9_findSharing_149 rfl (by omega) ?_
                    rw [tl, e83']
                    have hmb : 0 ≤ sh_mx so ds ∧ sh_mx so ds ≤ 400 := by unfold sh_mx; split <;> omega
                    have rest : ∀ v6, wp L 3 mX9_findSharing 164 [some (.inr 56), some (.inl (pre.length : Int)), some (.inl (o : Int)), some (.inl ((o % 12 + 1 : Nat) : Int)), some (.inl ((warp : Int) + ((o % 12 + 1 : Nat) : Int))), some (.inl ds), v6] [.inl (sh_mx so ds)] N2 Q := by
                      intro v6
                      generalize hmxe : sh_mx so ds = mx at *
                      obtain ⟨r1, r2, r3, r4⟩ := id hb2
                      refine wp_is5 iX9_findSharing_164 ?_
                      refine wp_al0 iX9_findSharing_166 ?_
                      refine wp_gI iX9_findSharing_167 fi_9_186 rfl ?_
                      rw [r1]
                      -- behind the pruning
                      have go : ¬ (bb.1 < mx) → ∀ v6, wp L 3 mX9_findSharing 185 [some (.inr 56), some (.inl (pre.length : Int)), some (.inl (o : Int)), some (.inl ((o % 12 + 1 : Nat) : Int)), some (.inl ((warp : Int) + ((o % 12 + 1 : Nat) : Int))), some (.inl mx), v6] [] N2 Q := by
                        intro hnp v6
                        have hst : sh_stp (M 56 0).toNat (dosM M) (sh_go (M 56 0).toNat (M 56 7).toNat (dosM M) k) warp so pre bb o = sh_go (M 56 0).toNat (M 56 7).toNat (dosM M) k (warp + (o % 12 + 1)) mx (pre ++ [(o / 12, o % 12 + 1)]) bb := by
                          unfold sh_stp
                          rw [← hdse, hmxe, if_neg (by
                            rintro (q | q | q | q)
                            · omega
                            · exact c_111 q
                            · exact c_136 q
                            · exact hnp q)]
                        rw [hst] at nxt
                        refine wp_il4 iX9_findSharing_185 ?_
                        refine wp_al0 iX9_findSharing_187 ?_
                        refine wp_gI iX9_findSharing_188 fi_9_7 rfl ?_
                        rw [z0]
                        refine wp_cne iX9_findSharing_191 (fun c_191 => ?_) (fun c_191 => ?_)
                        · -- one level down
                          refine wp_ii1 iX9_findSharing_274 (by omega) ?_
                          refine wp_al0 iX9_findSharing_277 ?_
                          refine wp_gR iX9_findSharing_278 fr_9_96 rfl rfl rfl ?_
                          refine wp_il1 iX9_findSharing_281 ?_
                          refine wp_ic iX9_findSharing_282 (by decide) ?_
                          refine wp_is iX9_findSharing_283 rfl rfl (by omega) ?_
                          refine wp_al0 iX9_findSharing_284 ?_
                          refine wp_gR iX9_findSharing_285 fr_9_99 rfl rfl rfl ?_
                          refine wp_il1 iX9_findSharing_288 ?_
                          refine wp_il4 iX9_findSharing_289 ?_
                          refine wp_is iX9_findSharing_291 rfl rfl (by omega) ?_
                          refine wp_al0 iX9_findSharing_292 ?_
                          refine wp_gR iX9_findSharing_293 fr_9_102 rfl rfl rfl ?_
                          refine wp_il1 iX9_findSharing_296 ?_
                          refine wp_il5 iX9_findSharing_297 ?_
                          refine wp_is iX9_findSharing_299 rfl rfl (by omega) ?_
                          refine wp_goto iX9_findSharing_300 ?_
                          have tl1 : ((pre.length : Int) + 1).toNat = pre.length + 1 := by omega
                          rw [tl1]
                          obtain ⟨N3, hN3⟩ : ∃ N3, N3 = ab_up (ab_up (ab_up N2 81 (pre.length + 1) (-1)) 82 (pre.length + 1) ((warp : Int) + ((o % 12 + 1 : Nat) : Int))) 83 (pre.length + 1) mx := ⟨_, rfl⟩
                          rw [← hN3]
                          have f81 : N3 81 = ab_u1 (N2 81) (pre.length + 1) (-1) := by rw [hN3, ab_up_ne _ _ _ (by decide), ab_up_ne _ _ _ (by decide), ab_up_self]
                          have f82 : N3 82 = ab_u1 (N2 82) (pre.length + 1) ((warp : Int) + ((o % 12 + 1 : Nat) : Int)) := by rw [hN3, ab_up_ne _ _ _ (by decide), ab_up_self, ab_up_ne _ _ _ (by decide)]
                          have f83 : N3 83 = ab_u1 (N2 83) (pre.length + 1) mx := by rw [hN3, ab_up_self, ab_up_ne _ _ _ (by decide), ab_up_ne _ _ _ (by decide)]
                          have fo : ∀ a, a ≠ 81 → a ≠ 82 → a ≠ 83 → N3 a = N2 a := fun a b1 b2 b3 => by rw [hN3, ab_up_ne _ _ _ b3, ab_up_ne _ _ _ b2, ab_up_ne _ _ _ b1]
                          have hf23 : fsM pre.length N2 N3 := ⟨⟨fun a b1 b2 b3 b4 b5 => fo a b2 b3 b4, fun j _ _ => by rw [fo 56 (by decide) (by decide) (by decide)]⟩, fun i hi => by rw [f81, ab_u1_ne _ _ (by omega)], fun i hi => ⟨by rw [f82, ab_u1_ne _ _ (by omega)], by rw [f83, ab_u1_ne _ _ (by omega)]⟩⟩
                          have e3 : N3 81 pre.length = (o : Int) := by rw [f81, ab_u1_ne _ _ (by omega)]; exact e2
                          have hp3 : rpM N3 (pre ++ [(o / 12, o % 12 + 1)]) := (hp2.fr (fun i hi => hf23.2.1 i hi)).push _ _ hv4 (by omega) (by rw [e3]; omega)
                          have hl1 : (pre ++ [(o / 12, o % 12 + 1)]).length = pre.length + 1 := by simp
                          have hdeep := ih (pre ++ [(o / 12, o % 12 + 1)]) (warp + (o % 12 + 1)) mx bb N3 (by rw [hl1]; omega) (by omega) hmb (hg2.tr hf23.1) hp3 (by rw [hl1, f82, ab_u1_self]; omega) (by rw [hl1, f83, ab_u1_self]) (by rw [hl1, f81, ab_u1_self]) (hb2.fr (fo 56 (by decide) (by decide) (by decide)) (fo 84 (by decide) (by decide) (by decide))) Q
                          rw [hl1] at hdeep
                          have ecl : ((pre.length + 1 : Nat) : Int) = (pre.length : Int) + 1 := by omega
                          rw [ecl] at hdeep
                          refine hdeep (fun N4 hf4 hb4 v2 v3 v4 v5 v6 => ?_) _ _ _ _ _
                          rw [show (pre.length : Int) + 1 + -1 = (pre.length : Int) by omega]
                          exact nxt N4 (hf2.tr (hf23.tr (hf4.le (by omega)))) (by rw [hf4.2.1 pre.length (by omega)]; exact e3) hb4 hov _ _ _ _ _
                        · -- the loom is full
                          have hfull : warp + (o % 12 + 1) = (M 56 0).toNat := by omega
                          have hgo : sh_go (M 56 0).toNat (M 56 7).toNat (dosM M) k (warp + (o % 12 + 1)) mx (pre ++ [(o / 12, o % 12 + 1)]) bb = sh_upd bb (pre ++ [(o / 12, o % 12 + 1)]) mx := by
                            cases k with
                            | zero => simp only [sh_go]; rw [if_pos hfull]
                            | succ k => simp only [sh_go]; rw [if_pos hfull]
                          rw [hgo] at nxt
                          have hl1 : (pre ++ [(o / 12, o % 12 + 1)]).length = pre.length + 1 := by simp
                          have no : ¬ (mx < bb.1 ∨ (mx = bb.1 ∧ pre.length + 1 < bb.2.length)) → ∀ v2 v3 v4 v5 v6, wp L 3 mX9_findSharing 33 [some (.inr 56), some (.inl (pre.length : Int)), v2, v3, v4, v5, v6] [] N2 Q := by
                            intro q
                            refine nxt N2 hf2 e2 ?_ hov
                            unfold sh_upd
                            rw [hl1, if_neg q]
                            exact hb2
                          have yes : (mx < bb.1 ∨ (mx = bb.1 ∧ pre.length + 1 < bb.2.length)) → ∀ v6, wp L 3 mX9_findSharing 229 [some (.inr 56), some (.inl (pre.length : Int)), some (.inl (o : Int)), some (.inl ((o % 12 + 1 : Nat) : Int)), some (.inl ((warp : Int) + ((o % 12 + 1 : Nat) : Int))), some (.inl mx), v6] [] N2 Q := by
                            intro q v6
                            refine wp_al0 iX9_findSharing_229 ?_
                            refine wp_il5 iX9_findSharing_230 ?_
                            refine wp_pI iX9_findSharing_232 fp_9_189 rfl ?_
                            refine wp_al0 iX9_findSharing_235 ?_
                            refine wp_il1 iX9_findSharing_236 ?_
                            refine wp_ic iX9_findSharing_237 (by decide) ?_
                            refine wp_add iX9_findSharing_238 (by omega) ?_
                            refine wp_pI iX9_findSharing_239 fp_9_186 rfl ?_
                            refine wp_ic iX9_findSharing_242 (by decide) ?_
                            refine wp_is6 iX9_findSharing_243 ?_
                            obtain ⟨N3, hN3⟩ : ∃ N3, N3 = ab_up (ab_up N2 56 42 mx) 56 41 ((pre.length : Int) + 1) := ⟨_, rfl⟩
                            rw [← hN3]
                            have f56 : N3 56 = ab_u1 (ab_u1 (N2 56) 42 mx) 41 ((pre.length : Int) + 1) := by rw [hN3, ab_up_self, ab_up_self]
                            have fo : ∀ a, a ≠ 56 → N3 a = N2 a := fun a b1 => by rw [hN3, ab_up_ne _ _ _ b1, ab_up_ne _ _ _ b1]
                            refine fs_copy L N3 pre.length (by omega) Q _ _ _ _ (fun v6 => ?_)
                            rw [fo 81 (by decide), fo 84 (by decide)]
                            have hf3 : fsM pre.length N2 (ab_rw N3 84 (fun i => if i < pre.length + 1 then N2 81 i else N2 84 i)) := ⟨⟨fun a b1 b2 b3 b4 b5 => by rw [ab_rw_ne _ _ b5]; exact fo a b1, fun j b1 b2 => by rw [ab_rw_ne _ _ (by decide), f56, ab_u1_ne _ _ b1, ab_u1_ne _ _ b2]⟩, fun i hi => by rw [ab_rw_ne _ _ (by decide), fo 81 (by decide)], fun i hi => ⟨by rw [ab_rw_ne _ _ (by decide), fo 82 (by decide)], by rw [ab_rw_ne _ _ (by decide), fo 83 (by decide)]⟩⟩
                            refine nxt _ (hf2.tr hf3) (by rw [ab_rw_ne _ _ (by decide), fo 81 (by decide)]; exact e2) ?_ hov _ _ _ _ _
                            unfold sh_upd
                            rw [hl1, if_pos q]
                            refine ⟨?_, fun z => ?_, fun _ => ?_, fun i r hr => ?_⟩
                            · show ab_rw N3 84 _ 56 41 = (((pre ++ [(o / 12, o % 12 + 1)]).length : Nat) : Int)
                              rw [ab_rw_ne _ _ (by decide), f56, ab_u1_self, hl1]
                              omega
                            · exfalso
                              have : (pre ++ [(o / 12, o % 12 + 1)]).length = 0 := z
                              omega
                            · rw [ab_rw_ne _ _ (by decide), f56, ab_u1_ne _ _ (by decide), ab_u1_self]
                            · have hr : (pre ++ [(o / 12, o % 12 + 1)])[i]? = some r := hr
                              have hi := (List.getElem?_eq_some_iff.mp hr).1
                              rw [ab_rw_self, if_pos (by omega)]
                              have hp3 : rpM N2 (pre ++ [(o / 12, o % 12 + 1)]) := hp2.push _ _ hv4 (by omega) (by rw [e2]; omega)
                              exact hp3 i r hr
                          refine wp_al0 iX9_findSharing_194 ?_
                          refine wp_gI iX9_findSharing_195 fi_9_186 rfl ?_
                          rw [r1]
                          refine wp_zeq iX9_findSharing_198 (fun c_198 => ?_) (fun c_198 => ?_)
                          · exact yes (Or.inl (by have := r2 (by omega); omega)) _
                          · have r3' := r3 (by omega)
                            refine wp_il5 iX9_findSharing_201 ?_
                            refine wp_al0 iX9_findSharing_203 ?_
                            refine wp_gI iX9_findSharing_204 fi_9_189 rfl ?_
                            rw [r3']
                            refine wp_clt iX9_findSharing_207 (fun c_207 => ?_) (fun c_207 => ?_)
                            · exact yes (Or.inl c_207) _
                            · refine wp_il5 iX9_findSharing_210 ?_
                              refine wp_al0 iX9_findSharing_212 ?_
                              refine wp_gI iX9_findSharing_213 fi_9_189 rfl ?_
                              rw [r3']
                              refine wp_cne iX9_findSharing_216 (fun c_216 => ?_) (fun c_216 => ?_)
                              · exact no (by omega) _ _ _ _ _
                              · refine wp_il1 iX9_findSharing_219 ?_
                                refine wp_ic iX9_findSharing_220 (by decide) ?_
                                refine wp_add iX9_findSharing_221 (by omega) ?_
                                refine wp_al0 iX9_findSharing_222 ?_
                                refine wp_gI iX9_findSharing_223 fi_9_186 rfl ?_
                                rw [r1]
                                refine wp_cge iX9_findSharing_226 (fun c_226 => ?_) (fun c_226 => ?_)
                                · exact no (by omega) _ _ _ _ _
                                · exact yes (Or.inr ⟨c_216, by omega⟩) _
                      refine wp_zle iX9_findSharing_170 (fun c_170 => ?_) (fun c_170 => ?_)
                      · exact go (by have := r2 (by omega); omega) _
                      · have r3' := r3 (by omega)
                        refine wp_il5 iX9_findSharing_173 ?_
                        refine wp_al0 iX9_findSharing_175 ?_
                        refine wp_gI iX9_findSharing_176 fi_9_189 rfl ?_
                        rw [r3']
                        refine wp_cle iX9_findSharing_179 (fun c_179 => ?_) (fun c_179 => ?_)
                        · exact go (by omega) _
                        · refine wp_goto iX9_findSharing_182 ?_
                          exact skip (Or.inr (Or.inr (Or.inr (by omega)))) _ _ _ _ _
                    refine wp_cle iX9_findSharing_150 (fun c_150 => ?_) (fun c_150 => ?_)
                    · refine wp_al0 iX9_findSharing_158 ?_
                      refine wp_gR iX9_findSharing_159 fr_9_102 rfl rfl rfl ?_
                      refine wp_il1 iX9_findSharing_162 ?_
                      refine wp_ia iX9_findSharing_163 rfl (by omega) ?_
                      rw [tl, e83']
                      have := rest v6
                      rw [show sh_mx so ds = so by unfold sh_mx; rw [if_neg (by omega)]] at this
                      exact this
                    · refine wp_il5 iX9_findSharing_153 ?_
                      refine wp_goto iX9_findSharing_155 ?_
                      have := rest v6
                      rw [show sh_mx so ds = ds by unfold sh_mx; rw [if_pos (by omega)]] at this
                      exact this
                  · refine wp_goto iX9_findSharing_139 ?_
                    exact skip (Or.inr (Or.inr (Or.inl c_136))) _ _ _ _ _
                · refine wp_goto iX9_findSharing_114 ?_
                  exact skip (Or.inr (Or.inl c_111)) _ _ _ _ _
            · exact back (by omega) _ _ _ _ _
    exact key _ 0 N rfl (by omega) ⟨⟨fun _ _ _ _ _ _ => rfl, fun _ _ _ => rfl⟩, fun _ _ => rfl, fun _ _ => ⟨rfl, rfl⟩⟩ (by rw [e81]; rfl) hb
end FindM
