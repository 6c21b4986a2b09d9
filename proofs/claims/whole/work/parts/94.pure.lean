/-! ===== THE LAW'S RUN ===== -/
theorem ab_Z_app {lay : List ab_CD} {M : ab_Me} (h : ab_Z (lay, M)) (c : ab_CD) : ab_Z (lay ++ [c], M) := by
  refine ⟨fun a cd ha k hk => ?_, fun a ha k => ?_⟩
  · by_cases q : a < lay.length
    · refine h.1 a cd ?_ k hk
      have ha : (lay ++ [c])[a]? = some cd := ha
      rw [List.getElem?_append_left q] at ha
      exact ha
    · exact h.2 a (by show lay.length ≤ a; omega) k
  · have ha : (lay ++ [c]).length ≤ a := ha
    rw [List.length_append] at ha
    exact h.2 a (by show lay.length ≤ a; omega) k
def mS (M0 : ab_Me) : ab_Me := kM_X9_init (kM_X8_init M0 1) 56
theorem Inv_0 (M0 : ab_Me) (hz : ∀ a k, a ≠ 0 → M0 a k = 0) : Inv 0 (mS M0) := by
  have e4 : ∀ k, mS M0 4 k = 0 := fun k => hz 4 k (by decide)
  have e6 : mS M0 6 = mS M0 59 := funext fun k => (hz 6 k (by decide)).trans (hz 59 k (by decide)).symm
  have e7 : ∀ k, mS M0 7 k = 0 := fun k => hz 7 k (by decide)
  have e7' : mS M0 7 = mS M0 60 := funext fun k => (hz 7 k (by decide)).trans (hz 60 k (by decide)).symm
  have e9 : ∀ k, mS M0 9 k = 0 := fun k => hz 9 k (by decide)
  have e9' : mS M0 9 = mS M0 61 := funext fun k => (hz 9 k (by decide)).trans (hz 61 k (by decide)).symm
  have e10 : ∀ k, mS M0 10 k = 0 := fun k => hz 10 k (by decide)
  have e10' : mS M0 10 = mS M0 62 := funext fun k => (hz 10 k (by decide)).trans (hz 62 k (by decide)).symm
  have e12 : ∀ k, mS M0 12 k = 0 := fun k => hz 12 k (by decide)
  have e12' : mS M0 12 = mS M0 63 := funext fun k => (hz 12 k (by decide)).trans (hz 63 k (by decide)).symm
  have e13 : ∀ k, mS M0 13 k = 0 := fun k => hz 13 k (by decide)
  have e13' : mS M0 13 = mS M0 64 := funext fun k => (hz 13 k (by decide)).trans (hz 64 k (by decide)).symm
  have e14 : ∀ k, mS M0 14 k = 0 := fun k => hz 14 k (by decide)
  have e14' : mS M0 14 = mS M0 65 := funext fun k => (hz 14 k (by decide)).trans (hz 65 k (by decide)).symm
  have e15 : ∀ k, mS M0 15 k = 0 := fun k => hz 15 k (by decide)
  have e15' : mS M0 15 = mS M0 66 := funext fun k => (hz 15 k (by decide)).trans (hz 66 k (by decide)).symm
  have e16 : ∀ k, mS M0 16 k = 0 := fun k => hz 16 k (by decide)
  have e17 : ∀ k, mS M0 17 k = 0 := fun k => hz 17 k (by decide)
  have e26 : ∀ k, mS M0 26 k = 0 := fun k => hz 26 k (by decide)
  have e57 : ∀ k, mS M0 57 k = 0 := fun k => hz 57 k (by decide)
  have e58 : ∀ k, mS M0 58 k = 0 := fun k => hz 58 k (by decide)
  have e68 : ∀ k, mS M0 68 k = 0 := fun k => hz 68 k (by decide)
  have e85 : ∀ k, mS M0 85 k = 0 := fun k => hz 85 k (by decide)
  have s30 : mS M0 3 0 = 1 := rfl
  have s31 : mS M0 3 1 = 1 := rfl
  have s50 : mS M0 5 0 = 0 := rfl
  have s80 : mS M0 8 0 = 0 := rfl
  have s110 : mS M0 11 0 = 0 := rfl
  have s111 : mS M0 11 1 = 0 := rfl
  have s116 : mS M0 11 6 = 0 := rfl
  have s12 : mS M0 1 2 = 0 := rfl
  have s13 : mS M0 1 3 = 3 := rfl
  have s14 : mS M0 1 4 = 10 := rfl
  have t0 : mS M0 56 0 = 1 := rfl
  have t1 : mS M0 56 1 = 1 := rfl
  have t10 : mS M0 56 10 = 3 := rfl
  have t11 : mS M0 56 11 = 10 := rfl
  have t4 : mS M0 56 4 = 0 := hz 56 4 (by decide)
  have t7 : mS M0 56 7 = 0 := hz 56 7 (by decide)
  have t12 : mS M0 56 12 = 0 := hz 56 12 (by decide)
  have t13 : mS M0 56 13 = 0 := hz 56 13 (by decide)
  have t18 : mS M0 56 18 = 0 := hz 56 18 (by decide)
  have s52 : mS M0 52 0 = 0 := hz 52 0 (by decide)
  have s53 : mS M0 53 0 = 0 := hz 53 0 (by decide)
  generalize mS M0 = M at *
  refine ⟨⟨⟨⟨by omega, by omega, by omega, by omega, fun k => by rw [e4 k]; omega⟩, fun k _ => by rw [e4 k]; rfl⟩, ⟨by omega, fun l => by rw [e7 l]; omega⟩, ⟨⟨by omega, fun v hv => by omega, fun v => Or.inl (e10 v)⟩, fun k => by rw [e9 k]; omega⟩, ⟨by omega, by omega, ⟨by omega, by omega, fun _ => s111⟩, fun k => by rw [e12 k]; omega, fun k => by rw [e13 k, e14 k]; omega, fun k => by rw [e15 k]; omega, fun k => by rw [e16 k]; omega⟩, fun q => by omega⟩, ⟨by omega, by omega, fun k => by rw [e4 k, e57 k, e58 k]; rfl, fun k => by rw [e57 k]; omega, fun k => Or.inl (e58 k)⟩, ⟨by omega, e6, e7'⟩, ⟨by omega, e9', e10'⟩, ⟨by omega, ⟨e12', e13', e14', e15'⟩, fun q => by omega, by omega, by omega⟩, ⟨by omega, by omega⟩, ⟨Or.inl s12, by omega, fun k => Or.inl (e26 k), fun k => by rw [e68 k]; omega, fun q => by omega⟩, ⟨s52, s53⟩, fun k => by rw [e17 k]; omega, fun k => by rw [e85 k]; omega⟩
theorem ab_pure (L : Nat) (hL : L ≤ 3072) (M0 : Nat → Nat → Int) (hok : ∀ a k, ab_ok (M0 a k)) (hz : ∀ a k, a ≠ 0 → M0 a k = 0) (hzL : ∀ k, L ≤ k → M0 0 k = 0) : ∃ (n : Nat) (h' : ab_H), ab_run (ab_call 60) mL_law n 0 (ab_ent mL_law [.inr 0]) [] ([.inr (0, L)], M0) (some (.inl 1)) h' ∧ h'.1.length ≤ 1000 ∧ ab_nS h'.1 ≤ 200000 := by
  have hz1 : ∀ b, 1 ≤ b → ∀ j, M0 b j = 0 := fun b hb j => hz b j (by omega)
  have k8 := k_X8_init [.inr (0, L)] M0 1 rfl hz1
  have hz56 : ∀ b, 56 ≤ b → ∀ j, kM_X8_init M0 1 b j = 0 := fun b hb j => by rw [kM_X8_init_ne (by omega)]; exact hz1 b (by omega) j
  have k9 := k_X9_init (LAY L |>.take 56) (kM_X8_init M0 1) 56 rfl hz56
  have z0 : ab_Z ([.inr (0, L)], M0) := by
    refine ⟨fun a cd ha k hk => ?_, fun a ha k => hz a k (by have : 1 ≤ a := ha; omega)⟩
    by_cases q : a = 0
    · subst q
      have e : cd = .inr (0, L) := by simpa using ha.symm
      subst e
      exact hzL k hk
    · exact hz a k q
  have z1 := ab_call_zero _ _ _ _ _ _ k8 (ab_Z_app z0 _)
  have z2 := ab_call_zero _ _ _ _ _ _ k9 (ab_Z_app z1 _)
  have zM : Zm L (mS M0) := z2
  have e0 : mS M0 0 = M0 0 := rfl
  obtain ⟨n, r, M', e1, e2⟩ := law_loop (S0 := M0 0) L hL (fun k => (hok 0 k).2) _ 0 (mS M0) rfl zM (Inv_0 M0 hz) e0 rfl (by omega)
  subst e2
  have run18 : rn 60 mL_law 18 [some (.inr 0), some (.inr 1), some (.inr 56), some (.inl 0)] [] (LAY L, mS M0) (some (.inl 1)) (LAY L, M') := ⟨n, ab_run_mono (fun M as h r h' q => ab_call_mono (by decide) q) e1⟩
  have run0 : rn 60 mL_law 0 [some (.inr 0), none, none, none] [] ([.inr (0, L)] ++ [], M0) (some (.inl 1)) (LAY L, M') := by
    refine rn_new (N := 8) (b := 1) (a := 1) (t2 := [.inl (8, [0, 0, 0, 0, 0, 0, 0, 0])]) iL_law_0 cl_L_7 rfl (by decide) rfl rfl (hz1 1 (by omega)) rfl ?_
    refine rn_dup iL_law_3 ?_
    refine rn_I (pre1 := []) (t1 := [.inl (8, [0, 0, 0, 0, 0, 0, 0, 0])]) (t2 := (LAY L |>.take 56).tail) iL_law_4 ml_L_9 rfl rfl rfl k8 rfl rfl ?_
    refine rn_as1 iL_law_7 ?_
    refine rn_new (N := 44) (b := 56) (a := 1) (t2 := (LAY L |>.take 56).tail ++ [.inl (9, List.replicate 44 0)]) iL_law_8 cl_L_10 rfl (by decide) rfl rfl (hz56 56 (by omega)) rfl ?_
    refine rn_dup iL_law_11 ?_
    refine rn_I (pre1 := (LAY L |>.take 56).tail) (t1 := [.inl (9, List.replicate 44 0)]) (t2 := (LAY L).tail) iL_law_12 ml_L_12 rfl rfl rfl k9 rfl rfl ?_
    refine rn_as2 iL_law_15 ?_
    refine rn_ic iL_law_16 (by decide) ?_
    refine rn_is3 iL_law_17 ?_
    exact run18
  obtain ⟨n0, e⟩ := run0
  refine ⟨n0, _, e, ?_, ?_⟩
  · show (LAY L).length ≤ 1000
    have : (LAY L).length = 86 := rfl
    omega
  · have e : ab_nS (LAY L) = L + ((LAY 0).tail.map ab_sz).sum := rfl
    have e2 : ((LAY 0).tail.map ab_sz).sum ≤ 10000 := by decide
    show ab_nS (LAY L) ≤ 200000
    omega
