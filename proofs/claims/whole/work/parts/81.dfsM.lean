/-! ===== DEALING of the reference: the search's memory ===== -/
def nz (m : Nat) (z : Int) : Nat := if z < 0 then 5 else if z < (m : Int) then z.toNat else 4
theorem nz_eq {m : Nat} {z : Int} (h : 0 ≤ z) : nz m z = if z < (m : Int) then z.toNat else 4 := by
  unfold nz
  rw [if_neg (by omega)]
theorem nz_pos {m : Nat} {z : Int} (hm : m ≤ 4) (h : nz m z < m ∨ nz m z = 4) : 0 ≤ z := by
  unfold nz at h
  split at h <;> omega
def dfr (M1 N : ab_Me) : Prop := (∀ a, a ≠ 78 → a ≠ 79 → a ≠ 80 → a ≠ 56 → N a = M1 a) ∧ ∀ s, s ≠ 36 → N 56 s = M1 56 s
def slT (n : Nat) (y : Nat → Int) (row : Nat → Int) (l : Nat) (i : Nat) : Int := if row i = (l : Int) then y (n - 1 - i) else 0
def sdT (m n : Nat) (y : Nat → Int) (row : Nat → Int) (i : Nat) : Int := if 0 ≤ row i ∧ row i < (m : Int) then y (n - 1 - i) else 0
def dst (m n : Nat) (c y : Nat → Int) (M1 : ab_Me) (D d : Nat) (N : ab_Me) (dl : Int) : Prop :=
  dfr M1 N ∧ (∀ i, i < d → 0 ≤ N 79 i) ∧ (∀ i, i < D → -1 ≤ N 79 i ∧ N 79 i ≤ (m : Int)) ∧ (∀ l, l < m → N 78 l = c l - sm (slT n y (N 79) l) D ∧ 0 ≤ N 78 l) ∧ dl = sm (sdT m n y (N 79)) D
def sO (m n : Nat) (N : ab_Me) : Int × (Nat → Nat) := (N 56 36, fun k => nz m (N 80 (n - 1 - k)))
def en (m : Nat) (N : ab_Me) (i : Nat) : Nat := nz m (N 79 i)
section Dst
variable {m n : Nat} {c y : Nat → Int} {M1 N : ab_Me} {d : Nat} {dl : Int}
theorem sl_cg {row row' : Nat → Int} {d : Nat} (h : ∀ i, i < d → row' i = row i) (l : Nat) : sm (slT n y row' l) d = sm (slT n y row l) d := sm_congr d (fun i hi => by unfold slT; rw [h i hi])
theorem sd_cg {row row' : Nat → Int} {d : Nat} (h : ∀ i, i < d → row' i = row i) : sm (sdT m n y row') d = sm (sdT m n y row) d := sm_congr d (fun i hi => by unfold sdT; rw [h i hi])
theorem sl_s (row : Nat → Int) (l d : Nat) : sm (slT n y row l) (d + 1) = sm (slT n y row l) d + slT n y row l d := rfl
theorem sd_s (row : Nat → Int) (d : Nat) : sm (sdT m n y row) (d + 1) = sm (sdT m n y row) d + sdT m n y row d := rfl
theorem dst_skip (h : dst m n c y M1 (d + 1) d N dl) (hw : N 79 d < 0 ∨ (m : Int) ≤ N 79 d) : dst m n c y M1 d d N dl := by
  obtain ⟨h1, h2, h3, h4, h5⟩ := h
  refine ⟨h1, h2, fun i hi => h3 i (by omega), fun l hl => ?_, ?_⟩
  · have := h4 l hl
    rw [sl_s] at this
    have z : slT n y (N 79) l d = 0 := by unfold slT; rw [if_neg (by omega)]
    rw [z] at this
    exact ⟨by omega, this.2⟩
  · rw [sd_s] at h5
    have z : sdT m n y (N 79) d = 0 := by unfold sdT; rw [if_neg (by omega)]
    rw [z] at h5
    omega
theorem dst_back (hy : 0 ≤ y (n - 1 - d)) (h : dst m n c y M1 (d + 1) d N dl) (h0 : 0 ≤ N 79 d) (hw : N 79 d < (m : Int)) : dst m n c y M1 d d (ab_up N 78 (N 79 d).toNat (N 78 (N 79 d).toNat + y (n - 1 - d))) (dl - y (n - 1 - d)) := by
  obtain ⟨⟨h1, h1'⟩, h2, h3, h4, h5⟩ := h
  have e79 : ab_up N 78 (N 79 d).toNat (N 78 (N 79 d).toNat + y (n - 1 - d)) 79 = N 79 := ab_up_ne _ _ _ (by decide)
  refine ⟨⟨fun a a1 a2 a3 a4 => ?_, fun s hs => ?_⟩, ?_, ?_, fun l hl => ?_, ?_⟩
  · rw [ab_up_ne _ _ _ a1]; exact h1 a a1 a2 a3 a4
  · rw [ab_up_ne _ _ _ (by decide)]; exact h1' s hs
  · rw [e79]; exact h2
  · rw [e79]; exact fun i hi => h3 i (by omega)
  · rw [e79, ab_up_self]
    have q := h4 l hl
    rw [sl_s] at q
    by_cases z : l = (N 79 d).toNat
    · subst z
      rw [ab_u1_self]
      have z : slT n y (N 79) (N 79 d).toNat d = y (n - 1 - d) := by unfold slT; rw [if_pos (by omega)]
      rw [z] at q
      exact ⟨by omega, by omega⟩
    · rw [ab_u1_ne _ _ z]
      have z : slT n y (N 79) l d = 0 := by unfold slT; rw [if_neg (by omega)]
      rw [z] at q
      exact ⟨by omega, q.2⟩
  · rw [e79]
    rw [sd_s] at h5
    have z : sdT m n y (N 79) d = y (n - 1 - d) := by unfold sdT; rw [if_pos ⟨h0, hw⟩]
    rw [z] at h5
    omega
theorem dst_none (h : dst m n c y M1 d d N dl) : dst m n c y M1 (d + 1) (d + 1) (ab_up N 79 d (m : Int)) dl := by
  obtain ⟨⟨h1, h1'⟩, h2, h3, h4, h5⟩ := h
  have cg : ∀ i, i < d → ab_up N 79 d (m : Int) 79 i = N 79 i := fun i hi => by rw [ab_up_self, ab_u1_ne _ _ (by omega)]
  have at' : ab_up N 79 d (m : Int) 79 d = (m : Int) := by rw [ab_up_self, ab_u1_self]
  refine ⟨⟨fun a a1 a2 a3 a4 => ?_, fun s hs => ?_⟩, fun i hi => ?_, fun i hi => ?_, fun l hl => ?_, ?_⟩
  · rw [ab_up_ne _ _ _ a2]; exact h1 a a1 a2 a3 a4
  · rw [ab_up_ne _ _ _ (by decide)]; exact h1' s hs
  · by_cases z : i = d
    · rw [z, at']; omega
    · rw [cg i (by omega)]; exact h2 i (by omega)
  · by_cases z : i = d
    · rw [z, at']; omega
    · rw [cg i (by omega)]; exact h3 i (by omega)
  · rw [sl_s, sl_cg cg, ab_up_ne _ _ _ (show (78 : Nat) ≠ 79 by decide)]
    have z : slT n y (ab_up N 79 d (m : Int) 79) l d = 0 := by unfold slT; rw [at', if_neg (by omega)]
    rw [z]
    have := h4 l hl
    exact ⟨by omega, this.2⟩
  · rw [sd_s, sd_cg cg]
    have z : sdT m n y (ab_up N 79 d (m : Int) 79) d = 0 := by unfold sdT; rw [at', if_neg (by omega)]
    rw [z]
    omega
theorem dst_pick {x : Nat} (hx : x < m) (hle : y (n - 1 - d) ≤ N 78 x) (h : dst m n c y M1 d d N dl) : dst m n c y M1 (d + 1) (d + 1) (ab_up (ab_up N 79 d (x : Int)) 78 x (N 78 x - y (n - 1 - d))) (dl + y (n - 1 - d)) := by
  obtain ⟨⟨h1, h1'⟩, h2, h3, h4, h5⟩ := h
  have e79 : ab_up (ab_up N 79 d (x : Int)) 78 x (N 78 x - y (n - 1 - d)) 79 = ab_u1 (N 79) d (x : Int) := by rw [ab_up_ne _ _ _ (by decide), ab_up_self]
  have cg : ∀ i, i < d → ab_u1 (N 79) d (x : Int) i = N 79 i := fun i hi => ab_u1_ne _ _ (by omega)
  have at' : ab_u1 (N 79) d (x : Int) d = (x : Int) := ab_u1_self _ _ _
  refine ⟨⟨fun a a1 a2 a3 a4 => ?_, fun s hs => ?_⟩, fun i hi => ?_, fun i hi => ?_, fun l hl => ?_, ?_⟩
  · rw [ab_up_ne _ _ _ a1, ab_up_ne _ _ _ a2]; exact h1 a a1 a2 a3 a4
  · rw [ab_up_ne _ _ _ (by decide), ab_up_ne _ _ _ (by decide)]; exact h1' s hs
  · rw [e79]
    by_cases z : i = d
    · rw [z, at']; omega
    · rw [cg i (by omega)]; exact h2 i (by omega)
  · rw [e79]
    by_cases z : i = d
    · rw [z, at']; omega
    · rw [cg i (by omega)]; exact h3 i (by omega)
  · rw [e79, sl_s, sl_cg cg, ab_up_self, ab_up_ne _ _ _ (show (78 : Nat) ≠ 79 by decide)]
    have q := h4 l hl
    by_cases z : l = x
    · subst z
      have z : slT n y (ab_u1 (N 79) d (l : Int)) l d = y (n - 1 - d) := by unfold slT; rw [at', if_pos rfl]
      rw [z, ab_u1_self]
      exact ⟨by omega, by omega⟩
    · have z2 : slT n y (ab_u1 (N 79) d (x : Int)) l d = 0 := by unfold slT; rw [at', if_neg (by omega)]
      rw [z2, ab_u1_ne _ _ z]
      exact ⟨by omega, q.2⟩
  · rw [e79, sd_s, sd_cg cg]
    have z : sdT m n y (ab_u1 (N 79) d (x : Int)) d = y (n - 1 - d) := by unfold sdT; rw [at', if_pos (by omega)]
    rw [z]
    omega
theorem dst_open (h : dst m n c y M1 d d N dl) : dst m n c y M1 (d + 1) d (ab_up N 79 d (-1)) dl := by
  obtain ⟨⟨h1, h1'⟩, h2, h3, h4, h5⟩ := h
  have cg : ∀ i, i < d → ab_up N 79 d (-1) 79 i = N 79 i := fun i hi => by rw [ab_up_self, ab_u1_ne _ _ (by omega)]
  have at' : ab_up N 79 d (-1) 79 d = -1 := by rw [ab_up_self, ab_u1_self]
  refine ⟨⟨fun a a1 a2 a3 a4 => ?_, fun s hs => ?_⟩, fun i hi => ?_, fun i hi => ?_, fun l hl => ?_, ?_⟩
  · rw [ab_up_ne _ _ _ a2]; exact h1 a a1 a2 a3 a4
  · rw [ab_up_ne _ _ _ (by decide)]; exact h1' s hs
  · rw [cg i (by omega)]; exact h2 i (by omega)
  · by_cases z : i = d
    · rw [z, at']; omega
    · rw [cg i (by omega)]; exact h3 i (by omega)
  · rw [sl_s, sl_cg cg, ab_up_ne _ _ _ (show (78 : Nat) ≠ 79 by decide)]
    have z : slT n y (ab_up N 79 d (-1) 79) l d = 0 := by unfold slT; rw [at', if_neg (by omega)]
    rw [z]
    have := h4 l hl
    exact ⟨by omega, this.2⟩
  · rw [sd_s, sd_cg cg]
    have z : sdT m n y (ab_up N 79 d (-1) 79) d = 0 := by unfold sdT; rw [at', if_neg (by omega)]
    rw [z]
    omega
theorem dst_low (h : dst m n c y M1 (d + 1) (d + 1) N dl) : dst m n c y M1 (d + 1) d N dl := ⟨h.1, fun i hi => h.2.1 i (by omega), h.2.2⟩
theorem nz_l {z : Int} (h0 : 0 ≤ z) (hm : m ≤ 4) {l : Nat} (hl : l < m) : nz m z = l ↔ z = (l : Int) := by
  rw [nz_eq h0]
  split <;> omega
theorem nz_m {z : Int} (h0 : 0 ≤ z) (hm : m ≤ 4) : nz m z < m ↔ 0 ≤ z ∧ z < (m : Int) := by
  rw [nz_eq h0]
  split <;> omega
theorem dst_sl (hm : m ≤ 4) (h : dst m n c y M1 d d N dl) {l : Nat} (hl : l < m) : sm (slT n y (N 79) l) d = sm (fun i => if en m N i = l then y (n - 1 - i) else 0) d := sm_congr d (fun i hi => by
  have := nz_l (h.2.1 i hi) hm hl
  unfold slT en
  by_cases z : N 79 i = (l : Int)
  · rw [if_pos z, if_pos (this.2 z)]
  · rw [if_neg z, if_neg (fun w => z (this.1 w))])
theorem dst_sd (hm : m ≤ 4) (h : dst m n c y M1 d d N dl) : dl = sm (fun i => if en m N i < m then y (n - 1 - i) else 0) d := by
  rw [h.2.2.2.2]
  refine sm_congr d (fun i hi => ?_)
  have := nz_m (h.2.1 i hi) hm
  unfold sdT en
  by_cases z : 0 ≤ N 79 i ∧ N 79 i < (m : Int)
  · rw [if_pos z, if_pos (this.2 z)]
  · rw [if_neg z, if_neg (fun w => z (this.1 w))]
theorem dst_bd (hn : n ≤ 8) (hy : ∀ k, k < n → 0 ≤ y k ∧ y k ≤ 720) {D : Nat} (hD : D ≤ n) (h : dst m n c y M1 D d N dl) : 0 ≤ dl ∧ dl ≤ 5760 := by
  rw [h.2.2.2.2]
  refine ⟨sm_nn D (fun i hi => ?_), Int.le_trans (sm_up_to (z := 720) D (fun i hi => ?_)) (by omega)⟩ <;> (unfold sdT; have := hy (n - 1 - i) (by omega); split <;> omega)
theorem dst_lb (hy : ∀ k, k < n → 0 ≤ y k ∧ y k ≤ 720) {D : Nat} (hD : D ≤ n) (h : dst m n c y M1 D d N dl) {l : Nat} (hl : l < m) : 0 ≤ N 78 l ∧ N 78 l ≤ c l := by
  have q := h.2.2.2.1 l hl
  have : 0 ≤ sm (slT n y (N 79) l) D := sm_nn D (fun i hi => by
    have := hy (n - 1 - i) (by omega)
    unfold slT
    split <;> omega)
  omega
theorem dst_cong {N2 : ab_Me} {D : Nat} (h : dst m n c y M1 D d N dl) (h78 : N2 78 = N 78) (h79 : N2 79 = N 79) (hf : dfr M1 N2) : dst m n c y M1 D d N2 dl := by
  refine ⟨hf, ?_⟩
  rw [h78, h79]
  exact h.2
theorem Xs_cg {e e' : Nat → Nat} {w : Int} {b : Nat → Nat} (h : Xs m n c y d e w b) (he : ∀ i, i < d → e i = e' i) : Xs m n c y d e' w b := ⟨h.1, fun i hi => by rw [← he i hi]; exact h.2.1 i hi, h.2.2⟩
theorem bR_cg {X X' : (Nat → Nat) → Prop} {s s' : Int × (Nat → Nat)} (h : bR m n c y X s s') (he : ∀ b, X b ↔ X' b) : bR m n c y X' s s' := by
  refine ⟨?_, fun b hb => h.2 b ((he b).2 hb)⟩
  rcases h.1 with z | ⟨z1, z2⟩
  · exact Or.inl z
  · exact Or.inr ⟨(he _).1 z1, z2⟩
/-- a full dealing is one -/
theorem dst_ok (hm : m ≤ 4) (hc : ∀ l, l < m → 0 ≤ c l) (h : dst m n c y M1 n n N dl) : dok m n c y (fun k => nz m (N 79 (n - 1 - k))) ∧ dl = dY m y (fun k => nz m (N 79 (n - 1 - k))) n := by
  refine ⟨⟨fun k hk => ?_, fun l hl => ?_⟩, ?_⟩
  · have := h.2.1 (n - 1 - k) (by omega)
    show nz m (N 79 (n - 1 - k)) < m ∨ nz m (N 79 (n - 1 - k)) = 4
    rw [nz_eq this]
    split
    · left; omega
    · right; rfl
  · rw [sm_rev]
    have q := h.2.2.2.1 l hl
    rw [dst_sl hm h hl] at q
    refine Int.le_trans (Int.le_of_eq (sm_congr n (g := fun i => if en m N i = l then y (n - 1 - i) else 0) (fun i hi => ?_))) (by omega)
    show (if nz m (N 79 (n - 1 - (n - 1 - i))) = l then y (n - 1 - i) else 0) = _
    rw [show n - 1 - (n - 1 - i) = i by omega]
    rfl
  · rw [dst_sd hm h]
    unfold dY
    rw [sm_rev (fun k => if nz m (N 79 (n - 1 - k)) < m then y k else 0)]
    refine sm_congr n (fun i hi => ?_)
    show _ = (if nz m (N 79 (n - 1 - (n - 1 - i))) < m then y (n - 1 - i) else 0)
    rw [show n - 1 - (n - 1 - i) = i by omega]
    rfl
end Dst
