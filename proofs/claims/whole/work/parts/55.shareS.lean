/-! ===== THE SHARING: one search, for both sides ===== -/
abbrev sh_P : Type := List (Nat × Nat)
abbrev sh_B : Type := Int × sh_P
def sh_upd (b : sh_B) (pre : sh_P) (so : Int) : sh_B := if so < b.1 ∨ (so = b.1 ∧ pre.length < b.2.length) then (so, pre) else b
def sh_used (pre : sh_P) (v : Nat) : Bool := pre.any (fun q => q.1 == v)
def sh_fld {α : Type} (f : α → Nat → α) (b : α) : Nat → α
  | 0 => b
  | n + 1 => f (sh_fld f b n) n
def sh_mx (so ds : Int) : Int := if so < ds then ds else so
/-- one choice, with what stands behind it (g) -/
def sh_stp (C : Nat) (dos : Nat → Nat → Nat → Int) (g : Nat → Int → sh_P → sh_B → sh_B) (warp : Nat) (so : Int) (pre : sh_P) (b : sh_B) (o : Nat) : sh_B :=
  if C < warp + (o % 12 + 1) ∨ sh_used pre (o / 12) = true ∨ dos (o / 12) warp (o % 12 + 1) = 0 ∨ b.1 < sh_mx so (dos (o / 12) warp (o % 12 + 1)) then b
  else g (warp + (o % 12 + 1)) (sh_mx so (dos (o / 12) warp (o % 12 + 1))) (pre ++ [(o / 12, o % 12 + 1)]) b
def sh_go (C W : Nat) (dos : Nat → Nat → Nat → Int) : Nat → Nat → Int → sh_P → sh_B → sh_B
  | 0, warp, so, pre, b => if warp = C then sh_upd b pre so else b
  | k + 1, warp, so, pre, b => if warp = C then sh_upd b pre so else sh_fld (sh_stp C dos (sh_go C W dos k) warp so pre) b (12 * W)
def sh_best (C W : Nat) (dos : Nat → Nat → Nat → Int) : sh_B := sh_go C W dos 4 0 0 [] (1000000, [])
/-- DAYS of a strip for a weaver; 0: it may not have it -/
def sh_dos (fac : Nat → Int) (R : Nat) (sp ms : Nat → Int) (v a n : Nat) : Int := if 0 < sm (fun i => sm (fun j => fac (12 * (j : Int) + ((a : Int) + (i : Int))).toNat) R) n ∧ ms v = 0 then 0 else (wb fac (a : Int) n R + sp v - 1) / sp v
theorem sh_fld_skip {α : Type} (f : α → Nat → α) (b : α) (a : Nat) : ∀ n, (∀ o, a ≤ o → o < a + n → ∀ c, f c o = c) → sh_fld f b (a + n) = sh_fld f b a
  | 0, _ => rfl
  | n + 1, h => by
    have := sh_fld_skip f b a n (fun o h1 h2 c => h o h1 (by omega) c)
    show f (sh_fld f b (a + n)) (a + n) = _
    rw [h (a + n) (by omega) (by omega), this]
theorem sm_mono (g : Nat → Int) (h : ∀ k, 0 ≤ g k) : ∀ n m, sm g n ≤ sm g (n + m)
  | n, 0 => Int.le_refl _
  | n, m + 1 => by
    have := sm_mono g h n m
    have h2 := h (n + m)
    show sm g n ≤ sm g (n + m) + g (n + m)
    omega
theorem wb_n (fac : Nat → Int) (a : Int) (P : Nat) (n : Nat) : wb fac a n P = sm (fun i => sm (fun j => cwk fac (a + (i : Int)) (j : Int)) P) n := (wkM_wb fac a n P).symm
/-- what may not be had stays so as the strip gets wider -/
theorem sh_dos_mono (fac : Nat → Int) (hf : ∀ k, fac k = 0 ∨ fac k = 1) (R : Nat) (sp ms : Nat → Int) (v a n m : Nat) (hs : 0 < sp v) (so D : Int) (h : sh_dos fac R sp ms v a n = 0 ∧ 0 < R ∧ 0 < n ∨ D < sh_mx so (sh_dos fac R sp ms v a n)) : sh_dos fac R sp ms v a (n + m) = 0 ∨ D < sh_mx so (sh_dos fac R sp ms v a (n + m)) := by
  have hfm := sm_mono (fun i => sm (fun j => fac (12 * (j : Int) + ((a : Int) + (i : Int))).toNat) R) (fun k => (sm_bd _ 1 (fun j => by have := hf (12 * (j : Int) + ((a : Int) + (k : Int))).toNat; omega) R).1) n m
  have hwm : wb fac (a : Int) n R ≤ wb fac (a : Int) (n + m) R := by
    rw [wb_n, wb_n]
    exact sm_mono _ (fun k => (sm_bd _ 3 (fun j => by have := cwk_bd fac hf ((a : Int) + (k : Int)) (j : Int); omega) R).1) n m
  have hw0 := wb_bd fac hf (a : Int) n R
  have hdm : (wb fac (a : Int) n R + sp v - 1) / sp v ≤ (wb fac (a : Int) (n + m) R + sp v - 1) / sp v := Int.ediv_le_ediv hs (by omega)
  have hdn : 0 ≤ (wb fac (a : Int) n R + sp v - 1) / sp v := Int.ediv_nonneg (by omega) (by omega)
  by_cases hz : 0 < sm (fun i => sm (fun j => fac (12 * (j : Int) + ((a : Int) + (i : Int))).toNat) R) (n + m) ∧ ms v = 0
  · left
    unfold sh_dos
    rw [if_pos hz]
  · have e2 : sh_dos fac R sp ms v a (n + m) = (wb fac (a : Int) (n + m) R + sp v - 1) / sp v := by unfold sh_dos; rw [if_neg hz]
    have e1 : sh_dos fac R sp ms v a n = (wb fac (a : Int) n R + sp v - 1) / sp v := by unfold sh_dos; rw [if_neg (by omega)]
    rcases h with ⟨h, hR, hn⟩ | h
    · exfalso
      rw [e1] at h
      have hw1 : 1 ≤ wb fac (a : Int) n R := by
        obtain ⟨R', rfl⟩ : ∃ R', R = R' + 1 := ⟨R - 1, by omega⟩
        obtain ⟨n', rfl⟩ : ∃ n', n = n' + 1 := ⟨n - 1, by omega⟩
        have h1 := wb_bd fac hf (a : Int) (n' + 1) R'
        have h2 := rs_bd fac hf (a : Int) n' ((R' : Nat) : Int)
        have h3 := cwk_bd fac hf ((a : Int) + ((n' : Nat) : Int)) ((R' : Nat) : Int)
        show 1 ≤ wb fac (a : Int) (n' + 1) R' + (rs fac (a : Int) n' ((R' : Nat) : Int) + cwk fac ((a : Int) + ((n' : Nat) : Int)) ((R' : Nat) : Int))
        omega
      have : 1 ≤ (wb fac (a : Int) n R + sp v - 1) / sp v := (Int.le_ediv_iff_mul_le hs).mpr (by omega)
      omega
    · right
      rw [e1] at h
      rw [e2]
      unfold sh_mx at h ⊢
      split at h <;> split <;> omega
/-- the bits of who is taken -/
def sh_mk (u : Nat → Bool) : Int := (if u 0 = true then 1 else 0) + (if u 1 = true then 2 else 0) + (if u 2 = true then 4 else 0) + (if u 3 = true then 8 else 0)
theorem sh_bit (u : Nat → Bool) (v : Nat) (hv : v < 4) : ab_b (fun a b => a &&& b) (ab_b (fun a b => a >>> (b &&& 31)) (sh_mk u) (v : Int)) 1 = if u v = true then 1 else 0 := by
  have hv4 : v = 0 ∨ v = 1 ∨ v = 2 ∨ v = 3 := by omega
  unfold sh_mk
  cases h0 : u 0 <;> cases h1 : u 1 <;> cases h2 : u 2 <;> cases h3 : u 3 <;> (rcases hv4 with rfl | rfl | rfl | rfl <;> simp only [h0, h1, h2, h3] <;> decide)
theorem sh_or (u : Nat → Bool) (v : Nat) (hv : v < 4) (hu : u v = false) : ab_b (fun a b => a ||| b) (sh_mk u) (ab_b (fun a b => a <<< (b &&& 31)) 1 (v : Int)) = sh_mk (fun w => u w || v == w) := by
  have hv4 : v = 0 ∨ v = 1 ∨ v = 2 ∨ v = 3 := by omega
  unfold sh_mk
  cases h0 : u 0 <;> cases h1 : u 1 <;> cases h2 : u 2 <;> cases h3 : u 3 <;> (rcases hv4 with rfl | rfl | rfl | rfl <;> first | (rw [hu] at h0; cases h0; done) | (rw [hu] at h1; cases h1; done) | (rw [hu] at h2; cases h2; done) | (rw [hu] at h3; cases h3; done) | (simp only [h0, h1, h2, h3] <;> decide))
theorem sh_used_app (pre : sh_P) (v n w : Nat) : sh_used (pre ++ [(v, n)]) w = (sh_used pre w || v == w) := by
  simp [sh_used]
