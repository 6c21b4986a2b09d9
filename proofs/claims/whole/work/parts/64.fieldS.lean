/-! ===== FIELDS: what both sides find, and that there is but one ===== -/
abbrev onB (C R a : Nat) : Prop := a % 12 < C ∧ a / 12 < R
def adj (C R : Nat) (col : Nat → Int) (a b : Nat) : Prop := onB C R a ∧ onB C R b ∧ col a = col b ∧ ((a / 12 = b / 12 ∧ (a % 12 = b % 12 + 1 ∨ b % 12 = a % 12 + 1)) ∨ (a % 12 = b % 12 ∧ (a / 12 = b / 12 + 1 ∨ b / 12 = a / 12 + 1)))
def Cn (C R : Nat) (col : Nat → Int) (a b : Nat) : Prop := ∀ P : Nat → Prop, P a → (∀ x y, adj C R col x y → P x → P y) → P b
section FieldS
variable {C R : Nat} {col : Nat → Int}
theorem adj.sym {a b : Nat} (h : adj C R col a b) : adj C R col b a := by
  obtain ⟨h1, h2, h3, h4⟩ := h
  refine ⟨h2, h1, h3.symm, ?_⟩
  omega
theorem Cn.rf (a : Nat) : Cn C R col a a := fun P h _ => h
theorem Cn.tr {a b c : Nat} (h1 : Cn C R col a b) (h2 : Cn C R col b c) : Cn C R col a c := fun P h hs => h2 P (h1 P h hs) hs
theorem Cn.ad {a b : Nat} (h : adj C R col a b) : Cn C R col a b := fun P hp hs => hs a b h hp
theorem Cn.sym {a b : Nat} (h : Cn C R col a b) : Cn C R col b a := h (fun z => Cn C R col z a) (Cn.rf a) (fun _ _ hxy hx => (Cn.ad hxy.sym).tr hx)
theorem Cn.const {α : Type} {fl : Nat → α} (hf : ∀ a b, adj C R col a b → fl a = fl b) {a b : Nat} (h : Cn C R col a b) : fl a = fl b := h (fun z => fl a = fl z) rfl (fun x y hxy hx => hx.trans (hf x y hxy))
theorem Cn.cl {a b : Nat} (h : Cn C R col a b) : col a = col b := h.const (fl := col) (fun _ _ h => h.2.2.1)
end FieldS
def isF (C R : Nat) (col : Nat → Int) (n : Nat) (xs fl : Nat → Nat) : Prop :=
  (∀ f, f < n → onB C R (xs f) ∧ fl (xs f) = f) ∧ (∀ f g, f < g → g < n → xs f < xs g) ∧ (∀ a, onB C R a → fl a < n ∧ xs (fl a) ≤ a ∧ Cn C R col a (xs (fl a))) ∧ ∀ a b, adj C R col a b → fl a = fl b
theorem isF_rep {C R : Nat} {col : Nat → Int} {n n' : Nat} {xs fl xs' fl' : Nat → Nat} (h : isF C R col n xs fl) (h' : isF C R col n' xs' fl') {a : Nat} (ha : onB C R a) : xs (fl a) ≤ xs' (fl' a) := by
  obtain ⟨a1, a2, a3, a4⟩ := h
  obtain ⟨b1, b2, b3, b4⟩ := h'
  have q := b3 a ha
  have q2 := b1 (fl' a) q.1
  have e : fl a = fl (xs' (fl' a)) := q.2.2.const (fl := fl) a4
  rw [e]
  exact (a3 _ q2.1).2.1
theorem isF_sub {C R : Nat} {col : Nat → Int} {n n' : Nat} {xs fl xs' fl' : Nat → Nat} (h : isF C R col n xs fl) (h' : isF C R col n' xs' fl') : ∀ f, f < n → f < n' ∧ xs f = xs' f := by
  have rep : ∀ a, onB C R a → xs (fl a) = xs' (fl' a) := fun a ha => Nat.le_antisymm (isF_rep h h' ha) (isF_rep h' h ha)
  obtain ⟨a1, a2, a3, a4⟩ := h
  obtain ⟨b1, b2, b3, b4⟩ := h'
  intro f
  induction f using Nat.strongRecOn with
  | ind f ih =>
    intro hf
    have q := a1 f hf
    have e := rep _ q.1
    rw [q.2] at e
    have g1 := (b3 _ q.1).1
    have hge : f ≤ fl' (xs f) := by
      by_cases z : f ≤ fl' (xs f)
      · exact z
      · exfalso
        have y := ih (fl' (xs f)) (by omega) (by omega)
        have := a2 (fl' (xs f)) f (by omega) hf
        omega
    have hfn : f < n' := by omega
    refine ⟨hfn, ?_⟩
    have le1 : xs' f ≤ xs f := by
      by_cases z : f = fl' (xs f)
      · rw [← z] at e; omega
      · have := b2 f (fl' (xs f)) (by omega) g1; omega
    have q' := b1 f hfn
    have e' := rep _ q'.1
    rw [q'.2] at e'
    have g1' := (a3 _ q'.1).1
    have hge' : f ≤ fl (xs' f) := by
      by_cases z : f ≤ fl (xs' f)
      · exact z
      · exfalso
        have y := ih (fl (xs' f)) (by omega) (by omega)
        have := b2 (fl (xs' f)) f (by omega) hfn
        omega
    have le2 : xs f ≤ xs' f := by
      by_cases z : f = fl (xs' f)
      · rw [← z] at e'; omega
      · have := a2 f (fl (xs' f)) (by omega) g1'; omega
    omega
theorem isF_uq {C R : Nat} {col : Nat → Int} {n n' : Nat} {xs fl xs' fl' : Nat → Nat} (h : isF C R col n xs fl) (h' : isF C R col n' xs' fl') : n = n' ∧ (∀ f, f < n → xs f = xs' f) ∧ ∀ a, onB C R a → fl a = fl' a := by
  have s1 := isF_sub h h'
  have s2 := isF_sub h' h
  have hn : n = n' := by
    rcases Nat.lt_trichotomy n n' with z | z | z
    · have := (s2 n z).1; omega
    · exact z
    · have := (s1 n' z).1; omega
  refine ⟨hn, fun f hf => (s1 f hf).2, fun a ha => ?_⟩
  have rep : xs (fl a) = xs' (fl' a) := Nat.le_antisymm (isF_rep h h' ha) (isF_rep h' h ha)
  have q := (h.2.2.1 a ha).1
  have q' := (h'.2.2.1 a ha).1
  have e := (s2 (fl' a) q').2
  rcases Nat.lt_trichotomy (fl a) (fl' a) with z | z | z
  · have := h.2.1 _ _ z (by omega); omega
  · exact z
  · have := h.2.1 _ _ z (by omega); omega
def sd1 (C R : Nat) (col : Nat → Int) (x : Int) (w p : Int) : Int := if ((0 ≤ w ∧ w < C) ∧ 0 ≤ p ∧ p < R) ∧ ¬ col (12 * p + w).toNat = x then 1 else 0
def sds (C R : Nat) (col : Nat → Int) (a : Nat) : Int := sd1 C R col (col a) (((a % 12 : Nat) : Int) - 1) ((a / 12 : Nat) : Int) + sd1 C R col (col a) (((a % 12 : Nat) : Int) + 1) ((a / 12 : Nat) : Int) + sd1 C R col (col a) ((a % 12 : Nat) : Int) (((a / 12 : Nat) : Int) - 1) + sd1 C R col (col a) ((a % 12 : Nat) : Int) (((a / 12 : Nat) : Int) + 1)
def fArea (C R : Nat) (fl : Nat → Nat) (f : Nat) : Int := sm (fun a => if onB C R a ∧ fl a = f then 1 else 0) 120
def fYarn (C R : Nat) (col : Nat → Int) (fl : Nat → Nat) (f : Nat) : Int := sm (fun a => if onB C R a ∧ fl a = f then 2 + sds C R col a else 0) 120
def fPlc (C : Nat) (x : Nat) : Int := ((x / 12 : Nat) : Int) * (C : Int) + ((x % 12 : Nat) : Int)
theorem fArea_uq {C R : Nat} {fl fl' : Nat → Nat} (h : ∀ a, onB C R a → fl a = fl' a) (f : Nat) : fArea C R fl f = fArea C R fl' f := sm_congr _ (fun a _ => by
  by_cases ha : onB C R a
  · rw [h a ha]
  · rw [if_neg (fun z => ha z.1), if_neg (fun z => ha z.1)])
theorem fYarn_uq {C R : Nat} {col : Nat → Int} {fl fl' : Nat → Nat} (h : ∀ a, onB C R a → fl a = fl' a) (f : Nat) : fYarn C R col fl f = fYarn C R col fl' f := sm_congr _ (fun a _ => by
  by_cases ha : onB C R a
  · rw [h a ha]
  · rw [if_neg (fun z => ha z.1), if_neg (fun z => ha z.1)])
theorem sd1_bd (C R : Nat) (col : Nat → Int) (x w p : Int) : 0 ≤ sd1 C R col x w p ∧ sd1 C R col x w p ≤ 1 := by unfold sd1; split <;> omega
theorem sds_bd (C R : Nat) (col : Nat → Int) (a : Nat) : 0 ≤ sds C R col a ∧ sds C R col a ≤ 4 := by
  have h1 := sd1_bd C R col (col a) (((a % 12 : Nat) : Int) - 1) ((a / 12 : Nat) : Int)
  have h2 := sd1_bd C R col (col a) (((a % 12 : Nat) : Int) + 1) ((a / 12 : Nat) : Int)
  have h3 := sd1_bd C R col (col a) ((a % 12 : Nat) : Int) (((a / 12 : Nat) : Int) - 1)
  have h4 := sd1_bd C R col (col a) ((a % 12 : Nat) : Int) (((a / 12 : Nat) : Int) + 1)
  unfold sds
  omega
/-- one more with the value f at a place that had another -/
theorem sm_one (u u' : Nat → Int) (x : Nat) (d : Int) (hx : u' x = u x + d) (ho : ∀ a, a ≠ x → u' a = u a) : ∀ n, sm u' n = sm u n + (if x < n then d else 0)
  | 0 => by simp [sm]
  | n + 1 => by
    have ih := sm_one u u' x d hx ho n
    show sm u' n + u' n = sm u n + u n + _
    by_cases hn : n = x
    · subst hn
      rw [hx, ih, if_neg (by omega), if_pos (by omega)]
      omega
    · rw [ho n hn, ih]
      by_cases hlt : x < n
      · rw [if_pos hlt, if_pos (by omega)]; omega
      · rw [if_neg hlt, if_neg (by omega)]; omega
