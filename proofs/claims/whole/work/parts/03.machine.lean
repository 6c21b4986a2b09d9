/-! ===== the small machine: ints are numbers in range, cells have small numbers, what is a reference in a field is in the layout ===== -/
abbrev ab_V : Type := Int ⊕ Nat
abbrev ab_CD : Type := (Nat × List Nat) ⊕ (Nat × Nat)
abbrev ab_H : Type := List ab_CD × (Nat → Nat → Int)
abbrev ab_L : Type := List (Option ab_V)
def ab_u1 (f : Nat → Int) (k : Nat) (z : Int) : Nat → Int := fun j => if j = k then z else f j
def ab_up (M : Nat → Nat → Int) (a k : Nat) (z : Int) : Nat → Nat → Int := fun a' => if a' = a then ab_u1 (M a) k z else M a'
def ab_rw (M : Nat → Nat → Int) (a : Nat) (f : Nat → Int) : Nat → Nat → Int := fun a' => if a' = a then f else M a'
def ab_isR (ci k : Nat) : Bool := match ab_ty ci k with
  | .object _ => true
  | .array _ => true
  | _ => false
def ab_gt (t : FieldType) : Bool := match t with
  | .int => true
  | .boolean => true
  | .object _ => true
  | .array _ => true
  | _ => false
def ab_ok (z : Int) : Prop := -2147483648 ≤ z ∧ z < 2147483648
def ab_b (f : Int32 → Int32 → Int32) (x y : Int) : Int := (f (Int32.ofInt x) (Int32.ofInt y)).toInt
def ab_cmp (c : Jvm.ClassFile.Cond) (x y : Int) : Bool := match c with
  | .eq => decide (x = y)
  | .ne => decide (¬ x = y)
  | .lt => decide (x < y)
  | .ge => decide (y ≤ x)
  | .gt => decide (y < x)
  | .le => decide (x ≤ y)
def ab_j (pc : Nat) (off : Int) : Option Nat := if 0 ≤ (pc : Int) + off then some ((pc : Int) + off).toNat else none
def ab_i1 {α : Type} (st : List ab_V) (k : Int → List ab_V → Option α) : Option α := match st with
  | .inl x :: r => k x r
  | _ => none
def ab_i2 {α : Type} (st : List ab_V) (k : Int → Int → List ab_V → Option α) : Option α := match st with
  | .inl y :: .inl x :: r => k x y r
  | _ => none
def ab_r1 {α : Type} (st : List ab_V) (k : Nat → List ab_V → Option α) : Option α := match st with
  | .inr x :: r => k x r
  | _ => none
abbrev ab_T : Type := Nat × ab_L × List ab_V
def ab_ldi (ls : ab_L) (k : Nat) (f : Int → Option ab_T) : Option ab_T := match ls[k]? with
  | some (some (.inl z)) => f z
  | _ => none
def ab_ldr (ls : ab_L) (k : Nat) (f : Nat → Option ab_T) : Option ab_T := match ls[k]? with
  | some (some (.inr z)) => f z
  | _ => none
def ab_bin (f : Int32 → Int32 → Int32) (len pc : Nat) (ls : ab_L) (st : List ab_V) : Option ab_T := if len = 1 then ab_i2 st fun x y r => some (pc + 1, ls, .inl (ab_b f x y) :: r) else none
def ab_ps (i : Instr) (len pc : Nat) (ls : ab_L) (st : List ab_V) : Option ab_T := match i with
  | .iconst z => if len = 1 ∧ -128 ≤ z ∧ z < 128 then some (pc + 1, ls, .inl z :: st) else none
  | .bipush z => if len = 2 ∧ -128 ≤ z ∧ z < 128 then some (pc + 2, ls, .inl z :: st) else none
  | .sipush z => if len = 3 ∧ -32768 ≤ z ∧ z < 32768 then some (pc + 3, ls, .inl z :: st) else none
  | .iload_n k => if len = 1 then ab_ldi ls k.val fun z => some (pc + 1, ls, .inl z :: st) else none
  | .iload k => if len = 2 then ab_ldi ls k fun z => some (pc + 2, ls, .inl z :: st) else none
  | .aload_n k => if len = 1 then ab_ldr ls k.val fun z => some (pc + 1, ls, .inr z :: st) else none
  | .aload k => if len = 2 then ab_ldr ls k fun z => some (pc + 2, ls, .inr z :: st) else none
  | .istore_n k => if len = 1 ∧ k.val < ls.length then ab_i1 st fun z r => some (pc + 1, ls.set k.val (some (.inl z)), r) else none
  | .istore k => if len = 2 ∧ k < ls.length then ab_i1 st fun z r => some (pc + 2, ls.set k (some (.inl z)), r) else none
  | .astore_n k => if len = 1 ∧ k.val < ls.length then ab_r1 st fun z r => some (pc + 1, ls.set k.val (some (.inr z)), r) else none
  | .astore k => if len = 2 ∧ k < ls.length then ab_r1 st fun z r => some (pc + 2, ls.set k (some (.inr z)), r) else none
  | .iinc k n => if len = 3 then ab_ldi ls k fun z => some (pc + 3, ls.set k (some (.inl (ab_b (fun a b => a + b) z n))), st) else none
  | .iadd => ab_bin (fun a b => a + b) len pc ls st
  | .isub => ab_bin (fun a b => a - b) len pc ls st
  | .imul => ab_bin (fun a b => a * b) len pc ls st
  | .iand => ab_bin (fun a b => a &&& b) len pc ls st
  | .ior => ab_bin (fun a b => a ||| b) len pc ls st
  | .ixor => ab_bin (fun a b => a ^^^ b) len pc ls st
  | .ishl => ab_bin (fun a b => a <<< (b &&& 31)) len pc ls st
  | .ishr => ab_bin (fun a b => a >>> (b &&& 31)) len pc ls st
  | .idiv => if len = 1 then ab_i2 st fun x y r => if y = 0 then none else some (pc + 1, ls, .inl (ab_b (fun a b => a / b) x y) :: r) else none
  | .irem => if len = 1 then ab_i2 st fun x y r => if y = 0 then none else some (pc + 1, ls, .inl (ab_b (fun a b => a - a / b * b) x y) :: r) else none
  | .dup => if len = 1 then (match st with
    | v :: r => some (pc + 1, ls, v :: v :: r)
    | _ => none) else none
  | .dup2 => if len = 1 then (match st with
    | v :: w :: r => some (pc + 1, ls, v :: w :: v :: w :: r)
    | _ => none) else none
  | .ifCond c off => if len = 3 then ab_i1 st fun x r => (ab_j pc off).bind fun t => some (if ab_cmp c x 0 = true then t else pc + 3, ls, r) else none
  | .if_icmp c off => if len = 3 then ab_i2 st fun x y r => (ab_j pc off).bind fun t => some (if ab_cmp c x y = true then t else pc + 3, ls, r) else none
  | .goto off => if len = 3 then (ab_j pc off).map fun t => (t, ls, st) else none
  | .tableswitch d lo hi offs => ab_i1 st fun x r => if x < lo ∨ hi < x then (ab_j pc d).map fun t => (t, ls, r) else (offs[(x - lo).toNat]?).bind fun o => (ab_j pc o).map fun t => (t, ls, r)
  | _ => none
def ab_sz (c : ab_CD) : Nat := match c with
  | .inl (ci, _) => ((vwCl[ci]?).map fun q => q.2.2).getD 0
  | .inr (_, n) => n
def ab_nS (lay : List ab_CD) : Nat := (lay.map ab_sz).sum
/-- what a field instruction, an array instruction, a new cell, or a call that is taken as one step does -/
def ab_hs (M : ab_M) (i : Instr) (len : Nat) (st : List ab_V) (h : ab_H) (st' : List ab_V) (h' : ab_H) : Prop :=
  (∃ (ix ci k a : Nat) (rest : List ab_V) (refs : List Nat), i = .getfield ix ∧ len = 3 ∧ ab_F M.1.cls ix ci k ∧ st = .inr a :: rest ∧ h.1[a]? = some (.inl (ci, refs)) ∧ ab_isR ci k = false ∧ st' = .inl (h.2 a k) :: rest ∧ h' = h) ∨
  (∃ (ix ci k a : Nat) (rest : List ab_V) (refs : List Nat) (r : Nat), i = .getfield ix ∧ len = 3 ∧ ab_F M.1.cls ix ci k ∧ st = .inr a :: rest ∧ h.1[a]? = some (.inl (ci, refs)) ∧ ab_isR ci k = true ∧ refs[k]? = some (r + 1) ∧ st' = .inr (r + 1) :: rest ∧ h' = h) ∨
  (∃ (ix ci k a : Nat) (z : Int) (rest : List ab_V) (refs : List Nat), i = .putfield ix ∧ len = 3 ∧ ab_F M.1.cls ix ci k ∧ st = .inl z :: .inr a :: rest ∧ h.1[a]? = some (.inl (ci, refs)) ∧ (ab_ty ci k = .int ∨ (ab_ty ci k = .boolean ∧ (z = 0 ∨ z = 1))) ∧ ((vwCl[ci]?).map fun q => (q.2.1 k).2.2.2) = some false ∧ st' = rest ∧ h' = (h.1, ab_up h.2 a k z)) ∨
  (∃ (ix ci k a r : Nat) (rest : List ab_V) (refs : List Nat), i = .putfield ix ∧ len = 3 ∧ ab_F M.1.cls ix ci k ∧ st = .inr (r + 1) :: .inr a :: rest ∧ h.1[a]? = some (.inl (ci, refs)) ∧ ab_isR ci k = true ∧ k < refs.length ∧ ((vwCl[ci]?).map fun q => (q.2.1 k).2.2.2) = some true ∧ ((vwCl[ci]?).map fun q => q.1) = some M.1.cls ∧ M.1.name = "<init>" ∧ st' = rest ∧ h' = (h.1.set a (.inl (ci, refs.set k (r + 1))), h.2)) ∨
  (∃ (a n : Nat) (x : Int) (rest : List ab_V), ((i = .iaload ∧ h.1[a]? = some (.inr (0, n))) ∨ (i = .baload ∧ 1 ≤ a ∧ h.1[a]? = some (.inr (1, n)))) ∧ len = 1 ∧ st = .inl x :: .inr a :: rest ∧ 0 ≤ x ∧ x < n ∧ st' = .inl (h.2 a x.toNat) :: rest ∧ h' = h) ∨
  (∃ (a n : Nat) (x z : Int) (rest : List ab_V), ((i = .iastore ∧ h.1[a]? = some (.inr (0, n))) ∨ (i = .bastore ∧ h.1[a]? = some (.inr (1, n)) ∧ (z = 0 ∨ z = 1))) ∧ len = 1 ∧ st = .inl z :: .inl x :: .inr a :: rest ∧ 1 ≤ a ∧ 0 ≤ x ∧ x < n ∧ st' = rest ∧ h' = (h.1, ab_up h.2 a x.toNat z)) ∨
  (∃ (a t n : Nat) (rest : List ab_V), i = .arraylength ∧ len = 1 ∧ st = .inr a :: rest ∧ h.1[a]? = some (.inr (t, n)) ∧ (a = 0 ∨ t < 2) ∧ n < 2147483648 ∧ st' = .inl (n : Int) :: rest ∧ h' = h) ∨
  (∃ (n t : Nat) (rest : List ab_V), ((i = .newarray .int ∧ t = 0) ∨ (i = .newarray .boolean ∧ t = 1)) ∧ len = 2 ∧ st = .inl (n : Int) :: rest ∧ n ≤ 100000 ∧ (∀ j, h.2 h.1.length j = 0) ∧ st' = .inr h.1.length :: rest ∧ h' = (h.1 ++ [.inr (t, n)], h.2)) ∨
  (∃ (ix ci N : Nat), i = .new ix ∧ len = 3 ∧ ab_C M.1.cls ix ci ∧ ((vwCl[ci]?).map fun q => q.2.2) = some N ∧ (∀ k, k < N → ab_gt (ab_ty ci k) = true) ∧ (∀ j, h.2 h.1.length j = 0) ∧ st' = .inr h.1.length :: st ∧ h' = (h.1 ++ [.inl (ci, List.replicate N 0)], h.2)) ∨
  (∃ (ix : Nat) (z : Int), i = .ldc ix ∧ len = 2 ∧ ab_K M.1.cls ix z ∧ ab_ok z ∧ st' = .inl z :: st ∧ h' = h) ∨
  (∃ (ix a : Nat) (rest : List ab_V), i = .invokespecial ix ∧ len = 3 ∧ ab_lO M.1.cls ix ∧ st = .inr a :: rest ∧ rest.length ≤ 8 ∧ st' = rest ∧ h' = h) ∨
  (∃ (ix a a0 n n0 N : Nat) (rest : List ab_V), i = .invokestatic ix ∧ len = 3 ∧ ab_lC M.1.cls ix ∧ st = .inl (N : Int) :: .inl 0 :: .inr a :: .inl 0 :: .inr a0 :: rest ∧ rest.length ≤ 8 ∧ 1 ≤ a ∧ 1 ≤ a0 ∧ a ≠ a0 ∧ h.1[a]? = some (.inr (0, n)) ∧ h.1[a0]? = some (.inr (0, n0)) ∧ N ≤ n ∧ N ≤ n0 ∧ N < 100000 ∧ st' = rest ∧ h' = (h.1, ab_rw h.2 a (fun k => if k < N then h.2 a0 k else h.2 a k))) ∨
  (∃ (ix : Nat) (x y : Int) (rest : List ab_V), i = .invokestatic ix ∧ len = 3 ∧ ab_lX M.1.cls ix ∧ st = .inl y :: .inl x :: rest ∧ rest.length ≤ 8 ∧ st' = .inl (if x < y then y else x) :: rest ∧ h' = h) ∨
  (∃ (ix : Nat) (x y : Int) (rest : List ab_V), i = .invokestatic ix ∧ len = 3 ∧ ab_lY M.1.cls ix ∧ st = .inl y :: .inl x :: rest ∧ rest.length ≤ 8 ∧ st' = .inl (if y < x then y else x) :: rest ∧ h' = h)
def ab_iv (M : ab_M) (i : Instr) (len : Nat) (M' : ab_M) (as : List ab_V) (h : ab_H) : Prop :=
  (∃ (ix ci a : Nat) (as' : List ab_V) (refs : List Nat), i = .invokevirtual ix ∧ len = 3 ∧ ab_lV M.1.cls ix M' ci ∧ as = .inr a :: as' ∧ h.1[a]? = some (.inl (ci, refs))) ∨
  (∃ ix : Nat, i = .invokestatic ix ∧ len = 3 ∧ ab_lS M.1.cls ix M') ∨
  (∃ ix : Nat, i = .invokestatic ix ∧ len = 3 ∧ ab_lN M.1.cls ix M') ∨
  (∃ (ix a : Nat) (as' : List ab_V), i = .invokespecial ix ∧ len = 3 ∧ ab_lI M.1.cls ix M' ∧ as = .inr a :: as')
abbrev ab_cal : Type := ab_M → List ab_V → ab_H → Option ab_V → ab_H → Prop
def ab_run (cal : ab_cal) (M : ab_M) : Nat → Nat → ab_L → List ab_V → ab_H → Option ab_V → ab_H → Prop
  | 0, _, _, _, _, _, _ => False
  | n + 1, pc, ls, st, h, r, h' => ∃ (i : Instr) (len : Nat), decode M.2.1 pc = .ok (i, len) ∧
    ((∃ (pc1 : Nat) (ls1 : ab_L) (st1 : List ab_V), ab_ps i len pc ls st = some (pc1, ls1, st1) ∧ ab_run cal M n pc1 ls1 st1 h r h') ∨
     (∃ (st1 : List ab_V) (h1 : ab_H), ab_hs M i len st h st1 h1 ∧ ab_run cal M n (pc + len) ls st1 h1 r h') ∨
     (∃ (M' : ab_M) (as rest : List ab_V) (r1 : Option ab_V) (h1 : ab_H), ab_iv M i len M' as h ∧ st = as.reverse ++ rest ∧ as.length = M'.2.2.2.2 ∧ rest.length ≤ 8 ∧ cal M' as h r1 h1 ∧ ab_run cal M n (pc + 3) ls (r1.toList ++ rest) h1 r h') ∨
     (i = .ireturn ∧ len = 1 ∧ (∃ z : Int, st = [.inl z] ∧ r = some (.inl z) ∧ (M.2.2.2.1 = some .int ∨ (M.2.2.2.1 = some .boolean ∧ (z = 0 ∨ z = 1)))) ∧ h' = h) ∨
     (i = .return_ ∧ len = 1 ∧ M.2.2.2.1 = none ∧ st = [] ∧ r = none ∧ h' = h))
def ab_ent (M : ab_M) (as : List ab_V) : ab_L := as.map some ++ List.replicate (M.2.2.1 - as.length) none
def ab_call : Nat → ab_cal
  | 0, _, _, _, _, _ => False
  | d + 1, M, as, h, r, h' => as.length ≤ M.2.2.1 ∧ ∃ n, ab_run (ab_call d) M n 0 (ab_ent M as) [] h r h'
theorem ab_run_mono {c1 c2 : ab_cal} (hc : ∀ M as h r h', c1 M as h r h' → c2 M as h r h') {M : ab_M} : ∀ {n pc : Nat} {ls : ab_L} {st : List ab_V} {h : ab_H} {r : Option ab_V} {h' : ab_H}, ab_run c1 M n pc ls st h r h' → ab_run c2 M n pc ls st h r h' := by
  intro n
  induction n with
  | zero => intro _ _ _ _ _ _ h; exact h
  | succ n ih =>
    intro pc ls st h r h' hr
    obtain ⟨i, len, hd, hr⟩ := hr
    refine ⟨i, len, hd, ?_⟩
    rcases hr with ⟨p1, l1, s1, q, hr⟩ | ⟨s1, h1, q, hr⟩ | ⟨M', as, rest, r1, h1, q1, q2, q3, q4, q5, hr⟩ | hr | hr
    · exact Or.inl ⟨p1, l1, s1, q, ih hr⟩
    · exact Or.inr (Or.inl ⟨s1, h1, q, ih hr⟩)
    · exact Or.inr (Or.inr (Or.inl ⟨M', as, rest, r1, h1, q1, q2, q3, q4, hc _ _ _ _ _ q5, ih hr⟩))
    · exact Or.inr (Or.inr (Or.inr (Or.inl hr)))
    · exact Or.inr (Or.inr (Or.inr (Or.inr hr)))
theorem ab_call_succ : ∀ (d : Nat) (M : ab_M) (as : List ab_V) (h : ab_H) (r : Option ab_V) (h' : ab_H), ab_call d M as h r h' → ab_call (d + 1) M as h r h' := by
  intro d
  induction d with
  | zero => intro _ _ _ _ _ h; exact h.elim
  | succ d ih =>
    intro M as h r h' q
    obtain ⟨q1, n, q2⟩ := q
    exact ⟨q1, n, ab_run_mono ih q2⟩
theorem ab_call_mono {d e : Nat} (hde : d ≤ e) {M : ab_M} {as : List ab_V} {h : ab_H} {r : Option ab_V} {h' : ab_H} (q : ab_call d M as h r h') : ab_call e M as h r h' := by
  induction hde with
  | refl => exact q
  | step _ ih => exact ab_call_succ _ _ _ _ _ _ ih
