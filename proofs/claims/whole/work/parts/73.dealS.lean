theorem bb_ofInt (x : Nat) (h : x < 2147483648) : (Int32.ofInt (x : Int)).toBitVec = BitVec.ofNat 32 x := by
  simp [Int32.ofInt, Int32.toBitVec]
theorem bb_toInt (x : Nat) (h : x < 2147483648) : (BitVec.ofNat 32 x).toInt = (x : Int) := by
  rw [BitVec.toInt_eq_toNat_of_lt (by simp; omega)]
  simp; omega
theorem bb_and (x y : Nat) (hx : x < 2147483648) (hy : y < 2147483648) : ab_b (fun a b => a &&& b) (x : Int) (y : Int) = ((x &&& y : Nat) : Int) := by
  show (Int32.ofInt (x : Int) &&& Int32.ofInt (y : Int)).toBitVec.toInt = _
  rw [Int32.toBitVec_and, bb_ofInt x hx, bb_ofInt y hy, ← BitVec.ofNat_and, bb_toInt]
  exact Nat.lt_of_le_of_lt Nat.and_le_left hx
theorem bb_shl : ∀ j : Nat, j < 9 → ab_b (fun a b => a <<< (b &&& 31)) 1 (j : Int) = ((2 ^ j : Nat) : Int) := by decide
theorem bb_shr (x : Nat) (hx : x < 2147483648) : ∀ j : Nat, j < 9 → ab_b (fun a b => a >>> (b &&& 31)) (x : Int) (j : Int) = ((x / 2 ^ j : Nat) : Int) := by
  intro j hj
  show (Int32.ofInt (x : Int) >>> (Int32.ofInt (j : Int) &&& 31)).toBitVec.toInt = _
  have e : (Int32.ofInt (j : Int) &&& 31) = Int32.ofInt (j : Int) := by
    revert j; decide
  have e2 : ((Int32.ofInt (j : Int)).toBitVec.smod 32) = BitVec.ofNat 32 j := by
    revert j; decide
  rw [e, Int32.toBitVec_shiftRight, e2, bb_ofInt x hx, BitVec.sshiftRight_eq', BitVec.toInt_sshiftRight, bb_toInt x hx, Int.shiftRight_eq_div_pow]
  simp
  rw [Nat.mod_eq_of_lt (by omega)]
theorem bb_bit (x : Nat) (hx : x < 2147483648) (j : Nat) (hj : j < 9) : ab_b (fun a b => a &&& b) (ab_b (fun a b => a >>> (b &&& 31)) (x : Int) (j : Int)) 1 = if x.testBit j = true then 1 else 0 := by
  rw [bb_shr x hx j hj]
  have h2 : x / 2 ^ j < 2147483648 := Nat.lt_of_le_of_lt (Nat.div_le_self _ _) hx
  rw [show (1 : Int) = ((1 : Nat) : Int) from rfl, bb_and _ 1 h2 (by decide)]
  rw [Nat.testBit_eq_decide_div_mod_eq, Nat.and_one_is_mod]
  rcases Nat.mod_two_eq_zero_or_one (x / 2 ^ j) with z | z <;> rw [z] <;> simp
/-- sets of fields as numbers -/
def Sb (p S : Nat) : Prop := ∀ k, p.testBit k = true → S.testBit k = true
theorem Sb.half {p S : Nat} (h : Sb p S) : Sb (p / 2) (S / 2) := fun k hk => by
  have := h (k + 1)
  rw [Nat.testBit_succ, Nat.testBit_succ] at this
  exact this hk
theorem Sb.low {p S : Nat} (h : Sb p S) : p % 2 ≤ S % 2 := by
  have := h 0
  simp [Nat.testBit_zero] at this
  omega
theorem Sb.le : ∀ (p S : Nat), Sb p S → p ≤ S := by
  intro p
  induction p using Nat.strongRecOn with
  | ind p ih =>
    intro S h
    by_cases z : p = 0
    · omega
    · have h1 := ih (p / 2) (by omega) (S / 2) h.half
      have h2 := h.low
      omega
theorem sb_sub : ∀ (k p S : Nat), Sb p S → (S - p).testBit k = (S.testBit k && !p.testBit k)
  | 0, p, S, h => by
    have h1 := h.low
    have h2 := Sb.le _ _ h.half
    simp only [Nat.testBit_zero]
    by_cases a : S % 2 = 1 <;> by_cases b : p % 2 = 1 <;> simp [a, b] <;> omega
  | k + 1, p, S, h => by
    have h1 := h.low
    have h2 := Sb.le _ _ h.half
    rw [Nat.testBit_succ, Nat.testBit_succ, Nat.testBit_succ, show (S - p) / 2 = S / 2 - p / 2 by omega]
    exact sb_sub k _ _ h.half
theorem Sb.and (x S : Nat) : Sb (x &&& S) S := fun k hk => by
  rw [Nat.testBit_and] at hk
  simp at hk
  exact hk.2
theorem and_lo (a b : Nat) : (a &&& b) % 2 = if a % 2 = 1 ∧ b % 2 = 1 then 1 else 0 := by
  have := Nat.testBit_and a b 0
  simp only [Nat.testBit_zero] at this
  by_cases z : (a &&& b) % 2 = 1 <;> by_cases x : a % 2 = 1 <;> by_cases y : b % 2 = 1 <;> simp only [x, y, z, decide_true, decide_false, Bool.and_true, Bool.and_false, Bool.true_and, Bool.false_and, and_true, and_false, true_and, false_and, if_true, if_false, reduceCtorEq] at this ⊢ <;> omega
theorem and_hi (a b : Nat) : (a &&& b) / 2 = a / 2 &&& b / 2 := by
  apply Nat.eq_of_testBit_eq
  intro i
  rw [Nat.testBit_and, ← Nat.testBit_succ, ← Nat.testBit_succ, ← Nat.testBit_succ, Nat.testBit_and]
theorem sb_next : ∀ (p S q : Nat), Sb p S → Sb q S → q < p → q ≤ (p - 1) &&& S := by
  intro p
  induction p using Nat.strongRecOn with
  | ind p ih =>
    intro S q hp hq hlt
    have e1 := and_lo (p - 1) S
    have e2 := and_hi (p - 1) S
    have l1 := hp.low
    have l2 := hq.low
    by_cases z : p % 2 = 1
    · have k1 : (p - 1) / 2 = p / 2 := by omega
      have k2 : p / 2 &&& S / 2 = p / 2 := by
        apply Nat.eq_of_testBit_eq
        intro i
        rw [Nat.testBit_and]
        have := hp.half i
        cases h : (p / 2).testBit i
        · simp
        · simp [this h]
      rw [k1, k2] at e2
      rw [if_neg (by omega)] at e1
      omega
    · have k1 : (p - 1) / 2 = p / 2 - 1 := by omega
      have h3 := ih (p / 2) (by omega) (S / 2) (q / 2) hp.half hq.half (by omega)
      rw [k1] at e2
      have h4 : q % 2 ≤ ((p - 1) &&& S) % 2 := by
        rw [e1]
        split <;> omega
      omega
theorem Sb.tr {p q S : Nat} (h1 : Sb p q) (h2 : Sb q S) : Sb p S := fun k h => h2 k (h1 k h)
theorem Sb.rf (S : Nat) : Sb S S := fun _ h => h
theorem Sb.zero (S : Nat) : Sb 0 S := fun k h => by simp at h
theorem Sb.sub {p S : Nat} (h : Sb p S) : Sb (S - p) S := fun k hk => by
  rw [sb_sub k p S h] at hk
  simp at hk
  exact hk.1
/-- the set of those that a test takes -/
def mkS (P : Nat → Bool) : Nat → Nat
  | 0 => 0
  | k + 1 => if P k = true then 2 ^ k + mkS P k else mkS P k
theorem mkS_lt (P : Nat → Bool) : ∀ n, mkS P n < 2 ^ n
  | 0 => by simp [mkS]
  | n + 1 => by
    have := mkS_lt P n
    unfold mkS
    rw [Nat.pow_succ]
    split <;> omega
theorem mkS_bit (P : Nat → Bool) : ∀ n k, (mkS P n).testBit k = (P k && decide (k < n))
  | 0, k => by simp [mkS]
  | n + 1, k => by
    have ih := mkS_bit P n
    have hl := mkS_lt P n
    unfold mkS
    by_cases hk : k < n
    · split
      · rw [Nat.testBit_two_pow_add_gt hk, ih k]; simp [hk]; omega
      · rw [ih k]; simp [hk]; omega
    · by_cases hn : k = n
      · subst hn
        split
        · next h => rw [Nat.testBit_two_pow_add_eq, ih k]; simp [h]
        · next h => rw [ih k]; simp [h]
      · have hb : mkS P (n + 1) < 2 ^ k := Nat.lt_of_lt_of_le (mkS_lt P (n + 1)) (Nat.pow_le_pow_right (by decide) (by omega))
        have := Nat.testBit_lt_two_pow hb
        unfold mkS at this
        rw [this]
        simp
        intro _
        omega
/-- sums over a set -/
def bs (f : Nat → Int) (n S : Nat) : Int := sm (fun k => if S.testBit k = true then f k else 0) n
theorem bs_sub (f : Nat → Int) (n : Nat) {p S : Nat} (h : Sb p S) : bs f n S = bs f n p + bs f n (S - p) := by
  unfold bs
  rw [← sm_add]
  refine sm_congr n (fun k _ => ?_)
  rw [sb_sub k p S h]
  have := h k
  cases a : p.testBit k <;> cases b : S.testBit k <;> simp [a, b] at this ⊢
theorem bs_zero (f : Nat → Int) (n : Nat) : bs f n 0 = 0 := by
  unfold bs
  rw [sm_congr n (g := fun _ => 0) (fun k _ => by simp)]
  exact sm_zero n
theorem bs_high (f : Nat → Int) : ∀ (d n S : Nat), S < 2 ^ n → bs f (n + d) S = bs f n S
  | 0, n, S, h => rfl
  | d + 1, n, S, h => by
    have := bs_high f d n S h
    have z : S.testBit (n + d) = false := Nat.testBit_lt_two_pow (Nat.lt_of_lt_of_le h (Nat.pow_le_pow_right (by decide) (by omega)))
    show bs f (n + d) S + (if S.testBit (n + d) = true then f (n + d) else 0) = _
    rw [this, z]; simp
theorem bs_add (f : Nat → Int) (n S j : Nat) (h : S < 2 ^ j) (hj : j < n) : bs f n (S + 2 ^ j) = bs f n S + f j := by
  unfold bs
  have e := sm_one (fun k => if S.testBit k = true then f k else 0) (fun k => if (S + 2 ^ j).testBit k = true then f k else 0) j (f j) (by
    have z : S.testBit j = false := Nat.testBit_lt_two_pow h
    show (if (S + 2 ^ j).testBit j = true then f j else 0) = (if S.testBit j = true then f j else 0) + f j
    rw [Nat.add_comm, Nat.testBit_two_pow_add_eq, z]; simp) (fun a ha => by
    show (if (S + 2 ^ j).testBit a = true then f a else 0) = (if S.testBit a = true then f a else 0)
    rw [Nat.add_comm]
    by_cases y : a < j
    · rw [Nat.testBit_two_pow_add_gt y]
    · have z1 : S.testBit a = false := Nat.testBit_lt_two_pow (Nat.lt_of_lt_of_le h (Nat.pow_le_pow_right (by decide) (by omega)))
      have z2 : (2 ^ j + S).testBit a = false := Nat.testBit_lt_two_pow (Nat.lt_of_lt_of_le (show 2 ^ j + S < 2 ^ (j + 1) by rw [Nat.pow_succ]; omega) (Nat.pow_le_pow_right (by decide) (by omega)))
      rw [z1, z2]) n
  rw [e, if_pos hj]
theorem sm_nn {f : Nat → Int} : ∀ n, (∀ k, k < n → 0 ≤ f k) → 0 ≤ sm f n
  | 0, _ => Int.le_refl _
  | n + 1, h => by
    have := sm_nn n (fun k hk => h k (by omega))
    have := h n (by omega)
    show 0 ≤ sm f n + f n
    omega
theorem sm_le {f g : Nat → Int} : ∀ n, (∀ k, k < n → f k ≤ g k) → sm f n ≤ sm g n
  | 0, _ => Int.le_refl _
  | n + 1, h => by
    have := sm_le n (fun k hk => h k (by omega))
    have := h n (by omega)
    show sm f n + f n ≤ sm g n + g n
    omega
theorem bs_nn {f : Nat → Int} {n : Nat} (h : ∀ k, k < n → 0 ≤ f k) (S : Nat) : 0 ≤ bs f n S := sm_nn n (fun k hk => by
  show 0 ≤ if S.testBit k = true then f k else 0
  split
  · exact h k hk
  · omega)
theorem bs_le {f : Nat → Int} {n : Nat} (h : ∀ k, k < n → 0 ≤ f k) (S : Nat) : bs f n S ≤ sm f n := sm_le n (fun k hk => by
  show (if S.testBit k = true then f k else 0) ≤ f k
  split
  · exact Int.le_refl _
  · exact h k hk)
/-- a dealing: b k is the lot of the k-th field from the last; 4: none -/
def p5 (k : Nat) : Int := ((5 ^ k : Nat) : Int)
def dv (m : Nat) (y : Nat → Int) (b : Nat → Nat) (k : Nat) : Int := (if b k < m then 390625 * y k else 0) - (b k : Int) * p5 k
def dok (m n : Nat) (c y : Nat → Int) (b : Nat → Nat) : Prop := (∀ k, k < n → b k < m ∨ b k = 4) ∧ ∀ l, l < m → sm (fun k => if b k = l then y k else 0) n ≤ c l
def dbest (m n : Nat) (c y : Nat → Int) (b : Nat → Nat) : Prop := dok m n c y b ∧ ∀ b', dok m n c y b' → sm (dv m y b') n ≤ sm (dv m y b) n
def dO (b : Nat → Nat) : Nat → Nat
  | 0 => 0
  | k + 1 => dO b k + b k * 5 ^ k
theorem dO_lt (b : Nat → Nat) : ∀ n, (∀ k, k < n → b k ≤ 4) → dO b n < 5 ^ n
  | 0, _ => by simp [dO]
  | n + 1, h => by
    have h1 := dO_lt b n (fun k hk => h k (by omega))
    have h2 : b n * 5 ^ n ≤ 4 * 5 ^ n := Nat.mul_le_mul_right _ (h n (by omega))
    show dO b n + b n * 5 ^ n < 5 ^ (n + 1)
    rw [Nat.pow_succ]
    omega
theorem dO_dig (b b' : Nat → Nat) : ∀ n, (∀ k, k < n → b k ≤ 4) → (∀ k, k < n → b' k ≤ 4) → dO b n = dO b' n → ∀ k, k < n → b k = b' k
  | 0, _, _, _ => fun k hk => by omega
  | n + 1, h, h', e => by
    have h1 := dO_lt b n (fun k hk => h k (by omega))
    have h1' := dO_lt b' n (fun k hk => h' k (by omega))
    have e : dO b n + b n * 5 ^ n = dO b' n + b' n * 5 ^ n := e
    have hp : 0 < 5 ^ n := Nat.pow_pos (by decide)
    have e1 : b n = b' n := by
      have : (dO b n + b n * 5 ^ n) / 5 ^ n = (dO b' n + b' n * 5 ^ n) / 5 ^ n := by rw [e]
      rw [Nat.add_mul_div_right _ _ hp, Nat.add_mul_div_right _ _ hp, Nat.div_eq_of_lt h1, Nat.div_eq_of_lt h1'] at this
      omega
    have e2 : dO b n = dO b' n := by rw [e1] at e; omega
    intro k hk
    by_cases z : k = n
    · rw [z]; exact e1
    · exact dO_dig b b' n (fun k hk => h k (by omega)) (fun k hk => h' k (by omega)) e2 k (by omega)
def dY (m : Nat) (y : Nat → Int) (b : Nat → Nat) (n : Nat) : Int := sm (fun k => if b k < m then y k else 0) n
theorem dv_sm (m : Nat) (y : Nat → Int) (b : Nat → Nat) : ∀ n, sm (dv m y b) n = 390625 * dY m y b n - (dO b n : Int)
  | 0 => by simp [sm, dY, dO]
  | n + 1 => by
    have ih := dv_sm m y b n
    show sm (dv m y b) n + dv m y b n = 390625 * (dY m y b n + (if b n < m then y n else 0)) - ((dO b n + b n * 5 ^ n : Nat) : Int)
    rw [ih, Int.natCast_add, Int.natCast_mul]
    unfold dv p5
    split <;> omega
theorem dbest_uq {m n : Nat} {c y : Nat → Int} {b b' : Nat → Nat} (hm : m ≤ 4) (hn : n ≤ 8) (h : dbest m n c y b) (h' : dbest m n c y b') : ∀ k, k < n → b k = b' k := by
  have k4 : ∀ k, k < n → b k ≤ 4 := fun k hk => by have := h.1.1 k hk; omega
  have k4' : ∀ k, k < n → b' k ≤ 4 := fun k hk => by have := h'.1.1 k hk; omega
  have e1 := h.2 b' h'.1
  have e2 := h'.2 b h.1
  rw [dv_sm, dv_sm] at e1 e2
  have l1 := dO_lt b n k4
  have l2 := dO_lt b' n k4'
  have l3 : 5 ^ n ≤ 5 ^ 8 := Nat.pow_le_pow_right (by decide) hn
  have l3 : 5 ^ n ≤ 390625 := l3
  exact dO_dig b b' n k4 k4' (by omega)
/-- lot by lot over the sets of fields -/
def dps (m n : Nat) (c y : Nat → Int) (Bf : Nat → Nat → Int) (ch : Nat → Nat → Nat) (l : Nat) : Prop :=
  (∀ S, S < 2 ^ n → Bf m S = -4 * bs p5 n S) ∧ ∀ l', l ≤ l' → l' < m → ∀ S, S < 2 ^ n → Sb (ch l' S) S ∧ bs y n (ch l' S) ≤ c l' ∧ Bf l' S = 390625 * bs y n (ch l' S) - (l' : Int) * bs p5 n (ch l' S) + Bf (l' + 1) (S - ch l' S) ∧ ∀ q, Sb q S → bs y n q ≤ c l' → 390625 * bs y n q - (l' : Int) * bs p5 n q + Bf (l' + 1) (S - q) ≤ Bf l' S
theorem bs_lin (y : Nat → Int) (l : Int) (S : Nat) : ∀ n, bs (fun k => 390625 * y k - l * p5 k) n S = 390625 * bs y n S - l * bs p5 n S
  | 0 => by simp [bs, sm]
  | n + 1 => by
    have ih := bs_lin y l S n
    unfold bs at ih ⊢
    show sm _ n + (if S.testBit n = true then 390625 * y n - l * p5 n else 0) = 390625 * (sm _ n + (if S.testBit n = true then _ else _)) - l * (sm _ n + (if S.testBit n = true then _ else _))
    rw [ih, Int.mul_add l]
    split
    · omega
    · simp
theorem bs_congr {f g : Nat → Int} (n S : Nat) (h : ∀ k, k < n → S.testBit k = true → f k = g k) : bs f n S = bs g n S := sm_congr n (fun k hk => by
  show (if S.testBit k = true then f k else 0) = if S.testBit k = true then g k else 0
  split
  · next z => exact h k hk z
  · rfl)
theorem bs_mul (f : Nat → Int) (z : Int) (n S : Nat) : bs (fun k => z * f k) n S = z * bs f n S := by
  unfold bs
  rw [← sm_mul]
  exact sm_congr n (fun k _ => by split <;> simp)
theorem dps_up {m n : Nat} {c y : Nat → Int} {Bf : Nat → Nat → Int} {ch : Nat → Nat → Nat} {l0 : Nat} (hm : m ≤ 4) (h : dps m n c y Bf ch l0) : ∀ (j l : Nat), m - l = j → l0 ≤ l → l ≤ m → ∀ S, S < 2 ^ n → ∀ b : Nat → Nat, (∀ k, k < n → S.testBit k = true → (l ≤ b k ∧ b k < m) ∨ b k = 4) → (∀ l', l ≤ l' → l' < m → sm (fun k => if S.testBit k = true ∧ b k = l' then y k else 0) n ≤ c l') → bs (dv m y b) n S ≤ Bf l S
  | 0, l, hj, hl, hlm, S, hS, b, hb, hc => by
    have e : l = m := by omega
    subst e
    rw [h.1 S hS, ← bs_mul, bs_congr n S (f := dv l y b) (g := fun k => -4 * p5 k)]
    · exact Int.le_refl _
    · intro k hk hs
      have := hb k hk hs
      have e4 : b k = 4 := by omega
      unfold dv
      rw [e4, if_neg (by omega)]
      omega
  | j + 1, l, hj, hl, hlm, S, hS, b, hb, hc => by
    have hq : ∀ k, (mkS (fun k => S.testBit k && b k == l) n).testBit k = (S.testBit k && b k == l && decide (k < n)) := mkS_bit _ n
    generalize mkS (fun k => S.testBit k && b k == l) n = q at hq
    have hsb : Sb q S := fun k hk => by
      rw [hq k] at hk
      simp at hk
      exact hk.1.1
    have hqb : ∀ k, k < n → (q.testBit k = true ↔ S.testBit k = true ∧ b k = l) := fun k hk => by
      rw [hq k]
      simp [hk]
    have hyq : bs y n q ≤ c l := by
      have e : bs y n q = sm (fun k => if S.testBit k = true ∧ b k = l then y k else 0) n := sm_congr n (fun k hk => by
        show (if q.testBit k = true then y k else 0) = _
        by_cases z : q.testBit k = true
        · rw [if_pos z, if_pos ((hqb k hk).1 z)]
        · rw [if_neg z, if_neg (fun w => z ((hqb k hk).2 w))])
      rw [e]
      exact hc l (Nat.le_refl _) (by omega)
    have h1 := (h.2 l hl (by omega) S hS).2.2.2 q hsb hyq
    have hS2 : S - q < 2 ^ n := by omega
    have h2 := dps_up hm h j (l + 1) (by omega) (by omega) (by omega) (S - q) hS2 b (fun k hk hs => by
      rw [sb_sub k q S hsb] at hs
      simp at hs
      have := hb k hk hs.1
      have z : ¬ (b k = l) := fun z => by
        have := (hqb k hk).2 ⟨hs.1, z⟩
        rw [this] at hs
        simp at hs
      omega) (fun l' h1 h2 => by
      refine Int.le_trans (Int.le_of_eq (sm_congr n (fun k hk => ?_))) (hc l' (by omega) h2)
      show (if (S - q).testBit k = true ∧ b k = l' then y k else 0) = if S.testBit k = true ∧ b k = l' then y k else 0
      rw [sb_sub k q S hsb]
      by_cases z : b k = l'
      · have : q.testBit k = false := by
          have := hqb k hk
          cases e : q.testBit k
          · rfl
          · have := (this.1 e).2; omega
        simp [z, this]
      · rw [if_neg (fun w => z w.2), if_neg (fun w => z w.2)])
    rw [bs_sub _ n hsb, bs_congr n q (f := dv m y b) (g := fun k => 390625 * y k - (l : Int) * p5 k), bs_lin]
    · omega
    · intro k hk hs
      have e := ((hqb k hk).1 hs).2
      unfold dv
      rw [e, if_pos (by omega)]
/-- reading the choices -/
def rdI (m n : Nat) (c y : Nat → Int) (Bf : Nat → Nat → Int) (l left : Nat) (g : Nat → Nat) : Prop :=
  left < 2 ^ n ∧ (∀ k, k < n → left.testBit k = true → g k = 4) ∧ (∀ k, k < n → left.testBit k = false → g k < l) ∧ (∀ l', l' < l → sm (fun k => if g k = l' then y k else 0) n ≤ c l') ∧ sm (fun k => if left.testBit k = true then 0 else dv m y g k) n + Bf l left = Bf 0 (2 ^ n - 1)
theorem full_bit (n k : Nat) (hk : k < n) : (2 ^ n - 1).testBit k = true := by
  rw [Nat.testBit_two_pow_sub_one]; simp [hk]
theorem rdI_ini (m n : Nat) (c y : Nat → Int) (Bf : Nat → Nat → Int) : rdI m n c y Bf 0 (2 ^ n - 1) (fun _ => 4) := by
  have hp : 0 < 2 ^ n := Nat.pow_pos (by decide)
  refine ⟨by omega, fun _ _ _ => rfl, fun k hk h => by rw [full_bit n k hk] at h; simp at h, fun l' h => by omega, ?_⟩
  rw [sm_congr n (g := fun _ => 0) (fun k hk => by rw [full_bit n k hk]; simp), sm_zero]
  omega
theorem rdI_step {m n : Nat} {c y : Nat → Int} {Bf : Nat → Nat → Int} {ch : Nat → Nat → Nat} {l left : Nat} {g : Nat → Nat} (hm : m ≤ 4) (hl : l < m) (h : dps m n c y Bf ch 0) (hr : rdI m n c y Bf l left g) : rdI m n c y Bf (l + 1) (left - ch l left) (fun k => if (ch l left).testBit k = true then l else g k) := by
  obtain ⟨r1, r2, r3, r4, r5⟩ := hr
  obtain ⟨s1, s2, s3, s4⟩ := h.2 l (by omega) hl left r1
  generalize ch l left = p at *
  refine ⟨by omega, fun k hk hb => ?_, fun k hk hb => ?_, fun l' hl' => ?_, ?_⟩
  · rw [sb_sub k p left s1] at hb
    simp at hb
    show (if p.testBit k = true then l else g k) = 4
    rw [hb.2]
    exact r2 k hk hb.1
  · rw [sb_sub k p left s1] at hb
    show (if p.testBit k = true then l else g k) < l + 1
    split
    · omega
    · next z =>
      have : left.testBit k = false := by
        cases e : left.testBit k
        · rfl
        · rw [e] at hb; simp at z; rw [z] at hb; simp at hb
      have := r3 k hk this
      omega
  · by_cases z : l' = l
    · subst z
      refine Int.le_trans (Int.le_of_eq (sm_congr n (g := fun k => if p.testBit k = true then y k else 0) (fun k hk => ?_))) s2
      show (if (if p.testBit k = true then l' else g k) = l' then y k else 0) = _
      by_cases e : p.testBit k = true
      · simp [e]
      · have : g k ≠ l' := by
          cases e2 : left.testBit k
          · have := r3 k hk e2; omega
          · have := r2 k hk e2; omega
        simp [e, this]
    · refine Int.le_trans (Int.le_of_eq (sm_congr n (fun k hk => ?_))) (r4 l' (by omega))
      show (if (if p.testBit k = true then l else g k) = l' then y k else 0) = if g k = l' then y k else 0
      by_cases e : p.testBit k = true
      · have := r2 k hk (s1 k e)
        rw [if_pos e, if_neg (by omega), if_neg (by omega)]
      · rw [if_neg e]
  · rw [← r5, s3]
    have e1 : sm (fun k => if (left - p).testBit k = true then 0 else dv m y (fun k => if p.testBit k = true then l else g k) k) n = sm (fun k => if left.testBit k = true then 0 else dv m y g k) n + bs (fun k => 390625 * y k - (l : Int) * p5 k) n p := by
      unfold bs
      rw [← sm_add]
      refine sm_congr n (fun k hk => ?_)
      show (if (left - p).testBit k = true then 0 else dv m y (fun k => if p.testBit k = true then l else g k) k) = (if left.testBit k = true then 0 else dv m y g k) + (if p.testBit k = true then 390625 * y k - (l : Int) * p5 k else 0)
      rw [sb_sub k p left s1]
      unfold dv
      show (if (left.testBit k && !p.testBit k) = true then (0 : Int) else (if (if p.testBit k = true then l else g k) < m then 390625 * y k else 0) - ((if p.testBit k = true then l else g k : Nat) : Int) * p5 k) = _
      cases e : p.testBit k
      · simp
      · rw [s1 k e]
        simp [hl]
    rw [e1, bs_lin]
    omega
theorem rdI_end {m n : Nat} {c y : Nat → Int} {Bf : Nat → Nat → Int} {ch : Nat → Nat → Nat} {left : Nat} {g : Nat → Nat} (hm : m ≤ 4) (h : dps m n c y Bf ch 0) (hr : rdI m n c y Bf m left g) : dbest m n c y g := by
  obtain ⟨r1, r2, r3, r4, r5⟩ := hr
  have hp : 0 < 2 ^ n := Nat.pow_pos (by decide)
  have hW : sm (dv m y g) n = Bf 0 (2 ^ n - 1) := by
    rw [← r5, h.1 left r1, ← bs_mul]
    unfold bs
    rw [← sm_add]
    refine sm_congr n (fun k hk => ?_)
    show dv m y g k = (if left.testBit k = true then 0 else dv m y g k) + (if left.testBit k = true then -4 * p5 k else 0)
    split
    · next z =>
      unfold dv
      rw [r2 k hk z, if_neg (by omega)]
      omega
    · omega
  refine ⟨⟨fun k hk => ?_, r4⟩, fun b' hb' => ?_⟩
  · cases e : left.testBit k
    · exact Or.inl (r3 k hk e)
    · exact Or.inr (r2 k hk e)
  · rw [hW]
    refine Int.le_trans (Int.le_of_eq ?_) (dps_up hm h m 0 (by omega) (by omega) (by omega) (2 ^ n - 1) (by omega) b' (fun k hk _ => ?_) (fun l' _ hl' => ?_))
    · exact sm_congr n (fun k hk => by rw [if_pos (full_bit n k hk)])
    · have := hb'.1 k hk; omega
    · refine Int.le_trans (Int.le_of_eq (sm_congr n (fun k hk => ?_))) (hb'.2 l' hl')
      simp [full_bit n k hk]
/-! ===== DEALING, field by field: what a search with bounds keeps ===== -/
theorem sm_pre (g : Nat → Int) (n : Nat) : ∀ d, d ≤ n → sm g n = sm g (n - d) + sm (fun i => g (n - 1 - i)) d
  | 0, _ => by simp [sm]
  | d + 1, h => by
    have ih := sm_pre g n d (by omega)
    rw [ih, show n - d = (n - (d + 1)) + 1 by omega]
    show sm g (n - (d + 1)) + g (n - (d + 1)) + sm (fun i => g (n - 1 - i)) d = sm g (n - (d + 1)) + (sm (fun i => g (n - 1 - i)) d + g (n - 1 - d))
    rw [show n - (d + 1) = n - 1 - d by omega]
    omega
theorem sm_rev (g : Nat → Int) (n : Nat) : sm g n = sm (fun i => g (n - 1 - i)) n := by
  have := sm_pre g n n (Nat.le_refl _)
  rw [Nat.sub_self] at this
  rw [this]
  simp [sm]
theorem dO_lex (b b' : Nat → Nat) (r : Nat) (h1 : b r < b' r) (h4 : ∀ k, k < r → b k ≤ 4) : ∀ n, r < n → (∀ k, r < k → k < n → b k = b' k) → dO b n < dO b' n
  | 0, h, _ => by omega
  | n + 1, h, he => by
    show dO b n + b n * 5 ^ n < dO b' n + b' n * 5 ^ n
    by_cases z : n = r
    · subst z
      have l1 := dO_lt b n h4
      have l2 : (b n + 1) * 5 ^ n ≤ b' n * 5 ^ n := Nat.mul_le_mul_right _ h1
      rw [Nat.add_mul] at l2
      omega
    · have := dO_lex b b' r h1 h4 n (by omega) (fun k h1 h2 => he k h1 (by omega))
      rw [he n (by omega) (by omega)]
      omega
section DealR
variable (m n : Nat) (c y : Nat → Int)
/-- what is still to be seen: like e before d, and past w at d -/
def Xs (d : Nat) (e : Nat → Nat) (w : Int) (b : Nat → Nat) : Prop := dok m n c y b ∧ (∀ i, i < d → b (n - 1 - i) = e i) ∧ (d < n → w < (b (n - 1 - d) : Int) ∧ w < (m : Int))
/-- the best before and after -/
def bP (X : (Nat → Nat) → Prop) (s : Int × (Nat → Nat)) : Prop := s.1 = -1 ∨ (0 ≤ s.1 ∧ s.1 = dY m y s.2 n ∧ dok m n c y s.2 ∧ ∀ b, X b → dO s.2 n < dO b n)
def bR (X : (Nat → Nat) → Prop) (s s' : Int × (Nat → Nat)) : Prop := ((s'.1 = s.1 ∧ s'.2 = s.2) ∨ (X s'.2 ∧ dok m n c y s'.2 ∧ s'.1 = dY m y s'.2 n ∧ s.1 < s'.1)) ∧ ∀ b, X b → dY m y b n ≤ s'.1 ∧ sm (dv m y b) n ≤ sm (dv m y s'.2) n
end DealR
section DealR2
variable {m n : Nat} {c y : Nat → Int}
theorem dok4 (hm : m ≤ 4) {b : Nat → Nat} (h : dok m n c y b) : ∀ k, k < n → b k ≤ 4 := fun k hk => by have := h.1 k hk; omega
theorem W_le (hm : m ≤ 4) (hn : n ≤ 8) {b b' : Nat → Nat} (h' : dok m n c y b') (hy : dY m y b n < dY m y b' n) : sm (dv m y b) n ≤ sm (dv m y b') n := by
  rw [dv_sm, dv_sm]
  have l2 := dO_lt b' n (dok4 hm h')
  have l3 : 5 ^ n ≤ 5 ^ 8 := Nat.pow_le_pow_right (by decide) hn
  have l3 : 5 ^ n ≤ 390625 := l3
  omega
theorem dY_nn (hy : ∀ k, k < n → 0 ≤ y k) (b : Nat → Nat) : 0 ≤ dY m y b n := sm_nn n (fun k hk => by
  show 0 ≤ if b k < m then y k else 0
  split
  · exact hy k hk
  · omega)
theorem bR_none {X : (Nat → Nat) → Prop} (s : Int × (Nat → Nat)) (h : ∀ b, ¬ X b) : bR m n c y X s s := ⟨Or.inl ⟨rfl, rfl⟩, fun b hb => absurd hb (h b)⟩
theorem bR_cut (hy : ∀ k, k < n → 0 ≤ y k) {X : (Nat → Nat) → Prop} {s : Int × (Nat → Nat)} (hp : bP m n c y X s) (h : ∀ b, X b → dY m y b n ≤ s.1) : bR m n c y X s s := by
  refine ⟨Or.inl ⟨rfl, rfl⟩, fun b hb => ⟨h b hb, ?_⟩⟩
  have h1 := h b hb
  have h2 := dY_nn (m := m) hy b
  rcases hp with z | ⟨_, z1, z2, z3⟩
  · omega
  · have := z3 b hb
    rw [dv_sm, dv_sm]
    omega
theorem bR_leaf (hm : m ≤ 4) (hn : n ≤ 8) {X : (Nat → Nat) → Prop} {s s' : Int × (Nat → Nat)} (hX : ∀ b, X b → ∀ k, k < n → b k = s'.2 k) (h0 : X s'.2) (hk : dok m n c y s'.2) (h1 : s'.1 = dY m y s'.2 n) (h2 : s.1 < s'.1) : bR m n c y X s s' := by
  refine ⟨Or.inr ⟨h0, hk, h1, h2⟩, fun b hb => ?_⟩
  have e1 : dY m y b n = dY m y s'.2 n := sm_congr n (fun k hk => by rw [hX b hb k hk])
  have e2 : sm (dv m y b) n = sm (dv m y s'.2) n := sm_congr n (fun k hk => by unfold dv; rw [hX b hb k hk])
  exact ⟨by omega, by omega⟩
theorem bR_P {X Y : (Nat → Nat) → Prop} (hy : ∀ k, k < n → 0 ≤ y k) {s s' : Int × (Nat → Nat)} (hp : bP m n c y Y s) (hr : bR m n c y X s s') (hxy : ∀ b b', X b → Y b' → dO b n < dO b' n) : bP m n c y Y s' := by
  rcases hr.1 with ⟨e1, e2⟩ | ⟨z1, z2, z3, z4⟩
  · unfold bP
    rw [e1, e2]
    exact hp
  · exact Or.inr ⟨by have := dY_nn (m := m) hy s'.2; omega, z3, z2, fun b hb => hxy _ b z1 hb⟩
theorem bR_tr (hm : m ≤ 4) (hn : n ≤ 8) (hy : ∀ k, k < n → 0 ≤ y k) {X Y Z : (Nat → Nat) → Prop} {s s' s'' : Int × (Nat → Nat)} (hp : bP m n c y X s) (h1 : bR m n c y X s s') (h2 : bR m n c y Y s' s'') (hX : ∀ b, X b → Z b) (hY : ∀ b, Y b → Z b) (hZ : ∀ b, Z b → X b ∨ Y b) : bR m n c y Z s s'' := by
  have hs' : s'.1 = -1 ∨ s'.1 = dY m y s'.2 n := by
    rcases h1.1 with ⟨e1, e2⟩ | ⟨_, _, z3, _⟩
    · rcases hp with z | ⟨_, z, _⟩
      · left; omega
      · right; rw [e1, e2]; exact z
    · exact Or.inr z3
  have le : s.1 ≤ s'.1 := by
    rcases h1.1 with ⟨e1, e2⟩ | z
    · omega
    · omega
  have mono : s'.1 ≤ s''.1 ∧ (0 ≤ s'.1 → sm (dv m y s'.2) n ≤ sm (dv m y s''.2) n) := by
    rcases h2.1 with ⟨e1, e2⟩ | ⟨z1, z2, z3, z4⟩
    · exact ⟨by omega, fun _ => by rw [e2]; exact Int.le_refl _⟩
    · refine ⟨by omega, fun h0 => W_le hm hn z2 ?_⟩
      omega
  refine ⟨?_, fun b hb => ?_⟩
  · rcases h2.1 with ⟨e1, e2⟩ | ⟨z1, z2, z3, z4⟩
    · rcases h1.1 with ⟨f1, f2⟩ | ⟨f1, f2, f3, f4⟩
      · exact Or.inl ⟨by omega, by rw [e2, f2]⟩
      · refine Or.inr ?_
        rw [e1, e2]
        exact ⟨hX _ f1, f2, f3, f4⟩
    · exact Or.inr ⟨hY _ z1, z2, z3, by omega⟩
  · rcases hZ b hb with z | z
    · have q := h1.2 b z
      have := dY_nn (m := m) hy b
      exact ⟨by omega, by have := mono.2 (by omega); omega⟩
    · exact h2.2 b z
theorem bP_sub {X Y : (Nat → Nat) → Prop} {s : Int × (Nat → Nat)} (hp : bP m n c y X s) (h : ∀ b, Y b → X b) : bP m n c y Y s := by
  rcases hp with z | ⟨z0, z1, z2, z3⟩
  · exact Or.inl z
  · exact Or.inr ⟨z0, z1, z2, fun b hb => z3 b (h b hb)⟩
/-- nobody can deal more than is left -/
theorem Xs_bound (hy : ∀ k, k < n → 0 ≤ y k) {d : Nat} {e : Nat → Nat} {w : Int} {b : Nat → Nat} (hd : d ≤ n) (h : Xs m n c y d e w b) : dY m y b n ≤ sm (fun i => if e i < m then y (n - 1 - i) else 0) d + sm y (n - d) := by
  unfold dY
  rw [sm_pre _ n d hd]
  have h1 : sm (fun k => if b k < m then y k else 0) (n - d) ≤ sm y (n - d) := sm_le _ (fun k hk => by
    show (if b k < m then y k else 0) ≤ y k
    split
    · omega
    · exact hy k (by omega))
  have h2 : sm (fun i => if b (n - 1 - i) < m then y (n - 1 - i) else 0) d = sm (fun i => if e i < m then y (n - 1 - i) else 0) d := sm_congr d (fun i hi => by rw [h.2.1 i hi])
  omega
theorem Xs_cap (hy : ∀ k, k < n → 0 ≤ y k) {d : Nat} {e : Nat → Nat} {w : Int} {b : Nat → Nat} {l : Nat} (hd : d < n) (hl : l < m) (h : Xs m n c y d e w b) (hb : b (n - 1 - d) = l) : sm (fun i => if e i = l then y (n - 1 - i) else 0) d + y (n - 1 - d) ≤ c l := by
  have h1 := h.1.2 l hl
  rw [sm_pre _ n (d + 1) (by omega)] at h1
  have h2 : 0 ≤ sm (fun k => if b k = l then y k else 0) (n - (d + 1)) := sm_nn _ (fun k hk => by
    show 0 ≤ if b k = l then y k else 0
    split
    · exact hy k (by omega)
    · omega)
  have h3 : sm (fun i => if b (n - 1 - i) = l then y (n - 1 - i) else 0) d = sm (fun i => if e i = l then y (n - 1 - i) else 0) d := sm_congr d (fun i hi => by rw [h.2.1 i hi])
  have h4 : sm (fun i => if b (n - 1 - i) = l then y (n - 1 - i) else 0) (d + 1) = sm (fun i => if b (n - 1 - i) = l then y (n - 1 - i) else 0) d + (if b (n - 1 - d) = l then y (n - 1 - d) else 0) := rfl
  rw [if_pos hb] at h4
  omega
theorem Xs_lex (hm : m ≤ 4) {d : Nat} {e : Nat → Nat} {w w' : Int} {b b' : Nat → Nat} {x : Nat} (hd : d < n) (h : Xs m n c y (d + 1) (fun i => if i = d then x else e i) w b) (h' : Xs m n c y d e w' b') (hx : x < b' (n - 1 - d)) : dO b n < dO b' n := by
  have e1 : b (n - 1 - d) = (if d = d then x else e d) := h.2.1 d (by omega)
  rw [if_pos rfl] at e1
  refine dO_lex b b' (n - 1 - d) (by omega) (fun k hk => dok4 hm h.1 k (by omega)) n (by omega) (fun k h1 h2 => ?_)
  have a1 : b (n - 1 - (n - 1 - k)) = (if n - 1 - k = d then x else e (n - 1 - k)) := h.2.1 (n - 1 - k) (by omega)
  have a2 := h'.2.1 (n - 1 - k) (by omega)
  rw [if_neg (by omega)] at a1
  rw [show n - 1 - (n - 1 - k) = k by omega] at a1 a2
  omega
end DealR2
