/-! ===== small methods ===== -/
theorem bt_7 {v : Int} (h : 0 ≤ v ∧ v < 16) : ab_b (fun a b => a &&& b) v 7 = v % 8 := by
  obtain ⟨h0, h1⟩ := h
  have : v = 0 ∨ v = 1 ∨ v = 2 ∨ v = 3 ∨ v = 4 ∨ v = 5 ∨ v = 6 ∨ v = 7 ∨ v = 8 ∨ v = 9 ∨ v = 10 ∨ v = 11 ∨ v = 12 ∨ v = 13 ∨ v = 14 ∨ v = 15 := by omega
  rcases this with rfl | rfl | rfl | rfl | rfl | rfl | rfl | rfl | rfl | rfl | rfl | rfl | rfl | rfl | rfl | rfl <;> decide
theorem bt_8 {v : Int} (h : 0 ≤ v ∧ v < 16) : ab_b (fun a b => a &&& b) v 8 = 8 * (v / 8) := by
  obtain ⟨h0, h1⟩ := h
  have : v = 0 ∨ v = 1 ∨ v = 2 ∨ v = 3 ∨ v = 4 ∨ v = 5 ∨ v = 6 ∨ v = 7 ∨ v = 8 ∨ v = 9 ∨ v = 10 ∨ v = 11 ∨ v = 12 ∨ v = 13 ∨ v = 14 ∨ v = 15 := by omega
  rcases this with rfl | rfl | rfl | rfl | rfl | rfl | rfl | rfl | rfl | rfl | rfl | rfl | rfl | rfl | rfl | rfl <;> decide
theorem bt_x {v : Int} (h : 0 ≤ v ∧ v < 16) : ab_b (fun a b => a ^^^ b) v 8 = v % 8 + 8 * (1 - v / 8) := by
  obtain ⟨h0, h1⟩ := h
  have : v = 0 ∨ v = 1 ∨ v = 2 ∨ v = 3 ∨ v = 4 ∨ v = 5 ∨ v = 6 ∨ v = 7 ∨ v = 8 ∨ v = 9 ∨ v = 10 ∨ v = 11 ∨ v = 12 ∨ v = 13 ∨ v = 14 ∨ v = 15 := by omega
  rcases this with rfl | rfl | rfl | rfl | rfl | rfl | rfl | rfl | rfl | rfl | rfl | rfl | rfl | rfl | rfl | rfl <;> decide
theorem bt_o {f v : Int} (hf : f = 0 ∨ f = 1) (h : 0 ≤ v ∧ v < 8) : ab_b (fun a b => a ||| b) (8 * f) v = 8 * f + v := by
  obtain ⟨h0, h1⟩ := h
  have : v = 0 ∨ v = 1 ∨ v = 2 ∨ v = 3 ∨ v = 4 ∨ v = 5 ∨ v = 6 ∨ v = 7 := by omega
  rcases hf with rfl | rfl <;> rcases this with rfl | rfl | rfl | rfl | rfl | rfl | rfl | rfl <;> decide
theorem c_X8_isFromTo (L : Nat) (M : ab_Me) (x a b : Int) : cF L 1 mX8_isFromTo [.inl x, .inl a, .inl b] M (if a ≤ x ∧ x ≤ b then 1 else 0) := by
  refine cF_of rfl ?_
  change wp _ _ _ 0 [some (.inl x), some (.inl a), some (.inl b)] [] _ _
  refine wp_il0 iX8_isFromTo_0 ?_
  refine wp_il1 iX8_isFromTo_1 ?_
  refine wp_clt iX8_isFromTo_2 (fun c_2 => ?_) (fun c_2 => ?_)
  · refine wp_ic iX8_isFromTo_14 (by decide) ?_
    refine wp_retb iX8_isFromTo_15 rfl (by decide) ?_
    (simp; omega)
  · refine wp_il0 iX8_isFromTo_5 ?_
    refine wp_il2 iX8_isFromTo_6 ?_
    refine wp_cgt iX8_isFromTo_7 (fun c_7 => ?_) (fun c_7 => ?_)
    · refine wp_ic iX8_isFromTo_14 (by decide) ?_
      refine wp_retb iX8_isFromTo_15 rfl (by decide) ?_
      (simp; omega)
    · refine wp_ic iX8_isFromTo_10 (by decide) ?_
      refine wp_goto iX8_isFromTo_11 ?_
      refine wp_retb iX8_isFromTo_15 rfl (by decide) ?_
      (simp; omega)
theorem c_X8_isBelow (L : Nat) (M : ab_Me) (x a : Int) : cF L 1 mX8_isBelow [.inl x, .inl a] M (if 0 ≤ x ∧ x < a then 1 else 0) := by
  refine cF_of rfl ?_
  change wp _ _ _ 0 [some (.inl x), some (.inl a)] [] _ _
  refine wp_il0 iX8_isBelow_0 ?_
  refine wp_zlt iX8_isBelow_1 (fun c_1 => ?_) (fun c_1 => ?_)
  · refine wp_ic iX8_isBelow_13 (by decide) ?_
    refine wp_retb iX8_isBelow_14 rfl (by decide) ?_
    (simp; omega)
  · refine wp_il0 iX8_isBelow_4 ?_
    refine wp_il1 iX8_isBelow_5 ?_
    refine wp_cge iX8_isBelow_6 (fun c_6 => ?_) (fun c_6 => ?_)
    · refine wp_ic iX8_isBelow_13 (by decide) ?_
      refine wp_retb iX8_isBelow_14 rfl (by decide) ?_
      (simp; omega)
    · refine wp_ic iX8_isBelow_9 (by decide) ?_
      refine wp_goto iX8_isBelow_10 ?_
      refine wp_retb iX8_isBelow_14 rfl (by decide) ?_
      (simp; omega)
