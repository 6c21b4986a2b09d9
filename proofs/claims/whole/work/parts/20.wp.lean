/-! ===== the layout behind the two constructors, and the rules of the small machine over it (written by program) ===== -/
def LAY (L : Nat) : List ab_CD := [.inr (0, L), .inl (8, [2, 18, 0, 0, 0, 34, 41, 49]), .inl (6, [3, 5, 8, 11]), .inl (0, [0, 0, 4]), .inr (0, 120), .inl (4, [0, 6, 7]), .inr (0, 12), .inr (0, 12), .inl (7, [0, 9, 10]), .inr (0, 4), .inr (1, 4), .inl (3, [0, 0, 12, 13, 14, 15, 0, 16, 17]), .inr (0, 4), .inr (0, 4), .inr (0, 4), .inr (0, 4), .inr (0, 44), .inr (0, 4), .inl (6, [19, 21, 24, 27]), .inl (0, [0, 0, 20]), .inr (0, 120), .inl (4, [0, 22, 23]), .inr (0, 12), .inr (0, 12), .inl (7, [0, 25, 26]), .inr (0, 4), .inr (1, 4), .inl (3, [0, 0, 28, 29, 30, 31, 0, 32, 33]), .inr (0, 4), .inr (0, 4), .inr (0, 4), .inr (0, 4), .inr (0, 44), .inr (0, 4), .inl (2, [0, 35, 36, 37, 38, 39, 40, 0]), .inr (0, 120), .inr (0, 120), .inr (0, 120), .inr (0, 120), .inr (0, 120), .inr (0, 120), .inl (1, [0, 42, 43, 0, 44, 45, 46, 47, 48]), .inr (0, 8), .inr (0, 8), .inr (0, 4), .inr (0, 256), .inr (0, 256), .inr (0, 256), .inr (0, 1024), .inl (5, [0, 0, 50, 51, 0, 52, 53, 54, 55]), .inr (0, 4), .inr (0, 4), .inr (0, 13), .inr (0, 13), .inr (0, 4), .inr (0, 4), .inl (9, [0, 0, 57, 58, 0, 59, 60, 0, 61, 62, 0, 0, 0, 0, 63, 64, 65, 66, 0, 67, 68, 69, 70, 71, 0, 72, 73, 74, 75, 0, 76, 0, 77, 78, 79, 80, 0, 81, 82, 83, 84, 0, 0, 85]), .inr (0, 120), .inr (1, 120), .inr (0, 12), .inr (0, 12), .inr (0, 4), .inr (1, 4), .inr (0, 4), .inr (0, 4), .inr (0, 4), .inr (0, 4), .inr (0, 6), .inr (0, 120), .inr (0, 24), .inr (0, 8), .inr (0, 16), .inr (0, 120), .inr (0, 120), .inr (0, 120), .inr (0, 120), .inr (0, 8), .inr (0, 4), .inr (0, 4), .inr (0, 8), .inr (0, 8), .inr (0, 5), .inr (0, 5), .inr (0, 5), .inr (0, 4), .inr (0, 4)]
abbrev ab_Me : Type := Nat → Nat → Int
def wp (L d : Nat) (m : ab_M) (pc : Nat) (ls : ab_L) (st : List ab_V) (M : ab_Me) (Q : Option ab_V → ab_Me → Prop) : Prop := ∃ (n : Nat) (r : Option ab_V) (M1 : ab_Me), ab_run (ab_call d) m n pc ls st (LAY L, M) r (LAY L, M1) ∧ Q r M1
def ct (L d : Nat) (m : ab_M) (as : List ab_V) (M : ab_Me) (Q : Option ab_V → ab_Me → Prop) : Prop := ∃ (r : Option ab_V) (M1 : ab_Me), ab_call d m as (LAY L, M) r (LAY L, M1) ∧ Q r M1
def cF (L d : Nat) (m : ab_M) (as : List ab_V) (M : ab_Me) (v : Int) : Prop := ab_call d m as (LAY L, M) (some (.inl v)) (LAY L, M)
def cG (L d : Nat) (m : ab_M) (as : List ab_V) (M : ab_Me) (v : Int) (M1 : ab_Me) : Prop := ab_call d m as (LAY L, M) (some (.inl v)) (LAY L, M1)
def cV (L d : Nat) (m : ab_M) (as : List ab_V) (M M1 : ab_Me) : Prop := ab_call d m as (LAY L, M) none (LAY L, M1)
def ab_at (m : ab_M) (pc : Nat) (i : Instr) (len q : Nat) : Prop := decode m.2.1 pc = .ok (i, len) ∧ pc + len = q
def ab_bc (m : ab_M) (pc : Nat) (c : Jvm.ClassFile.Cond) (q t : Nat) : Prop := ∃ off, decode m.2.1 pc = .ok (.if_icmp c off, 3) ∧ pc + 3 = q ∧ ab_j pc off = some t
def ab_bi (m : ab_M) (pc : Nat) (c : Jvm.ClassFile.Cond) (q t : Nat) : Prop := ∃ off, decode m.2.1 pc = .ok (.ifCond c off, 3) ∧ pc + 3 = q ∧ ab_j pc off = some t
def ab_bg (m : ab_M) (pc t : Nat) : Prop := ∃ off, decode m.2.1 pc = .ok (.goto off, 3) ∧ ab_j pc off = some t
def ab_FI (own : String) (ix ci k : Nat) : Prop := ab_F own ix ci k ∧ ab_isR ci k = false
def ab_FR (own : String) (ix ci k : Nat) : Prop := ab_F own ix ci k ∧ ab_isR ci k = true
def ab_FP (own : String) (ix ci k : Nat) : Prop := ab_F own ix ci k ∧ ab_ty ci k = .int ∧ ((vwCl[ci]?).map fun q => (q.2.1 k).2.2.2) = some false
def ab_FB (own : String) (ix ci k : Nat) : Prop := ab_F own ix ci k ∧ ab_ty ci k = .boolean ∧ ((vwCl[ci]?).map fun q => (q.2.1 k).2.2.2) = some false
theorem fr_8_10 : ab_FR RX8 10 8 0 := ⟨fl_8_10, rfl⟩
theorem fr_8_16 : ab_FR RX8 16 8 1 := ⟨fl_8_16, rfl⟩
theorem fi_8_19 : ab_FI RX8 19 8 2 := ⟨fl_8_19, rfl⟩
theorem fb_8_19 : ab_FB RX8 19 8 2 := ⟨fl_8_19, rfl, rfl⟩
theorem fi_8_23 : ab_FI RX8 23 8 3 := ⟨fl_8_23, rfl⟩
theorem fp_8_23 : ab_FP RX8 23 8 3 := ⟨fl_8_23, rfl, rfl⟩
theorem fi_8_27 : ab_FI RX8 27 8 4 := ⟨fl_8_27, rfl⟩
theorem fp_8_27 : ab_FP RX8 27 8 4 := ⟨fl_8_27, rfl, rfl⟩
theorem fr_8_33 : ab_FR RX8 33 8 5 := ⟨fl_8_33, rfl⟩
theorem fr_8_40 : ab_FR RX8 40 8 6 := ⟨fl_8_40, rfl⟩
theorem fr_8_47 : ab_FR RX8 47 8 7 := ⟨fl_8_47, rfl⟩
theorem fr_8_55 : ab_FR RX8 55 6 0 := ⟨fl_8_55, rfl⟩
theorem fr_8_65 : ab_FR RX8 65 6 3 := ⟨fl_8_65, rfl⟩
theorem fi_8_74 : ab_FI RX8 74 0 0 := ⟨fl_8_74, rfl⟩
theorem fp_8_74 : ab_FP RX8 74 0 0 := ⟨fl_8_74, rfl, rfl⟩
theorem fi_8_80 : ab_FI RX8 80 0 1 := ⟨fl_8_80, rfl⟩
theorem fp_8_80 : ab_FP RX8 80 0 1 := ⟨fl_8_80, rfl, rfl⟩
theorem fr_8_105 : ab_FR RX8 105 0 2 := ⟨fl_8_105, rfl⟩
theorem fr_8_126 : ab_FR RX8 126 2 1 := ⟨fl_8_126, rfl⟩
theorem fi_8_129 : ab_FI RX8 129 2 0 := ⟨fl_8_129, rfl⟩
theorem fp_8_129 : ab_FP RX8 129 2 0 := ⟨fl_8_129, rfl, rfl⟩
theorem fr_8_135 : ab_FR RX8 135 2 2 := ⟨fl_8_135, rfl⟩
theorem fr_8_138 : ab_FR RX8 138 2 3 := ⟨fl_8_138, rfl⟩
theorem fr_8_141 : ab_FR RX8 141 2 4 := ⟨fl_8_141, rfl⟩
theorem fr_8_144 : ab_FR RX8 144 2 5 := ⟨fl_8_144, rfl⟩
theorem fr_8_147 : ab_FR RX8 147 6 1 := ⟨fl_8_147, rfl⟩
theorem fi_8_151 : ab_FI RX8 151 4 0 := ⟨fl_8_151, rfl⟩
theorem fp_8_151 : ab_FP RX8 151 4 0 := ⟨fl_8_151, rfl, rfl⟩
theorem fr_8_157 : ab_FR RX8 157 4 1 := ⟨fl_8_157, rfl⟩
theorem fr_8_158 : ab_FR RX8 158 4 2 := ⟨fl_8_158, rfl⟩
theorem fi_8_178 : ab_FI RX8 178 1 0 := ⟨fl_8_178, rfl⟩
theorem fp_8_178 : ab_FP RX8 178 1 0 := ⟨fl_8_178, rfl, rfl⟩
theorem fr_8_181 : ab_FR RX8 181 6 2 := ⟨fl_8_181, rfl⟩
theorem fi_8_185 : ab_FI RX8 185 7 0 := ⟨fl_8_185, rfl⟩
theorem fp_8_185 : ab_FP RX8 185 7 0 := ⟨fl_8_185, rfl, rfl⟩
theorem fr_8_191 : ab_FR RX8 191 7 1 := ⟨fl_8_191, rfl⟩
theorem fi_8_197 : ab_FI RX8 197 5 0 := ⟨fl_8_197, rfl⟩
theorem fp_8_197 : ab_FP RX8 197 5 0 := ⟨fl_8_197, rfl, rfl⟩
theorem fi_8_200 : ab_FI RX8 200 5 1 := ⟨fl_8_200, rfl⟩
theorem fp_8_200 : ab_FP RX8 200 5 1 := ⟨fl_8_200, rfl, rfl⟩
theorem fi_8_210 : ab_FI RX8 210 3 0 := ⟨fl_8_210, rfl⟩
theorem fp_8_210 : ab_FP RX8 210 3 0 := ⟨fl_8_210, rfl, rfl⟩
theorem fr_8_222 : ab_FR RX8 222 3 2 := ⟨fl_8_222, rfl⟩
theorem fr_8_224 : ab_FR RX8 224 3 3 := ⟨fl_8_224, rfl⟩
theorem fr_8_227 : ab_FR RX8 227 3 4 := ⟨fl_8_227, rfl⟩
theorem fr_8_230 : ab_FR RX8 230 3 5 := ⟨fl_8_230, rfl⟩
theorem fi_8_253 : ab_FI RX8 253 3 1 := ⟨fl_8_253, rfl⟩
theorem fp_8_253 : ab_FP RX8 253 3 1 := ⟨fl_8_253, rfl, rfl⟩
theorem fi_0_9 : ab_FI RX0 9 0 0 := ⟨fl_0_9, rfl⟩
theorem fp_0_9 : ab_FP RX0 9 0 0 := ⟨fl_0_9, rfl, rfl⟩
theorem fi_0_15 : ab_FI RX0 15 0 1 := ⟨fl_0_15, rfl⟩
theorem fp_0_15 : ab_FP RX0 15 0 1 := ⟨fl_0_15, rfl, rfl⟩
theorem fr_0_18 : ab_FR RX0 18 0 2 := ⟨fl_0_18, rfl⟩
theorem fi_1_9 : ab_FI RX1 9 1 0 := ⟨fl_1_9, rfl⟩
theorem fp_1_9 : ab_FP RX1 9 1 0 := ⟨fl_1_9, rfl, rfl⟩
theorem fr_1_15 : ab_FR RX1 15 1 1 := ⟨fl_1_15, rfl⟩
theorem fr_1_19 : ab_FR RX1 19 1 2 := ⟨fl_1_19, rfl⟩
theorem fi_1_22 : ab_FI RX1 22 1 3 := ⟨fl_1_22, rfl⟩
theorem fp_1_22 : ab_FP RX1 22 1 3 := ⟨fl_1_22, rfl, rfl⟩
theorem fr_1_25 : ab_FR RX1 25 1 4 := ⟨fl_1_25, rfl⟩
theorem fr_1_28 : ab_FR RX1 28 1 5 := ⟨fl_1_28, rfl⟩
theorem fr_1_31 : ab_FR RX1 31 1 6 := ⟨fl_1_31, rfl⟩
theorem fr_1_34 : ab_FR RX1 34 1 7 := ⟨fl_1_34, rfl⟩
theorem fr_1_37 : ab_FR RX1 37 1 8 := ⟨fl_1_37, rfl⟩
theorem fr_1_52 : ab_FR RX1 52 4 2 := ⟨fl_1_52, rfl⟩
theorem fi_1_64 : ab_FI RX1 64 2 0 := ⟨fl_1_64, rfl⟩
theorem fp_1_64 : ab_FP RX1 64 2 0 := ⟨fl_1_64, rfl, rfl⟩
theorem fr_1_69 : ab_FR RX1 69 2 2 := ⟨fl_1_69, rfl⟩
theorem fi_1_72 : ab_FI RX1 72 4 0 := ⟨fl_1_72, rfl⟩
theorem fp_1_72 : ab_FP RX1 72 4 0 := ⟨fl_1_72, rfl, rfl⟩
theorem fr_1_73 : ab_FR RX1 73 4 1 := ⟨fl_1_73, rfl⟩
theorem fr_1_74 : ab_FR RX1 74 2 4 := ⟨fl_1_74, rfl⟩
theorem fi_2_9 : ab_FI RX2 9 2 0 := ⟨fl_2_9, rfl⟩
theorem fp_2_9 : ab_FP RX2 9 2 0 := ⟨fl_2_9, rfl, rfl⟩
theorem fr_2_15 : ab_FR RX2 15 2 1 := ⟨fl_2_15, rfl⟩
theorem fr_2_19 : ab_FR RX2 19 2 2 := ⟨fl_2_19, rfl⟩
theorem fr_2_22 : ab_FR RX2 22 2 3 := ⟨fl_2_22, rfl⟩
theorem fr_2_25 : ab_FR RX2 25 2 4 := ⟨fl_2_25, rfl⟩
theorem fr_2_28 : ab_FR RX2 28 2 5 := ⟨fl_2_28, rfl⟩
theorem fr_2_31 : ab_FR RX2 31 2 6 := ⟨fl_2_31, rfl⟩
theorem fi_2_34 : ab_FI RX2 34 2 7 := ⟨fl_2_34, rfl⟩
theorem fp_2_34 : ab_FP RX2 34 2 7 := ⟨fl_2_34, rfl, rfl⟩
theorem fi_2_43 : ab_FI RX2 43 0 1 := ⟨fl_2_43, rfl⟩
theorem fp_2_43 : ab_FP RX2 43 0 1 := ⟨fl_2_43, rfl, rfl⟩
theorem fi_2_48 : ab_FI RX2 48 0 0 := ⟨fl_2_48, rfl⟩
theorem fp_2_48 : ab_FP RX2 48 0 0 := ⟨fl_2_48, rfl, rfl⟩
theorem fi_3_9 : ab_FI RX3 9 3 0 := ⟨fl_3_9, rfl⟩
theorem fp_3_9 : ab_FP RX3 9 3 0 := ⟨fl_3_9, rfl, rfl⟩
theorem fi_3_15 : ab_FI RX3 15 3 1 := ⟨fl_3_15, rfl⟩
theorem fp_3_15 : ab_FP RX3 15 3 1 := ⟨fl_3_15, rfl, rfl⟩
theorem fr_3_18 : ab_FR RX3 18 3 2 := ⟨fl_3_18, rfl⟩
theorem fr_3_22 : ab_FR RX3 22 3 3 := ⟨fl_3_22, rfl⟩
theorem fr_3_25 : ab_FR RX3 25 3 4 := ⟨fl_3_25, rfl⟩
theorem fr_3_28 : ab_FR RX3 28 3 5 := ⟨fl_3_28, rfl⟩
theorem fi_3_31 : ab_FI RX3 31 3 6 := ⟨fl_3_31, rfl⟩
theorem fp_3_31 : ab_FP RX3 31 3 6 := ⟨fl_3_31, rfl, rfl⟩
theorem fr_3_34 : ab_FR RX3 34 3 7 := ⟨fl_3_34, rfl⟩
theorem fr_3_37 : ab_FR RX3 37 3 8 := ⟨fl_3_37, rfl⟩
theorem fi_3_40 : ab_FI RX3 40 5 1 := ⟨fl_3_40, rfl⟩
theorem fp_3_40 : ab_FP RX3 40 5 1 := ⟨fl_3_40, rfl, rfl⟩
theorem fi_3_43 : ab_FI RX3 43 0 1 := ⟨fl_3_43, rfl⟩
theorem fp_3_43 : ab_FP RX3 43 0 1 := ⟨fl_3_43, rfl, rfl⟩
theorem fr_3_48 : ab_FR RX3 48 5 2 := ⟨fl_3_48, rfl⟩
theorem fr_3_49 : ab_FR RX3 49 5 3 := ⟨fl_3_49, rfl⟩
theorem fr_3_81 : ab_FR RX3 81 7 1 := ⟨fl_3_81, rfl⟩
theorem fi_4_9 : ab_FI RX4 9 4 0 := ⟨fl_4_9, rfl⟩
theorem fp_4_9 : ab_FP RX4 9 4 0 := ⟨fl_4_9, rfl, rfl⟩
theorem fr_4_15 : ab_FR RX4 15 4 1 := ⟨fl_4_15, rfl⟩
theorem fr_4_19 : ab_FR RX4 19 4 2 := ⟨fl_4_19, rfl⟩
theorem fi_5_10 : ab_FI RX5 10 5 0 := ⟨fl_5_10, rfl⟩
theorem fp_5_10 : ab_FP RX5 10 5 0 := ⟨fl_5_10, rfl, rfl⟩
theorem fi_5_16 : ab_FI RX5 16 5 1 := ⟨fl_5_16, rfl⟩
theorem fp_5_16 : ab_FP RX5 16 5 1 := ⟨fl_5_16, rfl, rfl⟩
theorem fr_5_19 : ab_FR RX5 19 5 2 := ⟨fl_5_19, rfl⟩
theorem fr_5_23 : ab_FR RX5 23 5 3 := ⟨fl_5_23, rfl⟩
theorem fi_5_26 : ab_FI RX5 26 5 4 := ⟨fl_5_26, rfl⟩
theorem fp_5_26 : ab_FP RX5 26 5 4 := ⟨fl_5_26, rfl, rfl⟩
theorem fr_5_29 : ab_FR RX5 29 5 5 := ⟨fl_5_29, rfl⟩
theorem fr_5_32 : ab_FR RX5 32 5 6 := ⟨fl_5_32, rfl⟩
theorem fr_5_35 : ab_FR RX5 35 5 7 := ⟨fl_5_35, rfl⟩
theorem fr_5_38 : ab_FR RX5 38 5 8 := ⟨fl_5_38, rfl⟩
theorem fi_5_41 : ab_FI RX5 41 0 0 := ⟨fl_5_41, rfl⟩
theorem fp_5_41 : ab_FP RX5 41 0 0 := ⟨fl_5_41, rfl, rfl⟩
theorem fi_5_59 : ab_FI RX5 59 7 0 := ⟨fl_5_59, rfl⟩
theorem fp_5_59 : ab_FP RX5 59 7 0 := ⟨fl_5_59, rfl, rfl⟩
theorem fr_5_74 : ab_FR RX5 74 7 2 := ⟨fl_5_74, rfl⟩
theorem fr_6_10 : ab_FR RX6 10 6 0 := ⟨fl_6_10, rfl⟩
theorem fr_6_19 : ab_FR RX6 19 6 1 := ⟨fl_6_19, rfl⟩
theorem fr_6_26 : ab_FR RX6 26 6 2 := ⟨fl_6_26, rfl⟩
theorem fr_6_33 : ab_FR RX6 33 6 3 := ⟨fl_6_33, rfl⟩
theorem fi_7_9 : ab_FI RX7 9 7 0 := ⟨fl_7_9, rfl⟩
theorem fp_7_9 : ab_FP RX7 9 7 0 := ⟨fl_7_9, rfl, rfl⟩
theorem fr_7_15 : ab_FR RX7 15 7 1 := ⟨fl_7_15, rfl⟩
theorem fr_7_19 : ab_FR RX7 19 7 2 := ⟨fl_7_19, rfl⟩
theorem fi_9_7 : ab_FI RX9 7 9 0 := ⟨fl_9_7, rfl⟩
theorem fp_9_7 : ab_FP RX9 7 9 0 := ⟨fl_9_7, rfl, rfl⟩
theorem fi_9_13 : ab_FI RX9 13 9 1 := ⟨fl_9_13, rfl⟩
theorem fp_9_13 : ab_FP RX9 13 9 1 := ⟨fl_9_13, rfl, rfl⟩
theorem fr_9_16 : ab_FR RX9 16 9 2 := ⟨fl_9_16, rfl⟩
theorem fr_9_20 : ab_FR RX9 20 9 3 := ⟨fl_9_20, rfl⟩
theorem fr_9_24 : ab_FR RX9 24 9 5 := ⟨fl_9_24, rfl⟩
theorem fr_9_27 : ab_FR RX9 27 9 6 := ⟨fl_9_27, rfl⟩
theorem fr_9_30 : ab_FR RX9 30 9 8 := ⟨fl_9_30, rfl⟩
theorem fr_9_33 : ab_FR RX9 33 9 9 := ⟨fl_9_33, rfl⟩
theorem fi_9_36 : ab_FI RX9 36 9 10 := ⟨fl_9_36, rfl⟩
theorem fp_9_36 : ab_FP RX9 36 9 10 := ⟨fl_9_36, rfl, rfl⟩
theorem fi_9_39 : ab_FI RX9 39 9 11 := ⟨fl_9_39, rfl⟩
theorem fp_9_39 : ab_FP RX9 39 9 11 := ⟨fl_9_39, rfl, rfl⟩
theorem fr_9_42 : ab_FR RX9 42 9 14 := ⟨fl_9_42, rfl⟩
theorem fr_9_45 : ab_FR RX9 45 9 15 := ⟨fl_9_45, rfl⟩
theorem fr_9_48 : ab_FR RX9 48 9 16 := ⟨fl_9_48, rfl⟩
theorem fr_9_51 : ab_FR RX9 51 9 17 := ⟨fl_9_51, rfl⟩
theorem fr_9_54 : ab_FR RX9 54 9 19 := ⟨fl_9_54, rfl⟩
theorem fr_9_57 : ab_FR RX9 57 9 20 := ⟨fl_9_57, rfl⟩
theorem fr_9_60 : ab_FR RX9 60 9 21 := ⟨fl_9_60, rfl⟩
theorem fr_9_63 : ab_FR RX9 63 9 22 := ⟨fl_9_63, rfl⟩
theorem fr_9_66 : ab_FR RX9 66 9 23 := ⟨fl_9_66, rfl⟩
theorem fr_9_69 : ab_FR RX9 69 9 25 := ⟨fl_9_69, rfl⟩
theorem fr_9_72 : ab_FR RX9 72 9 26 := ⟨fl_9_72, rfl⟩
theorem fr_9_75 : ab_FR RX9 75 9 27 := ⟨fl_9_75, rfl⟩
theorem fr_9_78 : ab_FR RX9 78 9 28 := ⟨fl_9_78, rfl⟩
theorem fr_9_81 : ab_FR RX9 81 9 30 := ⟨fl_9_81, rfl⟩
theorem fr_9_84 : ab_FR RX9 84 9 32 := ⟨fl_9_84, rfl⟩
theorem fr_9_87 : ab_FR RX9 87 9 33 := ⟨fl_9_87, rfl⟩
theorem fr_9_90 : ab_FR RX9 90 9 34 := ⟨fl_9_90, rfl⟩
theorem fr_9_93 : ab_FR RX9 93 9 35 := ⟨fl_9_93, rfl⟩
theorem fr_9_96 : ab_FR RX9 96 9 37 := ⟨fl_9_96, rfl⟩
theorem fr_9_99 : ab_FR RX9 99 9 38 := ⟨fl_9_99, rfl⟩
theorem fr_9_102 : ab_FR RX9 102 9 39 := ⟨fl_9_102, rfl⟩
theorem fr_9_105 : ab_FR RX9 105 9 40 := ⟨fl_9_105, rfl⟩
theorem fr_9_108 : ab_FR RX9 108 9 43 := ⟨fl_9_108, rfl⟩
theorem fi_9_115 : ab_FI RX9 115 9 12 := ⟨fl_9_115, rfl⟩
theorem fp_9_115 : ab_FP RX9 115 9 12 := ⟨fl_9_115, rfl, rfl⟩
theorem fi_9_143 : ab_FI RX9 143 9 24 := ⟨fl_9_143, rfl⟩
theorem fp_9_143 : ab_FP RX9 143 9 24 := ⟨fl_9_143, rfl, rfl⟩
theorem fi_9_152 : ab_FI RX9 152 9 4 := ⟨fl_9_152, rfl⟩
theorem fp_9_152 : ab_FP RX9 152 9 4 := ⟨fl_9_152, rfl, rfl⟩
theorem fi_9_155 : ab_FI RX9 155 9 29 := ⟨fl_9_155, rfl⟩
theorem fp_9_155 : ab_FP RX9 155 9 29 := ⟨fl_9_155, rfl, rfl⟩
theorem fi_9_158 : ab_FI RX9 158 9 31 := ⟨fl_9_158, rfl⟩
theorem fp_9_158 : ab_FP RX9 158 9 31 := ⟨fl_9_158, rfl, rfl⟩
theorem fi_9_165 : ab_FI RX9 165 9 36 := ⟨fl_9_165, rfl⟩
theorem fp_9_165 : ab_FP RX9 165 9 36 := ⟨fl_9_165, rfl, rfl⟩
theorem fi_9_174 : ab_FI RX9 174 9 7 := ⟨fl_9_174, rfl⟩
theorem fp_9_174 : ab_FP RX9 174 9 7 := ⟨fl_9_174, rfl, rfl⟩
theorem fi_9_186 : ab_FI RX9 186 9 41 := ⟨fl_9_186, rfl⟩
theorem fp_9_186 : ab_FP RX9 186 9 41 := ⟨fl_9_186, rfl, rfl⟩
theorem fi_9_189 : ab_FI RX9 189 9 42 := ⟨fl_9_189, rfl⟩
theorem fp_9_189 : ab_FP RX9 189 9 42 := ⟨fl_9_189, rfl, rfl⟩
theorem fi_9_202 : ab_FI RX9 202 9 13 := ⟨fl_9_202, rfl⟩
theorem fp_9_202 : ab_FP RX9 202 9 13 := ⟨fl_9_202, rfl, rfl⟩
theorem fi_9_227 : ab_FI RX9 227 9 18 := ⟨fl_9_227, rfl⟩
theorem fb_9_227 : ab_FB RX9 227 9 18 := ⟨fl_9_227, rfl, rfl⟩
section WpRules
variable {L d : Nat} {m : ab_M} {pc q t : Nat} {ls l : ab_L} {st : List ab_V} {M : ab_Me} {Q : Option ab_V → ab_Me → Prop} {x y z : Int} {a : Nat}
theorem wp_ps {i : Instr} {len pc1 : Nat} {ls1 : ab_L} {st1 : List ab_V} (hd : decode m.2.1 pc = .ok (i, len)) (h : ab_ps i len pc ls st = some (pc1, ls1, st1)) (k : wp L d m pc1 ls1 st1 M Q) : wp L d m pc ls st M Q := by
  obtain ⟨n, r, M1, e1, e2⟩ := k
  exact ⟨n + 1, r, M1, ⟨i, len, hd, Or.inl ⟨_, _, _, h, e1⟩⟩, e2⟩
theorem wp_hs {i : Instr} {len : Nat} {st1 : List ab_V} {M1 : ab_Me} (h0 : ab_at m pc i len q) (h : ab_hs m i len st (LAY L, M) st1 (LAY L, M1)) (k : wp L d m q ls st1 M1 Q) : wp L d m pc ls st M Q := by
  obtain ⟨n, r, M2, e1, e2⟩ := k
  obtain ⟨hd, rfl⟩ := h0
  exact ⟨n + 1, r, M2, ⟨i, len, hd, Or.inr (Or.inl ⟨_, _, h, e1⟩)⟩, e2⟩
theorem wp_iv {i : Instr} {m1 : ab_M} {as rest : List ab_V} {r1 : Option ab_V} {M1 : ab_Me} {d1 : Nat} (h0 : ab_at m pc i 3 q) (h : ab_iv m i 3 m1 as (LAY L, M)) (hn : as.length = m1.2.2.2.2) (hrest : Nat.ble rest.length 8 = true) (hd1 : Nat.ble d1 d = true) (hc : ab_call d1 m1 as (LAY L, M) r1 (LAY L, M1)) (k : wp L d m q ls (r1.toList ++ rest) M1 Q) : wp L d m pc ls (as.reverse ++ rest) M Q := by
  obtain ⟨n, r, M2, e1, e2⟩ := k
  obtain ⟨hd, rfl⟩ := h0
  exact ⟨n + 1, r, M2, ⟨i, 3, hd, Or.inr (Or.inr (Or.inl ⟨m1, as, rest, r1, _, h, rfl, hn, Nat.le_of_ble_eq_true hrest, ab_call_mono (Nat.le_of_ble_eq_true hd1) hc, e1⟩))⟩, e2⟩
theorem wp_ret (h : ab_at m pc .ireturn 1 q) (hr : m.2.2.2.1 = some .int) (k : Q (some (.inl z)) M) : wp L d m pc ls [.inl z] M Q := ⟨1, _, M, ⟨_, _, h.1, Or.inr (Or.inr (Or.inr (Or.inl ⟨rfl, rfl, ⟨z, rfl, rfl, Or.inl hr⟩, rfl⟩)))⟩, k⟩
theorem wp_retb (h : ab_at m pc .ireturn 1 q) (hr : m.2.2.2.1 = some .boolean) (hz : z = 0 ∨ z = 1) (k : Q (some (.inl z)) M) : wp L d m pc ls [.inl z] M Q := ⟨1, _, M, ⟨_, _, h.1, Or.inr (Or.inr (Or.inr (Or.inl ⟨rfl, rfl, ⟨z, rfl, rfl, Or.inr ⟨hr, hz⟩⟩, rfl⟩)))⟩, k⟩
theorem wp_retv (h : ab_at m pc .return_ 1 q) (hr : m.2.2.2.1 = none) (k : Q none M) : wp L d m pc ls [] M Q := ⟨1, _, M, ⟨_, _, h.1, Or.inr (Or.inr (Or.inr (Or.inr ⟨rfl, rfl, hr, rfl, rfl, rfl⟩)))⟩, k⟩
theorem wp_ic (h : ab_at m pc (.iconst z) 1 q) (hz : -128 ≤ z ∧ z < 128) (k : wp L d m q ls (.inl z :: st) M Q) : wp L d m pc ls st M Q := by
  obtain ⟨hd, rfl⟩ := h
  exact wp_ps hd (by simp [ab_ps, hz]) k
theorem wp_bp (h : ab_at m pc (.bipush z) 2 q) (hz : -128 ≤ z ∧ z < 128) (k : wp L d m q ls (.inl z :: st) M Q) : wp L d m pc ls st M Q := by
  obtain ⟨hd, rfl⟩ := h
  exact wp_ps hd (by simp [ab_ps, hz]) k
theorem wp_sp (h : ab_at m pc (.sipush z) 3 q) (hz : -32768 ≤ z ∧ z < 32768) (k : wp L d m q ls (.inl z :: st) M Q) : wp L d m pc ls st M Q := by
  obtain ⟨hd, rfl⟩ := h
  exact wp_ps hd (by simp [ab_ps, hz]) k
theorem wp_ldc {ix : Nat} (h : ab_at m pc (.ldc ix) 2 q) (hk : ab_K m.1.cls ix z) (hz : -2147483648 ≤ z ∧ z < 2147483648) (k : wp L d m q ls (.inl z :: st) M Q) : wp L d m pc ls st M Q :=
  wp_hs h (Or.inr (Or.inr (Or.inr (Or.inr (Or.inr (Or.inr (Or.inr (Or.inr (Or.inr (Or.inl ⟨ix, z, rfl, rfl, hk, hz, rfl, rfl⟩)))))))))) k
theorem wp_dup {v : ab_V} (h : ab_at m pc .dup 1 q) (k : wp L d m q ls (v :: v :: st) M Q) : wp L d m pc ls (v :: st) M Q := by
  obtain ⟨hd, rfl⟩ := h
  exact wp_ps hd (by simp [ab_ps]) k
theorem wp_dup2 {v w : ab_V} (h : ab_at m pc .dup2 1 q) (k : wp L d m q ls (v :: w :: v :: w :: st) M Q) : wp L d m pc ls (v :: w :: st) M Q := by
  obtain ⟨hd, rfl⟩ := h
  exact wp_ps hd (by simp [ab_ps]) k
theorem wp_goto (h : ab_bg m pc t) (k : wp L d m t ls st M Q) : wp L d m pc ls st M Q := by
  obtain ⟨off, hd, hj⟩ := h
  exact wp_ps hd (by simp [ab_ps, hj]) k
theorem ab_add_eq (h : -2147483648 ≤ x + y ∧ x + y < 2147483648) : ab_b (fun a b => a + b) x y = x + y := by
  show (Int32.ofInt x + Int32.ofInt y).toInt = x + y
  rw [← Int32.ofInt_add, ab_toInt h]
theorem ab_sub_eq (h : -2147483648 ≤ x - y ∧ x - y < 2147483648) : ab_b (fun a b => a - b) x y = x - y := by
  show (Int32.ofInt x - Int32.ofInt y).toInt = x - y
  rw [← Int32.ofInt_sub, ab_toInt h]
theorem ab_mul_eq (h : -2147483648 ≤ x * y ∧ x * y < 2147483648) : ab_b (fun a b => a * b) x y = x * y := by
  show (Int32.ofInt x * Int32.ofInt y).toInt = x * y
  rw [← Int32.ofInt_mul, ab_toInt h]
theorem ab_divle (hx : 0 ≤ x) (hy : 0 < y) : 0 ≤ x / y ∧ x / y ≤ x := ⟨Int.ediv_nonneg hx (by omega), Int.ediv_le_self y hx⟩
theorem ab_div_eq (h : 0 ≤ x ∧ x < 2147483648 ∧ 0 < y ∧ y < 2147483648) : ab_b (fun a b => a / b) x y = x / y := by
  obtain ⟨h1, h2, h3, h4⟩ := h
  have hd := ab_divle h1 h3
  unfold ab_b
  rw [Int32.toInt_div, ab_toInt ⟨by omega, h2⟩, ab_toInt ⟨by omega, h4⟩, Int.tdiv_eq_ediv_of_nonneg h1, Int.bmod_eq_of_le (by omega) (by omega)]
theorem ab_rem_eq (h : 0 ≤ x ∧ x < 2147483648 ∧ 0 < y ∧ y < 2147483648) : ab_b (fun a b => a - a / b * b) x y = x % y := by
  have hq := ab_div_eq h
  obtain ⟨h1, h2, h3, h4⟩ := h
  have hd := ab_divle h1 h3
  unfold ab_b at hq ⊢
  have e : Int32.ofInt x / Int32.ofInt y = Int32.ofInt (x / y) := by rw [← hq, Int32.ofInt_toInt]
  have e2 : x - x / y * y = x % y := by have := Int.mul_ediv_add_emod x y; rw [Int.mul_comm] at this; omega
  have hm := Int.emod_nonneg x (by omega : y ≠ 0)
  have hm2 := Int.emod_lt_of_pos x h3
  show (Int32.ofInt x - Int32.ofInt x / Int32.ofInt y * Int32.ofInt y).toInt = x % y
  rw [e, ← Int32.ofInt_mul, ← Int32.ofInt_sub, e2, ab_toInt ⟨by omega, by omega⟩]
theorem wp_bin {f : Int32 → Int32 → Int32} {i : Instr} (h : ab_at m pc i 1 q) (hi : ∀ ls st, ab_ps i 1 pc ls st = ab_bin f 1 pc ls st) (hz : ab_b f x y = z) (k : wp L d m q ls (.inl z :: st) M Q) : wp L d m pc ls (.inl y :: .inl x :: st) M Q := by
  obtain ⟨hd, rfl⟩ := h
  exact wp_ps hd (by rw [hi]; simp [ab_bin, ab_i2, hz]) k
theorem wp_add (h : ab_at m pc .iadd 1 q) (hz : -2147483648 ≤ x + y ∧ x + y < 2147483648) (k : wp L d m q ls (.inl (x + y) :: st) M Q) : wp L d m pc ls (.inl y :: .inl x :: st) M Q := wp_bin h (fun _ _ => rfl) (ab_add_eq hz) k
theorem wp_sub (h : ab_at m pc .isub 1 q) (hz : -2147483648 ≤ x - y ∧ x - y < 2147483648) (k : wp L d m q ls (.inl (x - y) :: st) M Q) : wp L d m pc ls (.inl y :: .inl x :: st) M Q := wp_bin h (fun _ _ => rfl) (ab_sub_eq hz) k
theorem wp_mul (h : ab_at m pc .imul 1 q) (hz : -2147483648 ≤ x * y ∧ x * y < 2147483648) (k : wp L d m q ls (.inl (x * y) :: st) M Q) : wp L d m pc ls (.inl y :: .inl x :: st) M Q := wp_bin h (fun _ _ => rfl) (ab_mul_eq hz) k
theorem wp_and (h : ab_at m pc .iand 1 q) (hz : ab_b (fun a b => a &&& b) x y = z) (k : wp L d m q ls (.inl z :: st) M Q) : wp L d m pc ls (.inl y :: .inl x :: st) M Q := wp_bin h (fun _ _ => rfl) hz k
theorem wp_or (h : ab_at m pc .ior 1 q) (hz : ab_b (fun a b => a ||| b) x y = z) (k : wp L d m q ls (.inl z :: st) M Q) : wp L d m pc ls (.inl y :: .inl x :: st) M Q := wp_bin h (fun _ _ => rfl) hz k
theorem wp_xor (h : ab_at m pc .ixor 1 q) (hz : ab_b (fun a b => a ^^^ b) x y = z) (k : wp L d m q ls (.inl z :: st) M Q) : wp L d m pc ls (.inl y :: .inl x :: st) M Q := wp_bin h (fun _ _ => rfl) hz k
theorem wp_shl (h : ab_at m pc .ishl 1 q) (hz : ab_b (fun a b => a <<< (b &&& 31)) x y = z) (k : wp L d m q ls (.inl z :: st) M Q) : wp L d m pc ls (.inl y :: .inl x :: st) M Q := wp_bin h (fun _ _ => rfl) hz k
theorem wp_shr (h : ab_at m pc .ishr 1 q) (hz : ab_b (fun a b => a >>> (b &&& 31)) x y = z) (k : wp L d m q ls (.inl z :: st) M Q) : wp L d m pc ls (.inl y :: .inl x :: st) M Q := wp_bin h (fun _ _ => rfl) hz k
theorem wp_div (h : ab_at m pc .idiv 1 q) (hz : 0 ≤ x ∧ x < 2147483648 ∧ 0 < y ∧ y < 2147483648) (k : wp L d m q ls (.inl (x / y) :: st) M Q) : wp L d m pc ls (.inl y :: .inl x :: st) M Q := by
  have e := ab_div_eq hz
  obtain ⟨hd, rfl⟩ := h
  exact wp_ps hd (by simp [ab_ps, ab_i2, e]; omega) k
theorem wp_rem (h : ab_at m pc .irem 1 q) (hz : 0 ≤ x ∧ x < 2147483648 ∧ 0 < y ∧ y < 2147483648) (k : wp L d m q ls (.inl (x % y) :: st) M Q) : wp L d m pc ls (.inl y :: .inl x :: st) M Q := by
  have e := ab_rem_eq hz
  obtain ⟨hd, rfl⟩ := h
  exact wp_ps hd (by simp [ab_ps, ab_i2, e]; omega) k

theorem wp_ceq (h : ab_bc m pc .eq q t) (kt : x = y → wp L d m t ls st M Q) (kf : ¬ x = y → wp L d m q ls st M Q) : wp L d m pc ls (.inl y :: .inl x :: st) M Q := by
  obtain ⟨off, hd, rfl, hj⟩ := h
  by_cases hc : x = y
  · exact wp_ps hd (by simp [ab_ps, ab_i2, hj, ab_cmp, hc]) (kt hc)
  · exact wp_ps hd (pc1 := pc + 3) (ls1 := ls) (st1 := st) (by simp [ab_ps, ab_i2, hj, ab_cmp, hc]) (kf (by omega))
theorem wp_zeq (h : ab_bi m pc .eq q t) (kt : x = 0 → wp L d m t ls st M Q) (kf : ¬ x = 0 → wp L d m q ls st M Q) : wp L d m pc ls (.inl x :: st) M Q := by
  obtain ⟨off, hd, rfl, hj⟩ := h
  by_cases hc : x = 0
  · exact wp_ps hd (by simp [ab_ps, ab_i1, hj, ab_cmp, hc]) (kt hc)
  · exact wp_ps hd (pc1 := pc + 3) (ls1 := ls) (st1 := st) (by simp [ab_ps, ab_i1, hj, ab_cmp, hc]) (kf (by omega))
theorem wp_cne (h : ab_bc m pc .ne q t) (kt : ¬ x = y → wp L d m t ls st M Q) (kf : x = y → wp L d m q ls st M Q) : wp L d m pc ls (.inl y :: .inl x :: st) M Q := by
  obtain ⟨off, hd, rfl, hj⟩ := h
  by_cases hc : ¬ x = y
  · exact wp_ps hd (by simp [ab_ps, ab_i2, hj, ab_cmp, hc]) (kt hc)
  · exact wp_ps hd (pc1 := pc + 3) (ls1 := ls) (st1 := st) (by simp [ab_ps, ab_i2, hj, ab_cmp, hc]) (kf (by omega))
theorem wp_zne (h : ab_bi m pc .ne q t) (kt : ¬ x = 0 → wp L d m t ls st M Q) (kf : x = 0 → wp L d m q ls st M Q) : wp L d m pc ls (.inl x :: st) M Q := by
  obtain ⟨off, hd, rfl, hj⟩ := h
  by_cases hc : ¬ x = 0
  · exact wp_ps hd (by simp [ab_ps, ab_i1, hj, ab_cmp, hc]) (kt hc)
  · exact wp_ps hd (pc1 := pc + 3) (ls1 := ls) (st1 := st) (by simp [ab_ps, ab_i1, hj, ab_cmp, hc]) (kf (by omega))
theorem wp_clt (h : ab_bc m pc .lt q t) (kt : x < y → wp L d m t ls st M Q) (kf : y ≤ x → wp L d m q ls st M Q) : wp L d m pc ls (.inl y :: .inl x :: st) M Q := by
  obtain ⟨off, hd, rfl, hj⟩ := h
  by_cases hc : x < y
  · exact wp_ps hd (by simp [ab_ps, ab_i2, hj, ab_cmp, hc]) (kt hc)
  · exact wp_ps hd (pc1 := pc + 3) (ls1 := ls) (st1 := st) (by simp [ab_ps, ab_i2, hj, ab_cmp, hc]) (kf (by omega))
theorem wp_zlt (h : ab_bi m pc .lt q t) (kt : x < 0 → wp L d m t ls st M Q) (kf : 0 ≤ x → wp L d m q ls st M Q) : wp L d m pc ls (.inl x :: st) M Q := by
  obtain ⟨off, hd, rfl, hj⟩ := h
  by_cases hc : x < 0
  · exact wp_ps hd (by simp [ab_ps, ab_i1, hj, ab_cmp, hc]) (kt hc)
  · exact wp_ps hd (pc1 := pc + 3) (ls1 := ls) (st1 := st) (by simp [ab_ps, ab_i1, hj, ab_cmp, hc]) (kf (by omega))
theorem wp_cge (h : ab_bc m pc .ge q t) (kt : y ≤ x → wp L d m t ls st M Q) (kf : x < y → wp L d m q ls st M Q) : wp L d m pc ls (.inl y :: .inl x :: st) M Q := by
  obtain ⟨off, hd, rfl, hj⟩ := h
  by_cases hc : y ≤ x
  · exact wp_ps hd (by simp [ab_ps, ab_i2, hj, ab_cmp, hc]) (kt hc)
  · exact wp_ps hd (pc1 := pc + 3) (ls1 := ls) (st1 := st) (by simp [ab_ps, ab_i2, hj, ab_cmp, hc]) (kf (by omega))
theorem wp_zge (h : ab_bi m pc .ge q t) (kt : 0 ≤ x → wp L d m t ls st M Q) (kf : x < 0 → wp L d m q ls st M Q) : wp L d m pc ls (.inl x :: st) M Q := by
  obtain ⟨off, hd, rfl, hj⟩ := h
  by_cases hc : 0 ≤ x
  · exact wp_ps hd (by simp [ab_ps, ab_i1, hj, ab_cmp, hc]) (kt hc)
  · exact wp_ps hd (pc1 := pc + 3) (ls1 := ls) (st1 := st) (by simp [ab_ps, ab_i1, hj, ab_cmp, hc]) (kf (by omega))
theorem wp_cgt (h : ab_bc m pc .gt q t) (kt : y < x → wp L d m t ls st M Q) (kf : x ≤ y → wp L d m q ls st M Q) : wp L d m pc ls (.inl y :: .inl x :: st) M Q := by
  obtain ⟨off, hd, rfl, hj⟩ := h
  by_cases hc : y < x
  · exact wp_ps hd (by simp [ab_ps, ab_i2, hj, ab_cmp, hc]) (kt hc)
  · exact wp_ps hd (pc1 := pc + 3) (ls1 := ls) (st1 := st) (by simp [ab_ps, ab_i2, hj, ab_cmp, hc]) (kf (by omega))
theorem wp_zgt (h : ab_bi m pc .gt q t) (kt : 0 < x → wp L d m t ls st M Q) (kf : x ≤ 0 → wp L d m q ls st M Q) : wp L d m pc ls (.inl x :: st) M Q := by
  obtain ⟨off, hd, rfl, hj⟩ := h
  by_cases hc : 0 < x
  · exact wp_ps hd (by simp [ab_ps, ab_i1, hj, ab_cmp, hc]) (kt hc)
  · exact wp_ps hd (pc1 := pc + 3) (ls1 := ls) (st1 := st) (by simp [ab_ps, ab_i1, hj, ab_cmp, hc]) (kf (by omega))
theorem wp_cle (h : ab_bc m pc .le q t) (kt : x ≤ y → wp L d m t ls st M Q) (kf : y < x → wp L d m q ls st M Q) : wp L d m pc ls (.inl y :: .inl x :: st) M Q := by
  obtain ⟨off, hd, rfl, hj⟩ := h
  by_cases hc : x ≤ y
  · exact wp_ps hd (by simp [ab_ps, ab_i2, hj, ab_cmp, hc]) (kt hc)
  · exact wp_ps hd (pc1 := pc + 3) (ls1 := ls) (st1 := st) (by simp [ab_ps, ab_i2, hj, ab_cmp, hc]) (kf (by omega))
theorem wp_zle (h : ab_bi m pc .le q t) (kt : x ≤ 0 → wp L d m t ls st M Q) (kf : 0 < x → wp L d m q ls st M Q) : wp L d m pc ls (.inl x :: st) M Q := by
  obtain ⟨off, hd, rfl, hj⟩ := h
  by_cases hc : x ≤ 0
  · exact wp_ps hd (by simp [ab_ps, ab_i1, hj, ab_cmp, hc]) (kt hc)
  · exact wp_ps hd (pc1 := pc + 3) (ls1 := ls) (st1 := st) (by simp [ab_ps, ab_i1, hj, ab_cmp, hc]) (kf (by omega))
theorem wp_beq {p : Prop} [Decidable p] (h : ab_bi m pc .eq q t) (kt : ¬ p → wp L d m t ls st M Q) (kf : p → wp L d m q ls st M Q) : wp L d m pc ls (.inl (if p then 1 else 0) :: st) M Q := by
  by_cases hp : p
  · rw [if_pos hp]; exact wp_zeq h (fun q => by omega) (fun _ => kf hp)
  · rw [if_neg hp]; exact wp_zeq h (fun _ => kt hp) (fun q => absurd rfl q)
theorem wp_bne {p : Prop} [Decidable p] (h : ab_bi m pc .ne q t) (kt : p → wp L d m t ls st M Q) (kf : ¬ p → wp L d m q ls st M Q) : wp L d m pc ls (.inl (if p then 1 else 0) :: st) M Q := by
  by_cases hp : p
  · rw [if_pos hp]; exact wp_zne h (fun _ => kt hp) (fun q => by omega)
  · rw [if_neg hp]; exact wp_zne h (fun q => absurd rfl q) (fun _ => kf hp)
theorem wp_sw {dd lo hi : Int} {offs : Array Int} {len : Nat} (c : Int) {of_ : Int} (h : decode m.2.1 pc = .ok (.tableswitch dd lo hi offs, len)) (hx : x = c) (hc : ¬ (c < lo ∨ hi < c)) (ho : offs[(c - lo).toNat]? = some of_) (hj : ab_j pc of_ = some t) (k : wp L d m t ls st M Q) : wp L d m pc ls (.inl x :: st) M Q := by
  subst hx
  exact wp_ps h (by simp only [ab_ps, ab_i1]; rw [if_neg hc, ho]; simp [hj]) k
theorem wp_swd {dd lo hi : Int} {offs : Array Int} {len : Nat} (h : decode m.2.1 pc = .ok (.tableswitch dd lo hi offs, len)) (hx : x < lo ∨ hi < x) (hj : ab_j pc dd = some t) (k : wp L d m t ls st M Q) : wp L d m pc ls (.inl x :: st) M Q := by
  exact wp_ps h (by simp only [ab_ps, ab_i1]; rw [if_pos hx, hj]; rfl) k
theorem wp_gI {ix ci f : Nat} {refs : List Nat} (h : ab_at m pc (.getfield ix) 3 q) (hF : ab_FI m.1.cls ix ci f) (ha : (LAY L)[a]? = some (.inl (ci, refs))) (k : wp L d m q ls (.inl (M a f) :: st) M Q) : wp L d m pc ls (.inr a :: st) M Q :=
  wp_hs h (Or.inl ⟨ix, ci, f, a, st, refs, rfl, rfl, hF.1, rfl, ha, hF.2, rfl, rfl⟩) k
theorem wp_gR {ix ci f r : Nat} {refs : List Nat} (h : ab_at m pc (.getfield ix) 3 q) (hF : ab_FR m.1.cls ix ci f) (ha : (LAY L)[a]? = some (.inl (ci, refs))) (hr : refs[f]? = some r) (h0 : Nat.ble 1 r = true) (k : wp L d m q ls (.inr r :: st) M Q) : wp L d m pc ls (.inr a :: st) M Q := by
  obtain ⟨r0, rfl⟩ : ∃ r0, r = r0 + 1 := ⟨r - 1, by have := Nat.le_of_ble_eq_true h0; omega⟩
  exact wp_hs h (Or.inr (Or.inl ⟨ix, ci, f, a, st, refs, r0, rfl, rfl, hF.1, rfl, ha, hF.2, hr, rfl, rfl⟩)) k
theorem wp_pI {ix ci f : Nat} {refs : List Nat} (h : ab_at m pc (.putfield ix) 3 q) (hF : ab_FP m.1.cls ix ci f) (ha : (LAY L)[a]? = some (.inl (ci, refs))) (k : wp L d m q ls st (ab_up M a f z) Q) : wp L d m pc ls (.inl z :: .inr a :: st) M Q :=
  wp_hs h (Or.inr (Or.inr (Or.inl ⟨ix, ci, f, a, z, st, refs, rfl, rfl, hF.1, rfl, ha, Or.inl hF.2.1, hF.2.2, rfl, rfl⟩))) k
theorem wp_pB {ix ci f : Nat} {refs : List Nat} (h : ab_at m pc (.putfield ix) 3 q) (hF : ab_FB m.1.cls ix ci f) (ha : (LAY L)[a]? = some (.inl (ci, refs))) (hz : z = 0 ∨ z = 1) (k : wp L d m q ls st (ab_up M a f z) Q) : wp L d m pc ls (.inl z :: .inr a :: st) M Q :=
  wp_hs h (Or.inr (Or.inr (Or.inl ⟨ix, ci, f, a, z, st, refs, rfl, rfl, hF.1, rfl, ha, Or.inr ⟨hF.2.1, hz⟩, hF.2.2, rfl, rfl⟩))) k
theorem wp_ia {n : Nat} (h : ab_at m pc .iaload 1 q) (ha : (LAY L)[a]? = some (.inr (0, n))) (hx : 0 ≤ x ∧ x < n) (k : wp L d m q ls (.inl (M a x.toNat) :: st) M Q) : wp L d m pc ls (.inl x :: .inr a :: st) M Q :=
  wp_hs h (Or.inr (Or.inr (Or.inr (Or.inr (Or.inl ⟨a, n, x, st, Or.inl ⟨rfl, ha⟩, rfl, rfl, hx.1, hx.2, rfl, rfl⟩))))) k
theorem wp_ba {n : Nat} (h : ab_at m pc .baload 1 q) (h1 : Nat.ble 1 a = true) (ha : (LAY L)[a]? = some (.inr (1, n))) (hx : 0 ≤ x ∧ x < n) (k : wp L d m q ls (.inl (M a x.toNat) :: st) M Q) : wp L d m pc ls (.inl x :: .inr a :: st) M Q :=
  wp_hs h (Or.inr (Or.inr (Or.inr (Or.inr (Or.inl ⟨a, n, x, st, Or.inr ⟨rfl, Nat.le_of_ble_eq_true h1, ha⟩, rfl, rfl, hx.1, hx.2, rfl, rfl⟩))))) k
theorem wp_is {n : Nat} (h : ab_at m pc .iastore 1 q) (h1 : Nat.ble 1 a = true) (ha : (LAY L)[a]? = some (.inr (0, n))) (hx : 0 ≤ x ∧ x < n) (k : wp L d m q ls st (ab_up M a x.toNat z) Q) : wp L d m pc ls (.inl z :: .inl x :: .inr a :: st) M Q :=
  wp_hs h (Or.inr (Or.inr (Or.inr (Or.inr (Or.inr (Or.inl ⟨a, n, x, z, st, Or.inl ⟨rfl, ha⟩, rfl, rfl, Nat.le_of_ble_eq_true h1, hx.1, hx.2, rfl, rfl⟩)))))) k
theorem wp_bs {n : Nat} (h : ab_at m pc .bastore 1 q) (h1 : Nat.ble 1 a = true) (ha : (LAY L)[a]? = some (.inr (1, n))) (hx : 0 ≤ x ∧ x < n) (hz : z = 0 ∨ z = 1) (k : wp L d m q ls st (ab_up M a x.toNat z) Q) : wp L d m pc ls (.inl z :: .inl x :: .inr a :: st) M Q :=
  wp_hs h (Or.inr (Or.inr (Or.inr (Or.inr (Or.inr (Or.inl ⟨a, n, x, z, st, Or.inr ⟨rfl, ha, hz⟩, rfl, rfl, Nat.le_of_ble_eq_true h1, hx.1, hx.2, rfl, rfl⟩)))))) k
theorem wp_al {t0 n : Nat} (h : ab_at m pc .arraylength 1 q) (ha : (LAY L)[a]? = some (.inr (t0, n))) (ht : a = 0 ∨ t0 < 2) (hn : n < 2147483648) (k : wp L d m q ls (.inl (n : Int) :: st) M Q) : wp L d m pc ls (.inr a :: st) M Q :=
  wp_hs h (Or.inr (Or.inr (Or.inr (Or.inr (Or.inr (Or.inr (Or.inl ⟨a, t0, n, st, rfl, rfl, rfl, ha, ht, hn, rfl, rfl⟩))))))) k
theorem wp_cp {ix n n0 a0 N : Nat} (h : ab_at m pc (.invokestatic ix) 3 q) (hl : ab_lC m.1.cls ix) (hrest : Nat.ble st.length 8 = true) (hN : x = (N : Int)) (h1 : Nat.ble 1 a = true) (h2 : Nat.ble 1 a0 = true) (hne : a ≠ a0) (ha : (LAY L)[a]? = some (.inr (0, n))) (ha0 : (LAY L)[a0]? = some (.inr (0, n0))) (hNn : Nat.ble N n = true) (hNn0 : Nat.ble N n0 = true) (hNs : N < 100000)
    (k : wp L d m q ls st (ab_rw M a (fun k => if k < N then M a0 k else M a k)) Q) : wp L d m pc ls (.inl x :: .inl 0 :: .inr a :: .inl 0 :: .inr a0 :: st) M Q := by
  subst hN
  exact wp_hs h (Or.inr (Or.inr (Or.inr (Or.inr (Or.inr (Or.inr (Or.inr (Or.inr (Or.inr (Or.inr (Or.inr (Or.inl ⟨ix, a, a0, n, n0, N, st, rfl, rfl, hl, rfl, Nat.le_of_ble_eq_true hrest, Nat.le_of_ble_eq_true h1, Nat.le_of_ble_eq_true h2, hne, ha, ha0, Nat.le_of_ble_eq_true hNn, Nat.le_of_ble_eq_true hNn0, hNs, rfl, rfl⟩)))))))))))) k
theorem wp_mx {ix : Nat} (h : ab_at m pc (.invokestatic ix) 3 q) (hl : ab_lX m.1.cls ix) (hrest : Nat.ble st.length 8 = true) (k : wp L d m q ls (.inl (if x < y then y else x) :: st) M Q) : wp L d m pc ls (.inl y :: .inl x :: st) M Q :=
  wp_hs h (Or.inr (Or.inr (Or.inr (Or.inr (Or.inr (Or.inr (Or.inr (Or.inr (Or.inr (Or.inr (Or.inr (Or.inr (Or.inl ⟨ix, x, y, st, rfl, rfl, hl, rfl, Nat.le_of_ble_eq_true hrest, rfl, rfl⟩))))))))))))) k
theorem wp_mn {ix : Nat} (h : ab_at m pc (.invokestatic ix) 3 q) (hl : ab_lY m.1.cls ix) (hrest : Nat.ble st.length 8 = true) (k : wp L d m q ls (.inl (if y < x then y else x) :: st) M Q) : wp L d m pc ls (.inl y :: .inl x :: st) M Q :=
  wp_hs h (Or.inr (Or.inr (Or.inr (Or.inr (Or.inr (Or.inr (Or.inr (Or.inr (Or.inr (Or.inr (Or.inr (Or.inr (Or.inr ⟨ix, x, y, st, rfl, rfl, hl, rfl, Nat.le_of_ble_eq_true hrest, rfl, rfl⟩))))))))))))) k

theorem wp_il0 (h : ab_at m pc (.iload_n 0) 1 q) (k : wp L d m q (some (.inl z) :: l) (.inl z :: st) M Q) : wp L d m pc (some (.inl z) :: l) st M Q := by
  obtain ⟨hd, rfl⟩ := h
  exact wp_ps hd (by first | rfl | simp [ab_ps, ab_ldi]) k
theorem wp_al0 (h : ab_at m pc (.aload_n 0) 1 q) (k : wp L d m q (some (.inr a) :: l) (.inr a :: st) M Q) : wp L d m pc (some (.inr a) :: l) st M Q := by
  obtain ⟨hd, rfl⟩ := h
  exact wp_ps hd (by first | rfl | simp [ab_ps, ab_ldr]) k
theorem wp_is0 {w : Option ab_V} (h : ab_at m pc (.istore_n 0) 1 q) (k : wp L d m q (some (.inl z) :: l) st M Q) : wp L d m pc (w :: l) (.inl z :: st) M Q := by
  obtain ⟨hd, rfl⟩ := h
  exact wp_ps hd (by first | rfl | simp [ab_ps, ab_i1]) k
theorem wp_as0 {w : Option ab_V} (h : ab_at m pc (.astore_n 0) 1 q) (k : wp L d m q (some (.inr a) :: l) st M Q) : wp L d m pc (w :: l) (.inr a :: st) M Q := by
  obtain ⟨hd, rfl⟩ := h
  exact wp_ps hd (by first | rfl | simp [ab_ps, ab_r1]) k
theorem wp_ii0 (h : ab_at m pc (.iinc 0 y) 3 q) (hz : -2147483648 ≤ z + y ∧ z + y < 2147483648) (k : wp L d m q (some (.inl (z + y)) :: l) st M Q) : wp L d m pc (some (.inl z) :: l) st M Q := by
  have e := ab_add_eq hz
  obtain ⟨hd, rfl⟩ := h
  exact wp_ps hd (by simp [ab_ps, ab_ldi, e]) k
theorem wp_il1 {v0 : Option ab_V} (h : ab_at m pc (.iload_n 1) 1 q) (k : wp L d m q (v0 :: some (.inl z) :: l) (.inl z :: st) M Q) : wp L d m pc (v0 :: some (.inl z) :: l) st M Q := by
  obtain ⟨hd, rfl⟩ := h
  exact wp_ps hd (by first | rfl | simp [ab_ps, ab_ldi]) k
theorem wp_al1 {v0 : Option ab_V} (h : ab_at m pc (.aload_n 1) 1 q) (k : wp L d m q (v0 :: some (.inr a) :: l) (.inr a :: st) M Q) : wp L d m pc (v0 :: some (.inr a) :: l) st M Q := by
  obtain ⟨hd, rfl⟩ := h
  exact wp_ps hd (by first | rfl | simp [ab_ps, ab_ldr]) k
theorem wp_is1 {v0 : Option ab_V} {w : Option ab_V} (h : ab_at m pc (.istore_n 1) 1 q) (k : wp L d m q (v0 :: some (.inl z) :: l) st M Q) : wp L d m pc (v0 :: w :: l) (.inl z :: st) M Q := by
  obtain ⟨hd, rfl⟩ := h
  exact wp_ps hd (by first | rfl | simp [ab_ps, ab_i1]) k
theorem wp_as1 {v0 : Option ab_V} {w : Option ab_V} (h : ab_at m pc (.astore_n 1) 1 q) (k : wp L d m q (v0 :: some (.inr a) :: l) st M Q) : wp L d m pc (v0 :: w :: l) (.inr a :: st) M Q := by
  obtain ⟨hd, rfl⟩ := h
  exact wp_ps hd (by first | rfl | simp [ab_ps, ab_r1]) k
theorem wp_ii1 {v0 : Option ab_V} (h : ab_at m pc (.iinc 1 y) 3 q) (hz : -2147483648 ≤ z + y ∧ z + y < 2147483648) (k : wp L d m q (v0 :: some (.inl (z + y)) :: l) st M Q) : wp L d m pc (v0 :: some (.inl z) :: l) st M Q := by
  have e := ab_add_eq hz
  obtain ⟨hd, rfl⟩ := h
  exact wp_ps hd (by simp [ab_ps, ab_ldi, e]) k
theorem wp_il2 {v0 v1 : Option ab_V} (h : ab_at m pc (.iload_n 2) 1 q) (k : wp L d m q (v0 :: v1 :: some (.inl z) :: l) (.inl z :: st) M Q) : wp L d m pc (v0 :: v1 :: some (.inl z) :: l) st M Q := by
  obtain ⟨hd, rfl⟩ := h
  exact wp_ps hd (by first | rfl | simp [ab_ps, ab_ldi]) k
theorem wp_al2 {v0 v1 : Option ab_V} (h : ab_at m pc (.aload_n 2) 1 q) (k : wp L d m q (v0 :: v1 :: some (.inr a) :: l) (.inr a :: st) M Q) : wp L d m pc (v0 :: v1 :: some (.inr a) :: l) st M Q := by
  obtain ⟨hd, rfl⟩ := h
  exact wp_ps hd (by first | rfl | simp [ab_ps, ab_ldr]) k
theorem wp_is2 {v0 v1 : Option ab_V} {w : Option ab_V} (h : ab_at m pc (.istore_n 2) 1 q) (k : wp L d m q (v0 :: v1 :: some (.inl z) :: l) st M Q) : wp L d m pc (v0 :: v1 :: w :: l) (.inl z :: st) M Q := by
  obtain ⟨hd, rfl⟩ := h
  exact wp_ps hd (by first | rfl | simp [ab_ps, ab_i1]) k
theorem wp_as2 {v0 v1 : Option ab_V} {w : Option ab_V} (h : ab_at m pc (.astore_n 2) 1 q) (k : wp L d m q (v0 :: v1 :: some (.inr a) :: l) st M Q) : wp L d m pc (v0 :: v1 :: w :: l) (.inr a :: st) M Q := by
  obtain ⟨hd, rfl⟩ := h
  exact wp_ps hd (by first | rfl | simp [ab_ps, ab_r1]) k
theorem wp_ii2 {v0 v1 : Option ab_V} (h : ab_at m pc (.iinc 2 y) 3 q) (hz : -2147483648 ≤ z + y ∧ z + y < 2147483648) (k : wp L d m q (v0 :: v1 :: some (.inl (z + y)) :: l) st M Q) : wp L d m pc (v0 :: v1 :: some (.inl z) :: l) st M Q := by
  have e := ab_add_eq hz
  obtain ⟨hd, rfl⟩ := h
  exact wp_ps hd (by simp [ab_ps, ab_ldi, e]) k
theorem wp_il3 {v0 v1 v2 : Option ab_V} (h : ab_at m pc (.iload_n 3) 1 q) (k : wp L d m q (v0 :: v1 :: v2 :: some (.inl z) :: l) (.inl z :: st) M Q) : wp L d m pc (v0 :: v1 :: v2 :: some (.inl z) :: l) st M Q := by
  obtain ⟨hd, rfl⟩ := h
  exact wp_ps hd (by first | rfl | simp [ab_ps, ab_ldi]) k
theorem wp_al3 {v0 v1 v2 : Option ab_V} (h : ab_at m pc (.aload_n 3) 1 q) (k : wp L d m q (v0 :: v1 :: v2 :: some (.inr a) :: l) (.inr a :: st) M Q) : wp L d m pc (v0 :: v1 :: v2 :: some (.inr a) :: l) st M Q := by
  obtain ⟨hd, rfl⟩ := h
  exact wp_ps hd (by first | rfl | simp [ab_ps, ab_ldr]) k
theorem wp_is3 {v0 v1 v2 : Option ab_V} {w : Option ab_V} (h : ab_at m pc (.istore_n 3) 1 q) (k : wp L d m q (v0 :: v1 :: v2 :: some (.inl z) :: l) st M Q) : wp L d m pc (v0 :: v1 :: v2 :: w :: l) (.inl z :: st) M Q := by
  obtain ⟨hd, rfl⟩ := h
  exact wp_ps hd (by first | rfl | simp [ab_ps, ab_i1]) k
theorem wp_as3 {v0 v1 v2 : Option ab_V} {w : Option ab_V} (h : ab_at m pc (.astore_n 3) 1 q) (k : wp L d m q (v0 :: v1 :: v2 :: some (.inr a) :: l) st M Q) : wp L d m pc (v0 :: v1 :: v2 :: w :: l) (.inr a :: st) M Q := by
  obtain ⟨hd, rfl⟩ := h
  exact wp_ps hd (by first | rfl | simp [ab_ps, ab_r1]) k
theorem wp_ii3 {v0 v1 v2 : Option ab_V} (h : ab_at m pc (.iinc 3 y) 3 q) (hz : -2147483648 ≤ z + y ∧ z + y < 2147483648) (k : wp L d m q (v0 :: v1 :: v2 :: some (.inl (z + y)) :: l) st M Q) : wp L d m pc (v0 :: v1 :: v2 :: some (.inl z) :: l) st M Q := by
  have e := ab_add_eq hz
  obtain ⟨hd, rfl⟩ := h
  exact wp_ps hd (by simp [ab_ps, ab_ldi, e]) k
theorem wp_il4 {v0 v1 v2 v3 : Option ab_V} (h : ab_at m pc (.iload 4) 2 q) (k : wp L d m q (v0 :: v1 :: v2 :: v3 :: some (.inl z) :: l) (.inl z :: st) M Q) : wp L d m pc (v0 :: v1 :: v2 :: v3 :: some (.inl z) :: l) st M Q := by
  obtain ⟨hd, rfl⟩ := h
  exact wp_ps hd (by first | rfl | simp [ab_ps, ab_ldi]) k
theorem wp_al4 {v0 v1 v2 v3 : Option ab_V} (h : ab_at m pc (.aload 4) 2 q) (k : wp L d m q (v0 :: v1 :: v2 :: v3 :: some (.inr a) :: l) (.inr a :: st) M Q) : wp L d m pc (v0 :: v1 :: v2 :: v3 :: some (.inr a) :: l) st M Q := by
  obtain ⟨hd, rfl⟩ := h
  exact wp_ps hd (by first | rfl | simp [ab_ps, ab_ldr]) k
theorem wp_is4 {v0 v1 v2 v3 : Option ab_V} {w : Option ab_V} (h : ab_at m pc (.istore 4) 2 q) (k : wp L d m q (v0 :: v1 :: v2 :: v3 :: some (.inl z) :: l) st M Q) : wp L d m pc (v0 :: v1 :: v2 :: v3 :: w :: l) (.inl z :: st) M Q := by
  obtain ⟨hd, rfl⟩ := h
  exact wp_ps hd (by first | rfl | simp [ab_ps, ab_i1]) k
theorem wp_as4 {v0 v1 v2 v3 : Option ab_V} {w : Option ab_V} (h : ab_at m pc (.astore 4) 2 q) (k : wp L d m q (v0 :: v1 :: v2 :: v3 :: some (.inr a) :: l) st M Q) : wp L d m pc (v0 :: v1 :: v2 :: v3 :: w :: l) (.inr a :: st) M Q := by
  obtain ⟨hd, rfl⟩ := h
  exact wp_ps hd (by first | rfl | simp [ab_ps, ab_r1]) k
theorem wp_ii4 {v0 v1 v2 v3 : Option ab_V} (h : ab_at m pc (.iinc 4 y) 3 q) (hz : -2147483648 ≤ z + y ∧ z + y < 2147483648) (k : wp L d m q (v0 :: v1 :: v2 :: v3 :: some (.inl (z + y)) :: l) st M Q) : wp L d m pc (v0 :: v1 :: v2 :: v3 :: some (.inl z) :: l) st M Q := by
  have e := ab_add_eq hz
  obtain ⟨hd, rfl⟩ := h
  exact wp_ps hd (by simp [ab_ps, ab_ldi, e]) k
theorem wp_il5 {v0 v1 v2 v3 v4 : Option ab_V} (h : ab_at m pc (.iload 5) 2 q) (k : wp L d m q (v0 :: v1 :: v2 :: v3 :: v4 :: some (.inl z) :: l) (.inl z :: st) M Q) : wp L d m pc (v0 :: v1 :: v2 :: v3 :: v4 :: some (.inl z) :: l) st M Q := by
  obtain ⟨hd, rfl⟩ := h
  exact wp_ps hd (by first | rfl | simp [ab_ps, ab_ldi]) k
theorem wp_al5 {v0 v1 v2 v3 v4 : Option ab_V} (h : ab_at m pc (.aload 5) 2 q) (k : wp L d m q (v0 :: v1 :: v2 :: v3 :: v4 :: some (.inr a) :: l) (.inr a :: st) M Q) : wp L d m pc (v0 :: v1 :: v2 :: v3 :: v4 :: some (.inr a) :: l) st M Q := by
  obtain ⟨hd, rfl⟩ := h
  exact wp_ps hd (by first | rfl | simp [ab_ps, ab_ldr]) k
theorem wp_is5 {v0 v1 v2 v3 v4 : Option ab_V} {w : Option ab_V} (h : ab_at m pc (.istore 5) 2 q) (k : wp L d m q (v0 :: v1 :: v2 :: v3 :: v4 :: some (.inl z) :: l) st M Q) : wp L d m pc (v0 :: v1 :: v2 :: v3 :: v4 :: w :: l) (.inl z :: st) M Q := by
  obtain ⟨hd, rfl⟩ := h
  exact wp_ps hd (by first | rfl | simp [ab_ps, ab_i1]) k
theorem wp_as5 {v0 v1 v2 v3 v4 : Option ab_V} {w : Option ab_V} (h : ab_at m pc (.astore 5) 2 q) (k : wp L d m q (v0 :: v1 :: v2 :: v3 :: v4 :: some (.inr a) :: l) st M Q) : wp L d m pc (v0 :: v1 :: v2 :: v3 :: v4 :: w :: l) (.inr a :: st) M Q := by
  obtain ⟨hd, rfl⟩ := h
  exact wp_ps hd (by first | rfl | simp [ab_ps, ab_r1]) k
theorem wp_ii5 {v0 v1 v2 v3 v4 : Option ab_V} (h : ab_at m pc (.iinc 5 y) 3 q) (hz : -2147483648 ≤ z + y ∧ z + y < 2147483648) (k : wp L d m q (v0 :: v1 :: v2 :: v3 :: v4 :: some (.inl (z + y)) :: l) st M Q) : wp L d m pc (v0 :: v1 :: v2 :: v3 :: v4 :: some (.inl z) :: l) st M Q := by
  have e := ab_add_eq hz
  obtain ⟨hd, rfl⟩ := h
  exact wp_ps hd (by simp [ab_ps, ab_ldi, e]) k
theorem wp_il6 {v0 v1 v2 v3 v4 v5 : Option ab_V} (h : ab_at m pc (.iload 6) 2 q) (k : wp L d m q (v0 :: v1 :: v2 :: v3 :: v4 :: v5 :: some (.inl z) :: l) (.inl z :: st) M Q) : wp L d m pc (v0 :: v1 :: v2 :: v3 :: v4 :: v5 :: some (.inl z) :: l) st M Q := by
  obtain ⟨hd, rfl⟩ := h
  exact wp_ps hd (by first | rfl | simp [ab_ps, ab_ldi]) k
theorem wp_al6 {v0 v1 v2 v3 v4 v5 : Option ab_V} (h : ab_at m pc (.aload 6) 2 q) (k : wp L d m q (v0 :: v1 :: v2 :: v3 :: v4 :: v5 :: some (.inr a) :: l) (.inr a :: st) M Q) : wp L d m pc (v0 :: v1 :: v2 :: v3 :: v4 :: v5 :: some (.inr a) :: l) st M Q := by
  obtain ⟨hd, rfl⟩ := h
  exact wp_ps hd (by first | rfl | simp [ab_ps, ab_ldr]) k
theorem wp_is6 {v0 v1 v2 v3 v4 v5 : Option ab_V} {w : Option ab_V} (h : ab_at m pc (.istore 6) 2 q) (k : wp L d m q (v0 :: v1 :: v2 :: v3 :: v4 :: v5 :: some (.inl z) :: l) st M Q) : wp L d m pc (v0 :: v1 :: v2 :: v3 :: v4 :: v5 :: w :: l) (.inl z :: st) M Q := by
  obtain ⟨hd, rfl⟩ := h
  exact wp_ps hd (by first | rfl | simp [ab_ps, ab_i1]) k
theorem wp_as6 {v0 v1 v2 v3 v4 v5 : Option ab_V} {w : Option ab_V} (h : ab_at m pc (.astore 6) 2 q) (k : wp L d m q (v0 :: v1 :: v2 :: v3 :: v4 :: v5 :: some (.inr a) :: l) st M Q) : wp L d m pc (v0 :: v1 :: v2 :: v3 :: v4 :: v5 :: w :: l) (.inr a :: st) M Q := by
  obtain ⟨hd, rfl⟩ := h
  exact wp_ps hd (by first | rfl | simp [ab_ps, ab_r1]) k
theorem wp_ii6 {v0 v1 v2 v3 v4 v5 : Option ab_V} (h : ab_at m pc (.iinc 6 y) 3 q) (hz : -2147483648 ≤ z + y ∧ z + y < 2147483648) (k : wp L d m q (v0 :: v1 :: v2 :: v3 :: v4 :: v5 :: some (.inl (z + y)) :: l) st M Q) : wp L d m pc (v0 :: v1 :: v2 :: v3 :: v4 :: v5 :: some (.inl z) :: l) st M Q := by
  have e := ab_add_eq hz
  obtain ⟨hd, rfl⟩ := h
  exact wp_ps hd (by simp [ab_ps, ab_ldi, e]) k
theorem wp_il7 {v0 v1 v2 v3 v4 v5 v6 : Option ab_V} (h : ab_at m pc (.iload 7) 2 q) (k : wp L d m q (v0 :: v1 :: v2 :: v3 :: v4 :: v5 :: v6 :: some (.inl z) :: l) (.inl z :: st) M Q) : wp L d m pc (v0 :: v1 :: v2 :: v3 :: v4 :: v5 :: v6 :: some (.inl z) :: l) st M Q := by
  obtain ⟨hd, rfl⟩ := h
  exact wp_ps hd (by first | rfl | simp [ab_ps, ab_ldi]) k
theorem wp_al7 {v0 v1 v2 v3 v4 v5 v6 : Option ab_V} (h : ab_at m pc (.aload 7) 2 q) (k : wp L d m q (v0 :: v1 :: v2 :: v3 :: v4 :: v5 :: v6 :: some (.inr a) :: l) (.inr a :: st) M Q) : wp L d m pc (v0 :: v1 :: v2 :: v3 :: v4 :: v5 :: v6 :: some (.inr a) :: l) st M Q := by
  obtain ⟨hd, rfl⟩ := h
  exact wp_ps hd (by first | rfl | simp [ab_ps, ab_ldr]) k
theorem wp_is7 {v0 v1 v2 v3 v4 v5 v6 : Option ab_V} {w : Option ab_V} (h : ab_at m pc (.istore 7) 2 q) (k : wp L d m q (v0 :: v1 :: v2 :: v3 :: v4 :: v5 :: v6 :: some (.inl z) :: l) st M Q) : wp L d m pc (v0 :: v1 :: v2 :: v3 :: v4 :: v5 :: v6 :: w :: l) (.inl z :: st) M Q := by
  obtain ⟨hd, rfl⟩ := h
  exact wp_ps hd (by first | rfl | simp [ab_ps, ab_i1]) k
theorem wp_as7 {v0 v1 v2 v3 v4 v5 v6 : Option ab_V} {w : Option ab_V} (h : ab_at m pc (.astore 7) 2 q) (k : wp L d m q (v0 :: v1 :: v2 :: v3 :: v4 :: v5 :: v6 :: some (.inr a) :: l) st M Q) : wp L d m pc (v0 :: v1 :: v2 :: v3 :: v4 :: v5 :: v6 :: w :: l) (.inr a :: st) M Q := by
  obtain ⟨hd, rfl⟩ := h
  exact wp_ps hd (by first | rfl | simp [ab_ps, ab_r1]) k
theorem wp_ii7 {v0 v1 v2 v3 v4 v5 v6 : Option ab_V} (h : ab_at m pc (.iinc 7 y) 3 q) (hz : -2147483648 ≤ z + y ∧ z + y < 2147483648) (k : wp L d m q (v0 :: v1 :: v2 :: v3 :: v4 :: v5 :: v6 :: some (.inl (z + y)) :: l) st M Q) : wp L d m pc (v0 :: v1 :: v2 :: v3 :: v4 :: v5 :: v6 :: some (.inl z) :: l) st M Q := by
  have e := ab_add_eq hz
  obtain ⟨hd, rfl⟩ := h
  exact wp_ps hd (by simp [ab_ps, ab_ldi, e]) k
theorem wp_il8 {v0 v1 v2 v3 v4 v5 v6 v7 : Option ab_V} (h : ab_at m pc (.iload 8) 2 q) (k : wp L d m q (v0 :: v1 :: v2 :: v3 :: v4 :: v5 :: v6 :: v7 :: some (.inl z) :: l) (.inl z :: st) M Q) : wp L d m pc (v0 :: v1 :: v2 :: v3 :: v4 :: v5 :: v6 :: v7 :: some (.inl z) :: l) st M Q := by
  obtain ⟨hd, rfl⟩ := h
  exact wp_ps hd (by first | rfl | simp [ab_ps, ab_ldi]) k
theorem wp_al8 {v0 v1 v2 v3 v4 v5 v6 v7 : Option ab_V} (h : ab_at m pc (.aload 8) 2 q) (k : wp L d m q (v0 :: v1 :: v2 :: v3 :: v4 :: v5 :: v6 :: v7 :: some (.inr a) :: l) (.inr a :: st) M Q) : wp L d m pc (v0 :: v1 :: v2 :: v3 :: v4 :: v5 :: v6 :: v7 :: some (.inr a) :: l) st M Q := by
  obtain ⟨hd, rfl⟩ := h
  exact wp_ps hd (by first | rfl | simp [ab_ps, ab_ldr]) k
theorem wp_is8 {v0 v1 v2 v3 v4 v5 v6 v7 : Option ab_V} {w : Option ab_V} (h : ab_at m pc (.istore 8) 2 q) (k : wp L d m q (v0 :: v1 :: v2 :: v3 :: v4 :: v5 :: v6 :: v7 :: some (.inl z) :: l) st M Q) : wp L d m pc (v0 :: v1 :: v2 :: v3 :: v4 :: v5 :: v6 :: v7 :: w :: l) (.inl z :: st) M Q := by
  obtain ⟨hd, rfl⟩ := h
  exact wp_ps hd (by first | rfl | simp [ab_ps, ab_i1]) k
theorem wp_as8 {v0 v1 v2 v3 v4 v5 v6 v7 : Option ab_V} {w : Option ab_V} (h : ab_at m pc (.astore 8) 2 q) (k : wp L d m q (v0 :: v1 :: v2 :: v3 :: v4 :: v5 :: v6 :: v7 :: some (.inr a) :: l) st M Q) : wp L d m pc (v0 :: v1 :: v2 :: v3 :: v4 :: v5 :: v6 :: v7 :: w :: l) (.inr a :: st) M Q := by
  obtain ⟨hd, rfl⟩ := h
  exact wp_ps hd (by first | rfl | simp [ab_ps, ab_r1]) k
theorem wp_ii8 {v0 v1 v2 v3 v4 v5 v6 v7 : Option ab_V} (h : ab_at m pc (.iinc 8 y) 3 q) (hz : -2147483648 ≤ z + y ∧ z + y < 2147483648) (k : wp L d m q (v0 :: v1 :: v2 :: v3 :: v4 :: v5 :: v6 :: v7 :: some (.inl (z + y)) :: l) st M Q) : wp L d m pc (v0 :: v1 :: v2 :: v3 :: v4 :: v5 :: v6 :: v7 :: some (.inl z) :: l) st M Q := by
  have e := ab_add_eq hz
  obtain ⟨hd, rfl⟩ := h
  exact wp_ps hd (by simp [ab_ps, ab_ldi, e]) k
theorem wp_v0f {ix ci : Nat} {refs : List Nat} {m1 : ab_M} {d1 : Nat} (h : ab_at m pc (.invokevirtual ix) 3 q) (hl : ab_lV m.1.cls ix m1 ci) (ha : (LAY L)[a]? = some (.inl (ci, refs))) (hn : ([.inr a] : List ab_V).length = m1.2.2.2.2) (hrest : Nat.ble st.length 8 = true) (hd1 : Nat.ble d1 d = true) {v : Int} (hc : cF L d1 m1 [.inr a] M v) (k : wp L d m q ls (.inl v :: st) M Q) : wp L d m pc ls (.inr a :: st) M Q := wp_iv (as := [.inr a]) h (Or.inl ⟨ix, ci, a, [], refs, rfl, rfl, hl, rfl, ha⟩) hn hrest hd1  hc k
theorem wp_v0g {ix ci : Nat} {refs : List Nat} {m1 : ab_M} {d1 : Nat} (h : ab_at m pc (.invokevirtual ix) 3 q) (hl : ab_lV m.1.cls ix m1 ci) (ha : (LAY L)[a]? = some (.inl (ci, refs))) (hn : ([.inr a] : List ab_V).length = m1.2.2.2.2) (hrest : Nat.ble st.length 8 = true) (hd1 : Nat.ble d1 d = true) {v : Int} {M1 : ab_Me} (hc : cG L d1 m1 [.inr a] M v M1) (k : wp L d m q ls (.inl v :: st) M1 Q) : wp L d m pc ls (.inr a :: st) M Q := wp_iv (as := [.inr a]) h (Or.inl ⟨ix, ci, a, [], refs, rfl, rfl, hl, rfl, ha⟩) hn hrest hd1  hc k
theorem wp_v0v {ix ci : Nat} {refs : List Nat} {m1 : ab_M} {d1 : Nat} (h : ab_at m pc (.invokevirtual ix) 3 q) (hl : ab_lV m.1.cls ix m1 ci) (ha : (LAY L)[a]? = some (.inl (ci, refs))) (hn : ([.inr a] : List ab_V).length = m1.2.2.2.2) (hrest : Nat.ble st.length 8 = true) (hd1 : Nat.ble d1 d = true) {M1 : ab_Me} (hc : cV L d1 m1 [.inr a] M M1) (k : wp L d m q ls st M1 Q) : wp L d m pc ls (.inr a :: st) M Q := wp_iv (as := [.inr a]) h (Or.inl ⟨ix, ci, a, [], refs, rfl, rfl, hl, rfl, ha⟩) hn hrest hd1  hc k
theorem wp_v0x {ix ci : Nat} {refs : List Nat} {m1 : ab_M} {d1 : Nat} (h : ab_at m pc (.invokevirtual ix) 3 q) (hl : ab_lV m.1.cls ix m1 ci) (ha : (LAY L)[a]? = some (.inl (ci, refs))) (hn : ([.inr a] : List ab_V).length = m1.2.2.2.2) (hrest : Nat.ble st.length 8 = true) (hd1 : Nat.ble d1 d = true) {Q1 : Option ab_V → ab_Me → Prop} (hc : ct L d1 m1 [.inr a] M Q1) (k : ∀ r M1, Q1 r M1 → wp L d m q ls (r.toList ++ st) M1 Q) : wp L d m pc ls (.inr a :: st) M Q := by
  obtain ⟨r, M1, e1, e2⟩ := hc
  exact wp_iv (as := [.inr a]) h (Or.inl ⟨ix, ci, a, [], refs, rfl, rfl, hl, rfl, ha⟩) hn hrest hd1  e1 (k r M1 e2)
theorem wp_v1f {ix ci : Nat} {refs : List Nat} {m1 : ab_M} {d1 : Nat} {x1 : ab_V} (h : ab_at m pc (.invokevirtual ix) 3 q) (hl : ab_lV m.1.cls ix m1 ci) (ha : (LAY L)[a]? = some (.inl (ci, refs))) (hn : ([.inr a, x1] : List ab_V).length = m1.2.2.2.2) (hrest : Nat.ble st.length 8 = true) (hd1 : Nat.ble d1 d = true) {v : Int} (hc : cF L d1 m1 [.inr a, x1] M v) (k : wp L d m q ls (.inl v :: st) M Q) : wp L d m pc ls (x1 :: .inr a :: st) M Q := wp_iv (as := [.inr a, x1]) h (Or.inl ⟨ix, ci, a, [x1], refs, rfl, rfl, hl, rfl, ha⟩) hn hrest hd1  hc k
theorem wp_v1g {ix ci : Nat} {refs : List Nat} {m1 : ab_M} {d1 : Nat} {x1 : ab_V} (h : ab_at m pc (.invokevirtual ix) 3 q) (hl : ab_lV m.1.cls ix m1 ci) (ha : (LAY L)[a]? = some (.inl (ci, refs))) (hn : ([.inr a, x1] : List ab_V).length = m1.2.2.2.2) (hrest : Nat.ble st.length 8 = true) (hd1 : Nat.ble d1 d = true) {v : Int} {M1 : ab_Me} (hc : cG L d1 m1 [.inr a, x1] M v M1) (k : wp L d m q ls (.inl v :: st) M1 Q) : wp L d m pc ls (x1 :: .inr a :: st) M Q := wp_iv (as := [.inr a, x1]) h (Or.inl ⟨ix, ci, a, [x1], refs, rfl, rfl, hl, rfl, ha⟩) hn hrest hd1  hc k
theorem wp_v1v {ix ci : Nat} {refs : List Nat} {m1 : ab_M} {d1 : Nat} {x1 : ab_V} (h : ab_at m pc (.invokevirtual ix) 3 q) (hl : ab_lV m.1.cls ix m1 ci) (ha : (LAY L)[a]? = some (.inl (ci, refs))) (hn : ([.inr a, x1] : List ab_V).length = m1.2.2.2.2) (hrest : Nat.ble st.length 8 = true) (hd1 : Nat.ble d1 d = true) {M1 : ab_Me} (hc : cV L d1 m1 [.inr a, x1] M M1) (k : wp L d m q ls st M1 Q) : wp L d m pc ls (x1 :: .inr a :: st) M Q := wp_iv (as := [.inr a, x1]) h (Or.inl ⟨ix, ci, a, [x1], refs, rfl, rfl, hl, rfl, ha⟩) hn hrest hd1  hc k
theorem wp_v1x {ix ci : Nat} {refs : List Nat} {m1 : ab_M} {d1 : Nat} {x1 : ab_V} (h : ab_at m pc (.invokevirtual ix) 3 q) (hl : ab_lV m.1.cls ix m1 ci) (ha : (LAY L)[a]? = some (.inl (ci, refs))) (hn : ([.inr a, x1] : List ab_V).length = m1.2.2.2.2) (hrest : Nat.ble st.length 8 = true) (hd1 : Nat.ble d1 d = true) {Q1 : Option ab_V → ab_Me → Prop} (hc : ct L d1 m1 [.inr a, x1] M Q1) (k : ∀ r M1, Q1 r M1 → wp L d m q ls (r.toList ++ st) M1 Q) : wp L d m pc ls (x1 :: .inr a :: st) M Q := by
  obtain ⟨r, M1, e1, e2⟩ := hc
  exact wp_iv (as := [.inr a, x1]) h (Or.inl ⟨ix, ci, a, [x1], refs, rfl, rfl, hl, rfl, ha⟩) hn hrest hd1  e1 (k r M1 e2)
theorem wp_s1f {ix : Nat} {m1 : ab_M} {d1 : Nat} {x1 : ab_V} (h : ab_at m pc (.invokestatic ix) 3 q) (hl : ab_lS m.1.cls ix m1) (hn : ([x1] : List ab_V).length = m1.2.2.2.2) (hrest : Nat.ble st.length 8 = true) (hd1 : Nat.ble d1 d = true) {v : Int} (hc : cF L d1 m1 [x1] M v) (k : wp L d m q ls (.inl v :: st) M Q) : wp L d m pc ls (x1 :: st) M Q := wp_iv (as := [x1]) h (Or.inr (Or.inl ⟨ix, rfl, rfl, hl⟩)) hn hrest hd1  hc k
theorem wp_s1g {ix : Nat} {m1 : ab_M} {d1 : Nat} {x1 : ab_V} (h : ab_at m pc (.invokestatic ix) 3 q) (hl : ab_lS m.1.cls ix m1) (hn : ([x1] : List ab_V).length = m1.2.2.2.2) (hrest : Nat.ble st.length 8 = true) (hd1 : Nat.ble d1 d = true) {v : Int} {M1 : ab_Me} (hc : cG L d1 m1 [x1] M v M1) (k : wp L d m q ls (.inl v :: st) M1 Q) : wp L d m pc ls (x1 :: st) M Q := wp_iv (as := [x1]) h (Or.inr (Or.inl ⟨ix, rfl, rfl, hl⟩)) hn hrest hd1  hc k
theorem wp_s1v {ix : Nat} {m1 : ab_M} {d1 : Nat} {x1 : ab_V} (h : ab_at m pc (.invokestatic ix) 3 q) (hl : ab_lS m.1.cls ix m1) (hn : ([x1] : List ab_V).length = m1.2.2.2.2) (hrest : Nat.ble st.length 8 = true) (hd1 : Nat.ble d1 d = true) {M1 : ab_Me} (hc : cV L d1 m1 [x1] M M1) (k : wp L d m q ls st M1 Q) : wp L d m pc ls (x1 :: st) M Q := wp_iv (as := [x1]) h (Or.inr (Or.inl ⟨ix, rfl, rfl, hl⟩)) hn hrest hd1  hc k
theorem wp_s1x {ix : Nat} {m1 : ab_M} {d1 : Nat} {x1 : ab_V} (h : ab_at m pc (.invokestatic ix) 3 q) (hl : ab_lS m.1.cls ix m1) (hn : ([x1] : List ab_V).length = m1.2.2.2.2) (hrest : Nat.ble st.length 8 = true) (hd1 : Nat.ble d1 d = true) {Q1 : Option ab_V → ab_Me → Prop} (hc : ct L d1 m1 [x1] M Q1) (k : ∀ r M1, Q1 r M1 → wp L d m q ls (r.toList ++ st) M1 Q) : wp L d m pc ls (x1 :: st) M Q := by
  obtain ⟨r, M1, e1, e2⟩ := hc
  exact wp_iv (as := [x1]) h (Or.inr (Or.inl ⟨ix, rfl, rfl, hl⟩)) hn hrest hd1  e1 (k r M1 e2)
theorem wp_n1f {ix : Nat} {m1 : ab_M} {d1 : Nat} {x1 : ab_V} (h : ab_at m pc (.invokestatic ix) 3 q) (hl : ab_lN m.1.cls ix m1) (hn : ([x1] : List ab_V).length = m1.2.2.2.2) (hrest : Nat.ble st.length 8 = true) (hd1 : Nat.ble d1 d = true) {v : Int} (hc : cF L d1 m1 [x1] M v) (k : wp L d m q ls (.inl v :: st) M Q) : wp L d m pc ls (x1 :: st) M Q := wp_iv (as := [x1]) h (Or.inr (Or.inr (Or.inl ⟨ix, rfl, rfl, hl⟩))) hn hrest hd1  hc k
theorem wp_n1g {ix : Nat} {m1 : ab_M} {d1 : Nat} {x1 : ab_V} (h : ab_at m pc (.invokestatic ix) 3 q) (hl : ab_lN m.1.cls ix m1) (hn : ([x1] : List ab_V).length = m1.2.2.2.2) (hrest : Nat.ble st.length 8 = true) (hd1 : Nat.ble d1 d = true) {v : Int} {M1 : ab_Me} (hc : cG L d1 m1 [x1] M v M1) (k : wp L d m q ls (.inl v :: st) M1 Q) : wp L d m pc ls (x1 :: st) M Q := wp_iv (as := [x1]) h (Or.inr (Or.inr (Or.inl ⟨ix, rfl, rfl, hl⟩))) hn hrest hd1  hc k
theorem wp_n1v {ix : Nat} {m1 : ab_M} {d1 : Nat} {x1 : ab_V} (h : ab_at m pc (.invokestatic ix) 3 q) (hl : ab_lN m.1.cls ix m1) (hn : ([x1] : List ab_V).length = m1.2.2.2.2) (hrest : Nat.ble st.length 8 = true) (hd1 : Nat.ble d1 d = true) {M1 : ab_Me} (hc : cV L d1 m1 [x1] M M1) (k : wp L d m q ls st M1 Q) : wp L d m pc ls (x1 :: st) M Q := wp_iv (as := [x1]) h (Or.inr (Or.inr (Or.inl ⟨ix, rfl, rfl, hl⟩))) hn hrest hd1  hc k
theorem wp_n1x {ix : Nat} {m1 : ab_M} {d1 : Nat} {x1 : ab_V} (h : ab_at m pc (.invokestatic ix) 3 q) (hl : ab_lN m.1.cls ix m1) (hn : ([x1] : List ab_V).length = m1.2.2.2.2) (hrest : Nat.ble st.length 8 = true) (hd1 : Nat.ble d1 d = true) {Q1 : Option ab_V → ab_Me → Prop} (hc : ct L d1 m1 [x1] M Q1) (k : ∀ r M1, Q1 r M1 → wp L d m q ls (r.toList ++ st) M1 Q) : wp L d m pc ls (x1 :: st) M Q := by
  obtain ⟨r, M1, e1, e2⟩ := hc
  exact wp_iv (as := [x1]) h (Or.inr (Or.inr (Or.inl ⟨ix, rfl, rfl, hl⟩))) hn hrest hd1  e1 (k r M1 e2)
theorem wp_v2f {ix ci : Nat} {refs : List Nat} {m1 : ab_M} {d1 : Nat} {x1 x2 : ab_V} (h : ab_at m pc (.invokevirtual ix) 3 q) (hl : ab_lV m.1.cls ix m1 ci) (ha : (LAY L)[a]? = some (.inl (ci, refs))) (hn : ([.inr a, x1, x2] : List ab_V).length = m1.2.2.2.2) (hrest : Nat.ble st.length 8 = true) (hd1 : Nat.ble d1 d = true) {v : Int} (hc : cF L d1 m1 [.inr a, x1, x2] M v) (k : wp L d m q ls (.inl v :: st) M Q) : wp L d m pc ls (x2 :: x1 :: .inr a :: st) M Q := wp_iv (as := [.inr a, x1, x2]) h (Or.inl ⟨ix, ci, a, [x1, x2], refs, rfl, rfl, hl, rfl, ha⟩) hn hrest hd1  hc k
theorem wp_v2g {ix ci : Nat} {refs : List Nat} {m1 : ab_M} {d1 : Nat} {x1 x2 : ab_V} (h : ab_at m pc (.invokevirtual ix) 3 q) (hl : ab_lV m.1.cls ix m1 ci) (ha : (LAY L)[a]? = some (.inl (ci, refs))) (hn : ([.inr a, x1, x2] : List ab_V).length = m1.2.2.2.2) (hrest : Nat.ble st.length 8 = true) (hd1 : Nat.ble d1 d = true) {v : Int} {M1 : ab_Me} (hc : cG L d1 m1 [.inr a, x1, x2] M v M1) (k : wp L d m q ls (.inl v :: st) M1 Q) : wp L d m pc ls (x2 :: x1 :: .inr a :: st) M Q := wp_iv (as := [.inr a, x1, x2]) h (Or.inl ⟨ix, ci, a, [x1, x2], refs, rfl, rfl, hl, rfl, ha⟩) hn hrest hd1  hc k
theorem wp_v2v {ix ci : Nat} {refs : List Nat} {m1 : ab_M} {d1 : Nat} {x1 x2 : ab_V} (h : ab_at m pc (.invokevirtual ix) 3 q) (hl : ab_lV m.1.cls ix m1 ci) (ha : (LAY L)[a]? = some (.inl (ci, refs))) (hn : ([.inr a, x1, x2] : List ab_V).length = m1.2.2.2.2) (hrest : Nat.ble st.length 8 = true) (hd1 : Nat.ble d1 d = true) {M1 : ab_Me} (hc : cV L d1 m1 [.inr a, x1, x2] M M1) (k : wp L d m q ls st M1 Q) : wp L d m pc ls (x2 :: x1 :: .inr a :: st) M Q := wp_iv (as := [.inr a, x1, x2]) h (Or.inl ⟨ix, ci, a, [x1, x2], refs, rfl, rfl, hl, rfl, ha⟩) hn hrest hd1  hc k
theorem wp_v2x {ix ci : Nat} {refs : List Nat} {m1 : ab_M} {d1 : Nat} {x1 x2 : ab_V} (h : ab_at m pc (.invokevirtual ix) 3 q) (hl : ab_lV m.1.cls ix m1 ci) (ha : (LAY L)[a]? = some (.inl (ci, refs))) (hn : ([.inr a, x1, x2] : List ab_V).length = m1.2.2.2.2) (hrest : Nat.ble st.length 8 = true) (hd1 : Nat.ble d1 d = true) {Q1 : Option ab_V → ab_Me → Prop} (hc : ct L d1 m1 [.inr a, x1, x2] M Q1) (k : ∀ r M1, Q1 r M1 → wp L d m q ls (r.toList ++ st) M1 Q) : wp L d m pc ls (x2 :: x1 :: .inr a :: st) M Q := by
  obtain ⟨r, M1, e1, e2⟩ := hc
  exact wp_iv (as := [.inr a, x1, x2]) h (Or.inl ⟨ix, ci, a, [x1, x2], refs, rfl, rfl, hl, rfl, ha⟩) hn hrest hd1  e1 (k r M1 e2)
theorem wp_s2f {ix : Nat} {m1 : ab_M} {d1 : Nat} {x1 x2 : ab_V} (h : ab_at m pc (.invokestatic ix) 3 q) (hl : ab_lS m.1.cls ix m1) (hn : ([x1, x2] : List ab_V).length = m1.2.2.2.2) (hrest : Nat.ble st.length 8 = true) (hd1 : Nat.ble d1 d = true) {v : Int} (hc : cF L d1 m1 [x1, x2] M v) (k : wp L d m q ls (.inl v :: st) M Q) : wp L d m pc ls (x2 :: x1 :: st) M Q := wp_iv (as := [x1, x2]) h (Or.inr (Or.inl ⟨ix, rfl, rfl, hl⟩)) hn hrest hd1  hc k
theorem wp_s2g {ix : Nat} {m1 : ab_M} {d1 : Nat} {x1 x2 : ab_V} (h : ab_at m pc (.invokestatic ix) 3 q) (hl : ab_lS m.1.cls ix m1) (hn : ([x1, x2] : List ab_V).length = m1.2.2.2.2) (hrest : Nat.ble st.length 8 = true) (hd1 : Nat.ble d1 d = true) {v : Int} {M1 : ab_Me} (hc : cG L d1 m1 [x1, x2] M v M1) (k : wp L d m q ls (.inl v :: st) M1 Q) : wp L d m pc ls (x2 :: x1 :: st) M Q := wp_iv (as := [x1, x2]) h (Or.inr (Or.inl ⟨ix, rfl, rfl, hl⟩)) hn hrest hd1  hc k
theorem wp_s2v {ix : Nat} {m1 : ab_M} {d1 : Nat} {x1 x2 : ab_V} (h : ab_at m pc (.invokestatic ix) 3 q) (hl : ab_lS m.1.cls ix m1) (hn : ([x1, x2] : List ab_V).length = m1.2.2.2.2) (hrest : Nat.ble st.length 8 = true) (hd1 : Nat.ble d1 d = true) {M1 : ab_Me} (hc : cV L d1 m1 [x1, x2] M M1) (k : wp L d m q ls st M1 Q) : wp L d m pc ls (x2 :: x1 :: st) M Q := wp_iv (as := [x1, x2]) h (Or.inr (Or.inl ⟨ix, rfl, rfl, hl⟩)) hn hrest hd1  hc k
theorem wp_s2x {ix : Nat} {m1 : ab_M} {d1 : Nat} {x1 x2 : ab_V} (h : ab_at m pc (.invokestatic ix) 3 q) (hl : ab_lS m.1.cls ix m1) (hn : ([x1, x2] : List ab_V).length = m1.2.2.2.2) (hrest : Nat.ble st.length 8 = true) (hd1 : Nat.ble d1 d = true) {Q1 : Option ab_V → ab_Me → Prop} (hc : ct L d1 m1 [x1, x2] M Q1) (k : ∀ r M1, Q1 r M1 → wp L d m q ls (r.toList ++ st) M1 Q) : wp L d m pc ls (x2 :: x1 :: st) M Q := by
  obtain ⟨r, M1, e1, e2⟩ := hc
  exact wp_iv (as := [x1, x2]) h (Or.inr (Or.inl ⟨ix, rfl, rfl, hl⟩)) hn hrest hd1  e1 (k r M1 e2)
theorem wp_n2f {ix : Nat} {m1 : ab_M} {d1 : Nat} {x1 x2 : ab_V} (h : ab_at m pc (.invokestatic ix) 3 q) (hl : ab_lN m.1.cls ix m1) (hn : ([x1, x2] : List ab_V).length = m1.2.2.2.2) (hrest : Nat.ble st.length 8 = true) (hd1 : Nat.ble d1 d = true) {v : Int} (hc : cF L d1 m1 [x1, x2] M v) (k : wp L d m q ls (.inl v :: st) M Q) : wp L d m pc ls (x2 :: x1 :: st) M Q := wp_iv (as := [x1, x2]) h (Or.inr (Or.inr (Or.inl ⟨ix, rfl, rfl, hl⟩))) hn hrest hd1  hc k
theorem wp_n2g {ix : Nat} {m1 : ab_M} {d1 : Nat} {x1 x2 : ab_V} (h : ab_at m pc (.invokestatic ix) 3 q) (hl : ab_lN m.1.cls ix m1) (hn : ([x1, x2] : List ab_V).length = m1.2.2.2.2) (hrest : Nat.ble st.length 8 = true) (hd1 : Nat.ble d1 d = true) {v : Int} {M1 : ab_Me} (hc : cG L d1 m1 [x1, x2] M v M1) (k : wp L d m q ls (.inl v :: st) M1 Q) : wp L d m pc ls (x2 :: x1 :: st) M Q := wp_iv (as := [x1, x2]) h (Or.inr (Or.inr (Or.inl ⟨ix, rfl, rfl, hl⟩))) hn hrest hd1  hc k
theorem wp_n2v {ix : Nat} {m1 : ab_M} {d1 : Nat} {x1 x2 : ab_V} (h : ab_at m pc (.invokestatic ix) 3 q) (hl : ab_lN m.1.cls ix m1) (hn : ([x1, x2] : List ab_V).length = m1.2.2.2.2) (hrest : Nat.ble st.length 8 = true) (hd1 : Nat.ble d1 d = true) {M1 : ab_Me} (hc : cV L d1 m1 [x1, x2] M M1) (k : wp L d m q ls st M1 Q) : wp L d m pc ls (x2 :: x1 :: st) M Q := wp_iv (as := [x1, x2]) h (Or.inr (Or.inr (Or.inl ⟨ix, rfl, rfl, hl⟩))) hn hrest hd1  hc k
theorem wp_n2x {ix : Nat} {m1 : ab_M} {d1 : Nat} {x1 x2 : ab_V} (h : ab_at m pc (.invokestatic ix) 3 q) (hl : ab_lN m.1.cls ix m1) (hn : ([x1, x2] : List ab_V).length = m1.2.2.2.2) (hrest : Nat.ble st.length 8 = true) (hd1 : Nat.ble d1 d = true) {Q1 : Option ab_V → ab_Me → Prop} (hc : ct L d1 m1 [x1, x2] M Q1) (k : ∀ r M1, Q1 r M1 → wp L d m q ls (r.toList ++ st) M1 Q) : wp L d m pc ls (x2 :: x1 :: st) M Q := by
  obtain ⟨r, M1, e1, e2⟩ := hc
  exact wp_iv (as := [x1, x2]) h (Or.inr (Or.inr (Or.inl ⟨ix, rfl, rfl, hl⟩))) hn hrest hd1  e1 (k r M1 e2)
theorem wp_v3f {ix ci : Nat} {refs : List Nat} {m1 : ab_M} {d1 : Nat} {x1 x2 x3 : ab_V} (h : ab_at m pc (.invokevirtual ix) 3 q) (hl : ab_lV m.1.cls ix m1 ci) (ha : (LAY L)[a]? = some (.inl (ci, refs))) (hn : ([.inr a, x1, x2, x3] : List ab_V).length = m1.2.2.2.2) (hrest : Nat.ble st.length 8 = true) (hd1 : Nat.ble d1 d = true) {v : Int} (hc : cF L d1 m1 [.inr a, x1, x2, x3] M v) (k : wp L d m q ls (.inl v :: st) M Q) : wp L d m pc ls (x3 :: x2 :: x1 :: .inr a :: st) M Q := wp_iv (as := [.inr a, x1, x2, x3]) h (Or.inl ⟨ix, ci, a, [x1, x2, x3], refs, rfl, rfl, hl, rfl, ha⟩) hn hrest hd1  hc k
theorem wp_v3g {ix ci : Nat} {refs : List Nat} {m1 : ab_M} {d1 : Nat} {x1 x2 x3 : ab_V} (h : ab_at m pc (.invokevirtual ix) 3 q) (hl : ab_lV m.1.cls ix m1 ci) (ha : (LAY L)[a]? = some (.inl (ci, refs))) (hn : ([.inr a, x1, x2, x3] : List ab_V).length = m1.2.2.2.2) (hrest : Nat.ble st.length 8 = true) (hd1 : Nat.ble d1 d = true) {v : Int} {M1 : ab_Me} (hc : cG L d1 m1 [.inr a, x1, x2, x3] M v M1) (k : wp L d m q ls (.inl v :: st) M1 Q) : wp L d m pc ls (x3 :: x2 :: x1 :: .inr a :: st) M Q := wp_iv (as := [.inr a, x1, x2, x3]) h (Or.inl ⟨ix, ci, a, [x1, x2, x3], refs, rfl, rfl, hl, rfl, ha⟩) hn hrest hd1  hc k
theorem wp_v3v {ix ci : Nat} {refs : List Nat} {m1 : ab_M} {d1 : Nat} {x1 x2 x3 : ab_V} (h : ab_at m pc (.invokevirtual ix) 3 q) (hl : ab_lV m.1.cls ix m1 ci) (ha : (LAY L)[a]? = some (.inl (ci, refs))) (hn : ([.inr a, x1, x2, x3] : List ab_V).length = m1.2.2.2.2) (hrest : Nat.ble st.length 8 = true) (hd1 : Nat.ble d1 d = true) {M1 : ab_Me} (hc : cV L d1 m1 [.inr a, x1, x2, x3] M M1) (k : wp L d m q ls st M1 Q) : wp L d m pc ls (x3 :: x2 :: x1 :: .inr a :: st) M Q := wp_iv (as := [.inr a, x1, x2, x3]) h (Or.inl ⟨ix, ci, a, [x1, x2, x3], refs, rfl, rfl, hl, rfl, ha⟩) hn hrest hd1  hc k
theorem wp_v3x {ix ci : Nat} {refs : List Nat} {m1 : ab_M} {d1 : Nat} {x1 x2 x3 : ab_V} (h : ab_at m pc (.invokevirtual ix) 3 q) (hl : ab_lV m.1.cls ix m1 ci) (ha : (LAY L)[a]? = some (.inl (ci, refs))) (hn : ([.inr a, x1, x2, x3] : List ab_V).length = m1.2.2.2.2) (hrest : Nat.ble st.length 8 = true) (hd1 : Nat.ble d1 d = true) {Q1 : Option ab_V → ab_Me → Prop} (hc : ct L d1 m1 [.inr a, x1, x2, x3] M Q1) (k : ∀ r M1, Q1 r M1 → wp L d m q ls (r.toList ++ st) M1 Q) : wp L d m pc ls (x3 :: x2 :: x1 :: .inr a :: st) M Q := by
  obtain ⟨r, M1, e1, e2⟩ := hc
  exact wp_iv (as := [.inr a, x1, x2, x3]) h (Or.inl ⟨ix, ci, a, [x1, x2, x3], refs, rfl, rfl, hl, rfl, ha⟩) hn hrest hd1  e1 (k r M1 e2)
theorem wp_s3f {ix : Nat} {m1 : ab_M} {d1 : Nat} {x1 x2 x3 : ab_V} (h : ab_at m pc (.invokestatic ix) 3 q) (hl : ab_lS m.1.cls ix m1) (hn : ([x1, x2, x3] : List ab_V).length = m1.2.2.2.2) (hrest : Nat.ble st.length 8 = true) (hd1 : Nat.ble d1 d = true) {v : Int} (hc : cF L d1 m1 [x1, x2, x3] M v) (k : wp L d m q ls (.inl v :: st) M Q) : wp L d m pc ls (x3 :: x2 :: x1 :: st) M Q := wp_iv (as := [x1, x2, x3]) h (Or.inr (Or.inl ⟨ix, rfl, rfl, hl⟩)) hn hrest hd1  hc k
theorem wp_s3g {ix : Nat} {m1 : ab_M} {d1 : Nat} {x1 x2 x3 : ab_V} (h : ab_at m pc (.invokestatic ix) 3 q) (hl : ab_lS m.1.cls ix m1) (hn : ([x1, x2, x3] : List ab_V).length = m1.2.2.2.2) (hrest : Nat.ble st.length 8 = true) (hd1 : Nat.ble d1 d = true) {v : Int} {M1 : ab_Me} (hc : cG L d1 m1 [x1, x2, x3] M v M1) (k : wp L d m q ls (.inl v :: st) M1 Q) : wp L d m pc ls (x3 :: x2 :: x1 :: st) M Q := wp_iv (as := [x1, x2, x3]) h (Or.inr (Or.inl ⟨ix, rfl, rfl, hl⟩)) hn hrest hd1  hc k
theorem wp_s3v {ix : Nat} {m1 : ab_M} {d1 : Nat} {x1 x2 x3 : ab_V} (h : ab_at m pc (.invokestatic ix) 3 q) (hl : ab_lS m.1.cls ix m1) (hn : ([x1, x2, x3] : List ab_V).length = m1.2.2.2.2) (hrest : Nat.ble st.length 8 = true) (hd1 : Nat.ble d1 d = true) {M1 : ab_Me} (hc : cV L d1 m1 [x1, x2, x3] M M1) (k : wp L d m q ls st M1 Q) : wp L d m pc ls (x3 :: x2 :: x1 :: st) M Q := wp_iv (as := [x1, x2, x3]) h (Or.inr (Or.inl ⟨ix, rfl, rfl, hl⟩)) hn hrest hd1  hc k
theorem wp_s3x {ix : Nat} {m1 : ab_M} {d1 : Nat} {x1 x2 x3 : ab_V} (h : ab_at m pc (.invokestatic ix) 3 q) (hl : ab_lS m.1.cls ix m1) (hn : ([x1, x2, x3] : List ab_V).length = m1.2.2.2.2) (hrest : Nat.ble st.length 8 = true) (hd1 : Nat.ble d1 d = true) {Q1 : Option ab_V → ab_Me → Prop} (hc : ct L d1 m1 [x1, x2, x3] M Q1) (k : ∀ r M1, Q1 r M1 → wp L d m q ls (r.toList ++ st) M1 Q) : wp L d m pc ls (x3 :: x2 :: x1 :: st) M Q := by
  obtain ⟨r, M1, e1, e2⟩ := hc
  exact wp_iv (as := [x1, x2, x3]) h (Or.inr (Or.inl ⟨ix, rfl, rfl, hl⟩)) hn hrest hd1  e1 (k r M1 e2)
theorem wp_n3f {ix : Nat} {m1 : ab_M} {d1 : Nat} {x1 x2 x3 : ab_V} (h : ab_at m pc (.invokestatic ix) 3 q) (hl : ab_lN m.1.cls ix m1) (hn : ([x1, x2, x3] : List ab_V).length = m1.2.2.2.2) (hrest : Nat.ble st.length 8 = true) (hd1 : Nat.ble d1 d = true) {v : Int} (hc : cF L d1 m1 [x1, x2, x3] M v) (k : wp L d m q ls (.inl v :: st) M Q) : wp L d m pc ls (x3 :: x2 :: x1 :: st) M Q := wp_iv (as := [x1, x2, x3]) h (Or.inr (Or.inr (Or.inl ⟨ix, rfl, rfl, hl⟩))) hn hrest hd1  hc k
theorem wp_n3g {ix : Nat} {m1 : ab_M} {d1 : Nat} {x1 x2 x3 : ab_V} (h : ab_at m pc (.invokestatic ix) 3 q) (hl : ab_lN m.1.cls ix m1) (hn : ([x1, x2, x3] : List ab_V).length = m1.2.2.2.2) (hrest : Nat.ble st.length 8 = true) (hd1 : Nat.ble d1 d = true) {v : Int} {M1 : ab_Me} (hc : cG L d1 m1 [x1, x2, x3] M v M1) (k : wp L d m q ls (.inl v :: st) M1 Q) : wp L d m pc ls (x3 :: x2 :: x1 :: st) M Q := wp_iv (as := [x1, x2, x3]) h (Or.inr (Or.inr (Or.inl ⟨ix, rfl, rfl, hl⟩))) hn hrest hd1  hc k
theorem wp_n3v {ix : Nat} {m1 : ab_M} {d1 : Nat} {x1 x2 x3 : ab_V} (h : ab_at m pc (.invokestatic ix) 3 q) (hl : ab_lN m.1.cls ix m1) (hn : ([x1, x2, x3] : List ab_V).length = m1.2.2.2.2) (hrest : Nat.ble st.length 8 = true) (hd1 : Nat.ble d1 d = true) {M1 : ab_Me} (hc : cV L d1 m1 [x1, x2, x3] M M1) (k : wp L d m q ls st M1 Q) : wp L d m pc ls (x3 :: x2 :: x1 :: st) M Q := wp_iv (as := [x1, x2, x3]) h (Or.inr (Or.inr (Or.inl ⟨ix, rfl, rfl, hl⟩))) hn hrest hd1  hc k
theorem wp_n3x {ix : Nat} {m1 : ab_M} {d1 : Nat} {x1 x2 x3 : ab_V} (h : ab_at m pc (.invokestatic ix) 3 q) (hl : ab_lN m.1.cls ix m1) (hn : ([x1, x2, x3] : List ab_V).length = m1.2.2.2.2) (hrest : Nat.ble st.length 8 = true) (hd1 : Nat.ble d1 d = true) {Q1 : Option ab_V → ab_Me → Prop} (hc : ct L d1 m1 [x1, x2, x3] M Q1) (k : ∀ r M1, Q1 r M1 → wp L d m q ls (r.toList ++ st) M1 Q) : wp L d m pc ls (x3 :: x2 :: x1 :: st) M Q := by
  obtain ⟨r, M1, e1, e2⟩ := hc
  exact wp_iv (as := [x1, x2, x3]) h (Or.inr (Or.inr (Or.inl ⟨ix, rfl, rfl, hl⟩))) hn hrest hd1  e1 (k r M1 e2)
theorem wp_v4f {ix ci : Nat} {refs : List Nat} {m1 : ab_M} {d1 : Nat} {x1 x2 x3 x4 : ab_V} (h : ab_at m pc (.invokevirtual ix) 3 q) (hl : ab_lV m.1.cls ix m1 ci) (ha : (LAY L)[a]? = some (.inl (ci, refs))) (hn : ([.inr a, x1, x2, x3, x4] : List ab_V).length = m1.2.2.2.2) (hrest : Nat.ble st.length 8 = true) (hd1 : Nat.ble d1 d = true) {v : Int} (hc : cF L d1 m1 [.inr a, x1, x2, x3, x4] M v) (k : wp L d m q ls (.inl v :: st) M Q) : wp L d m pc ls (x4 :: x3 :: x2 :: x1 :: .inr a :: st) M Q := wp_iv (as := [.inr a, x1, x2, x3, x4]) h (Or.inl ⟨ix, ci, a, [x1, x2, x3, x4], refs, rfl, rfl, hl, rfl, ha⟩) hn hrest hd1  hc k
theorem wp_v4g {ix ci : Nat} {refs : List Nat} {m1 : ab_M} {d1 : Nat} {x1 x2 x3 x4 : ab_V} (h : ab_at m pc (.invokevirtual ix) 3 q) (hl : ab_lV m.1.cls ix m1 ci) (ha : (LAY L)[a]? = some (.inl (ci, refs))) (hn : ([.inr a, x1, x2, x3, x4] : List ab_V).length = m1.2.2.2.2) (hrest : Nat.ble st.length 8 = true) (hd1 : Nat.ble d1 d = true) {v : Int} {M1 : ab_Me} (hc : cG L d1 m1 [.inr a, x1, x2, x3, x4] M v M1) (k : wp L d m q ls (.inl v :: st) M1 Q) : wp L d m pc ls (x4 :: x3 :: x2 :: x1 :: .inr a :: st) M Q := wp_iv (as := [.inr a, x1, x2, x3, x4]) h (Or.inl ⟨ix, ci, a, [x1, x2, x3, x4], refs, rfl, rfl, hl, rfl, ha⟩) hn hrest hd1  hc k
theorem wp_v4v {ix ci : Nat} {refs : List Nat} {m1 : ab_M} {d1 : Nat} {x1 x2 x3 x4 : ab_V} (h : ab_at m pc (.invokevirtual ix) 3 q) (hl : ab_lV m.1.cls ix m1 ci) (ha : (LAY L)[a]? = some (.inl (ci, refs))) (hn : ([.inr a, x1, x2, x3, x4] : List ab_V).length = m1.2.2.2.2) (hrest : Nat.ble st.length 8 = true) (hd1 : Nat.ble d1 d = true) {M1 : ab_Me} (hc : cV L d1 m1 [.inr a, x1, x2, x3, x4] M M1) (k : wp L d m q ls st M1 Q) : wp L d m pc ls (x4 :: x3 :: x2 :: x1 :: .inr a :: st) M Q := wp_iv (as := [.inr a, x1, x2, x3, x4]) h (Or.inl ⟨ix, ci, a, [x1, x2, x3, x4], refs, rfl, rfl, hl, rfl, ha⟩) hn hrest hd1  hc k
theorem wp_v4x {ix ci : Nat} {refs : List Nat} {m1 : ab_M} {d1 : Nat} {x1 x2 x3 x4 : ab_V} (h : ab_at m pc (.invokevirtual ix) 3 q) (hl : ab_lV m.1.cls ix m1 ci) (ha : (LAY L)[a]? = some (.inl (ci, refs))) (hn : ([.inr a, x1, x2, x3, x4] : List ab_V).length = m1.2.2.2.2) (hrest : Nat.ble st.length 8 = true) (hd1 : Nat.ble d1 d = true) {Q1 : Option ab_V → ab_Me → Prop} (hc : ct L d1 m1 [.inr a, x1, x2, x3, x4] M Q1) (k : ∀ r M1, Q1 r M1 → wp L d m q ls (r.toList ++ st) M1 Q) : wp L d m pc ls (x4 :: x3 :: x2 :: x1 :: .inr a :: st) M Q := by
  obtain ⟨r, M1, e1, e2⟩ := hc
  exact wp_iv (as := [.inr a, x1, x2, x3, x4]) h (Or.inl ⟨ix, ci, a, [x1, x2, x3, x4], refs, rfl, rfl, hl, rfl, ha⟩) hn hrest hd1  e1 (k r M1 e2)
theorem wp_s4f {ix : Nat} {m1 : ab_M} {d1 : Nat} {x1 x2 x3 x4 : ab_V} (h : ab_at m pc (.invokestatic ix) 3 q) (hl : ab_lS m.1.cls ix m1) (hn : ([x1, x2, x3, x4] : List ab_V).length = m1.2.2.2.2) (hrest : Nat.ble st.length 8 = true) (hd1 : Nat.ble d1 d = true) {v : Int} (hc : cF L d1 m1 [x1, x2, x3, x4] M v) (k : wp L d m q ls (.inl v :: st) M Q) : wp L d m pc ls (x4 :: x3 :: x2 :: x1 :: st) M Q := wp_iv (as := [x1, x2, x3, x4]) h (Or.inr (Or.inl ⟨ix, rfl, rfl, hl⟩)) hn hrest hd1  hc k
theorem wp_s4g {ix : Nat} {m1 : ab_M} {d1 : Nat} {x1 x2 x3 x4 : ab_V} (h : ab_at m pc (.invokestatic ix) 3 q) (hl : ab_lS m.1.cls ix m1) (hn : ([x1, x2, x3, x4] : List ab_V).length = m1.2.2.2.2) (hrest : Nat.ble st.length 8 = true) (hd1 : Nat.ble d1 d = true) {v : Int} {M1 : ab_Me} (hc : cG L d1 m1 [x1, x2, x3, x4] M v M1) (k : wp L d m q ls (.inl v :: st) M1 Q) : wp L d m pc ls (x4 :: x3 :: x2 :: x1 :: st) M Q := wp_iv (as := [x1, x2, x3, x4]) h (Or.inr (Or.inl ⟨ix, rfl, rfl, hl⟩)) hn hrest hd1  hc k
theorem wp_s4v {ix : Nat} {m1 : ab_M} {d1 : Nat} {x1 x2 x3 x4 : ab_V} (h : ab_at m pc (.invokestatic ix) 3 q) (hl : ab_lS m.1.cls ix m1) (hn : ([x1, x2, x3, x4] : List ab_V).length = m1.2.2.2.2) (hrest : Nat.ble st.length 8 = true) (hd1 : Nat.ble d1 d = true) {M1 : ab_Me} (hc : cV L d1 m1 [x1, x2, x3, x4] M M1) (k : wp L d m q ls st M1 Q) : wp L d m pc ls (x4 :: x3 :: x2 :: x1 :: st) M Q := wp_iv (as := [x1, x2, x3, x4]) h (Or.inr (Or.inl ⟨ix, rfl, rfl, hl⟩)) hn hrest hd1  hc k
theorem wp_s4x {ix : Nat} {m1 : ab_M} {d1 : Nat} {x1 x2 x3 x4 : ab_V} (h : ab_at m pc (.invokestatic ix) 3 q) (hl : ab_lS m.1.cls ix m1) (hn : ([x1, x2, x3, x4] : List ab_V).length = m1.2.2.2.2) (hrest : Nat.ble st.length 8 = true) (hd1 : Nat.ble d1 d = true) {Q1 : Option ab_V → ab_Me → Prop} (hc : ct L d1 m1 [x1, x2, x3, x4] M Q1) (k : ∀ r M1, Q1 r M1 → wp L d m q ls (r.toList ++ st) M1 Q) : wp L d m pc ls (x4 :: x3 :: x2 :: x1 :: st) M Q := by
  obtain ⟨r, M1, e1, e2⟩ := hc
  exact wp_iv (as := [x1, x2, x3, x4]) h (Or.inr (Or.inl ⟨ix, rfl, rfl, hl⟩)) hn hrest hd1  e1 (k r M1 e2)
theorem wp_n4f {ix : Nat} {m1 : ab_M} {d1 : Nat} {x1 x2 x3 x4 : ab_V} (h : ab_at m pc (.invokestatic ix) 3 q) (hl : ab_lN m.1.cls ix m1) (hn : ([x1, x2, x3, x4] : List ab_V).length = m1.2.2.2.2) (hrest : Nat.ble st.length 8 = true) (hd1 : Nat.ble d1 d = true) {v : Int} (hc : cF L d1 m1 [x1, x2, x3, x4] M v) (k : wp L d m q ls (.inl v :: st) M Q) : wp L d m pc ls (x4 :: x3 :: x2 :: x1 :: st) M Q := wp_iv (as := [x1, x2, x3, x4]) h (Or.inr (Or.inr (Or.inl ⟨ix, rfl, rfl, hl⟩))) hn hrest hd1  hc k
theorem wp_n4g {ix : Nat} {m1 : ab_M} {d1 : Nat} {x1 x2 x3 x4 : ab_V} (h : ab_at m pc (.invokestatic ix) 3 q) (hl : ab_lN m.1.cls ix m1) (hn : ([x1, x2, x3, x4] : List ab_V).length = m1.2.2.2.2) (hrest : Nat.ble st.length 8 = true) (hd1 : Nat.ble d1 d = true) {v : Int} {M1 : ab_Me} (hc : cG L d1 m1 [x1, x2, x3, x4] M v M1) (k : wp L d m q ls (.inl v :: st) M1 Q) : wp L d m pc ls (x4 :: x3 :: x2 :: x1 :: st) M Q := wp_iv (as := [x1, x2, x3, x4]) h (Or.inr (Or.inr (Or.inl ⟨ix, rfl, rfl, hl⟩))) hn hrest hd1  hc k
theorem wp_n4v {ix : Nat} {m1 : ab_M} {d1 : Nat} {x1 x2 x3 x4 : ab_V} (h : ab_at m pc (.invokestatic ix) 3 q) (hl : ab_lN m.1.cls ix m1) (hn : ([x1, x2, x3, x4] : List ab_V).length = m1.2.2.2.2) (hrest : Nat.ble st.length 8 = true) (hd1 : Nat.ble d1 d = true) {M1 : ab_Me} (hc : cV L d1 m1 [x1, x2, x3, x4] M M1) (k : wp L d m q ls st M1 Q) : wp L d m pc ls (x4 :: x3 :: x2 :: x1 :: st) M Q := wp_iv (as := [x1, x2, x3, x4]) h (Or.inr (Or.inr (Or.inl ⟨ix, rfl, rfl, hl⟩))) hn hrest hd1  hc k
theorem wp_n4x {ix : Nat} {m1 : ab_M} {d1 : Nat} {x1 x2 x3 x4 : ab_V} (h : ab_at m pc (.invokestatic ix) 3 q) (hl : ab_lN m.1.cls ix m1) (hn : ([x1, x2, x3, x4] : List ab_V).length = m1.2.2.2.2) (hrest : Nat.ble st.length 8 = true) (hd1 : Nat.ble d1 d = true) {Q1 : Option ab_V → ab_Me → Prop} (hc : ct L d1 m1 [x1, x2, x3, x4] M Q1) (k : ∀ r M1, Q1 r M1 → wp L d m q ls (r.toList ++ st) M1 Q) : wp L d m pc ls (x4 :: x3 :: x2 :: x1 :: st) M Q := by
  obtain ⟨r, M1, e1, e2⟩ := hc
  exact wp_iv (as := [x1, x2, x3, x4]) h (Or.inr (Or.inr (Or.inl ⟨ix, rfl, rfl, hl⟩))) hn hrest hd1  e1 (k r M1 e2)
theorem wp_v5f {ix ci : Nat} {refs : List Nat} {m1 : ab_M} {d1 : Nat} {x1 x2 x3 x4 x5 : ab_V} (h : ab_at m pc (.invokevirtual ix) 3 q) (hl : ab_lV m.1.cls ix m1 ci) (ha : (LAY L)[a]? = some (.inl (ci, refs))) (hn : ([.inr a, x1, x2, x3, x4, x5] : List ab_V).length = m1.2.2.2.2) (hrest : Nat.ble st.length 8 = true) (hd1 : Nat.ble d1 d = true) {v : Int} (hc : cF L d1 m1 [.inr a, x1, x2, x3, x4, x5] M v) (k : wp L d m q ls (.inl v :: st) M Q) : wp L d m pc ls (x5 :: x4 :: x3 :: x2 :: x1 :: .inr a :: st) M Q := wp_iv (as := [.inr a, x1, x2, x3, x4, x5]) h (Or.inl ⟨ix, ci, a, [x1, x2, x3, x4, x5], refs, rfl, rfl, hl, rfl, ha⟩) hn hrest hd1  hc k
theorem wp_v5g {ix ci : Nat} {refs : List Nat} {m1 : ab_M} {d1 : Nat} {x1 x2 x3 x4 x5 : ab_V} (h : ab_at m pc (.invokevirtual ix) 3 q) (hl : ab_lV m.1.cls ix m1 ci) (ha : (LAY L)[a]? = some (.inl (ci, refs))) (hn : ([.inr a, x1, x2, x3, x4, x5] : List ab_V).length = m1.2.2.2.2) (hrest : Nat.ble st.length 8 = true) (hd1 : Nat.ble d1 d = true) {v : Int} {M1 : ab_Me} (hc : cG L d1 m1 [.inr a, x1, x2, x3, x4, x5] M v M1) (k : wp L d m q ls (.inl v :: st) M1 Q) : wp L d m pc ls (x5 :: x4 :: x3 :: x2 :: x1 :: .inr a :: st) M Q := wp_iv (as := [.inr a, x1, x2, x3, x4, x5]) h (Or.inl ⟨ix, ci, a, [x1, x2, x3, x4, x5], refs, rfl, rfl, hl, rfl, ha⟩) hn hrest hd1  hc k
theorem wp_v5v {ix ci : Nat} {refs : List Nat} {m1 : ab_M} {d1 : Nat} {x1 x2 x3 x4 x5 : ab_V} (h : ab_at m pc (.invokevirtual ix) 3 q) (hl : ab_lV m.1.cls ix m1 ci) (ha : (LAY L)[a]? = some (.inl (ci, refs))) (hn : ([.inr a, x1, x2, x3, x4, x5] : List ab_V).length = m1.2.2.2.2) (hrest : Nat.ble st.length 8 = true) (hd1 : Nat.ble d1 d = true) {M1 : ab_Me} (hc : cV L d1 m1 [.inr a, x1, x2, x3, x4, x5] M M1) (k : wp L d m q ls st M1 Q) : wp L d m pc ls (x5 :: x4 :: x3 :: x2 :: x1 :: .inr a :: st) M Q := wp_iv (as := [.inr a, x1, x2, x3, x4, x5]) h (Or.inl ⟨ix, ci, a, [x1, x2, x3, x4, x5], refs, rfl, rfl, hl, rfl, ha⟩) hn hrest hd1  hc k
theorem wp_v5x {ix ci : Nat} {refs : List Nat} {m1 : ab_M} {d1 : Nat} {x1 x2 x3 x4 x5 : ab_V} (h : ab_at m pc (.invokevirtual ix) 3 q) (hl : ab_lV m.1.cls ix m1 ci) (ha : (LAY L)[a]? = some (.inl (ci, refs))) (hn : ([.inr a, x1, x2, x3, x4, x5] : List ab_V).length = m1.2.2.2.2) (hrest : Nat.ble st.length 8 = true) (hd1 : Nat.ble d1 d = true) {Q1 : Option ab_V → ab_Me → Prop} (hc : ct L d1 m1 [.inr a, x1, x2, x3, x4, x5] M Q1) (k : ∀ r M1, Q1 r M1 → wp L d m q ls (r.toList ++ st) M1 Q) : wp L d m pc ls (x5 :: x4 :: x3 :: x2 :: x1 :: .inr a :: st) M Q := by
  obtain ⟨r, M1, e1, e2⟩ := hc
  exact wp_iv (as := [.inr a, x1, x2, x3, x4, x5]) h (Or.inl ⟨ix, ci, a, [x1, x2, x3, x4, x5], refs, rfl, rfl, hl, rfl, ha⟩) hn hrest hd1  e1 (k r M1 e2)
theorem wp_s5f {ix : Nat} {m1 : ab_M} {d1 : Nat} {x1 x2 x3 x4 x5 : ab_V} (h : ab_at m pc (.invokestatic ix) 3 q) (hl : ab_lS m.1.cls ix m1) (hn : ([x1, x2, x3, x4, x5] : List ab_V).length = m1.2.2.2.2) (hrest : Nat.ble st.length 8 = true) (hd1 : Nat.ble d1 d = true) {v : Int} (hc : cF L d1 m1 [x1, x2, x3, x4, x5] M v) (k : wp L d m q ls (.inl v :: st) M Q) : wp L d m pc ls (x5 :: x4 :: x3 :: x2 :: x1 :: st) M Q := wp_iv (as := [x1, x2, x3, x4, x5]) h (Or.inr (Or.inl ⟨ix, rfl, rfl, hl⟩)) hn hrest hd1  hc k
theorem wp_s5g {ix : Nat} {m1 : ab_M} {d1 : Nat} {x1 x2 x3 x4 x5 : ab_V} (h : ab_at m pc (.invokestatic ix) 3 q) (hl : ab_lS m.1.cls ix m1) (hn : ([x1, x2, x3, x4, x5] : List ab_V).length = m1.2.2.2.2) (hrest : Nat.ble st.length 8 = true) (hd1 : Nat.ble d1 d = true) {v : Int} {M1 : ab_Me} (hc : cG L d1 m1 [x1, x2, x3, x4, x5] M v M1) (k : wp L d m q ls (.inl v :: st) M1 Q) : wp L d m pc ls (x5 :: x4 :: x3 :: x2 :: x1 :: st) M Q := wp_iv (as := [x1, x2, x3, x4, x5]) h (Or.inr (Or.inl ⟨ix, rfl, rfl, hl⟩)) hn hrest hd1  hc k
theorem wp_s5v {ix : Nat} {m1 : ab_M} {d1 : Nat} {x1 x2 x3 x4 x5 : ab_V} (h : ab_at m pc (.invokestatic ix) 3 q) (hl : ab_lS m.1.cls ix m1) (hn : ([x1, x2, x3, x4, x5] : List ab_V).length = m1.2.2.2.2) (hrest : Nat.ble st.length 8 = true) (hd1 : Nat.ble d1 d = true) {M1 : ab_Me} (hc : cV L d1 m1 [x1, x2, x3, x4, x5] M M1) (k : wp L d m q ls st M1 Q) : wp L d m pc ls (x5 :: x4 :: x3 :: x2 :: x1 :: st) M Q := wp_iv (as := [x1, x2, x3, x4, x5]) h (Or.inr (Or.inl ⟨ix, rfl, rfl, hl⟩)) hn hrest hd1  hc k
theorem wp_s5x {ix : Nat} {m1 : ab_M} {d1 : Nat} {x1 x2 x3 x4 x5 : ab_V} (h : ab_at m pc (.invokestatic ix) 3 q) (hl : ab_lS m.1.cls ix m1) (hn : ([x1, x2, x3, x4, x5] : List ab_V).length = m1.2.2.2.2) (hrest : Nat.ble st.length 8 = true) (hd1 : Nat.ble d1 d = true) {Q1 : Option ab_V → ab_Me → Prop} (hc : ct L d1 m1 [x1, x2, x3, x4, x5] M Q1) (k : ∀ r M1, Q1 r M1 → wp L d m q ls (r.toList ++ st) M1 Q) : wp L d m pc ls (x5 :: x4 :: x3 :: x2 :: x1 :: st) M Q := by
  obtain ⟨r, M1, e1, e2⟩ := hc
  exact wp_iv (as := [x1, x2, x3, x4, x5]) h (Or.inr (Or.inl ⟨ix, rfl, rfl, hl⟩)) hn hrest hd1  e1 (k r M1 e2)
theorem wp_n5f {ix : Nat} {m1 : ab_M} {d1 : Nat} {x1 x2 x3 x4 x5 : ab_V} (h : ab_at m pc (.invokestatic ix) 3 q) (hl : ab_lN m.1.cls ix m1) (hn : ([x1, x2, x3, x4, x5] : List ab_V).length = m1.2.2.2.2) (hrest : Nat.ble st.length 8 = true) (hd1 : Nat.ble d1 d = true) {v : Int} (hc : cF L d1 m1 [x1, x2, x3, x4, x5] M v) (k : wp L d m q ls (.inl v :: st) M Q) : wp L d m pc ls (x5 :: x4 :: x3 :: x2 :: x1 :: st) M Q := wp_iv (as := [x1, x2, x3, x4, x5]) h (Or.inr (Or.inr (Or.inl ⟨ix, rfl, rfl, hl⟩))) hn hrest hd1  hc k
theorem wp_n5g {ix : Nat} {m1 : ab_M} {d1 : Nat} {x1 x2 x3 x4 x5 : ab_V} (h : ab_at m pc (.invokestatic ix) 3 q) (hl : ab_lN m.1.cls ix m1) (hn : ([x1, x2, x3, x4, x5] : List ab_V).length = m1.2.2.2.2) (hrest : Nat.ble st.length 8 = true) (hd1 : Nat.ble d1 d = true) {v : Int} {M1 : ab_Me} (hc : cG L d1 m1 [x1, x2, x3, x4, x5] M v M1) (k : wp L d m q ls (.inl v :: st) M1 Q) : wp L d m pc ls (x5 :: x4 :: x3 :: x2 :: x1 :: st) M Q := wp_iv (as := [x1, x2, x3, x4, x5]) h (Or.inr (Or.inr (Or.inl ⟨ix, rfl, rfl, hl⟩))) hn hrest hd1  hc k
theorem wp_n5v {ix : Nat} {m1 : ab_M} {d1 : Nat} {x1 x2 x3 x4 x5 : ab_V} (h : ab_at m pc (.invokestatic ix) 3 q) (hl : ab_lN m.1.cls ix m1) (hn : ([x1, x2, x3, x4, x5] : List ab_V).length = m1.2.2.2.2) (hrest : Nat.ble st.length 8 = true) (hd1 : Nat.ble d1 d = true) {M1 : ab_Me} (hc : cV L d1 m1 [x1, x2, x3, x4, x5] M M1) (k : wp L d m q ls st M1 Q) : wp L d m pc ls (x5 :: x4 :: x3 :: x2 :: x1 :: st) M Q := wp_iv (as := [x1, x2, x3, x4, x5]) h (Or.inr (Or.inr (Or.inl ⟨ix, rfl, rfl, hl⟩))) hn hrest hd1  hc k
theorem wp_n5x {ix : Nat} {m1 : ab_M} {d1 : Nat} {x1 x2 x3 x4 x5 : ab_V} (h : ab_at m pc (.invokestatic ix) 3 q) (hl : ab_lN m.1.cls ix m1) (hn : ([x1, x2, x3, x4, x5] : List ab_V).length = m1.2.2.2.2) (hrest : Nat.ble st.length 8 = true) (hd1 : Nat.ble d1 d = true) {Q1 : Option ab_V → ab_Me → Prop} (hc : ct L d1 m1 [x1, x2, x3, x4, x5] M Q1) (k : ∀ r M1, Q1 r M1 → wp L d m q ls (r.toList ++ st) M1 Q) : wp L d m pc ls (x5 :: x4 :: x3 :: x2 :: x1 :: st) M Q := by
  obtain ⟨r, M1, e1, e2⟩ := hc
  exact wp_iv (as := [x1, x2, x3, x4, x5]) h (Or.inr (Or.inr (Or.inl ⟨ix, rfl, rfl, hl⟩))) hn hrest hd1  e1 (k r M1 e2)
theorem ct_of {as : List ab_V} (hn : Nat.ble as.length m.2.2.1 = true) (k : wp L d m 0 (ab_ent m as) [] M Q) : ct L (d + 1) m as M Q := by
  obtain ⟨n, r, M1, e1, e2⟩ := k
  exact ⟨r, M1, ⟨Nat.le_of_ble_eq_true hn, n, e1⟩, e2⟩
theorem cF_of {as : List ab_V} {v : Int} (hn : Nat.ble as.length m.2.2.1 = true) (k : wp L d m 0 (ab_ent m as) [] M (fun r M1 => r = some (.inl v) ∧ M1 = M)) : cF L (d + 1) m as M v := by
  obtain ⟨n, r, M1, e1, rfl, rfl⟩ := k
  exact ⟨Nat.le_of_ble_eq_true hn, n, e1⟩
theorem cG_of {as : List ab_V} {v : Int} {M1 : ab_Me} (hn : Nat.ble as.length m.2.2.1 = true) (k : wp L d m 0 (ab_ent m as) [] M (fun r M2 => r = some (.inl v) ∧ M2 = M1)) : cG L (d + 1) m as M v M1 := by
  obtain ⟨n, r, M1, e1, rfl, rfl⟩ := k
  exact ⟨Nat.le_of_ble_eq_true hn, n, e1⟩
theorem cV_of {as : List ab_V} {M1 : ab_Me} (hn : Nat.ble as.length m.2.2.1 = true) (k : wp L d m 0 (ab_ent m as) [] M (fun r M2 => r = none ∧ M2 = M1)) : cV L (d + 1) m as M M1 := by
  obtain ⟨n, r, M1, e1, rfl, rfl⟩ := k
  exact ⟨Nat.le_of_ble_eq_true hn, n, e1⟩
theorem wp_mono {Q1 : Option ab_V → ab_Me → Prop} (h : wp L d m pc ls st M Q1) (hq : ∀ r M1, Q1 r M1 → Q r M1) : wp L d m pc ls st M Q := by
  obtain ⟨n, r, M1, e1, e2⟩ := h
  exact ⟨n, r, M1, e1, hq r M1 e2⟩
theorem ct_mono {as : List ab_V} {Q1 : Option ab_V → ab_Me → Prop} (h : ct L d m as M Q1) (hq : ∀ r M1, Q1 r M1 → Q r M1) : ct L d m as M Q := by
  obtain ⟨r, M1, e1, e2⟩ := h
  exact ⟨r, M1, e1, hq r M1 e2⟩
end WpRules
theorem ab_up_self (M : ab_Me) (a k : Nat) (z : Int) : ab_up M a k z a = ab_u1 (M a) k z := by simp [ab_up]
theorem ab_up_ne (M : ab_Me) {a a' : Nat} (k : Nat) (z : Int) (h : a' ≠ a) : ab_up M a k z a' = M a' := by simp [ab_up, h]
theorem ab_u1_self (f : Nat → Int) (k : Nat) (z : Int) : ab_u1 f k z k = z := by simp [ab_u1]
theorem ab_u1_ne (f : Nat → Int) {k k' : Nat} (z : Int) (h : k' ≠ k) : ab_u1 f k z k' = f k' := by simp [ab_u1, h]
theorem ab_rw_self (M : ab_Me) (a : Nat) (f : Nat → Int) : ab_rw M a f a = f := by simp [ab_rw]
theorem ab_rw_ne (M : ab_Me) {a a' : Nat} (f : Nat → Int) (h : a' ≠ a) : ab_rw M a f a' = M a' := by simp [ab_rw, h]
