/-! ===== THE CONSTRUCTORS (rows written by program) ===== -/
def rn (d : Nat) (m : ab_M) (pc : Nat) (ls : ab_L) (st : List ab_V) (h : ab_H) (r : Option ab_V) (h' : ab_H) : Prop := ∃ n, ab_run (ab_call d) m n pc ls st h r h'
section RnS
variable {d : Nat} {m : ab_M} {pc q : Nat} {ls l : ab_L} {st : List ab_V} {hp hp' : ab_H} {r : Option ab_V} {a : Nat} {x z : Int} {lay lay2 pre t t2 : List ab_CD} {M M2 : ab_Me}
theorem rn_ps {i : Instr} {len pc1 : Nat} {ls1 : ab_L} {st1 : List ab_V} (hd : decode m.2.1 pc = .ok (i, len)) (h : ab_ps i len pc ls st = some (pc1, ls1, st1)) (k : rn d m pc1 ls1 st1 hp r hp') : rn d m pc ls st hp r hp' := by
  obtain ⟨n, e⟩ := k
  exact ⟨n + 1, i, len, hd, Or.inl ⟨_, _, _, h, e⟩⟩
theorem rn_hs {i : Instr} {len : Nat} {st1 : List ab_V} {h1 : ab_H} (h0 : ab_at m pc i len q) (h : ab_hs m i len st hp st1 h1) (k : rn d m q ls st1 h1 r hp') : rn d m pc ls st hp r hp' := by
  obtain ⟨n, e⟩ := k
  obtain ⟨hd, rfl⟩ := h0
  exact ⟨n + 1, i, len, hd, Or.inr (Or.inl ⟨_, _, h, e⟩)⟩
theorem rn_al0 (h : ab_at m pc (.aload_n 0) 1 q) (k : rn d m q (some (.inr a) :: l) (.inr a :: st) hp r hp') : rn d m pc (some (.inr a) :: l) st hp r hp' := by
  obtain ⟨hd, rfl⟩ := h
  exact rn_ps hd rfl k
theorem rn_ic (h : ab_at m pc (.iconst z) 1 q) (hz : -128 ≤ z ∧ z < 128) (k : rn d m q ls (.inl z :: st) hp r hp') : rn d m pc ls st hp r hp' := by
  obtain ⟨hd, rfl⟩ := h
  exact rn_ps hd (by simp [ab_ps, hz]) k
theorem rn_bp (h : ab_at m pc (.bipush z) 2 q) (hz : -128 ≤ z ∧ z < 128) (k : rn d m q ls (.inl z :: st) hp r hp') : rn d m pc ls st hp r hp' := by
  obtain ⟨hd, rfl⟩ := h
  exact rn_ps hd (by simp [ab_ps, hz]) k
theorem rn_sp (h : ab_at m pc (.sipush z) 3 q) (hz : -32768 ≤ z ∧ z < 32768) (k : rn d m q ls (.inl z :: st) hp r hp') : rn d m pc ls st hp r hp' := by
  obtain ⟨hd, rfl⟩ := h
  exact rn_ps hd (by simp [ab_ps, hz]) k
theorem rn_dup {v : ab_V} (h : ab_at m pc .dup 1 q) (k : rn d m q ls (v :: v :: st) hp r hp') : rn d m pc ls (v :: st) hp r hp' := by
  obtain ⟨hd, rfl⟩ := h
  exact rn_ps hd rfl k
theorem rn_as1 {v0 v1 : Option ab_V} (h : ab_at m pc (.astore_n 1) 1 q) (k : rn d m q (v0 :: some (.inr a) :: l) st hp r hp') : rn d m pc (v0 :: v1 :: l) (.inr a :: st) hp r hp' := by
  obtain ⟨hd, rfl⟩ := h
  exact rn_ps hd rfl k
theorem rn_as2 {v0 v1 v2 : Option ab_V} (h : ab_at m pc (.astore_n 2) 1 q) (k : rn d m q (v0 :: v1 :: some (.inr a) :: l) st hp r hp') : rn d m pc (v0 :: v1 :: v2 :: l) (.inr a :: st) hp r hp' := by
  obtain ⟨hd, rfl⟩ := h
  exact rn_ps hd rfl k
theorem rn_is3 {v0 v1 v2 v3 : Option ab_V} (h : ab_at m pc (.istore_n 3) 1 q) (k : rn d m q (v0 :: v1 :: v2 :: some (.inl x) :: l) st hp r hp') : rn d m pc (v0 :: v1 :: v2 :: v3 :: l) (.inl x :: st) hp r hp' := by
  obtain ⟨hd, rfl⟩ := h
  exact rn_ps hd rfl k
theorem rn_ldc {ix : Nat} (h : ab_at m pc (.ldc ix) 2 q) (hk : ab_K m.1.cls ix z) (hz : -2147483648 ≤ z ∧ z < 2147483648) (k : rn d m q ls (.inl z :: st) hp r hp') : rn d m pc ls st hp r hp' :=
  rn_hs h (Or.inr (Or.inr (Or.inr (Or.inr (Or.inr (Or.inr (Or.inr (Or.inr (Or.inr (Or.inl ⟨ix, z, rfl, rfl, hk, hz, rfl, rfl⟩)))))))))) k
theorem rn_O {ix : Nat} (h : ab_at m pc (.invokespecial ix) 3 q) (hl : ab_lO m.1.cls ix) (hrest : Nat.ble st.length 8 = true) (k : rn d m q ls st hp r hp') : rn d m pc ls (.inr a :: st) hp r hp' :=
  rn_hs h (Or.inr (Or.inr (Or.inr (Or.inr (Or.inr (Or.inr (Or.inr (Or.inr (Or.inr (Or.inr (Or.inl ⟨ix, a, st, rfl, rfl, hl, rfl, Nat.le_of_ble_eq_true hrest, rfl, rfl⟩))))))))))) k
theorem lk0 {c : ab_CD} (ha : pre.length = a) : (pre ++ c :: t)[a]? = some c := by subst ha; simp
theorem st0 {c c2 : ab_CD} (ha : pre.length = a) : (pre ++ c :: t).set a c2 = pre ++ c2 :: t := by subst ha; simp
theorem rn_pI {ix ci k : Nat} {refs : List Nat} (h : ab_at m pc (.putfield ix) 3 q) (hF : ab_FP m.1.cls ix ci k) (ha : pre.length = a) (kk : rn d m q ls st (pre ++ .inl (ci, refs) :: t, ab_up M a k z) r hp') : rn d m pc ls (.inl z :: .inr a :: st) (pre ++ .inl (ci, refs) :: t, M) r hp' :=
  rn_hs h (Or.inr (Or.inr (Or.inl ⟨ix, ci, k, a, z, st, refs, rfl, rfl, hF.1, rfl, lk0 ha, Or.inl hF.2.1, hF.2.2, rfl, rfl⟩))) kk
theorem rn_pB {ix ci k : Nat} {refs : List Nat} (h : ab_at m pc (.putfield ix) 3 q) (hF : ab_FB m.1.cls ix ci k) (hz : z = 0 ∨ z = 1) (ha : pre.length = a) (kk : rn d m q ls st (pre ++ .inl (ci, refs) :: t, ab_up M a k z) r hp') : rn d m pc ls (.inl z :: .inr a :: st) (pre ++ .inl (ci, refs) :: t, M) r hp' :=
  rn_hs h (Or.inr (Or.inr (Or.inl ⟨ix, ci, k, a, z, st, refs, rfl, rfl, hF.1, rfl, lk0 ha, Or.inr ⟨hF.2.1, hz⟩, hF.2.2, rfl, rfl⟩))) kk
theorem rn_pR {ix ci k v : Nat} {refs refs2 : List Nat} (h : ab_at m pc (.putfield ix) 3 q) (hF : ab_FR m.1.cls ix ci k) (ha : pre.length = a) (hk : Nat.blt k refs.length = true) (hfin : ((vwCl[ci]?).map fun q => (q.2.1 k).2.2.2) = some true) (hcls : ((vwCl[ci]?).map fun q => q.1) = some m.1.cls) (hname : m.1.name = "<init>") (he : refs.set k (v + 1) = refs2) (kk : rn d m q ls st (pre ++ .inl (ci, refs2) :: t, M) r hp') : rn d m pc ls (.inr (v + 1) :: .inr a :: st) (pre ++ .inl (ci, refs) :: t, M) r hp' := by
  refine rn_hs h (Or.inr (Or.inr (Or.inr (Or.inl ⟨ix, ci, k, a, v, st, refs, rfl, rfl, hF.1, rfl, lk0 ha, hF.2, by simpa [Nat.blt_eq] using hk, hfin, hcls, hname, rfl, rfl⟩)))) ?_
  rw [st0 ha, he]
  exact kk
theorem rn_na {n b : Nat} (h : ab_at m pc (.newarray .int) 2 q) (hx : x = (n : Int)) (hn : Nat.ble n 100000 = true) (ha : pre.length = a) (hb : a + t.length = b) (hz : ∀ j, M b j = 0) (ht : t ++ [.inr (0, n)] = t2) (k : rn d m q ls (.inr b :: st) (pre ++ t2, M) r hp') : rn d m pc ls (.inl x :: st) (pre ++ t, M) r hp' := by
  have e : (pre ++ t).length = b := by rw [List.length_append, ha]; exact hb
  subst hx
  refine rn_hs h (Or.inr (Or.inr (Or.inr (Or.inr (Or.inr (Or.inr (Or.inr (Or.inl ⟨n, 0, st, Or.inl ⟨rfl, rfl⟩, rfl, rfl, Nat.le_of_ble_eq_true hn, by show ∀ j, M (pre ++ t).length j = 0; rw [e]; exact hz, rfl, rfl⟩)))))))) ?_
  show rn d m q ls (.inr (pre ++ t).length :: st) (pre ++ t ++ [.inr (0, n)], M) r hp'
  rw [e, List.append_assoc, ht]
  exact k
theorem rn_nb {n b : Nat} (h : ab_at m pc (.newarray .boolean) 2 q) (hx : x = (n : Int)) (hn : Nat.ble n 100000 = true) (ha : pre.length = a) (hb : a + t.length = b) (hz : ∀ j, M b j = 0) (ht : t ++ [.inr (1, n)] = t2) (k : rn d m q ls (.inr b :: st) (pre ++ t2, M) r hp') : rn d m pc ls (.inl x :: st) (pre ++ t, M) r hp' := by
  have e : (pre ++ t).length = b := by rw [List.length_append, ha]; exact hb
  subst hx
  refine rn_hs h (Or.inr (Or.inr (Or.inr (Or.inr (Or.inr (Or.inr (Or.inr (Or.inl ⟨n, 1, st, Or.inr ⟨rfl, rfl⟩, rfl, rfl, Nat.le_of_ble_eq_true hn, by show ∀ j, M (pre ++ t).length j = 0; rw [e]; exact hz, rfl, rfl⟩)))))))) ?_
  show rn d m q ls (.inr (pre ++ t).length :: st) (pre ++ t ++ [.inr (1, n)], M) r hp'
  rw [e, List.append_assoc, ht]
  exact k
theorem rn_new {ix ci N b : Nat} (h : ab_at m pc (.new ix) 3 q) (hC : ab_C m.1.cls ix ci) (hN : ((vwCl[ci]?).map fun q => q.2.2) = some N) (hg : ∀ k, k < N → ab_gt (ab_ty ci k) = true) (ha : pre.length = a) (hb : a + t.length = b) (hz : ∀ j, M b j = 0) (ht : t ++ [.inl (ci, List.replicate N 0)] = t2) (k : rn d m q ls (.inr b :: st) (pre ++ t2, M) r hp') : rn d m pc ls st (pre ++ t, M) r hp' := by
  have e : (pre ++ t).length = b := by rw [List.length_append, ha]; exact hb
  refine rn_hs h (Or.inr (Or.inr (Or.inr (Or.inr (Or.inr (Or.inr (Or.inr (Or.inr (Or.inl ⟨ix, ci, N, rfl, rfl, hC, hN, hg, by show ∀ j, M (pre ++ t).length j = 0; rw [e]; exact hz, rfl, rfl⟩))))))))) ?_
  show rn d m q ls (.inr (pre ++ t).length :: st) (pre ++ t ++ [.inl (ci, List.replicate N 0)], M) r hp'
  rw [e, List.append_assoc, ht]
  exact k
theorem rn_I {ix d1 : Nat} {m1 : ab_M} {pre1 t1 t3 : List ab_CD} {b : Nat} (h : ab_at m pc (.invokespecial ix) 3 q) (hl : ab_lI m.1.cls ix m1) (hn : 1 = m1.2.2.2.2) (hrest : Nat.ble st.length 8 = true) (hd1 : Nat.ble d1 d = true) (hc : ab_call d1 m1 [.inr b] (pre ++ pre1 ++ t1, M) none (pre ++ pre1 ++ t3, M2)) (he1 : t = pre1 ++ t1) (he2 : pre1 ++ t3 = t2) (k : rn d m q ls st (pre ++ t2, M2) r hp') : rn d m pc ls (.inr b :: st) (pre ++ t, M) r hp' := by
  obtain ⟨n, e⟩ := k
  obtain ⟨hd, rfl⟩ := h
  rw [List.append_assoc, List.append_assoc, ← he1, he2] at hc
  exact ⟨n + 1, _, 3, hd, Or.inr (Or.inr (Or.inl ⟨m1, [.inr b], st, none, _, Or.inr (Or.inr (Or.inr ⟨ix, b, [], rfl, rfl, hl, rfl⟩)), rfl, hn, Nat.le_of_ble_eq_true hrest, ab_call_mono (Nat.le_of_ble_eq_true hd1) hc, e⟩))⟩
theorem rn_rv (h : ab_at m pc .return_ 1 q) (hr : m.2.2.2.1 = none) : rn d m pc ls [] hp none hp := ⟨1, _, _, h.1, Or.inr (Or.inr (Or.inr (Or.inr ⟨rfl, rfl, hr, rfl, rfl, rfl⟩)))⟩
end RnS
def kM_X0_init (M : ab_Me) (a : Nat) : ab_Me := ab_up (ab_up M a 0 1) a 1 1
theorem kM_X0_init_ne {M : ab_Me} {a b : Nat} (h : b < a ∨ a + 2 ≤ b) : kM_X0_init M a b = M b := by
  unfold kM_X0_init
  rw [ab_up_ne _ _ _ (by omega), ab_up_ne _ _ _ (by omega)]
theorem k_X0_init (pre : List ab_CD) (M : ab_Me) (a : Nat) (ha : pre.length = a) (hz : ∀ b, a ≤ b → ∀ j, M b j = 0) : ab_call 1 mX0_init [.inr a] (pre ++ [.inl (0, [0, 0, 0])], M) none (pre ++ [.inl (0, [0, 0, a + 1]), .inr (0, 120)], kM_X0_init M a) := by
  refine ⟨Nat.le_of_ble_eq_true rfl, ?_⟩
  show rn 0 mX0_init 0 [some (.inr a)] [] (pre ++ [.inl (0, [0, 0, 0])], M) none (pre ++ [.inl (0, [0, 0, a + 1]), .inr (0, 120)], kM_X0_init M a)
  refine rn_al0 iX0_init_0 ?_
  refine rn_O iX0_init_1 ml_0_3 rfl ?_
  refine rn_al0 iX0_init_4 ?_
  refine rn_ic iX0_init_5 (by decide) ?_
  refine rn_pI iX0_init_6 fp_0_9 ha ?_
  refine rn_al0 iX0_init_9 ?_
  refine rn_ic iX0_init_10 (by decide) ?_
  refine rn_pI iX0_init_11 fp_0_15 ha ?_
  refine rn_al0 iX0_init_14 ?_
  refine rn_bp iX0_init_15 (by decide) ?_
  refine rn_na (n := 120) (b := a + 1) (t2 := [.inl (0, [0, 0, 0]), .inr (0, 120)]) iX0_init_17 rfl rfl ha rfl (fun j => by rw [ab_up_ne _ _ _ (by omega), ab_up_ne _ _ _ (by omega)]; exact hz _ (by omega) j) rfl ?_
  refine rn_pR (refs2 := [0, 0, a + 1]) iX0_init_19 fr_0_18 ha rfl rfl rfl rfl rfl ?_
  exact rn_rv iX0_init_22 rfl
def kM_X4_init (M : ab_Me) (a : Nat) : ab_Me := ab_up M a 0 0
theorem kM_X4_init_ne {M : ab_Me} {a b : Nat} (h : b < a ∨ a + 3 ≤ b) : kM_X4_init M a b = M b := by
  unfold kM_X4_init
  rw [ab_up_ne _ _ _ (by omega)]
theorem k_X4_init (pre : List ab_CD) (M : ab_Me) (a : Nat) (ha : pre.length = a) (hz : ∀ b, a ≤ b → ∀ j, M b j = 0) : ab_call 1 mX4_init [.inr a] (pre ++ [.inl (4, [0, 0, 0])], M) none (pre ++ [.inl (4, [0, a + 1, a + 2]), .inr (0, 12), .inr (0, 12)], kM_X4_init M a) := by
  refine ⟨Nat.le_of_ble_eq_true rfl, ?_⟩
  show rn 0 mX4_init 0 [some (.inr a)] [] (pre ++ [.inl (4, [0, 0, 0])], M) none (pre ++ [.inl (4, [0, a + 1, a + 2]), .inr (0, 12), .inr (0, 12)], kM_X4_init M a)
  refine rn_al0 iX4_init_0 ?_
  refine rn_O iX4_init_1 ml_4_3 rfl ?_
  refine rn_al0 iX4_init_4 ?_
  refine rn_ic iX4_init_5 (by decide) ?_
  refine rn_pI iX4_init_6 fp_4_9 ha ?_
  refine rn_al0 iX4_init_9 ?_
  refine rn_bp iX4_init_10 (by decide) ?_
  refine rn_na (n := 12) (b := a + 1) (t2 := [.inl (4, [0, 0, 0]), .inr (0, 12)]) iX4_init_12 rfl rfl ha rfl (fun j => by rw [ab_up_ne _ _ _ (by omega)]; exact hz _ (by omega) j) rfl ?_
  refine rn_pR (refs2 := [0, a + 1, 0]) iX4_init_14 fr_4_15 ha rfl rfl rfl rfl rfl ?_
  refine rn_al0 iX4_init_17 ?_
  refine rn_bp iX4_init_18 (by decide) ?_
  refine rn_na (n := 12) (b := a + 2) (t2 := [.inl (4, [0, a + 1, 0]), .inr (0, 12), .inr (0, 12)]) iX4_init_20 rfl rfl ha rfl (fun j => by rw [ab_up_ne _ _ _ (by omega)]; exact hz _ (by omega) j) rfl ?_
  refine rn_pR (refs2 := [0, a + 1, a + 2]) iX4_init_22 fr_4_19 ha rfl rfl rfl rfl rfl ?_
  exact rn_rv iX4_init_25 rfl
def kM_X7_init (M : ab_Me) (a : Nat) : ab_Me := ab_up M a 0 0
theorem kM_X7_init_ne {M : ab_Me} {a b : Nat} (h : b < a ∨ a + 3 ≤ b) : kM_X7_init M a b = M b := by
  unfold kM_X7_init
  rw [ab_up_ne _ _ _ (by omega)]
theorem k_X7_init (pre : List ab_CD) (M : ab_Me) (a : Nat) (ha : pre.length = a) (hz : ∀ b, a ≤ b → ∀ j, M b j = 0) : ab_call 1 mX7_init [.inr a] (pre ++ [.inl (7, [0, 0, 0])], M) none (pre ++ [.inl (7, [0, a + 1, a + 2]), .inr (0, 4), .inr (1, 4)], kM_X7_init M a) := by
  refine ⟨Nat.le_of_ble_eq_true rfl, ?_⟩
  show rn 0 mX7_init 0 [some (.inr a)] [] (pre ++ [.inl (7, [0, 0, 0])], M) none (pre ++ [.inl (7, [0, a + 1, a + 2]), .inr (0, 4), .inr (1, 4)], kM_X7_init M a)
  refine rn_al0 iX7_init_0 ?_
  refine rn_O iX7_init_1 ml_7_3 rfl ?_
  refine rn_al0 iX7_init_4 ?_
  refine rn_ic iX7_init_5 (by decide) ?_
  refine rn_pI iX7_init_6 fp_7_9 ha ?_
  refine rn_al0 iX7_init_9 ?_
  refine rn_ic iX7_init_10 (by decide) ?_
  refine rn_na (n := 4) (b := a + 1) (t2 := [.inl (7, [0, 0, 0]), .inr (0, 4)]) iX7_init_11 rfl rfl ha rfl (fun j => by rw [ab_up_ne _ _ _ (by omega)]; exact hz _ (by omega) j) rfl ?_
  refine rn_pR (refs2 := [0, a + 1, 0]) iX7_init_13 fr_7_15 ha rfl rfl rfl rfl rfl ?_
  refine rn_al0 iX7_init_16 ?_
  refine rn_ic iX7_init_17 (by decide) ?_
  refine rn_nb (n := 4) (b := a + 2) (t2 := [.inl (7, [0, a + 1, 0]), .inr (0, 4), .inr (1, 4)]) iX7_init_18 rfl rfl ha rfl (fun j => by rw [ab_up_ne _ _ _ (by omega)]; exact hz _ (by omega) j) rfl ?_
  refine rn_pR (refs2 := [0, a + 1, a + 2]) iX7_init_20 fr_7_19 ha rfl rfl rfl rfl rfl ?_
  exact rn_rv iX7_init_23 rfl
def kM_X3_init (M : ab_Me) (a : Nat) : ab_Me := ab_up (ab_up (ab_up M a 0 0) a 1 0) a 6 0
theorem kM_X3_init_ne {M : ab_Me} {a b : Nat} (h : b < a ∨ a + 7 ≤ b) : kM_X3_init M a b = M b := by
  unfold kM_X3_init
  rw [ab_up_ne _ _ _ (by omega), ab_up_ne _ _ _ (by omega), ab_up_ne _ _ _ (by omega)]
theorem k_X3_init (pre : List ab_CD) (M : ab_Me) (a : Nat) (ha : pre.length = a) (hz : ∀ b, a ≤ b → ∀ j, M b j = 0) : ab_call 1 mX3_init [.inr a] (pre ++ [.inl (3, [0, 0, 0, 0, 0, 0, 0, 0, 0])], M) none (pre ++ [.inl (3, [0, 0, a + 1, a + 2, a + 3, a + 4, 0, a + 5, a + 6]), .inr (0, 4), .inr (0, 4), .inr (0, 4), .inr (0, 4), .inr (0, 44), .inr (0, 4)], kM_X3_init M a) := by
  refine ⟨Nat.le_of_ble_eq_true rfl, ?_⟩
  show rn 0 mX3_init 0 [some (.inr a)] [] (pre ++ [.inl (3, [0, 0, 0, 0, 0, 0, 0, 0, 0])], M) none (pre ++ [.inl (3, [0, 0, a + 1, a + 2, a + 3, a + 4, 0, a + 5, a + 6]), .inr (0, 4), .inr (0, 4), .inr (0, 4), .inr (0, 4), .inr (0, 44), .inr (0, 4)], kM_X3_init M a)
  refine rn_al0 iX3_init_0 ?_
  refine rn_O iX3_init_1 ml_3_3 rfl ?_
  refine rn_al0 iX3_init_4 ?_
  refine rn_ic iX3_init_5 (by decide) ?_
  refine rn_pI iX3_init_6 fp_3_9 ha ?_
  refine rn_al0 iX3_init_9 ?_
  refine rn_ic iX3_init_10 (by decide) ?_
  refine rn_pI iX3_init_11 fp_3_15 ha ?_
  refine rn_al0 iX3_init_14 ?_
  refine rn_ic iX3_init_15 (by decide) ?_
  refine rn_na (n := 4) (b := a + 1) (t2 := [.inl (3, [0, 0, 0, 0, 0, 0, 0, 0, 0]), .inr (0, 4)]) iX3_init_16 rfl rfl ha rfl (fun j => by rw [ab_up_ne _ _ _ (by omega), ab_up_ne _ _ _ (by omega)]; exact hz _ (by omega) j) rfl ?_
  refine rn_pR (refs2 := [0, 0, a + 1, 0, 0, 0, 0, 0, 0]) iX3_init_18 fr_3_18 ha rfl rfl rfl rfl rfl ?_
  refine rn_al0 iX3_init_21 ?_
  refine rn_ic iX3_init_22 (by decide) ?_
  refine rn_na (n := 4) (b := a + 2) (t2 := [.inl (3, [0, 0, a + 1, 0, 0, 0, 0, 0, 0]), .inr (0, 4), .inr (0, 4)]) iX3_init_23 rfl rfl ha rfl (fun j => by rw [ab_up_ne _ _ _ (by omega), ab_up_ne _ _ _ (by omega)]; exact hz _ (by omega) j) rfl ?_
  refine rn_pR (refs2 := [0, 0, a + 1, a + 2, 0, 0, 0, 0, 0]) iX3_init_25 fr_3_22 ha rfl rfl rfl rfl rfl ?_
  refine rn_al0 iX3_init_28 ?_
  refine rn_ic iX3_init_29 (by decide) ?_
  refine rn_na (n := 4) (b := a + 3) (t2 := [.inl (3, [0, 0, a + 1, a + 2, 0, 0, 0, 0, 0]), .inr (0, 4), .inr (0, 4), .inr (0, 4)]) iX3_init_30 rfl rfl ha rfl (fun j => by rw [ab_up_ne _ _ _ (by omega), ab_up_ne _ _ _ (by omega)]; exact hz _ (by omega) j) rfl ?_
  refine rn_pR (refs2 := [0, 0, a + 1, a + 2, a + 3, 0, 0, 0, 0]) iX3_init_32 fr_3_25 ha rfl rfl rfl rfl rfl ?_
  refine rn_al0 iX3_init_35 ?_
  refine rn_ic iX3_init_36 (by decide) ?_
  refine rn_na (n := 4) (b := a + 4) (t2 := [.inl (3, [0, 0, a + 1, a + 2, a + 3, 0, 0, 0, 0]), .inr (0, 4), .inr (0, 4), .inr (0, 4), .inr (0, 4)]) iX3_init_37 rfl rfl ha rfl (fun j => by rw [ab_up_ne _ _ _ (by omega), ab_up_ne _ _ _ (by omega)]; exact hz _ (by omega) j) rfl ?_
  refine rn_pR (refs2 := [0, 0, a + 1, a + 2, a + 3, a + 4, 0, 0, 0]) iX3_init_39 fr_3_28 ha rfl rfl rfl rfl rfl ?_
  refine rn_al0 iX3_init_42 ?_
  refine rn_ic iX3_init_43 (by decide) ?_
  refine rn_pI iX3_init_44 fp_3_31 ha ?_
  refine rn_al0 iX3_init_47 ?_
  refine rn_bp iX3_init_48 (by decide) ?_
  refine rn_na (n := 44) (b := a + 5) (t2 := [.inl (3, [0, 0, a + 1, a + 2, a + 3, a + 4, 0, 0, 0]), .inr (0, 4), .inr (0, 4), .inr (0, 4), .inr (0, 4), .inr (0, 44)]) iX3_init_50 rfl rfl ha rfl (fun j => by rw [ab_up_ne _ _ _ (by omega), ab_up_ne _ _ _ (by omega), ab_up_ne _ _ _ (by omega)]; exact hz _ (by omega) j) rfl ?_
  refine rn_pR (refs2 := [0, 0, a + 1, a + 2, a + 3, a + 4, 0, a + 5, 0]) iX3_init_52 fr_3_34 ha rfl rfl rfl rfl rfl ?_
  refine rn_al0 iX3_init_55 ?_
  refine rn_ic iX3_init_56 (by decide) ?_
  refine rn_na (n := 4) (b := a + 6) (t2 := [.inl (3, [0, 0, a + 1, a + 2, a + 3, a + 4, 0, a + 5, 0]), .inr (0, 4), .inr (0, 4), .inr (0, 4), .inr (0, 4), .inr (0, 44), .inr (0, 4)]) iX3_init_57 rfl rfl ha rfl (fun j => by rw [ab_up_ne _ _ _ (by omega), ab_up_ne _ _ _ (by omega), ab_up_ne _ _ _ (by omega)]; exact hz _ (by omega) j) rfl ?_
  refine rn_pR (refs2 := [0, 0, a + 1, a + 2, a + 3, a + 4, 0, a + 5, a + 6]) iX3_init_59 fr_3_37 ha rfl rfl rfl rfl rfl ?_
  exact rn_rv iX3_init_62 rfl
def kM_X6_init (M : ab_Me) (a : Nat) : ab_Me := kM_X3_init (kM_X7_init (kM_X4_init (kM_X0_init M (a + 1)) (a + 3)) (a + 6)) (a + 9)
theorem kM_X6_init_ne {M : ab_Me} {a b : Nat} (h : b < a ∨ a + 16 ≤ b) : kM_X6_init M a b = M b := by
  unfold kM_X6_init
  rw [kM_X3_init_ne (by omega), kM_X7_init_ne (by omega), kM_X4_init_ne (by omega), kM_X0_init_ne (by omega)]
theorem k_X6_init (pre : List ab_CD) (M : ab_Me) (a : Nat) (ha : pre.length = a) (hz : ∀ b, a ≤ b → ∀ j, M b j = 0) : ab_call 2 mX6_init [.inr a] (pre ++ [.inl (6, [0, 0, 0, 0])], M) none (pre ++ [.inl (6, [a + 1, a + 3, a + 6, a + 9]), .inl (0, [0, 0, a + 2]), .inr (0, 120), .inl (4, [0, a + 4, a + 5]), .inr (0, 12), .inr (0, 12), .inl (7, [0, a + 7, a + 8]), .inr (0, 4), .inr (1, 4), .inl (3, [0, 0, a + 10, a + 11, a + 12, a + 13, 0, a + 14, a + 15]), .inr (0, 4), .inr (0, 4), .inr (0, 4), .inr (0, 4), .inr (0, 44), .inr (0, 4)], kM_X6_init M a) := by
  refine ⟨Nat.le_of_ble_eq_true rfl, ?_⟩
  show rn 1 mX6_init 0 [some (.inr a)] [] (pre ++ [.inl (6, [0, 0, 0, 0])], M) none (pre ++ [.inl (6, [a + 1, a + 3, a + 6, a + 9]), .inl (0, [0, 0, a + 2]), .inr (0, 120), .inl (4, [0, a + 4, a + 5]), .inr (0, 12), .inr (0, 12), .inl (7, [0, a + 7, a + 8]), .inr (0, 4), .inr (1, 4), .inl (3, [0, 0, a + 10, a + 11, a + 12, a + 13, 0, a + 14, a + 15]), .inr (0, 4), .inr (0, 4), .inr (0, 4), .inr (0, 4), .inr (0, 44), .inr (0, 4)], kM_X6_init M a)
  refine rn_al0 iX6_init_0 ?_
  refine rn_O iX6_init_1 ml_6_1 rfl ?_
  refine rn_al0 iX6_init_4 ?_
  refine rn_new (N := 3) (b := a + 1) (t2 := [.inl (6, [0, 0, 0, 0]), .inl (0, [0, 0, 0])]) iX6_init_5 cl_6_7 rfl (by decide) ha rfl (hz _ (by omega)) rfl ?_
  refine rn_dup iX6_init_8 ?_
  refine rn_I (pre1 := [.inl (6, [0, 0, 0, 0])]) (t1 := [.inl (0, [0, 0, 0])]) (t2 := [.inl (6, [0, 0, 0, 0]), .inl (0, [0, 0, a + 2]), .inr (0, 120)]) iX6_init_9 ml_6_9 rfl rfl rfl (k_X0_init (pre ++ [.inl (6, [0, 0, 0, 0])]) _ (a + 1) (by rw [List.length_append, ha]; rfl) (fun b hb => hz b (by omega))) rfl rfl ?_
  refine rn_pR (refs2 := [a + 1, 0, 0, 0]) iX6_init_12 fr_6_10 ha rfl rfl rfl rfl rfl ?_
  refine rn_al0 iX6_init_15 ?_
  refine rn_new (N := 3) (b := a + 3) (t2 := [.inl (6, [a + 1, 0, 0, 0]), .inl (0, [0, 0, a + 2]), .inr (0, 120), .inl (4, [0, 0, 0])]) iX6_init_16 cl_6_16 rfl (by decide) ha rfl (fun j => by rw [kM_X0_init_ne (by omega)]; exact hz _ (by omega) j) rfl ?_
  refine rn_dup iX6_init_19 ?_
  refine rn_I (pre1 := [.inl (6, [a + 1, 0, 0, 0]), .inl (0, [0, 0, a + 2]), .inr (0, 120)]) (t1 := [.inl (4, [0, 0, 0])]) (t2 := [.inl (6, [a + 1, 0, 0, 0]), .inl (0, [0, 0, a + 2]), .inr (0, 120), .inl (4, [0, a + 4, a + 5]), .inr (0, 12), .inr (0, 12)]) iX6_init_20 ml_6_18 rfl rfl rfl (k_X4_init (pre ++ [.inl (6, [a + 1, 0, 0, 0]), .inl (0, [0, 0, a + 2]), .inr (0, 120)]) _ (a + 3) (by rw [List.length_append, ha]; rfl) (fun b hb j => by rw [kM_X0_init_ne (by omega)]; exact hz b (by omega) j)) rfl rfl ?_
  refine rn_pR (refs2 := [a + 1, a + 3, 0, 0]) iX6_init_23 fr_6_19 ha rfl rfl rfl rfl rfl ?_
  refine rn_al0 iX6_init_26 ?_
  refine rn_new (N := 3) (b := a + 6) (t2 := [.inl (6, [a + 1, a + 3, 0, 0]), .inl (0, [0, 0, a + 2]), .inr (0, 120), .inl (4, [0, a + 4, a + 5]), .inr (0, 12), .inr (0, 12), .inl (7, [0, 0, 0])]) iX6_init_27 cl_6_23 rfl (by decide) ha rfl (fun j => by rw [kM_X4_init_ne (by omega), kM_X0_init_ne (by omega)]; exact hz _ (by omega) j) rfl ?_
  refine rn_dup iX6_init_30 ?_
  refine rn_I (pre1 := [.inl (6, [a + 1, a + 3, 0, 0]), .inl (0, [0, 0, a + 2]), .inr (0, 120), .inl (4, [0, a + 4, a + 5]), .inr (0, 12), .inr (0, 12)]) (t1 := [.inl (7, [0, 0, 0])]) (t2 := [.inl (6, [a + 1, a + 3, 0, 0]), .inl (0, [0, 0, a + 2]), .inr (0, 120), .inl (4, [0, a + 4, a + 5]), .inr (0, 12), .inr (0, 12), .inl (7, [0, a + 7, a + 8]), .inr (0, 4), .inr (1, 4)]) iX6_init_31 ml_6_25 rfl rfl rfl (k_X7_init (pre ++ [.inl (6, [a + 1, a + 3, 0, 0]), .inl (0, [0, 0, a + 2]), .inr (0, 120), .inl (4, [0, a + 4, a + 5]), .inr (0, 12), .inr (0, 12)]) _ (a + 6) (by rw [List.length_append, ha]; rfl) (fun b hb j => by rw [kM_X4_init_ne (by omega), kM_X0_init_ne (by omega)]; exact hz b (by omega) j)) rfl rfl ?_
  refine rn_pR (refs2 := [a + 1, a + 3, a + 6, 0]) iX6_init_34 fr_6_26 ha rfl rfl rfl rfl rfl ?_
  refine rn_al0 iX6_init_37 ?_
  refine rn_new (N := 9) (b := a + 9) (t2 := [.inl (6, [a + 1, a + 3, a + 6, 0]), .inl (0, [0, 0, a + 2]), .inr (0, 120), .inl (4, [0, a + 4, a + 5]), .inr (0, 12), .inr (0, 12), .inl (7, [0, a + 7, a + 8]), .inr (0, 4), .inr (1, 4), .inl (3, [0, 0, 0, 0, 0, 0, 0, 0, 0])]) iX6_init_38 cl_6_30 rfl (by decide) ha rfl (fun j => by rw [kM_X7_init_ne (by omega), kM_X4_init_ne (by omega), kM_X0_init_ne (by omega)]; exact hz _ (by omega) j) rfl ?_
  refine rn_dup iX6_init_41 ?_
  refine rn_I (pre1 := [.inl (6, [a + 1, a + 3, a + 6, 0]), .inl (0, [0, 0, a + 2]), .inr (0, 120), .inl (4, [0, a + 4, a + 5]), .inr (0, 12), .inr (0, 12), .inl (7, [0, a + 7, a + 8]), .inr (0, 4), .inr (1, 4)]) (t1 := [.inl (3, [0, 0, 0, 0, 0, 0, 0, 0, 0])]) (t2 := [.inl (6, [a + 1, a + 3, a + 6, 0]), .inl (0, [0, 0, a + 2]), .inr (0, 120), .inl (4, [0, a + 4, a + 5]), .inr (0, 12), .inr (0, 12), .inl (7, [0, a + 7, a + 8]), .inr (0, 4), .inr (1, 4), .inl (3, [0, 0, a + 10, a + 11, a + 12, a + 13, 0, a + 14, a + 15]), .inr (0, 4), .inr (0, 4), .inr (0, 4), .inr (0, 4), .inr (0, 44), .inr (0, 4)]) iX6_init_42 ml_6_32 rfl rfl rfl (k_X3_init (pre ++ [.inl (6, [a + 1, a + 3, a + 6, 0]), .inl (0, [0, 0, a + 2]), .inr (0, 120), .inl (4, [0, a + 4, a + 5]), .inr (0, 12), .inr (0, 12), .inl (7, [0, a + 7, a + 8]), .inr (0, 4), .inr (1, 4)]) _ (a + 9) (by rw [List.length_append, ha]; rfl) (fun b hb j => by rw [kM_X7_init_ne (by omega), kM_X4_init_ne (by omega), kM_X0_init_ne (by omega)]; exact hz b (by omega) j)) rfl rfl ?_
  refine rn_pR (refs2 := [a + 1, a + 3, a + 6, a + 9]) iX6_init_45 fr_6_33 ha rfl rfl rfl rfl rfl ?_
  exact rn_rv iX6_init_48 rfl
def kM_X2_init (M : ab_Me) (a : Nat) : ab_Me := ab_up (ab_up M a 0 0) a 7 0
theorem kM_X2_init_ne {M : ab_Me} {a b : Nat} (h : b < a ∨ a + 7 ≤ b) : kM_X2_init M a b = M b := by
  unfold kM_X2_init
  rw [ab_up_ne _ _ _ (by omega), ab_up_ne _ _ _ (by omega)]
theorem k_X2_init (pre : List ab_CD) (M : ab_Me) (a : Nat) (ha : pre.length = a) (hz : ∀ b, a ≤ b → ∀ j, M b j = 0) : ab_call 1 mX2_init [.inr a] (pre ++ [.inl (2, [0, 0, 0, 0, 0, 0, 0, 0])], M) none (pre ++ [.inl (2, [0, a + 1, a + 2, a + 3, a + 4, a + 5, a + 6, 0]), .inr (0, 120), .inr (0, 120), .inr (0, 120), .inr (0, 120), .inr (0, 120), .inr (0, 120)], kM_X2_init M a) := by
  refine ⟨Nat.le_of_ble_eq_true rfl, ?_⟩
  show rn 0 mX2_init 0 [some (.inr a)] [] (pre ++ [.inl (2, [0, 0, 0, 0, 0, 0, 0, 0])], M) none (pre ++ [.inl (2, [0, a + 1, a + 2, a + 3, a + 4, a + 5, a + 6, 0]), .inr (0, 120), .inr (0, 120), .inr (0, 120), .inr (0, 120), .inr (0, 120), .inr (0, 120)], kM_X2_init M a)
  refine rn_al0 iX2_init_0 ?_
  refine rn_O iX2_init_1 ml_2_3 rfl ?_
  refine rn_al0 iX2_init_4 ?_
  refine rn_ic iX2_init_5 (by decide) ?_
  refine rn_pI iX2_init_6 fp_2_9 ha ?_
  refine rn_al0 iX2_init_9 ?_
  refine rn_bp iX2_init_10 (by decide) ?_
  refine rn_na (n := 120) (b := a + 1) (t2 := [.inl (2, [0, 0, 0, 0, 0, 0, 0, 0]), .inr (0, 120)]) iX2_init_12 rfl rfl ha rfl (fun j => by rw [ab_up_ne _ _ _ (by omega)]; exact hz _ (by omega) j) rfl ?_
  refine rn_pR (refs2 := [0, a + 1, 0, 0, 0, 0, 0, 0]) iX2_init_14 fr_2_15 ha rfl rfl rfl rfl rfl ?_
  refine rn_al0 iX2_init_17 ?_
  refine rn_bp iX2_init_18 (by decide) ?_
  refine rn_na (n := 120) (b := a + 2) (t2 := [.inl (2, [0, a + 1, 0, 0, 0, 0, 0, 0]), .inr (0, 120), .inr (0, 120)]) iX2_init_20 rfl rfl ha rfl (fun j => by rw [ab_up_ne _ _ _ (by omega)]; exact hz _ (by omega) j) rfl ?_
  refine rn_pR (refs2 := [0, a + 1, a + 2, 0, 0, 0, 0, 0]) iX2_init_22 fr_2_19 ha rfl rfl rfl rfl rfl ?_
  refine rn_al0 iX2_init_25 ?_
  refine rn_bp iX2_init_26 (by decide) ?_
  refine rn_na (n := 120) (b := a + 3) (t2 := [.inl (2, [0, a + 1, a + 2, 0, 0, 0, 0, 0]), .inr (0, 120), .inr (0, 120), .inr (0, 120)]) iX2_init_28 rfl rfl ha rfl (fun j => by rw [ab_up_ne _ _ _ (by omega)]; exact hz _ (by omega) j) rfl ?_
  refine rn_pR (refs2 := [0, a + 1, a + 2, a + 3, 0, 0, 0, 0]) iX2_init_30 fr_2_22 ha rfl rfl rfl rfl rfl ?_
  refine rn_al0 iX2_init_33 ?_
  refine rn_bp iX2_init_34 (by decide) ?_
  refine rn_na (n := 120) (b := a + 4) (t2 := [.inl (2, [0, a + 1, a + 2, a + 3, 0, 0, 0, 0]), .inr (0, 120), .inr (0, 120), .inr (0, 120), .inr (0, 120)]) iX2_init_36 rfl rfl ha rfl (fun j => by rw [ab_up_ne _ _ _ (by omega)]; exact hz _ (by omega) j) rfl ?_
  refine rn_pR (refs2 := [0, a + 1, a + 2, a + 3, a + 4, 0, 0, 0]) iX2_init_38 fr_2_25 ha rfl rfl rfl rfl rfl ?_
  refine rn_al0 iX2_init_41 ?_
  refine rn_bp iX2_init_42 (by decide) ?_
  refine rn_na (n := 120) (b := a + 5) (t2 := [.inl (2, [0, a + 1, a + 2, a + 3, a + 4, 0, 0, 0]), .inr (0, 120), .inr (0, 120), .inr (0, 120), .inr (0, 120), .inr (0, 120)]) iX2_init_44 rfl rfl ha rfl (fun j => by rw [ab_up_ne _ _ _ (by omega)]; exact hz _ (by omega) j) rfl ?_
  refine rn_pR (refs2 := [0, a + 1, a + 2, a + 3, a + 4, a + 5, 0, 0]) iX2_init_46 fr_2_28 ha rfl rfl rfl rfl rfl ?_
  refine rn_al0 iX2_init_49 ?_
  refine rn_bp iX2_init_50 (by decide) ?_
  refine rn_na (n := 120) (b := a + 6) (t2 := [.inl (2, [0, a + 1, a + 2, a + 3, a + 4, a + 5, 0, 0]), .inr (0, 120), .inr (0, 120), .inr (0, 120), .inr (0, 120), .inr (0, 120), .inr (0, 120)]) iX2_init_52 rfl rfl ha rfl (fun j => by rw [ab_up_ne _ _ _ (by omega)]; exact hz _ (by omega) j) rfl ?_
  refine rn_pR (refs2 := [0, a + 1, a + 2, a + 3, a + 4, a + 5, a + 6, 0]) iX2_init_54 fr_2_31 ha rfl rfl rfl rfl rfl ?_
  refine rn_al0 iX2_init_57 ?_
  refine rn_ic iX2_init_58 (by decide) ?_
  refine rn_pI iX2_init_59 fp_2_34 ha ?_
  exact rn_rv iX2_init_62 rfl
def kM_X1_init (M : ab_Me) (a : Nat) : ab_Me := ab_up (ab_up M a 0 0) a 3 0
theorem kM_X1_init_ne {M : ab_Me} {a b : Nat} (h : b < a ∨ a + 8 ≤ b) : kM_X1_init M a b = M b := by
  unfold kM_X1_init
  rw [ab_up_ne _ _ _ (by omega), ab_up_ne _ _ _ (by omega)]
theorem k_X1_init (pre : List ab_CD) (M : ab_Me) (a : Nat) (ha : pre.length = a) (hz : ∀ b, a ≤ b → ∀ j, M b j = 0) : ab_call 1 mX1_init [.inr a] (pre ++ [.inl (1, [0, 0, 0, 0, 0, 0, 0, 0, 0])], M) none (pre ++ [.inl (1, [0, a + 1, a + 2, 0, a + 3, a + 4, a + 5, a + 6, a + 7]), .inr (0, 8), .inr (0, 8), .inr (0, 4), .inr (0, 256), .inr (0, 256), .inr (0, 256), .inr (0, 1024)], kM_X1_init M a) := by
  refine ⟨Nat.le_of_ble_eq_true rfl, ?_⟩
  show rn 0 mX1_init 0 [some (.inr a)] [] (pre ++ [.inl (1, [0, 0, 0, 0, 0, 0, 0, 0, 0])], M) none (pre ++ [.inl (1, [0, a + 1, a + 2, 0, a + 3, a + 4, a + 5, a + 6, a + 7]), .inr (0, 8), .inr (0, 8), .inr (0, 4), .inr (0, 256), .inr (0, 256), .inr (0, 256), .inr (0, 1024)], kM_X1_init M a)
  refine rn_al0 iX1_init_0 ?_
  refine rn_O iX1_init_1 ml_1_3 rfl ?_
  refine rn_al0 iX1_init_4 ?_
  refine rn_ic iX1_init_5 (by decide) ?_
  refine rn_pI iX1_init_6 fp_1_9 ha ?_
  refine rn_al0 iX1_init_9 ?_
  refine rn_bp iX1_init_10 (by decide) ?_
  refine rn_na (n := 8) (b := a + 1) (t2 := [.inl (1, [0, 0, 0, 0, 0, 0, 0, 0, 0]), .inr (0, 8)]) iX1_init_12 rfl rfl ha rfl (fun j => by rw [ab_up_ne _ _ _ (by omega)]; exact hz _ (by omega) j) rfl ?_
  refine rn_pR (refs2 := [0, a + 1, 0, 0, 0, 0, 0, 0, 0]) iX1_init_14 fr_1_15 ha rfl rfl rfl rfl rfl ?_
  refine rn_al0 iX1_init_17 ?_
  refine rn_bp iX1_init_18 (by decide) ?_
  refine rn_na (n := 8) (b := a + 2) (t2 := [.inl (1, [0, a + 1, 0, 0, 0, 0, 0, 0, 0]), .inr (0, 8), .inr (0, 8)]) iX1_init_20 rfl rfl ha rfl (fun j => by rw [ab_up_ne _ _ _ (by omega)]; exact hz _ (by omega) j) rfl ?_
  refine rn_pR (refs2 := [0, a + 1, a + 2, 0, 0, 0, 0, 0, 0]) iX1_init_22 fr_1_19 ha rfl rfl rfl rfl rfl ?_
  refine rn_al0 iX1_init_25 ?_
  refine rn_ic iX1_init_26 (by decide) ?_
  refine rn_pI iX1_init_27 fp_1_22 ha ?_
  refine rn_al0 iX1_init_30 ?_
  refine rn_ic iX1_init_31 (by decide) ?_
  refine rn_na (n := 4) (b := a + 3) (t2 := [.inl (1, [0, a + 1, a + 2, 0, 0, 0, 0, 0, 0]), .inr (0, 8), .inr (0, 8), .inr (0, 4)]) iX1_init_32 rfl rfl ha rfl (fun j => by rw [ab_up_ne _ _ _ (by omega), ab_up_ne _ _ _ (by omega)]; exact hz _ (by omega) j) rfl ?_
  refine rn_pR (refs2 := [0, a + 1, a + 2, 0, a + 3, 0, 0, 0, 0]) iX1_init_34 fr_1_25 ha rfl rfl rfl rfl rfl ?_
  refine rn_al0 iX1_init_37 ?_
  refine rn_sp iX1_init_38 (by decide) ?_
  refine rn_na (n := 256) (b := a + 4) (t2 := [.inl (1, [0, a + 1, a + 2, 0, a + 3, 0, 0, 0, 0]), .inr (0, 8), .inr (0, 8), .inr (0, 4), .inr (0, 256)]) iX1_init_41 rfl rfl ha rfl (fun j => by rw [ab_up_ne _ _ _ (by omega), ab_up_ne _ _ _ (by omega)]; exact hz _ (by omega) j) rfl ?_
  refine rn_pR (refs2 := [0, a + 1, a + 2, 0, a + 3, a + 4, 0, 0, 0]) iX1_init_43 fr_1_28 ha rfl rfl rfl rfl rfl ?_
  refine rn_al0 iX1_init_46 ?_
  refine rn_sp iX1_init_47 (by decide) ?_
  refine rn_na (n := 256) (b := a + 5) (t2 := [.inl (1, [0, a + 1, a + 2, 0, a + 3, a + 4, 0, 0, 0]), .inr (0, 8), .inr (0, 8), .inr (0, 4), .inr (0, 256), .inr (0, 256)]) iX1_init_50 rfl rfl ha rfl (fun j => by rw [ab_up_ne _ _ _ (by omega), ab_up_ne _ _ _ (by omega)]; exact hz _ (by omega) j) rfl ?_
  refine rn_pR (refs2 := [0, a + 1, a + 2, 0, a + 3, a + 4, a + 5, 0, 0]) iX1_init_52 fr_1_31 ha rfl rfl rfl rfl rfl ?_
  refine rn_al0 iX1_init_55 ?_
  refine rn_sp iX1_init_56 (by decide) ?_
  refine rn_na (n := 256) (b := a + 6) (t2 := [.inl (1, [0, a + 1, a + 2, 0, a + 3, a + 4, a + 5, 0, 0]), .inr (0, 8), .inr (0, 8), .inr (0, 4), .inr (0, 256), .inr (0, 256), .inr (0, 256)]) iX1_init_59 rfl rfl ha rfl (fun j => by rw [ab_up_ne _ _ _ (by omega), ab_up_ne _ _ _ (by omega)]; exact hz _ (by omega) j) rfl ?_
  refine rn_pR (refs2 := [0, a + 1, a + 2, 0, a + 3, a + 4, a + 5, a + 6, 0]) iX1_init_61 fr_1_34 ha rfl rfl rfl rfl rfl ?_
  refine rn_al0 iX1_init_64 ?_
  refine rn_sp iX1_init_65 (by decide) ?_
  refine rn_na (n := 1024) (b := a + 7) (t2 := [.inl (1, [0, a + 1, a + 2, 0, a + 3, a + 4, a + 5, a + 6, 0]), .inr (0, 8), .inr (0, 8), .inr (0, 4), .inr (0, 256), .inr (0, 256), .inr (0, 256), .inr (0, 1024)]) iX1_init_68 rfl rfl ha rfl (fun j => by rw [ab_up_ne _ _ _ (by omega), ab_up_ne _ _ _ (by omega)]; exact hz _ (by omega) j) rfl ?_
  refine rn_pR (refs2 := [0, a + 1, a + 2, 0, a + 3, a + 4, a + 5, a + 6, a + 7]) iX1_init_70 fr_1_37 ha rfl rfl rfl rfl rfl ?_
  exact rn_rv iX1_init_73 rfl
def kM_X5_init (M : ab_Me) (a : Nat) : ab_Me := ab_up (ab_up (ab_up M a 0 1000000) a 1 0) a 4 0
theorem kM_X5_init_ne {M : ab_Me} {a b : Nat} (h : b < a ∨ a + 7 ≤ b) : kM_X5_init M a b = M b := by
  unfold kM_X5_init
  rw [ab_up_ne _ _ _ (by omega), ab_up_ne _ _ _ (by omega), ab_up_ne _ _ _ (by omega)]
theorem k_X5_init (pre : List ab_CD) (M : ab_Me) (a : Nat) (ha : pre.length = a) (hz : ∀ b, a ≤ b → ∀ j, M b j = 0) : ab_call 1 mX5_init [.inr a] (pre ++ [.inl (5, [0, 0, 0, 0, 0, 0, 0, 0, 0])], M) none (pre ++ [.inl (5, [0, 0, a + 1, a + 2, 0, a + 3, a + 4, a + 5, a + 6]), .inr (0, 4), .inr (0, 4), .inr (0, 13), .inr (0, 13), .inr (0, 4), .inr (0, 4)], kM_X5_init M a) := by
  refine ⟨Nat.le_of_ble_eq_true rfl, ?_⟩
  show rn 0 mX5_init 0 [some (.inr a)] [] (pre ++ [.inl (5, [0, 0, 0, 0, 0, 0, 0, 0, 0])], M) none (pre ++ [.inl (5, [0, 0, a + 1, a + 2, 0, a + 3, a + 4, a + 5, a + 6]), .inr (0, 4), .inr (0, 4), .inr (0, 13), .inr (0, 13), .inr (0, 4), .inr (0, 4)], kM_X5_init M a)
  refine rn_al0 iX5_init_0 ?_
  refine rn_O iX5_init_1 ml_5_3 rfl ?_
  refine rn_al0 iX5_init_4 ?_
  refine rn_ldc iX5_init_5 kl_5_9 (by decide) ?_
  refine rn_pI iX5_init_7 fp_5_10 ha ?_
  refine rn_al0 iX5_init_10 ?_
  refine rn_ic iX5_init_11 (by decide) ?_
  refine rn_pI iX5_init_12 fp_5_16 ha ?_
  refine rn_al0 iX5_init_15 ?_
  refine rn_ic iX5_init_16 (by decide) ?_
  refine rn_na (n := 4) (b := a + 1) (t2 := [.inl (5, [0, 0, 0, 0, 0, 0, 0, 0, 0]), .inr (0, 4)]) iX5_init_17 rfl rfl ha rfl (fun j => by rw [ab_up_ne _ _ _ (by omega), ab_up_ne _ _ _ (by omega)]; exact hz _ (by omega) j) rfl ?_
  refine rn_pR (refs2 := [0, 0, a + 1, 0, 0, 0, 0, 0, 0]) iX5_init_19 fr_5_19 ha rfl rfl rfl rfl rfl ?_
  refine rn_al0 iX5_init_22 ?_
  refine rn_ic iX5_init_23 (by decide) ?_
  refine rn_na (n := 4) (b := a + 2) (t2 := [.inl (5, [0, 0, a + 1, 0, 0, 0, 0, 0, 0]), .inr (0, 4), .inr (0, 4)]) iX5_init_24 rfl rfl ha rfl (fun j => by rw [ab_up_ne _ _ _ (by omega), ab_up_ne _ _ _ (by omega)]; exact hz _ (by omega) j) rfl ?_
  refine rn_pR (refs2 := [0, 0, a + 1, a + 2, 0, 0, 0, 0, 0]) iX5_init_26 fr_5_23 ha rfl rfl rfl rfl rfl ?_
  refine rn_al0 iX5_init_29 ?_
  refine rn_ic iX5_init_30 (by decide) ?_
  refine rn_pI iX5_init_31 fp_5_26 ha ?_
  refine rn_al0 iX5_init_34 ?_
  refine rn_bp iX5_init_35 (by decide) ?_
  refine rn_na (n := 13) (b := a + 3) (t2 := [.inl (5, [0, 0, a + 1, a + 2, 0, 0, 0, 0, 0]), .inr (0, 4), .inr (0, 4), .inr (0, 13)]) iX5_init_37 rfl rfl ha rfl (fun j => by rw [ab_up_ne _ _ _ (by omega), ab_up_ne _ _ _ (by omega), ab_up_ne _ _ _ (by omega)]; exact hz _ (by omega) j) rfl ?_
  refine rn_pR (refs2 := [0, 0, a + 1, a + 2, 0, a + 3, 0, 0, 0]) iX5_init_39 fr_5_29 ha rfl rfl rfl rfl rfl ?_
  refine rn_al0 iX5_init_42 ?_
  refine rn_bp iX5_init_43 (by decide) ?_
  refine rn_na (n := 13) (b := a + 4) (t2 := [.inl (5, [0, 0, a + 1, a + 2, 0, a + 3, 0, 0, 0]), .inr (0, 4), .inr (0, 4), .inr (0, 13), .inr (0, 13)]) iX5_init_45 rfl rfl ha rfl (fun j => by rw [ab_up_ne _ _ _ (by omega), ab_up_ne _ _ _ (by omega), ab_up_ne _ _ _ (by omega)]; exact hz _ (by omega) j) rfl ?_
  refine rn_pR (refs2 := [0, 0, a + 1, a + 2, 0, a + 3, a + 4, 0, 0]) iX5_init_47 fr_5_32 ha rfl rfl rfl rfl rfl ?_
  refine rn_al0 iX5_init_50 ?_
  refine rn_ic iX5_init_51 (by decide) ?_
  refine rn_na (n := 4) (b := a + 5) (t2 := [.inl (5, [0, 0, a + 1, a + 2, 0, a + 3, a + 4, 0, 0]), .inr (0, 4), .inr (0, 4), .inr (0, 13), .inr (0, 13), .inr (0, 4)]) iX5_init_52 rfl rfl ha rfl (fun j => by rw [ab_up_ne _ _ _ (by omega), ab_up_ne _ _ _ (by omega), ab_up_ne _ _ _ (by omega)]; exact hz _ (by omega) j) rfl ?_
  refine rn_pR (refs2 := [0, 0, a + 1, a + 2, 0, a + 3, a + 4, a + 5, 0]) iX5_init_54 fr_5_35 ha rfl rfl rfl rfl rfl ?_
  refine rn_al0 iX5_init_57 ?_
  refine rn_ic iX5_init_58 (by decide) ?_
  refine rn_na (n := 4) (b := a + 6) (t2 := [.inl (5, [0, 0, a + 1, a + 2, 0, a + 3, a + 4, a + 5, 0]), .inr (0, 4), .inr (0, 4), .inr (0, 13), .inr (0, 13), .inr (0, 4), .inr (0, 4)]) iX5_init_59 rfl rfl ha rfl (fun j => by rw [ab_up_ne _ _ _ (by omega), ab_up_ne _ _ _ (by omega), ab_up_ne _ _ _ (by omega)]; exact hz _ (by omega) j) rfl ?_
  refine rn_pR (refs2 := [0, 0, a + 1, a + 2, 0, a + 3, a + 4, a + 5, a + 6]) iX5_init_61 fr_5_38 ha rfl rfl rfl rfl rfl ?_
  exact rn_rv iX5_init_64 rfl
def kM_X8_init (M : ab_Me) (a : Nat) : ab_Me := kM_X5_init (kM_X1_init (kM_X2_init (ab_up (ab_up (ab_up (kM_X6_init (kM_X6_init M (a + 1)) (a + 17)) a 2 0) a 3 3) a 4 10) (a + 33)) (a + 40)) (a + 48)
theorem kM_X8_init_ne {M : ab_Me} {a b : Nat} (h : b < a ∨ a + 55 ≤ b) : kM_X8_init M a b = M b := by
  unfold kM_X8_init
  rw [kM_X5_init_ne (by omega), kM_X1_init_ne (by omega), kM_X2_init_ne (by omega), ab_up_ne _ _ _ (by omega), ab_up_ne _ _ _ (by omega), ab_up_ne _ _ _ (by omega), kM_X6_init_ne (by omega), kM_X6_init_ne (by omega)]
theorem k_X8_init (pre : List ab_CD) (M : ab_Me) (a : Nat) (ha : pre.length = a) (hz : ∀ b, a ≤ b → ∀ j, M b j = 0) : ab_call 3 mX8_init [.inr a] (pre ++ [.inl (8, [0, 0, 0, 0, 0, 0, 0, 0])], M) none (pre ++ [.inl (8, [a + 1, a + 17, 0, 0, 0, a + 33, a + 40, a + 48]), .inl (6, [a + 2, a + 4, a + 7, a + 10]), .inl (0, [0, 0, a + 3]), .inr (0, 120), .inl (4, [0, a + 5, a + 6]), .inr (0, 12), .inr (0, 12), .inl (7, [0, a + 8, a + 9]), .inr (0, 4), .inr (1, 4), .inl (3, [0, 0, a + 11, a + 12, a + 13, a + 14, 0, a + 15, a + 16]), .inr (0, 4), .inr (0, 4), .inr (0, 4), .inr (0, 4), .inr (0, 44), .inr (0, 4), .inl (6, [a + 18, a + 20, a + 23, a + 26]), .inl (0, [0, 0, a + 19]), .inr (0, 120), .inl (4, [0, a + 21, a + 22]), .inr (0, 12), .inr (0, 12), .inl (7, [0, a + 24, a + 25]), .inr (0, 4), .inr (1, 4), .inl (3, [0, 0, a + 27, a + 28, a + 29, a + 30, 0, a + 31, a + 32]), .inr (0, 4), .inr (0, 4), .inr (0, 4), .inr (0, 4), .inr (0, 44), .inr (0, 4), .inl (2, [0, a + 34, a + 35, a + 36, a + 37, a + 38, a + 39, 0]), .inr (0, 120), .inr (0, 120), .inr (0, 120), .inr (0, 120), .inr (0, 120), .inr (0, 120), .inl (1, [0, a + 41, a + 42, 0, a + 43, a + 44, a + 45, a + 46, a + 47]), .inr (0, 8), .inr (0, 8), .inr (0, 4), .inr (0, 256), .inr (0, 256), .inr (0, 256), .inr (0, 1024), .inl (5, [0, 0, a + 49, a + 50, 0, a + 51, a + 52, a + 53, a + 54]), .inr (0, 4), .inr (0, 4), .inr (0, 13), .inr (0, 13), .inr (0, 4), .inr (0, 4)], kM_X8_init M a) := by
  refine ⟨Nat.le_of_ble_eq_true rfl, ?_⟩
  show rn 2 mX8_init 0 [some (.inr a)] [] (pre ++ [.inl (8, [0, 0, 0, 0, 0, 0, 0, 0])], M) none (pre ++ [.inl (8, [a + 1, a + 17, 0, 0, 0, a + 33, a + 40, a + 48]), .inl (6, [a + 2, a + 4, a + 7, a + 10]), .inl (0, [0, 0, a + 3]), .inr (0, 120), .inl (4, [0, a + 5, a + 6]), .inr (0, 12), .inr (0, 12), .inl (7, [0, a + 8, a + 9]), .inr (0, 4), .inr (1, 4), .inl (3, [0, 0, a + 11, a + 12, a + 13, a + 14, 0, a + 15, a + 16]), .inr (0, 4), .inr (0, 4), .inr (0, 4), .inr (0, 4), .inr (0, 44), .inr (0, 4), .inl (6, [a + 18, a + 20, a + 23, a + 26]), .inl (0, [0, 0, a + 19]), .inr (0, 120), .inl (4, [0, a + 21, a + 22]), .inr (0, 12), .inr (0, 12), .inl (7, [0, a + 24, a + 25]), .inr (0, 4), .inr (1, 4), .inl (3, [0, 0, a + 27, a + 28, a + 29, a + 30, 0, a + 31, a + 32]), .inr (0, 4), .inr (0, 4), .inr (0, 4), .inr (0, 4), .inr (0, 44), .inr (0, 4), .inl (2, [0, a + 34, a + 35, a + 36, a + 37, a + 38, a + 39, 0]), .inr (0, 120), .inr (0, 120), .inr (0, 120), .inr (0, 120), .inr (0, 120), .inr (0, 120), .inl (1, [0, a + 41, a + 42, 0, a + 43, a + 44, a + 45, a + 46, a + 47]), .inr (0, 8), .inr (0, 8), .inr (0, 4), .inr (0, 256), .inr (0, 256), .inr (0, 256), .inr (0, 1024), .inl (5, [0, 0, a + 49, a + 50, 0, a + 51, a + 52, a + 53, a + 54]), .inr (0, 4), .inr (0, 4), .inr (0, 13), .inr (0, 13), .inr (0, 4), .inr (0, 4)], kM_X8_init M a)
  refine rn_al0 iX8_init_0 ?_
  refine rn_O iX8_init_1 ml_8_1 rfl ?_
  refine rn_al0 iX8_init_4 ?_
  refine rn_new (N := 4) (b := a + 1) (t2 := [.inl (8, [0, 0, 0, 0, 0, 0, 0, 0]), .inl (6, [0, 0, 0, 0])]) iX8_init_5 cl_8_7 rfl (by decide) ha rfl (hz _ (by omega)) rfl ?_
  refine rn_dup iX8_init_8 ?_
  refine rn_I (pre1 := [.inl (8, [0, 0, 0, 0, 0, 0, 0, 0])]) (t1 := [.inl (6, [0, 0, 0, 0])]) (t2 := [.inl (8, [0, 0, 0, 0, 0, 0, 0, 0]), .inl (6, [a + 2, a + 4, a + 7, a + 10]), .inl (0, [0, 0, a + 3]), .inr (0, 120), .inl (4, [0, a + 5, a + 6]), .inr (0, 12), .inr (0, 12), .inl (7, [0, a + 8, a + 9]), .inr (0, 4), .inr (1, 4), .inl (3, [0, 0, a + 11, a + 12, a + 13, a + 14, 0, a + 15, a + 16]), .inr (0, 4), .inr (0, 4), .inr (0, 4), .inr (0, 4), .inr (0, 44), .inr (0, 4)]) iX8_init_9 ml_8_9 rfl rfl rfl (k_X6_init (pre ++ [.inl (8, [0, 0, 0, 0, 0, 0, 0, 0])]) _ (a + 1) (by rw [List.length_append, ha]; rfl) (fun b hb => hz b (by omega))) rfl rfl ?_
  refine rn_pR (refs2 := [a + 1, 0, 0, 0, 0, 0, 0, 0]) iX8_init_12 fr_8_10 ha rfl rfl rfl rfl rfl ?_
  refine rn_al0 iX8_init_15 ?_
  refine rn_new (N := 4) (b := a + 17) (t2 := [.inl (8, [a + 1, 0, 0, 0, 0, 0, 0, 0]), .inl (6, [a + 2, a + 4, a + 7, a + 10]), .inl (0, [0, 0, a + 3]), .inr (0, 120), .inl (4, [0, a + 5, a + 6]), .inr (0, 12), .inr (0, 12), .inl (7, [0, a + 8, a + 9]), .inr (0, 4), .inr (1, 4), .inl (3, [0, 0, a + 11, a + 12, a + 13, a + 14, 0, a + 15, a + 16]), .inr (0, 4), .inr (0, 4), .inr (0, 4), .inr (0, 4), .inr (0, 44), .inr (0, 4), .inl (6, [0, 0, 0, 0])]) iX8_init_16 cl_8_7 rfl (by decide) ha rfl (fun j => by rw [kM_X6_init_ne (by omega)]; exact hz _ (by omega) j) rfl ?_
  refine rn_dup iX8_init_19 ?_
  refine rn_I (pre1 := [.inl (8, [a + 1, 0, 0, 0, 0, 0, 0, 0]), .inl (6, [a + 2, a + 4, a + 7, a + 10]), .inl (0, [0, 0, a + 3]), .inr (0, 120), .inl (4, [0, a + 5, a + 6]), .inr (0, 12), .inr (0, 12), .inl (7, [0, a + 8, a + 9]), .inr (0, 4), .inr (1, 4), .inl (3, [0, 0, a + 11, a + 12, a + 13, a + 14, 0, a + 15, a + 16]), .inr (0, 4), .inr (0, 4), .inr (0, 4), .inr (0, 4), .inr (0, 44), .inr (0, 4)]) (t1 := [.inl (6, [0, 0, 0, 0])]) (t2 := [.inl (8, [a + 1, 0, 0, 0, 0, 0, 0, 0]), .inl (6, [a + 2, a + 4, a + 7, a + 10]), .inl (0, [0, 0, a + 3]), .inr (0, 120), .inl (4, [0, a + 5, a + 6]), .inr (0, 12), .inr (0, 12), .inl (7, [0, a + 8, a + 9]), .inr (0, 4), .inr (1, 4), .inl (3, [0, 0, a + 11, a + 12, a + 13, a + 14, 0, a + 15, a + 16]), .inr (0, 4), .inr (0, 4), .inr (0, 4), .inr (0, 4), .inr (0, 44), .inr (0, 4), .inl (6, [a + 18, a + 20, a + 23, a + 26]), .inl (0, [0, 0, a + 19]), .inr (0, 120), .inl (4, [0, a + 21, a + 22]), .inr (0, 12), .inr (0, 12), .inl (7, [0, a + 24, a + 25]), .inr (0, 4), .inr (1, 4), .inl (3, [0, 0, a + 27, a + 28, a + 29, a + 30, 0, a + 31, a + 32]), .inr (0, 4), .inr (0, 4), .inr (0, 4), .inr (0, 4), .inr (0, 44), .inr (0, 4)]) iX8_init_20 ml_8_9 rfl rfl rfl (k_X6_init (pre ++ [.inl (8, [a + 1, 0, 0, 0, 0, 0, 0, 0]), .inl (6, [a + 2, a + 4, a + 7, a + 10]), .inl (0, [0, 0, a + 3]), .inr (0, 120), .inl (4, [0, a + 5, a + 6]), .inr (0, 12), .inr (0, 12), .inl (7, [0, a + 8, a + 9]), .inr (0, 4), .inr (1, 4), .inl (3, [0, 0, a + 11, a + 12, a + 13, a + 14, 0, a + 15, a + 16]), .inr (0, 4), .inr (0, 4), .inr (0, 4), .inr (0, 4), .inr (0, 44), .inr (0, 4)]) _ (a + 17) (by rw [List.length_append, ha]; rfl) (fun b hb j => by rw [kM_X6_init_ne (by omega)]; exact hz b (by omega) j)) rfl rfl ?_
  refine rn_pR (refs2 := [a + 1, a + 17, 0, 0, 0, 0, 0, 0]) iX8_init_23 fr_8_16 ha rfl rfl rfl rfl rfl ?_
  refine rn_al0 iX8_init_26 ?_
  refine rn_ic iX8_init_27 (by decide) ?_
  refine rn_pB iX8_init_28 fb_8_19 (by decide) ha ?_
  refine rn_al0 iX8_init_31 ?_
  refine rn_ic iX8_init_32 (by decide) ?_
  refine rn_pI iX8_init_33 fp_8_23 ha ?_
  refine rn_al0 iX8_init_36 ?_
  refine rn_bp iX8_init_37 (by decide) ?_
  refine rn_pI iX8_init_39 fp_8_27 ha ?_
  refine rn_al0 iX8_init_42 ?_
  refine rn_new (N := 8) (b := a + 33) (t2 := [.inl (8, [a + 1, a + 17, 0, 0, 0, 0, 0, 0]), .inl (6, [a + 2, a + 4, a + 7, a + 10]), .inl (0, [0, 0, a + 3]), .inr (0, 120), .inl (4, [0, a + 5, a + 6]), .inr (0, 12), .inr (0, 12), .inl (7, [0, a + 8, a + 9]), .inr (0, 4), .inr (1, 4), .inl (3, [0, 0, a + 11, a + 12, a + 13, a + 14, 0, a + 15, a + 16]), .inr (0, 4), .inr (0, 4), .inr (0, 4), .inr (0, 4), .inr (0, 44), .inr (0, 4), .inl (6, [a + 18, a + 20, a + 23, a + 26]), .inl (0, [0, 0, a + 19]), .inr (0, 120), .inl (4, [0, a + 21, a + 22]), .inr (0, 12), .inr (0, 12), .inl (7, [0, a + 24, a + 25]), .inr (0, 4), .inr (1, 4), .inl (3, [0, 0, a + 27, a + 28, a + 29, a + 30, 0, a + 31, a + 32]), .inr (0, 4), .inr (0, 4), .inr (0, 4), .inr (0, 4), .inr (0, 44), .inr (0, 4), .inl (2, [0, 0, 0, 0, 0, 0, 0, 0])]) iX8_init_43 cl_8_30 rfl (by decide) ha rfl (fun j => by rw [ab_up_ne _ _ _ (by omega), ab_up_ne _ _ _ (by omega), ab_up_ne _ _ _ (by omega), kM_X6_init_ne (by omega), kM_X6_init_ne (by omega)]; exact hz _ (by omega) j) rfl ?_
  refine rn_dup iX8_init_46 ?_
  refine rn_I (pre1 := [.inl (8, [a + 1, a + 17, 0, 0, 0, 0, 0, 0]), .inl (6, [a + 2, a + 4, a + 7, a + 10]), .inl (0, [0, 0, a + 3]), .inr (0, 120), .inl (4, [0, a + 5, a + 6]), .inr (0, 12), .inr (0, 12), .inl (7, [0, a + 8, a + 9]), .inr (0, 4), .inr (1, 4), .inl (3, [0, 0, a + 11, a + 12, a + 13, a + 14, 0, a + 15, a + 16]), .inr (0, 4), .inr (0, 4), .inr (0, 4), .inr (0, 4), .inr (0, 44), .inr (0, 4), .inl (6, [a + 18, a + 20, a + 23, a + 26]), .inl (0, [0, 0, a + 19]), .inr (0, 120), .inl (4, [0, a + 21, a + 22]), .inr (0, 12), .inr (0, 12), .inl (7, [0, a + 24, a + 25]), .inr (0, 4), .inr (1, 4), .inl (3, [0, 0, a + 27, a + 28, a + 29, a + 30, 0, a + 31, a + 32]), .inr (0, 4), .inr (0, 4), .inr (0, 4), .inr (0, 4), .inr (0, 44), .inr (0, 4)]) (t1 := [.inl (2, [0, 0, 0, 0, 0, 0, 0, 0])]) (t2 := [.inl (8, [a + 1, a + 17, 0, 0, 0, 0, 0, 0]), .inl (6, [a + 2, a + 4, a + 7, a + 10]), .inl (0, [0, 0, a + 3]), .inr (0, 120), .inl (4, [0, a + 5, a + 6]), .inr (0, 12), .inr (0, 12), .inl (7, [0, a + 8, a + 9]), .inr (0, 4), .inr (1, 4), .inl (3, [0, 0, a + 11, a + 12, a + 13, a + 14, 0, a + 15, a + 16]), .inr (0, 4), .inr (0, 4), .inr (0, 4), .inr (0, 4), .inr (0, 44), .inr (0, 4), .inl (6, [a + 18, a + 20, a + 23, a + 26]), .inl (0, [0, 0, a + 19]), .inr (0, 120), .inl (4, [0, a + 21, a + 22]), .inr (0, 12), .inr (0, 12), .inl (7, [0, a + 24, a + 25]), .inr (0, 4), .inr (1, 4), .inl (3, [0, 0, a + 27, a + 28, a + 29, a + 30, 0, a + 31, a + 32]), .inr (0, 4), .inr (0, 4), .inr (0, 4), .inr (0, 4), .inr (0, 44), .inr (0, 4), .inl (2, [0, a + 34, a + 35, a + 36, a + 37, a + 38, a + 39, 0]), .inr (0, 120), .inr (0, 120), .inr (0, 120), .inr (0, 120), .inr (0, 120), .inr (0, 120)]) iX8_init_47 ml_8_32 rfl rfl rfl (k_X2_init (pre ++ [.inl (8, [a + 1, a + 17, 0, 0, 0, 0, 0, 0]), .inl (6, [a + 2, a + 4, a + 7, a + 10]), .inl (0, [0, 0, a + 3]), .inr (0, 120), .inl (4, [0, a + 5, a + 6]), .inr (0, 12), .inr (0, 12), .inl (7, [0, a + 8, a + 9]), .inr (0, 4), .inr (1, 4), .inl (3, [0, 0, a + 11, a + 12, a + 13, a + 14, 0, a + 15, a + 16]), .inr (0, 4), .inr (0, 4), .inr (0, 4), .inr (0, 4), .inr (0, 44), .inr (0, 4), .inl (6, [a + 18, a + 20, a + 23, a + 26]), .inl (0, [0, 0, a + 19]), .inr (0, 120), .inl (4, [0, a + 21, a + 22]), .inr (0, 12), .inr (0, 12), .inl (7, [0, a + 24, a + 25]), .inr (0, 4), .inr (1, 4), .inl (3, [0, 0, a + 27, a + 28, a + 29, a + 30, 0, a + 31, a + 32]), .inr (0, 4), .inr (0, 4), .inr (0, 4), .inr (0, 4), .inr (0, 44), .inr (0, 4)]) _ (a + 33) (by rw [List.length_append, ha]; rfl) (fun b hb j => by rw [ab_up_ne _ _ _ (by omega), ab_up_ne _ _ _ (by omega), ab_up_ne _ _ _ (by omega), kM_X6_init_ne (by omega), kM_X6_init_ne (by omega)]; exact hz b (by omega) j)) rfl rfl ?_
  refine rn_pR (refs2 := [a + 1, a + 17, 0, 0, 0, a + 33, 0, 0]) iX8_init_50 fr_8_33 ha rfl rfl rfl rfl rfl ?_
  refine rn_al0 iX8_init_53 ?_
  refine rn_new (N := 9) (b := a + 40) (t2 := [.inl (8, [a + 1, a + 17, 0, 0, 0, a + 33, 0, 0]), .inl (6, [a + 2, a + 4, a + 7, a + 10]), .inl (0, [0, 0, a + 3]), .inr (0, 120), .inl (4, [0, a + 5, a + 6]), .inr (0, 12), .inr (0, 12), .inl (7, [0, a + 8, a + 9]), .inr (0, 4), .inr (1, 4), .inl (3, [0, 0, a + 11, a + 12, a + 13, a + 14, 0, a + 15, a + 16]), .inr (0, 4), .inr (0, 4), .inr (0, 4), .inr (0, 4), .inr (0, 44), .inr (0, 4), .inl (6, [a + 18, a + 20, a + 23, a + 26]), .inl (0, [0, 0, a + 19]), .inr (0, 120), .inl (4, [0, a + 21, a + 22]), .inr (0, 12), .inr (0, 12), .inl (7, [0, a + 24, a + 25]), .inr (0, 4), .inr (1, 4), .inl (3, [0, 0, a + 27, a + 28, a + 29, a + 30, 0, a + 31, a + 32]), .inr (0, 4), .inr (0, 4), .inr (0, 4), .inr (0, 4), .inr (0, 44), .inr (0, 4), .inl (2, [0, a + 34, a + 35, a + 36, a + 37, a + 38, a + 39, 0]), .inr (0, 120), .inr (0, 120), .inr (0, 120), .inr (0, 120), .inr (0, 120), .inr (0, 120), .inl (1, [0, 0, 0, 0, 0, 0, 0, 0, 0])]) iX8_init_54 cl_8_37 rfl (by decide) ha rfl (fun j => by rw [kM_X2_init_ne (by omega), ab_up_ne _ _ _ (by omega), ab_up_ne _ _ _ (by omega), ab_up_ne _ _ _ (by omega), kM_X6_init_ne (by omega), kM_X6_init_ne (by omega)]; exact hz _ (by omega) j) rfl ?_
  refine rn_dup iX8_init_57 ?_
  refine rn_I (pre1 := [.inl (8, [a + 1, a + 17, 0, 0, 0, a + 33, 0, 0]), .inl (6, [a + 2, a + 4, a + 7, a + 10]), .inl (0, [0, 0, a + 3]), .inr (0, 120), .inl (4, [0, a + 5, a + 6]), .inr (0, 12), .inr (0, 12), .inl (7, [0, a + 8, a + 9]), .inr (0, 4), .inr (1, 4), .inl (3, [0, 0, a + 11, a + 12, a + 13, a + 14, 0, a + 15, a + 16]), .inr (0, 4), .inr (0, 4), .inr (0, 4), .inr (0, 4), .inr (0, 44), .inr (0, 4), .inl (6, [a + 18, a + 20, a + 23, a + 26]), .inl (0, [0, 0, a + 19]), .inr (0, 120), .inl (4, [0, a + 21, a + 22]), .inr (0, 12), .inr (0, 12), .inl (7, [0, a + 24, a + 25]), .inr (0, 4), .inr (1, 4), .inl (3, [0, 0, a + 27, a + 28, a + 29, a + 30, 0, a + 31, a + 32]), .inr (0, 4), .inr (0, 4), .inr (0, 4), .inr (0, 4), .inr (0, 44), .inr (0, 4), .inl (2, [0, a + 34, a + 35, a + 36, a + 37, a + 38, a + 39, 0]), .inr (0, 120), .inr (0, 120), .inr (0, 120), .inr (0, 120), .inr (0, 120), .inr (0, 120)]) (t1 := [.inl (1, [0, 0, 0, 0, 0, 0, 0, 0, 0])]) (t2 := [.inl (8, [a + 1, a + 17, 0, 0, 0, a + 33, 0, 0]), .inl (6, [a + 2, a + 4, a + 7, a + 10]), .inl (0, [0, 0, a + 3]), .inr (0, 120), .inl (4, [0, a + 5, a + 6]), .inr (0, 12), .inr (0, 12), .inl (7, [0, a + 8, a + 9]), .inr (0, 4), .inr (1, 4), .inl (3, [0, 0, a + 11, a + 12, a + 13, a + 14, 0, a + 15, a + 16]), .inr (0, 4), .inr (0, 4), .inr (0, 4), .inr (0, 4), .inr (0, 44), .inr (0, 4), .inl (6, [a + 18, a + 20, a + 23, a + 26]), .inl (0, [0, 0, a + 19]), .inr (0, 120), .inl (4, [0, a + 21, a + 22]), .inr (0, 12), .inr (0, 12), .inl (7, [0, a + 24, a + 25]), .inr (0, 4), .inr (1, 4), .inl (3, [0, 0, a + 27, a + 28, a + 29, a + 30, 0, a + 31, a + 32]), .inr (0, 4), .inr (0, 4), .inr (0, 4), .inr (0, 4), .inr (0, 44), .inr (0, 4), .inl (2, [0, a + 34, a + 35, a + 36, a + 37, a + 38, a + 39, 0]), .inr (0, 120), .inr (0, 120), .inr (0, 120), .inr (0, 120), .inr (0, 120), .inr (0, 120), .inl (1, [0, a + 41, a + 42, 0, a + 43, a + 44, a + 45, a + 46, a + 47]), .inr (0, 8), .inr (0, 8), .inr (0, 4), .inr (0, 256), .inr (0, 256), .inr (0, 256), .inr (0, 1024)]) iX8_init_58 ml_8_39 rfl rfl rfl (k_X1_init (pre ++ [.inl (8, [a + 1, a + 17, 0, 0, 0, a + 33, 0, 0]), .inl (6, [a + 2, a + 4, a + 7, a + 10]), .inl (0, [0, 0, a + 3]), .inr (0, 120), .inl (4, [0, a + 5, a + 6]), .inr (0, 12), .inr (0, 12), .inl (7, [0, a + 8, a + 9]), .inr (0, 4), .inr (1, 4), .inl (3, [0, 0, a + 11, a + 12, a + 13, a + 14, 0, a + 15, a + 16]), .inr (0, 4), .inr (0, 4), .inr (0, 4), .inr (0, 4), .inr (0, 44), .inr (0, 4), .inl (6, [a + 18, a + 20, a + 23, a + 26]), .inl (0, [0, 0, a + 19]), .inr (0, 120), .inl (4, [0, a + 21, a + 22]), .inr (0, 12), .inr (0, 12), .inl (7, [0, a + 24, a + 25]), .inr (0, 4), .inr (1, 4), .inl (3, [0, 0, a + 27, a + 28, a + 29, a + 30, 0, a + 31, a + 32]), .inr (0, 4), .inr (0, 4), .inr (0, 4), .inr (0, 4), .inr (0, 44), .inr (0, 4), .inl (2, [0, a + 34, a + 35, a + 36, a + 37, a + 38, a + 39, 0]), .inr (0, 120), .inr (0, 120), .inr (0, 120), .inr (0, 120), .inr (0, 120), .inr (0, 120)]) _ (a + 40) (by rw [List.length_append, ha]; rfl) (fun b hb j => by rw [kM_X2_init_ne (by omega), ab_up_ne _ _ _ (by omega), ab_up_ne _ _ _ (by omega), ab_up_ne _ _ _ (by omega), kM_X6_init_ne (by omega), kM_X6_init_ne (by omega)]; exact hz b (by omega) j)) rfl rfl ?_
  refine rn_pR (refs2 := [a + 1, a + 17, 0, 0, 0, a + 33, a + 40, 0]) iX8_init_61 fr_8_40 ha rfl rfl rfl rfl rfl ?_
  refine rn_al0 iX8_init_64 ?_
  refine rn_new (N := 9) (b := a + 48) (t2 := [.inl (8, [a + 1, a + 17, 0, 0, 0, a + 33, a + 40, 0]), .inl (6, [a + 2, a + 4, a + 7, a + 10]), .inl (0, [0, 0, a + 3]), .inr (0, 120), .inl (4, [0, a + 5, a + 6]), .inr (0, 12), .inr (0, 12), .inl (7, [0, a + 8, a + 9]), .inr (0, 4), .inr (1, 4), .inl (3, [0, 0, a + 11, a + 12, a + 13, a + 14, 0, a + 15, a + 16]), .inr (0, 4), .inr (0, 4), .inr (0, 4), .inr (0, 4), .inr (0, 44), .inr (0, 4), .inl (6, [a + 18, a + 20, a + 23, a + 26]), .inl (0, [0, 0, a + 19]), .inr (0, 120), .inl (4, [0, a + 21, a + 22]), .inr (0, 12), .inr (0, 12), .inl (7, [0, a + 24, a + 25]), .inr (0, 4), .inr (1, 4), .inl (3, [0, 0, a + 27, a + 28, a + 29, a + 30, 0, a + 31, a + 32]), .inr (0, 4), .inr (0, 4), .inr (0, 4), .inr (0, 4), .inr (0, 44), .inr (0, 4), .inl (2, [0, a + 34, a + 35, a + 36, a + 37, a + 38, a + 39, 0]), .inr (0, 120), .inr (0, 120), .inr (0, 120), .inr (0, 120), .inr (0, 120), .inr (0, 120), .inl (1, [0, a + 41, a + 42, 0, a + 43, a + 44, a + 45, a + 46, a + 47]), .inr (0, 8), .inr (0, 8), .inr (0, 4), .inr (0, 256), .inr (0, 256), .inr (0, 256), .inr (0, 1024), .inl (5, [0, 0, 0, 0, 0, 0, 0, 0, 0])]) iX8_init_65 cl_8_44 rfl (by decide) ha rfl (fun j => by rw [kM_X1_init_ne (by omega), kM_X2_init_ne (by omega), ab_up_ne _ _ _ (by omega), ab_up_ne _ _ _ (by omega), ab_up_ne _ _ _ (by omega), kM_X6_init_ne (by omega), kM_X6_init_ne (by omega)]; exact hz _ (by omega) j) rfl ?_
  refine rn_dup iX8_init_68 ?_
  refine rn_I (pre1 := [.inl (8, [a + 1, a + 17, 0, 0, 0, a + 33, a + 40, 0]), .inl (6, [a + 2, a + 4, a + 7, a + 10]), .inl (0, [0, 0, a + 3]), .inr (0, 120), .inl (4, [0, a + 5, a + 6]), .inr (0, 12), .inr (0, 12), .inl (7, [0, a + 8, a + 9]), .inr (0, 4), .inr (1, 4), .inl (3, [0, 0, a + 11, a + 12, a + 13, a + 14, 0, a + 15, a + 16]), .inr (0, 4), .inr (0, 4), .inr (0, 4), .inr (0, 4), .inr (0, 44), .inr (0, 4), .inl (6, [a + 18, a + 20, a + 23, a + 26]), .inl (0, [0, 0, a + 19]), .inr (0, 120), .inl (4, [0, a + 21, a + 22]), .inr (0, 12), .inr (0, 12), .inl (7, [0, a + 24, a + 25]), .inr (0, 4), .inr (1, 4), .inl (3, [0, 0, a + 27, a + 28, a + 29, a + 30, 0, a + 31, a + 32]), .inr (0, 4), .inr (0, 4), .inr (0, 4), .inr (0, 4), .inr (0, 44), .inr (0, 4), .inl (2, [0, a + 34, a + 35, a + 36, a + 37, a + 38, a + 39, 0]), .inr (0, 120), .inr (0, 120), .inr (0, 120), .inr (0, 120), .inr (0, 120), .inr (0, 120), .inl (1, [0, a + 41, a + 42, 0, a + 43, a + 44, a + 45, a + 46, a + 47]), .inr (0, 8), .inr (0, 8), .inr (0, 4), .inr (0, 256), .inr (0, 256), .inr (0, 256), .inr (0, 1024)]) (t1 := [.inl (5, [0, 0, 0, 0, 0, 0, 0, 0, 0])]) (t2 := [.inl (8, [a + 1, a + 17, 0, 0, 0, a + 33, a + 40, 0]), .inl (6, [a + 2, a + 4, a + 7, a + 10]), .inl (0, [0, 0, a + 3]), .inr (0, 120), .inl (4, [0, a + 5, a + 6]), .inr (0, 12), .inr (0, 12), .inl (7, [0, a + 8, a + 9]), .inr (0, 4), .inr (1, 4), .inl (3, [0, 0, a + 11, a + 12, a + 13, a + 14, 0, a + 15, a + 16]), .inr (0, 4), .inr (0, 4), .inr (0, 4), .inr (0, 4), .inr (0, 44), .inr (0, 4), .inl (6, [a + 18, a + 20, a + 23, a + 26]), .inl (0, [0, 0, a + 19]), .inr (0, 120), .inl (4, [0, a + 21, a + 22]), .inr (0, 12), .inr (0, 12), .inl (7, [0, a + 24, a + 25]), .inr (0, 4), .inr (1, 4), .inl (3, [0, 0, a + 27, a + 28, a + 29, a + 30, 0, a + 31, a + 32]), .inr (0, 4), .inr (0, 4), .inr (0, 4), .inr (0, 4), .inr (0, 44), .inr (0, 4), .inl (2, [0, a + 34, a + 35, a + 36, a + 37, a + 38, a + 39, 0]), .inr (0, 120), .inr (0, 120), .inr (0, 120), .inr (0, 120), .inr (0, 120), .inr (0, 120), .inl (1, [0, a + 41, a + 42, 0, a + 43, a + 44, a + 45, a + 46, a + 47]), .inr (0, 8), .inr (0, 8), .inr (0, 4), .inr (0, 256), .inr (0, 256), .inr (0, 256), .inr (0, 1024), .inl (5, [0, 0, a + 49, a + 50, 0, a + 51, a + 52, a + 53, a + 54]), .inr (0, 4), .inr (0, 4), .inr (0, 13), .inr (0, 13), .inr (0, 4), .inr (0, 4)]) iX8_init_69 ml_8_46 rfl rfl rfl (k_X5_init (pre ++ [.inl (8, [a + 1, a + 17, 0, 0, 0, a + 33, a + 40, 0]), .inl (6, [a + 2, a + 4, a + 7, a + 10]), .inl (0, [0, 0, a + 3]), .inr (0, 120), .inl (4, [0, a + 5, a + 6]), .inr (0, 12), .inr (0, 12), .inl (7, [0, a + 8, a + 9]), .inr (0, 4), .inr (1, 4), .inl (3, [0, 0, a + 11, a + 12, a + 13, a + 14, 0, a + 15, a + 16]), .inr (0, 4), .inr (0, 4), .inr (0, 4), .inr (0, 4), .inr (0, 44), .inr (0, 4), .inl (6, [a + 18, a + 20, a + 23, a + 26]), .inl (0, [0, 0, a + 19]), .inr (0, 120), .inl (4, [0, a + 21, a + 22]), .inr (0, 12), .inr (0, 12), .inl (7, [0, a + 24, a + 25]), .inr (0, 4), .inr (1, 4), .inl (3, [0, 0, a + 27, a + 28, a + 29, a + 30, 0, a + 31, a + 32]), .inr (0, 4), .inr (0, 4), .inr (0, 4), .inr (0, 4), .inr (0, 44), .inr (0, 4), .inl (2, [0, a + 34, a + 35, a + 36, a + 37, a + 38, a + 39, 0]), .inr (0, 120), .inr (0, 120), .inr (0, 120), .inr (0, 120), .inr (0, 120), .inr (0, 120), .inl (1, [0, a + 41, a + 42, 0, a + 43, a + 44, a + 45, a + 46, a + 47]), .inr (0, 8), .inr (0, 8), .inr (0, 4), .inr (0, 256), .inr (0, 256), .inr (0, 256), .inr (0, 1024)]) _ (a + 48) (by rw [List.length_append, ha]; rfl) (fun b hb j => by rw [kM_X1_init_ne (by omega), kM_X2_init_ne (by omega), ab_up_ne _ _ _ (by omega), ab_up_ne _ _ _ (by omega), ab_up_ne _ _ _ (by omega), kM_X6_init_ne (by omega), kM_X6_init_ne (by omega)]; exact hz b (by omega) j)) rfl rfl ?_
  refine rn_pR (refs2 := [a + 1, a + 17, 0, 0, 0, a + 33, a + 40, a + 48]) iX8_init_72 fr_8_47 ha rfl rfl rfl rfl rfl ?_
  exact rn_rv iX8_init_75 rfl
def kM_X9_init (M : ab_Me) (a : Nat) : ab_Me := ab_up (ab_up (ab_up (ab_up M a 0 1) a 1 1) a 10 3) a 11 10
theorem kM_X9_init_ne {M : ab_Me} {a b : Nat} (h : b < a ∨ a + 30 ≤ b) : kM_X9_init M a b = M b := by
  unfold kM_X9_init
  rw [ab_up_ne _ _ _ (by omega), ab_up_ne _ _ _ (by omega), ab_up_ne _ _ _ (by omega), ab_up_ne _ _ _ (by omega)]
theorem k_X9_init (pre : List ab_CD) (M : ab_Me) (a : Nat) (ha : pre.length = a) (hz : ∀ b, a ≤ b → ∀ j, M b j = 0) : ab_call 1 mX9_init [.inr a] (pre ++ [.inl (9, [0, 0, 0, 0, 0, 0, 0, 0, 0, 0, 0, 0, 0, 0, 0, 0, 0, 0, 0, 0, 0, 0, 0, 0, 0, 0, 0, 0, 0, 0, 0, 0, 0, 0, 0, 0, 0, 0, 0, 0, 0, 0, 0, 0])], M) none (pre ++ [.inl (9, [0, 0, a + 1, a + 2, 0, a + 3, a + 4, 0, a + 5, a + 6, 0, 0, 0, 0, a + 7, a + 8, a + 9, a + 10, 0, a + 11, a + 12, a + 13, a + 14, a + 15, 0, a + 16, a + 17, a + 18, a + 19, 0, a + 20, 0, a + 21, a + 22, a + 23, a + 24, 0, a + 25, a + 26, a + 27, a + 28, 0, 0, a + 29]), .inr (0, 120), .inr (1, 120), .inr (0, 12), .inr (0, 12), .inr (0, 4), .inr (1, 4), .inr (0, 4), .inr (0, 4), .inr (0, 4), .inr (0, 4), .inr (0, 6), .inr (0, 120), .inr (0, 24), .inr (0, 8), .inr (0, 16), .inr (0, 120), .inr (0, 120), .inr (0, 120), .inr (0, 120), .inr (0, 8), .inr (0, 4), .inr (0, 4), .inr (0, 8), .inr (0, 8), .inr (0, 5), .inr (0, 5), .inr (0, 5), .inr (0, 4), .inr (0, 4)], kM_X9_init M a) := by
  refine ⟨Nat.le_of_ble_eq_true rfl, ?_⟩
  show rn 0 mX9_init 0 [some (.inr a)] [] (pre ++ [.inl (9, [0, 0, 0, 0, 0, 0, 0, 0, 0, 0, 0, 0, 0, 0, 0, 0, 0, 0, 0, 0, 0, 0, 0, 0, 0, 0, 0, 0, 0, 0, 0, 0, 0, 0, 0, 0, 0, 0, 0, 0, 0, 0, 0, 0])], M) none (pre ++ [.inl (9, [0, 0, a + 1, a + 2, 0, a + 3, a + 4, 0, a + 5, a + 6, 0, 0, 0, 0, a + 7, a + 8, a + 9, a + 10, 0, a + 11, a + 12, a + 13, a + 14, a + 15, 0, a + 16, a + 17, a + 18, a + 19, 0, a + 20, 0, a + 21, a + 22, a + 23, a + 24, 0, a + 25, a + 26, a + 27, a + 28, 0, 0, a + 29]), .inr (0, 120), .inr (1, 120), .inr (0, 12), .inr (0, 12), .inr (0, 4), .inr (1, 4), .inr (0, 4), .inr (0, 4), .inr (0, 4), .inr (0, 4), .inr (0, 6), .inr (0, 120), .inr (0, 24), .inr (0, 8), .inr (0, 16), .inr (0, 120), .inr (0, 120), .inr (0, 120), .inr (0, 120), .inr (0, 8), .inr (0, 4), .inr (0, 4), .inr (0, 8), .inr (0, 8), .inr (0, 5), .inr (0, 5), .inr (0, 5), .inr (0, 4), .inr (0, 4)], kM_X9_init M a)
  refine rn_al0 iX9_init_0 ?_
  refine rn_O iX9_init_1 ml_9_1 rfl ?_
  refine rn_al0 iX9_init_4 ?_
  refine rn_ic iX9_init_5 (by decide) ?_
  refine rn_pI iX9_init_6 fp_9_7 ha ?_
  refine rn_al0 iX9_init_9 ?_
  refine rn_ic iX9_init_10 (by decide) ?_
  refine rn_pI iX9_init_11 fp_9_13 ha ?_
  refine rn_al0 iX9_init_14 ?_
  refine rn_bp iX9_init_15 (by decide) ?_
  refine rn_na (n := 120) (b := a + 1) (t2 := [.inl (9, [0, 0, 0, 0, 0, 0, 0, 0, 0, 0, 0, 0, 0, 0, 0, 0, 0, 0, 0, 0, 0, 0, 0, 0, 0, 0, 0, 0, 0, 0, 0, 0, 0, 0, 0, 0, 0, 0, 0, 0, 0, 0, 0, 0]), .inr (0, 120)]) iX9_init_17 rfl rfl ha rfl (fun j => by rw [ab_up_ne _ _ _ (by omega), ab_up_ne _ _ _ (by omega)]; exact hz _ (by omega) j) rfl ?_
  refine rn_pR (refs2 := [0, 0, a + 1, 0, 0, 0, 0, 0, 0, 0, 0, 0, 0, 0, 0, 0, 0, 0, 0, 0, 0, 0, 0, 0, 0, 0, 0, 0, 0, 0, 0, 0, 0, 0, 0, 0, 0, 0, 0, 0, 0, 0, 0, 0]) iX9_init_19 fr_9_16 ha rfl rfl rfl rfl rfl ?_
  refine rn_al0 iX9_init_22 ?_
  refine rn_bp iX9_init_23 (by decide) ?_
  refine rn_nb (n := 120) (b := a + 2) (t2 := [.inl (9, [0, 0, a + 1, 0, 0, 0, 0, 0, 0, 0, 0, 0, 0, 0, 0, 0, 0, 0, 0, 0, 0, 0, 0, 0, 0, 0, 0, 0, 0, 0, 0, 0, 0, 0, 0, 0, 0, 0, 0, 0, 0, 0, 0, 0]), .inr (0, 120), .inr (1, 120)]) iX9_init_25 rfl rfl ha rfl (fun j => by rw [ab_up_ne _ _ _ (by omega), ab_up_ne _ _ _ (by omega)]; exact hz _ (by omega) j) rfl ?_
  refine rn_pR (refs2 := [0, 0, a + 1, a + 2, 0, 0, 0, 0, 0, 0, 0, 0, 0, 0, 0, 0, 0, 0, 0, 0, 0, 0, 0, 0, 0, 0, 0, 0, 0, 0, 0, 0, 0, 0, 0, 0, 0, 0, 0, 0, 0, 0, 0, 0]) iX9_init_27 fr_9_20 ha rfl rfl rfl rfl rfl ?_
  refine rn_al0 iX9_init_30 ?_
  refine rn_bp iX9_init_31 (by decide) ?_
  refine rn_na (n := 12) (b := a + 3) (t2 := [.inl (9, [0, 0, a + 1, a + 2, 0, 0, 0, 0, 0, 0, 0, 0, 0, 0, 0, 0, 0, 0, 0, 0, 0, 0, 0, 0, 0, 0, 0, 0, 0, 0, 0, 0, 0, 0, 0, 0, 0, 0, 0, 0, 0, 0, 0, 0]), .inr (0, 120), .inr (1, 120), .inr (0, 12)]) iX9_init_33 rfl rfl ha rfl (fun j => by rw [ab_up_ne _ _ _ (by omega), ab_up_ne _ _ _ (by omega)]; exact hz _ (by omega) j) rfl ?_
  refine rn_pR (refs2 := [0, 0, a + 1, a + 2, 0, a + 3, 0, 0, 0, 0, 0, 0, 0, 0, 0, 0, 0, 0, 0, 0, 0, 0, 0, 0, 0, 0, 0, 0, 0, 0, 0, 0, 0, 0, 0, 0, 0, 0, 0, 0, 0, 0, 0, 0]) iX9_init_35 fr_9_24 ha rfl rfl rfl rfl rfl ?_
  refine rn_al0 iX9_init_38 ?_
  refine rn_bp iX9_init_39 (by decide) ?_
  refine rn_na (n := 12) (b := a + 4) (t2 := [.inl (9, [0, 0, a + 1, a + 2, 0, a + 3, 0, 0, 0, 0, 0, 0, 0, 0, 0, 0, 0, 0, 0, 0, 0, 0, 0, 0, 0, 0, 0, 0, 0, 0, 0, 0, 0, 0, 0, 0, 0, 0, 0, 0, 0, 0, 0, 0]), .inr (0, 120), .inr (1, 120), .inr (0, 12), .inr (0, 12)]) iX9_init_41 rfl rfl ha rfl (fun j => by rw [ab_up_ne _ _ _ (by omega), ab_up_ne _ _ _ (by omega)]; exact hz _ (by omega) j) rfl ?_
  refine rn_pR (refs2 := [0, 0, a + 1, a + 2, 0, a + 3, a + 4, 0, 0, 0, 0, 0, 0, 0, 0, 0, 0, 0, 0, 0, 0, 0, 0, 0, 0, 0, 0, 0, 0, 0, 0, 0, 0, 0, 0, 0, 0, 0, 0, 0, 0, 0, 0, 0]) iX9_init_43 fr_9_27 ha rfl rfl rfl rfl rfl ?_
  refine rn_al0 iX9_init_46 ?_
  refine rn_ic iX9_init_47 (by decide) ?_
  refine rn_na (n := 4) (b := a + 5) (t2 := [.inl (9, [0, 0, a + 1, a + 2, 0, a + 3, a + 4, 0, 0, 0, 0, 0, 0, 0, 0, 0, 0, 0, 0, 0, 0, 0, 0, 0, 0, 0, 0, 0, 0, 0, 0, 0, 0, 0, 0, 0, 0, 0, 0, 0, 0, 0, 0, 0]), .inr (0, 120), .inr (1, 120), .inr (0, 12), .inr (0, 12), .inr (0, 4)]) iX9_init_48 rfl rfl ha rfl (fun j => by rw [ab_up_ne _ _ _ (by omega), ab_up_ne _ _ _ (by omega)]; exact hz _ (by omega) j) rfl ?_
  refine rn_pR (refs2 := [0, 0, a + 1, a + 2, 0, a + 3, a + 4, 0, a + 5, 0, 0, 0, 0, 0, 0, 0, 0, 0, 0, 0, 0, 0, 0, 0, 0, 0, 0, 0, 0, 0, 0, 0, 0, 0, 0, 0, 0, 0, 0, 0, 0, 0, 0, 0]) iX9_init_50 fr_9_30 ha rfl rfl rfl rfl rfl ?_
  refine rn_al0 iX9_init_53 ?_
  refine rn_ic iX9_init_54 (by decide) ?_
  refine rn_nb (n := 4) (b := a + 6) (t2 := [.inl (9, [0, 0, a + 1, a + 2, 0, a + 3, a + 4, 0, a + 5, 0, 0, 0, 0, 0, 0, 0, 0, 0, 0, 0, 0, 0, 0, 0, 0, 0, 0, 0, 0, 0, 0, 0, 0, 0, 0, 0, 0, 0, 0, 0, 0, 0, 0, 0]), .inr (0, 120), .inr (1, 120), .inr (0, 12), .inr (0, 12), .inr (0, 4), .inr (1, 4)]) iX9_init_55 rfl rfl ha rfl (fun j => by rw [ab_up_ne _ _ _ (by omega), ab_up_ne _ _ _ (by omega)]; exact hz _ (by omega) j) rfl ?_
  refine rn_pR (refs2 := [0, 0, a + 1, a + 2, 0, a + 3, a + 4, 0, a + 5, a + 6, 0, 0, 0, 0, 0, 0, 0, 0, 0, 0, 0, 0, 0, 0, 0, 0, 0, 0, 0, 0, 0, 0, 0, 0, 0, 0, 0, 0, 0, 0, 0, 0, 0, 0]) iX9_init_57 fr_9_33 ha rfl rfl rfl rfl rfl ?_
  refine rn_al0 iX9_init_60 ?_
  refine rn_ic iX9_init_61 (by decide) ?_
  refine rn_pI iX9_init_62 fp_9_36 ha ?_
  refine rn_al0 iX9_init_65 ?_
  refine rn_bp iX9_init_66 (by decide) ?_
  refine rn_pI iX9_init_68 fp_9_39 ha ?_
  refine rn_al0 iX9_init_71 ?_
  refine rn_ic iX9_init_72 (by decide) ?_
  refine rn_na (n := 4) (b := a + 7) (t2 := [.inl (9, [0, 0, a + 1, a + 2, 0, a + 3, a + 4, 0, a + 5, a + 6, 0, 0, 0, 0, 0, 0, 0, 0, 0, 0, 0, 0, 0, 0, 0, 0, 0, 0, 0, 0, 0, 0, 0, 0, 0, 0, 0, 0, 0, 0, 0, 0, 0, 0]), .inr (0, 120), .inr (1, 120), .inr (0, 12), .inr (0, 12), .inr (0, 4), .inr (1, 4), .inr (0, 4)]) iX9_init_73 rfl rfl ha rfl (fun j => by rw [ab_up_ne _ _ _ (by omega), ab_up_ne _ _ _ (by omega), ab_up_ne _ _ _ (by omega), ab_up_ne _ _ _ (by omega)]; exact hz _ (by omega) j) rfl ?_
  refine rn_pR (refs2 := [0, 0, a + 1, a + 2, 0, a + 3, a + 4, 0, a + 5, a + 6, 0, 0, 0, 0, a + 7, 0, 0, 0, 0, 0, 0, 0, 0, 0, 0, 0, 0, 0, 0, 0, 0, 0, 0, 0, 0, 0, 0, 0, 0, 0, 0, 0, 0, 0]) iX9_init_75 fr_9_42 ha rfl rfl rfl rfl rfl ?_
  refine rn_al0 iX9_init_78 ?_
  refine rn_ic iX9_init_79 (by decide) ?_
  refine rn_na (n := 4) (b := a + 8) (t2 := [.inl (9, [0, 0, a + 1, a + 2, 0, a + 3, a + 4, 0, a + 5, a + 6, 0, 0, 0, 0, a + 7, 0, 0, 0, 0, 0, 0, 0, 0, 0, 0, 0, 0, 0, 0, 0, 0, 0, 0, 0, 0, 0, 0, 0, 0, 0, 0, 0, 0, 0]), .inr (0, 120), .inr (1, 120), .inr (0, 12), .inr (0, 12), .inr (0, 4), .inr (1, 4), .inr (0, 4), .inr (0, 4)]) iX9_init_80 rfl rfl ha rfl (fun j => by rw [ab_up_ne _ _ _ (by omega), ab_up_ne _ _ _ (by omega), ab_up_ne _ _ _ (by omega), ab_up_ne _ _ _ (by omega)]; exact hz _ (by omega) j) rfl ?_
  refine rn_pR (refs2 := [0, 0, a + 1, a + 2, 0, a + 3, a + 4, 0, a + 5, a + 6, 0, 0, 0, 0, a + 7, a + 8, 0, 0, 0, 0, 0, 0, 0, 0, 0, 0, 0, 0, 0, 0, 0, 0, 0, 0, 0, 0, 0, 0, 0, 0, 0, 0, 0, 0]) iX9_init_82 fr_9_45 ha rfl rfl rfl rfl rfl ?_
  refine rn_al0 iX9_init_85 ?_
  refine rn_ic iX9_init_86 (by decide) ?_
  refine rn_na (n := 4) (b := a + 9) (t2 := [.inl (9, [0, 0, a + 1, a + 2, 0, a + 3, a + 4, 0, a + 5, a + 6, 0, 0, 0, 0, a + 7, a + 8, 0, 0, 0, 0, 0, 0, 0, 0, 0, 0, 0, 0, 0, 0, 0, 0, 0, 0, 0, 0, 0, 0, 0, 0, 0, 0, 0, 0]), .inr (0, 120), .inr (1, 120), .inr (0, 12), .inr (0, 12), .inr (0, 4), .inr (1, 4), .inr (0, 4), .inr (0, 4), .inr (0, 4)]) iX9_init_87 rfl rfl ha rfl (fun j => by rw [ab_up_ne _ _ _ (by omega), ab_up_ne _ _ _ (by omega), ab_up_ne _ _ _ (by omega), ab_up_ne _ _ _ (by omega)]; exact hz _ (by omega) j) rfl ?_
  refine rn_pR (refs2 := [0, 0, a + 1, a + 2, 0, a + 3, a + 4, 0, a + 5, a + 6, 0, 0, 0, 0, a + 7, a + 8, a + 9, 0, 0, 0, 0, 0, 0, 0, 0, 0, 0, 0, 0, 0, 0, 0, 0, 0, 0, 0, 0, 0, 0, 0, 0, 0, 0, 0]) iX9_init_89 fr_9_48 ha rfl rfl rfl rfl rfl ?_
  refine rn_al0 iX9_init_92 ?_
  refine rn_ic iX9_init_93 (by decide) ?_
  refine rn_na (n := 4) (b := a + 10) (t2 := [.inl (9, [0, 0, a + 1, a + 2, 0, a + 3, a + 4, 0, a + 5, a + 6, 0, 0, 0, 0, a + 7, a + 8, a + 9, 0, 0, 0, 0, 0, 0, 0, 0, 0, 0, 0, 0, 0, 0, 0, 0, 0, 0, 0, 0, 0, 0, 0, 0, 0, 0, 0]), .inr (0, 120), .inr (1, 120), .inr (0, 12), .inr (0, 12), .inr (0, 4), .inr (1, 4), .inr (0, 4), .inr (0, 4), .inr (0, 4), .inr (0, 4)]) iX9_init_94 rfl rfl ha rfl (fun j => by rw [ab_up_ne _ _ _ (by omega), ab_up_ne _ _ _ (by omega), ab_up_ne _ _ _ (by omega), ab_up_ne _ _ _ (by omega)]; exact hz _ (by omega) j) rfl ?_
  refine rn_pR (refs2 := [0, 0, a + 1, a + 2, 0, a + 3, a + 4, 0, a + 5, a + 6, 0, 0, 0, 0, a + 7, a + 8, a + 9, a + 10, 0, 0, 0, 0, 0, 0, 0, 0, 0, 0, 0, 0, 0, 0, 0, 0, 0, 0, 0, 0, 0, 0, 0, 0, 0, 0]) iX9_init_96 fr_9_51 ha rfl rfl rfl rfl rfl ?_
  refine rn_al0 iX9_init_99 ?_
  refine rn_bp iX9_init_100 (by decide) ?_
  refine rn_na (n := 6) (b := a + 11) (t2 := [.inl (9, [0, 0, a + 1, a + 2, 0, a + 3, a + 4, 0, a + 5, a + 6, 0, 0, 0, 0, a + 7, a + 8, a + 9, a + 10, 0, 0, 0, 0, 0, 0, 0, 0, 0, 0, 0, 0, 0, 0, 0, 0, 0, 0, 0, 0, 0, 0, 0, 0, 0, 0]), .inr (0, 120), .inr (1, 120), .inr (0, 12), .inr (0, 12), .inr (0, 4), .inr (1, 4), .inr (0, 4), .inr (0, 4), .inr (0, 4), .inr (0, 4), .inr (0, 6)]) iX9_init_102 rfl rfl ha rfl (fun j => by rw [ab_up_ne _ _ _ (by omega), ab_up_ne _ _ _ (by omega), ab_up_ne _ _ _ (by omega), ab_up_ne _ _ _ (by omega)]; exact hz _ (by omega) j) rfl ?_
  refine rn_pR (refs2 := [0, 0, a + 1, a + 2, 0, a + 3, a + 4, 0, a + 5, a + 6, 0, 0, 0, 0, a + 7, a + 8, a + 9, a + 10, 0, a + 11, 0, 0, 0, 0, 0, 0, 0, 0, 0, 0, 0, 0, 0, 0, 0, 0, 0, 0, 0, 0, 0, 0, 0, 0]) iX9_init_104 fr_9_54 ha rfl rfl rfl rfl rfl ?_
  refine rn_al0 iX9_init_107 ?_
  refine rn_bp iX9_init_108 (by decide) ?_
  refine rn_na (n := 120) (b := a + 12) (t2 := [.inl (9, [0, 0, a + 1, a + 2, 0, a + 3, a + 4, 0, a + 5, a + 6, 0, 0, 0, 0, a + 7, a + 8, a + 9, a + 10, 0, a + 11, 0, 0, 0, 0, 0, 0, 0, 0, 0, 0, 0, 0, 0, 0, 0, 0, 0, 0, 0, 0, 0, 0, 0, 0]), .inr (0, 120), .inr (1, 120), .inr (0, 12), .inr (0, 12), .inr (0, 4), .inr (1, 4), .inr (0, 4), .inr (0, 4), .inr (0, 4), .inr (0, 4), .inr (0, 6), .inr (0, 120)]) iX9_init_110 rfl rfl ha rfl (fun j => by rw [ab_up_ne _ _ _ (by omega), ab_up_ne _ _ _ (by omega), ab_up_ne _ _ _ (by omega), ab_up_ne _ _ _ (by omega)]; exact hz _ (by omega) j) rfl ?_
  refine rn_pR (refs2 := [0, 0, a + 1, a + 2, 0, a + 3, a + 4, 0, a + 5, a + 6, 0, 0, 0, 0, a + 7, a + 8, a + 9, a + 10, 0, a + 11, a + 12, 0, 0, 0, 0, 0, 0, 0, 0, 0, 0, 0, 0, 0, 0, 0, 0, 0, 0, 0, 0, 0, 0, 0]) iX9_init_112 fr_9_57 ha rfl rfl rfl rfl rfl ?_
  refine rn_al0 iX9_init_115 ?_
  refine rn_bp iX9_init_116 (by decide) ?_
  refine rn_na (n := 24) (b := a + 13) (t2 := [.inl (9, [0, 0, a + 1, a + 2, 0, a + 3, a + 4, 0, a + 5, a + 6, 0, 0, 0, 0, a + 7, a + 8, a + 9, a + 10, 0, a + 11, a + 12, 0, 0, 0, 0, 0, 0, 0, 0, 0, 0, 0, 0, 0, 0, 0, 0, 0, 0, 0, 0, 0, 0, 0]), .inr (0, 120), .inr (1, 120), .inr (0, 12), .inr (0, 12), .inr (0, 4), .inr (1, 4), .inr (0, 4), .inr (0, 4), .inr (0, 4), .inr (0, 4), .inr (0, 6), .inr (0, 120), .inr (0, 24)]) iX9_init_118 rfl rfl ha rfl (fun j => by rw [ab_up_ne _ _ _ (by omega), ab_up_ne _ _ _ (by omega), ab_up_ne _ _ _ (by omega), ab_up_ne _ _ _ (by omega)]; exact hz _ (by omega) j) rfl ?_
  refine rn_pR (refs2 := [0, 0, a + 1, a + 2, 0, a + 3, a + 4, 0, a + 5, a + 6, 0, 0, 0, 0, a + 7, a + 8, a + 9, a + 10, 0, a + 11, a + 12, a + 13, 0, 0, 0, 0, 0, 0, 0, 0, 0, 0, 0, 0, 0, 0, 0, 0, 0, 0, 0, 0, 0, 0]) iX9_init_120 fr_9_60 ha rfl rfl rfl rfl rfl ?_
  refine rn_al0 iX9_init_123 ?_
  refine rn_bp iX9_init_124 (by decide) ?_
  refine rn_na (n := 8) (b := a + 14) (t2 := [.inl (9, [0, 0, a + 1, a + 2, 0, a + 3, a + 4, 0, a + 5, a + 6, 0, 0, 0, 0, a + 7, a + 8, a + 9, a + 10, 0, a + 11, a + 12, a + 13, 0, 0, 0, 0, 0, 0, 0, 0, 0, 0, 0, 0, 0, 0, 0, 0, 0, 0, 0, 0, 0, 0]), .inr (0, 120), .inr (1, 120), .inr (0, 12), .inr (0, 12), .inr (0, 4), .inr (1, 4), .inr (0, 4), .inr (0, 4), .inr (0, 4), .inr (0, 4), .inr (0, 6), .inr (0, 120), .inr (0, 24), .inr (0, 8)]) iX9_init_126 rfl rfl ha rfl (fun j => by rw [ab_up_ne _ _ _ (by omega), ab_up_ne _ _ _ (by omega), ab_up_ne _ _ _ (by omega), ab_up_ne _ _ _ (by omega)]; exact hz _ (by omega) j) rfl ?_
  refine rn_pR (refs2 := [0, 0, a + 1, a + 2, 0, a + 3, a + 4, 0, a + 5, a + 6, 0, 0, 0, 0, a + 7, a + 8, a + 9, a + 10, 0, a + 11, a + 12, a + 13, a + 14, 0, 0, 0, 0, 0, 0, 0, 0, 0, 0, 0, 0, 0, 0, 0, 0, 0, 0, 0, 0, 0]) iX9_init_128 fr_9_63 ha rfl rfl rfl rfl rfl ?_
  refine rn_al0 iX9_init_131 ?_
  refine rn_bp iX9_init_132 (by decide) ?_
  refine rn_na (n := 16) (b := a + 15) (t2 := [.inl (9, [0, 0, a + 1, a + 2, 0, a + 3, a + 4, 0, a + 5, a + 6, 0, 0, 0, 0, a + 7, a + 8, a + 9, a + 10, 0, a + 11, a + 12, a + 13, a + 14, 0, 0, 0, 0, 0, 0, 0, 0, 0, 0, 0, 0, 0, 0, 0, 0, 0, 0, 0, 0, 0]), .inr (0, 120), .inr (1, 120), .inr (0, 12), .inr (0, 12), .inr (0, 4), .inr (1, 4), .inr (0, 4), .inr (0, 4), .inr (0, 4), .inr (0, 4), .inr (0, 6), .inr (0, 120), .inr (0, 24), .inr (0, 8), .inr (0, 16)]) iX9_init_134 rfl rfl ha rfl (fun j => by rw [ab_up_ne _ _ _ (by omega), ab_up_ne _ _ _ (by omega), ab_up_ne _ _ _ (by omega), ab_up_ne _ _ _ (by omega)]; exact hz _ (by omega) j) rfl ?_
  refine rn_pR (refs2 := [0, 0, a + 1, a + 2, 0, a + 3, a + 4, 0, a + 5, a + 6, 0, 0, 0, 0, a + 7, a + 8, a + 9, a + 10, 0, a + 11, a + 12, a + 13, a + 14, a + 15, 0, 0, 0, 0, 0, 0, 0, 0, 0, 0, 0, 0, 0, 0, 0, 0, 0, 0, 0, 0]) iX9_init_136 fr_9_66 ha rfl rfl rfl rfl rfl ?_
  refine rn_al0 iX9_init_139 ?_
  refine rn_bp iX9_init_140 (by decide) ?_
  refine rn_na (n := 120) (b := a + 16) (t2 := [.inl (9, [0, 0, a + 1, a + 2, 0, a + 3, a + 4, 0, a + 5, a + 6, 0, 0, 0, 0, a + 7, a + 8, a + 9, a + 10, 0, a + 11, a + 12, a + 13, a + 14, a + 15, 0, 0, 0, 0, 0, 0, 0, 0, 0, 0, 0, 0, 0, 0, 0, 0, 0, 0, 0, 0]), .inr (0, 120), .inr (1, 120), .inr (0, 12), .inr (0, 12), .inr (0, 4), .inr (1, 4), .inr (0, 4), .inr (0, 4), .inr (0, 4), .inr (0, 4), .inr (0, 6), .inr (0, 120), .inr (0, 24), .inr (0, 8), .inr (0, 16), .inr (0, 120)]) iX9_init_142 rfl rfl ha rfl (fun j => by rw [ab_up_ne _ _ _ (by omega), ab_up_ne _ _ _ (by omega), ab_up_ne _ _ _ (by omega), ab_up_ne _ _ _ (by omega)]; exact hz _ (by omega) j) rfl ?_
  refine rn_pR (refs2 := [0, 0, a + 1, a + 2, 0, a + 3, a + 4, 0, a + 5, a + 6, 0, 0, 0, 0, a + 7, a + 8, a + 9, a + 10, 0, a + 11, a + 12, a + 13, a + 14, a + 15, 0, a + 16, 0, 0, 0, 0, 0, 0, 0, 0, 0, 0, 0, 0, 0, 0, 0, 0, 0, 0]) iX9_init_144 fr_9_69 ha rfl rfl rfl rfl rfl ?_
  refine rn_al0 iX9_init_147 ?_
  refine rn_bp iX9_init_148 (by decide) ?_
  refine rn_na (n := 120) (b := a + 17) (t2 := [.inl (9, [0, 0, a + 1, a + 2, 0, a + 3, a + 4, 0, a + 5, a + 6, 0, 0, 0, 0, a + 7, a + 8, a + 9, a + 10, 0, a + 11, a + 12, a + 13, a + 14, a + 15, 0, a + 16, 0, 0, 0, 0, 0, 0, 0, 0, 0, 0, 0, 0, 0, 0, 0, 0, 0, 0]), .inr (0, 120), .inr (1, 120), .inr (0, 12), .inr (0, 12), .inr (0, 4), .inr (1, 4), .inr (0, 4), .inr (0, 4), .inr (0, 4), .inr (0, 4), .inr (0, 6), .inr (0, 120), .inr (0, 24), .inr (0, 8), .inr (0, 16), .inr (0, 120), .inr (0, 120)]) iX9_init_150 rfl rfl ha rfl (fun j => by rw [ab_up_ne _ _ _ (by omega), ab_up_ne _ _ _ (by omega), ab_up_ne _ _ _ (by omega), ab_up_ne _ _ _ (by omega)]; exact hz _ (by omega) j) rfl ?_
  refine rn_pR (refs2 := [0, 0, a + 1, a + 2, 0, a + 3, a + 4, 0, a + 5, a + 6, 0, 0, 0, 0, a + 7, a + 8, a + 9, a + 10, 0, a + 11, a + 12, a + 13, a + 14, a + 15, 0, a + 16, a + 17, 0, 0, 0, 0, 0, 0, 0, 0, 0, 0, 0, 0, 0, 0, 0, 0, 0]) iX9_init_152 fr_9_72 ha rfl rfl rfl rfl rfl ?_
  refine rn_al0 iX9_init_155 ?_
  refine rn_bp iX9_init_156 (by decide) ?_
  refine rn_na (n := 120) (b := a + 18) (t2 := [.inl (9, [0, 0, a + 1, a + 2, 0, a + 3, a + 4, 0, a + 5, a + 6, 0, 0, 0, 0, a + 7, a + 8, a + 9, a + 10, 0, a + 11, a + 12, a + 13, a + 14, a + 15, 0, a + 16, a + 17, 0, 0, 0, 0, 0, 0, 0, 0, 0, 0, 0, 0, 0, 0, 0, 0, 0]), .inr (0, 120), .inr (1, 120), .inr (0, 12), .inr (0, 12), .inr (0, 4), .inr (1, 4), .inr (0, 4), .inr (0, 4), .inr (0, 4), .inr (0, 4), .inr (0, 6), .inr (0, 120), .inr (0, 24), .inr (0, 8), .inr (0, 16), .inr (0, 120), .inr (0, 120), .inr (0, 120)]) iX9_init_158 rfl rfl ha rfl (fun j => by rw [ab_up_ne _ _ _ (by omega), ab_up_ne _ _ _ (by omega), ab_up_ne _ _ _ (by omega), ab_up_ne _ _ _ (by omega)]; exact hz _ (by omega) j) rfl ?_
  refine rn_pR (refs2 := [0, 0, a + 1, a + 2, 0, a + 3, a + 4, 0, a + 5, a + 6, 0, 0, 0, 0, a + 7, a + 8, a + 9, a + 10, 0, a + 11, a + 12, a + 13, a + 14, a + 15, 0, a + 16, a + 17, a + 18, 0, 0, 0, 0, 0, 0, 0, 0, 0, 0, 0, 0, 0, 0, 0, 0]) iX9_init_160 fr_9_75 ha rfl rfl rfl rfl rfl ?_
  refine rn_al0 iX9_init_163 ?_
  refine rn_bp iX9_init_164 (by decide) ?_
  refine rn_na (n := 120) (b := a + 19) (t2 := [.inl (9, [0, 0, a + 1, a + 2, 0, a + 3, a + 4, 0, a + 5, a + 6, 0, 0, 0, 0, a + 7, a + 8, a + 9, a + 10, 0, a + 11, a + 12, a + 13, a + 14, a + 15, 0, a + 16, a + 17, a + 18, 0, 0, 0, 0, 0, 0, 0, 0, 0, 0, 0, 0, 0, 0, 0, 0]), .inr (0, 120), .inr (1, 120), .inr (0, 12), .inr (0, 12), .inr (0, 4), .inr (1, 4), .inr (0, 4), .inr (0, 4), .inr (0, 4), .inr (0, 4), .inr (0, 6), .inr (0, 120), .inr (0, 24), .inr (0, 8), .inr (0, 16), .inr (0, 120), .inr (0, 120), .inr (0, 120), .inr (0, 120)]) iX9_init_166 rfl rfl ha rfl (fun j => by rw [ab_up_ne _ _ _ (by omega), ab_up_ne _ _ _ (by omega), ab_up_ne _ _ _ (by omega), ab_up_ne _ _ _ (by omega)]; exact hz _ (by omega) j) rfl ?_
  refine rn_pR (refs2 := [0, 0, a + 1, a + 2, 0, a + 3, a + 4, 0, a + 5, a + 6, 0, 0, 0, 0, a + 7, a + 8, a + 9, a + 10, 0, a + 11, a + 12, a + 13, a + 14, a + 15, 0, a + 16, a + 17, a + 18, a + 19, 0, 0, 0, 0, 0, 0, 0, 0, 0, 0, 0, 0, 0, 0, 0]) iX9_init_168 fr_9_78 ha rfl rfl rfl rfl rfl ?_
  refine rn_al0 iX9_init_171 ?_
  refine rn_bp iX9_init_172 (by decide) ?_
  refine rn_na (n := 8) (b := a + 20) (t2 := [.inl (9, [0, 0, a + 1, a + 2, 0, a + 3, a + 4, 0, a + 5, a + 6, 0, 0, 0, 0, a + 7, a + 8, a + 9, a + 10, 0, a + 11, a + 12, a + 13, a + 14, a + 15, 0, a + 16, a + 17, a + 18, a + 19, 0, 0, 0, 0, 0, 0, 0, 0, 0, 0, 0, 0, 0, 0, 0]), .inr (0, 120), .inr (1, 120), .inr (0, 12), .inr (0, 12), .inr (0, 4), .inr (1, 4), .inr (0, 4), .inr (0, 4), .inr (0, 4), .inr (0, 4), .inr (0, 6), .inr (0, 120), .inr (0, 24), .inr (0, 8), .inr (0, 16), .inr (0, 120), .inr (0, 120), .inr (0, 120), .inr (0, 120), .inr (0, 8)]) iX9_init_174 rfl rfl ha rfl (fun j => by rw [ab_up_ne _ _ _ (by omega), ab_up_ne _ _ _ (by omega), ab_up_ne _ _ _ (by omega), ab_up_ne _ _ _ (by omega)]; exact hz _ (by omega) j) rfl ?_
  refine rn_pR (refs2 := [0, 0, a + 1, a + 2, 0, a + 3, a + 4, 0, a + 5, a + 6, 0, 0, 0, 0, a + 7, a + 8, a + 9, a + 10, 0, a + 11, a + 12, a + 13, a + 14, a + 15, 0, a + 16, a + 17, a + 18, a + 19, 0, a + 20, 0, 0, 0, 0, 0, 0, 0, 0, 0, 0, 0, 0, 0]) iX9_init_176 fr_9_81 ha rfl rfl rfl rfl rfl ?_
  refine rn_al0 iX9_init_179 ?_
  refine rn_ic iX9_init_180 (by decide) ?_
  refine rn_na (n := 4) (b := a + 21) (t2 := [.inl (9, [0, 0, a + 1, a + 2, 0, a + 3, a + 4, 0, a + 5, a + 6, 0, 0, 0, 0, a + 7, a + 8, a + 9, a + 10, 0, a + 11, a + 12, a + 13, a + 14, a + 15, 0, a + 16, a + 17, a + 18, a + 19, 0, a + 20, 0, 0, 0, 0, 0, 0, 0, 0, 0, 0, 0, 0, 0]), .inr (0, 120), .inr (1, 120), .inr (0, 12), .inr (0, 12), .inr (0, 4), .inr (1, 4), .inr (0, 4), .inr (0, 4), .inr (0, 4), .inr (0, 4), .inr (0, 6), .inr (0, 120), .inr (0, 24), .inr (0, 8), .inr (0, 16), .inr (0, 120), .inr (0, 120), .inr (0, 120), .inr (0, 120), .inr (0, 8), .inr (0, 4)]) iX9_init_181 rfl rfl ha rfl (fun j => by rw [ab_up_ne _ _ _ (by omega), ab_up_ne _ _ _ (by omega), ab_up_ne _ _ _ (by omega), ab_up_ne _ _ _ (by omega)]; exact hz _ (by omega) j) rfl ?_
  refine rn_pR (refs2 := [0, 0, a + 1, a + 2, 0, a + 3, a + 4, 0, a + 5, a + 6, 0, 0, 0, 0, a + 7, a + 8, a + 9, a + 10, 0, a + 11, a + 12, a + 13, a + 14, a + 15, 0, a + 16, a + 17, a + 18, a + 19, 0, a + 20, 0, a + 21, 0, 0, 0, 0, 0, 0, 0, 0, 0, 0, 0]) iX9_init_183 fr_9_84 ha rfl rfl rfl rfl rfl ?_
  refine rn_al0 iX9_init_186 ?_
  refine rn_ic iX9_init_187 (by decide) ?_
  refine rn_na (n := 4) (b := a + 22) (t2 := [.inl (9, [0, 0, a + 1, a + 2, 0, a + 3, a + 4, 0, a + 5, a + 6, 0, 0, 0, 0, a + 7, a + 8, a + 9, a + 10, 0, a + 11, a + 12, a + 13, a + 14, a + 15, 0, a + 16, a + 17, a + 18, a + 19, 0, a + 20, 0, a + 21, 0, 0, 0, 0, 0, 0, 0, 0, 0, 0, 0]), .inr (0, 120), .inr (1, 120), .inr (0, 12), .inr (0, 12), .inr (0, 4), .inr (1, 4), .inr (0, 4), .inr (0, 4), .inr (0, 4), .inr (0, 4), .inr (0, 6), .inr (0, 120), .inr (0, 24), .inr (0, 8), .inr (0, 16), .inr (0, 120), .inr (0, 120), .inr (0, 120), .inr (0, 120), .inr (0, 8), .inr (0, 4), .inr (0, 4)]) iX9_init_188 rfl rfl ha rfl (fun j => by rw [ab_up_ne _ _ _ (by omega), ab_up_ne _ _ _ (by omega), ab_up_ne _ _ _ (by omega), ab_up_ne _ _ _ (by omega)]; exact hz _ (by omega) j) rfl ?_
  refine rn_pR (refs2 := [0, 0, a + 1, a + 2, 0, a + 3, a + 4, 0, a + 5, a + 6, 0, 0, 0, 0, a + 7, a + 8, a + 9, a + 10, 0, a + 11, a + 12, a + 13, a + 14, a + 15, 0, a + 16, a + 17, a + 18, a + 19, 0, a + 20, 0, a + 21, a + 22, 0, 0, 0, 0, 0, 0, 0, 0, 0, 0]) iX9_init_190 fr_9_87 ha rfl rfl rfl rfl rfl ?_
  refine rn_al0 iX9_init_193 ?_
  refine rn_bp iX9_init_194 (by decide) ?_
  refine rn_na (n := 8) (b := a + 23) (t2 := [.inl (9, [0, 0, a + 1, a + 2, 0, a + 3, a + 4, 0, a + 5, a + 6, 0, 0, 0, 0, a + 7, a + 8, a + 9, a + 10, 0, a + 11, a + 12, a + 13, a + 14, a + 15, 0, a + 16, a + 17, a + 18, a + 19, 0, a + 20, 0, a + 21, a + 22, 0, 0, 0, 0, 0, 0, 0, 0, 0, 0]), .inr (0, 120), .inr (1, 120), .inr (0, 12), .inr (0, 12), .inr (0, 4), .inr (1, 4), .inr (0, 4), .inr (0, 4), .inr (0, 4), .inr (0, 4), .inr (0, 6), .inr (0, 120), .inr (0, 24), .inr (0, 8), .inr (0, 16), .inr (0, 120), .inr (0, 120), .inr (0, 120), .inr (0, 120), .inr (0, 8), .inr (0, 4), .inr (0, 4), .inr (0, 8)]) iX9_init_196 rfl rfl ha rfl (fun j => by rw [ab_up_ne _ _ _ (by omega), ab_up_ne _ _ _ (by omega), ab_up_ne _ _ _ (by omega), ab_up_ne _ _ _ (by omega)]; exact hz _ (by omega) j) rfl ?_
  refine rn_pR (refs2 := [0, 0, a + 1, a + 2, 0, a + 3, a + 4, 0, a + 5, a + 6, 0, 0, 0, 0, a + 7, a + 8, a + 9, a + 10, 0, a + 11, a + 12, a + 13, a + 14, a + 15, 0, a + 16, a + 17, a + 18, a + 19, 0, a + 20, 0, a + 21, a + 22, a + 23, 0, 0, 0, 0, 0, 0, 0, 0, 0]) iX9_init_198 fr_9_90 ha rfl rfl rfl rfl rfl ?_
  refine rn_al0 iX9_init_201 ?_
  refine rn_bp iX9_init_202 (by decide) ?_
  refine rn_na (n := 8) (b := a + 24) (t2 := [.inl (9, [0, 0, a + 1, a + 2, 0, a + 3, a + 4, 0, a + 5, a + 6, 0, 0, 0, 0, a + 7, a + 8, a + 9, a + 10, 0, a + 11, a + 12, a + 13, a + 14, a + 15, 0, a + 16, a + 17, a + 18, a + 19, 0, a + 20, 0, a + 21, a + 22, a + 23, 0, 0, 0, 0, 0, 0, 0, 0, 0]), .inr (0, 120), .inr (1, 120), .inr (0, 12), .inr (0, 12), .inr (0, 4), .inr (1, 4), .inr (0, 4), .inr (0, 4), .inr (0, 4), .inr (0, 4), .inr (0, 6), .inr (0, 120), .inr (0, 24), .inr (0, 8), .inr (0, 16), .inr (0, 120), .inr (0, 120), .inr (0, 120), .inr (0, 120), .inr (0, 8), .inr (0, 4), .inr (0, 4), .inr (0, 8), .inr (0, 8)]) iX9_init_204 rfl rfl ha rfl (fun j => by rw [ab_up_ne _ _ _ (by omega), ab_up_ne _ _ _ (by omega), ab_up_ne _ _ _ (by omega), ab_up_ne _ _ _ (by omega)]; exact hz _ (by omega) j) rfl ?_
  refine rn_pR (refs2 := [0, 0, a + 1, a + 2, 0, a + 3, a + 4, 0, a + 5, a + 6, 0, 0, 0, 0, a + 7, a + 8, a + 9, a + 10, 0, a + 11, a + 12, a + 13, a + 14, a + 15, 0, a + 16, a + 17, a + 18, a + 19, 0, a + 20, 0, a + 21, a + 22, a + 23, a + 24, 0, 0, 0, 0, 0, 0, 0, 0]) iX9_init_206 fr_9_93 ha rfl rfl rfl rfl rfl ?_
  refine rn_al0 iX9_init_209 ?_
  refine rn_ic iX9_init_210 (by decide) ?_
  refine rn_na (n := 5) (b := a + 25) (t2 := [.inl (9, [0, 0, a + 1, a + 2, 0, a + 3, a + 4, 0, a + 5, a + 6, 0, 0, 0, 0, a + 7, a + 8, a + 9, a + 10, 0, a + 11, a + 12, a + 13, a + 14, a + 15, 0, a + 16, a + 17, a + 18, a + 19, 0, a + 20, 0, a + 21, a + 22, a + 23, a + 24, 0, 0, 0, 0, 0, 0, 0, 0]), .inr (0, 120), .inr (1, 120), .inr (0, 12), .inr (0, 12), .inr (0, 4), .inr (1, 4), .inr (0, 4), .inr (0, 4), .inr (0, 4), .inr (0, 4), .inr (0, 6), .inr (0, 120), .inr (0, 24), .inr (0, 8), .inr (0, 16), .inr (0, 120), .inr (0, 120), .inr (0, 120), .inr (0, 120), .inr (0, 8), .inr (0, 4), .inr (0, 4), .inr (0, 8), .inr (0, 8), .inr (0, 5)]) iX9_init_211 rfl rfl ha rfl (fun j => by rw [ab_up_ne _ _ _ (by omega), ab_up_ne _ _ _ (by omega), ab_up_ne _ _ _ (by omega), ab_up_ne _ _ _ (by omega)]; exact hz _ (by omega) j) rfl ?_
  refine rn_pR (refs2 := [0, 0, a + 1, a + 2, 0, a + 3, a + 4, 0, a + 5, a + 6, 0, 0, 0, 0, a + 7, a + 8, a + 9, a + 10, 0, a + 11, a + 12, a + 13, a + 14, a + 15, 0, a + 16, a + 17, a + 18, a + 19, 0, a + 20, 0, a + 21, a + 22, a + 23, a + 24, 0, a + 25, 0, 0, 0, 0, 0, 0]) iX9_init_213 fr_9_96 ha rfl rfl rfl rfl rfl ?_
  refine rn_al0 iX9_init_216 ?_
  refine rn_ic iX9_init_217 (by decide) ?_
  refine rn_na (n := 5) (b := a + 26) (t2 := [.inl (9, [0, 0, a + 1, a + 2, 0, a + 3, a + 4, 0, a + 5, a + 6, 0, 0, 0, 0, a + 7, a + 8, a + 9, a + 10, 0, a + 11, a + 12, a + 13, a + 14, a + 15, 0, a + 16, a + 17, a + 18, a + 19, 0, a + 20, 0, a + 21, a + 22, a + 23, a + 24, 0, a + 25, 0, 0, 0, 0, 0, 0]), .inr (0, 120), .inr (1, 120), .inr (0, 12), .inr (0, 12), .inr (0, 4), .inr (1, 4), .inr (0, 4), .inr (0, 4), .inr (0, 4), .inr (0, 4), .inr (0, 6), .inr (0, 120), .inr (0, 24), .inr (0, 8), .inr (0, 16), .inr (0, 120), .inr (0, 120), .inr (0, 120), .inr (0, 120), .inr (0, 8), .inr (0, 4), .inr (0, 4), .inr (0, 8), .inr (0, 8), .inr (0, 5), .inr (0, 5)]) iX9_init_218 rfl rfl ha rfl (fun j => by rw [ab_up_ne _ _ _ (by omega), ab_up_ne _ _ _ (by omega), ab_up_ne _ _ _ (by omega), ab_up_ne _ _ _ (by omega)]; exact hz _ (by omega) j) rfl ?_
  refine rn_pR (refs2 := [0, 0, a + 1, a + 2, 0, a + 3, a + 4, 0, a + 5, a + 6, 0, 0, 0, 0, a + 7, a + 8, a + 9, a + 10, 0, a + 11, a + 12, a + 13, a + 14, a + 15, 0, a + 16, a + 17, a + 18, a + 19, 0, a + 20, 0, a + 21, a + 22, a + 23, a + 24, 0, a + 25, a + 26, 0, 0, 0, 0, 0]) iX9_init_220 fr_9_99 ha rfl rfl rfl rfl rfl ?_
  refine rn_al0 iX9_init_223 ?_
  refine rn_ic iX9_init_224 (by decide) ?_
  refine rn_na (n := 5) (b := a + 27) (t2 := [.inl (9, [0, 0, a + 1, a + 2, 0, a + 3, a + 4, 0, a + 5, a + 6, 0, 0, 0, 0, a + 7, a + 8, a + 9, a + 10, 0, a + 11, a + 12, a + 13, a + 14, a + 15, 0, a + 16, a + 17, a + 18, a + 19, 0, a + 20, 0, a + 21, a + 22, a + 23, a + 24, 0, a + 25, a + 26, 0, 0, 0, 0, 0]), .inr (0, 120), .inr (1, 120), .inr (0, 12), .inr (0, 12), .inr (0, 4), .inr (1, 4), .inr (0, 4), .inr (0, 4), .inr (0, 4), .inr (0, 4), .inr (0, 6), .inr (0, 120), .inr (0, 24), .inr (0, 8), .inr (0, 16), .inr (0, 120), .inr (0, 120), .inr (0, 120), .inr (0, 120), .inr (0, 8), .inr (0, 4), .inr (0, 4), .inr (0, 8), .inr (0, 8), .inr (0, 5), .inr (0, 5), .inr (0, 5)]) iX9_init_225 rfl rfl ha rfl (fun j => by rw [ab_up_ne _ _ _ (by omega), ab_up_ne _ _ _ (by omega), ab_up_ne _ _ _ (by omega), ab_up_ne _ _ _ (by omega)]; exact hz _ (by omega) j) rfl ?_
  refine rn_pR (refs2 := [0, 0, a + 1, a + 2, 0, a + 3, a + 4, 0, a + 5, a + 6, 0, 0, 0, 0, a + 7, a + 8, a + 9, a + 10, 0, a + 11, a + 12, a + 13, a + 14, a + 15, 0, a + 16, a + 17, a + 18, a + 19, 0, a + 20, 0, a + 21, a + 22, a + 23, a + 24, 0, a + 25, a + 26, a + 27, 0, 0, 0, 0]) iX9_init_227 fr_9_102 ha rfl rfl rfl rfl rfl ?_
  refine rn_al0 iX9_init_230 ?_
  refine rn_ic iX9_init_231 (by decide) ?_
  refine rn_na (n := 4) (b := a + 28) (t2 := [.inl (9, [0, 0, a + 1, a + 2, 0, a + 3, a + 4, 0, a + 5, a + 6, 0, 0, 0, 0, a + 7, a + 8, a + 9, a + 10, 0, a + 11, a + 12, a + 13, a + 14, a + 15, 0, a + 16, a + 17, a + 18, a + 19, 0, a + 20, 0, a + 21, a + 22, a + 23, a + 24, 0, a + 25, a + 26, a + 27, 0, 0, 0, 0]), .inr (0, 120), .inr (1, 120), .inr (0, 12), .inr (0, 12), .inr (0, 4), .inr (1, 4), .inr (0, 4), .inr (0, 4), .inr (0, 4), .inr (0, 4), .inr (0, 6), .inr (0, 120), .inr (0, 24), .inr (0, 8), .inr (0, 16), .inr (0, 120), .inr (0, 120), .inr (0, 120), .inr (0, 120), .inr (0, 8), .inr (0, 4), .inr (0, 4), .inr (0, 8), .inr (0, 8), .inr (0, 5), .inr (0, 5), .inr (0, 5), .inr (0, 4)]) iX9_init_232 rfl rfl ha rfl (fun j => by rw [ab_up_ne _ _ _ (by omega), ab_up_ne _ _ _ (by omega), ab_up_ne _ _ _ (by omega), ab_up_ne _ _ _ (by omega)]; exact hz _ (by omega) j) rfl ?_
  refine rn_pR (refs2 := [0, 0, a + 1, a + 2, 0, a + 3, a + 4, 0, a + 5, a + 6, 0, 0, 0, 0, a + 7, a + 8, a + 9, a + 10, 0, a + 11, a + 12, a + 13, a + 14, a + 15, 0, a + 16, a + 17, a + 18, a + 19, 0, a + 20, 0, a + 21, a + 22, a + 23, a + 24, 0, a + 25, a + 26, a + 27, a + 28, 0, 0, 0]) iX9_init_234 fr_9_105 ha rfl rfl rfl rfl rfl ?_
  refine rn_al0 iX9_init_237 ?_
  refine rn_ic iX9_init_238 (by decide) ?_
  refine rn_na (n := 4) (b := a + 29) (t2 := [.inl (9, [0, 0, a + 1, a + 2, 0, a + 3, a + 4, 0, a + 5, a + 6, 0, 0, 0, 0, a + 7, a + 8, a + 9, a + 10, 0, a + 11, a + 12, a + 13, a + 14, a + 15, 0, a + 16, a + 17, a + 18, a + 19, 0, a + 20, 0, a + 21, a + 22, a + 23, a + 24, 0, a + 25, a + 26, a + 27, a + 28, 0, 0, 0]), .inr (0, 120), .inr (1, 120), .inr (0, 12), .inr (0, 12), .inr (0, 4), .inr (1, 4), .inr (0, 4), .inr (0, 4), .inr (0, 4), .inr (0, 4), .inr (0, 6), .inr (0, 120), .inr (0, 24), .inr (0, 8), .inr (0, 16), .inr (0, 120), .inr (0, 120), .inr (0, 120), .inr (0, 120), .inr (0, 8), .inr (0, 4), .inr (0, 4), .inr (0, 8), .inr (0, 8), .inr (0, 5), .inr (0, 5), .inr (0, 5), .inr (0, 4), .inr (0, 4)]) iX9_init_239 rfl rfl ha rfl (fun j => by rw [ab_up_ne _ _ _ (by omega), ab_up_ne _ _ _ (by omega), ab_up_ne _ _ _ (by omega), ab_up_ne _ _ _ (by omega)]; exact hz _ (by omega) j) rfl ?_
  refine rn_pR (refs2 := [0, 0, a + 1, a + 2, 0, a + 3, a + 4, 0, a + 5, a + 6, 0, 0, 0, 0, a + 7, a + 8, a + 9, a + 10, 0, a + 11, a + 12, a + 13, a + 14, a + 15, 0, a + 16, a + 17, a + 18, a + 19, 0, a + 20, 0, a + 21, a + 22, a + 23, a + 24, 0, a + 25, a + 26, a + 27, a + 28, 0, 0, a + 29]) iX9_init_241 fr_9_108 ha rfl rfl rfl rfl rfl ?_
  exact rn_rv iX9_init_244 rfl
