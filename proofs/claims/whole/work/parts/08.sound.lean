section AbHu
variable {p : Program} {l : Launch} {e : Env} {R : Room} {s : State} {m : MethodId} {args : Array Value} {below : List Frame} {meth : Method} {c : Code} {H : Heap} {locs : List Loc} {cells slots : Nat} {Q : State → Prop}
variable {cc : ByteArray} {pc : Nat} {lsC : Array Slot} {base b : Nat} {dC : Nat → ClassId} {dI : Nat → Nat → Nat} {cI cZ : Nat} {h : ab_H} {own : String} {rest : List Value}
theorem ab_s_copy {ix a a0 n n0 N : Nat} (hx : p.tables.exec = Jvm.exec) (hb : c.code = cc) (hml : c.maxLocals = lsC.size) (hts : ∀ w ∈ ab_tb, w.before args s = true) (hown : s.vm.findClass own = some m.cls) (hR : ab_R dC dI cI cZ base b h s H) (hS : va_S (fun q => base ≤ q) s.heap H locs) (hC : ab_lC own ix) (ha1 : 1 ≤ a) (ha01 : 1 ≤ a0) (ha : h.1[a]? = some (.inr (0, n))) (ha0 : h.1[a0]? = some (.inr (0, n0))) (hN : N ≤ n) (hN0 : N ≤ n0) (hNs : N < 100000)
    (hframes : 1 ≤ R.frames) (hlocals : (rest.map fun v => v.category).sum + (nativeFrameWords "java/lang/System" "arraycopy" 5 + 11) ≤ R.locals) (hdg : decode cc pc = .ok (.invokestatic ix, 3))
    (kk : ∀ (H1 : Heap) (locs1 : List Loc), ab_R dC dI cI cZ base b (h.1, ab_rw h.2 a (fun k => if k < N then h.2 a0 k else h.2 a k)) s H1 → va_S (fun q => base ≤ q) s.heap H1 locs1 → W p l e R s m args below meth c H1 locs1 cells slots Q (F0 m (pc + 3) lsC rest)) : W p l e R s m args below meth c H locs cells slots Q (F0 m pc lsC (.int (Int32.ofInt (N : Int)) :: .int (Int32.ofInt 0) :: ab_rv base b (.inr a) :: .int (Int32.ofInt 0) :: ab_rv base b (.inr a0) :: rest)) := by
  obtain ⟨k, rfl⟩ : ∃ k, a = k + 1 := ⟨a - 1, by omega⟩
  obtain ⟨k0, rfl⟩ : ∃ k0, a0 = k0 + 1 := ⟨a0 - 1, by omega⟩
  obtain ⟨c1, c2, c3, c4⟩ := hC
  have hNo : ab_ok (N : Int) := ⟨by omega, by omega⟩
  have hcl : (Int32.ofInt (N : Int)).toNatClampNeg = N := by rw [ab_clamp hNo]; omega
  have hc0 : H[base + k0]? = some (vp_cell cI (n0, .inl fun j => Int32.ofInt (h.2 (k0 + 1) j))) := hR.2.1 k0 _ ha0
  have hc1 : H[base + k]? = some (vp_cell cI (n, .inl fun j => Int32.ofInt (h.2 (k + 1) j))) := hR.2.1 k _ ha
  intro T hT X
  obtain ⟨-, z0, hk0, cm0, hkk0⟩ := (hR.1.2 0 _ rfl).1 n0 (fun j => .int (Int32.ofInt (h.2 (k0 + 1) j)))
  obtain ⟨-, z1, hk1, cm1, hkk1⟩ := (hR.1.2 0 _ rfl).1 n (fun j => .int (Int32.ofInt (h.2 (k + 1) j)))
  obtain ⟨vm', X', step⟩ := X.arraycopy hx hown (hts _ c1) (hts _ c2) (hts _ c3) (hts _ c4) (src := base + k0) (dst := base + k) (cs := vp_cell cI (n0, .inl fun j => Int32.ofInt (h.2 (k0 + 1) j))) (cd := vp_cell cI (n, .inl fun j => Int32.ofInt (h.2 (k + 1) j))) (srcPos := Int32.ofInt 0) (destPos := Int32.ofInt 0) (n := Int32.ofInt (N : Int)) (by rw [hT]; exact hc0) (by rw [hT]; exact hc1)
    (fun _ h => by cases h) (fun _ h => by cases h) (fun h => by cases h) (fun h => by cases h) hk0 hk1 hkk0 hkk1 (by simp [refKind]) (by decide) (by decide) (fun q => by have := (ab_lt_iff hNo ab_ok0).mp q; omega)
    (by rw [ab_toInt hNo, ab_toInt ab_ok0]; show ¬ _ > ((arrV cI n0 _).slots.size : Int); rw [arrV_size]; omega)
    (by rw [ab_toInt hNo, ab_toInt ab_ok0]; show ¬ _ > ((arrV cI n _).slots.size : Int); rw [arrV_size]; omega)
    (fun vm₁ _ i hi => by
      rw [hcl] at hi
      have e : (vp_cell cI (n0, .inl fun j => Int32.ofInt (h.2 (k0 + 1) j))).slots.getD ((Int32.ofInt 0).toNatClampNeg + i) .null = .int (Int32.ofInt (h.2 (k0 + 1) i)) := by
        show (arrV cI n0 (fun j => .int (Int32.ofInt (h.2 (k0 + 1) j)))).slots.getD _ _ = _
        rw [show (Int32.ofInt 0).toNatClampNeg + i = i by rw [ab_clamp ab_ok0]; simp, Array.getD_eq_getD_getElem?, arrV_read _ _ (by omega)]
        rfl
      rw [e]
      exact ⟨rfl, trivial⟩)
    (g := F0 m pc lsC (.int (Int32.ofInt (N : Int)) :: .int (Int32.ofInt 0) :: .ref (base + k) :: .int (Int32.ofInt 0) :: .ref (base + k0) :: rest)) rfl (by rw [hml]) (rest := rest) rfl (by rw [hb]; exact hdg) hframes (by show 2 * 0 + _ + _ ≤ _; omega)
  have e1 : copied (vp_cell cI (n0, .inl fun j => Int32.ofInt (h.2 (k0 + 1) j))) (vp_cell cI (n, .inl fun j => Int32.ofInt (h.2 (k + 1) j))) (Int32.ofInt 0) (Int32.ofInt 0) (Int32.ofInt (N : Int)) = vp_cell cI (n, .inl fun j => Int32.ofInt (if j < N then h.2 (k0 + 1) j else h.2 (k + 1) j)) := by
    have h4 : (Int32.ofInt 0).toNatClampNeg + (Int32.ofInt (N : Int)).toNatClampNeg ≤ n0 := by rw [hcl, ab_clamp ab_ok0]; simpa using hN0
    refine (va_copied (fun z => .int z) cI cI (fun j => Int32.ofInt (h.2 (k0 + 1) j)) (fun j => Int32.ofInt (h.2 (k + 1) j)) h4).trans ?_
    rw [vp_cell_i]
    congr 1
    funext j
    rw [hcl, ab_clamp ab_ok0]
    unfold va_cpy
    by_cases hj : j < N
    · rw [if_pos ⟨by simp, by simpa using hj⟩, if_pos hj]
      simp
    · rw [if_neg (by simp; omega), if_neg hj]
  rw [e1] at X' step
  have hl : base + k < H.size := (Array.getElem?_eq_some_iff.mp hc1).1
  have hheap : ((T.setVm vm').setCell (base + k) (vp_cell cI (n, .inl fun j => Int32.ofInt (if j < N then h.2 (k0 + 1) j else h.2 (k + 1) j)))).heap = H.setIfInBounds (base + k) (vp_cell cI (n, .inl fun j => Int32.ofInt (if j < N then h.2 (k0 + 1) j else h.2 (k + 1) j))) := by rw [← hT]; rfl
  have oq : ∀ q : Nat, q ≠ base + k → (H.setIfInBounds (base + k) (vp_cell cI (n, .inl fun j => Int32.ofInt (if j < N then h.2 (k0 + 1) j else h.2 (k + 1) j))))[q]? = H[q]? := fun q hq => by simp [Array.getElem?_setIfInBounds, Ne.symm hq]
  have hself : ab_rw h.2 (k + 1) (fun j => if j < N then h.2 (k0 + 1) j else h.2 (k + 1) j) (k + 1) = (fun j => if j < N then h.2 (k0 + 1) j else h.2 (k + 1) j) := by simp [ab_rw]
  obtain ⟨t, a1, b1⟩ := kk _ _ (hR.set k (cd' := .inr (0, n)) rfl ha (fun _ _ => rfl) (fun a hne => by simp [ab_rw, hne]) (fun j => by
      rw [hself]
      show ab_ok (if j < N then _ else _)
      split
      · exact hR.2.2.2.2.2.1 _ _
      · exact hR.2.2.2.2.2.1 _ _) (by simp) oq (by
      rw [hself]
      show (H.setIfInBounds (base + k) _)[base + k]? = some _
      first | (simp [Array.getElem?_setIfInBounds, hl]; done) | (simp [Array.getElem?_setIfInBounds, hl]; rfl))) ⟨by simp; exact hS.1, fun q g1 g2 => by
      rw [oq q (fun e => g2 (by rw [e]; exact Nat.le_add_right _ _))]
      exact hS.2.1 q g1 g2, fun q hq => by
      rcases List.mem_append.mp hq with h | h
      · exact hS.2.2 q h
      · obtain ⟨z, -, hz⟩ := List.mem_map.mp h
        rw [← hz]
        exact Nat.le_add_right _ _⟩ _ hheap X'
  exact ⟨t, step t a1, b1⟩
theorem ab_nS_app (a : List ab_CD) (x : ab_CD) : ab_nS (a ++ [x]) = ab_nS a + ab_sz x := by simp [ab_nS]
set_option maxHeartbeats 4000000 in
theorem ab_hs_sound {M : ab_M} {i : Instr} {len : Nat} {ls : ab_L} {st st1 : List ab_V} {h1 : ab_H} {nL : Nat} (hhs : ab_hs M i len st h st1 h1) (hx : p.tables.exec = Jvm.exec) (hb : c.code = cc) (hml : c.maxLocals = nL) (hts : ∀ w ∈ ab_tb, w.before args s = true) (hown : s.vm.findClass M.1.cls = some m.cls) (hnm : M.1.name = "<init>" → meth.name = "<init>") (hdg : decode cc pc = .ok (i, len))
    (hR : ab_R dC dI cI cZ base b h s H) (hS : va_S (fun q => base ≤ q) s.heap H locs) (hF : ab_fr base b nL lsC ls st) (hc1 : cells + (h1.1.length - h.1.length) ≤ R.cells) (hs1 : slots + (ab_nS h1.1 - ab_nS h.1) ≤ R.slots) (hfr : 1 ≤ R.frames) (hlo : 40 ≤ R.locals)
    (kk : ∀ (H1 : Heap) (locs1 : List Loc), ab_R dC dI cI cZ base b h1 s H1 → va_S (fun q => base ≤ q) s.heap H1 locs1 → ab_fr base b nL lsC ls st1 → W p l e R s m args below meth c H1 locs1 (cells + (h1.1.length - h.1.length)) (slots + (ab_nS h1.1 - ab_nS h.1)) Q (F0 m (pc + len) lsC (st1.map (ab_rv base b)))) : W p l e R s m args below meth c H locs cells slots Q (F0 m pc lsC (st.map (ab_rv base b))) := by
  obtain ⟨hl, hlen, hokl, hoks⟩ := hF
  have hsz : c.maxLocals = lsC.size := by rw [hml]; exact hl.1.symm
  rcases hhs with ⟨ix, ci, k, a, rest, refs, rfl, rfl, hF, rfl, ha, hr, rfl, rfl⟩ | ⟨ix, ci, k, a, rest, refs, r, rfl, rfl, hF, rfl, ha, hr, hrr, rfl, rfl⟩ | ⟨ix, ci, k, a, z, rest, refs, rfl, rfl, hF, rfl, ha, hty, hfin, rfl, rfl⟩ | ⟨ix, ci, k, a, r, rest, refs, rfl, rfl, hF, rfl, ha, hr, hkr, hfin, hcl, hini, rfl, rfl⟩ | ⟨a, n, x, rest, hi, rfl, rfl, h0, hn, rfl, rfl⟩ | ⟨a, n, x, z, rest, hi, rfl, rfl, ha1, h0, hn, rfl, rfl⟩ | ⟨a, t, n, rest, rfl, rfl, rfl, ha, ht, hn, rfl, rfl⟩ | ⟨n, t, rest, hi, rfl, rfl, hn, hf, rfl, rfl⟩ | ⟨ix, ci, N, rfl, rfl, hC, hN, hgt, hf, rfl, rfl⟩ | ⟨ix, z, rfl, rfl, hK, hz, rfl, rfl⟩ | ⟨ix, a, rest, rfl, rfl, hO, rfl, hrl, rfl, rfl⟩ | ⟨ix, a, a0, n, n0, N, rest, rfl, rfl, hC, rfl, hrl, ha1, ha01, hne, ha, ha0, hN, hN0, hNs, rfl, rfl⟩ | ⟨ix, x, y, rest, rfl, rfl, hX, rfl, hrl, rfl, rfl⟩ | ⟨ix, x, y, rest, rfl, rfl, hX, rfl, hrl, rfl, rfl⟩
  · simp only [Nat.sub_self, Nat.add_zero] at kk hc1 hs1
    refine ab_s_get hx hb hts hown hR hF ha ?_ hdg (kk H locs hR hS ⟨hl, hlen, hokl, ab_okc (hR.2.2.2.2.2.1 a k) fun v hv => hoks v (List.mem_cons_of_mem _ hv)⟩)
    simp [ab_fv, hr]
    rfl
  · simp only [Nat.sub_self, Nat.add_zero] at kk hc1 hs1
    refine ab_s_get hx hb hts hown hR hF ha ?_ hdg (kk H locs hR hS ⟨hl, hlen, hokl, ab_okc trivial fun v hv => hoks v (List.mem_cons_of_mem _ hv)⟩)
    simp [ab_fv, hr, hrr, ab_rf]
    rfl
  · simp only [Nat.sub_self, Nat.add_zero] at kk hc1 hs1
    exact ab_s_putI hx hb hts hown hR hS hF ha hty hfin (hoks (.inl z) List.mem_cons_self) hdg (fun H1 locs1 g1 g2 => kk H1 locs1 g1 g2 ⟨hl, hlen, hokl, fun v hv => hoks v (List.mem_cons_of_mem _ (List.mem_cons_of_mem _ hv))⟩)
  · have e0 : (h.1.set a (.inl (ci, refs.set k (r + 1)))).length - h.1.length = 0 := by simp
    have e1 : ab_nS (h.1.set a (.inl (ci, refs.set k (r + 1)))) = ab_nS h.1 := by
      unfold ab_nS
      congr 1
      rw [List.map_set]
      apply List.ext_getElem?
      intro j
      by_cases hj : j = a
      · subst hj
        have hlt : j < h.1.length := (List.getElem?_eq_some_iff.mp ha).1
        rw [List.getElem?_set_self (by simpa using hlt), List.getElem?_map, ha]
        rfl
      · rw [List.getElem?_set_ne (Ne.symm hj)]
    simp only [e0, e1, Nat.sub_self, Nat.add_zero] at kk hc1 hs1
    exact ab_s_putR hx hb hts hown hR hS hF ha hr hkr hfin hcl (hnm hini) hdg (fun H1 locs1 g1 g2 => kk H1 locs1 g1 g2 ⟨hl, hlen, hokl, fun v hv => hoks v (List.mem_cons_of_mem _ (List.mem_cons_of_mem _ hv))⟩)
  · simp only [Nat.sub_self, Nat.add_zero] at kk hc1 hs1
    have hxo : ab_ok x := hoks (.inl x) List.mem_cons_self
    have kk := kk H locs hR hS ⟨hl, hlen, hokl, ab_okc (hR.2.2.2.2.2.1 a x.toNat) fun v hv => hoks v (List.mem_cons_of_mem _ (List.mem_cons_of_mem _ hv))⟩
    rcases hi with ⟨rfl, ha⟩ | ⟨rfl, ha1, ha⟩
    · exact ab_s_iald hx hb hR ha hxo h0 hn hdg kk
    · exact ab_s_zald hx hb hR ha1 ha hxo h0 hn hdg kk
  · simp only [Nat.sub_self, Nat.add_zero] at kk hc1 hs1
    have hzo : ab_ok z := hoks (.inl z) List.mem_cons_self
    have hxo : ab_ok x := hoks (.inl x) (List.mem_cons_of_mem _ List.mem_cons_self)
    have hok3 : ∀ v ∈ st1, ab_okv v := fun v hv => hoks v (List.mem_cons_of_mem _ (List.mem_cons_of_mem _ (List.mem_cons_of_mem _ hv)))
    rcases hi with ⟨rfl, ha⟩ | ⟨rfl, ha, hz⟩
    · exact ab_s_iast hx hb hR hS ha1 ha hxo hzo h0 hn hdg (fun H1 locs1 g1 g2 => kk H1 locs1 g1 g2 ⟨hl, hlen, hokl, hok3⟩)
    · exact ab_s_zast hx hb hR hS ha1 ha hxo hz h0 hn hdg (fun H1 locs1 g1 g2 => kk H1 locs1 g1 g2 ⟨hl, hlen, hokl, hok3⟩)
  · simp only [Nat.sub_self, Nat.add_zero] at kk hc1 hs1
    exact ab_s_alen hx hb hR ha ht hdg (kk H locs hR hS ⟨hl, hlen, hokl, ab_okc (v := .inl (n : Int)) ⟨by omega, by omega⟩ fun v hv => hoks v (List.mem_cons_of_mem _ hv)⟩)
  · have e0 : (h.1 ++ [(.inr (t, n) : ab_CD)]).length - h.1.length = 1 := by simp
    have e1 : ab_nS (h.1 ++ [(.inr (t, n) : ab_CD)]) - ab_nS h.1 = n := by rw [ab_nS_app]; simp [ab_sz]
    simp only [e0, e1] at kk hc1 hs1
    have hok1 : ∀ v ∈ rest, ab_okv v := fun v hv => hoks v (List.mem_cons_of_mem _ hv)
    rcases hi with ⟨rfl, rfl⟩ | ⟨rfl, rfl⟩
    · exact ab_s_newa hx hb hts hR hS (Or.inl ⟨rfl, rfl⟩) hn hf hc1 hs1 hdg (fun H1 g1 g2 => kk H1 locs g1 g2 ⟨hl, hlen, hokl, ab_okc trivial hok1⟩)
    · exact ab_s_newa hx hb hts hR hS (Or.inr ⟨rfl, rfl⟩) hn hf hc1 hs1 hdg (fun H1 g1 g2 => kk H1 locs g1 g2 ⟨hl, hlen, hokl, ab_okc trivial hok1⟩)
  · have e0 : (h.1 ++ [(.inl (ci, List.replicate N 0) : ab_CD)]).length - h.1.length = 1 := by simp
    have e1 : ab_nS (h.1 ++ [(.inl (ci, List.replicate N 0) : ab_CD)]) - ab_nS h.1 = N := by rw [ab_nS_app]; simp [ab_sz, hN]
    simp only [e0, e1] at kk hc1 hs1
    exact ab_s_new hx hb hts hown hR hS hC hN hgt hf hc1 hs1 hdg (fun H1 g1 g2 => kk H1 locs g1 g2 ⟨hl, hlen, hokl, ab_okc trivial hoks⟩)
  · simp only [Nat.sub_self, Nat.add_zero] at kk hc1 hs1
    exact lv_ldc hx hb hown (hts _ hK) hdg (kk H locs hR hS ⟨hl, hlen, hokl, ab_okc (v := .inl z) hz hoks⟩)
  · simp only [Nat.sub_self, Nat.add_zero] at kk hc1 hs1
    obtain ⟨a', ha'⟩ := ab_rvr (base := base) (b := b) a
    have kk := kk H locs hR hS ⟨hl, hlen, hokl, fun v hv => hoks v (List.mem_cons_of_mem _ hv)⟩
    rw [List.map_cons, ha']
    refine W.objInit hx hb hown (hts _ hO.1) (hts _ hO.2.1) (hts _ hO.2.2) rfl (by rw [hml]; exact hl.1) rfl hdg hfr ?_ kk
    show 2 * 0 + ((st1.map (ab_rv base b)).map fun v => v.category).sum + 12 ≤ R.locals
    rw [ab_cats]
    omega
  · simp only [Nat.sub_self, Nat.add_zero] at kk hc1 hs1
    refine ab_s_copy hx hb hsz hts hown hR hS hC ha1 ha01 ha ha0 hN hN0 hNs hfr ?_ hdg (fun H1 locs1 g1 g2 => kk H1 locs1 g1 g2 ⟨hl, hlen, hokl, fun v hv => hoks v (List.mem_cons_of_mem _ (List.mem_cons_of_mem _ (List.mem_cons_of_mem _ (List.mem_cons_of_mem _ (List.mem_cons_of_mem _ hv)))))⟩)
    rw [ab_cats]
    have : nativeFrameWords "java/lang/System" "arraycopy" 5 = 7 := by decide
    omega
  · simp only [Nat.sub_self, Nat.add_zero] at kk hc1 hs1
    have hyo : ab_ok y := hoks (.inl y) List.mem_cons_self
    have hxo : ab_ok x := hoks (.inl x) (List.mem_cons_of_mem _ List.mem_cons_self)
    have kk := kk H locs hR hS ⟨hl, hlen, hokl, ab_okc (v := .inl (if x < y then y else x)) (by show ab_ok (if x < y then y else x); split <;> assumption) fun v hv => hoks v (List.mem_cons_of_mem _ (List.mem_cons_of_mem _ hv))⟩
    have e : (if Int32.ofInt x < Int32.ofInt y then Int32.ofInt y else Int32.ofInt x) = Int32.ofInt (if x < y then y else x) := by
      by_cases hq : x < y
      · rw [if_pos ((ab_lt_iff hxo hyo).mpr hq), if_pos hq]
      · rw [if_neg (fun z => hq ((ab_lt_iff hxo hyo).mp z)), if_neg hq]
    refine va_mmax hx hb hsz hown (hts _ hX.1) (hts _ hX.2.1) (hts _ hX.2.2.1) (hts _ hX.2.2.2) hfr ?_ hc1 hs1 hdg ?_
    · rw [ab_cats]; omega
    · rw [e]; exact kk
  · simp only [Nat.sub_self, Nat.add_zero] at kk hc1 hs1
    have hyo : ab_ok y := hoks (.inl y) List.mem_cons_self
    have hxo : ab_ok x := hoks (.inl x) (List.mem_cons_of_mem _ List.mem_cons_self)
    have kk := kk H locs hR hS ⟨hl, hlen, hokl, ab_okc (v := .inl (if y < x then y else x)) (by show ab_ok (if y < x then y else x); split <;> assumption) fun v hv => hoks v (List.mem_cons_of_mem _ (List.mem_cons_of_mem _ hv))⟩
    have e : (if Int32.ofInt y < Int32.ofInt x then Int32.ofInt y else Int32.ofInt x) = Int32.ofInt (if y < x then y else x) := by
      by_cases hq : y < x
      · rw [if_pos ((ab_lt_iff hyo hxo).mpr hq), if_pos hq]
      · rw [if_neg (fun z => hq ((ab_lt_iff hyo hxo).mp z)), if_neg hq]
    refine va_mmin hx hb hsz hown (hts _ hX.1) (hts _ hX.2.1) (hts _ hX.2.2.1) (hts _ hX.2.2.2) hfr ?_ hc1 hs1 hdg ?_
    · rw [ab_cats]; omega
    · rw [e]; exact kk
end AbHu
