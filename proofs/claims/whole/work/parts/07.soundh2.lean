section AbHt
variable {p : Program} {l : Launch} {e : Env} {R : Room} {s : State} {m : MethodId} {args : Array Value} {below : List Frame} {meth : Method} {c : Code} {H : Heap} {locs : List Loc} {cells slots : Nat} {Q : State → Prop}
variable {cc : ByteArray} {pc : Nat} {lsC : Array Slot} {base b : Nat} {dC : Nat → ClassId} {dI : Nat → Nat → Nat} {cI cZ : Nat} {h : ab_H} {own : String} {rest : List Value}
theorem ab_s_iald {a n : Nat} {x : Int} (hx : p.tables.exec = Jvm.exec) (hb : c.code = cc) (hR : ab_R dC dI cI cZ base b h s H) (ha : h.1[a]? = some (.inr (0, n))) (hxo : ab_ok x) (h0 : 0 ≤ x) (hn : x < n) (hdg : decode cc pc = .ok (.iaload, 1))
    (kk : W p l e R s m args below meth c H locs cells slots Q (F0 m (pc + 1) lsC (.int (Int32.ofInt (h.2 a x.toNat)) :: rest))) : W p l e R s m args below meth c H locs cells slots Q (F0 m pc lsC (.int (Int32.ofInt x) :: ab_rv base b (.inr a) :: rest)) := by
  cases a with
  | zero =>
    obtain ⟨L, h4, scr, g1, g2, g3, g4, g5⟩ := hR.2.2.2.1
    have hL : n = L := by
      have := ha.symm.trans h4
      simp at this
      exact this
    subst hL
    have hlt : x.toNat < n := by omega
    exact W.iald (v := .int (Int32.ofInt (h.2 0 x.toNat))) hx hb g1 g2 g3 (by rw [g4]; exact ab_vin hxo h0 hn) (by rw [ab_clamp hxo]; exact g5 _ hlt) rfl rfl hdg kk
  | succ k =>
    have hat := hR.2.1 k _ ha
    refine va_iald (D := (dC, dI)) hx hb hR.1 (ab_one hat) 0 0 rfl rfl (ab_vin hxo h0 hn) hdg ?_
    rw [ab_clamp hxo]
    exact kk
theorem ab_s_zald {a n : Nat} {x : Int} (hx : p.tables.exec = Jvm.exec) (hb : c.code = cc) (hR : ab_R dC dI cI cZ base b h s H) (ha1 : 1 ≤ a) (ha : h.1[a]? = some (.inr (1, n))) (hxo : ab_ok x) (h0 : 0 ≤ x) (hn : x < n) (hdg : decode cc pc = .ok (.baload, 1))
    (kk : W p l e R s m args below meth c H locs cells slots Q (F0 m (pc + 1) lsC (.int (Int32.ofInt (h.2 a x.toNat)) :: rest))) : W p l e R s m args below meth c H locs cells slots Q (F0 m pc lsC (.int (Int32.ofInt x) :: ab_rv base b (.inr a) :: rest)) := by
  cases a with
  | zero => exact absurd ha1 (by omega)
  | succ k =>
    have hat := hR.2.1 k _ ha
    refine va_zald (D := (dC, dI)) hx hb hR.1 (ab_one hat) 0 1 rfl rfl (ab_vin hxo h0 hn) hdg ?_
    rw [ab_clamp hxo]
    exact kk
theorem ab_cell_up {cA n k : Nat} {f : Nat → Int} {z : Int} : (vp_cell cA (n, .inl fun j => Int32.ofInt (f j))).setSlot k (.int (Int32.ofInt z)) = vp_cell cA (n, .inl fun j => Int32.ofInt (ab_u1 f k z j)) := by
  rw [vp_cell_i, vp_cell_i, arrV_store]
  congr 1
  funext q
  by_cases hq : q = k
  · subst hq; simp [updV, ab_u1]
  · simp [updV, ab_u1, hq]
theorem ab_s_iast {a n : Nat} {x z : Int} (hx : p.tables.exec = Jvm.exec) (hb : c.code = cc) (hR : ab_R dC dI cI cZ base b h s H) (hS : va_S (fun q => base ≤ q) s.heap H locs) (ha1 : 1 ≤ a) (ha : h.1[a]? = some (.inr (0, n))) (hxo : ab_ok x) (hzo : ab_ok z) (h0 : 0 ≤ x) (hn : x < n) (hdg : decode cc pc = .ok (.iastore, 1))
    (kk : ∀ (H1 : Heap) (locs1 : List Loc), ab_R dC dI cI cZ base b (h.1, ab_up h.2 a x.toNat z) s H1 → va_S (fun q => base ≤ q) s.heap H1 locs1 → W p l e R s m args below meth c H1 locs1 cells slots Q (F0 m (pc + 1) lsC rest)) : W p l e R s m args below meth c H locs cells slots Q (F0 m pc lsC (.int (Int32.ofInt z) :: .int (Int32.ofInt x) :: ab_rv base b (.inr a) :: rest)) := by
  cases a with
  | zero => exact absurd ha1 (by omega)
  | succ k =>
    have hat := hR.2.1 k _ ha
    refine W.iast hx hb hat ((hR.1.2 0 _ rfl).1 n (fun j => .int (Int32.ofInt (h.2 (k + 1) j)))) (fun q => by cases q) (by show ¬ (_ < 0 ∨ (arrV _ _ _).slots.size ≤ _); rw [arrV_size]; exact ab_vin hxo h0 hn) rfl rfl hdg fun H1 e z1 oq => ?_
    have hself : ab_up h.2 (k + 1) x.toNat z (k + 1) = ab_u1 (h.2 (k + 1)) x.toNat z := by simp [ab_up]
    refine kk H1 _ (hR.set k (cd' := .inr (0, n)) rfl ha (fun _ _ => rfl) (fun a hne => by simp [ab_up, hne]) (fun j => ?_) z1 oq ?_) (hS.put z1 oq (Nat.le_add_right _ _))
    · rw [hself]
      unfold ab_u1
      split
      · exact hzo
      · exact hR.2.2.2.2.2.1 _ _
    · show H1[base + k]? = some (vp_cell _ _)
      rw [e, ab_clamp hxo, hself]
      exact congrArg some ab_cell_up
theorem ab_s_zast {a n : Nat} {x z : Int} (hx : p.tables.exec = Jvm.exec) (hb : c.code = cc) (hR : ab_R dC dI cI cZ base b h s H) (hS : va_S (fun q => base ≤ q) s.heap H locs) (ha1 : 1 ≤ a) (ha : h.1[a]? = some (.inr (1, n))) (hxo : ab_ok x) (hz : z = 0 ∨ z = 1) (h0 : 0 ≤ x) (hn : x < n) (hdg : decode cc pc = .ok (.bastore, 1))
    (kk : ∀ (H1 : Heap) (locs1 : List Loc), ab_R dC dI cI cZ base b (h.1, ab_up h.2 a x.toNat z) s H1 → va_S (fun q => base ≤ q) s.heap H1 locs1 → W p l e R s m args below meth c H1 locs1 cells slots Q (F0 m (pc + 1) lsC rest)) : W p l e R s m args below meth c H locs cells slots Q (F0 m pc lsC (.int (Int32.ofInt z) :: .int (Int32.ofInt x) :: ab_rv base b (.inr a) :: rest)) := by
  have hzo : ab_ok z := by rcases hz with rfl | rfl <;> exact ⟨by decide, by decide⟩
  have hnar : narrow .boolean (.int (Int32.ofInt z)) = .int (Int32.ofInt z) := by rcases hz with rfl | rfl <;> rfl
  cases a with
  | zero => exact absurd ha1 (by omega)
  | succ k =>
    have hat := hR.2.1 k _ ha
    refine W.zast hx hb hat ((hR.1.2 1 _ rfl).1 n (fun j => .int (Int32.ofInt (h.2 (k + 1) j)))) (fun q => by cases q) (by show ¬ (_ < 0 ∨ (arrV _ _ _).slots.size ≤ _); rw [arrV_size]; exact ab_vin hxo h0 hn) rfl rfl hdg fun H1 e z1 oq => ?_
    have hself : ab_up h.2 (k + 1) x.toNat z (k + 1) = ab_u1 (h.2 (k + 1)) x.toNat z := by simp [ab_up]
    refine kk H1 _ (hR.set k (cd' := .inr (1, n)) rfl ha (fun _ _ => rfl) (fun a hne => by simp [ab_up, hne]) (fun j => ?_) z1 oq ?_) (hS.put z1 oq (Nat.le_add_right _ _))
    · rw [hself]
      unfold ab_u1
      split
      · exact hzo
      · exact hR.2.2.2.2.2.1 _ _
    · show H1[base + k]? = some (vp_cell _ _)
      rw [e, ab_clamp hxo, hself, hnar]
      exact congrArg some ab_cell_up
theorem ab_s_alen {a t n : Nat} (hx : p.tables.exec = Jvm.exec) (hb : c.code = cc) (hR : ab_R dC dI cI cZ base b h s H) (ha : h.1[a]? = some (.inr (t, n))) (ht : a = 0 ∨ t < 2) (hdg : decode cc pc = .ok (.arraylength, 1))
    (kk : W p l e R s m args below meth c H locs cells slots Q (F0 m (pc + 1) lsC (.int (Int32.ofInt (n : Int)) :: rest))) : W p l e R s m args below meth c H locs cells slots Q (F0 m pc lsC (ab_rv base b (.inr a) :: rest)) := by
  rw [Int32.ofInt_eq_ofNat] at kk
  cases a with
  | zero =>
    obtain ⟨L, h4, scr, g1, g2, g3, g4, g5⟩ := hR.2.2.2.1
    have hL : n = L := by
      have := ha.symm.trans h4
      simp at this
      exact this.2
    subst hL
    exact W.alen (n := Int32.ofNat n) hx hb g1 g2 (by rw [g4] <;> rfl) rfl rfl hdg kk
  | succ k =>
    have hat := hR.2.1 k _ ha
    have ht : t < 2 := by
      rcases ht with q | q
      · exact absurd q (by omega)
      · exact q
    match t, ht with
    | 0, _ => exact va_alen (D := (dC, dI)) hx hb hR.1 (ab_one hat) 0 0 rfl rfl rfl hdg kk
    | 1, _ => exact va_alen (D := (dC, dI)) hx hb hR.1 (ab_one hat) 0 1 rfl rfl rfl hdg kk
theorem ab_s_newa {n t : Nat} {at_ : ArrayType} (hx : p.tables.exec = Jvm.exec) (hb : c.code = cc) (hts : ∀ w ∈ ab_tb, w.before args s = true) (hR : ab_R dC dI cI cZ base b h s H) (hS : va_S (fun q => base ≤ q) s.heap H locs) (hat : (at_ = .int ∧ t = 0) ∨ (at_ = .boolean ∧ t = 1)) (hn : n ≤ 100000) (hf : ∀ j, h.2 h.1.length j = 0) (hcells : cells + 1 ≤ R.cells) (hslots : slots + n ≤ R.slots) (hdg : decode cc pc = .ok (.newarray at_, 2))
    (kk : ∀ (H1 : Heap), ab_R dC dI cI cZ base b (h.1 ++ [.inr (t, n)], h.2) s H1 → va_S (fun q => base ≤ q) s.heap H1 locs → W p l e R s m args below meth c H1 locs (cells + 1) (slots + n) Q (F0 m (pc + 2) lsC (ab_rv base b (.inr h.1.length) :: rest))) : W p l e R s m args below meth c H locs cells slots Q (F0 m pc lsC (.int (Int32.ofInt (n : Int)) :: rest)) := by
  have hno : ab_ok (n : Int) := ⟨by omega, by omega⟩
  have harr : (Cond.arrayClass (newarray.typeOf at_)).before args s = true := by
    rcases hat with ⟨rfl, -⟩ | ⟨rfl, -⟩
    · exact hts _ ab_arr_int
    · exact hts _ ab_arr_boolean
  have hbase : base ≤ H.size := by
    have h1 := hR.2.2.1
    obtain ⟨L, h4, -⟩ := hR.2.2.2.1
    have := (List.getElem?_eq_some_iff.mp h4).1
    omega
  refine va_newaK hx hb harr rfl hdg rfl (fun q => ?_) (N := n) (by rw [ab_clamp hno]; omega) (by rcases hat with ⟨rfl, -⟩ | ⟨rfl, -⟩ <;> (simp [newarray.typeOf, componentBytes]; omega)) hcells hslots rfl fun H1 cA e1 z1 o1 hAr hNm => ?_
  · have := (ab_lt_iff hno ab_ok0).mp q
    omega
  · have hcA : cA = if t = 0 then cI else cZ := by
      rcases hat with ⟨rfl, rfl⟩ | ⟨rfl, rfl⟩
      · exact Option.some.inj (hNm.symm.trans (hR.1.2 0 _ rfl).2)
      · exact Option.some.inj (hNm.symm.trans (hR.1.2 1 _ rfl).2)
    obtain ⟨g1, g2, g3⟩ := hR.push (cd := .inr (t, n)) z1 o1 (by
      show H1[H.size]? = some (vp_cell (if t = 0 then cI else cZ) (n, .inl fun j => Int32.ofInt (h.2 h.1.length j)))
      rw [e1, ← hcA, vp_cell_i]
      congr 2
      funext j
      rw [hf j]
      rcases hat with ⟨rfl, -⟩ | ⟨rfl, -⟩ <;> rfl)
    have hrv : ab_rv base b (.inr h.1.length) = .ref H.size := by
      obtain ⟨k, hk⟩ : ∃ k, h.1.length = k + 1 := ⟨h.1.length - 1, by omega⟩
      rw [hk]
      show Value.ref (base + k) = _
      rw [g2, hk]
      rfl
    have kk := kk H1 g1 ⟨Nat.le_trans hS.1 (by omega), fun q h1 h2 => (o1 q (Nat.lt_of_lt_of_le h1 hS.1)).trans (hS.2.1 q h1 h2), hS.2.2⟩
    rw [hrv] at kk
    exact kk
theorem ab_s_new {ix ci N : Nat} (hx : p.tables.exec = Jvm.exec) (hb : c.code = cc) (hts : ∀ w ∈ ab_tb, w.before args s = true) (hown : s.vm.findClass own = some m.cls) (hR : ab_R dC dI cI cZ base b h s H) (hS : va_S (fun q => base ≤ q) s.heap H locs) (hC : ab_C own ix ci) (hN : ((vwCl[ci]?).map fun q => q.2.2) = some N) (hgt : ∀ k, k < N → ab_gt (ab_ty ci k) = true) (hf : ∀ j, h.2 h.1.length j = 0) (hcells : cells + 1 ≤ R.cells) (hslots : slots + N ≤ R.slots) (hdg : decode cc pc = .ok (.new ix, 3))
    (kk : ∀ (H1 : Heap), ab_R dC dI cI cZ base b (h.1 ++ [.inl (ci, List.replicate N 0)], h.2) s H1 → va_S (fun q => base ≤ q) s.heap H1 locs → W p l e R s m args below meth c H1 locs (cells + 1) (slots + N) Q (F0 m (pc + 3) lsC (ab_rv base b (.inr h.1.length) :: rest))) : W p l e R s m args below meth c H locs cells slots Q (F0 m pc lsC rest) := by
  obtain ⟨C, T, N', ⟨hc, hin, hty, hnm, hins, hini, hC⟩, hlink⟩ := hC
  rw [hc] at hN
  have hN : N' = N := Option.some.inj hN
  subst hN
  have hKn := hR.1.1 ci _ hc
  refine W.newcK hx hb hown (hts _ hlink) (hts _ hins) (hts _ hini) rfl hdg hcells hslots hKn.2.1 rfl fun H1 kC hkC e1 z1 o1 => ?_
  have hsz : ab_sz (.inl (ci, List.replicate N' 0)) = N' := by simp [ab_sz, hc]
  obtain ⟨g1, g2, g3⟩ := hR.push (cd := .inl (ci, List.replicate N' 0)) z1 o1 (by
    refine ⟨_, hc, (u_born (ab_ty ci) hts hin hKn hkC e1 hty).to (fun j hj => ?_)⟩
    rw [hsz]
    show _ = vp_V _ j
    rw [ab_vpV _ hj]
    have hg := hgt j hj
    unfold ab_fv ab_isR
    unfold ab_gt at hg
    split at hg
    · rename_i q; rw [q, hf j]; rfl
    · rename_i q; rw [q, hf j]; rfl
    · rename_i q; rw [q]; simp [ab_rf, hj, defaultValue]
    · rename_i q; rw [q]; simp [ab_rf, hj, defaultValue]
    · cases hg)
  have hrv : ab_rv base b (.inr h.1.length) = .ref H.size := by
    obtain ⟨k, hk⟩ : ∃ k, h.1.length = k + 1 := ⟨h.1.length - 1, by omega⟩
    rw [hk]
    show Value.ref (base + k) = _
    rw [g2, hk]
    rfl
  have kk := kk H1 g1 ⟨Nat.le_trans hS.1 (by omega), fun q h1 h2 => (o1 q (Nat.lt_of_lt_of_le h1 hS.1)).trans (hS.2.1 q h1 h2), hS.2.2⟩
  rw [hrv] at kk
  exact kk
end AbHt
