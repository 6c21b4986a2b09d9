/-! ===== the small machine's heap steps are the machine's ===== -/
theorem ab_vpV {n j : Nat} (g : Nat → Value) (hj : j < n) : vp_V ((List.range n).map g) j = g j := by
  simp [vp_V, List.getD, hj]
section AbHs
variable {p : Program} {l : Launch} {e : Env} {R : Room} {s : State} {m : MethodId} {args : Array Value} {below : List Frame} {meth : Method} {c : Code} {H : Heap} {locs : List Loc} {cells slots : Nat} {Q : State → Prop}
variable {cc : ByteArray} {pc : Nat} {lsC : Array Slot} {base b : Nat} {dC : Nat → ClassId} {dI : Nat → Nat → Nat} {cI cZ : Nat} {h : ab_H} {own : String} {rest : List Value}
theorem ab_one {q : Nat × va_E} {D : va_G} (hat : va_at D vwCl q H) : va_P D vwCl [q] H := by
  intro j x hj
  cases j with
  | zero => cases hj; exact hat
  | succ j => simp at hj
theorem ab_s_get {ix ci k a : Nat} {refs : List Nat} {v : Value} (hx : p.tables.exec = Jvm.exec) (hb : c.code = cc) (hts : ∀ w ∈ ab_tb, w.before args s = true) (hown : s.vm.findClass own = some m.cls) (hR : ab_R dC dI cI cZ base b h s H) (hF : ab_F own ix ci k) (ha : h.1[a]? = some (.inl (ci, refs))) (hv : ab_fv base refs (h.2 a) ci k = v) (hdg : decode cc pc = .ok (.getfield ix, 3))
    (kk : W p l e R s m args below meth c H locs cells slots Q (F0 m (pc + 3) lsC (v :: rest))) : W p l e R s m args below meth c H locs cells slots Q (F0 m pc lsC (ab_rv base b (.inr a) :: rest)) := by
  obtain ⟨k', rfl⟩ := hR.pos ha
  obtain ⟨C, T, N, ⟨hc, hin, hty, hnm, hins, hini, hC⟩, hk, hlink⟩ := hF
  have hat := hR.2.1 k' _ ha
  have hsz : ab_sz (.inl (ci, refs)) = N := by simp [ab_sz, hc]
  refine va_get (D := (dC, dI)) (C := C) (T := T) (N := N) hx hb hts hin hown hR.1 (ab_one hat) 0 rfl hc k hk (hts _ hlink) (fun x hx => by rw [hC k hk] at hx; exact hx) ?_ hdg kk
  rw [hsz, List.getElem?_map, List.getElem?_range hk, ← hv]
  rfl
theorem ab_s_putI {ix ci k a : Nat} {refs : List Nat} {z : Int} (hx : p.tables.exec = Jvm.exec) (hb : c.code = cc) (hts : ∀ w ∈ ab_tb, w.before args s = true) (hown : s.vm.findClass own = some m.cls) (hR : ab_R dC dI cI cZ base b h s H) (hS : va_S (fun q => base ≤ q) s.heap H locs) (hF : ab_F own ix ci k) (ha : h.1[a]? = some (.inl (ci, refs)))
    (hty2 : ab_ty ci k = .int ∨ (ab_ty ci k = .boolean ∧ (z = 0 ∨ z = 1))) (hfin : ((vwCl[ci]?).map fun q => (q.2.1 k).2.2.2) = some false) (hz : ab_ok z) (hdg : decode cc pc = .ok (.putfield ix, 3))
    (kk : ∀ (H1 : Heap) (locs1 : List Loc), ab_R dC dI cI cZ base b (h.1, ab_up h.2 a k z) s H1 → va_S (fun q => base ≤ q) s.heap H1 locs1 → W p l e R s m args below meth c H1 locs1 cells slots Q (F0 m (pc + 3) lsC rest)) : W p l e R s m args below meth c H locs cells slots Q (F0 m pc lsC (.int (Int32.ofInt z) :: ab_rv base b (.inr a) :: rest)) := by
  obtain ⟨k', rfl⟩ := hR.pos ha
  obtain ⟨C, T, N, ⟨hc, hin, hty, hnm, hins, hini, hC⟩, hk, hlink⟩ := hF
  rw [hc] at hfin
  have hfin : (T k).2.2.2 = false := Option.some.inj hfin
  obtain ⟨r, h1, cell, q1, q2, q3, q4⟩ := hR.2.1 k' _ ha
  have hr : r = (C, T, N) := Option.some.inj (h1.symm.trans hc)
  subst hr
  have hsz : ab_sz (.inl (ci, refs)) = N := by simp [ab_sz, hc]
  rw [hsz] at q4
  have hap := va_apart (own := own) hts hin (ab_ty ci) hty hnm hR.1 hc
  obtain ⟨hSl, hfc, kC, hkC, hkind⟩ := hR.1.1 ci _ hc
  obtain ⟨cf, kf, fi, f, hi, hsl⟩ := hSl k hk
  have hlay := hts _ (hin _ (u_in_lay hk))
  unfold u_lay at hlay
  rw [if_neg (by rw [hfin]; decide)] at hlay
  have hst := (u_facts hfc hkC (u_lays hts hin hk) hi).1
  have hnf : narrow (ab_ty ci k) (.int (Int32.ofInt z)) = .int (Int32.ofInt z) ∧ fits (ab_ty ci k) (.int (Int32.ofInt z)) = true := by
    rcases hty2 with q | ⟨q, rfl | rfl⟩ <;> rw [q] <;> exact ⟨rfl, rfl⟩
  have h6 := u_store hfc hkC hkind hlay hi (hty k hk) hnf.1 hnf.2
  have hi2 := hi
  rw [hC k hk] at hi2
  have hnR : ab_isR ci k = false := by
    unfold ab_isR
    rcases hty2 with q | ⟨q, -⟩ <;> rw [q]
  refine W.putK hx hb (f := f) ⟨hown, hts _ hlink, ⟨_, _, _, hi2⟩, hst⟩ (by rw [q2]; exact h6) q1 q3 (by rw [hsl]; exact k2_hasslot (q4 k hk)) rfl rfl hdg fun H' e1 e2 e3 => ?_
  rw [hsl] at e1 ⊢
  have hself : ab_up h.2 (k' + 1) k z (k' + 1) = ab_u1 (h.2 (k' + 1)) k z := by simp [ab_up]
  refine kk H' _ (hR.set k' (cd' := .inl (ci, refs)) rfl ha (fun _ _ => rfl) (fun a hne => by simp [ab_up, hne]) (fun j => ?_) e2 e3 ?_) (hS.put e2 e3 (Nat.le_add_right _ _))
  · rw [hself]
    unfold ab_u1
    split
    · exact hz
    · exact hR.2.2.2.2.2.1 _ _
  · refine ⟨_, hc, t_OB.to (V := updV (vp_V ((List.range N).map (ab_fv base refs (h.2 (k' + 1)) ci))) k (.int (Int32.ofInt z))) ⟨_, e1, q2, q3, t_set q4 hap hk _⟩ (fun j hj => ?_)⟩
    rw [hsz, hself]
    show _ = vp_V _ j
    rw [ab_vpV _ hj]
    by_cases hjk : j = k
    · subst hjk
      simp [updV, ab_fv, hnR, ab_u1]
    · simp only [updV, hjk, if_false]
      rw [ab_vpV _ hj]
      simp [ab_fv, ab_u1, hjk]
theorem ab_s_putR {ix ci k a r : Nat} {refs : List Nat} (hx : p.tables.exec = Jvm.exec) (hb : c.code = cc) (hts : ∀ w ∈ ab_tb, w.before args s = true) (hown : s.vm.findClass own = some m.cls) (hR : ab_R dC dI cI cZ base b h s H) (hS : va_S (fun q => base ≤ q) s.heap H locs) (hF : ab_F own ix ci k) (ha : h.1[a]? = some (.inl (ci, refs)))
    (hisR : ab_isR ci k = true) (hkr : k < refs.length) (hfin : ((vwCl[ci]?).map fun q => (q.2.1 k).2.2.2) = some true) (hcl : ((vwCl[ci]?).map fun q => q.1) = some own) (hin2 : meth.name = "<init>") (hdg : decode cc pc = .ok (.putfield ix, 3))
    (kk : ∀ (H1 : Heap) (locs1 : List Loc), ab_R dC dI cI cZ base b (h.1.set a (.inl (ci, refs.set k (r + 1))), h.2) s H1 → va_S (fun q => base ≤ q) s.heap H1 locs1 → W p l e R s m args below meth c H1 locs1 cells slots Q (F0 m (pc + 3) lsC rest)) : W p l e R s m args below meth c H locs cells slots Q (F0 m pc lsC (ab_rv base b (.inr (r + 1)) :: ab_rv base b (.inr a) :: rest)) := by
  obtain ⟨k', rfl⟩ := hR.pos ha
  obtain ⟨C, T, N, ⟨hc, hin, hty, hnm, hins, hini, hC⟩, hk, hlink⟩ := hF
  rw [hc] at hfin hcl
  have hfin : (T k).2.2.2 = true := Option.some.inj hfin
  have hcl : C = own := Option.some.inj hcl
  obtain ⟨q0, h1, cell, q1, q2, q3, q4⟩ := hR.2.1 k' _ ha
  have hr : q0 = (C, T, N) := Option.some.inj (h1.symm.trans hc)
  subst hr
  have hsz : ab_sz (.inl (ci, refs)) = N := by simp [ab_sz, hc]
  rw [hsz] at q4
  have hap := va_apart (own := own) hts hin (ab_ty ci) hty hnm hR.1 hc
  obtain ⟨hSl, hfc, kC, hkC, hkind⟩ := hR.1.1 ci _ hc
  obtain ⟨cf, kf, fi, f, hi, hsl⟩ := hSl k hk
  have hlay := hts _ (hin _ (u_in_lay hk))
  unfold u_lay at hlay
  rw [if_pos hfin] at hlay
  have hst := (u_facts hfc hkC (u_lays hts hin hk) hi).1
  have hnf : narrow (ab_ty ci k) (.ref (base + r)) = .ref (base + r) ∧ fits (ab_ty ci k) (.ref (base + r)) = true := by
    unfold ab_isR at hisR
    split at hisR
    · rename_i q; rw [q]; exact ⟨rfl, rfl⟩
    · rename_i q; rw [q]; exact ⟨rfl, rfl⟩
    · cases hisR
  have h6 := u_fits hfc hkC hkind (Or.inr hlay) hi (hty k hk) hnf.1 hnf.2
  have hi2 := hi
  rw [hC k hk] at hi2
  have hcf : m.cls = cf := by
    obtain ⟨_, _, c', _, _, _, -, -, hf', -, -, -, hown2, -⟩ := Cond.laysFinal_spec hlay
    have e1 : c' = cf := by
      have z := hi.symm.trans hf'
      simp at z
      exact z.1.symm
    rw [hC k hk, hcl] at hown2
    rw [← e1]
    exact Option.some.inj (hown.symm.trans hown2)
  refine W.putFinK hx hb hown (hts _ hlink) hi2 hst hcf hin2 (v := .ref (base + r)) (by rw [q2]; exact h6) q1 q3 (by rw [hsl]; exact k2_hasslot (q4 k hk)) rfl rfl hdg fun H' e1 e2 e3 => ?_
  rw [hsl] at e1 ⊢
  have hlt : k' + 1 < h.1.length := (List.getElem?_eq_some_iff.mp ha).1
  refine kk H' _ (hR.set k' (cd' := .inl (ci, refs.set k (r + 1))) (by simp) (by rw [List.getElem?_set_self hlt]) (fun j hj => by rw [List.getElem?_set_ne (Ne.symm hj)]) (fun a hne => rfl) (fun j => hR.2.2.2.2.2.1 _ _) e2 e3 ?_) (hS.put e2 e3 (Nat.le_add_right _ _))
  have hsz2 : ab_sz (.inl (ci, refs.set k (r + 1))) = N := by simp [ab_sz, hc]
  refine ⟨_, hc, t_OB.to (V := updV (vp_V ((List.range N).map (ab_fv base refs (h.2 (k' + 1)) ci))) k (.ref (base + r))) ⟨_, e1, q2, q3, t_set q4 hap hk _⟩ (fun j hj => ?_)⟩
  rw [hsz2]
  show _ = vp_V _ j
  rw [ab_vpV _ hj]
  by_cases hjk : j = k
  · subst hjk
    simp [updV, ab_fv, hisR, hkr, ab_rf]
  · simp only [updV, hjk, if_false]
    rw [ab_vpV _ hj]
    simp [ab_fv, List.getElem?_set_ne (Ne.symm hjk)]
end AbHs
