/-! ===== the small machine's plain steps are the machine's ===== -/
section AbPs
variable {p : Program} {l : Launch} {e : Env} {R : Room} {s : State} {m : MethodId} {args : Array Value} {below : List Frame} {meth : Method} {c : Code} {H : Heap} {locs : List Loc} {cells slots : Nat} {Q : State → Prop}
variable {cc : ByteArray} {pc : Nat} {lsC : Array Slot} {base b nL : Nat}
theorem ab_jv {pc t : Nat} {off : Int} (h : ab_j pc off = some t) : (pc : Int) + off = (t : Int) := by
  unfold ab_j at h
  split at h
  · cases h; omega
  · cases h
theorem ab_i1_some {α : Type} {st : List ab_V} {k : Int → List ab_V → Option α} {v : α} (h : ab_i1 st k = some v) : ∃ x r, st = .inl x :: r ∧ k x r = some v := by
  unfold ab_i1 at h
  split at h
  · exact ⟨_, _, rfl, h⟩
  · cases h
theorem ab_i2_some {α : Type} {st : List ab_V} {k : Int → Int → List ab_V → Option α} {v : α} (h : ab_i2 st k = some v) : ∃ x y r, st = .inl y :: .inl x :: r ∧ k x y r = some v := by
  unfold ab_i2 at h
  split at h
  · exact ⟨_, _, _, rfl, h⟩
  · cases h
theorem ab_r1_some {α : Type} {st : List ab_V} {k : Nat → List ab_V → Option α} {v : α} (h : ab_r1 st k = some v) : ∃ x r, st = .inr x :: r ∧ k x r = some v := by
  unfold ab_r1 at h
  split at h
  · exact ⟨_, _, rfl, h⟩
  · cases h
theorem ab_ldi_some {ls : ab_L} {k : Nat} {f : Int → Option ab_T} {v : ab_T} (h : ab_ldi ls k f = some v) : ∃ z, ls[k]? = some (some (.inl z)) ∧ f z = some v := by
  unfold ab_ldi at h
  split at h
  · exact ⟨_, by assumption, h⟩
  · cases h
theorem ab_ldr_some {ls : ab_L} {k : Nat} {f : Nat → Option ab_T} {v : ab_T} (h : ab_ldr ls k f = some v) : ∃ z, ls[k]? = some (some (.inr z)) ∧ f z = some v := by
  unfold ab_ldr at h
  split at h
  · exact ⟨_, by assumption, h⟩
  · cases h
theorem ab_bin_some {f : Int32 → Int32 → Int32} {len pc : Nat} {ls : ab_L} {st : List ab_V} {v : ab_T} (h : ab_bin f len pc ls st = some v) : ∃ x y r, len = 1 ∧ st = .inl y :: .inl x :: r ∧ v = (pc + 1, ls, .inl (ab_b f x y) :: r) := by
  unfold ab_bin at h
  split at h
  · obtain ⟨x, y, r, h1, h2⟩ := ab_i2_some h
    cases h2
    exact ⟨x, y, r, by assumption, h1, rfl⟩
  · cases h
theorem ab_bv {f : Int32 → Int32 → Int32} (x y : Int) : Int32.ofInt (ab_b f x y) = f (Int32.ofInt x) (Int32.ofInt y) := by
  unfold ab_b
  exact Int32.ofInt_toInt _
theorem ab_bok {f : Int32 → Int32 → Int32} (x y : Int) : ab_ok (ab_b f x y) := ab_ok_toInt _
theorem ab_rvr (k : Nat) : ∃ a : Nat, ab_rv base b (.inr k) = .ref a := by
  cases k with
  | zero => exact ⟨_, rfl⟩
  | succ k => exact ⟨_, rfl⟩
theorem ab_okc {v : ab_V} {st : List ab_V} (hv : ab_okv v) (h : ∀ v ∈ st, ab_okv v) : ∀ w ∈ v :: st, ab_okv w := fun w hw => (List.mem_cons.mp hw).elim (fun q => by rw [q]; exact hv) (h w)
theorem ab_cmp_sound {cnd : Jvm.ClassFile.Cond} {x y : Int} {off : Int} {tgt : Nat} {rest : List Value} (hexec : p.tables.exec = Jvm.exec) (hb : c.code = cc) (hx : ab_ok x) (hy : ab_ok y) (hdg : decode cc pc = .ok (.if_icmp cnd off, 3)) (hz : (pc : Int) + off = (tgt : Int))
    (kk : W p l e R s m args below meth c H locs cells slots Q (F0 m (if ab_cmp cnd x y = true then tgt else pc + 3) lsC rest)) : W p l e R s m args below meth c H locs cells slots Q (F0 m pc lsC (.int (Int32.ofInt y) :: .int (Int32.ofInt x) :: rest)) := by
  have kt : ab_cmp cnd x y = true → W p l e R s m args below meth c H locs cells slots Q (F0 m tgt lsC rest) := fun q => by rw [if_pos q] at kk; exact kk
  have kf : ¬ ab_cmp cnd x y = true → W p l e R s m args below meth c H locs cells slots Q (F0 m (pc + 3) lsC rest) := fun q => by rw [if_neg q] at kk; exact kk
  cases cnd with
  | eq => exact lv_icmp_eq hexec hb hdg hz (fun q => kt (decide_eq_true ((ab_eq_iff hx hy).mp q))) (fun q => kf (fun z => q ((ab_eq_iff hx hy).mpr (of_decide_eq_true z))))
  | ne => exact lv_icmp_ne hexec hb hdg hz (fun q => kt (decide_eq_true (fun z => q ((ab_eq_iff hx hy).mpr z)))) (fun q => kf (fun z => (of_decide_eq_true z) ((ab_eq_iff hx hy).mp q)))
  | lt => exact lv_icmp_lt hexec hb hdg hz (fun q => kt (decide_eq_true ((ab_lt_iff hx hy).mp q))) (fun q => kf (fun z => q ((ab_lt_iff hx hy).mpr (of_decide_eq_true z))))
  | ge => exact lv_icmp_ge hexec hb hdg hz (fun q => kt (decide_eq_true ((ab_le_iff hy hx).mp q))) (fun q => kf (fun z => q ((ab_le_iff hy hx).mpr (of_decide_eq_true z))))
  | gt => exact lv_icmp_gt hexec hb hdg hz (fun q => kt (decide_eq_true ((ab_lt_iff hy hx).mp q))) (fun q => kf (fun z => q ((ab_lt_iff hy hx).mpr (of_decide_eq_true z))))
  | le => exact lv_icmp_le hexec hb hdg hz (fun q => kt (decide_eq_true ((ab_le_iff hx hy).mp q))) (fun q => kf (fun z => q ((ab_le_iff hx hy).mpr (of_decide_eq_true z))))
theorem ab_if_sound {cnd : Jvm.ClassFile.Cond} {x : Int} {off : Int} {tgt : Nat} {rest : List Value} (hexec : p.tables.exec = Jvm.exec) (hb : c.code = cc) (hx : ab_ok x) (hdg : decode cc pc = .ok (.ifCond cnd off, 3)) (hz : (pc : Int) + off = (tgt : Int))
    (kk : W p l e R s m args below meth c H locs cells slots Q (F0 m (if ab_cmp cnd x 0 = true then tgt else pc + 3) lsC rest)) : W p l e R s m args below meth c H locs cells slots Q (F0 m pc lsC (.int (Int32.ofInt x) :: rest)) := by
  have kt : ab_cmp cnd x 0 = true → W p l e R s m args below meth c H locs cells slots Q (F0 m tgt lsC rest) := fun q => by rw [if_pos q] at kk; exact kk
  have kf : ¬ ab_cmp cnd x 0 = true → W p l e R s m args below meth c H locs cells slots Q (F0 m (pc + 3) lsC rest) := fun q => by rw [if_neg q] at kk; exact kk
  have hy := ab_ok0
  cases cnd with
  | eq => exact lv_if_eq hexec hb hdg hz (fun q => kt (decide_eq_true ((ab_eq_iff hx hy).mp q))) (fun q => kf (fun z => q ((ab_eq_iff hx hy).mpr (of_decide_eq_true z))))
  | ne => exact lv_if_ne hexec hb hdg hz (fun q => kt (decide_eq_true (fun z => q ((ab_eq_iff hx hy).mpr z)))) (fun q => kf (fun z => (of_decide_eq_true z) ((ab_eq_iff hx hy).mp q)))
  | lt => exact lv_if_lt hexec hb hdg hz (fun q => kt (decide_eq_true ((ab_lt_iff hx hy).mp q))) (fun q => kf (fun z => q ((ab_lt_iff hx hy).mpr (of_decide_eq_true z))))
  | ge => exact lv_if_ge hexec hb hdg hz (fun q => kt (decide_eq_true ((ab_le_iff hy hx).mp q))) (fun q => kf (fun z => q ((ab_le_iff hy hx).mpr (of_decide_eq_true z))))
  | gt => exact lv_if_gt hexec hb hdg hz (fun q => kt (decide_eq_true ((ab_lt_iff hy hx).mp q))) (fun q => kf (fun z => q ((ab_lt_iff hy hx).mpr (of_decide_eq_true z))))
  | le => exact lv_if_le hexec hb hdg hz (fun q => kt (decide_eq_true ((ab_le_iff hx hy).mp q))) (fun q => kf (fun z => q ((ab_le_iff hx hy).mpr (of_decide_eq_true z))))
set_option maxHeartbeats 4000000 in
theorem ab_ps_sound {i : Instr} {len pc1 : Nat} {ls ls1 : ab_L} {st st1 : List ab_V} (hps : ab_ps i len pc ls st = some (pc1, ls1, st1)) (hexec : p.tables.exec = Jvm.exec) (hb : c.code = cc) (hdg : decode cc pc = .ok (i, len)) (hF : ab_fr base b nL lsC ls st)
    (kk : ∀ lsC1 : Array Slot, ab_fr base b nL lsC1 ls1 st1 → W p l e R s m args below meth c H locs cells slots Q (F0 m pc1 lsC1 (st1.map (ab_rv base b)))) : W p l e R s m args below meth c H locs cells slots Q (F0 m pc lsC (st.map (ab_rv base b))) := by
  obtain ⟨hl, hlen, hokl, hoks⟩ := hF
  unfold ab_ps at hps
  split at hps
  · -- iconst
    split at hps
    · rename_i z hc
      cases hps
      obtain ⟨rfl, h1, h2⟩ := hc
      exact lv_iconst hexec hb hdg rfl (kk _ ⟨hl, hlen, hokl, ab_okc (v := .inl z) ⟨by omega, by omega⟩ hoks⟩)
    · cases hps
  · -- bipush
    split at hps
    · rename_i z hc
      cases hps
      obtain ⟨rfl, h1, h2⟩ := hc
      refine lv_bipush hexec hb hdg ?_ (kk _ ⟨hl, hlen, hokl, ab_okc (v := .inl z) ⟨by omega, by omega⟩ hoks⟩)
      rw [← Int32.toInt_inj, Int8.toInt_toInt32, Int8.toInt_ofInt_of_le (by omega) (by omega), ab_toInt ⟨by omega, by omega⟩]
    · cases hps
  · -- sipush
    split at hps
    · rename_i z hc
      cases hps
      obtain ⟨rfl, h1, h2⟩ := hc
      refine lv_sipush hexec hb hdg ?_ (kk _ ⟨hl, hlen, hokl, ab_okc (v := .inl z) ⟨by omega, by omega⟩ hoks⟩)
      rw [← Int32.toInt_inj, Int16.toInt_toInt32, Int16.toInt_ofInt_of_le (by omega) (by omega), ab_toInt ⟨by omega, by omega⟩]
    · cases hps
  · -- iload_n
    split at hps
    · rename_i hc
      subst hc
      obtain ⟨z, h1, h2⟩ := ab_ldi_some hps
      cases h2
      exact lv_iload_n hexec hb hdg rfl (ab_lv_at hl h1) (kk _ ⟨hl, hlen, hokl, ab_okc (hokl _ (List.mem_of_getElem? h1)) hoks⟩)
    · cases hps
  · -- iload
    split at hps
    · rename_i hc
      subst hc
      obtain ⟨z, h1, h2⟩ := ab_ldi_some hps
      cases h2
      exact lv_iload hexec hb hdg (ab_lv_at hl h1) (kk _ ⟨hl, hlen, hokl, ab_okc (hokl _ (List.mem_of_getElem? h1)) hoks⟩)
    · cases hps
  · -- aload_n
    split at hps
    · rename_i hc
      subst hc
      obtain ⟨z, h1, h2⟩ := ab_ldr_some hps
      cases h2
      have kk := kk _ ⟨hl, hlen, hokl, ab_okc (hokl _ (List.mem_of_getElem? h1)) hoks⟩
      have hv := ab_lv_at hl h1
      obtain ⟨a, ha⟩ := ab_rvr (base := base) (b := b) z
      rw [List.map_cons, ha] at kk
      rw [ha] at hv
      exact lv_aload_n hexec hb hdg rfl hv kk
    · cases hps
  · -- aload
    split at hps
    · rename_i hc
      subst hc
      obtain ⟨z, h1, h2⟩ := ab_ldr_some hps
      cases h2
      have kk := kk _ ⟨hl, hlen, hokl, ab_okc (hokl _ (List.mem_of_getElem? h1)) hoks⟩
      have hv := ab_lv_at hl h1
      obtain ⟨a, ha⟩ := ab_rvr (base := base) (b := b) z
      rw [List.map_cons, ha] at kk
      rw [ha] at hv
      exact lv_aload hexec hb hdg hv kk
    · cases hps
  · -- istore_n
    split at hps
    · rename_i hc
      obtain ⟨rfl, hk⟩ := hc
      obtain ⟨z, r, rfl, h2⟩ := ab_i1_some hps
      cases h2
      refine lv_istore_n hexec hb hdg rfl hl (by rw [← hlen]; exact hk) rfl (fun ls' hl' => kk ls' ⟨ab_lv_set (v := .inl z) hk hl', by rw [List.length_set]; exact hlen, ab_okset hokl (hoks _ List.mem_cons_self), fun v hv => hoks v (List.mem_cons_of_mem _ hv)⟩)
    · cases hps
  · -- istore
    split at hps
    · rename_i hc
      obtain ⟨rfl, hk⟩ := hc
      obtain ⟨z, r, rfl, h2⟩ := ab_i1_some hps
      cases h2
      refine lv_istore hexec hb hdg hl (by rw [← hlen]; exact hk) rfl (fun ls' hl' => kk ls' ⟨ab_lv_set (v := .inl z) hk hl', by rw [List.length_set]; exact hlen, ab_okset hokl (hoks _ List.mem_cons_self), fun v hv => hoks v (List.mem_cons_of_mem _ hv)⟩)
    · cases hps
  · -- astore_n
    split at hps
    · rename_i hc
      obtain ⟨rfl, hk⟩ := hc
      obtain ⟨z, r, rfl, h2⟩ := ab_r1_some hps
      cases h2
      obtain ⟨a, ha⟩ := ab_rvr (base := base) (b := b) z
      rw [List.map_cons, ha]
      refine lv_astore_n hexec hb hdg rfl hl (by rw [← hlen]; exact hk) rfl (fun ls' hl' => kk ls' ⟨ab_lv_set (v := .inr z) hk (by rw [ha]; exact hl'), by rw [List.length_set]; exact hlen, ab_okset hokl (hoks _ List.mem_cons_self), fun v hv => hoks v (List.mem_cons_of_mem _ hv)⟩)
    · cases hps
  · -- astore
    split at hps
    · rename_i hc
      obtain ⟨rfl, hk⟩ := hc
      obtain ⟨z, r, rfl, h2⟩ := ab_r1_some hps
      cases h2
      obtain ⟨a, ha⟩ := ab_rvr (base := base) (b := b) z
      rw [List.map_cons, ha]
      refine lv_astore hexec hb hdg hl (by rw [← hlen]; exact hk) rfl (fun ls' hl' => kk ls' ⟨ab_lv_set (v := .inr z) hk (by rw [ha]; exact hl'), by rw [List.length_set]; exact hlen, ab_okset hokl (hoks _ List.mem_cons_self), fun v hv => hoks v (List.mem_cons_of_mem _ hv)⟩)
    · cases hps
  · -- iinc
    split at hps
    · rename_i k n hc
      subst hc
      obtain ⟨z, h1, h2⟩ := ab_ldi_some hps
      cases h2
      have hk : k < ls.length := (List.getElem?_eq_some_iff.mp h1).1
      obtain ⟨j, hj⟩ := List.getElem?_of_mem (ab_lvs_mem.mpr ⟨_, h1, rfl⟩ : ((k, ab_rv base b (.inl z)) : Nat × Value) ∈ ab_lvs base b ls)
      exact lv_iinc hexec hb hdg hl hj (v := Int32.ofInt (ab_b (fun a b => a + b) z n)) (ab_bv z n).symm (by rw [← hlen]; exact hk) rfl (fun ls' hl' => kk ls' ⟨ab_lv_set (v := .inl (ab_b (fun a b => a + b) z n)) hk hl', by rw [List.length_set]; exact hlen, ab_okset hokl (ab_bok _ _), hoks⟩)
    · cases hps
  · obtain ⟨x, y, r, rfl, rfl, h⟩ := ab_bin_some hps
    cases h
    exact lv_iadd hexec hb hdg (by rw [← ab_bv (f := fun a b => a + b)]; exact kk _ ⟨hl, hlen, hokl, ab_okc (ab_bok x y) fun v hv => hoks v (List.mem_cons_of_mem _ (List.mem_cons_of_mem _ hv))⟩)
  · obtain ⟨x, y, r, rfl, rfl, h⟩ := ab_bin_some hps
    cases h
    exact lv_isub hexec hb hdg (by rw [← ab_bv (f := fun a b => a - b)]; exact kk _ ⟨hl, hlen, hokl, ab_okc (ab_bok x y) fun v hv => hoks v (List.mem_cons_of_mem _ (List.mem_cons_of_mem _ hv))⟩)
  · obtain ⟨x, y, r, rfl, rfl, h⟩ := ab_bin_some hps
    cases h
    exact lv_imul hexec hb hdg (by rw [← ab_bv (f := fun a b => a * b)]; exact kk _ ⟨hl, hlen, hokl, ab_okc (ab_bok x y) fun v hv => hoks v (List.mem_cons_of_mem _ (List.mem_cons_of_mem _ hv))⟩)
  · obtain ⟨x, y, r, rfl, rfl, h⟩ := ab_bin_some hps
    cases h
    exact lv_iand hexec hb hdg (by rw [← ab_bv (f := fun a b => a &&& b)]; exact kk _ ⟨hl, hlen, hokl, ab_okc (ab_bok x y) fun v hv => hoks v (List.mem_cons_of_mem _ (List.mem_cons_of_mem _ hv))⟩)
  · obtain ⟨x, y, r, rfl, rfl, h⟩ := ab_bin_some hps
    cases h
    exact lv_ior hexec hb hdg (by rw [← ab_bv (f := fun a b => a ||| b)]; exact kk _ ⟨hl, hlen, hokl, ab_okc (ab_bok x y) fun v hv => hoks v (List.mem_cons_of_mem _ (List.mem_cons_of_mem _ hv))⟩)
  · obtain ⟨x, y, r, rfl, rfl, h⟩ := ab_bin_some hps
    cases h
    exact lv_ixor hexec hb hdg (by rw [← ab_bv (f := fun a b => a ^^^ b)]; exact kk _ ⟨hl, hlen, hokl, ab_okc (ab_bok x y) fun v hv => hoks v (List.mem_cons_of_mem _ (List.mem_cons_of_mem _ hv))⟩)
  · obtain ⟨x, y, r, rfl, rfl, h⟩ := ab_bin_some hps
    cases h
    exact lv_ishl hexec hb hdg (by rw [← ab_bv (f := fun a b => a <<< (b &&& 31))]; exact kk _ ⟨hl, hlen, hokl, ab_okc (ab_bok x y) fun v hv => hoks v (List.mem_cons_of_mem _ (List.mem_cons_of_mem _ hv))⟩)
  · obtain ⟨x, y, r, rfl, rfl, h⟩ := ab_bin_some hps
    cases h
    exact lv_ishr hexec hb hdg (by rw [← ab_bv (f := fun a b => a >>> (b &&& 31))]; exact kk _ ⟨hl, hlen, hokl, ab_okc (ab_bok x y) fun v hv => hoks v (List.mem_cons_of_mem _ (List.mem_cons_of_mem _ hv))⟩)
  · -- idiv
    split at hps
    · rename_i hc
      subst hc
      obtain ⟨x, y, r, rfl, h⟩ := ab_i2_some hps
      split at h
      · cases h
      · rename_i hy
        cases h
        exact lv_idiv hexec hb hdg (fun q => hy ((ab_eq_iff (hoks (.inl y) List.mem_cons_self) ab_ok0).mp q)) (by rw [← ab_bv (f := fun a b => a / b)]; exact kk _ ⟨hl, hlen, hokl, ab_okc (ab_bok x y) fun v hv => hoks v (List.mem_cons_of_mem _ (List.mem_cons_of_mem _ hv))⟩)
    · cases hps
  · -- irem
    split at hps
    · rename_i hc
      subst hc
      obtain ⟨x, y, r, rfl, h⟩ := ab_i2_some hps
      split at h
      · cases h
      · rename_i hy
        cases h
        exact lv_irem hexec hb hdg (fun q => hy ((ab_eq_iff (hoks (.inl y) List.mem_cons_self) ab_ok0).mp q)) (by rw [← ab_bv (f := fun a b => a - a / b * b)]; exact kk _ ⟨hl, hlen, hokl, ab_okc (ab_bok x y) fun v hv => hoks v (List.mem_cons_of_mem _ (List.mem_cons_of_mem _ hv))⟩)
    · cases hps
  · -- dup
    split at hps
    · rename_i hc
      subst hc
      split at hps
      · rename_i v r
        cases hps
        exact lv_dup hexec hb hdg (ab_rv_cat _ _ v) (kk _ ⟨hl, hlen, hokl, ab_okc (hoks v List.mem_cons_self) hoks⟩)
      · cases hps
    · cases hps
  · -- dup2
    split at hps
    · rename_i hc
      subst hc
      split at hps
      · rename_i v w r
        cases hps
        exact lv_dup2_11 hexec hb hdg (ab_rv_cat _ _ v) (ab_rv_cat _ _ w) (kk _ ⟨hl, hlen, hokl, ab_okc (hoks v List.mem_cons_self) (ab_okc (hoks w (List.mem_cons_of_mem _ List.mem_cons_self)) hoks)⟩)
      · cases hps
    · cases hps
  · -- ifCond
    split at hps
    · rename_i cnd off hc
      subst hc
      obtain ⟨x, r, rfl, h⟩ := ab_i1_some hps
      cases hj : ab_j pc off with
      | none => rw [hj] at h; cases h
      | some t =>
        rw [hj] at h
        cases h
        exact ab_if_sound hexec hb (hoks (.inl x) List.mem_cons_self) hdg (ab_jv hj) (kk _ ⟨hl, hlen, hokl, fun v hv => hoks v (List.mem_cons_of_mem _ hv)⟩)
    · cases hps
  · -- if_icmp
    split at hps
    · rename_i cnd off hc
      subst hc
      obtain ⟨x, y, r, rfl, h⟩ := ab_i2_some hps
      cases hj : ab_j pc off with
      | none => rw [hj] at h; cases h
      | some t =>
        rw [hj] at h
        cases h
        exact ab_cmp_sound hexec hb (hoks (.inl x) (List.mem_cons_of_mem _ List.mem_cons_self)) (hoks (.inl y) List.mem_cons_self) hdg (ab_jv hj) (kk _ ⟨hl, hlen, hokl, fun v hv => hoks v (List.mem_cons_of_mem _ (List.mem_cons_of_mem _ hv))⟩)
    · cases hps
  · -- goto
    split at hps
    · rename_i off hc
      subst hc
      cases hj : ab_j pc off with
      | none => rw [hj] at hps; cases hps
      | some t =>
        rw [hj] at hps
        cases hps
        exact lv_goto hexec hb hdg (ab_jv hj) (kk _ ⟨hl, hlen, hokl, hoks⟩)
    · cases hps
  · -- tableswitch
    rename_i d lo hi offs
    obtain ⟨x, r, rfl, h⟩ := ab_i1_some hps
    have hx : (Int32.ofInt x).toInt = x := ab_toInt (hoks (.inl x) List.mem_cons_self)
    split at h
    · rename_i hc
      cases hj : ab_j pc d with
      | none => rw [hj] at h; cases h
      | some t =>
        rw [hj] at h
        cases h
        exact lv_tableOut hexec hb hdg (by rw [hx]; exact hc) (ab_jv hj) (kk _ ⟨hl, hlen, hokl, fun v hv => hoks v (List.mem_cons_of_mem _ hv)⟩)
    · rename_i hc
      cases ho : offs[(x - lo).toNat]? with
      | none => rw [ho] at h; cases h
      | some o =>
        rw [ho] at h
        cases hj : ab_j pc o with
        | none => simp [hj] at h
        | some t =>
          simp only [Option.bind_some, hj, Option.map_some] at h
          cases h
          exact lv_tableIn hexec hb hdg (by rw [hx]; omega) (by rw [hx]; omega) (by rw [hx]; exact ho) (ab_jv hj) (kk _ ⟨hl, hlen, hokl, fun v hv => hoks v (List.mem_cons_of_mem _ hv)⟩)
  · cases hps
end AbPs
