/-! ===== how the small machine's heap lies in the machine's ===== -/
def ab_rv (base b : Nat) : ab_V → Value
  | .inl z => .int (Int32.ofInt z)
  | .inr 0 => .ref b
  | .inr (k + 1) => .ref (base + k)
def ab_okv : ab_V → Prop
  | .inl z => ab_ok z
  | .inr _ => True
theorem ab_rv_cat (base b : Nat) (v : ab_V) : (ab_rv base b v).category = 1 := by
  match v with
  | .inl z => rfl
  | .inr 0 => rfl
  | .inr (k + 1) => rfl
theorem ab_toInt {z : Int} (h : ab_ok z) : (Int32.ofInt z).toInt = z := Int32.toInt_ofInt_of_le (by have := h.1; omega) (by have := h.2; omega)
theorem ab_ok_toInt (x : Int32) : ab_ok x.toInt := ⟨by have := Int32.le_toInt x; omega, by have := Int32.toInt_lt x; omega⟩
theorem ab_eq_iff {x y : Int} (hx : ab_ok x) (hy : ab_ok y) : Int32.ofInt x = Int32.ofInt y ↔ x = y := by
  rw [← Int32.toInt_inj, ab_toInt hx, ab_toInt hy]
theorem ab_lt_iff {x y : Int} (hx : ab_ok x) (hy : ab_ok y) : Int32.ofInt x < Int32.ofInt y ↔ x < y := by
  rw [Int32.lt_iff_toInt_lt, ab_toInt hx, ab_toInt hy]
theorem ab_le_iff {x y : Int} (hx : ab_ok x) (hy : ab_ok y) : Int32.ofInt x ≤ Int32.ofInt y ↔ x ≤ y := by
  rw [Int32.le_iff_toInt_le, ab_toInt hx, ab_toInt hy]
theorem ab_ok0 : ab_ok 0 := ⟨by decide, by decide⟩
theorem ab_zero : Int32.ofInt 0 = 0 := rfl
theorem ab_clamp {x : Int} (h : ab_ok x) : (Int32.ofInt x).toNatClampNeg = x.toNat := by
  show (Int32.ofInt x).toInt.toNat = _
  rw [ab_toInt h]
theorem ab_vin {x : Int} {n : Nat} (h : ab_ok x) (h0 : 0 ≤ x) (hn : x < n) : vp_in (Int32.ofInt x) n := by
  intro q
  rcases q with q | q
  · have := (ab_lt_iff h ab_ok0).mp q
    omega
  · rw [ab_clamp h] at q
    omega
def ab_rf (base r : Nat) : Value := match r with
  | 0 => .null
  | r + 1 => .ref (base + r)
def ab_fv (base : Nat) (refs : List Nat) (f : Nat → Int) (ci k : Nat) : Value := if ab_isR ci k = true then ab_rf base (refs.getD k 0) else .int (Int32.ofInt (f k))
def ab_ce (cI cZ base : Nat) (c : ab_CD) (f : Nat → Int) : va_E := match c with
  | .inl (ci, refs) => .inr (ci, (List.range (ab_sz (.inl (ci, refs)))).map (ab_fv base refs f ci))
  | .inr (t, n) => .inl (if t = 0 then cI else cZ, n, .inl fun j => Int32.ofInt (f j))
def ab_NW (U : State) : Prop := ∀ w ∈ ab_nl, va_Nw w U
theorem ab_NW.warm {s U : State} (hW : s.WarmedH U.vm) (h : ab_NW s) : ab_NW U := by
  intro w hw
  have h1 := h w hw
  simp only [ab_nl, List.mem_cons, List.not_mem_nil, or_false] at hw
  rcases hw with rfl | rfl | rfl | rfl <;> exact va_Nw.warmM hW h1
theorem ab_NW.same {u U : State} (h : u.vm = U.vm) (hn : ab_NW u) : ab_NW U := by
  intro w hw
  have h1 := hn w hw
  simp only [ab_nl, List.mem_cons, List.not_mem_nil, or_false] at hw
  rcases hw with rfl | rfl | rfl | rfl <;> exact va_Nw.same rfl h h1
def ab_R (dC : Nat → ClassId) (dI : Nat → Nat → Nat) (cI cZ base b : Nat) (h : ab_H) (U : State) (H : Heap) : Prop :=
  va_K (dC, dI) vwCl [(cI, .int), (cZ, .boolean)] U ∧
  (∀ (k : Nat) (cd : ab_CD), h.1[k + 1]? = some cd → va_at (dC, dI) vwCl (base + k, ab_ce cI cZ base cd (h.2 (k + 1))) H) ∧
  H.size + 1 = base + h.1.length ∧
  (∃ L : Nat, h.1[0]? = some (.inr (0, L)) ∧ va_X b L (fun j => Int32.ofInt (h.2 0 j)) U H) ∧
  b < base ∧ (∀ a k, ab_ok (h.2 a k)) ∧ ab_NW U
section AbRel
variable {dC : Nat → ClassId} {dI : Nat → Nat → Nat} {cI cZ base b : Nat} {h : ab_H} {s U : State} {H H' : Heap}
theorem ab_R.to (hR : ab_R dC dI cI cZ base b h s H) (hvm : s.vm.Alike U.vm) (hn : ab_NW U) : ab_R dC dI cI cZ base b h U H := by
  obtain ⟨h1, h2, h3, ⟨L, h4, h5⟩, h6, h7, h8⟩ := hR
  exact ⟨va_K.moved hvm h1, h2, h3, ⟨L, h4, h5.moved hvm⟩, h6, h7, hn⟩
theorem ab_R.warm (hR : ab_R dC dI cI cZ base b h s H) (hW : s.WarmedH U.vm) : ab_R dC dI cI cZ base b h U H := hR.to hW.alike (ab_NW.warm hW hR.2.2.2.2.2.2)
theorem ab_R.pos (hR : ab_R dC dI cI cZ base b h s H) {a : Nat} {q : Nat × List Nat} (ha : h.1[a]? = some (.inl q)) : ∃ k, a = k + 1 := by
  obtain ⟨-, -, -, ⟨L, h4, -⟩, -⟩ := hR
  cases a with
  | zero => rw [h4] at ha; cases ha
  | succ k => exact ⟨k, rfl⟩
theorem ab_R.set (hR : ab_R dC dI cI cZ base b h s H) {lay' : List ab_CD} {M' : Nat → Nat → Int} (k : Nat) {cd' : ab_CD} (h0 : lay'.length = h.1.length) (h1 : lay'[k + 1]? = some cd') (h2 : ∀ j, j ≠ k + 1 → lay'[j]? = h.1[j]?) (h3 : ∀ a, a ≠ k + 1 → M' a = h.2 a) (hok : ∀ j, ab_ok (M' (k + 1) j))
    (hz : H'.size = H.size) (ho : ∀ q, q ≠ base + k → H'[q]? = H[q]?) (hat : va_at (dC, dI) vwCl (base + k, ab_ce cI cZ base cd' (M' (k + 1))) H') : ab_R dC dI cI cZ base b (lay', M') s H' := by
  obtain ⟨r1, r2, r3, ⟨L, r4, r5⟩, r6, r7, r8⟩ := hR
  refine ⟨r1, fun j cd hj => ?_, by rw [hz, r3, h0], ⟨L, by rw [h2 0 (by omega)]; exact r4, ?_⟩, r6, fun a j => ?_, r8⟩
  · by_cases hjk : j = k
    · subst hjk
      rw [h1] at hj
      cases hj
      exact hat
    · have hj' : h.1[j + 1]? = some cd := by rw [← h2 (j + 1) (by omega)]; exact hj
      have := r2 j cd hj'
      show va_at _ _ (base + j, ab_ce cI cZ base cd (M' (j + 1))) H'
      rw [h3 (j + 1) (by omega)]
      exact this.kept (ho (base + j) (by omega))
  · show va_X b L (fun j => Int32.ofInt (M' 0 j)) s H'
    rw [h3 0 (by omega)]
    exact r5.kept (ho b (by omega))
  · by_cases ha : a = k + 1
    · subst ha; exact hok j
    · show ab_ok (M' a j)
      rw [h3 a ha]
      exact r7 a j
theorem ab_R.push (hR : ab_R dC dI cI cZ base b h s H) {cd : ab_CD} (hz : H'.size = H.size + 1) (ho : ∀ q, q < H.size → H'[q]? = H[q]?) (hat : va_at (dC, dI) vwCl (H.size, ab_ce cI cZ base cd (h.2 h.1.length)) H') : ab_R dC dI cI cZ base b (h.1 ++ [cd], h.2) s H' ∧ H.size = base + (h.1.length - 1) ∧ 1 ≤ h.1.length := by
  obtain ⟨r1, r2, r3, ⟨L, r4, r5⟩, r6, r7, r8⟩ := hR
  have hl : 0 < h.1.length := (List.getElem?_eq_some_iff.mp r4).1
  have hs : H.size = base + (h.1.length - 1) := by omega
  refine ⟨⟨r1, fun j c hj => ?_, by simp; omega, ⟨L, by rw [List.getElem?_append_left hl]; exact r4, r5.kept (ho b (by omega))⟩, r6, r7, r8⟩, hs, hl⟩
  by_cases hjl : j + 1 < h.1.length
  · have hj' : h.1[j + 1]? = some c := by rw [← List.getElem?_append_left (l₂ := [cd]) hjl]; exact hj
    exact (r2 j c hj').kept (ho (base + j) (by omega))
  · have hlen : j + 1 < h.1.length + 1 := by
      have := (List.getElem?_eq_some_iff.mp hj).1
      simpa using this
    have hj2 : j + 1 = h.1.length := by omega
    have hj' : (h.1 ++ [cd])[j + 1]? = some cd := by rw [hj2]; simp
    have hc : some c = some cd := hj.symm.trans hj'
    cases hc
    have : base + j = H.size := by omega
    rw [this]
    show va_at _ _ (H.size, ab_ce cI cZ base cd (h.2 (j + 1))) H'
    rw [hj2]
    exact hat
end AbRel
/-! ===== the locals ===== -/
def ab_lvs (base b : Nat) (ls : ab_L) : List (Nat × Value) := (List.range ls.length).filterMap fun i => match ls[i]? with
  | some (some v) => some (i, ab_rv base b v)
  | _ => none
theorem ab_lvs_mem {base b : Nat} {ls : ab_L} {q : Nat × Value} : q ∈ ab_lvs base b ls ↔ ∃ (v : ab_V), ls[q.1]? = some (some v) ∧ q.2 = ab_rv base b v := by
  unfold ab_lvs
  rw [List.mem_filterMap]
  constructor
  · rintro ⟨i, hi, h⟩
    split at h
    · rename_i v hv
      cases h
      exact ⟨v, hv, rfl⟩
    · cases h
  · rintro ⟨v, h1, h2⟩
    refine ⟨q.1, List.mem_range.mpr (List.getElem?_eq_some_iff.mp h1).1, ?_⟩
    rw [h1]
    show some (q.1, ab_rv base b v) = some q
    rw [← h2]
theorem ab_lv_at {base b nL : Nat} {lsC : Array Slot} {ls : ab_L} (hl : lv_has lsC nL (ab_lvs base b ls)) {k : Nat} {v : ab_V} (hk : ls[k]? = some (some v)) : lsC[k]? = some (.val (ab_rv base b v)) :=
  hl.2.2 (k, ab_rv base b v) (ab_lvs_mem.mpr ⟨v, hk, rfl⟩)
theorem ab_lv_set {base b nL : Nat} {lsC : Array Slot} {ls : ab_L} {i : Nat} {v : ab_V} (hi : i < ls.length) (hl : lv_has lsC nL ((i, ab_rv base b v) :: (ab_lvs base b ls).filter (fun q => !(q.1 == i) && !(q.1 + 1 == i && q.2.category == 2)))) : lv_has lsC nL (ab_lvs base b (ls.set i (some v))) := by
  refine ⟨hl.1, hl.2.1, fun q hq => hl.2.2 q ?_⟩
  obtain ⟨w, h1, h2⟩ := ab_lvs_mem.mp hq
  by_cases hqi : q.1 = i
  · rw [hqi, List.getElem?_set_self hi] at h1
    cases h1
    rw [List.mem_cons]
    left
    obtain ⟨a, c⟩ := q
    cases hqi
    cases h2
    rfl
  · rw [List.getElem?_set_ne (Ne.symm hqi)] at h1
    rw [List.mem_cons]
    right
    refine List.mem_filter.mpr ⟨ab_lvs_mem.mpr ⟨w, h1, h2⟩, ?_⟩
    rw [h2, ab_rv_cat]
    simp [hqi]
/-- a frame of the small machine: its locals, and what is known of its numbers -/
def ab_fr (base b nL : Nat) (lsC : Array Slot) (ls : ab_L) (st : List ab_V) : Prop :=
  lv_has lsC nL (ab_lvs base b ls) ∧ ls.length = nL ∧ (∀ v, some v ∈ ls → ab_okv v) ∧ ∀ v ∈ st, ab_okv v
theorem ab_cats (base b : Nat) (st : List ab_V) : ((st.map (ab_rv base b)).map fun v => v.category).sum = st.length := by
  induction st with
  | nil => rfl
  | cons v r ih => simp only [List.map_cons, List.sum_cons, ih, ab_rv_cat, List.length_cons]; omega
theorem ab_okset {ls : ab_L} {i : Nat} {v : ab_V} (h : ∀ v, some v ∈ ls → ab_okv v) (hv : ab_okv v) : ∀ w, some w ∈ ls.set i (some v) → ab_okv w := by
  intro w hw
  rcases List.mem_or_eq_of_mem_set hw with q | q
  · exact h w q
  · cases q; exact hv
theorem ab_args {base b : Nat} : ∀ (as : List ab_V) (i : Nat), lv_args i (as.map (ab_rv base b)) = (as.map (ab_rv base b)).mapIdx fun k v => (i + k, v) := by
  intro as
  induction as with
  | nil => intro i; rfl
  | cons v r ih =>
    intro i
    simp only [List.map_cons, lv_args, List.mapIdx_cons]
    rw [if_neg (by rw [ab_rv_cat]; decide), ih (i + 1)]
    congr 1
    apply List.ext_getElem?
    intro j
    simp only [List.getElem?_mapIdx]
    cases (List.map (ab_rv base b) r)[j]? with
    | none => rfl
    | some x => simp; omega
theorem ab_entry {base b : Nat} (m : MethodId) (M : ab_M) (as : List ab_V) (hlen : as.length ≤ M.2.2.1) (hok : ∀ v ∈ as, ab_okv v) :
    ∃ lsC : Array Slot, entryFrame m (as.map (ab_rv base b)).toArray M.2.2.1 = F0 m 0 lsC [] ∧ ab_fr base b M.2.2.1 lsC (ab_ent M as) [] := by
  have hsl : (lg_sl (as.map (ab_rv base b))) = (as.map (ab_rv base b)).map Slot.val := by
    clear hlen hok
    induction as with
    | nil => rfl
    | cons v r ih =>
      simp only [lg_sl, List.map_cons, List.flatMap_cons] at ih ⊢
      rw [if_neg (by rw [ab_rv_cat]; decide), ih]
      rfl
  have hle : (lg_sl (as.map (ab_rv base b))).length ≤ M.2.2.1 := by rw [hsl]; simpa using hlen
  have hl := lv_entry (as.map (ab_rv base b)) (n := M.2.2.1) hle
  refine ⟨_, lg_entry_eq m _ _, ⟨hl.1, hl.2.1, fun q hq => hl.2.2 q ?_⟩, ?_, ?_, fun v hv => by cases hv⟩
  · obtain ⟨v, h1, h2⟩ := ab_lvs_mem.mp hq
    rw [ab_args]
    have hlt : q.1 < as.length := by
      rcases Nat.lt_or_ge q.1 as.length with g | g
      · exact g
      · unfold ab_ent at h1
        rw [List.getElem?_append_right (by simpa using g)] at h1
        have := List.mem_of_getElem? h1
        rw [List.mem_replicate] at this
        cases this.2
    unfold ab_ent at h1
    rw [List.getElem?_append_left (by simpa using hlt), List.getElem?_map] at h1
    rw [List.mem_iff_getElem?]
    refine ⟨q.1, ?_⟩
    rw [List.getElem?_mapIdx, List.getElem?_map]
    cases hz : as[q.1]? with
    | none => rw [hz] at h1; cases h1
    | some w =>
      rw [hz] at h1
      simp only [Option.map_some, Option.some.injEq] at h1
      subst h1
      obtain ⟨a, c⟩ := q
      simp only at h2
      subst h2
      simp
  · simp [ab_ent]; omega
  · intro v hv
    unfold ab_ent at hv
    rcases List.mem_append.mp hv with g | g
    · obtain ⟨w, hw, e⟩ := List.mem_map.mp g
      cases e
      exact hok v hw
    · rw [List.mem_replicate] at g
      cases g.2
