/-! ===== what lies beyond a cell's end is 0, in every run ===== -/
def ab_Z (h : ab_H) : Prop := (∀ (a : Nat) (cd : ab_CD), h.1[a]? = some cd → ∀ k, ab_sz cd ≤ k → h.2 a k = 0) ∧ ∀ a, h.1.length ≤ a → ∀ k, h.2 a k = 0
theorem ab_Z.up {h : ab_H} (hz : ab_Z h) {a k : Nat} {cd : ab_CD} (ha : h.1[a]? = some cd) (hk : k < ab_sz cd) (z : Int) : ab_Z (h.1, ab_up h.2 a k z) := by
  have hlt := (List.getElem?_eq_some_iff.mp ha).1
  refine ⟨fun b cb hb j hj => ?_, fun b hb j => ?_⟩
  · by_cases hba : b = a
    · subst hba
      have hcc : some cb = some cd := hb.symm.trans ha
      cases hcc
      show ab_up h.2 b k z b j = 0
      rw [ab_up_self, ab_u1_ne _ _ (by omega)]
      exact hz.1 b _ ha j hj
    · show ab_up h.2 a k z b j = 0
      rw [ab_up_ne _ _ _ hba]
      exact hz.1 b cb hb j hj
  · have hb : h.1.length ≤ b := hb
    show ab_up h.2 a k z b j = 0
    rw [ab_up_ne _ _ _ (by omega)]
    exact hz.2 b hb j
theorem ab_F_lt {own : String} {ix ci k : Nat} (h : ab_F own ix ci k) (refs : List Nat) : k < ab_sz (.inl (ci, refs)) := by
  obtain ⟨C, T, N, hc, hk, -⟩ := h
  simp [ab_sz, hc.1]
  exact hk
theorem ab_hs_zero {M : ab_M} {i : Instr} {len : Nat} {st st1 : List ab_V} {h h1 : ab_H} (hhs : ab_hs M i len st h st1 h1) (hz : ab_Z h) : ab_Z h1 := by
  rcases hhs with ⟨ix, ci, k, a, rest, refs, rfl, rfl, hF, rfl, ha, hr, rfl, rfl⟩ | ⟨ix, ci, k, a, rest, refs, r, rfl, rfl, hF, rfl, ha, hr, hrr, rfl, rfl⟩ | ⟨ix, ci, k, a, z, rest, refs, rfl, rfl, hF, rfl, ha, hty, hfin, rfl, rfl⟩ | ⟨ix, ci, k, a, r, rest, refs, rfl, rfl, hF, rfl, ha, hr, hkr, hfin, hcl, hini, rfl, rfl⟩ | ⟨a, n, x, rest, hi, rfl, rfl, h0, hn, rfl, rfl⟩ | ⟨a, n, x, z, rest, hi, rfl, rfl, ha1, h0, hn, rfl, rfl⟩ | ⟨a, t, n, rest, rfl, rfl, rfl, ha, ht, hn, rfl, rfl⟩ | ⟨n, t, rest, hi, rfl, rfl, hn, hf, rfl, rfl⟩ | ⟨ix, ci, N, rfl, rfl, hC, hN, hgt, hf, rfl, rfl⟩ | ⟨ix, z, rfl, rfl, hK, hz0, rfl, rfl⟩ | ⟨ix, a, rest, rfl, rfl, hO, rfl, hrl, rfl, rfl⟩ | ⟨ix, a, a0, n, n0, N, rest, rfl, rfl, hC, rfl, hrl, ha1, ha01, hne, ha, ha0, hN, hN0, hNs, rfl, rfl⟩ | ⟨ix, x, y, rest, rfl, rfl, hX, rfl, hrl, rfl, rfl⟩ | ⟨ix, x, y, rest, rfl, rfl, hX, rfl, hrl, rfl, rfl⟩
  · exact hz
  · exact hz
  · exact hz.up ha (ab_F_lt hF refs) z
  · have hlt := (List.getElem?_eq_some_iff.mp ha).1
    refine ⟨fun b cb hb j hj => ?_, fun b hb j => hz.2 b (by simpa using hb) j⟩
    by_cases hba : b = a
    · subst hba
      simp only [List.getElem?_set_self hlt, Option.some.injEq] at hb
      subst hb
      exact hz.1 b _ ha j (by simpa [ab_sz] using hj)
    · simp only [List.getElem?_set_ne (Ne.symm hba)] at hb
      exact hz.1 b cb hb j hj
  · exact hz
  · rcases hi with ⟨-, ha⟩ | ⟨-, ha, -⟩ <;> exact hz.up ha (by simp [ab_sz]; omega) z
  · exact hz
  · refine ⟨fun b cb hb j hj => ?_, fun b hb j => hz.2 b (by simp at hb; omega) j⟩
    by_cases hbl : b < h.1.length
    · simp only [List.getElem?_append_left hbl] at hb
      exact hz.1 b cb hb j hj
    · exact hz.2 b (by omega) j
  · refine ⟨fun b cb hb j hj => ?_, fun b hb j => hz.2 b (by simp at hb; omega) j⟩
    by_cases hbl : b < h.1.length
    · simp only [List.getElem?_append_left hbl] at hb
      exact hz.1 b cb hb j hj
    · exact hz.2 b (by omega) j
  · exact hz
  · exact hz
  · refine ⟨fun b cb hb j hj => ?_, fun b hb j => ?_⟩
    · by_cases hba : b = a
      · subst hba
        have hcc : some cb = some (.inr (0, n)) := hb.symm.trans ha
        cases hcc
        have hj : n ≤ j := hj
        show ab_rw h.2 b _ b j = 0
        rw [ab_rw_self, if_neg (by omega)]
        exact hz.1 b _ ha j hj
      · show ab_rw h.2 a _ b j = 0
        rw [ab_rw_ne _ _ hba]
        exact hz.1 b cb hb j hj
    · have hlt := (List.getElem?_eq_some_iff.mp ha).1
      have hb : h.1.length ≤ b := hb
      show ab_rw h.2 a _ b j = 0
      rw [ab_rw_ne _ _ (by omega)]
      exact hz.2 b hb j
  · exact hz
  · exact hz
theorem ab_run_zero {cal : ab_cal} (hc : ∀ M as h r h', cal M as h r h' → ab_Z h → ab_Z h') {M : ab_M} {r : Option ab_V} {h' : ab_H} : ∀ {n pc : Nat} {ls : ab_L} {st : List ab_V} {h : ab_H}, ab_run cal M n pc ls st h r h' → ab_Z h → ab_Z h' := by
  intro n
  induction n with
  | zero => intro _ _ _ _ h; exact h.elim
  | succ n ih =>
    intro pc ls st h hr hz
    obtain ⟨i, len, hd, hr⟩ := hr
    rcases hr with ⟨p1, l1, s1, q, hr⟩ | ⟨s1, h1, q, hr⟩ | ⟨M', as, rest, r1, h1, q1, q2, q3, q4, q5, hr⟩ | ⟨-, -, -, rfl⟩ | ⟨-, -, -, -, -, rfl⟩
    · exact ih hr hz
    · exact ih hr (ab_hs_zero q hz)
    · exact ih hr (hc _ _ _ _ _ q5 hz)
    · exact hz
    · exact hz
theorem ab_call_zero : ∀ (d : Nat) (M : ab_M) (as : List ab_V) (h : ab_H) (r : Option ab_V) (h' : ab_H), ab_call d M as h r h' → ab_Z h → ab_Z h' := by
  intro d
  induction d with
  | zero => intro _ _ _ _ _ h; exact h.elim
  | succ d ih => intro M as h r h' q; obtain ⟨-, n, q⟩ := q; exact ab_run_zero ih q
def Zm (L : Nat) (M : ab_Me) : Prop := ab_Z (LAY L, M)
theorem ct_Z {L d : Nat} {m : ab_M} {as : List ab_V} {M : ab_Me} {Q : Option ab_V → ab_Me → Prop} (h : ct L d m as M Q) (hz : Zm L M) : ct L d m as M (fun r M1 => Q r M1 ∧ Zm L M1) := by
  obtain ⟨r, M1, e1, e2⟩ := h
  exact ⟨r, M1, e1, e2, ab_call_zero _ _ _ _ _ _ e1 hz⟩
theorem cG_Z {L d : Nat} {m : ab_M} {as : List ab_V} {M M1 : ab_Me} {v : Int} (h : cG L d m as M v M1) (hz : Zm L M) : Zm L M1 := ab_call_zero _ _ _ _ _ _ h hz
theorem Zm.z {L : Nat} {M : ab_Me} (h : Zm L M) (a : Nat) {t n : Nat} (ha : (LAY L)[a]? = some (.inr (t, n))) {k : Nat} (hk : n ≤ k) : M a k = 0 := h.1 a _ ha k hk
