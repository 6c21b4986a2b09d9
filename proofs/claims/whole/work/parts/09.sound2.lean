def ab_le (h h' : ab_H) : Prop := h.1.length ≤ h'.1.length ∧ ab_nS h.1 ≤ ab_nS h'.1
theorem ab_le.trans {a b c : ab_H} (h1 : ab_le a b) (h2 : ab_le b c) : ab_le a c := ⟨Nat.le_trans h1.1 h2.1, Nat.le_trans h1.2 h2.2⟩
theorem ab_le.rfl {a : ab_H} : ab_le a a := ⟨Nat.le_refl _, Nat.le_refl _⟩
theorem ab_hs_le {M : ab_M} {i : Instr} {len : Nat} {st st1 : List ab_V} {h h1 : ab_H} (hhs : ab_hs M i len st h st1 h1) : ab_le h h1 := by
  rcases hhs with ⟨ix, ci, k, a, rest, refs, rfl, rfl, hF, rfl, ha, hr, rfl, rfl⟩ | ⟨ix, ci, k, a, rest, refs, r, rfl, rfl, hF, rfl, ha, hr, hrr, rfl, rfl⟩ | ⟨ix, ci, k, a, z, rest, refs, rfl, rfl, hF, rfl, ha, hty, hfin, rfl, rfl⟩ | ⟨ix, ci, k, a, r, rest, refs, rfl, rfl, hF, rfl, ha, hr, hkr, hfin, hcl, hini, rfl, rfl⟩ | ⟨a, n, x, rest, hi, rfl, rfl, h0, hn, rfl, rfl⟩ | ⟨a, n, x, z, rest, hi, rfl, rfl, ha1, h0, hn, rfl, rfl⟩ | ⟨a, t, n, rest, rfl, rfl, rfl, ha, ht, hn, rfl, rfl⟩ | ⟨n, t, rest, hi, rfl, rfl, hn, hf, rfl, rfl⟩ | ⟨ix, ci, N, rfl, rfl, hC, hN, hgt, hf, rfl, rfl⟩ | ⟨ix, z, rfl, rfl, hK, hz, rfl, rfl⟩ | ⟨ix, a, rest, rfl, rfl, hO, rfl, hrl, rfl, rfl⟩ | ⟨ix, a, a0, n, n0, N, rest, rfl, rfl, hC, rfl, hrl, ha1, ha01, hne, ha, ha0, hN, hN0, hNs, rfl, rfl⟩ | ⟨ix, x, y, rest, rfl, rfl, hX, rfl, hrl, rfl, rfl⟩ | ⟨ix, x, y, rest, rfl, rfl, hX, rfl, hrl, rfl, rfl⟩
  · exact ab_le.rfl
  · exact ab_le.rfl
  · exact ab_le.rfl
  · refine ⟨by simp, Nat.le_of_eq ?_⟩
    unfold ab_nS
    congr 1
    rw [List.map_set]
    apply List.ext_getElem?
    intro j
    by_cases hj : j = a
    · subst hj
      have hlt : j < h.1.length := (List.getElem?_eq_some_iff.mp ha).1
      rw [List.getElem?_set_self (by simpa using hlt), List.getElem?_map, ha]
      rfl
    · rw [List.getElem?_set_ne (Ne.symm hj)]
  · exact ab_le.rfl
  · exact ab_le.rfl
  · exact ab_le.rfl
  · exact ⟨by simp, by rw [ab_nS_app]; omega⟩
  · exact ⟨by simp, by rw [ab_nS_app]; omega⟩
  · exact ab_le.rfl
  · exact ab_le.rfl
  · exact ab_le.rfl
  · exact ab_le.rfl
  · exact ab_le.rfl
theorem ab_run_le {cal : ab_cal} (hc : ∀ M as h r h', cal M as h r h' → ab_le h h' ∧ (r = none ∨ ∃ z, r = some (.inl z))) {M : ab_M} {r : Option ab_V} {h' : ab_H} : ∀ {n pc : Nat} {ls : ab_L} {st : List ab_V} {h : ab_H}, ab_run cal M n pc ls st h r h' → ab_le h h' ∧ (r = none ∨ ∃ z, r = some (.inl z)) := by
  intro n
  induction n with
  | zero => intro _ _ _ _ h; exact h.elim
  | succ n ih =>
    intro pc ls st h hr
    obtain ⟨i, len, hd, hr⟩ := hr
    rcases hr with ⟨p1, l1, s1, q, hr⟩ | ⟨s1, h1, q, hr⟩ | ⟨M', as, rest, r1, h1, q1, q2, q3, q4, q5, hr⟩ | ⟨-, -, ⟨z, -, hz, -⟩, rfl⟩ | ⟨-, -, -, -, hz, rfl⟩
    · exact ih hr
    · exact ⟨(ab_hs_le q).trans (ih hr).1, (ih hr).2⟩
    · exact ⟨(hc _ _ _ _ _ q5).1.trans (ih hr).1, (ih hr).2⟩
    · exact ⟨ab_le.rfl, Or.inr ⟨z, hz⟩⟩
    · exact ⟨ab_le.rfl, Or.inl hz⟩
theorem ab_call_le : ∀ (d : Nat) (M : ab_M) (as : List ab_V) (h : ab_H) (r : Option ab_V) (h' : ab_H), ab_call d M as h r h' → ab_le h h' ∧ (r = none ∨ ∃ z, r = some (.inl z)) := by
  intro d
  induction d with
  | zero => intro _ _ _ _ _ h; exact h.elim
  | succ d ih => intro M as h r h' q; obtain ⟨-, n, q⟩ := q; exact ab_run_le ih q
def ab_ws (M : ab_M) : List Cond := Cond.code M.1 M.2.1 M.2.2.1 M.2.2.2.1 :: ab_tb
theorem ab_good {w : Cond} (h : w ∈ ab_tb) : (w.onTables && w.keeps) = true ∨ ∃ ty, w = .arrayClass ty := good_of_word (List.mem_filter.mp h).2
theorem ab_goodIn {ws : List Cond} (h : ∀ w ∈ ws, w ∈ ab_tb) : GoodIn ab_tb ws := fun w hw => ⟨h w hw, ab_good (h w hw)⟩
theorem ab_ws_in {M : ab_M} (hM : ab_mok M) : ∀ w ∈ ab_ws M, w ∈ ab_tb := by
  intro w hw
  rcases List.mem_cons.mp hw with rfl | q
  · exact hM.1
  · exact q
def ab_rm (d mc ms : Nat) : Room := { frames := d, cells := mc, slots := ms, locals := 40 * d }
def ab_Pc (dC : Nat → ClassId) (dI : Nat → Nat → Nat) (cI cZ base b : Nat) (as : List ab_V) (h : ab_H) : Array Value → State → Prop := fun v U => v = (as.map (ab_rv base b)).toArray ∧ ab_R dC dI cI cZ base b h U U.heap
def ab_Qc (dC : Nat → ClassId) (dI : Nat → Nat → Nat) (cI cZ base b : Nat) (r : Option ab_V) (h' : ab_H) : Array Value → State → Outcome → State → Prop := match r with
  | some (.inl z) => va_Qi (S := Unit) (fun r _ => r = Int32.ofInt z ∧ ab_ok z) (fun _ t => ab_R dC dI cI cZ base b h' t t.heap) (fun q => base ≤ q)
  | _ => va_Qv (S := Unit) (fun _ => True) (fun _ t => ab_R dC dI cI cZ base b h' t t.heap) (fun q => base ≤ q)
def ab_gc (l : Launch) (dC : Nat → ClassId) (dI : Nat → Nat → Nat) (cI cZ base b d : Nat) (cal : ab_cal) : Prop := ∀ (M : ab_M) (as : List ab_V) (h : ab_H) (r : Option ab_V) (h' : ab_H), cal M as h r h' → (∀ v ∈ as, ab_okv v) → ab_mok M →
  Met l M.1 (ab_ws M) (ab_rm d (h'.1.length - h.1.length) (ab_nS h'.1 - ab_nS h.1)) (ab_Pc dC dI cI cZ base b as h) (ab_Qc dC dI cI cZ base b r h') (h'.1.length - h.1.length) (ab_nS h'.1 - ab_nS h.1) (fun q => base ≤ q)
section AbRun
variable {p : Program} {l : Launch} {e : Env} {R : Room} {s : State} {m : MethodId} {args : Array Value} {below : List Frame} {meth : Method} {c : Code} {H : Heap} {locs : List Loc} {cells slots : Nat} {Q : State → Prop}
variable {cc : ByteArray} {pc : Nat} {lsC : Array Slot} {base b : Nat} {dC : Nat → ClassId} {dI : Nat → Nat → Nat} {cI cZ : Nat} {h : ab_H}
theorem ab_blind {as : List ab_V} : FrameBlind (ab_Pc dC dI cI cZ base b as h) := fun a U g mk q => ⟨q.1, q.2.to (U := U.calling g mk a) (Vm.Alike.refl U.vm) (ab_NW.same (u := U) (U := U.calling g mk a) rfl q.2.2.2.2.2.2.2)⟩
theorem ab_after {r1 : Option ab_V} {h1 : ab_H} {rest : List ab_V} {st0 : List Value} {mc ms : Nat} {avs : Array Value} (hrun : va_Run p l e R s m args below meth c H locs cells slots mc ms (F0 m pc lsC st0) (rest.map (ab_rv base b)) (ab_Qc dC dI cI cZ base b r1 h1 avs) (fun q => base ≤ q)) (hr1 : r1 = none ∨ ∃ z, r1 = some (.inl z)) (hN : ab_NW s) (hS : va_S (fun q => base ≤ q) s.heap H locs)
    (kk : ∀ (H1 : Heap) (locs1 : List Loc), ab_R dC dI cI cZ base b h1 s H1 → va_S (fun q => base ≤ q) s.heap H1 locs1 → (∀ v ∈ r1.toList, ab_okv v) → W p l e R s m args below meth c H1 locs1 (cells + mc) (slots + ms) Q (F0 m (pc + 3) lsC ((r1.toList ++ rest).map (ab_rv base b)))) : W p l e R s m args below meth c H locs cells slots Q (F0 m pc lsC st0) := by
  rcases hr1 with rfl | ⟨z, rfl⟩
  · refine va_callv (S := Unit) (a := avs) hrun hS (fun q _ h => h) (fun q h => h) (fun u t H1 locs1 ht hvm hp hB _ _ hS1 => ?_)
    refine kk H1 locs1 ?_ hS1 (fun v hv => by cases hv)
    rw [← ht]
    exact hB.to hvm.symm hN
  · refine va_calli (S := Unit) (a := avs) hrun hS (fun q _ h => h) (fun q h => h) (fun r u t H1 locs1 ht hvm hp hB _ _ hS1 => ?_)
    obtain ⟨rfl, hz⟩ := hp
    refine kk H1 locs1 ?_ hS1 (fun v hv => ?_)
    · rw [← ht]
      exact hB.to hvm.symm hN
    · have : v = .inl z := by simpa using hv
      rw [this]
      exact hz
set_option maxHeartbeats 4000000 in
theorem ab_iv_sound {M M' : ab_M} {i : Instr} {len : Nat} {as rest : List ab_V} {r1 : Option ab_V} {h1 : ab_H} {d mc ms nL : Nat} (hiv : ab_iv M i len M' as h) (hx : p.tables.exec = Jvm.exec) (hb : c.code = cc) (hml : c.maxLocals = nL) (hlC : lsC.size = nL) (hts : ∀ w ∈ ab_tb, w.before args s = true) (hown : s.vm.findClass M.1.cls = some m.cls) (hdg : decode cc pc = .ok (i, len))
    (hR : ab_R dC dI cI cZ base b h s H) (hlen : as.length = M'.2.2.2.2) (hrest : rest.length ≤ 8) (hf : d + 1 ≤ R.frames) (hlo : 40 * (d + 1) ≤ R.locals) (hc1 : cells + mc ≤ R.cells) (hs1 : slots + ms ≤ R.slots)
    (hM : ab_mok M' → Met l M'.1 (ab_ws M') (ab_rm d mc ms) (ab_Pc dC dI cI cZ base b as h) (ab_Qc dC dI cI cZ base b r1 h1) mc ms (fun q => base ≤ q)) :
    len = 3 ∧ va_Run p l e R s m args below meth c H locs cells slots mc ms (F0 m pc lsC ((as.reverse ++ rest).map (ab_rv base b))) (rest.map (ab_rv base b)) (ab_Qc dC dI cI cZ base b r1 h1 (as.map (ab_rv base b)).toArray) (fun q => base ≤ q) := by
  have hW : ((rest.map (ab_rv base b)).map fun v => v.category).sum ≤ 8 := by rw [ab_cats]; exact hrest
  have hPc : ∀ U : State, U.heap = H → s.WarmedH U.vm → ab_Pc dC dI cI cZ base b as h (as.map (ab_rv base b)).toArray U := fun U hU hW => ⟨rfl, by rw [hU]; exact hR.warm hW⟩
  rcases hiv with ⟨ix, ci, a, as', refs, rfl, rfl, hL, rfl, ha⟩ | ⟨ix, rfl, rfl, hL⟩ | ⟨ix, rfl, rfl, hL⟩ | ⟨ix, a, as', rfl, rfl, hL, rfl⟩
  · obtain ⟨hmok, l1, l2, l3, l4, l5, l6⟩ := hL
    refine ⟨rfl, ?_⟩
    obtain ⟨k', rfl⟩ := hR.pos ha
    have hG : GoodIn ab_tb (wsV M.1.cls ix M'.1.cls M'.1 (ab_ws M')) := ab_goodIn (fun w hw => by
      rcases List.mem_append.mp hw with q | q
      · simp only [List.mem_cons, List.not_mem_nil, or_false] at q
        rcases q with rfl | rfl | rfl | rfl
        · exact l1
        · exact l2
        · exact l3
        · exact hmok.2.1
      · exact ab_ws_in hmok w q)
    have hat := hR.2.1 k' _ ha
    obtain ⟨q0, hq0, hq1⟩ : ∃ q0, vwCl[ci]? = some q0 ∧ q0.1 = M'.1.cls := by
      cases hz : vwCl[ci]? with
      | none => rw [hz] at l4; cases l4
      | some q0 => rw [hz] at l4; exact ⟨q0, rfl, Option.some.inj l4⟩
    have hrecv := va_recv (q0 := 0) hR.1 (ab_one hat) hq0 rfl
    rw [hq1] at hrecv
    exact va_runV (As := as'.map (ab_rv base b)) (rest := rest.map (ab_rv base b)) (b := base + k') ⟨hx, hb, hml, hown, hts⟩ (hM hmok) (cwV (M'.2.2.2.2 - 1) hts hG rfl rfl rfl ⟨rfl, hmok.2.2.2.1.1, hmok.2.2.2.1.2, l5⟩ ⟨hf, by have := hmok.2.2.2.2; show 8 + (M'.2.2.1 + 11) + 40 * d ≤ _; omega⟩) ⟨ab_blind, hrecv, hPc⟩ rfl (by rw [List.length_map]; rw [List.length_cons] at hlen; omega) hlC (by simp [ab_rv]) (lv_room hW) hdg ⟨hc1, hs1⟩
  · obtain ⟨hmok, l1, l2, l3⟩ := hL
    refine ⟨rfl, ?_⟩
    have hcb : CallB R s args M.1.cls ix M'.1 M'.2.1 M'.2.2.1 M'.2.2.2.1 (ab_ws M') (ab_rm d mc ms) mc ms M'.2.2.2.2 := callB_of M'.2.2.2.2 hts (ab_goodIn (ab_ws_in hmok)) rfl rfl rfl (hts _ hmok.2.1) (hts _ l1) ⟨hmok.2.2.2.1.1, hmok.2.2.2.1.2, l3⟩ ⟨hf, by have := hmok.2.2.2.2; show 8 + (M'.2.2.1 + 11) + 40 * d ≤ _; omega⟩
    exact va_runS (As := as.map (ab_rv base b)) (rest := rest.map (ab_rv base b)) ⟨hx, hb, hml, hown, hts⟩ (hM hmok) ⟨hcb, hts _ l2⟩ ⟨ab_blind, hPc⟩ rfl (by rw [List.length_map]; exact hlen) hlC (by simp) (lv_room hW) hdg ⟨hc1, hs1⟩
  · obtain ⟨hmok, ⟨host, l1⟩, l2, l3⟩ := hL
    refine ⟨rfl, ?_⟩
    have hcn := va_cnB (R := R) (host := host) (index := ix) (own := M.1.cls) (mc := mc) (ms := ms) (rm := ab_rm d mc ms) M'.2.2.2.2 hts (ab_goodIn (ab_ws_in hmok)) rfl rfl rfl (hR.2.2.2.2.2.2 _ l1) (hts _ hmok.2.1) ⟨hmok.2.2.2.1.1, hmok.2.2.2.1.2, l3⟩ ⟨hf, by have := hmok.2.2.2.2; show 8 + (M'.2.2.1 + 11) + 40 * d ≤ _; omega⟩
    exact va_runSN (As := as.map (ab_rv base b)) (rest := rest.map (ab_rv base b)) ⟨hx, hb, hml, hown, hts⟩ (hM hmok) ⟨hcn, hts _ l2, trivial⟩ ⟨ab_blind, hPc⟩ rfl (by rw [List.length_map]; exact hlen) hlC (by simp) (lv_room hW) hdg ⟨hc1, hs1⟩
  · obtain ⟨hmok, l1, l2, l3, l4, l5, l6⟩ := hL
    refine ⟨rfl, ?_⟩
    obtain ⟨a', ha'⟩ := ab_rvr (base := base) (b := b) a
    have hw : ab_ws M' = Cond.code M'.1 M'.2.1 M'.2.2.1 none :: ab_tb := by unfold ab_ws; rw [l4]
    have hcw := cwI (R := R) (own := M.1.cls) (index := ix) (mc := mc) (ms := ms) (rm := ab_rm d mc ms) (M'.2.2.2.2 - 1) hts (ab_goodIn (ab_ws_in hmok)) hw rfl rfl (hts _ hmok.2.1) (hts _ l1) (hts _ l2) l3 ⟨hmok.2.2.2.1.1, hmok.2.2.2.1.2, l5⟩ ⟨hf, by have := hmok.2.2.2.2; show 8 + (M'.2.2.1 + 11) + 40 * d ≤ _; omega⟩
    rw [List.map_cons, ha'] at hPc ⊢
    exact va_runI (As := as'.map (ab_rv base b)) (rest := rest.map (ab_rv base b)) (b := a') ⟨hx, hb, hml, hown, hts⟩ (hM hmok) hcw ⟨ab_blind, hPc⟩ rfl (by rw [List.length_map]; rw [List.length_cons] at hlen; omega) hlC (by simp [ha']) (lv_room hW) hdg ⟨hc1, hs1⟩
set_option maxHeartbeats 4000000 in
theorem ab_run_sound {d : Nat} {cal : ab_cal} (hcal : ab_gc l dC dI cI cZ base b d cal) (hcle : ∀ M as h r h', cal M as h r h' → ab_le h h' ∧ (r = none ∨ ∃ z, r = some (.inl z))) {M : ab_M} {r : Option ab_V} {h' : ab_H} {mc ms : Nat}
    (hx : p.tables.exec = Jvm.exec) (hb : c.code = M.2.1) (hml : c.maxLocals = M.2.2.1) (hown : s.vm.findClass M.1.cls = some m.cls) (hnm : M.1.name = "<init>" → meth.name = "<init>") (hts : ∀ w ∈ ab_tb, w.before args s = true) (hRc : mc ≤ R.cells) (hRs : ms ≤ R.slots) (hRf : d + 1 ≤ R.frames) (hRl : 40 * (d + 1) ≤ R.locals)
    (hfin : ∀ (z : Int) (H1 : Heap) (locs1 : List Loc) (lsC1 : Array Slot) (pc1 : Nat), r = some (.inl z) → ab_ok z → (M.2.2.2.1 = some .int ∨ (M.2.2.2.1 = some .boolean ∧ (z = 0 ∨ z = 1))) → decode M.2.1 pc1 = .ok (.ireturn, 1) → ab_R dC dI cI cZ base b h' s H1 → va_S (fun q => base ≤ q) s.heap H1 locs1 → W p l e R s m args below meth c H1 locs1 mc ms Q (F0 m pc1 lsC1 [.int (Int32.ofInt z)]))
    (hfin0 : ∀ (H1 : Heap) (locs1 : List Loc) (lsC1 : Array Slot) (pc1 : Nat), r = none → M.2.2.2.1 = none → decode M.2.1 pc1 = .ok (.return_, 1) → ab_R dC dI cI cZ base b h' s H1 → va_S (fun q => base ≤ q) s.heap H1 locs1 → W p l e R s m args below meth c H1 locs1 mc ms Q (F0 m pc1 lsC1 [])) :
    ∀ (n pc : Nat) (ls : ab_L) (st : List ab_V) (h : ab_H), ab_run cal M n pc ls st h r h' → ∀ (H : Heap) (locs : List Loc) (cells slots : Nat) (lsC : Array Slot), ab_R dC dI cI cZ base b h s H → va_S (fun q => base ≤ q) s.heap H locs → ab_fr base b M.2.2.1 lsC ls st → cells + h'.1.length = mc + h.1.length → slots + ab_nS h'.1 = ms + ab_nS h.1 → W p l e R s m args below meth c H locs cells slots Q (F0 m pc lsC (st.map (ab_rv base b))) := by
  intro n
  induction n with
  | zero => intro _ _ _ _ h; exact h.elim
  | succ n ih =>
    intro pc ls st h hr H locs cells slots lsC hR hS hF hcc hss
    obtain ⟨i, len, hd, hr⟩ := hr
    rcases hr with ⟨p1, l1, s1, q, hr⟩ | ⟨s1, h1, q, hr⟩ | ⟨M', as, rest, r1, h1, q1, rfl, q3, q4, q5, hr⟩ | ⟨rfl, rfl, ⟨z, rfl, hz, hrt⟩, rfl⟩ | ⟨rfl, rfl, hrt, rfl, hz, rfl⟩
    · exact ab_ps_sound q hx hb hd hF (fun lsC1 hF1 => ih _ _ _ _ hr H locs cells slots lsC1 hR hS hF1 hcc hss)
    · have g1 := ab_hs_le q
      have g2 := (ab_run_le hcle hr).1
      have e1 := g1.1
      have e2 := g1.2
      have e3 := g2.1
      have e4 := g2.2
      exact ab_hs_sound q hx hb hml hts hown hnm hd hR hS hF (by omega) (by omega) (by omega) (by omega) (fun H1 locs1 k1 k2 k3 => ih _ _ _ _ hr H1 locs1 _ _ lsC k1 k2 k3 (by omega) (by omega))
    · have g1 := (hcle _ _ _ _ _ q5).1
      have g2 := (ab_run_le hcle hr).1
      have e1 := g1.1
      have e2 := g1.2
      have e3 := g2.1
      have e4 := g2.2
      have hoka : ∀ v ∈ as, ab_okv v := fun v hv => hF.2.2.2 v (List.mem_append_left _ (List.mem_reverse.mpr hv))
      have hokr : ∀ v ∈ rest, ab_okv v := fun v hv => hF.2.2.2 v (List.mem_append_right _ hv)
      obtain ⟨rfl, hrun⟩ := ab_iv_sound (R := R) (p := p) (e := e) (below := below) (meth := meth) (locs := locs) (cells := cells) (slots := slots) (d := d) (mc := h1.1.length - h.1.length) (ms := ab_nS h1.1 - ab_nS h.1) (r1 := r1) (h1 := h1) (rest := rest) q1 hx hb hml hF.1.1 hts hown hd hR q3 q4 hRf hRl (by omega) (by omega) (fun hmok => hcal M' as h r1 h1 q5 hoka hmok)
      refine ab_after hrun (hcle _ _ _ _ _ q5).2 hR.2.2.2.2.2.2 hS (fun H1 locs1 k1 k2 k3 => ?_)
      exact ih _ _ _ _ hr H1 locs1 _ _ lsC k1 k2 ⟨hF.1, hF.2.1, hF.2.2.1, fun v hv => (List.mem_append.mp hv).elim (k3 v) (hokr v)⟩ (by omega) (by omega)
    · have ec : cells = mc := by omega
      have es : slots = ms := by omega
      subst ec; subst es
      exact hfin z H locs lsC pc hz (hF.2.2.2 (.inl z) List.mem_cons_self) hrt hd hR hS
    · have ec : cells = mc := by omega
      have es : slots = ms := by omega
      subst ec; subst es
      exact hfin0 H locs lsC pc hz hrt hd hR hS
end AbRun
set_option maxHeartbeats 4000000 in
theorem ab_sound (l : Launch) (dC : Nat → ClassId) (dI : Nat → Nat → Nat) (cI cZ base b : Nat) : ∀ d : Nat, ab_gc l dC dI cI cZ base b d (ab_call d) := by
  intro d
  induction d with
  | zero => intro M as h r h' q; exact q.elim
  | succ d ih =>
    intro M as h r h' q hok hM
    obtain ⟨hlen, n, hr⟩ := q
    have hle := (ab_run_le (ab_call_le d) hr).1
    have e3 := hle.1
    have e4 := hle.2
    refine Met.ofW (cc := M.2.1) (maxL := M.2.2.1) (ret := M.2.2.2.1) hM.2.2.1 rfl ?_
    intro p e s m args below meth c s₁ B hml hv
    obtain ⟨rfl, hR⟩ := hv
    have hx := B.exec
    have hb := B.bytes
    have hret := B.returns
    have hts0 := atoms_spec (ws := ab_ws M) B.pre
    have hown : s.vm.findClass M.1.cls = some m.cls := findClass_of_methodNamed B.named
    have hlocks := B.notSynchronized
    have hnm : M.1.name = "<init>" → meth.name = "<init>" := fun q => ((name_of_methodNamed B.named B.method).1).trans q
    obtain ⟨lsC, he, hF⟩ := ab_entry (base := base) (b := b) m M as hlen hok
    rw [he]
    refine ab_run_sound (mc := h'.1.length - h.1.length) (ms := ab_nS h'.1 - ab_nS h.1) ih (ab_call_le d) hx hb hml hown hnm (fun w hw => hts0 w (List.mem_cons_of_mem _ hw)) (Nat.le_refl _) (Nat.le_refl _) (Nat.le_refl _) (Nat.le_refl _) ?_ ?_ n 0 _ _ _ hr s.heap [] 0 0 lsC hR va_S.rf hF (by omega) (by omega)
    · intro z H1 locs1 lsC1 pc1 hr1 hz hrt hdg hR1 hS1
      subst hr1
      rcases hrt with q | ⟨q, hz01⟩
      · exact W.iret hx hb (hret.trans q) (fun t ht hW => ⟨⟨_, (), rfl, ⟨rfl, hz⟩, by show ab_R dC dI cI cZ base b h' t t.heap; rw [ht]; exact hR1.warm hW⟩, hS1.F ht⟩) hS1.2.2 hdg
      · exact W.zret hx hb (hret.trans q) (by rcases hz01 with rfl | rfl <;> rfl) (fun t ht hW => ⟨⟨_, (), rfl, ⟨rfl, hz⟩, by show ab_R dC dI cI cZ base b h' t t.heap; rw [ht]; exact hR1.warm hW⟩, hS1.F ht⟩) hS1.2.2 hdg
    · intro H1 locs1 lsC1 pc1 hr1 hrt hdg hR1 hS1
      subst hr1
      exact W.vret hx hb (hret.trans hrt) (fun t ht hW => ⟨⟨(), rfl, trivial, by show ab_R dC dI cI cZ base b h' t t.heap; rw [ht]; exact hR1.warm hW⟩, hS1.F ht⟩) hS1.2.2 hdg
