/-! ===== tableswitch from 0 on (written by program) ===== -/
section WpSw
variable {L d : Nat} {m : ab_M} {pc : Nat} {ls : ab_L} {st : List ab_V} {M : ab_Me} {Q : Option ab_V → ab_Me → Prop} {x : Int}
theorem wp_t3 {dd : Int} {o0 o1 o2 : Int} {len : Nat} {td t0 t1 t2 : Nat} (h : decode m.2.1 pc = .ok (.tableswitch dd 0 2 #[o0, o1, o2], len)) (jd : ab_j pc dd = some td) (j0 : ab_j pc o0 = some t0) (j1 : ab_j pc o1 = some t1) (j2 : ab_j pc o2 = some t2) (kd : x < 0 ∨ 2 < x → wp L d m td ls st M Q) (k0 : x = 0 → wp L d m t0 ls st M Q) (k1 : x = 1 → wp L d m t1 ls st M Q) (k2 : x = 2 → wp L d m t2 ls st M Q) : wp L d m pc ls (.inl x :: st) M Q := by
  by_cases hx : x < 0 ∨ 2 < x
  · exact wp_swd h hx jd (kd hx)
  · have : x = 0 ∨ x = 1 ∨ x = 2 := by omega
    rcases this with q | q | q
    · exact wp_sw 0 h q (by decide) rfl j0 (k0 q)
    · exact wp_sw 1 h q (by decide) rfl j1 (k1 q)
    · exact wp_sw 2 h q (by decide) rfl j2 (k2 q)
theorem wp_t4 {dd : Int} {o0 o1 o2 o3 : Int} {len : Nat} {td t0 t1 t2 t3 : Nat} (h : decode m.2.1 pc = .ok (.tableswitch dd 0 3 #[o0, o1, o2, o3], len)) (jd : ab_j pc dd = some td) (j0 : ab_j pc o0 = some t0) (j1 : ab_j pc o1 = some t1) (j2 : ab_j pc o2 = some t2) (j3 : ab_j pc o3 = some t3) (kd : x < 0 ∨ 3 < x → wp L d m td ls st M Q) (k0 : x = 0 → wp L d m t0 ls st M Q) (k1 : x = 1 → wp L d m t1 ls st M Q) (k2 : x = 2 → wp L d m t2 ls st M Q) (k3 : x = 3 → wp L d m t3 ls st M Q) : wp L d m pc ls (.inl x :: st) M Q := by
  by_cases hx : x < 0 ∨ 3 < x
  · exact wp_swd h hx jd (kd hx)
  · have : x = 0 ∨ x = 1 ∨ x = 2 ∨ x = 3 := by omega
    rcases this with q | q | q | q
    · exact wp_sw 0 h q (by decide) rfl j0 (k0 q)
    · exact wp_sw 1 h q (by decide) rfl j1 (k1 q)
    · exact wp_sw 2 h q (by decide) rfl j2 (k2 q)
    · exact wp_sw 3 h q (by decide) rfl j3 (k3 q)
theorem wp_t6 {dd : Int} {o0 o1 o2 o3 o4 o5 : Int} {len : Nat} {td t0 t1 t2 t3 t4 t5 : Nat} (h : decode m.2.1 pc = .ok (.tableswitch dd 0 5 #[o0, o1, o2, o3, o4, o5], len)) (jd : ab_j pc dd = some td) (j0 : ab_j pc o0 = some t0) (j1 : ab_j pc o1 = some t1) (j2 : ab_j pc o2 = some t2) (j3 : ab_j pc o3 = some t3) (j4 : ab_j pc o4 = some t4) (j5 : ab_j pc o5 = some t5) (kd : x < 0 ∨ 5 < x → wp L d m td ls st M Q) (k0 : x = 0 → wp L d m t0 ls st M Q) (k1 : x = 1 → wp L d m t1 ls st M Q) (k2 : x = 2 → wp L d m t2 ls st M Q) (k3 : x = 3 → wp L d m t3 ls st M Q) (k4 : x = 4 → wp L d m t4 ls st M Q) (k5 : x = 5 → wp L d m t5 ls st M Q) : wp L d m pc ls (.inl x :: st) M Q := by
  by_cases hx : x < 0 ∨ 5 < x
  · exact wp_swd h hx jd (kd hx)
  · have : x = 0 ∨ x = 1 ∨ x = 2 ∨ x = 3 ∨ x = 4 ∨ x = 5 := by omega
    rcases this with q | q | q | q | q | q
    · exact wp_sw 0 h q (by decide) rfl j0 (k0 q)
    · exact wp_sw 1 h q (by decide) rfl j1 (k1 q)
    · exact wp_sw 2 h q (by decide) rfl j2 (k2 q)
    · exact wp_sw 3 h q (by decide) rfl j3 (k3 q)
    · exact wp_sw 4 h q (by decide) rfl j4 (k4 q)
    · exact wp_sw 5 h q (by decide) rfl j5 (k5 q)
theorem wp_t7 {dd : Int} {o0 o1 o2 o3 o4 o5 o6 : Int} {len : Nat} {td t0 t1 t2 t3 t4 t5 t6 : Nat} (h : decode m.2.1 pc = .ok (.tableswitch dd 0 6 #[o0, o1, o2, o3, o4, o5, o6], len)) (jd : ab_j pc dd = some td) (j0 : ab_j pc o0 = some t0) (j1 : ab_j pc o1 = some t1) (j2 : ab_j pc o2 = some t2) (j3 : ab_j pc o3 = some t3) (j4 : ab_j pc o4 = some t4) (j5 : ab_j pc o5 = some t5) (j6 : ab_j pc o6 = some t6) (kd : x < 0 ∨ 6 < x → wp L d m td ls st M Q) (k0 : x = 0 → wp L d m t0 ls st M Q) (k1 : x = 1 → wp L d m t1 ls st M Q) (k2 : x = 2 → wp L d m t2 ls st M Q) (k3 : x = 3 → wp L d m t3 ls st M Q) (k4 : x = 4 → wp L d m t4 ls st M Q) (k5 : x = 5 → wp L d m t5 ls st M Q) (k6 : x = 6 → wp L d m t6 ls st M Q) : wp L d m pc ls (.inl x :: st) M Q := by
  by_cases hx : x < 0 ∨ 6 < x
  · exact wp_swd h hx jd (kd hx)
  · have : x = 0 ∨ x = 1 ∨ x = 2 ∨ x = 3 ∨ x = 4 ∨ x = 5 ∨ x = 6 := by omega
    rcases this with q | q | q | q | q | q | q
    · exact wp_sw 0 h q (by decide) rfl j0 (k0 q)
    · exact wp_sw 1 h q (by decide) rfl j1 (k1 q)
    · exact wp_sw 2 h q (by decide) rfl j2 (k2 q)
    · exact wp_sw 3 h q (by decide) rfl j3 (k3 q)
    · exact wp_sw 4 h q (by decide) rfl j4 (k4 q)
    · exact wp_sw 5 h q (by decide) rfl j5 (k5 q)
    · exact wp_sw 6 h q (by decide) rfl j6 (k6 q)
theorem wp_t9 {dd : Int} {o0 o1 o2 o3 o4 o5 o6 o7 o8 : Int} {len : Nat} {td t0 t1 t2 t3 t4 t5 t6 t7 t8 : Nat} (h : decode m.2.1 pc = .ok (.tableswitch dd 0 8 #[o0, o1, o2, o3, o4, o5, o6, o7, o8], len)) (jd : ab_j pc dd = some td) (j0 : ab_j pc o0 = some t0) (j1 : ab_j pc o1 = some t1) (j2 : ab_j pc o2 = some t2) (j3 : ab_j pc o3 = some t3) (j4 : ab_j pc o4 = some t4) (j5 : ab_j pc o5 = some t5) (j6 : ab_j pc o6 = some t6) (j7 : ab_j pc o7 = some t7) (j8 : ab_j pc o8 = some t8) (kd : x < 0 ∨ 8 < x → wp L d m td ls st M Q) (k0 : x = 0 → wp L d m t0 ls st M Q) (k1 : x = 1 → wp L d m t1 ls st M Q) (k2 : x = 2 → wp L d m t2 ls st M Q) (k3 : x = 3 → wp L d m t3 ls st M Q) (k4 : x = 4 → wp L d m t4 ls st M Q) (k5 : x = 5 → wp L d m t5 ls st M Q) (k6 : x = 6 → wp L d m t6 ls st M Q) (k7 : x = 7 → wp L d m t7 ls st M Q) (k8 : x = 8 → wp L d m t8 ls st M Q) : wp L d m pc ls (.inl x :: st) M Q := by
  by_cases hx : x < 0 ∨ 8 < x
  · exact wp_swd h hx jd (kd hx)
  · have : x = 0 ∨ x = 1 ∨ x = 2 ∨ x = 3 ∨ x = 4 ∨ x = 5 ∨ x = 6 ∨ x = 7 ∨ x = 8 := by omega
    rcases this with q | q | q | q | q | q | q | q | q
    · exact wp_sw 0 h q (by decide) rfl j0 (k0 q)
    · exact wp_sw 1 h q (by decide) rfl j1 (k1 q)
    · exact wp_sw 2 h q (by decide) rfl j2 (k2 q)
    · exact wp_sw 3 h q (by decide) rfl j3 (k3 q)
    · exact wp_sw 4 h q (by decide) rfl j4 (k4 q)
    · exact wp_sw 5 h q (by decide) rfl j5 (k5 q)
    · exact wp_sw 6 h q (by decide) rfl j6 (k6 q)
    · exact wp_sw 7 h q (by decide) rfl j7 (k7 q)
    · exact wp_sw 8 h q (by decide) rfl j8 (k8 q)
theorem wp_t26 {dd : Int} {o0 o1 o2 o3 o4 o5 o6 o7 o8 o9 o10 o11 o12 o13 o14 o15 o16 o17 o18 o19 o20 o21 o22 o23 o24 o25 : Int} {len : Nat} {td t0 t1 t2 t3 t4 t5 t6 t7 t8 t9 t10 t11 t12 t13 t14 t15 t16 t17 t18 t19 t20 t21 t22 t23 t24 t25 : Nat} (h : decode m.2.1 pc = .ok (.tableswitch dd 0 25 #[o0, o1, o2, o3, o4, o5, o6, o7, o8, o9, o10, o11, o12, o13, o14, o15, o16, o17, o18, o19, o20, o21, o22, o23, o24, o25], len)) (jd : ab_j pc dd = some td) (j0 : ab_j pc o0 = some t0) (j1 : ab_j pc o1 = some t1) (j2 : ab_j pc o2 = some t2) (j3 : ab_j pc o3 = some t3) (j4 : ab_j pc o4 = some t4) (j5 : ab_j pc o5 = some t5) (j6 : ab_j pc o6 = some t6) (j7 : ab_j pc o7 = some t7) (j8 : ab_j pc o8 = some t8) (j9 : ab_j pc o9 = some t9) (j10 : ab_j pc o10 = some t10) (j11 : ab_j pc o11 = some t11) (j12 : ab_j pc o12 = some t12) (j13 : ab_j pc o13 = some t13) (j14 : ab_j pc o14 = some t14) (j15 : ab_j pc o15 = some t15) (j16 : ab_j pc o16 = some t16) (j17 : ab_j pc o17 = some t17) (j18 : ab_j pc o18 = some t18) (j19 : ab_j pc o19 = some t19) (j20 : ab_j pc o20 = some t20) (j21 : ab_j pc o21 = some t21) (j22 : ab_j pc o22 = some t22) (j23 : ab_j pc o23 = some t23) (j24 : ab_j pc o24 = some t24) (j25 : ab_j pc o25 = some t25) (kd : x < 0 ∨ 25 < x → wp L d m td ls st M Q) (k0 : x = 0 → wp L d m t0 ls st M Q) (k1 : x = 1 → wp L d m t1 ls st M Q) (k2 : x = 2 → wp L d m t2 ls st M Q) (k3 : x = 3 → wp L d m t3 ls st M Q) (k4 : x = 4 → wp L d m t4 ls st M Q) (k5 : x = 5 → wp L d m t5 ls st M Q) (k6 : x = 6 → wp L d m t6 ls st M Q) (k7 : x = 7 → wp L d m t7 ls st M Q) (k8 : x = 8 → wp L d m t8 ls st M Q) (k9 : x = 9 → wp L d m t9 ls st M Q) (k10 : x = 10 → wp L d m t10 ls st M Q) (k11 : x = 11 → wp L d m t11 ls st M Q) (k12 : x = 12 → wp L d m t12 ls st M Q) (k13 : x = 13 → wp L d m t13 ls st M Q) (k14 : x = 14 → wp L d m t14 ls st M Q) (k15 : x = 15 → wp L d m t15 ls st M Q) (k16 : x = 16 → wp L d m t16 ls st M Q) (k17 : x = 17 → wp L d m t17 ls st M Q) (k18 : x = 18 → wp L d m t18 ls st M Q) (k19 : x = 19 → wp L d m t19 ls st M Q) (k20 : x = 20 → wp L d m t20 ls st M Q) (k21 : x = 21 → wp L d m t21 ls st M Q) (k22 : x = 22 → wp L d m t22 ls st M Q) (k23 : x = 23 → wp L d m t23 ls st M Q) (k24 : x = 24 → wp L d m t24 ls st M Q) (k25 : x = 25 → wp L d m t25 ls st M Q) : wp L d m pc ls (.inl x :: st) M Q := by
  by_cases hx : x < 0 ∨ 25 < x
  · exact wp_swd h hx jd (kd hx)
  · have : x = 0 ∨ x = 1 ∨ x = 2 ∨ x = 3 ∨ x = 4 ∨ x = 5 ∨ x = 6 ∨ x = 7 ∨ x = 8 ∨ x = 9 ∨ x = 10 ∨ x = 11 ∨ x = 12 ∨ x = 13 ∨ x = 14 ∨ x = 15 ∨ x = 16 ∨ x = 17 ∨ x = 18 ∨ x = 19 ∨ x = 20 ∨ x = 21 ∨ x = 22 ∨ x = 23 ∨ x = 24 ∨ x = 25 := by omega
    rcases this with q | q | q | q | q | q | q | q | q | q | q | q | q | q | q | q | q | q | q | q | q | q | q | q | q | q
    · exact wp_sw 0 h q (by decide) rfl j0 (k0 q)
    · exact wp_sw 1 h q (by decide) rfl j1 (k1 q)
    · exact wp_sw 2 h q (by decide) rfl j2 (k2 q)
    · exact wp_sw 3 h q (by decide) rfl j3 (k3 q)
    · exact wp_sw 4 h q (by decide) rfl j4 (k4 q)
    · exact wp_sw 5 h q (by decide) rfl j5 (k5 q)
    · exact wp_sw 6 h q (by decide) rfl j6 (k6 q)
    · exact wp_sw 7 h q (by decide) rfl j7 (k7 q)
    · exact wp_sw 8 h q (by decide) rfl j8 (k8 q)
    · exact wp_sw 9 h q (by decide) rfl j9 (k9 q)
    · exact wp_sw 10 h q (by decide) rfl j10 (k10 q)
    · exact wp_sw 11 h q (by decide) rfl j11 (k11 q)
    · exact wp_sw 12 h q (by decide) rfl j12 (k12 q)
    · exact wp_sw 13 h q (by decide) rfl j13 (k13 q)
    · exact wp_sw 14 h q (by decide) rfl j14 (k14 q)
    · exact wp_sw 15 h q (by decide) rfl j15 (k15 q)
    · exact wp_sw 16 h q (by decide) rfl j16 (k16 q)
    · exact wp_sw 17 h q (by decide) rfl j17 (k17 q)
    · exact wp_sw 18 h q (by decide) rfl j18 (k18 q)
    · exact wp_sw 19 h q (by decide) rfl j19 (k19 q)
    · exact wp_sw 20 h q (by decide) rfl j20 (k20 q)
    · exact wp_sw 21 h q (by decide) rfl j21 (k21 q)
    · exact wp_sw 22 h q (by decide) rfl j22 (k22 q)
    · exact wp_sw 23 h q (by decide) rfl j23 (k23 q)
    · exact wp_sw 24 h q (by decide) rfl j24 (k24 q)
    · exact wp_sw 25 h q (by decide) rfl j25 (k25 q)
theorem wp_s6x {ix : Nat} {m1 : ab_M} {d1 : Nat} {x1 x2 x3 x4 x5 x6 : ab_V} {q : Nat} (h : ab_at m pc (.invokestatic ix) 3 q) (hl : ab_lS m.1.cls ix m1) (hn : ([x1, x2, x3, x4, x5, x6] : List ab_V).length = m1.2.2.2.2) (hrest : Nat.ble st.length 8 = true) (hd1 : Nat.ble d1 d = true) {Q1 : Option ab_V → ab_Me → Prop} (hc : ct L d1 m1 [x1, x2, x3, x4, x5, x6] M Q1) (k : ∀ r M1, Q1 r M1 → wp L d m q ls (r.toList ++ st) M1 Q) : wp L d m pc ls (x6 :: x5 :: x4 :: x3 :: x2 :: x1 :: st) M Q := by
  obtain ⟨r, M1, e1, e2⟩ := hc
  exact wp_iv (as := [x1, x2, x3, x4, x5, x6]) h (Or.inr (Or.inl ⟨ix, rfl, rfl, hl⟩)) hn hrest hd1 e1 (k r M1 e2)
end WpSw
