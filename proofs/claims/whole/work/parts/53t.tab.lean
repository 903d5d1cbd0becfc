section TAB
variable {E : mx_E} {y : MethodName} {cc : ByteArray} {nL : Nat} {ret : Option FieldType} {K : mx_Kd} {bc bs pc : Nat} {lv st : List Value} {hp : List mx_C}
theorem J_tab3 {dflt lo hi o0 o1 o2 : Int} {len : Nat} {z : Int} (t0 t1 t2 td : Nat) (hd : decode cc pc = .ok (.tableswitch dflt lo hi #[o0, o1, o2], len)) (hz : -2147483648 ≤ z ∧ z < 2147483648) (hh : hi = lo + 2) (e0 : (pc : Int) + o0 = (t0 : Int)) (e1 : (pc : Int) + o1 = (t1 : Int)) (e2 : (pc : Int) + o2 = (t2 : Int)) (ed : (pc : Int) + dflt = (td : Int)) (k0 : z = lo + 0 → Ev E y cc nL ret K bc bs t0 lv st hp) (k1 : z = lo + 1 → Ev E y cc nL ret K bc bs t1 lv st hp) (k2 : z = lo + 2 → Ev E y cc nL ret K bc bs t2 lv st hp) (kd : z < lo ∨ hi < z → Ev E y cc nL ret K bc bs td lv st hp) : Ev E y cc nL ret K bc bs pc lv (.int (jI z) :: st) hp := by
  by_cases h : z < lo ∨ hi < z
  · exact J_tableOut td hd hz h ed (kd h)
  by_cases h0 : z = lo + 0
  · exact J_tableIn t0 hd hz (by omega) (by rw [show (z - lo).toNat = 0 by omega]; rfl) e0 (k0 h0)
  by_cases h1 : z = lo + 1
  · exact J_tableIn t1 hd hz (by omega) (by rw [show (z - lo).toNat = 1 by omega]; rfl) e1 (k1 h1)
  by_cases h2 : z = lo + 2
  · exact J_tableIn t2 hd hz (by omega) (by rw [show (z - lo).toNat = 2 by omega]; rfl) e2 (k2 h2)
  exfalso; omega

theorem J_tab4 {dflt lo hi o0 o1 o2 o3 : Int} {len : Nat} {z : Int} (t0 t1 t2 t3 td : Nat) (hd : decode cc pc = .ok (.tableswitch dflt lo hi #[o0, o1, o2, o3], len)) (hz : -2147483648 ≤ z ∧ z < 2147483648) (hh : hi = lo + 3) (e0 : (pc : Int) + o0 = (t0 : Int)) (e1 : (pc : Int) + o1 = (t1 : Int)) (e2 : (pc : Int) + o2 = (t2 : Int)) (e3 : (pc : Int) + o3 = (t3 : Int)) (ed : (pc : Int) + dflt = (td : Int)) (k0 : z = lo + 0 → Ev E y cc nL ret K bc bs t0 lv st hp) (k1 : z = lo + 1 → Ev E y cc nL ret K bc bs t1 lv st hp) (k2 : z = lo + 2 → Ev E y cc nL ret K bc bs t2 lv st hp) (k3 : z = lo + 3 → Ev E y cc nL ret K bc bs t3 lv st hp) (kd : z < lo ∨ hi < z → Ev E y cc nL ret K bc bs td lv st hp) : Ev E y cc nL ret K bc bs pc lv (.int (jI z) :: st) hp := by
  by_cases h : z < lo ∨ hi < z
  · exact J_tableOut td hd hz h ed (kd h)
  by_cases h0 : z = lo + 0
  · exact J_tableIn t0 hd hz (by omega) (by rw [show (z - lo).toNat = 0 by omega]; rfl) e0 (k0 h0)
  by_cases h1 : z = lo + 1
  · exact J_tableIn t1 hd hz (by omega) (by rw [show (z - lo).toNat = 1 by omega]; rfl) e1 (k1 h1)
  by_cases h2 : z = lo + 2
  · exact J_tableIn t2 hd hz (by omega) (by rw [show (z - lo).toNat = 2 by omega]; rfl) e2 (k2 h2)
  by_cases h3 : z = lo + 3
  · exact J_tableIn t3 hd hz (by omega) (by rw [show (z - lo).toNat = 3 by omega]; rfl) e3 (k3 h3)
  exfalso; omega

theorem J_tab5 {dflt lo hi o0 o1 o2 o3 o4 : Int} {len : Nat} {z : Int} (t0 t1 t2 t3 t4 td : Nat) (hd : decode cc pc = .ok (.tableswitch dflt lo hi #[o0, o1, o2, o3, o4], len)) (hz : -2147483648 ≤ z ∧ z < 2147483648) (hh : hi = lo + 4) (e0 : (pc : Int) + o0 = (t0 : Int)) (e1 : (pc : Int) + o1 = (t1 : Int)) (e2 : (pc : Int) + o2 = (t2 : Int)) (e3 : (pc : Int) + o3 = (t3 : Int)) (e4 : (pc : Int) + o4 = (t4 : Int)) (ed : (pc : Int) + dflt = (td : Int)) (k0 : z = lo + 0 → Ev E y cc nL ret K bc bs t0 lv st hp) (k1 : z = lo + 1 → Ev E y cc nL ret K bc bs t1 lv st hp) (k2 : z = lo + 2 → Ev E y cc nL ret K bc bs t2 lv st hp) (k3 : z = lo + 3 → Ev E y cc nL ret K bc bs t3 lv st hp) (k4 : z = lo + 4 → Ev E y cc nL ret K bc bs t4 lv st hp) (kd : z < lo ∨ hi < z → Ev E y cc nL ret K bc bs td lv st hp) : Ev E y cc nL ret K bc bs pc lv (.int (jI z) :: st) hp := by
  by_cases h : z < lo ∨ hi < z
  · exact J_tableOut td hd hz h ed (kd h)
  by_cases h0 : z = lo + 0
  · exact J_tableIn t0 hd hz (by omega) (by rw [show (z - lo).toNat = 0 by omega]; rfl) e0 (k0 h0)
  by_cases h1 : z = lo + 1
  · exact J_tableIn t1 hd hz (by omega) (by rw [show (z - lo).toNat = 1 by omega]; rfl) e1 (k1 h1)
  by_cases h2 : z = lo + 2
  · exact J_tableIn t2 hd hz (by omega) (by rw [show (z - lo).toNat = 2 by omega]; rfl) e2 (k2 h2)
  by_cases h3 : z = lo + 3
  · exact J_tableIn t3 hd hz (by omega) (by rw [show (z - lo).toNat = 3 by omega]; rfl) e3 (k3 h3)
  by_cases h4 : z = lo + 4
  · exact J_tableIn t4 hd hz (by omega) (by rw [show (z - lo).toNat = 4 by omega]; rfl) e4 (k4 h4)
  exfalso; omega

theorem J_tab6 {dflt lo hi o0 o1 o2 o3 o4 o5 : Int} {len : Nat} {z : Int} (t0 t1 t2 t3 t4 t5 td : Nat) (hd : decode cc pc = .ok (.tableswitch dflt lo hi #[o0, o1, o2, o3, o4, o5], len)) (hz : -2147483648 ≤ z ∧ z < 2147483648) (hh : hi = lo + 5) (e0 : (pc : Int) + o0 = (t0 : Int)) (e1 : (pc : Int) + o1 = (t1 : Int)) (e2 : (pc : Int) + o2 = (t2 : Int)) (e3 : (pc : Int) + o3 = (t3 : Int)) (e4 : (pc : Int) + o4 = (t4 : Int)) (e5 : (pc : Int) + o5 = (t5 : Int)) (ed : (pc : Int) + dflt = (td : Int)) (k0 : z = lo + 0 → Ev E y cc nL ret K bc bs t0 lv st hp) (k1 : z = lo + 1 → Ev E y cc nL ret K bc bs t1 lv st hp) (k2 : z = lo + 2 → Ev E y cc nL ret K bc bs t2 lv st hp) (k3 : z = lo + 3 → Ev E y cc nL ret K bc bs t3 lv st hp) (k4 : z = lo + 4 → Ev E y cc nL ret K bc bs t4 lv st hp) (k5 : z = lo + 5 → Ev E y cc nL ret K bc bs t5 lv st hp) (kd : z < lo ∨ hi < z → Ev E y cc nL ret K bc bs td lv st hp) : Ev E y cc nL ret K bc bs pc lv (.int (jI z) :: st) hp := by
  by_cases h : z < lo ∨ hi < z
  · exact J_tableOut td hd hz h ed (kd h)
  by_cases h0 : z = lo + 0
  · exact J_tableIn t0 hd hz (by omega) (by rw [show (z - lo).toNat = 0 by omega]; rfl) e0 (k0 h0)
  by_cases h1 : z = lo + 1
  · exact J_tableIn t1 hd hz (by omega) (by rw [show (z - lo).toNat = 1 by omega]; rfl) e1 (k1 h1)
  by_cases h2 : z = lo + 2
  · exact J_tableIn t2 hd hz (by omega) (by rw [show (z - lo).toNat = 2 by omega]; rfl) e2 (k2 h2)
  by_cases h3 : z = lo + 3
  · exact J_tableIn t3 hd hz (by omega) (by rw [show (z - lo).toNat = 3 by omega]; rfl) e3 (k3 h3)
  by_cases h4 : z = lo + 4
  · exact J_tableIn t4 hd hz (by omega) (by rw [show (z - lo).toNat = 4 by omega]; rfl) e4 (k4 h4)
  by_cases h5 : z = lo + 5
  · exact J_tableIn t5 hd hz (by omega) (by rw [show (z - lo).toNat = 5 by omega]; rfl) e5 (k5 h5)
  exfalso; omega

theorem J_tab7 {dflt lo hi o0 o1 o2 o3 o4 o5 o6 : Int} {len : Nat} {z : Int} (t0 t1 t2 t3 t4 t5 t6 td : Nat) (hd : decode cc pc = .ok (.tableswitch dflt lo hi #[o0, o1, o2, o3, o4, o5, o6], len)) (hz : -2147483648 ≤ z ∧ z < 2147483648) (hh : hi = lo + 6) (e0 : (pc : Int) + o0 = (t0 : Int)) (e1 : (pc : Int) + o1 = (t1 : Int)) (e2 : (pc : Int) + o2 = (t2 : Int)) (e3 : (pc : Int) + o3 = (t3 : Int)) (e4 : (pc : Int) + o4 = (t4 : Int)) (e5 : (pc : Int) + o5 = (t5 : Int)) (e6 : (pc : Int) + o6 = (t6 : Int)) (ed : (pc : Int) + dflt = (td : Int)) (k0 : z = lo + 0 → Ev E y cc nL ret K bc bs t0 lv st hp) (k1 : z = lo + 1 → Ev E y cc nL ret K bc bs t1 lv st hp) (k2 : z = lo + 2 → Ev E y cc nL ret K bc bs t2 lv st hp) (k3 : z = lo + 3 → Ev E y cc nL ret K bc bs t3 lv st hp) (k4 : z = lo + 4 → Ev E y cc nL ret K bc bs t4 lv st hp) (k5 : z = lo + 5 → Ev E y cc nL ret K bc bs t5 lv st hp) (k6 : z = lo + 6 → Ev E y cc nL ret K bc bs t6 lv st hp) (kd : z < lo ∨ hi < z → Ev E y cc nL ret K bc bs td lv st hp) : Ev E y cc nL ret K bc bs pc lv (.int (jI z) :: st) hp := by
  by_cases h : z < lo ∨ hi < z
  · exact J_tableOut td hd hz h ed (kd h)
  by_cases h0 : z = lo + 0
  · exact J_tableIn t0 hd hz (by omega) (by rw [show (z - lo).toNat = 0 by omega]; rfl) e0 (k0 h0)
  by_cases h1 : z = lo + 1
  · exact J_tableIn t1 hd hz (by omega) (by rw [show (z - lo).toNat = 1 by omega]; rfl) e1 (k1 h1)
  by_cases h2 : z = lo + 2
  · exact J_tableIn t2 hd hz (by omega) (by rw [show (z - lo).toNat = 2 by omega]; rfl) e2 (k2 h2)
  by_cases h3 : z = lo + 3
  · exact J_tableIn t3 hd hz (by omega) (by rw [show (z - lo).toNat = 3 by omega]; rfl) e3 (k3 h3)
  by_cases h4 : z = lo + 4
  · exact J_tableIn t4 hd hz (by omega) (by rw [show (z - lo).toNat = 4 by omega]; rfl) e4 (k4 h4)
  by_cases h5 : z = lo + 5
  · exact J_tableIn t5 hd hz (by omega) (by rw [show (z - lo).toNat = 5 by omega]; rfl) e5 (k5 h5)
  by_cases h6 : z = lo + 6
  · exact J_tableIn t6 hd hz (by omega) (by rw [show (z - lo).toNat = 6 by omega]; rfl) e6 (k6 h6)
  exfalso; omega

theorem J_tab21 {dflt lo hi o0 o1 o2 o3 o4 o5 o6 o7 o8 o9 o10 o11 o12 o13 o14 o15 o16 o17 o18 o19 o20 : Int} {len : Nat} {z : Int} (t0 t1 t2 t3 t4 t5 t6 t7 t8 t9 t10 t11 t12 t13 t14 t15 t16 t17 t18 t19 t20 td : Nat) (hd : decode cc pc = .ok (.tableswitch dflt lo hi #[o0, o1, o2, o3, o4, o5, o6, o7, o8, o9, o10, o11, o12, o13, o14, o15, o16, o17, o18, o19, o20], len)) (hz : -2147483648 ≤ z ∧ z < 2147483648) (hh : hi = lo + 20) (e0 : (pc : Int) + o0 = (t0 : Int)) (e1 : (pc : Int) + o1 = (t1 : Int)) (e2 : (pc : Int) + o2 = (t2 : Int)) (e3 : (pc : Int) + o3 = (t3 : Int)) (e4 : (pc : Int) + o4 = (t4 : Int)) (e5 : (pc : Int) + o5 = (t5 : Int)) (e6 : (pc : Int) + o6 = (t6 : Int)) (e7 : (pc : Int) + o7 = (t7 : Int)) (e8 : (pc : Int) + o8 = (t8 : Int)) (e9 : (pc : Int) + o9 = (t9 : Int)) (e10 : (pc : Int) + o10 = (t10 : Int)) (e11 : (pc : Int) + o11 = (t11 : Int)) (e12 : (pc : Int) + o12 = (t12 : Int)) (e13 : (pc : Int) + o13 = (t13 : Int)) (e14 : (pc : Int) + o14 = (t14 : Int)) (e15 : (pc : Int) + o15 = (t15 : Int)) (e16 : (pc : Int) + o16 = (t16 : Int)) (e17 : (pc : Int) + o17 = (t17 : Int)) (e18 : (pc : Int) + o18 = (t18 : Int)) (e19 : (pc : Int) + o19 = (t19 : Int)) (e20 : (pc : Int) + o20 = (t20 : Int)) (ed : (pc : Int) + dflt = (td : Int)) (k0 : z = lo + 0 → Ev E y cc nL ret K bc bs t0 lv st hp) (k1 : z = lo + 1 → Ev E y cc nL ret K bc bs t1 lv st hp) (k2 : z = lo + 2 → Ev E y cc nL ret K bc bs t2 lv st hp) (k3 : z = lo + 3 → Ev E y cc nL ret K bc bs t3 lv st hp) (k4 : z = lo + 4 → Ev E y cc nL ret K bc bs t4 lv st hp) (k5 : z = lo + 5 → Ev E y cc nL ret K bc bs t5 lv st hp) (k6 : z = lo + 6 → Ev E y cc nL ret K bc bs t6 lv st hp) (k7 : z = lo + 7 → Ev E y cc nL ret K bc bs t7 lv st hp) (k8 : z = lo + 8 → Ev E y cc nL ret K bc bs t8 lv st hp) (k9 : z = lo + 9 → Ev E y cc nL ret K bc bs t9 lv st hp) (k10 : z = lo + 10 → Ev E y cc nL ret K bc bs t10 lv st hp) (k11 : z = lo + 11 → Ev E y cc nL ret K bc bs t11 lv st hp) (k12 : z = lo + 12 → Ev E y cc nL ret K bc bs t12 lv st hp) (k13 : z = lo + 13 → Ev E y cc nL ret K bc bs t13 lv st hp) (k14 : z = lo + 14 → Ev E y cc nL ret K bc bs t14 lv st hp) (k15 : z = lo + 15 → Ev E y cc nL ret K bc bs t15 lv st hp) (k16 : z = lo + 16 → Ev E y cc nL ret K bc bs t16 lv st hp) (k17 : z = lo + 17 → Ev E y cc nL ret K bc bs t17 lv st hp) (k18 : z = lo + 18 → Ev E y cc nL ret K bc bs t18 lv st hp) (k19 : z = lo + 19 → Ev E y cc nL ret K bc bs t19 lv st hp) (k20 : z = lo + 20 → Ev E y cc nL ret K bc bs t20 lv st hp) (kd : z < lo ∨ hi < z → Ev E y cc nL ret K bc bs td lv st hp) : Ev E y cc nL ret K bc bs pc lv (.int (jI z) :: st) hp := by
  by_cases h : z < lo ∨ hi < z
  · exact J_tableOut td hd hz h ed (kd h)
  by_cases h0 : z = lo + 0
  · exact J_tableIn t0 hd hz (by omega) (by rw [show (z - lo).toNat = 0 by omega]; rfl) e0 (k0 h0)
  by_cases h1 : z = lo + 1
  · exact J_tableIn t1 hd hz (by omega) (by rw [show (z - lo).toNat = 1 by omega]; rfl) e1 (k1 h1)
  by_cases h2 : z = lo + 2
  · exact J_tableIn t2 hd hz (by omega) (by rw [show (z - lo).toNat = 2 by omega]; rfl) e2 (k2 h2)
  by_cases h3 : z = lo + 3
  · exact J_tableIn t3 hd hz (by omega) (by rw [show (z - lo).toNat = 3 by omega]; rfl) e3 (k3 h3)
  by_cases h4 : z = lo + 4
  · exact J_tableIn t4 hd hz (by omega) (by rw [show (z - lo).toNat = 4 by omega]; rfl) e4 (k4 h4)
  by_cases h5 : z = lo + 5
  · exact J_tableIn t5 hd hz (by omega) (by rw [show (z - lo).toNat = 5 by omega]; rfl) e5 (k5 h5)
  by_cases h6 : z = lo + 6
  · exact J_tableIn t6 hd hz (by omega) (by rw [show (z - lo).toNat = 6 by omega]; rfl) e6 (k6 h6)
  by_cases h7 : z = lo + 7
  · exact J_tableIn t7 hd hz (by omega) (by rw [show (z - lo).toNat = 7 by omega]; rfl) e7 (k7 h7)
  by_cases h8 : z = lo + 8
  · exact J_tableIn t8 hd hz (by omega) (by rw [show (z - lo).toNat = 8 by omega]; rfl) e8 (k8 h8)
  by_cases h9 : z = lo + 9
  · exact J_tableIn t9 hd hz (by omega) (by rw [show (z - lo).toNat = 9 by omega]; rfl) e9 (k9 h9)
  by_cases h10 : z = lo + 10
  · exact J_tableIn t10 hd hz (by omega) (by rw [show (z - lo).toNat = 10 by omega]; rfl) e10 (k10 h10)
  by_cases h11 : z = lo + 11
  · exact J_tableIn t11 hd hz (by omega) (by rw [show (z - lo).toNat = 11 by omega]; rfl) e11 (k11 h11)
  by_cases h12 : z = lo + 12
  · exact J_tableIn t12 hd hz (by omega) (by rw [show (z - lo).toNat = 12 by omega]; rfl) e12 (k12 h12)
  by_cases h13 : z = lo + 13
  · exact J_tableIn t13 hd hz (by omega) (by rw [show (z - lo).toNat = 13 by omega]; rfl) e13 (k13 h13)
  by_cases h14 : z = lo + 14
  · exact J_tableIn t14 hd hz (by omega) (by rw [show (z - lo).toNat = 14 by omega]; rfl) e14 (k14 h14)
  by_cases h15 : z = lo + 15
  · exact J_tableIn t15 hd hz (by omega) (by rw [show (z - lo).toNat = 15 by omega]; rfl) e15 (k15 h15)
  by_cases h16 : z = lo + 16
  · exact J_tableIn t16 hd hz (by omega) (by rw [show (z - lo).toNat = 16 by omega]; rfl) e16 (k16 h16)
  by_cases h17 : z = lo + 17
  · exact J_tableIn t17 hd hz (by omega) (by rw [show (z - lo).toNat = 17 by omega]; rfl) e17 (k17 h17)
  by_cases h18 : z = lo + 18
  · exact J_tableIn t18 hd hz (by omega) (by rw [show (z - lo).toNat = 18 by omega]; rfl) e18 (k18 h18)
  by_cases h19 : z = lo + 19
  · exact J_tableIn t19 hd hz (by omega) (by rw [show (z - lo).toNat = 19 by omega]; rfl) e19 (k19 h19)
  by_cases h20 : z = lo + 20
  · exact J_tableIn t20 hd hz (by omega) (by rw [show (z - lo).toNat = 20 by omega]; rfl) e20 (k20 h20)
  exfalso; omega

theorem J_tab28 {dflt lo hi o0 o1 o2 o3 o4 o5 o6 o7 o8 o9 o10 o11 o12 o13 o14 o15 o16 o17 o18 o19 o20 o21 o22 o23 o24 o25 o26 o27 : Int} {len : Nat} {z : Int} (t0 t1 t2 t3 t4 t5 t6 t7 t8 t9 t10 t11 t12 t13 t14 t15 t16 t17 t18 t19 t20 t21 t22 t23 t24 t25 t26 t27 td : Nat) (hd : decode cc pc = .ok (.tableswitch dflt lo hi #[o0, o1, o2, o3, o4, o5, o6, o7, o8, o9, o10, o11, o12, o13, o14, o15, o16, o17, o18, o19, o20, o21, o22, o23, o24, o25, o26, o27], len)) (hz : -2147483648 ≤ z ∧ z < 2147483648) (hh : hi = lo + 27) (e0 : (pc : Int) + o0 = (t0 : Int)) (e1 : (pc : Int) + o1 = (t1 : Int)) (e2 : (pc : Int) + o2 = (t2 : Int)) (e3 : (pc : Int) + o3 = (t3 : Int)) (e4 : (pc : Int) + o4 = (t4 : Int)) (e5 : (pc : Int) + o5 = (t5 : Int)) (e6 : (pc : Int) + o6 = (t6 : Int)) (e7 : (pc : Int) + o7 = (t7 : Int)) (e8 : (pc : Int) + o8 = (t8 : Int)) (e9 : (pc : Int) + o9 = (t9 : Int)) (e10 : (pc : Int) + o10 = (t10 : Int)) (e11 : (pc : Int) + o11 = (t11 : Int)) (e12 : (pc : Int) + o12 = (t12 : Int)) (e13 : (pc : Int) + o13 = (t13 : Int)) (e14 : (pc : Int) + o14 = (t14 : Int)) (e15 : (pc : Int) + o15 = (t15 : Int)) (e16 : (pc : Int) + o16 = (t16 : Int)) (e17 : (pc : Int) + o17 = (t17 : Int)) (e18 : (pc : Int) + o18 = (t18 : Int)) (e19 : (pc : Int) + o19 = (t19 : Int)) (e20 : (pc : Int) + o20 = (t20 : Int)) (e21 : (pc : Int) + o21 = (t21 : Int)) (e22 : (pc : Int) + o22 = (t22 : Int)) (e23 : (pc : Int) + o23 = (t23 : Int)) (e24 : (pc : Int) + o24 = (t24 : Int)) (e25 : (pc : Int) + o25 = (t25 : Int)) (e26 : (pc : Int) + o26 = (t26 : Int)) (e27 : (pc : Int) + o27 = (t27 : Int)) (ed : (pc : Int) + dflt = (td : Int)) (k0 : z = lo + 0 → Ev E y cc nL ret K bc bs t0 lv st hp) (k1 : z = lo + 1 → Ev E y cc nL ret K bc bs t1 lv st hp) (k2 : z = lo + 2 → Ev E y cc nL ret K bc bs t2 lv st hp) (k3 : z = lo + 3 → Ev E y cc nL ret K bc bs t3 lv st hp) (k4 : z = lo + 4 → Ev E y cc nL ret K bc bs t4 lv st hp) (k5 : z = lo + 5 → Ev E y cc nL ret K bc bs t5 lv st hp) (k6 : z = lo + 6 → Ev E y cc nL ret K bc bs t6 lv st hp) (k7 : z = lo + 7 → Ev E y cc nL ret K bc bs t7 lv st hp) (k8 : z = lo + 8 → Ev E y cc nL ret K bc bs t8 lv st hp) (k9 : z = lo + 9 → Ev E y cc nL ret K bc bs t9 lv st hp) (k10 : z = lo + 10 → Ev E y cc nL ret K bc bs t10 lv st hp) (k11 : z = lo + 11 → Ev E y cc nL ret K bc bs t11 lv st hp) (k12 : z = lo + 12 → Ev E y cc nL ret K bc bs t12 lv st hp) (k13 : z = lo + 13 → Ev E y cc nL ret K bc bs t13 lv st hp) (k14 : z = lo + 14 → Ev E y cc nL ret K bc bs t14 lv st hp) (k15 : z = lo + 15 → Ev E y cc nL ret K bc bs t15 lv st hp) (k16 : z = lo + 16 → Ev E y cc nL ret K bc bs t16 lv st hp) (k17 : z = lo + 17 → Ev E y cc nL ret K bc bs t17 lv st hp) (k18 : z = lo + 18 → Ev E y cc nL ret K bc bs t18 lv st hp) (k19 : z = lo + 19 → Ev E y cc nL ret K bc bs t19 lv st hp) (k20 : z = lo + 20 → Ev E y cc nL ret K bc bs t20 lv st hp) (k21 : z = lo + 21 → Ev E y cc nL ret K bc bs t21 lv st hp) (k22 : z = lo + 22 → Ev E y cc nL ret K bc bs t22 lv st hp) (k23 : z = lo + 23 → Ev E y cc nL ret K bc bs t23 lv st hp) (k24 : z = lo + 24 → Ev E y cc nL ret K bc bs t24 lv st hp) (k25 : z = lo + 25 → Ev E y cc nL ret K bc bs t25 lv st hp) (k26 : z = lo + 26 → Ev E y cc nL ret K bc bs t26 lv st hp) (k27 : z = lo + 27 → Ev E y cc nL ret K bc bs t27 lv st hp) (kd : z < lo ∨ hi < z → Ev E y cc nL ret K bc bs td lv st hp) : Ev E y cc nL ret K bc bs pc lv (.int (jI z) :: st) hp := by
  by_cases h : z < lo ∨ hi < z
  · exact J_tableOut td hd hz h ed (kd h)
  by_cases h0 : z = lo + 0
  · exact J_tableIn t0 hd hz (by omega) (by rw [show (z - lo).toNat = 0 by omega]; rfl) e0 (k0 h0)
  by_cases h1 : z = lo + 1
  · exact J_tableIn t1 hd hz (by omega) (by rw [show (z - lo).toNat = 1 by omega]; rfl) e1 (k1 h1)
  by_cases h2 : z = lo + 2
  · exact J_tableIn t2 hd hz (by omega) (by rw [show (z - lo).toNat = 2 by omega]; rfl) e2 (k2 h2)
  by_cases h3 : z = lo + 3
  · exact J_tableIn t3 hd hz (by omega) (by rw [show (z - lo).toNat = 3 by omega]; rfl) e3 (k3 h3)
  by_cases h4 : z = lo + 4
  · exact J_tableIn t4 hd hz (by omega) (by rw [show (z - lo).toNat = 4 by omega]; rfl) e4 (k4 h4)
  by_cases h5 : z = lo + 5
  · exact J_tableIn t5 hd hz (by omega) (by rw [show (z - lo).toNat = 5 by omega]; rfl) e5 (k5 h5)
  by_cases h6 : z = lo + 6
  · exact J_tableIn t6 hd hz (by omega) (by rw [show (z - lo).toNat = 6 by omega]; rfl) e6 (k6 h6)
  by_cases h7 : z = lo + 7
  · exact J_tableIn t7 hd hz (by omega) (by rw [show (z - lo).toNat = 7 by omega]; rfl) e7 (k7 h7)
  by_cases h8 : z = lo + 8
  · exact J_tableIn t8 hd hz (by omega) (by rw [show (z - lo).toNat = 8 by omega]; rfl) e8 (k8 h8)
  by_cases h9 : z = lo + 9
  · exact J_tableIn t9 hd hz (by omega) (by rw [show (z - lo).toNat = 9 by omega]; rfl) e9 (k9 h9)
  by_cases h10 : z = lo + 10
  · exact J_tableIn t10 hd hz (by omega) (by rw [show (z - lo).toNat = 10 by omega]; rfl) e10 (k10 h10)
  by_cases h11 : z = lo + 11
  · exact J_tableIn t11 hd hz (by omega) (by rw [show (z - lo).toNat = 11 by omega]; rfl) e11 (k11 h11)
  by_cases h12 : z = lo + 12
  · exact J_tableIn t12 hd hz (by omega) (by rw [show (z - lo).toNat = 12 by omega]; rfl) e12 (k12 h12)
  by_cases h13 : z = lo + 13
  · exact J_tableIn t13 hd hz (by omega) (by rw [show (z - lo).toNat = 13 by omega]; rfl) e13 (k13 h13)
  by_cases h14 : z = lo + 14
  · exact J_tableIn t14 hd hz (by omega) (by rw [show (z - lo).toNat = 14 by omega]; rfl) e14 (k14 h14)
  by_cases h15 : z = lo + 15
  · exact J_tableIn t15 hd hz (by omega) (by rw [show (z - lo).toNat = 15 by omega]; rfl) e15 (k15 h15)
  by_cases h16 : z = lo + 16
  · exact J_tableIn t16 hd hz (by omega) (by rw [show (z - lo).toNat = 16 by omega]; rfl) e16 (k16 h16)
  by_cases h17 : z = lo + 17
  · exact J_tableIn t17 hd hz (by omega) (by rw [show (z - lo).toNat = 17 by omega]; rfl) e17 (k17 h17)
  by_cases h18 : z = lo + 18
  · exact J_tableIn t18 hd hz (by omega) (by rw [show (z - lo).toNat = 18 by omega]; rfl) e18 (k18 h18)
  by_cases h19 : z = lo + 19
  · exact J_tableIn t19 hd hz (by omega) (by rw [show (z - lo).toNat = 19 by omega]; rfl) e19 (k19 h19)
  by_cases h20 : z = lo + 20
  · exact J_tableIn t20 hd hz (by omega) (by rw [show (z - lo).toNat = 20 by omega]; rfl) e20 (k20 h20)
  by_cases h21 : z = lo + 21
  · exact J_tableIn t21 hd hz (by omega) (by rw [show (z - lo).toNat = 21 by omega]; rfl) e21 (k21 h21)
  by_cases h22 : z = lo + 22
  · exact J_tableIn t22 hd hz (by omega) (by rw [show (z - lo).toNat = 22 by omega]; rfl) e22 (k22 h22)
  by_cases h23 : z = lo + 23
  · exact J_tableIn t23 hd hz (by omega) (by rw [show (z - lo).toNat = 23 by omega]; rfl) e23 (k23 h23)
  by_cases h24 : z = lo + 24
  · exact J_tableIn t24 hd hz (by omega) (by rw [show (z - lo).toNat = 24 by omega]; rfl) e24 (k24 h24)
  by_cases h25 : z = lo + 25
  · exact J_tableIn t25 hd hz (by omega) (by rw [show (z - lo).toNat = 25 by omega]; rfl) e25 (k25 h25)
  by_cases h26 : z = lo + 26
  · exact J_tableIn t26 hd hz (by omega) (by rw [show (z - lo).toNat = 26 by omega]; rfl) e26 (k26 h26)
  by_cases h27 : z = lo + 27
  · exact J_tableIn t27 hd hz (by omega) (by rw [show (z - lo).toNat = 27 by omega]; rfl) e27 (k27 h27)
  exfalso; omega

theorem J_tab50 {dflt lo hi o0 o1 o2 o3 o4 o5 o6 o7 o8 o9 o10 o11 o12 o13 o14 o15 o16 o17 o18 o19 o20 o21 o22 o23 o24 o25 o26 o27 o28 o29 o30 o31 o32 o33 o34 o35 o36 o37 o38 o39 o40 o41 o42 o43 o44 o45 o46 o47 o48 o49 : Int} {len : Nat} {z : Int} (t0 t1 t2 t3 t4 t5 t6 t7 t8 t9 t10 t11 t12 t13 t14 t15 t16 t17 t18 t19 t20 t21 t22 t23 t24 t25 t26 t27 t28 t29 t30 t31 t32 t33 t34 t35 t36 t37 t38 t39 t40 t41 t42 t43 t44 t45 t46 t47 t48 t49 td : Nat) (hd : decode cc pc = .ok (.tableswitch dflt lo hi #[o0, o1, o2, o3, o4, o5, o6, o7, o8, o9, o10, o11, o12, o13, o14, o15, o16, o17, o18, o19, o20, o21, o22, o23, o24, o25, o26, o27, o28, o29, o30, o31, o32, o33, o34, o35, o36, o37, o38, o39, o40, o41, o42, o43, o44, o45, o46, o47, o48, o49], len)) (hz : -2147483648 ≤ z ∧ z < 2147483648) (hh : hi = lo + 49) (e0 : (pc : Int) + o0 = (t0 : Int)) (e1 : (pc : Int) + o1 = (t1 : Int)) (e2 : (pc : Int) + o2 = (t2 : Int)) (e3 : (pc : Int) + o3 = (t3 : Int)) (e4 : (pc : Int) + o4 = (t4 : Int)) (e5 : (pc : Int) + o5 = (t5 : Int)) (e6 : (pc : Int) + o6 = (t6 : Int)) (e7 : (pc : Int) + o7 = (t7 : Int)) (e8 : (pc : Int) + o8 = (t8 : Int)) (e9 : (pc : Int) + o9 = (t9 : Int)) (e10 : (pc : Int) + o10 = (t10 : Int)) (e11 : (pc : Int) + o11 = (t11 : Int)) (e12 : (pc : Int) + o12 = (t12 : Int)) (e13 : (pc : Int) + o13 = (t13 : Int)) (e14 : (pc : Int) + o14 = (t14 : Int)) (e15 : (pc : Int) + o15 = (t15 : Int)) (e16 : (pc : Int) + o16 = (t16 : Int)) (e17 : (pc : Int) + o17 = (t17 : Int)) (e18 : (pc : Int) + o18 = (t18 : Int)) (e19 : (pc : Int) + o19 = (t19 : Int)) (e20 : (pc : Int) + o20 = (t20 : Int)) (e21 : (pc : Int) + o21 = (t21 : Int)) (e22 : (pc : Int) + o22 = (t22 : Int)) (e23 : (pc : Int) + o23 = (t23 : Int)) (e24 : (pc : Int) + o24 = (t24 : Int)) (e25 : (pc : Int) + o25 = (t25 : Int)) (e26 : (pc : Int) + o26 = (t26 : Int)) (e27 : (pc : Int) + o27 = (t27 : Int)) (e28 : (pc : Int) + o28 = (t28 : Int)) (e29 : (pc : Int) + o29 = (t29 : Int)) (e30 : (pc : Int) + o30 = (t30 : Int)) (e31 : (pc : Int) + o31 = (t31 : Int)) (e32 : (pc : Int) + o32 = (t32 : Int)) (e33 : (pc : Int) + o33 = (t33 : Int)) (e34 : (pc : Int) + o34 = (t34 : Int)) (e35 : (pc : Int) + o35 = (t35 : Int)) (e36 : (pc : Int) + o36 = (t36 : Int)) (e37 : (pc : Int) + o37 = (t37 : Int)) (e38 : (pc : Int) + o38 = (t38 : Int)) (e39 : (pc : Int) + o39 = (t39 : Int)) (e40 : (pc : Int) + o40 = (t40 : Int)) (e41 : (pc : Int) + o41 = (t41 : Int)) (e42 : (pc : Int) + o42 = (t42 : Int)) (e43 : (pc : Int) + o43 = (t43 : Int)) (e44 : (pc : Int) + o44 = (t44 : Int)) (e45 : (pc : Int) + o45 = (t45 : Int)) (e46 : (pc : Int) + o46 = (t46 : Int)) (e47 : (pc : Int) + o47 = (t47 : Int)) (e48 : (pc : Int) + o48 = (t48 : Int)) (e49 : (pc : Int) + o49 = (t49 : Int)) (ed : (pc : Int) + dflt = (td : Int)) (k0 : z = lo + 0 → Ev E y cc nL ret K bc bs t0 lv st hp) (k1 : z = lo + 1 → Ev E y cc nL ret K bc bs t1 lv st hp) (k2 : z = lo + 2 → Ev E y cc nL ret K bc bs t2 lv st hp) (k3 : z = lo + 3 → Ev E y cc nL ret K bc bs t3 lv st hp) (k4 : z = lo + 4 → Ev E y cc nL ret K bc bs t4 lv st hp) (k5 : z = lo + 5 → Ev E y cc nL ret K bc bs t5 lv st hp) (k6 : z = lo + 6 → Ev E y cc nL ret K bc bs t6 lv st hp) (k7 : z = lo + 7 → Ev E y cc nL ret K bc bs t7 lv st hp) (k8 : z = lo + 8 → Ev E y cc nL ret K bc bs t8 lv st hp) (k9 : z = lo + 9 → Ev E y cc nL ret K bc bs t9 lv st hp) (k10 : z = lo + 10 → Ev E y cc nL ret K bc bs t10 lv st hp) (k11 : z = lo + 11 → Ev E y cc nL ret K bc bs t11 lv st hp) (k12 : z = lo + 12 → Ev E y cc nL ret K bc bs t12 lv st hp) (k13 : z = lo + 13 → Ev E y cc nL ret K bc bs t13 lv st hp) (k14 : z = lo + 14 → Ev E y cc nL ret K bc bs t14 lv st hp) (k15 : z = lo + 15 → Ev E y cc nL ret K bc bs t15 lv st hp) (k16 : z = lo + 16 → Ev E y cc nL ret K bc bs t16 lv st hp) (k17 : z = lo + 17 → Ev E y cc nL ret K bc bs t17 lv st hp) (k18 : z = lo + 18 → Ev E y cc nL ret K bc bs t18 lv st hp) (k19 : z = lo + 19 → Ev E y cc nL ret K bc bs t19 lv st hp) (k20 : z = lo + 20 → Ev E y cc nL ret K bc bs t20 lv st hp) (k21 : z = lo + 21 → Ev E y cc nL ret K bc bs t21 lv st hp) (k22 : z = lo + 22 → Ev E y cc nL ret K bc bs t22 lv st hp) (k23 : z = lo + 23 → Ev E y cc nL ret K bc bs t23 lv st hp) (k24 : z = lo + 24 → Ev E y cc nL ret K bc bs t24 lv st hp) (k25 : z = lo + 25 → Ev E y cc nL ret K bc bs t25 lv st hp) (k26 : z = lo + 26 → Ev E y cc nL ret K bc bs t26 lv st hp) (k27 : z = lo + 27 → Ev E y cc nL ret K bc bs t27 lv st hp) (k28 : z = lo + 28 → Ev E y cc nL ret K bc bs t28 lv st hp) (k29 : z = lo + 29 → Ev E y cc nL ret K bc bs t29 lv st hp) (k30 : z = lo + 30 → Ev E y cc nL ret K bc bs t30 lv st hp) (k31 : z = lo + 31 → Ev E y cc nL ret K bc bs t31 lv st hp) (k32 : z = lo + 32 → Ev E y cc nL ret K bc bs t32 lv st hp) (k33 : z = lo + 33 → Ev E y cc nL ret K bc bs t33 lv st hp) (k34 : z = lo + 34 → Ev E y cc nL ret K bc bs t34 lv st hp) (k35 : z = lo + 35 → Ev E y cc nL ret K bc bs t35 lv st hp) (k36 : z = lo + 36 → Ev E y cc nL ret K bc bs t36 lv st hp) (k37 : z = lo + 37 → Ev E y cc nL ret K bc bs t37 lv st hp) (k38 : z = lo + 38 → Ev E y cc nL ret K bc bs t38 lv st hp) (k39 : z = lo + 39 → Ev E y cc nL ret K bc bs t39 lv st hp) (k40 : z = lo + 40 → Ev E y cc nL ret K bc bs t40 lv st hp) (k41 : z = lo + 41 → Ev E y cc nL ret K bc bs t41 lv st hp) (k42 : z = lo + 42 → Ev E y cc nL ret K bc bs t42 lv st hp) (k43 : z = lo + 43 → Ev E y cc nL ret K bc bs t43 lv st hp) (k44 : z = lo + 44 → Ev E y cc nL ret K bc bs t44 lv st hp) (k45 : z = lo + 45 → Ev E y cc nL ret K bc bs t45 lv st hp) (k46 : z = lo + 46 → Ev E y cc nL ret K bc bs t46 lv st hp) (k47 : z = lo + 47 → Ev E y cc nL ret K bc bs t47 lv st hp) (k48 : z = lo + 48 → Ev E y cc nL ret K bc bs t48 lv st hp) (k49 : z = lo + 49 → Ev E y cc nL ret K bc bs t49 lv st hp) (kd : z < lo ∨ hi < z → Ev E y cc nL ret K bc bs td lv st hp) : Ev E y cc nL ret K bc bs pc lv (.int (jI z) :: st) hp := by
  by_cases h : z < lo ∨ hi < z
  · exact J_tableOut td hd hz h ed (kd h)
  by_cases h0 : z = lo + 0
  · exact J_tableIn t0 hd hz (by omega) (by rw [show (z - lo).toNat = 0 by omega]; rfl) e0 (k0 h0)
  by_cases h1 : z = lo + 1
  · exact J_tableIn t1 hd hz (by omega) (by rw [show (z - lo).toNat = 1 by omega]; rfl) e1 (k1 h1)
  by_cases h2 : z = lo + 2
  · exact J_tableIn t2 hd hz (by omega) (by rw [show (z - lo).toNat = 2 by omega]; rfl) e2 (k2 h2)
  by_cases h3 : z = lo + 3
  · exact J_tableIn t3 hd hz (by omega) (by rw [show (z - lo).toNat = 3 by omega]; rfl) e3 (k3 h3)
  by_cases h4 : z = lo + 4
  · exact J_tableIn t4 hd hz (by omega) (by rw [show (z - lo).toNat = 4 by omega]; rfl) e4 (k4 h4)
  by_cases h5 : z = lo + 5
  · exact J_tableIn t5 hd hz (by omega) (by rw [show (z - lo).toNat = 5 by omega]; rfl) e5 (k5 h5)
  by_cases h6 : z = lo + 6
  · exact J_tableIn t6 hd hz (by omega) (by rw [show (z - lo).toNat = 6 by omega]; rfl) e6 (k6 h6)
  by_cases h7 : z = lo + 7
  · exact J_tableIn t7 hd hz (by omega) (by rw [show (z - lo).toNat = 7 by omega]; rfl) e7 (k7 h7)
  by_cases h8 : z = lo + 8
  · exact J_tableIn t8 hd hz (by omega) (by rw [show (z - lo).toNat = 8 by omega]; rfl) e8 (k8 h8)
  by_cases h9 : z = lo + 9
  · exact J_tableIn t9 hd hz (by omega) (by rw [show (z - lo).toNat = 9 by omega]; rfl) e9 (k9 h9)
  by_cases h10 : z = lo + 10
  · exact J_tableIn t10 hd hz (by omega) (by rw [show (z - lo).toNat = 10 by omega]; rfl) e10 (k10 h10)
  by_cases h11 : z = lo + 11
  · exact J_tableIn t11 hd hz (by omega) (by rw [show (z - lo).toNat = 11 by omega]; rfl) e11 (k11 h11)
  by_cases h12 : z = lo + 12
  · exact J_tableIn t12 hd hz (by omega) (by rw [show (z - lo).toNat = 12 by omega]; rfl) e12 (k12 h12)
  by_cases h13 : z = lo + 13
  · exact J_tableIn t13 hd hz (by omega) (by rw [show (z - lo).toNat = 13 by omega]; rfl) e13 (k13 h13)
  by_cases h14 : z = lo + 14
  · exact J_tableIn t14 hd hz (by omega) (by rw [show (z - lo).toNat = 14 by omega]; rfl) e14 (k14 h14)
  by_cases h15 : z = lo + 15
  · exact J_tableIn t15 hd hz (by omega) (by rw [show (z - lo).toNat = 15 by omega]; rfl) e15 (k15 h15)
  by_cases h16 : z = lo + 16
  · exact J_tableIn t16 hd hz (by omega) (by rw [show (z - lo).toNat = 16 by omega]; rfl) e16 (k16 h16)
  by_cases h17 : z = lo + 17
  · exact J_tableIn t17 hd hz (by omega) (by rw [show (z - lo).toNat = 17 by omega]; rfl) e17 (k17 h17)
  by_cases h18 : z = lo + 18
  · exact J_tableIn t18 hd hz (by omega) (by rw [show (z - lo).toNat = 18 by omega]; rfl) e18 (k18 h18)
  by_cases h19 : z = lo + 19
  · exact J_tableIn t19 hd hz (by omega) (by rw [show (z - lo).toNat = 19 by omega]; rfl) e19 (k19 h19)
  by_cases h20 : z = lo + 20
  · exact J_tableIn t20 hd hz (by omega) (by rw [show (z - lo).toNat = 20 by omega]; rfl) e20 (k20 h20)
  by_cases h21 : z = lo + 21
  · exact J_tableIn t21 hd hz (by omega) (by rw [show (z - lo).toNat = 21 by omega]; rfl) e21 (k21 h21)
  by_cases h22 : z = lo + 22
  · exact J_tableIn t22 hd hz (by omega) (by rw [show (z - lo).toNat = 22 by omega]; rfl) e22 (k22 h22)
  by_cases h23 : z = lo + 23
  · exact J_tableIn t23 hd hz (by omega) (by rw [show (z - lo).toNat = 23 by omega]; rfl) e23 (k23 h23)
  by_cases h24 : z = lo + 24
  · exact J_tableIn t24 hd hz (by omega) (by rw [show (z - lo).toNat = 24 by omega]; rfl) e24 (k24 h24)
  by_cases h25 : z = lo + 25
  · exact J_tableIn t25 hd hz (by omega) (by rw [show (z - lo).toNat = 25 by omega]; rfl) e25 (k25 h25)
  by_cases h26 : z = lo + 26
  · exact J_tableIn t26 hd hz (by omega) (by rw [show (z - lo).toNat = 26 by omega]; rfl) e26 (k26 h26)
  by_cases h27 : z = lo + 27
  · exact J_tableIn t27 hd hz (by omega) (by rw [show (z - lo).toNat = 27 by omega]; rfl) e27 (k27 h27)
  by_cases h28 : z = lo + 28
  · exact J_tableIn t28 hd hz (by omega) (by rw [show (z - lo).toNat = 28 by omega]; rfl) e28 (k28 h28)
  by_cases h29 : z = lo + 29
  · exact J_tableIn t29 hd hz (by omega) (by rw [show (z - lo).toNat = 29 by omega]; rfl) e29 (k29 h29)
  by_cases h30 : z = lo + 30
  · exact J_tableIn t30 hd hz (by omega) (by rw [show (z - lo).toNat = 30 by omega]; rfl) e30 (k30 h30)
  by_cases h31 : z = lo + 31
  · exact J_tableIn t31 hd hz (by omega) (by rw [show (z - lo).toNat = 31 by omega]; rfl) e31 (k31 h31)
  by_cases h32 : z = lo + 32
  · exact J_tableIn t32 hd hz (by omega) (by rw [show (z - lo).toNat = 32 by omega]; rfl) e32 (k32 h32)
  by_cases h33 : z = lo + 33
  · exact J_tableIn t33 hd hz (by omega) (by rw [show (z - lo).toNat = 33 by omega]; rfl) e33 (k33 h33)
  by_cases h34 : z = lo + 34
  · exact J_tableIn t34 hd hz (by omega) (by rw [show (z - lo).toNat = 34 by omega]; rfl) e34 (k34 h34)
  by_cases h35 : z = lo + 35
  · exact J_tableIn t35 hd hz (by omega) (by rw [show (z - lo).toNat = 35 by omega]; rfl) e35 (k35 h35)
  by_cases h36 : z = lo + 36
  · exact J_tableIn t36 hd hz (by omega) (by rw [show (z - lo).toNat = 36 by omega]; rfl) e36 (k36 h36)
  by_cases h37 : z = lo + 37
  · exact J_tableIn t37 hd hz (by omega) (by rw [show (z - lo).toNat = 37 by omega]; rfl) e37 (k37 h37)
  by_cases h38 : z = lo + 38
  · exact J_tableIn t38 hd hz (by omega) (by rw [show (z - lo).toNat = 38 by omega]; rfl) e38 (k38 h38)
  by_cases h39 : z = lo + 39
  · exact J_tableIn t39 hd hz (by omega) (by rw [show (z - lo).toNat = 39 by omega]; rfl) e39 (k39 h39)
  by_cases h40 : z = lo + 40
  · exact J_tableIn t40 hd hz (by omega) (by rw [show (z - lo).toNat = 40 by omega]; rfl) e40 (k40 h40)
  by_cases h41 : z = lo + 41
  · exact J_tableIn t41 hd hz (by omega) (by rw [show (z - lo).toNat = 41 by omega]; rfl) e41 (k41 h41)
  by_cases h42 : z = lo + 42
  · exact J_tableIn t42 hd hz (by omega) (by rw [show (z - lo).toNat = 42 by omega]; rfl) e42 (k42 h42)
  by_cases h43 : z = lo + 43
  · exact J_tableIn t43 hd hz (by omega) (by rw [show (z - lo).toNat = 43 by omega]; rfl) e43 (k43 h43)
  by_cases h44 : z = lo + 44
  · exact J_tableIn t44 hd hz (by omega) (by rw [show (z - lo).toNat = 44 by omega]; rfl) e44 (k44 h44)
  by_cases h45 : z = lo + 45
  · exact J_tableIn t45 hd hz (by omega) (by rw [show (z - lo).toNat = 45 by omega]; rfl) e45 (k45 h45)
  by_cases h46 : z = lo + 46
  · exact J_tableIn t46 hd hz (by omega) (by rw [show (z - lo).toNat = 46 by omega]; rfl) e46 (k46 h46)
  by_cases h47 : z = lo + 47
  · exact J_tableIn t47 hd hz (by omega) (by rw [show (z - lo).toNat = 47 by omega]; rfl) e47 (k47 h47)
  by_cases h48 : z = lo + 48
  · exact J_tableIn t48 hd hz (by omega) (by rw [show (z - lo).toNat = 48 by omega]; rfl) e48 (k48 h48)
  by_cases h49 : z = lo + 49
  · exact J_tableIn t49 hd hz (by omega) (by rw [show (z - lo).toNat = 49 by omega]; rfl) e49 (k49 h49)
  exfalso; omega

end TAB
