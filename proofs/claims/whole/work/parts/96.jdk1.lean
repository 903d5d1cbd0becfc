/-! ===== the JDK's numbers ===== -/
theorem and_app {H L M m : Nat} (hL : L < 256) (hm : m < 256) : (256 * H + L) &&& (256 * M + m) = 256 * (H &&& M) + (L &&& m) := by
  have hLm : L &&& m < 2 ^ 8 := Nat.and_lt_two_pow _ hm
  apply Nat.eq_of_testBit_eq
  intro j
  rw [Nat.testBit_and, show (256 : Nat) = 2 ^ 8 from rfl, Nat.testBit_two_pow_mul_add _ hL, Nat.testBit_two_pow_mul_add _ hm, Nat.testBit_two_pow_mul_add _ hLm]
  split
  · rw [Nat.testBit_and]
  · rw [Nat.testBit_and]
def b1 (b : Nat) : Nat := b - (b / 2 &&& 85)
def b2 (b : Nat) : Nat := (b1 b &&& 51) + (b1 b / 4 &&& 51)
def b3 (b : Nat) : Nat := (b2 b + b2 b / 16) &&& 15
set_option maxRecDepth 100000 in
theorem b_F : ∀ b : Fin 256, (b.val / 2 &&& 85) ≤ b.val ∧ b1 b.val < 256 ∧ (b2 b.val % 16 ≤ 4 ∧ b2 b.val / 16 ≤ 4) ∧ b3 b.val = pcn 8 b.val := by decide +kernel
set_option maxRecDepth 100000 in
theorem b_s1 : ∀ (e : Fin 2) (l : Fin 128), (128 * e.val + l.val) &&& 85 = l.val &&& 85 := by decide +kernel
set_option maxRecDepth 100000 in
theorem b_s2 : ∀ (e : Fin 4) (l : Fin 64), (64 * e.val + l.val) &&& 51 = l.val &&& 51 := by decide +kernel
set_option maxRecDepth 100000 in
theorem b_s3 : ∀ p q r s : Fin 5, ((256 * (16 * p.val + q.val) + (16 * r.val + s.val)) + (256 * (16 * p.val + q.val) + (16 * r.val + s.val)) / 16) &&& 252645135 = 256 * (p.val + q.val) + (r.val + s.val) := by decide +kernel
set_option maxRecDepth 100000 in
theorem b_s4 : ∀ p q : Fin 5, ((16 * p.val + q.val) + (16 * p.val + q.val) / 16) &&& 15 = p.val + q.val := by decide +kernel
theorem pcn_app : ∀ (j k h l : Nat), l < 2 ^ j → pcn (j + k) (2 ^ j * h + l) = pcn k h + pcn j l := by
  intro j
  induction j with
  | zero => intro k h l hl; have : l = 0 := by omega
            subst this; rw [Nat.zero_add, Nat.pow_zero, Nat.one_mul, Nat.add_zero]; rfl
  | succ j ih =>
    intro k h l hl
    rw [show j + 1 + k = (j + k) + 1 by omega, pcn, pcn]
    have e : 2 ^ (j + 1) * h = 2 * (2 ^ j * h) := by rw [Nat.pow_succ, Nat.mul_comm (2 ^ j) 2, Nat.mul_assoc]
    rw [e, show (2 * (2 ^ j * h) + l) / 2 = 2 ^ j * h + l / 2 by omega, show (2 * (2 ^ j * h) + l) % 2 = l % 2 by omega, ih k h (l / 2) (by rw [Nat.pow_succ] at hl; omega)]
    omega
theorem and_ap1 {H L : Nat} (hL : L < 256) : (256 * H + L) / 2 &&& 1431655765 = 256 * (H / 2 &&& 5592405) + (L / 2 &&& 85) := by
  have e : (256 * H + L) / 2 = 256 * (H / 2) + (128 * (H % 2) + L / 2) := by omega
  rw [e, show (1431655765 : Nat) = 256 * 5592405 + 85 from rfl, and_app (by omega) (by decide), b_s1 ⟨H % 2, by omega⟩ ⟨L / 2, by omega⟩]
theorem and_ap2 {H L : Nat} (hL : L < 256) : (256 * H + L) / 4 &&& 858993459 = 256 * (H / 4 &&& 3355443) + (L / 4 &&& 51) := by
  have e : (256 * H + L) / 4 = 256 * (H / 4) + (64 * (H % 4) + L / 4) := by omega
  rw [e, show (858993459 : Nat) = 256 * 3355443 + 51 from rfl, and_app (by omega) (by decide), b_s2 ⟨H % 4, by omega⟩ ⟨L / 4, by omega⟩]
theorem and_ap3 {H L : Nat} (hL : L < 256) : (256 * H + L) &&& 858993459 = 256 * (H &&& 3355443) + (L &&& 51) := by
  rw [show (858993459 : Nat) = 256 * 3355443 + 51 from rfl, and_app hL (by decide)]
theorem hi_mask {h m M : Nat} (hh : h < 256) (hM : M % 256 = m) : h &&& M = h &&& m := by
  have e : M = 256 * (M / 256) + m := by omega
  have e2 : h = 256 * 0 + h := by omega
  have := and_app (H := 0) (L := h) (M := M / 256) (m := m) hh (by omega)
  rw [← e2, ← e, Nat.zero_and] at this
  omega
theorem bc_1 {h l : Nat} (hh : h < 256) (hl : l < 256) : (256 * h + l) - ((256 * h + l) / 2 &&& 1431655765) = 256 * b1 h + b1 l := by
  have f1 := (b_F ⟨h, hh⟩).1
  have f2 := (b_F ⟨l, hl⟩).1
  have f1 : (h / 2 &&& 85) ≤ h := f1
  have f2 : (l / 2 &&& 85) ≤ l := f2
  rw [and_ap1 hl, hi_mask (h := h / 2) (m := 85) (M := 5592405) (by omega) (by decide)]
  unfold b1
  omega
theorem bc_2 {H L : Nat} (hh : H < 256) (hl : L < 256) : ((256 * H + L) &&& 858993459) + ((256 * H + L) / 4 &&& 858993459) = 256 * ((H &&& 51) + (H / 4 &&& 51)) + ((L &&& 51) + (L / 4 &&& 51)) := by
  rw [and_ap3 hl, and_ap2 hl, hi_mask (h := H) (m := 51) (M := 3355443) hh (by decide), hi_mask (h := H / 4) (m := 51) (M := 3355443) (by omega) (by decide)]
  omega
theorem bc_3 {n : Nat} (hn : n < 65536) : (256 * b2 (n / 256) + b2 (n % 256) + (256 * b2 (n / 256) + b2 (n % 256)) / 16) &&& 252645135 = 256 * b3 (n / 256) + b3 (n % 256) := by
  have f1 := (b_F ⟨n / 256, by omega⟩).2.2.1
  have f2 := (b_F ⟨n % 256, by omega⟩).2.2.1
  have f1 : b2 (n / 256) % 16 ≤ 4 ∧ b2 (n / 256) / 16 ≤ 4 := f1
  have f2 : b2 (n % 256) % 16 ≤ 4 ∧ b2 (n % 256) / 16 ≤ 4 := f2
  have e1 : b2 (n / 256) = 16 * (b2 (n / 256) / 16) + b2 (n / 256) % 16 := by omega
  have e2 : b2 (n % 256) = 16 * (b2 (n % 256) / 16) + b2 (n % 256) % 16 := by omega
  have h1 := b_s3 ⟨b2 (n / 256) / 16, by omega⟩ ⟨b2 (n / 256) % 16, by omega⟩ ⟨b2 (n % 256) / 16, by omega⟩ ⟨b2 (n % 256) % 16, by omega⟩
  have h2 := b_s4 ⟨b2 (n / 256) / 16, by omega⟩ ⟨b2 (n / 256) % 16, by omega⟩
  have h3 := b_s4 ⟨b2 (n % 256) / 16, by omega⟩ ⟨b2 (n % 256) % 16, by omega⟩
  simp only [] at h1 h2 h3
  rw [← e1, ← e2] at h1
  rw [← e1] at h2
  rw [← e2] at h3
  unfold b3
  rw [h1, h2, h3]
theorem bc_4 {n : Nat} (hn : n < 65536) : pcn 16 n = b3 (n / 256) + b3 (n % 256) := by
  have f1 := (b_F ⟨n / 256, by omega⟩).2.2.2
  have f2 := (b_F ⟨n % 256, by omega⟩).2.2.2
  have f1 : b3 (n / 256) = pcn 8 (n / 256) := f1
  have f2 : b3 (n % 256) = pcn 8 (n % 256) := f2
  have h := pcn_app 8 8 (n / 256) (n % 256) (by omega)
  rw [show 2 ^ 8 * (n / 256) + n % 256 = n by omega] at h
  rw [h, f1, f2]
theorem J_iushrK {E : mx_E} {y : MethodName} {cc : ByteArray} {nL : Nat} {ret : Option FieldType} {K : mx_Kd} {bc bs pc : Nat} {lv st : List Value} {hp : List mx_C} {a b : Int} (p : Int) (hd : decode cc pc = .ok (.iushr, 1)) (hp2 : (2 : Int) ^ b.toNat = p) (ha : 0 ≤ a ∧ a < 2147483648) (hb : 0 ≤ b ∧ b < 32) (k : Ev E y cc nL ret K bc bs (pc + 1) lv (.int (jI (a / p)) :: st) hp) : Ev E y cc nL ret K bc bs pc lv (.int (jI b) :: .int (jI a) :: st) hp := J_iushrG hd ha hb (by rw [hp2]; exact k)
set_option maxRecDepth 100000 in
theorem sJ_bitCountN {hp : List mx_C} {n : Nat} (hn : n < 65536) : SpF yJ6_bitCount_0f7a4 cJ6_bitCount_0f7a4 1 (some .int) 0 [.int (jI (n : Int))] hp (.int (jI (pc (n : Int)))) hp := by
  have g1 := (b_F ⟨n / 256, by omega⟩)
  have g2 := (b_F ⟨n % 256, by omega⟩)
  simp only [] at g1 g2
  have q1 := bc_1 (h := n / 256) (l := n % 256) (by omega) (by omega)
  have q2 := bc_2 (H := b1 (n / 256)) (L := b1 (n % 256)) g1.2.1 g2.2.1
  have q3 := bc_3 hn
  have q4 := bc_4 hn
  have p1 := pcn_le 8 (n / 256)
  have p2 := pcn_le 8 (n % 256)
  have z1 : ((256 * (n / 256) + n % 256) / 2 &&& 1431655765) ≤ (256 * (n / 256) + n % 256) / 2 := Nat.and_le_left
  have eN : (256 * (n / 256) + n % 256) = n := by omega
  rw [eN] at q1 z1
  refine Sp.of [.int (jI (n : Int))] (by decide) (by simp) (Nat.le_of_ble_eq_true rfl) rfl (fun E => ?_)
  refine L_i0 dJ6_bitCount_0f7a4_0 ?_
  refine L_i0 dJ6_bitCount_0f7a4_1 ?_
  refine J_iconst dJ6_bitCount_0f7a4_2 ?_
  refine J_iushrK 2 dJ6_bitCount_0f7a4_3 (by decide) (by omega) (by omega) ?_
  refine J_eqi (b := ((n / 2 : Nat) : Int)) (by omega) ?_
  refine J_ldcw (1431655765) dJ6_bitCount_0f7a4_4 kJ6_265 (by decide) ?_
  refine J_iandG dJ6_bitCount_0f7a4_7 (by omega) (by omega) ?_
  refine J_eqi (b := ((n / 2 &&& 1431655765 : Nat) : Int)) (ban_nat _ _) ?_
  refine J_isub dJ6_bitCount_0f7a4_8 ?_
  refine J_eqi (b := (((256 * b1 (n / 256) + b1 (n % 256)) : Nat) : Int)) (by omega) ?_
  refine S_i0 dJ6_bitCount_0f7a4_9 (by decide) ?_
  refine L_i0 dJ6_bitCount_0f7a4_10 ?_
  refine J_ldcw (858993459) dJ6_bitCount_0f7a4_11 kJ6_266 (by decide) ?_
  refine J_iandG dJ6_bitCount_0f7a4_14 (by omega) (by omega) ?_
  refine J_eqi (b := (((256 * b1 (n / 256) + b1 (n % 256)) &&& 858993459 : Nat) : Int)) (ban_nat _ _) ?_
  refine L_i0 dJ6_bitCount_0f7a4_15 ?_
  refine J_iconst dJ6_bitCount_0f7a4_16 ?_
  refine J_iushrK 4 dJ6_bitCount_0f7a4_17 (by decide) (by omega) (by omega) ?_
  refine J_eqi (b := (((256 * b1 (n / 256) + b1 (n % 256)) / 4 : Nat) : Int)) (by omega) ?_
  refine J_ldcw (858993459) dJ6_bitCount_0f7a4_18 kJ6_266 (by decide) ?_
  refine J_iandG dJ6_bitCount_0f7a4_21 (by omega) (by omega) ?_
  refine J_eqi (b := (((256 * b1 (n / 256) + b1 (n % 256)) / 4 &&& 858993459 : Nat) : Int)) (ban_nat _ _) ?_
  refine J_iadd dJ6_bitCount_0f7a4_22 ?_
  refine J_eqi (b := (((256 * b2 (n / 256) + b2 (n % 256)) : Nat) : Int)) (by have : b2 (n / 256) = (b1 (n / 256) &&& 51) + (b1 (n / 256) / 4 &&& 51) := rfl; have : b2 (n % 256) = (b1 (n % 256) &&& 51) + (b1 (n % 256) / 4 &&& 51) := rfl; omega) ?_
  refine S_i0 dJ6_bitCount_0f7a4_23 (by decide) ?_
  refine L_i0 dJ6_bitCount_0f7a4_24 ?_
  refine L_i0 dJ6_bitCount_0f7a4_25 ?_
  refine J_iconst dJ6_bitCount_0f7a4_26 ?_
  refine J_iushrK 16 dJ6_bitCount_0f7a4_27 (by decide) (by omega) (by omega) ?_
  refine J_eqi (b := (((256 * b2 (n / 256) + b2 (n % 256)) / 16 : Nat) : Int)) (by omega) ?_
  refine J_iadd dJ6_bitCount_0f7a4_28 ?_
  refine J_eqi (b := (((256 * b2 (n / 256) + b2 (n % 256)) + (256 * b2 (n / 256) + b2 (n % 256)) / 16 : Nat) : Int)) (by omega) ?_
  refine J_ldcw (252645135) dJ6_bitCount_0f7a4_29 kJ6_267 (by decide) ?_
  refine J_iandG dJ6_bitCount_0f7a4_32 (by omega) (by omega) ?_
  refine J_eqi (b := (((256 * b3 (n / 256) + b3 (n % 256)) : Nat) : Int)) (by rw [← q3]; exact ban_nat _ _) ?_
  refine S_i0 dJ6_bitCount_0f7a4_33 (by decide) ?_
  refine L_i0 dJ6_bitCount_0f7a4_34 ?_
  refine L_i0 dJ6_bitCount_0f7a4_35 ?_
  refine J_bipush dJ6_bitCount_0f7a4_36 (by decide) ?_
  refine J_iushrK 256 dJ6_bitCount_0f7a4_38 (by decide) (by omega) (by omega) ?_
  refine J_eqi (b := ((b3 (n / 256) : Nat) : Int)) (by omega) ?_
  refine J_iadd dJ6_bitCount_0f7a4_39 ?_
  refine J_eqi (b := (((256 * b3 (n / 256) + b3 (n % 256)) + b3 (n / 256) : Nat) : Int)) (by omega) ?_
  refine S_i0 dJ6_bitCount_0f7a4_40 (by decide) ?_
  refine L_i0 dJ6_bitCount_0f7a4_41 ?_
  refine L_i0 dJ6_bitCount_0f7a4_42 ?_
  refine J_bipush dJ6_bitCount_0f7a4_43 (by decide) ?_
  refine J_iushrK 65536 dJ6_bitCount_0f7a4_45 (by decide) (by omega) (by omega) ?_
  refine J_eqi (b := ((0 : Nat) : Int)) (by omega) ?_
  refine J_iadd dJ6_bitCount_0f7a4_46 ?_
  refine J_eqi (b := (((256 * b3 (n / 256) + b3 (n % 256)) + b3 (n / 256) : Nat) : Int)) (by omega) ?_
  refine S_i0 dJ6_bitCount_0f7a4_47 (by decide) ?_
  refine L_i0 dJ6_bitCount_0f7a4_48 ?_
  refine J_bipush dJ6_bitCount_0f7a4_49 (by decide) ?_
  refine J_imask 6 (by decide) (by decide) dJ6_bitCount_0f7a4_51 ?_
  exact R_i rfl dJ6_bitCount_0f7a4_52 rfl (by rw [pc_nat, q4]; omega)

theorem sJ_bitCount {hp : List mx_C} {s : Int} (h_s : 0 ≤ s ∧ s < 65536) : SpF yJ6_bitCount_0f7a4 cJ6_bitCount_0f7a4 1 (some .int) 0 [.int (jI s)] hp (.int (jI (pc s))) hp := by
  obtain ⟨n, rfl⟩ : ∃ n : Nat, s = n := ⟨s.toNat, by omega⟩
  exact sJ_bitCountN (by omega)
theorem J_mmin {E : mx_E} {y : MethodName} {cc : ByteArray} {nL : Nat} {ret : Option FieldType} {K : mx_Kd} {bc bs pc : Nat} {lv st : List Value} {hp : List mx_C} {idx : Nat} {a b : Int} (hw : mx_cs y.cls idx yJ9_min_7cf53 cJ9_min_7cf53 2 (some .int) 2) (hlk : Cond.methodLink y.cls idx yJ9_min_7cf53 ∈ mx_gw) (hd : decode cc pc = .ok (.invokestatic idx, 3)) (ha : -2147483648 ≤ a ∧ a < 2147483648) (hb : -2147483648 ≤ b ∧ b < 2147483648) (hcat : (st.map fun v => v.category).sum ≤ 8) (hR : 1 ≤ K.1.frames ∧ 64 ≤ K.1.locals) (k : Ev E y cc nL ret K bc bs (pc + 3) lv (.int (jI (if b < a then b else a)) :: st) hp) : Ev E y cc nL ret K bc bs pc lv (.int (jI b) :: .int (jI a) :: st) hp := by
  intro p l e s m args below meth c H locs cells slots ls X
  have X0 := X
  obtain ⟨hx, hb', hfx, hH, hL, hc, hs⟩ := X
  obtain ⟨hml, -, hown, hts, -⟩ := id hfx
  have hsum := mx_sum (E := E) hcat
  have ecode : cJ9_min_7cf53 = Lib.Math.min.code := by decide +kernel
  have hcode : (Cond.code Lib.Math.min.name Lib.Math.min.code 2 (some .int)).before args s = true := by rw [← ecode]; exact hts _ hw.1.1
  refine va_mmin hx hb' (hml.trans hL.1.symm) hown (hts _ hlk) (hts _ hw.2.1) (hts _ hw.1.2.1) hcode hR.1 (by omega) (by omega) (by omega) hd ?_
  have h := k p l e s m args below meth c H locs cells slots ls X0
  have e1 : ((if jI b < jI a then jI b else jI a : Int32)) = jI (if b < a then b else a) := by
    by_cases hlt : b < a
    · rw [if_pos hlt, if_pos ((jI_lt hb ha).mpr hlt)]
    · rw [if_neg hlt, if_neg (fun hh => hlt ((jI_lt hb ha).mp hh))]
  have h2 : (Value.int (jI (if b < a then b else a)) :: st).map (mx_v E) = .int (jI (if b < a then b else a)) :: st.map (mx_v E) := rfl
  rw [h2, ← e1] at h
  exact h
theorem J_mmax {E : mx_E} {y : MethodName} {cc : ByteArray} {nL : Nat} {ret : Option FieldType} {K : mx_Kd} {bc bs pc : Nat} {lv st : List Value} {hp : List mx_C} {idx : Nat} {a b : Int} (hw : mx_cs y.cls idx yJ9_max_7cf53 cJ9_max_7cf53 2 (some .int) 2) (hlk : Cond.methodLink y.cls idx yJ9_max_7cf53 ∈ mx_gw) (hd : decode cc pc = .ok (.invokestatic idx, 3)) (ha : -2147483648 ≤ a ∧ a < 2147483648) (hb : -2147483648 ≤ b ∧ b < 2147483648) (hcat : (st.map fun v => v.category).sum ≤ 8) (hR : 1 ≤ K.1.frames ∧ 64 ≤ K.1.locals) (k : Ev E y cc nL ret K bc bs (pc + 3) lv (.int (jI (if a < b then b else a)) :: st) hp) : Ev E y cc nL ret K bc bs pc lv (.int (jI b) :: .int (jI a) :: st) hp := by
  intro p l e s m args below meth c H locs cells slots ls X
  have X0 := X
  obtain ⟨hx, hb', hfx, hH, hL, hc, hs⟩ := X
  obtain ⟨hml, -, hown, hts, -⟩ := id hfx
  have hsum := mx_sum (E := E) hcat
  have ecode : cJ9_max_7cf53 = Lib.Math.max.code := by decide +kernel
  have hcode : (Cond.code Lib.Math.max.name Lib.Math.max.code 2 (some .int)).before args s = true := by rw [← ecode]; exact hts _ hw.1.1
  refine va_mmax hx hb' (hml.trans hL.1.symm) hown (hts _ hlk) (hts _ hw.2.1) (hts _ hw.1.2.1) hcode hR.1 (by omega) (by omega) (by omega) hd ?_
  have h := k p l e s m args below meth c H locs cells slots ls X0
  have e1 : ((if jI a < jI b then jI b else jI a : Int32)) = jI (if a < b then b else a) := by
    by_cases hlt : a < b
    · rw [if_pos hlt, if_pos ((jI_lt ha hb).mpr hlt)]
    · rw [if_neg hlt, if_neg (fun hh => hlt ((jI_lt ha hb).mp hh))]
  have h2 : (Value.int (jI (if a < b then b else a)) :: st).map (mx_v E) = .int (jI (if a < b then b else a)) :: st.map (mx_v E) := rfl
  rw [h2, ← e1] at h
  exact h
theorem mX6_67 : Cond.methodLink RX6 67 yJ9_min_7cf53 ∈ mx_gw := mx_t2 65 rfl rfl
theorem mX7_7 : Cond.methodLink RX7 7 yJ9_min_7cf53 ∈ mx_gw := mx_t3 69 rfl rfl
theorem mX8_26 : Cond.methodLink RX8 26 yJ9_min_7cf53 ∈ mx_gw := mx_t3 128 rfl rfl
theorem mX10_244 : Cond.methodLink RX10 244 yJ9_max_7cf53 ∈ mx_gw := mx_t4 197 rfl rfl
theorem mJ1_92 : Cond.methodLink RJ1 92 yJ9_max_7cf53 ∈ mx_gw := mx_t2 151 rfl rfl
theorem mJ1_38 : Cond.methodLink RJ1 38 yJ9_min_7cf53 ∈ mx_gw := mx_t2 154 rfl rfl
theorem mJ2_224 : Cond.methodLink RJ2 224 yJ9_max_7cf53 ∈ mx_gw := mx_t2 161 rfl rfl
theorem mJ2_183 : Cond.methodLink RJ2 183 yJ9_min_7cf53 ∈ mx_gw := mx_t2 162 rfl rfl
theorem mJ7_304 : Cond.methodLink RJ7 304 yJ9_min_7cf53 ∈ mx_gw := mx_t3 47 rfl rfl
theorem topF_0 {s : Int} (h : 1 ≤ s ∧ s < 2) : topF s 16 = 1 := by
  rw [topF, if_neg (by omega), topF, if_neg (by omega), topF, if_neg (by omega), topF, if_neg (by omega), topF, if_neg (by omega), topF, if_neg (by omega), topF, if_neg (by omega), topF, if_neg (by omega), topF, if_neg (by omega), topF, if_neg (by omega), topF, if_neg (by omega), topF, if_neg (by omega), topF, if_neg (by omega), topF, if_neg (by omega), topF, if_neg (by omega), topF, if_pos (by omega)]
  rfl
theorem topF_1 {s : Int} (h : 2 ≤ s ∧ s < 4) : topF s 16 = 2 := by
  rw [topF, if_neg (by omega), topF, if_neg (by omega), topF, if_neg (by omega), topF, if_neg (by omega), topF, if_neg (by omega), topF, if_neg (by omega), topF, if_neg (by omega), topF, if_neg (by omega), topF, if_neg (by omega), topF, if_neg (by omega), topF, if_neg (by omega), topF, if_neg (by omega), topF, if_neg (by omega), topF, if_neg (by omega), topF, if_pos (by omega)]
  rfl
theorem topF_2 {s : Int} (h : 4 ≤ s ∧ s < 8) : topF s 16 = 3 := by
  rw [topF, if_neg (by omega), topF, if_neg (by omega), topF, if_neg (by omega), topF, if_neg (by omega), topF, if_neg (by omega), topF, if_neg (by omega), topF, if_neg (by omega), topF, if_neg (by omega), topF, if_neg (by omega), topF, if_neg (by omega), topF, if_neg (by omega), topF, if_neg (by omega), topF, if_neg (by omega), topF, if_pos (by omega)]
  rfl
theorem topF_3 {s : Int} (h : 8 ≤ s ∧ s < 16) : topF s 16 = 4 := by
  rw [topF, if_neg (by omega), topF, if_neg (by omega), topF, if_neg (by omega), topF, if_neg (by omega), topF, if_neg (by omega), topF, if_neg (by omega), topF, if_neg (by omega), topF, if_neg (by omega), topF, if_neg (by omega), topF, if_neg (by omega), topF, if_neg (by omega), topF, if_neg (by omega), topF, if_pos (by omega)]
  rfl
theorem topF_4 {s : Int} (h : 16 ≤ s ∧ s < 32) : topF s 16 = 5 := by
  rw [topF, if_neg (by omega), topF, if_neg (by omega), topF, if_neg (by omega), topF, if_neg (by omega), topF, if_neg (by omega), topF, if_neg (by omega), topF, if_neg (by omega), topF, if_neg (by omega), topF, if_neg (by omega), topF, if_neg (by omega), topF, if_neg (by omega), topF, if_pos (by omega)]
  rfl
theorem topF_5 {s : Int} (h : 32 ≤ s ∧ s < 64) : topF s 16 = 6 := by
  rw [topF, if_neg (by omega), topF, if_neg (by omega), topF, if_neg (by omega), topF, if_neg (by omega), topF, if_neg (by omega), topF, if_neg (by omega), topF, if_neg (by omega), topF, if_neg (by omega), topF, if_neg (by omega), topF, if_neg (by omega), topF, if_pos (by omega)]
  rfl
theorem topF_6 {s : Int} (h : 64 ≤ s ∧ s < 128) : topF s 16 = 7 := by
  rw [topF, if_neg (by omega), topF, if_neg (by omega), topF, if_neg (by omega), topF, if_neg (by omega), topF, if_neg (by omega), topF, if_neg (by omega), topF, if_neg (by omega), topF, if_neg (by omega), topF, if_neg (by omega), topF, if_pos (by omega)]
  rfl
theorem topF_7 {s : Int} (h : 128 ≤ s ∧ s < 256) : topF s 16 = 8 := by
  rw [topF, if_neg (by omega), topF, if_neg (by omega), topF, if_neg (by omega), topF, if_neg (by omega), topF, if_neg (by omega), topF, if_neg (by omega), topF, if_neg (by omega), topF, if_neg (by omega), topF, if_pos (by omega)]
  rfl
theorem topF_8 {s : Int} (h : 256 ≤ s ∧ s < 512) : topF s 16 = 9 := by
  rw [topF, if_neg (by omega), topF, if_neg (by omega), topF, if_neg (by omega), topF, if_neg (by omega), topF, if_neg (by omega), topF, if_neg (by omega), topF, if_neg (by omega), topF, if_pos (by omega)]
  rfl
theorem topF_9 {s : Int} (h : 512 ≤ s ∧ s < 1024) : topF s 16 = 10 := by
  rw [topF, if_neg (by omega), topF, if_neg (by omega), topF, if_neg (by omega), topF, if_neg (by omega), topF, if_neg (by omega), topF, if_neg (by omega), topF, if_pos (by omega)]
  rfl
theorem topF_10 {s : Int} (h : 1024 ≤ s ∧ s < 2048) : topF s 16 = 11 := by
  rw [topF, if_neg (by omega), topF, if_neg (by omega), topF, if_neg (by omega), topF, if_neg (by omega), topF, if_neg (by omega), topF, if_pos (by omega)]
  rfl
theorem topF_11 {s : Int} (h : 2048 ≤ s ∧ s < 4096) : topF s 16 = 12 := by
  rw [topF, if_neg (by omega), topF, if_neg (by omega), topF, if_neg (by omega), topF, if_neg (by omega), topF, if_pos (by omega)]
  rfl
theorem topF_12 {s : Int} (h : 4096 ≤ s ∧ s < 8192) : topF s 16 = 13 := by
  rw [topF, if_neg (by omega), topF, if_neg (by omega), topF, if_neg (by omega), topF, if_pos (by omega)]
  rfl
theorem topF_13 {s : Int} (h : 8192 ≤ s ∧ s < 16384) : topF s 16 = 14 := by
  rw [topF, if_neg (by omega), topF, if_neg (by omega), topF, if_pos (by omega)]
  rfl
theorem topF_14 {s : Int} (h : 16384 ≤ s ∧ s < 32768) : topF s 16 = 15 := by
  rw [topF, if_neg (by omega), topF, if_pos (by omega)]
  rfl
theorem topF_15 {s : Int} (h : 32768 ≤ s ∧ s < 65536) : topF s 16 = 16 := by
  rw [topF, if_pos (by omega)]
  rfl
theorem topF_all {s : Int} (h : 1 ≤ s ∧ s < 65536) : (1 ≤ s ∧ s < 2 ∧ topF s 16 = 1) ∨ (2 ≤ s ∧ s < 4 ∧ topF s 16 = 2) ∨ (4 ≤ s ∧ s < 8 ∧ topF s 16 = 3) ∨ (8 ≤ s ∧ s < 16 ∧ topF s 16 = 4) ∨ (16 ≤ s ∧ s < 32 ∧ topF s 16 = 5) ∨ (32 ≤ s ∧ s < 64 ∧ topF s 16 = 6) ∨ (64 ≤ s ∧ s < 128 ∧ topF s 16 = 7) ∨ (128 ≤ s ∧ s < 256 ∧ topF s 16 = 8) ∨ (256 ≤ s ∧ s < 512 ∧ topF s 16 = 9) ∨ (512 ≤ s ∧ s < 1024 ∧ topF s 16 = 10) ∨ (1024 ≤ s ∧ s < 2048 ∧ topF s 16 = 11) ∨ (2048 ≤ s ∧ s < 4096 ∧ topF s 16 = 12) ∨ (4096 ≤ s ∧ s < 8192 ∧ topF s 16 = 13) ∨ (8192 ≤ s ∧ s < 16384 ∧ topF s 16 = 14) ∨ (16384 ≤ s ∧ s < 32768 ∧ topF s 16 = 15) ∨ (32768 ≤ s ∧ s < 65536 ∧ topF s 16 = 16) := by
  by_cases g0 : s < 2
  · exact Or.inl ⟨by omega, g0, topF_0 ⟨by omega, g0⟩⟩
  refine Or.inr ?_
  by_cases g1 : s < 4
  · exact Or.inl ⟨by omega, g1, topF_1 ⟨by omega, g1⟩⟩
  refine Or.inr ?_
  clear g0
  by_cases g2 : s < 8
  · exact Or.inl ⟨by omega, g2, topF_2 ⟨by omega, g2⟩⟩
  refine Or.inr ?_
  clear g1
  by_cases g3 : s < 16
  · exact Or.inl ⟨by omega, g3, topF_3 ⟨by omega, g3⟩⟩
  refine Or.inr ?_
  clear g2
  by_cases g4 : s < 32
  · exact Or.inl ⟨by omega, g4, topF_4 ⟨by omega, g4⟩⟩
  refine Or.inr ?_
  clear g3
  by_cases g5 : s < 64
  · exact Or.inl ⟨by omega, g5, topF_5 ⟨by omega, g5⟩⟩
  refine Or.inr ?_
  clear g4
  by_cases g6 : s < 128
  · exact Or.inl ⟨by omega, g6, topF_6 ⟨by omega, g6⟩⟩
  refine Or.inr ?_
  clear g5
  by_cases g7 : s < 256
  · exact Or.inl ⟨by omega, g7, topF_7 ⟨by omega, g7⟩⟩
  refine Or.inr ?_
  clear g6
  by_cases g8 : s < 512
  · exact Or.inl ⟨by omega, g8, topF_8 ⟨by omega, g8⟩⟩
  refine Or.inr ?_
  clear g7
  by_cases g9 : s < 1024
  · exact Or.inl ⟨by omega, g9, topF_9 ⟨by omega, g9⟩⟩
  refine Or.inr ?_
  clear g8
  by_cases g10 : s < 2048
  · exact Or.inl ⟨by omega, g10, topF_10 ⟨by omega, g10⟩⟩
  refine Or.inr ?_
  clear g9
  by_cases g11 : s < 4096
  · exact Or.inl ⟨by omega, g11, topF_11 ⟨by omega, g11⟩⟩
  refine Or.inr ?_
  clear g10
  by_cases g12 : s < 8192
  · exact Or.inl ⟨by omega, g12, topF_12 ⟨by omega, g12⟩⟩
  refine Or.inr ?_
  clear g11
  by_cases g13 : s < 16384
  · exact Or.inl ⟨by omega, g13, topF_13 ⟨by omega, g13⟩⟩
  refine Or.inr ?_
  clear g12
  by_cases g14 : s < 32768
  · exact Or.inl ⟨by omega, g14, topF_14 ⟨by omega, g14⟩⟩
  refine Or.inr ?_
  clear g13
  exact ⟨by omega, by omega, topF_15 ⟨by omega, by omega⟩⟩
set_option maxRecDepth 100000 in
theorem sJ_nlz {hp : List mx_C} {s : Int} (h_s : 1 ≤ s ∧ s < 65536) : SpF yJ6_numberOfLeadingZeros_0f7a4 cJ6_numberOfLeadingZeros_0f7a4 2 (some .int) 0 [.int (jI s)] hp (.int (jI (32 - topF s 16))) hp := by
  have hk := topF_all h_s
  refine Sp.of [.int (jI s), .retAddr 0] (by decide) (by simp) (Nat.le_of_ble_eq_true rfl) rfl (fun E => ?_)
  refine L_i0 dJ6_numberOfLeadingZeros_0f7a4_0 ?_
  refine J_if_gt 15 dJ6_numberOfLeadingZeros_0f7a4_1 rfl (by omega) (fun c1 => ?_) (fun c1 => ?_)
  · refine J_bipush dJ6_numberOfLeadingZeros_0f7a4_15 (by decide) ?_
    refine S_i1 dJ6_numberOfLeadingZeros_0f7a4_17 (by decide) rfl ?_
    refine L_i0 dJ6_numberOfLeadingZeros_0f7a4_18 ?_
    refine J_ldcw (65536) dJ6_numberOfLeadingZeros_0f7a4_19 kJ6_264 (by decide) ?_
    refine J_icmp_lt 33 dJ6_numberOfLeadingZeros_0f7a4_22 rfl (by omega) (by omega) (fun c22 => ?_) (fun c22 => ?_)
    · refine L_i0 dJ6_numberOfLeadingZeros_0f7a4_33 ?_
      refine J_sipush dJ6_numberOfLeadingZeros_0f7a4_34 (by decide) ?_
      refine J_icmp_lt 48 dJ6_numberOfLeadingZeros_0f7a4_37 rfl (by omega) (by omega) (fun c37 => ?_) (fun c37 => ?_)
      · refine L_i0 dJ6_numberOfLeadingZeros_0f7a4_48 ?_
        refine J_bipush dJ6_numberOfLeadingZeros_0f7a4_49 (by decide) ?_
        refine J_icmp_lt 61 dJ6_numberOfLeadingZeros_0f7a4_51 rfl (by omega) (by omega) (fun c51 => ?_) (fun c51 => ?_)
        · refine L_i0 dJ6_numberOfLeadingZeros_0f7a4_61 ?_
          refine J_iconst dJ6_numberOfLeadingZeros_0f7a4_62 ?_
          refine J_icmp_lt 73 dJ6_numberOfLeadingZeros_0f7a4_63 rfl (by omega) (by omega) (fun c63 => ?_) (fun c63 => ?_)
          · refine L_i1 dJ6_numberOfLeadingZeros_0f7a4_73 ?_
            refine L_i0 dJ6_numberOfLeadingZeros_0f7a4_74 ?_
            refine J_iconst dJ6_numberOfLeadingZeros_0f7a4_75 ?_
            refine J_iushrK 2 dJ6_numberOfLeadingZeros_0f7a4_76 (by decide) (by omega) (by omega) ?_
            refine J_isub dJ6_numberOfLeadingZeros_0f7a4_77 ?_
            exact R_i rfl dJ6_numberOfLeadingZeros_0f7a4_78 rfl (by rcases hk with hk | hk | hk | hk | hk | hk | hk | hk | hk | hk | hk | hk | hk | hk | hk | hk <;> omega)
          · refine JI_1 dJ6_numberOfLeadingZeros_0f7a4_66 (by decide) rfl ?_
            refine L_i0 dJ6_numberOfLeadingZeros_0f7a4_69 ?_
            refine J_iconst dJ6_numberOfLeadingZeros_0f7a4_70 ?_
            refine J_iushrK 4 dJ6_numberOfLeadingZeros_0f7a4_71 (by decide) (by omega) (by omega) ?_
            refine S_i0 dJ6_numberOfLeadingZeros_0f7a4_72 (by decide) ?_
            refine L_i1 dJ6_numberOfLeadingZeros_0f7a4_73 ?_
            refine L_i0 dJ6_numberOfLeadingZeros_0f7a4_74 ?_
            refine J_iconst dJ6_numberOfLeadingZeros_0f7a4_75 ?_
            refine J_iushrK 2 dJ6_numberOfLeadingZeros_0f7a4_76 (by decide) (by omega) (by omega) ?_
            refine J_isub dJ6_numberOfLeadingZeros_0f7a4_77 ?_
            exact R_i rfl dJ6_numberOfLeadingZeros_0f7a4_78 rfl (by rcases hk with hk | hk | hk | hk | hk | hk | hk | hk | hk | hk | hk | hk | hk | hk | hk | hk <;> omega)
        · refine JI_1 dJ6_numberOfLeadingZeros_0f7a4_54 (by decide) rfl ?_
          refine L_i0 dJ6_numberOfLeadingZeros_0f7a4_57 ?_
          refine J_iconst dJ6_numberOfLeadingZeros_0f7a4_58 ?_
          refine J_iushrK 16 dJ6_numberOfLeadingZeros_0f7a4_59 (by decide) (by omega) (by omega) ?_
          refine S_i0 dJ6_numberOfLeadingZeros_0f7a4_60 (by decide) ?_
          refine L_i0 dJ6_numberOfLeadingZeros_0f7a4_61 ?_
          refine J_iconst dJ6_numberOfLeadingZeros_0f7a4_62 ?_
          refine J_icmp_lt 73 dJ6_numberOfLeadingZeros_0f7a4_63 rfl (by omega) (by omega) (fun c63 => ?_) (fun c63 => ?_)
          · refine L_i1 dJ6_numberOfLeadingZeros_0f7a4_73 ?_
            refine L_i0 dJ6_numberOfLeadingZeros_0f7a4_74 ?_
            refine J_iconst dJ6_numberOfLeadingZeros_0f7a4_75 ?_
            refine J_iushrK 2 dJ6_numberOfLeadingZeros_0f7a4_76 (by decide) (by omega) (by omega) ?_
            refine J_isub dJ6_numberOfLeadingZeros_0f7a4_77 ?_
            exact R_i rfl dJ6_numberOfLeadingZeros_0f7a4_78 rfl (by rcases hk with hk | hk | hk | hk | hk | hk | hk | hk | hk | hk | hk | hk | hk | hk | hk | hk <;> omega)
          · refine JI_1 dJ6_numberOfLeadingZeros_0f7a4_66 (by decide) rfl ?_
            refine L_i0 dJ6_numberOfLeadingZeros_0f7a4_69 ?_
            refine J_iconst dJ6_numberOfLeadingZeros_0f7a4_70 ?_
            refine J_iushrK 4 dJ6_numberOfLeadingZeros_0f7a4_71 (by decide) (by omega) (by omega) ?_
            refine S_i0 dJ6_numberOfLeadingZeros_0f7a4_72 (by decide) ?_
            refine L_i1 dJ6_numberOfLeadingZeros_0f7a4_73 ?_
            refine L_i0 dJ6_numberOfLeadingZeros_0f7a4_74 ?_
            refine J_iconst dJ6_numberOfLeadingZeros_0f7a4_75 ?_
            refine J_iushrK 2 dJ6_numberOfLeadingZeros_0f7a4_76 (by decide) (by omega) (by omega) ?_
            refine J_isub dJ6_numberOfLeadingZeros_0f7a4_77 ?_
            exact R_i rfl dJ6_numberOfLeadingZeros_0f7a4_78 rfl (by rcases hk with hk | hk | hk | hk | hk | hk | hk | hk | hk | hk | hk | hk | hk | hk | hk | hk <;> omega)
      · refine JI_1 dJ6_numberOfLeadingZeros_0f7a4_40 (by decide) rfl ?_
        refine L_i0 dJ6_numberOfLeadingZeros_0f7a4_43 ?_
        refine J_bipush dJ6_numberOfLeadingZeros_0f7a4_44 (by decide) ?_
        refine J_iushrK 256 dJ6_numberOfLeadingZeros_0f7a4_46 (by decide) (by omega) (by omega) ?_
        refine S_i0 dJ6_numberOfLeadingZeros_0f7a4_47 (by decide) ?_
        refine L_i0 dJ6_numberOfLeadingZeros_0f7a4_48 ?_
        refine J_bipush dJ6_numberOfLeadingZeros_0f7a4_49 (by decide) ?_
        refine J_icmp_lt 61 dJ6_numberOfLeadingZeros_0f7a4_51 rfl (by omega) (by omega) (fun c51 => ?_) (fun c51 => ?_)
        · refine L_i0 dJ6_numberOfLeadingZeros_0f7a4_61 ?_
          refine J_iconst dJ6_numberOfLeadingZeros_0f7a4_62 ?_
          refine J_icmp_lt 73 dJ6_numberOfLeadingZeros_0f7a4_63 rfl (by omega) (by omega) (fun c63 => ?_) (fun c63 => ?_)
          · refine L_i1 dJ6_numberOfLeadingZeros_0f7a4_73 ?_
            refine L_i0 dJ6_numberOfLeadingZeros_0f7a4_74 ?_
            refine J_iconst dJ6_numberOfLeadingZeros_0f7a4_75 ?_
            refine J_iushrK 2 dJ6_numberOfLeadingZeros_0f7a4_76 (by decide) (by omega) (by omega) ?_
            refine J_isub dJ6_numberOfLeadingZeros_0f7a4_77 ?_
            exact R_i rfl dJ6_numberOfLeadingZeros_0f7a4_78 rfl (by rcases hk with hk | hk | hk | hk | hk | hk | hk | hk | hk | hk | hk | hk | hk | hk | hk | hk <;> omega)
          · refine JI_1 dJ6_numberOfLeadingZeros_0f7a4_66 (by decide) rfl ?_
            refine L_i0 dJ6_numberOfLeadingZeros_0f7a4_69 ?_
            refine J_iconst dJ6_numberOfLeadingZeros_0f7a4_70 ?_
            refine J_iushrK 4 dJ6_numberOfLeadingZeros_0f7a4_71 (by decide) (by omega) (by omega) ?_
            refine S_i0 dJ6_numberOfLeadingZeros_0f7a4_72 (by decide) ?_
            refine L_i1 dJ6_numberOfLeadingZeros_0f7a4_73 ?_
            refine L_i0 dJ6_numberOfLeadingZeros_0f7a4_74 ?_
            refine J_iconst dJ6_numberOfLeadingZeros_0f7a4_75 ?_
            refine J_iushrK 2 dJ6_numberOfLeadingZeros_0f7a4_76 (by decide) (by omega) (by omega) ?_
            refine J_isub dJ6_numberOfLeadingZeros_0f7a4_77 ?_
            exact R_i rfl dJ6_numberOfLeadingZeros_0f7a4_78 rfl (by rcases hk with hk | hk | hk | hk | hk | hk | hk | hk | hk | hk | hk | hk | hk | hk | hk | hk <;> omega)
        · refine JI_1 dJ6_numberOfLeadingZeros_0f7a4_54 (by decide) rfl ?_
          refine L_i0 dJ6_numberOfLeadingZeros_0f7a4_57 ?_
          refine J_iconst dJ6_numberOfLeadingZeros_0f7a4_58 ?_
          refine J_iushrK 16 dJ6_numberOfLeadingZeros_0f7a4_59 (by decide) (by omega) (by omega) ?_
          refine S_i0 dJ6_numberOfLeadingZeros_0f7a4_60 (by decide) ?_
          refine L_i0 dJ6_numberOfLeadingZeros_0f7a4_61 ?_
          refine J_iconst dJ6_numberOfLeadingZeros_0f7a4_62 ?_
          refine J_icmp_lt 73 dJ6_numberOfLeadingZeros_0f7a4_63 rfl (by omega) (by omega) (fun c63 => ?_) (fun c63 => ?_)
          · refine L_i1 dJ6_numberOfLeadingZeros_0f7a4_73 ?_
            refine L_i0 dJ6_numberOfLeadingZeros_0f7a4_74 ?_
            refine J_iconst dJ6_numberOfLeadingZeros_0f7a4_75 ?_
            refine J_iushrK 2 dJ6_numberOfLeadingZeros_0f7a4_76 (by decide) (by omega) (by omega) ?_
            refine J_isub dJ6_numberOfLeadingZeros_0f7a4_77 ?_
            exact R_i rfl dJ6_numberOfLeadingZeros_0f7a4_78 rfl (by rcases hk with hk | hk | hk | hk | hk | hk | hk | hk | hk | hk | hk | hk | hk | hk | hk | hk <;> omega)
          · refine JI_1 dJ6_numberOfLeadingZeros_0f7a4_66 (by decide) rfl ?_
            refine L_i0 dJ6_numberOfLeadingZeros_0f7a4_69 ?_
            refine J_iconst dJ6_numberOfLeadingZeros_0f7a4_70 ?_
            refine J_iushrK 4 dJ6_numberOfLeadingZeros_0f7a4_71 (by decide) (by omega) (by omega) ?_
            refine S_i0 dJ6_numberOfLeadingZeros_0f7a4_72 (by decide) ?_
            refine L_i1 dJ6_numberOfLeadingZeros_0f7a4_73 ?_
            refine L_i0 dJ6_numberOfLeadingZeros_0f7a4_74 ?_
            refine J_iconst dJ6_numberOfLeadingZeros_0f7a4_75 ?_
            refine J_iushrK 2 dJ6_numberOfLeadingZeros_0f7a4_76 (by decide) (by omega) (by omega) ?_
            refine J_isub dJ6_numberOfLeadingZeros_0f7a4_77 ?_
            exact R_i rfl dJ6_numberOfLeadingZeros_0f7a4_78 rfl (by rcases hk with hk | hk | hk | hk | hk | hk | hk | hk | hk | hk | hk | hk | hk | hk | hk | hk <;> omega)
    · exfalso; omega
  · exfalso; omega

theorem J_iandC2 {E : mx_E} {y : MethodName} {cc : ByteArray} {nL : Nat} {ret : Option FieldType} {K : mx_Kd} {bc bs pc : Nat} {lv st : List Value} {hp : List mx_C} {a b : Int} (hd : decode cc pc = .ok (.iand, 1)) (ha : 0 ≤ a) (hb : 0 ≤ b) (k : Ev E y cc nL ret K bc bs (pc + 1) lv (.int (jI (bdf a b)) :: st) hp) : Ev E y cc nL ret K bc bs pc lv (.int (jI a) :: .int (jI (-b - 1)) :: st) hp := by
  refine E_iand hd ?_
  obtain ⟨m, rfl⟩ : ∃ m : Nat, a = m := ⟨a.toNat, by omega⟩
  obtain ⟨n, rfl⟩ : ∃ n : Nat, b = n := ⟨b.toNat, by omega⟩
  rw [Int32.and_comm, jI_andC, ← bdf_nat]
  exact k
theorem low_k {s : Int} {k : Nat} (hk : k ≤ 15) (h0 : 0 ≤ s) (h : s % 2 ^ (k + 1) = 2 ^ k) : lowF s 31 0 = k ∧ bdf (s - 1) s = 2 ^ k - 1 := by
  obtain ⟨n, rfl⟩ : ∃ n : Nat, s = n := ⟨s.toNat, by omega⟩
  have hn : n % 2 ^ (k + 1) = 2 ^ k := by
    have h2 : ((n % 2 ^ (k + 1) : Nat) : Int) = ((2 ^ k : Nat) : Int) := by
      rw [Int.natCast_emod, Int.natCast_pow, Int.natCast_pow]; exact h
    exact Int.ofNat.inj h2
  have hm : n = 2 ^ (k + 1) * (n / 2 ^ (k + 1)) + 2 ^ k := by have := Nat.div_add_mod n (2 ^ (k + 1)); omega
  have hp : 1 ≤ 2 ^ k := Nat.one_le_two_pow
  have hlt : 2 ^ k < 2 ^ (k + 1) := Nat.pow_lt_pow_right (by decide) (by omega)
  have bits : ∀ j : Nat, n.testBit j = if j < k + 1 then (2 ^ k).testBit j else (n / 2 ^ (k + 1)).testBit (j - (k + 1)) := fun j => by
    have := Nat.testBit_two_pow_mul_add (n / 2 ^ (k + 1)) hlt j
    rw [← hm] at this
    exact this
  have bits1 : ∀ j : Nat, (n - 1).testBit j = if j < k + 1 then (2 ^ k - 1).testBit j else (n / 2 ^ (k + 1)).testBit (j - (k + 1)) := fun j => by
    have e : n - 1 = 2 ^ (k + 1) * (n / 2 ^ (k + 1)) + (2 ^ k - 1) := by omega
    have := Nat.testBit_two_pow_mul_add (n / 2 ^ (k + 1)) (show 2 ^ k - 1 < 2 ^ (k + 1) by omega) j
    rw [← e] at this
    exact this
  constructor
  · have low : ∀ (m : Nat) (p : Int), 0 ≤ p → p ≤ k → (k : Int) < p + m → lowF (n : Int) m p = k := by
      intro m
      induction m with
      | zero => intro p h1 h2 h3; omega
      | succ m ih =>
        intro p h1 h2 h3
        rw [lowF]
        have hb : ((n : Int) / 2 ^ p.toNat % 2 = 1 ↔ n.testBit p.toNat = true) := bt_has (s := (n : Int)) (k := p) (by omega)
        rw [bits p.toNat, if_pos (by omega), Nat.testBit_two_pow] at hb
        by_cases e : p = k
        · rw [if_pos (hb.mpr (by simp; omega))]; exact e
        · rw [if_neg (fun hh => by have := hb.mp hh; simp at this; omega)]
          exact ih (p + 1) (by omega) (by omega) (by omega)
    exact low 31 0 (by omega) (by omega) (by omega)
  · have hn1 : 1 ≤ n := by omega
    have e : ((n : Int) - 1) = ((n - 1 : Nat) : Int) := by omega
    rw [e, bdf_nat]
    have h1 : nd (n - 1) n = 2 ^ k - 1 := by
      apply Nat.eq_of_testBit_eq
      intro j
      rw [nd_bit, bits j, bits1 j]
      by_cases hj : j < k + 1
      · rw [if_pos hj, if_pos hj, Nat.testBit_two_pow_sub_one, Nat.testBit_two_pow]
        by_cases e2 : j < k
        · simp [e2]; omega
        · simp [e2]
      · rw [if_neg hj, if_neg hj, Nat.testBit_two_pow_sub_one]
        have : ¬ j < k := by omega
        simp [this]
    rw [h1]
    have h2 : ((2 ^ k : Nat) : Int) = (2 : Int) ^ k := by rw [Int.natCast_pow]; rfl
    omega
theorem low_all {s : Int} (h : 1 ≤ s ∧ s < 65536) : (lowF s 31 0 = 0 ∧ bdf (s - 1) s = 0) ∨ (lowF s 31 0 = 1 ∧ bdf (s - 1) s = 1) ∨ (lowF s 31 0 = 2 ∧ bdf (s - 1) s = 3) ∨ (lowF s 31 0 = 3 ∧ bdf (s - 1) s = 7) ∨ (lowF s 31 0 = 4 ∧ bdf (s - 1) s = 15) ∨ (lowF s 31 0 = 5 ∧ bdf (s - 1) s = 31) ∨ (lowF s 31 0 = 6 ∧ bdf (s - 1) s = 63) ∨ (lowF s 31 0 = 7 ∧ bdf (s - 1) s = 127) ∨ (lowF s 31 0 = 8 ∧ bdf (s - 1) s = 255) ∨ (lowF s 31 0 = 9 ∧ bdf (s - 1) s = 511) ∨ (lowF s 31 0 = 10 ∧ bdf (s - 1) s = 1023) ∨ (lowF s 31 0 = 11 ∧ bdf (s - 1) s = 2047) ∨ (lowF s 31 0 = 12 ∧ bdf (s - 1) s = 4095) ∨ (lowF s 31 0 = 13 ∧ bdf (s - 1) s = 8191) ∨ (lowF s 31 0 = 14 ∧ bdf (s - 1) s = 16383) ∨ (lowF s 31 0 = 15 ∧ bdf (s - 1) s = 32767) := by
  have h0 : 0 ≤ s := by omega
  by_cases g0 : s % 2 = 1
  · have q := low_k (s := s) (k := 0) (by decide) h0 (by show s % 2 = 1; exact g0)
    exact Or.inl ⟨by rw [q.1]; rfl, by rw [q.2]; rfl⟩
  refine Or.inr ?_
  have e0 : s % 2 = 0 := by omega
  clear g0
  by_cases g1 : s % 4 = 2
  · have q := low_k (s := s) (k := 1) (by decide) h0 (by show s % 4 = 2; exact g1)
    exact Or.inl ⟨by rw [q.1]; rfl, by rw [q.2]; rfl⟩
  refine Or.inr ?_
  have e1 : s % 4 = 0 := by omega
  clear g1
  clear e0
  by_cases g2 : s % 8 = 4
  · have q := low_k (s := s) (k := 2) (by decide) h0 (by show s % 8 = 4; exact g2)
    exact Or.inl ⟨by rw [q.1]; rfl, by rw [q.2]; rfl⟩
  refine Or.inr ?_
  have e2 : s % 8 = 0 := by omega
  clear g2
  clear e1
  by_cases g3 : s % 16 = 8
  · have q := low_k (s := s) (k := 3) (by decide) h0 (by show s % 16 = 8; exact g3)
    exact Or.inl ⟨by rw [q.1]; rfl, by rw [q.2]; rfl⟩
  refine Or.inr ?_
  have e3 : s % 16 = 0 := by omega
  clear g3
  clear e2
  by_cases g4 : s % 32 = 16
  · have q := low_k (s := s) (k := 4) (by decide) h0 (by show s % 32 = 16; exact g4)
    exact Or.inl ⟨by rw [q.1]; rfl, by rw [q.2]; rfl⟩
  refine Or.inr ?_
  have e4 : s % 32 = 0 := by omega
  clear g4
  clear e3
  by_cases g5 : s % 64 = 32
  · have q := low_k (s := s) (k := 5) (by decide) h0 (by show s % 64 = 32; exact g5)
    exact Or.inl ⟨by rw [q.1]; rfl, by rw [q.2]; rfl⟩
  refine Or.inr ?_
  have e5 : s % 64 = 0 := by omega
  clear g5
  clear e4
  by_cases g6 : s % 128 = 64
  · have q := low_k (s := s) (k := 6) (by decide) h0 (by show s % 128 = 64; exact g6)
    exact Or.inl ⟨by rw [q.1]; rfl, by rw [q.2]; rfl⟩
  refine Or.inr ?_
  have e6 : s % 128 = 0 := by omega
  clear g6
  clear e5
  by_cases g7 : s % 256 = 128
  · have q := low_k (s := s) (k := 7) (by decide) h0 (by show s % 256 = 128; exact g7)
    exact Or.inl ⟨by rw [q.1]; rfl, by rw [q.2]; rfl⟩
  refine Or.inr ?_
  have e7 : s % 256 = 0 := by omega
  clear g7
  clear e6
  by_cases g8 : s % 512 = 256
  · have q := low_k (s := s) (k := 8) (by decide) h0 (by show s % 512 = 256; exact g8)
    exact Or.inl ⟨by rw [q.1]; rfl, by rw [q.2]; rfl⟩
  refine Or.inr ?_
  have e8 : s % 512 = 0 := by omega
  clear g8
  clear e7
  by_cases g9 : s % 1024 = 512
  · have q := low_k (s := s) (k := 9) (by decide) h0 (by show s % 1024 = 512; exact g9)
    exact Or.inl ⟨by rw [q.1]; rfl, by rw [q.2]; rfl⟩
  refine Or.inr ?_
  have e9 : s % 1024 = 0 := by omega
  clear g9
  clear e8
  by_cases g10 : s % 2048 = 1024
  · have q := low_k (s := s) (k := 10) (by decide) h0 (by show s % 2048 = 1024; exact g10)
    exact Or.inl ⟨by rw [q.1]; rfl, by rw [q.2]; rfl⟩
  refine Or.inr ?_
  have e10 : s % 2048 = 0 := by omega
  clear g10
  clear e9
  by_cases g11 : s % 4096 = 2048
  · have q := low_k (s := s) (k := 11) (by decide) h0 (by show s % 4096 = 2048; exact g11)
    exact Or.inl ⟨by rw [q.1]; rfl, by rw [q.2]; rfl⟩
  refine Or.inr ?_
  have e11 : s % 4096 = 0 := by omega
  clear g11
  clear e10
  by_cases g12 : s % 8192 = 4096
  · have q := low_k (s := s) (k := 12) (by decide) h0 (by show s % 8192 = 4096; exact g12)
    exact Or.inl ⟨by rw [q.1]; rfl, by rw [q.2]; rfl⟩
  refine Or.inr ?_
  have e12 : s % 8192 = 0 := by omega
  clear g12
  clear e11
  by_cases g13 : s % 16384 = 8192
  · have q := low_k (s := s) (k := 13) (by decide) h0 (by show s % 16384 = 8192; exact g13)
    exact Or.inl ⟨by rw [q.1]; rfl, by rw [q.2]; rfl⟩
  refine Or.inr ?_
  have e13 : s % 16384 = 0 := by omega
  clear g13
  clear e12
  by_cases g14 : s % 32768 = 16384
  · have q := low_k (s := s) (k := 14) (by decide) h0 (by show s % 32768 = 16384; exact g14)
    exact Or.inl ⟨by rw [q.1]; rfl, by rw [q.2]; rfl⟩
  refine Or.inr ?_
  have e14 : s % 32768 = 0 := by omega
  clear g14
  clear e13
  have q := low_k (s := s) (k := 15) (by decide) h0 (by show s % 65536 = 32768; omega)
  exact ⟨by rw [q.1]; rfl, by rw [q.2]; rfl⟩
theorem ntz_0 {s : Int} (hk : (lowF s 31 0 = 0 ∧ bdf (s - 1) s = 0) ∨ (lowF s 31 0 = 1 ∧ bdf (s - 1) s = 1) ∨ (lowF s 31 0 = 2 ∧ bdf (s - 1) s = 3) ∨ (lowF s 31 0 = 3 ∧ bdf (s - 1) s = 7) ∨ (lowF s 31 0 = 4 ∧ bdf (s - 1) s = 15) ∨ (lowF s 31 0 = 5 ∧ bdf (s - 1) s = 31) ∨ (lowF s 31 0 = 6 ∧ bdf (s - 1) s = 63) ∨ (lowF s 31 0 = 7 ∧ bdf (s - 1) s = 127) ∨ (lowF s 31 0 = 8 ∧ bdf (s - 1) s = 255) ∨ (lowF s 31 0 = 9 ∧ bdf (s - 1) s = 511) ∨ (lowF s 31 0 = 10 ∧ bdf (s - 1) s = 1023) ∨ (lowF s 31 0 = 11 ∧ bdf (s - 1) s = 2047) ∨ (lowF s 31 0 = 12 ∧ bdf (s - 1) s = 4095) ∨ (lowF s 31 0 = 13 ∧ bdf (s - 1) s = 8191) ∨ (lowF s 31 0 = 14 ∧ bdf (s - 1) s = 16383) ∨ (lowF s 31 0 = 15 ∧ bdf (s - 1) s = 32767)) (h : bdf (s - 1) s ≤ 0) : ban (bdf (s - 1) s) 32 = lowF s 31 0 := by
  have h1 : bdf (s - 1) s = 0 ∧ lowF s 31 0 = 0 := by rcases hk with hk | hk | hk | hk | hk | hk | hk | hk | hk | hk | hk | hk | hk | hk | hk | hk <;> omega
  rw [h1.1, h1.2]
  decide
set_option maxRecDepth 100000 in
theorem sJ_ntz {hp : List mx_C} {s : Int} (h_s : 1 ≤ s ∧ s < 65536) : SpF yJ6_numberOfTrailingZeros_0f7a4 cJ6_numberOfTrailingZeros_0f7a4 2 (some .int) 0 [.int (jI s)] hp (.int (jI (lowF s 31 0))) hp := by
  have hk := low_all h_s
  have hbn := bdf_nn (s - 1) s
  have hbl := bdf_le (s - 1) s (by omega)
  refine Sp.of [.int (jI s), .retAddr 0] (by decide) (by simp) (Nat.le_of_ble_eq_true rfl) rfl (fun E => ?_)
  refine L_i0 dJ6_numberOfTrailingZeros_0f7a4_0 ?_
  refine J_iconst dJ6_numberOfTrailingZeros_0f7a4_1 ?_
  refine J_inot dJ6_numberOfTrailingZeros_0f7a4_2 ?_
  refine L_i0 dJ6_numberOfTrailingZeros_0f7a4_3 ?_
  refine J_iconst dJ6_numberOfTrailingZeros_0f7a4_4 ?_
  refine J_isub dJ6_numberOfTrailingZeros_0f7a4_5 ?_
  refine J_iandC2 dJ6_numberOfTrailingZeros_0f7a4_6 (by omega) (by omega) ?_
  refine S_i0 dJ6_numberOfTrailingZeros_0f7a4_7 (by decide) ?_
  refine L_i0 dJ6_numberOfTrailingZeros_0f7a4_8 ?_
  refine J_if_gt 17 dJ6_numberOfTrailingZeros_0f7a4_9 rfl (by omega) (fun c9 => ?_) (fun c9 => ?_)
  · refine J_iconst dJ6_numberOfTrailingZeros_0f7a4_17 ?_
    refine S_i1 dJ6_numberOfTrailingZeros_0f7a4_18 (by decide) rfl ?_
    refine L_i0 dJ6_numberOfTrailingZeros_0f7a4_19 ?_
    refine J_ldcw (65536) dJ6_numberOfTrailingZeros_0f7a4_20 kJ6_264 (by decide) ?_
    refine J_icmp_le 34 dJ6_numberOfTrailingZeros_0f7a4_23 rfl (by omega) (by omega) (fun c23 => ?_) (fun c23 => ?_)
    · refine L_i0 dJ6_numberOfTrailingZeros_0f7a4_34 ?_
      refine J_sipush dJ6_numberOfTrailingZeros_0f7a4_35 (by decide) ?_
      refine J_icmp_le 49 dJ6_numberOfTrailingZeros_0f7a4_38 rfl (by omega) (by omega) (fun c38 => ?_) (fun c38 => ?_)
      · refine L_i0 dJ6_numberOfTrailingZeros_0f7a4_49 ?_
        refine J_bipush dJ6_numberOfTrailingZeros_0f7a4_50 (by decide) ?_
        refine J_icmp_le 62 dJ6_numberOfTrailingZeros_0f7a4_52 rfl (by omega) (by omega) (fun c52 => ?_) (fun c52 => ?_)
        · refine L_i0 dJ6_numberOfTrailingZeros_0f7a4_62 ?_
          refine J_iconst dJ6_numberOfTrailingZeros_0f7a4_63 ?_
          refine J_icmp_le 74 dJ6_numberOfTrailingZeros_0f7a4_64 rfl (by omega) (by omega) (fun c64 => ?_) (fun c64 => ?_)
          · refine L_i1 dJ6_numberOfTrailingZeros_0f7a4_74 ?_
            refine L_i0 dJ6_numberOfTrailingZeros_0f7a4_75 ?_
            refine J_iconst dJ6_numberOfTrailingZeros_0f7a4_76 ?_
            refine J_iushrK 2 dJ6_numberOfTrailingZeros_0f7a4_77 (by decide) (by omega) (by omega) ?_
            refine J_iadd dJ6_numberOfTrailingZeros_0f7a4_78 ?_
            exact R_i rfl dJ6_numberOfTrailingZeros_0f7a4_79 rfl (by rcases hk with hk | hk | hk | hk | hk | hk | hk | hk | hk | hk | hk | hk | hk | hk | hk | hk <;> omega)
          · refine JI_1 dJ6_numberOfTrailingZeros_0f7a4_67 (by decide) rfl ?_
            refine L_i0 dJ6_numberOfTrailingZeros_0f7a4_70 ?_
            refine J_iconst dJ6_numberOfTrailingZeros_0f7a4_71 ?_
            refine J_iushrK 4 dJ6_numberOfTrailingZeros_0f7a4_72 (by decide) (by omega) (by omega) ?_
            refine S_i0 dJ6_numberOfTrailingZeros_0f7a4_73 (by decide) ?_
            refine L_i1 dJ6_numberOfTrailingZeros_0f7a4_74 ?_
            refine L_i0 dJ6_numberOfTrailingZeros_0f7a4_75 ?_
            refine J_iconst dJ6_numberOfTrailingZeros_0f7a4_76 ?_
            refine J_iushrK 2 dJ6_numberOfTrailingZeros_0f7a4_77 (by decide) (by omega) (by omega) ?_
            refine J_iadd dJ6_numberOfTrailingZeros_0f7a4_78 ?_
            exact R_i rfl dJ6_numberOfTrailingZeros_0f7a4_79 rfl (by rcases hk with hk | hk | hk | hk | hk | hk | hk | hk | hk | hk | hk | hk | hk | hk | hk | hk <;> omega)
        · refine JI_1 dJ6_numberOfTrailingZeros_0f7a4_55 (by decide) rfl ?_
          refine L_i0 dJ6_numberOfTrailingZeros_0f7a4_58 ?_
          refine J_iconst dJ6_numberOfTrailingZeros_0f7a4_59 ?_
          refine J_iushrK 16 dJ6_numberOfTrailingZeros_0f7a4_60 (by decide) (by omega) (by omega) ?_
          refine S_i0 dJ6_numberOfTrailingZeros_0f7a4_61 (by decide) ?_
          refine L_i0 dJ6_numberOfTrailingZeros_0f7a4_62 ?_
          refine J_iconst dJ6_numberOfTrailingZeros_0f7a4_63 ?_
          refine J_icmp_le 74 dJ6_numberOfTrailingZeros_0f7a4_64 rfl (by omega) (by omega) (fun c64 => ?_) (fun c64 => ?_)
          · refine L_i1 dJ6_numberOfTrailingZeros_0f7a4_74 ?_
            refine L_i0 dJ6_numberOfTrailingZeros_0f7a4_75 ?_
            refine J_iconst dJ6_numberOfTrailingZeros_0f7a4_76 ?_
            refine J_iushrK 2 dJ6_numberOfTrailingZeros_0f7a4_77 (by decide) (by omega) (by omega) ?_
            refine J_iadd dJ6_numberOfTrailingZeros_0f7a4_78 ?_
            exact R_i rfl dJ6_numberOfTrailingZeros_0f7a4_79 rfl (by rcases hk with hk | hk | hk | hk | hk | hk | hk | hk | hk | hk | hk | hk | hk | hk | hk | hk <;> omega)
          · refine JI_1 dJ6_numberOfTrailingZeros_0f7a4_67 (by decide) rfl ?_
            refine L_i0 dJ6_numberOfTrailingZeros_0f7a4_70 ?_
            refine J_iconst dJ6_numberOfTrailingZeros_0f7a4_71 ?_
            refine J_iushrK 4 dJ6_numberOfTrailingZeros_0f7a4_72 (by decide) (by omega) (by omega) ?_
            refine S_i0 dJ6_numberOfTrailingZeros_0f7a4_73 (by decide) ?_
            refine L_i1 dJ6_numberOfTrailingZeros_0f7a4_74 ?_
            refine L_i0 dJ6_numberOfTrailingZeros_0f7a4_75 ?_
            refine J_iconst dJ6_numberOfTrailingZeros_0f7a4_76 ?_
            refine J_iushrK 2 dJ6_numberOfTrailingZeros_0f7a4_77 (by decide) (by omega) (by omega) ?_
            refine J_iadd dJ6_numberOfTrailingZeros_0f7a4_78 ?_
            exact R_i rfl dJ6_numberOfTrailingZeros_0f7a4_79 rfl (by rcases hk with hk | hk | hk | hk | hk | hk | hk | hk | hk | hk | hk | hk | hk | hk | hk | hk <;> omega)
      · refine JI_1 dJ6_numberOfTrailingZeros_0f7a4_41 (by decide) rfl ?_
        refine L_i0 dJ6_numberOfTrailingZeros_0f7a4_44 ?_
        refine J_bipush dJ6_numberOfTrailingZeros_0f7a4_45 (by decide) ?_
        refine J_iushrK 256 dJ6_numberOfTrailingZeros_0f7a4_47 (by decide) (by omega) (by omega) ?_
        refine S_i0 dJ6_numberOfTrailingZeros_0f7a4_48 (by decide) ?_
        refine L_i0 dJ6_numberOfTrailingZeros_0f7a4_49 ?_
        refine J_bipush dJ6_numberOfTrailingZeros_0f7a4_50 (by decide) ?_
        refine J_icmp_le 62 dJ6_numberOfTrailingZeros_0f7a4_52 rfl (by omega) (by omega) (fun c52 => ?_) (fun c52 => ?_)
        · refine L_i0 dJ6_numberOfTrailingZeros_0f7a4_62 ?_
          refine J_iconst dJ6_numberOfTrailingZeros_0f7a4_63 ?_
          refine J_icmp_le 74 dJ6_numberOfTrailingZeros_0f7a4_64 rfl (by omega) (by omega) (fun c64 => ?_) (fun c64 => ?_)
          · refine L_i1 dJ6_numberOfTrailingZeros_0f7a4_74 ?_
            refine L_i0 dJ6_numberOfTrailingZeros_0f7a4_75 ?_
            refine J_iconst dJ6_numberOfTrailingZeros_0f7a4_76 ?_
            refine J_iushrK 2 dJ6_numberOfTrailingZeros_0f7a4_77 (by decide) (by omega) (by omega) ?_
            refine J_iadd dJ6_numberOfTrailingZeros_0f7a4_78 ?_
            exact R_i rfl dJ6_numberOfTrailingZeros_0f7a4_79 rfl (by rcases hk with hk | hk | hk | hk | hk | hk | hk | hk | hk | hk | hk | hk | hk | hk | hk | hk <;> omega)
          · refine JI_1 dJ6_numberOfTrailingZeros_0f7a4_67 (by decide) rfl ?_
            refine L_i0 dJ6_numberOfTrailingZeros_0f7a4_70 ?_
            refine J_iconst dJ6_numberOfTrailingZeros_0f7a4_71 ?_
            refine J_iushrK 4 dJ6_numberOfTrailingZeros_0f7a4_72 (by decide) (by omega) (by omega) ?_
            refine S_i0 dJ6_numberOfTrailingZeros_0f7a4_73 (by decide) ?_
            refine L_i1 dJ6_numberOfTrailingZeros_0f7a4_74 ?_
            refine L_i0 dJ6_numberOfTrailingZeros_0f7a4_75 ?_
            refine J_iconst dJ6_numberOfTrailingZeros_0f7a4_76 ?_
            refine J_iushrK 2 dJ6_numberOfTrailingZeros_0f7a4_77 (by decide) (by omega) (by omega) ?_
            refine J_iadd dJ6_numberOfTrailingZeros_0f7a4_78 ?_
            exact R_i rfl dJ6_numberOfTrailingZeros_0f7a4_79 rfl (by rcases hk with hk | hk | hk | hk | hk | hk | hk | hk | hk | hk | hk | hk | hk | hk | hk | hk <;> omega)
        · refine JI_1 dJ6_numberOfTrailingZeros_0f7a4_55 (by decide) rfl ?_
          refine L_i0 dJ6_numberOfTrailingZeros_0f7a4_58 ?_
          refine J_iconst dJ6_numberOfTrailingZeros_0f7a4_59 ?_
          refine J_iushrK 16 dJ6_numberOfTrailingZeros_0f7a4_60 (by decide) (by omega) (by omega) ?_
          refine S_i0 dJ6_numberOfTrailingZeros_0f7a4_61 (by decide) ?_
          refine L_i0 dJ6_numberOfTrailingZeros_0f7a4_62 ?_
          refine J_iconst dJ6_numberOfTrailingZeros_0f7a4_63 ?_
          refine J_icmp_le 74 dJ6_numberOfTrailingZeros_0f7a4_64 rfl (by omega) (by omega) (fun c64 => ?_) (fun c64 => ?_)
          · refine L_i1 dJ6_numberOfTrailingZeros_0f7a4_74 ?_
            refine L_i0 dJ6_numberOfTrailingZeros_0f7a4_75 ?_
            refine J_iconst dJ6_numberOfTrailingZeros_0f7a4_76 ?_
            refine J_iushrK 2 dJ6_numberOfTrailingZeros_0f7a4_77 (by decide) (by omega) (by omega) ?_
            refine J_iadd dJ6_numberOfTrailingZeros_0f7a4_78 ?_
            exact R_i rfl dJ6_numberOfTrailingZeros_0f7a4_79 rfl (by rcases hk with hk | hk | hk | hk | hk | hk | hk | hk | hk | hk | hk | hk | hk | hk | hk | hk <;> omega)
          · refine JI_1 dJ6_numberOfTrailingZeros_0f7a4_67 (by decide) rfl ?_
            refine L_i0 dJ6_numberOfTrailingZeros_0f7a4_70 ?_
            refine J_iconst dJ6_numberOfTrailingZeros_0f7a4_71 ?_
            refine J_iushrK 4 dJ6_numberOfTrailingZeros_0f7a4_72 (by decide) (by omega) (by omega) ?_
            refine S_i0 dJ6_numberOfTrailingZeros_0f7a4_73 (by decide) ?_
            refine L_i1 dJ6_numberOfTrailingZeros_0f7a4_74 ?_
            refine L_i0 dJ6_numberOfTrailingZeros_0f7a4_75 ?_
            refine J_iconst dJ6_numberOfTrailingZeros_0f7a4_76 ?_
            refine J_iushrK 2 dJ6_numberOfTrailingZeros_0f7a4_77 (by decide) (by omega) (by omega) ?_
            refine J_iadd dJ6_numberOfTrailingZeros_0f7a4_78 ?_
            exact R_i rfl dJ6_numberOfTrailingZeros_0f7a4_79 rfl (by rcases hk with hk | hk | hk | hk | hk | hk | hk | hk | hk | hk | hk | hk | hk | hk | hk | hk <;> omega)
    · exfalso; omega
  · refine L_i0 dJ6_numberOfTrailingZeros_0f7a4_12 ?_
    refine J_bipush dJ6_numberOfTrailingZeros_0f7a4_13 (by decide) ?_
    refine J_iandG dJ6_numberOfTrailingZeros_0f7a4_15 (by omega) (by omega) ?_
    exact R_i rfl dJ6_numberOfTrailingZeros_0f7a4_16 rfl (ntz_0 hk c9)

