/-! ===== longs: shifts and bits ===== -/
theorem jL_nat (n : Nat) : jL (n : Int) = lN n := Int64.ofInt_eq_ofNat
theorem lN_bv (n : Nat) : (lN n).toBitVec = BitVec.ofNat 64 n := rfl
theorem jL_or (m n : Nat) : jL m ||| jL n = jL ((m ||| n : Nat) : Int) := by
  rw [jL_nat, jL_nat, jL_nat]
  apply Int64.toBitVec.inj
  rw [Int64.toBitVec_or, lN_bv, lN_bv, lN_bv]
  apply BitVec.eq_of_toNat_eq
  simp [Nat.or_mod_two_pow]
theorem jL_xor (m n : Nat) : jL m ^^^ jL n = jL ((m ^^^ n : Nat) : Int) := by
  rw [jL_nat, jL_nat, jL_nat]
  apply Int64.toBitVec.inj
  rw [Int64.toBitVec_xor, lN_bv, lN_bv, lN_bv]
  apply BitVec.eq_of_toNat_eq
  simp [Nat.xor_mod_two_pow]
theorem jL_shl (a : Nat) {k : Nat} {y : Int64} (hy : (y.toBitVec.smod 64).toNat = k) : jL a <<< y = jL ((a * 2 ^ k : Nat) : Int) := by
  rw [jL_nat, jL_nat]
  apply Int64.toBitVec.inj
  rw [Int64.toBitVec_shiftLeft, lN_bv, lN_bv]
  apply BitVec.eq_of_toNat_eq
  rw [BitVec.shiftLeft_eq', hy, BitVec.toNat_shiftLeft, BitVec.toNat_ofNat, BitVec.toNat_ofNat, Nat.shiftLeft_eq, Nat.mod_mul_mod]
theorem jL_shr {a : Int} (ha : -9223372036854775808 ≤ a ∧ a < 9223372036854775808) {k : Nat} {y : Int64} (hy : (y.toBitVec.smod 64).toNat = k) : jL a >>> y = jL (a / 2 ^ k) := by
  have h : (jL a >>> y).toInt = a >>> k := by
    show (jL a >>> y).toBitVec.toInt = _
    rw [Int64.toBitVec_shiftRight, BitVec.sshiftRight_eq', hy, BitVec.toInt_sshiftRight]
    show (jL a).toInt >>> k = _
    rw [jL_toInt ha]
  rw [← Int64.ofInt_toInt (jL a >>> y), h, Int.shiftRight_eq_div_pow]
  rfl
section LG
variable {E : mx_E} {y : MethodName} {cc : ByteArray} {nL : Nat} {ret : Option FieldType} {K : mx_Kd} {bc bs pc : Nat} {lv st : List Value} {hp : List mx_C}
/-- shifted left by a literal -/
theorem J_lshl {a : Nat} {b : Int} (k : Nat) (hd : decode cc pc = .ok (.lshl, 1)) (hb : (((jI b).toInt64 &&& 63).toBitVec.smod 64).toNat = k) (kk : Ev E y cc nL ret K bc bs (pc + 1) lv (.long (jL ((a * 2 ^ k : Nat) : Int)) :: st) hp) : Ev E y cc nL ret K bc bs pc lv (.int (jI b) :: .long (jL (a : Int)) :: st) hp := E_lshl hd (by rw [jL_shl a hb]; exact kk)
theorem J_lshr {a b : Int} (k : Nat) (hd : decode cc pc = .ok (.lshr, 1)) (ha : -9223372036854775808 ≤ a ∧ a < 9223372036854775808) (hb : (((jI b).toInt64 &&& 63).toBitVec.smod 64).toNat = k) (kk : Ev E y cc nL ret K bc bs (pc + 1) lv (.long (jL (a / 2 ^ k)) :: st) hp) : Ev E y cc nL ret K bc bs pc lv (.int (jI b) :: .long (jL a) :: st) hp := E_lshr hd (jL_shr ha hb) kk
theorem J_lor {a b : Nat} (hd : decode cc pc = .ok (.lor, 1)) (kk : Ev E y cc nL ret K bc bs (pc + 1) lv (.long (jL ((a ||| b : Nat) : Int)) :: st) hp) : Ev E y cc nL ret K bc bs pc lv (.long (jL (b : Int)) :: .long (jL (a : Int)) :: st) hp := E_lor hd (by rw [jL_or]; exact kk)
theorem J_lxor {a b : Nat} (hd : decode cc pc = .ok (.lxor, 1)) (kk : Ev E y cc nL ret K bc bs (pc + 1) lv (.long (jL ((a ^^^ b : Nat) : Int)) :: st) hp) : Ev E y cc nL ret K bc bs pc lv (.long (jL (b : Int)) :: .long (jL (a : Int)) :: st) hp := E_lxor hd (by rw [jL_xor]; exact kk)
/-- a byte put behind -/
theorem J_lpack {a b : Nat} (hb : b < 256) (hd : decode cc pc = .ok (.lor, 1)) (kk : Ev E y cc nL ret K bc bs (pc + 1) lv (.long (jL ((a * 256 + b : Nat) : Int)) :: st) hp) : Ev E y cc nL ret K bc bs pc lv (.long (jL (b : Int)) :: .long (jL ((a * 2 ^ 8 : Nat) : Int)) :: st) hp := by
  refine J_lor hd ?_
  have e : a * 2 ^ 8 ||| b = a * 256 + b := by
    have := Nat.two_pow_add_eq_or_of_lt (i := 8) (b := b) hb a
    rw [Nat.mul_comm] at this
    exact this.symm
  rw [e]
  exact kk
end LG
