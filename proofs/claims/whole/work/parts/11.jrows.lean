/-! ===== numbers: jI z = Int32.ofInt z; rows over them ===== -/
def jI (z : Int) : Int32 := Int32.ofInt z
def jL (z : Int) : Int64 := Int64.ofInt z
theorem jI_add (a b : Int) : jI a + jI b = jI (a + b) := (Int32.ofInt_add a b).symm
theorem jI_sub (a b : Int) : jI a - jI b = jI (a - b) := (Int32.ofInt_sub a b).symm
theorem jI_mul (a b : Int) : jI a * jI b = jI (a * b) := (Int32.ofInt_mul a b).symm
theorem jI_neg (a : Int) : - jI a = jI (-a) := (Int32.ofInt_neg a).symm
theorem jL_add (a b : Int) : jL a + jL b = jL (a + b) := (Int64.ofInt_add a b).symm
theorem jL_sub (a b : Int) : jL a - jL b = jL (a - b) := (Int64.ofInt_sub a b).symm
theorem jL_mul (a b : Int) : jL a * jL b = jL (a * b) := (Int64.ofInt_mul a b).symm
theorem jL_neg (a : Int) : - jL a = jL (-a) := (Int64.ofInt_neg a).symm
theorem jI_toInt {a : Int} (h : -2147483648 ≤ a ∧ a < 2147483648) : (jI a).toInt = a := Int32.toInt_ofInt_of_le (by omega) (by omega)
theorem jL_toInt {a : Int} (h : -9223372036854775808 ≤ a ∧ a < 9223372036854775808) : (jL a).toInt = a := Int64.toInt_ofInt_of_le (by omega) (by omega)
theorem jI_of (x : Int32) : ∃ z : Int, (-2147483648 ≤ z ∧ z < 2147483648) ∧ x = jI z := by
  refine ⟨x.toInt, ?_, (Int32.ofInt_toInt x).symm⟩
  have h1 := x.minValue_le_toInt
  have h2 := x.toInt_le
  have e1 : Int32.minValue.toInt = -2147483648 := by decide
  have e2 : Int32.maxValue.toInt = 2147483647 := by decide
  omega
theorem jI_lt {a b : Int} (ha : -2147483648 ≤ a ∧ a < 2147483648) (hb : -2147483648 ≤ b ∧ b < 2147483648) : jI a < jI b ↔ a < b := by
  rw [Int32.lt_iff_toInt_lt, jI_toInt ha, jI_toInt hb]
theorem jI_le {a b : Int} (ha : -2147483648 ≤ a ∧ a < 2147483648) (hb : -2147483648 ≤ b ∧ b < 2147483648) : jI a ≤ jI b ↔ a ≤ b := by
  rw [Int32.le_iff_toInt_le, jI_toInt ha, jI_toInt hb]
theorem jI_eq {a b : Int} (ha : -2147483648 ≤ a ∧ a < 2147483648) (hb : -2147483648 ≤ b ∧ b < 2147483648) : jI a = jI b ↔ a = b := by
  rw [← Int32.toInt_inj, jI_toInt ha, jI_toInt hb]
theorem jL_lt {a b : Int} (ha : -9223372036854775808 ≤ a ∧ a < 9223372036854775808) (hb : -9223372036854775808 ≤ b ∧ b < 9223372036854775808) : jL a < jL b ↔ a < b := by
  rw [Int64.lt_iff_toInt_lt, jL_toInt ha, jL_toInt hb]
theorem jL_eq {a b : Int} (ha : -9223372036854775808 ≤ a ∧ a < 9223372036854775808) (hb : -9223372036854775808 ≤ b ∧ b < 9223372036854775808) : jL a = jL b ↔ a = b := by
  rw [← Int64.toInt_inj, jL_toInt ha, jL_toInt hb]
theorem jI_0 : (0 : Int32) = jI 0 := by decide
theorem jI_nat (n : Nat) : jI (n : Int) = nI n := Int32.ofInt_eq_ofNat
theorem jI_div {a b : Int} (ha : -2147483648 < a ∧ a < 2147483648) (hb : -2147483648 ≤ b ∧ b < 2147483648) : jI a / jI b = jI (a.tdiv b) := by
  have e1 : Int32.minValue.toInt = -2147483648 := by decide
  have e2 : Int32.maxValue.toInt = 2147483647 := by decide
  exact (Int32.ofInt_tdiv (a := a) (b := b) (by omega) (by omega) (by omega) (by omega)).symm
theorem jI_rem {a b : Int} (ha : -2147483648 < a ∧ a < 2147483648) (hb : -2147483648 ≤ b ∧ b < 2147483648) : jI a - jI a / jI b * jI b = jI (a.tmod b) := by
  rw [jI_div ha hb, jI_mul, jI_sub]
  congr 1
  have := Int.tmod_def a b
  rw [this, Int.mul_comm]
theorem jL_div {a b : Int} (ha : -9223372036854775808 < a ∧ a < 9223372036854775808) (hb : -9223372036854775808 ≤ b ∧ b < 9223372036854775808) : jL a / jL b = jL (a.tdiv b) := by
  have e1 : Int64.minValue.toInt = -9223372036854775808 := by decide
  have e2 : Int64.maxValue.toInt = 9223372036854775807 := by decide
  exact (Int64.ofInt_tdiv (a := a) (b := b) (by omega) (by omega) (by omega) (by omega)).symm
theorem jL_rem {a b : Int} (ha : -9223372036854775808 < a ∧ a < 9223372036854775808) (hb : -9223372036854775808 ≤ b ∧ b < 9223372036854775808) : jL a - jL a / jL b * jL b = jL (a.tmod b) := by
  rw [jL_div ha hb, jL_mul, jL_sub]
  congr 1
  have := Int.tmod_def a b
  rw [this, Int.mul_comm]
theorem jI_bv (n : Nat) : (nI n).toBitVec = BitVec.ofNat 32 n := rfl
theorem jI_and (m n : Nat) : jI m &&& jI n = jI ((m &&& n : Nat) : Int) := by
  rw [jI_nat, jI_nat, jI_nat]
  apply Int32.toBitVec.inj
  rw [Int32.toBitVec_and, jI_bv, jI_bv, jI_bv]
  apply BitVec.eq_of_toNat_eq
  simp [Nat.and_mod_two_pow]
theorem jI_or (m n : Nat) : jI m ||| jI n = jI ((m ||| n : Nat) : Int) := by
  rw [jI_nat, jI_nat, jI_nat]
  apply Int32.toBitVec.inj
  rw [Int32.toBitVec_or, jI_bv, jI_bv, jI_bv]
  apply BitVec.eq_of_toNat_eq
  simp [Nat.or_mod_two_pow]
theorem jI_xor (m n : Nat) : jI m ^^^ jI n = jI ((m ^^^ n : Nat) : Int) := by
  rw [jI_nat, jI_nat, jI_nat]
  apply Int32.toBitVec.inj
  rw [Int32.toBitVec_xor, jI_bv, jI_bv, jI_bv]
  apply BitVec.eq_of_toNat_eq
  simp [Nat.xor_mod_two_pow]
theorem jI_not (a : Int) : jI a ^^^ jI (-1) = jI (-a - 1) := by
  have h : jI (-a - 1) = - jI a - 1 := by
    rw [jI_neg]
    exact (Int32.ofInt_sub (-a) 1)
  rw [h]
  apply Int32.toBitVec.inj
  rw [Int32.toBitVec_xor, Int32.toBitVec_sub, Int32.toBitVec_neg]
  have e : (jI (-1)).toBitVec = BitVec.allOnes 32 := by decide
  have e1 : (1 : Int32).toBitVec = 1#32 := by decide
  rw [e, BitVec.xor_allOnes, e1, BitVec.neg_eq_not_add]
  exact (BitVec.add_sub_cancel _ _).symm
/-- the bits of m that aren't bits of n -/
def nd (m n : Nat) : Nat := m ^^^ (m &&& n)
theorem jI_andC (m n : Nat) : jI m &&& jI (-(n : Int) - 1) = jI ((nd m n : Nat) : Int) := by
  rw [← jI_not, jI_nat, jI_nat, jI_nat]
  apply Int32.toBitVec.inj
  have e : (jI (-1)).toBitVec = BitVec.allOnes 32 := by decide
  rw [Int32.toBitVec_and, Int32.toBitVec_xor, e, BitVec.xor_allOnes, jI_bv, jI_bv, jI_bv]
  apply BitVec.eq_of_getLsbD_eq
  intro i hi
  simp only [BitVec.getLsbD_and, BitVec.getLsbD_not, BitVec.getLsbD_ofNat, nd, Nat.testBit_xor, Nat.testBit_and, hi, decide_true, Bool.true_and]
  cases m.testBit i <;> cases n.testBit i <;> rfl
theorem jI_toNat (a : Int) : (jI a).toBitVec.toNat = (a % 4294967296).toNat := by
  show (BitVec.ofInt 32 a).toNat = _
  rw [BitVec.toNat_ofInt]
  rfl
theorem jI_mask (a : Int) (k : Nat) (hk : k ≤ 31) {m : Int} (hm : m = 2 ^ k - 1) : jI a &&& jI m = jI (a % 2 ^ k) := by
  have hmn : m = ((2 ^ k - 1 : Nat) : Int) := by
    rw [hm]
    have : 1 ≤ 2 ^ k := Nat.one_le_two_pow
    have h2 : ((2 ^ k : Nat) : Int) = (2 : Int) ^ k := by norm_cast
    omega
  have hp : (2 : Nat) ^ k ≤ 2 ^ 31 := Nat.pow_le_pow_right (by decide) hk
  rw [hmn, pk_and (jI a) (m := jI ((2 ^ k - 1 : Nat) : Int)) k (by rw [jI_nat, pk_tn]; omega), jI_toNat, ← jI_nat]
  congr 1
  have h1 : (4294967296 : Int) = 2 ^ k * 2 ^ (32 - k) := by
    rw [← Int.pow_add]
    rw [show k + (32 - k) = 32 by omega]
    rfl
  have h0 : 0 ≤ a % 4294967296 := Int.emod_nonneg _ (by decide)
  rw [show (((a % 4294967296).toNat % 2 ^ k : Nat) : Int) = (((a % 4294967296).toNat : Nat) : Int) % ((2 ^ k : Nat) : Int) from rfl, Int.toNat_of_nonneg h0]
  rw [show (((2 : Nat) ^ k : Nat) : Int) = 2 ^ k by norm_cast, h1, Int.emod_emod_of_dvd _ (Int.dvd_mul_right _ _)]
def jb (P : Prop) [Decidable P] : Int := if P then 1 else 0
theorem jb_t {P : Prop} [Decidable P] (h : P) : jb P = 1 := if_pos h
theorem jb_f {P : Prop} [Decidable P] (h : ¬ P) : jb P = 0 := if_neg h
theorem jb_B (P : Prop) [Decidable P] : 0 ≤ jb P ∧ jb P ≤ 1 := by unfold jb; split <;> decide
theorem jb_nar (P : Prop) [Decidable P] : narrow .boolean (.int (jI (jb P))) = .int (jI (jb P)) := by unfold jb; split <;> decide
/-- rows of whole numbers: int, byte, boolean, long -/
abbrev ia (n : Nat) (f : Int → Int) : mx_C := .inl (0, n, .inl (fun q => jI (f (q : Int))))
abbrev ba (n : Nat) (f : Int → Int) : mx_C := .inl (1, n, .inl (fun q => jI (f (q : Int))))
abbrev za (n : Nat) (f : Int → Int) : mx_C := .inl (2, n, .inl (fun q => jI (f (q : Int))))
abbrev la (n : Nat) (f : Int → Int) : mx_C := .inl (3, n, .inr (.inl (fun q => jL (f (q : Int)))))
abbrev ob (ci : Nat) (fs : List Value) : mx_C := .inr (ci, fs)
def up (f : Int → Int) (k x : Int) : Int → Int := fun j => if j = k then x else f j
theorem up_s (f : Int → Int) (k x : Int) : up f k x k = x := if_pos rfl
theorem up_n {f : Int → Int} {k x j : Int} (h : ¬ j = k) : up f k x j = f j := if_neg h
theorem jI_clamp {j : Int} {n : Nat} (h : 0 ≤ j ∧ j < n) (hn : n < 2147483648) : (jI j).toNatClampNeg = j.toNat := by
  show (jI j).toInt.toNat = _
  rw [jI_toInt (by omega)]
theorem jI_in {j : Int} {n : Nat} (h : 0 ≤ j ∧ j < n) (hn : n < 2147483648) : vp_in (jI j) n := by
  rw [vp_in_iff, jI_toInt (by omega)]
  exact h
theorem jI_upd {f : Int → Int} {j x : Int} {n : Nat} (h : 0 ≤ j ∧ j < n) (hn : n < 2147483648) : upd (fun q => jI (f (q : Int))) (jI j).toNatClampNeg (jI x) = fun q : Nat => jI (up f j x (q : Int)) := by
  funext q
  rw [jI_clamp h hn]
  unfold upd up
  by_cases hq : q = j.toNat
  · rw [if_pos hq, if_pos (by omega)]
  · rw [if_neg hq, if_neg (by omega)]
theorem jL_upd {f : Int → Int} {j x : Int} {n : Nat} (h : 0 ≤ j ∧ j < n) (hn : n < 2147483648) : vp_updL (fun q => jL (f (q : Int))) (jI j).toNatClampNeg (jL x) = fun q : Nat => jL (up f j x (q : Int)) := by
  funext q
  rw [jI_clamp h hn]
  unfold vp_updL up
  by_cases hq : q = j.toNat
  · rw [if_pos hq, if_pos (by omega)]
  · rw [if_neg hq, if_neg (by omega)]
theorem jI_cast {j : Int} {n : Nat} (h : 0 ≤ j ∧ j < n) (hn : n < 2147483648) : ((jI j).toNatClampNeg : Int) = j := by
  rw [jI_clamp h hn]
  omega
theorem jI_shl (a : Int) {k : Int} (hk : 0 ≤ k ∧ k < 32) : jI a <<< (jI k &&& 31) = jI (a * 2 ^ k.toNat) := by
  obtain ⟨n, rfl⟩ : ∃ n : Nat, k = n := ⟨k.toNat, by omega⟩
  have hn : n < 32 := by omega
  have e1 : jI (n : Int) &&& 31 = nI n := by
    rw [jI_nat, pk_andN (by omega) (m := 31) 5 (by decide)]
    congr 1
    exact Nat.mod_eq_of_lt hn
  have e2 : ((nI n).toBitVec.smod 32).toNat = n := (by decide : ∀ n, n < 32 → ((nI n).toBitVec.smod 32).toNat = n) n hn
  rw [e1]
  apply Int32.toBitVec.inj
  apply BitVec.eq_of_toNat_eq
  rw [pk_shl (jI a) (nI n) n e2, jI_toNat, jI_toNat]
  have h0 : 0 ≤ a % 4294967296 := Int.emod_nonneg _ (by decide)
  have h1 : 0 ≤ (a * 2 ^ n) % 4294967296 := Int.emod_nonneg _ (by decide)
  apply Int.ofNat_inj.mp
  rw [show ((((a % 4294967296).toNat * 2 ^ n % 2 ^ 32 : Nat)) : Int) = (((a % 4294967296).toNat : Nat) : Int) * ((2 ^ n : Nat) : Int) % 4294967296 from rfl, Int.toNat_of_nonneg h0, Int.toNat_natCast, Int.toNat_of_nonneg h1]
  rw [show (((2 : Nat) ^ n : Nat) : Int) = 2 ^ n by norm_cast, Int.mul_emod, Int.emod_emod_of_dvd _ (Int.dvd_refl _), ← Int.mul_emod]
theorem jI_ushr {a : Nat} (ha : a < 2147483648) {k : Int} (hk : 0 ≤ k ∧ k < 32) : ((jI a).toUInt32 >>> ((jI k).toUInt32 &&& Int32.toUInt32 31)).toInt32 = jI ((a / 2 ^ k.toNat : Nat) : Int) := by
  obtain ⟨n, rfl⟩ : ∃ n : Nat, k = n := ⟨k.toNat, by omega⟩
  have hn : n < 32 := by omega
  rw [jI_nat, jI_nat, pk_ushrN (by omega) (nI n) n ((by decide : ∀ n, n < 32 → (((nI n).toUInt32 &&& Int32.toUInt32 31).toBitVec % 32).toNat = n) n hn), ← jI_nat]
  rfl
theorem jI_shr {a : Int} (ha : -2147483648 ≤ a ∧ a < 2147483648) {k : Int} (hk : 0 ≤ k ∧ k < 32) : jI a >>> (jI k &&& 31) = jI (a / 2 ^ k.toNat) := by
  obtain ⟨n, rfl⟩ : ∃ n : Nat, k = n := ⟨k.toNat, by omega⟩
  have hn : n < 32 := by omega
  have e1 : jI (n : Int) &&& 31 = nI n := by
    rw [jI_nat, pk_andN (by omega) (m := 31) 5 (by decide)]
    congr 1
    exact Nat.mod_eq_of_lt hn
  have e2 : ((nI n).toBitVec.smod 32).toNat = n := (by decide : ∀ n, n < 32 → ((nI n).toBitVec.smod 32).toNat = n) n hn
  rw [e1]
  have h := pk_shr (jI a) (nI n) n e2
  rw [jI_toInt ha, Int.shiftRight_eq_div_pow] at h
  rw [← Int32.ofInt_toInt (jI a >>> nI n), h]
  rfl
section JR
variable {E : mx_E} {y : MethodName} {cc : ByteArray} {nL : Nat} {ret : Option FieldType} {K : mx_Kd} {bc bs pc : Nat} {lv st : List Value} {hp : List mx_C}

theorem J_iconst {n : Int} (hd : decode cc pc = .ok (.iconst n, 1)) (k : Ev E y cc nL ret K bc bs (pc + 1) lv (.int (jI n) :: st) hp) : Ev E y cc nL ret K bc bs (pc) lv (st) hp := E_iconst hd rfl k
theorem J_bipush {n : Int} (hd : decode cc pc = .ok (.bipush n, 2)) (hn : (Int8.ofInt n).toInt32 = jI n) (k : Ev E y cc nL ret K bc bs (pc + 2) lv (.int (jI n) :: st) hp) : Ev E y cc nL ret K bc bs (pc) lv (st) hp := E_bipush hd hn k
theorem J_sipush {n : Int} (hd : decode cc pc = .ok (.sipush n, 3)) (hn : (Int16.ofInt n).toInt32 = jI n) (k : Ev E y cc nL ret K bc bs (pc + 3) lv (.int (jI n) :: st) hp) : Ev E y cc nL ret K bc bs (pc) lv (st) hp := E_sipush hd hn k
theorem J_lconst {n : Fin 2} (z : Int) (hd : decode cc pc = .ok (.lconst n, 1)) (hz : Int64.ofNat (n : Nat) = jL z) (k : Ev E y cc nL ret K bc bs (pc + 1) lv (.long (jL z) :: st) hp) : Ev E y cc nL ret K bc bs (pc) lv (st) hp := E_lconst hd hz k
theorem J_ldc {i : Nat} {v : Int32} (z : Int) (hd : decode cc pc = .ok (.ldc i, 2)) (hw : Jvm.Cond.constant y.cls i v ∈ mx_gw) (hz : v = jI z) (k : Ev E y cc nL ret K bc bs (pc + 2) lv (.int (jI z) :: st) hp) : Ev E y cc nL ret K bc bs (pc) lv (st) hp := E_ldc hd hw (hz ▸ k)
theorem J_ldcw {i : Nat} {v : Int32} (z : Int) (hd : decode cc pc = .ok (.ldc_w i, 3)) (hw : Jvm.Cond.constant y.cls i v ∈ mx_gw) (hz : v = jI z) (k : Ev E y cc nL ret K bc bs (pc + 3) lv (.int (jI z) :: st) hp) : Ev E y cc nL ret K bc bs (pc) lv (st) hp := E_ldcw hd hw (hz ▸ k)
theorem J_ldc2 {i : Nat} {v : Int64} (z : Int) (hd : decode cc pc = .ok (.ldc2_w i, 3)) (hw : Jvm.Cond.constantLong y.cls i v ∈ mx_gw) (hz : v = jL z) (k : Ev E y cc nL ret K bc bs (pc + 3) lv (.long (jL z) :: st) hp) : Ev E y cc nL ret K bc bs (pc) lv (st) hp := E_ldc2 hd hw (hz ▸ k)
theorem J_iadd {a b : Int} (hd : decode cc pc = .ok (.iadd, 1)) (k : Ev E y cc nL ret K bc bs (pc + 1) lv (.int (jI (a + b)) :: st) hp) : Ev E y cc nL ret K bc bs (pc) lv (.int (jI b) :: .int (jI a) :: st) hp := E_iadd hd (by rw [jI_add]; exact k)
theorem J_isub {a b : Int} (hd : decode cc pc = .ok (.isub, 1)) (k : Ev E y cc nL ret K bc bs (pc + 1) lv (.int (jI (a - b)) :: st) hp) : Ev E y cc nL ret K bc bs (pc) lv (.int (jI b) :: .int (jI a) :: st) hp := E_isub hd (by rw [jI_sub]; exact k)
theorem J_imul {a b : Int} (hd : decode cc pc = .ok (.imul, 1)) (k : Ev E y cc nL ret K bc bs (pc + 1) lv (.int (jI (a * b)) :: st) hp) : Ev E y cc nL ret K bc bs (pc) lv (.int (jI b) :: .int (jI a) :: st) hp := E_imul hd (by rw [jI_mul]; exact k)
theorem J_idiv {a b : Int} (hd : decode cc pc = .ok (.idiv, 1)) (ha : -2147483648 < a ∧ a < 2147483648) (hb : -2147483648 ≤ b ∧ b < 2147483648) (hne : ¬ b = 0) (k : Ev E y cc nL ret K bc bs (pc + 1) lv (.int (jI (a.tdiv b)) :: st) hp) : Ev E y cc nL ret K bc bs (pc) lv (.int (jI b) :: .int (jI a) :: st) hp := E_idiv hd (fun h => hne ((jI_eq hb (by decide)).mp (h.trans jI_0))) (by rw [jI_div ha hb]; exact k)
theorem J_irem {a b : Int} (hd : decode cc pc = .ok (.irem, 1)) (ha : -2147483648 < a ∧ a < 2147483648) (hb : -2147483648 ≤ b ∧ b < 2147483648) (hne : ¬ b = 0) (k : Ev E y cc nL ret K bc bs (pc + 1) lv (.int (jI (a.tmod b)) :: st) hp) : Ev E y cc nL ret K bc bs (pc) lv (.int (jI b) :: .int (jI a) :: st) hp := E_irem hd (fun h => hne ((jI_eq hb (by decide)).mp (h.trans jI_0))) (by rw [jI_rem ha hb]; exact k)
theorem J_iand {a b : Nat} (hd : decode cc pc = .ok (.iand, 1)) (k : Ev E y cc nL ret K bc bs (pc + 1) lv (.int (jI (((a &&& b : Nat) : Int))) :: st) hp) : Ev E y cc nL ret K bc bs (pc) lv (.int (jI (b : Int)) :: .int (jI (a : Int)) :: st) hp := E_iand hd (by rw [jI_and]; exact k)
theorem J_ior {a b : Nat} (hd : decode cc pc = .ok (.ior, 1)) (k : Ev E y cc nL ret K bc bs (pc + 1) lv (.int (jI (((a ||| b : Nat) : Int))) :: st) hp) : Ev E y cc nL ret K bc bs (pc) lv (.int (jI (b : Int)) :: .int (jI (a : Int)) :: st) hp := E_ior hd (by rw [jI_or]; exact k)
theorem J_ixor {a b : Nat} (hd : decode cc pc = .ok (.ixor, 1)) (k : Ev E y cc nL ret K bc bs (pc + 1) lv (.int (jI (((a ^^^ b : Nat) : Int))) :: st) hp) : Ev E y cc nL ret K bc bs (pc) lv (.int (jI (b : Int)) :: .int (jI (a : Int)) :: st) hp := E_ixor hd (by rw [jI_xor]; exact k)
theorem J_iandC {a b : Nat} (hd : decode cc pc = .ok (.iand, 1)) (k : Ev E y cc nL ret K bc bs (pc + 1) lv (.int (jI (((nd a b : Nat) : Int))) :: st) hp) : Ev E y cc nL ret K bc bs (pc) lv (.int (jI (-(b : Int) - 1)) :: .int (jI (a : Int)) :: st) hp := E_iand hd (by rw [jI_andC]; exact k)
theorem J_inot {a : Int} (hd : decode cc pc = .ok (.ixor, 1)) (k : Ev E y cc nL ret K bc bs (pc + 1) lv (.int (jI (-a - 1)) :: st) hp) : Ev E y cc nL ret K bc bs (pc) lv (.int (jI (-1)) :: .int (jI a) :: st) hp := E_ixor hd (by rw [jI_not]; exact k)
theorem J_imask {a m : Int} (n : Nat) (hn : n ≤ 31) (hm : m = 2 ^ n - 1) (hd : decode cc pc = .ok (.iand, 1)) (k : Ev E y cc nL ret K bc bs (pc + 1) lv (.int (jI (a % 2 ^ n)) :: st) hp) : Ev E y cc nL ret K bc bs (pc) lv (.int (jI m) :: .int (jI a) :: st) hp := E_iand hd (by rw [jI_mask a n hn hm]; exact k)
theorem J_ishl {a b : Int} (hd : decode cc pc = .ok (.ishl, 1)) (hb : 0 ≤ b ∧ b < 32) (k : Ev E y cc nL ret K bc bs (pc + 1) lv (.int (jI (a * 2 ^ b.toNat)) :: st) hp) : Ev E y cc nL ret K bc bs (pc) lv (.int (jI b) :: .int (jI a) :: st) hp := E_ishl hd (by rw [jI_shl a hb]; exact k)
theorem J_ishr {a b : Int} (hd : decode cc pc = .ok (.ishr, 1)) (ha : -2147483648 ≤ a ∧ a < 2147483648) (hb : 0 ≤ b ∧ b < 32) (k : Ev E y cc nL ret K bc bs (pc + 1) lv (.int (jI (a / 2 ^ b.toNat)) :: st) hp) : Ev E y cc nL ret K bc bs (pc) lv (.int (jI b) :: .int (jI a) :: st) hp := E_ishr hd (by rw [jI_shr ha hb]; exact k)
theorem J_iushr {a : Nat} {b : Int} (hd : decode cc pc = .ok (.iushr, 1)) (ha : a < 2147483648) (hb : 0 ≤ b ∧ b < 32) (k : Ev E y cc nL ret K bc bs (pc + 1) lv (.int (jI ((a / 2 ^ b.toNat : Nat) : Int)) :: st) hp) : Ev E y cc nL ret K bc bs (pc) lv (.int (jI b) :: .int (jI (a : Int)) :: st) hp := E_iushr hd (by rw [jI_ushr ha hb]; exact k)
theorem J_ineg {a : Int} (hd : decode cc pc = .ok (.ineg, 1)) (k : Ev E y cc nL ret K bc bs (pc + 1) lv (.int (jI (-a)) :: st) hp) : Ev E y cc nL ret K bc bs (pc) lv (.int (jI a) :: st) hp := E_ineg hd (by rw [jI_neg]; exact k)
theorem J_lneg {a : Int} (hd : decode cc pc = .ok (.lneg, 1)) (k : Ev E y cc nL ret K bc bs (pc + 1) lv (.long (jL (-a)) :: st) hp) : Ev E y cc nL ret K bc bs (pc) lv (.long (jL a) :: st) hp := E_lneg hd (by rw [jL_neg]; exact k)
theorem J_ladd {a b : Int} (hd : decode cc pc = .ok (.ladd, 1)) (k : Ev E y cc nL ret K bc bs (pc + 1) lv (.long (jL (a + b)) :: st) hp) : Ev E y cc nL ret K bc bs (pc) lv (.long (jL b) :: .long (jL a) :: st) hp := E_ladd hd (by rw [jL_add]; exact k)
theorem J_lsub {a b : Int} (hd : decode cc pc = .ok (.lsub, 1)) (k : Ev E y cc nL ret K bc bs (pc + 1) lv (.long (jL (a - b)) :: st) hp) : Ev E y cc nL ret K bc bs (pc) lv (.long (jL b) :: .long (jL a) :: st) hp := E_lsub hd (by rw [jL_sub]; exact k)
theorem J_lmul {a b : Int} (hd : decode cc pc = .ok (.lmul, 1)) (k : Ev E y cc nL ret K bc bs (pc + 1) lv (.long (jL (a * b)) :: st) hp) : Ev E y cc nL ret K bc bs (pc) lv (.long (jL b) :: .long (jL a) :: st) hp := E_lmul hd (by rw [jL_mul]; exact k)
theorem J_ldiv {a b : Int} (hd : decode cc pc = .ok (.ldiv, 1)) (ha : -9223372036854775808 < a ∧ a < 9223372036854775808) (hb : -9223372036854775808 ≤ b ∧ b < 9223372036854775808) (hne : ¬ b = 0) (k : Ev E y cc nL ret K bc bs (pc + 1) lv (.long (jL (a.tdiv b)) :: st) hp) : Ev E y cc nL ret K bc bs (pc) lv (.long (jL b) :: .long (jL a) :: st) hp := E_ldiv hd (fun h => hne ((jL_eq hb (by decide)).mp (h.trans (by decide)))) (by rw [jL_div ha hb]; exact k)
theorem J_lrem {a b : Int} (hd : decode cc pc = .ok (.lrem, 1)) (ha : -9223372036854775808 < a ∧ a < 9223372036854775808) (hb : -9223372036854775808 ≤ b ∧ b < 9223372036854775808) (hne : ¬ b = 0) (k : Ev E y cc nL ret K bc bs (pc + 1) lv (.long (jL (a.tmod b)) :: st) hp) : Ev E y cc nL ret K bc bs (pc) lv (.long (jL b) :: .long (jL a) :: st) hp := E_lrem hd (fun h => hne ((jL_eq hb (by decide)).mp (h.trans (by decide)))) (by rw [jL_rem ha hb]; exact k)
theorem jI_i2l {a : Int} (ha : -2147483648 ≤ a ∧ a < 2147483648) : (jI a).toInt64 = jL a := by
  apply Int64.toInt_inj.mp
  rw [Int32.toInt_toInt64, jI_toInt ha, jL_toInt (by omega)]
theorem jL_l2i {a : Int} (ha : -2147483648 ≤ a ∧ a < 2147483648) : (jL a).toInt32 = jI a := by
  apply Int32.toInt_inj.mp
  rw [Int64.toInt_toInt32, jL_toInt (by omega), jI_toInt ha]
  exact Int.bmod_eq_of_le (by omega) (by omega)
def jcmp (a b : Int) : Int := if b < a then 1 else if a = b then 0 else -1
theorem jL_cmp {a b : Int} (ha : -9223372036854775808 ≤ a ∧ a < 9223372036854775808) (hb : -9223372036854775808 ≤ b ∧ b < 9223372036854775808) : lg_cmp (jL a) (jL b) = jI (jcmp a b) := by
  unfold lg_cmp jcmp
  by_cases h1 : b < a
  · rw [if_pos ((jL_lt hb ha).mpr h1), if_pos h1]; decide
  · rw [if_neg (fun h => h1 ((jL_lt hb ha).mp h)), if_neg h1]
    by_cases h2 : a = b
    · rw [if_pos ((jL_eq ha hb).mpr h2), if_pos h2]; decide
    · rw [if_neg (fun h => h2 ((jL_eq ha hb).mp h)), if_neg h2]; decide
theorem J_i2l {a : Int} (hd : decode cc pc = .ok (.i2l, 1)) (ha : -2147483648 ≤ a ∧ a < 2147483648) (k : Ev E y cc nL ret K bc bs (pc + 1) lv (.long (jL a) :: st) hp) : Ev E y cc nL ret K bc bs (pc) lv (.int (jI a) :: st) hp := E_i2l hd (by rw [jI_i2l ha]; exact k)
theorem J_l2i {a : Int} (hd : decode cc pc = .ok (.l2i, 1)) (ha : -2147483648 ≤ a ∧ a < 2147483648) (k : Ev E y cc nL ret K bc bs (pc + 1) lv (.int (jI a) :: st) hp) : Ev E y cc nL ret K bc bs (pc) lv (.long (jL a) :: st) hp := E_l2i hd (by rw [jL_l2i ha]; exact k)
theorem J_lcmp {a b : Int} (hd : decode cc pc = .ok (.lcmp, 1)) (ha : -9223372036854775808 ≤ a ∧ a < 9223372036854775808) (hb : -9223372036854775808 ≤ b ∧ b < 9223372036854775808) (k : Ev E y cc nL ret K bc bs (pc + 1) lv (.int (jI (jcmp a b)) :: st) hp) : Ev E y cc nL ret K bc bs (pc) lv (.long (jL b) :: .long (jL a) :: st) hp := E_lcmp hd (by rw [jL_cmp ha hb]; exact k)
theorem J_icmp_eq {a b : Int} {off : Int} (tgt : Nat) (hd : decode cc pc = .ok (.if_icmp .eq off, 3)) (ht : (pc : Int) + off = (tgt : Int)) (ha : -2147483648 ≤ a ∧ a < 2147483648) (hb : -2147483648 ≤ b ∧ b < 2147483648) (kt : a = b → Ev E y cc nL ret K bc bs (tgt) lv (st) hp) (kf : ¬ a = b → Ev E y cc nL ret K bc bs (pc + 3) lv (st) hp) : Ev E y cc nL ret K bc bs (pc) lv (.int (jI b) :: .int (jI a) :: st) hp := E_icmp_eq tgt hd ht (fun H => kt ((jI_eq ha hb).mp H)) (fun H => kf (fun q => H ((jI_eq ha hb).mpr q)))
theorem J_if_eq {a : Int} {off : Int} (tgt : Nat) (hd : decode cc pc = .ok (.ifCond .eq off, 3)) (ht : (pc : Int) + off = (tgt : Int)) (ha : -2147483648 ≤ a ∧ a < 2147483648) (kt : a = 0 → Ev E y cc nL ret K bc bs (tgt) lv (st) hp) (kf : ¬ a = 0 → Ev E y cc nL ret K bc bs (pc + 3) lv (st) hp) : Ev E y cc nL ret K bc bs (pc) lv (.int (jI a) :: st) hp := E_if_eq tgt hd ht (fun h => by
  have H := h
  rw [jI_0] at H
  exact kt ((jI_eq ha (by decide)).mp H)) (fun h => by
  have H := h
  rw [jI_0] at H
  exact kf (fun q => H ((jI_eq ha (by decide)).mpr q)))
theorem J_icmp_ne {a b : Int} {off : Int} (tgt : Nat) (hd : decode cc pc = .ok (.if_icmp .ne off, 3)) (ht : (pc : Int) + off = (tgt : Int)) (ha : -2147483648 ≤ a ∧ a < 2147483648) (hb : -2147483648 ≤ b ∧ b < 2147483648) (kt : ¬ a = b → Ev E y cc nL ret K bc bs (tgt) lv (st) hp) (kf : a = b → Ev E y cc nL ret K bc bs (pc + 3) lv (st) hp) : Ev E y cc nL ret K bc bs (pc) lv (.int (jI b) :: .int (jI a) :: st) hp := E_icmp_ne tgt hd ht (fun H => kt (fun q => H ((jI_eq ha hb).mpr q))) (fun H => kf ((jI_eq ha hb).mp H))
theorem J_if_ne {a : Int} {off : Int} (tgt : Nat) (hd : decode cc pc = .ok (.ifCond .ne off, 3)) (ht : (pc : Int) + off = (tgt : Int)) (ha : -2147483648 ≤ a ∧ a < 2147483648) (kt : ¬ a = 0 → Ev E y cc nL ret K bc bs (tgt) lv (st) hp) (kf : a = 0 → Ev E y cc nL ret K bc bs (pc + 3) lv (st) hp) : Ev E y cc nL ret K bc bs (pc) lv (.int (jI a) :: st) hp := E_if_ne tgt hd ht (fun h => by
  have H := h
  rw [jI_0] at H
  exact kt (fun q => H ((jI_eq ha (by decide)).mpr q))) (fun h => by
  have H := h
  rw [jI_0] at H
  exact kf ((jI_eq ha (by decide)).mp H))
theorem J_icmp_lt {a b : Int} {off : Int} (tgt : Nat) (hd : decode cc pc = .ok (.if_icmp .lt off, 3)) (ht : (pc : Int) + off = (tgt : Int)) (ha : -2147483648 ≤ a ∧ a < 2147483648) (hb : -2147483648 ≤ b ∧ b < 2147483648) (kt : a < b → Ev E y cc nL ret K bc bs (tgt) lv (st) hp) (kf : b ≤ a → Ev E y cc nL ret K bc bs (pc + 3) lv (st) hp) : Ev E y cc nL ret K bc bs (pc) lv (.int (jI b) :: .int (jI a) :: st) hp := E_icmp_lt tgt hd ht (fun H => kt ((jI_lt ha hb).mp H)) (fun H => kf (Int.not_lt.mp (fun q => H ((jI_lt ha hb).mpr q))))
theorem J_if_lt {a : Int} {off : Int} (tgt : Nat) (hd : decode cc pc = .ok (.ifCond .lt off, 3)) (ht : (pc : Int) + off = (tgt : Int)) (ha : -2147483648 ≤ a ∧ a < 2147483648) (kt : a < 0 → Ev E y cc nL ret K bc bs (tgt) lv (st) hp) (kf : 0 ≤ a → Ev E y cc nL ret K bc bs (pc + 3) lv (st) hp) : Ev E y cc nL ret K bc bs (pc) lv (.int (jI a) :: st) hp := E_if_lt tgt hd ht (fun h => by
  have H := h
  rw [jI_0] at H
  exact kt ((jI_lt ha (by decide)).mp H)) (fun h => by
  have H := h
  rw [jI_0] at H
  exact kf (Int.not_lt.mp (fun q => H ((jI_lt ha (by decide)).mpr q))))
theorem J_icmp_ge {a b : Int} {off : Int} (tgt : Nat) (hd : decode cc pc = .ok (.if_icmp .ge off, 3)) (ht : (pc : Int) + off = (tgt : Int)) (ha : -2147483648 ≤ a ∧ a < 2147483648) (hb : -2147483648 ≤ b ∧ b < 2147483648) (kt : b ≤ a → Ev E y cc nL ret K bc bs (tgt) lv (st) hp) (kf : a < b → Ev E y cc nL ret K bc bs (pc + 3) lv (st) hp) : Ev E y cc nL ret K bc bs (pc) lv (.int (jI b) :: .int (jI a) :: st) hp := E_icmp_ge tgt hd ht (fun H => kt ((jI_le hb ha).mp H)) (fun H => kf (Int.not_le.mp (fun q => H ((jI_le hb ha).mpr q))))
theorem J_if_ge {a : Int} {off : Int} (tgt : Nat) (hd : decode cc pc = .ok (.ifCond .ge off, 3)) (ht : (pc : Int) + off = (tgt : Int)) (ha : -2147483648 ≤ a ∧ a < 2147483648) (kt : 0 ≤ a → Ev E y cc nL ret K bc bs (tgt) lv (st) hp) (kf : a < 0 → Ev E y cc nL ret K bc bs (pc + 3) lv (st) hp) : Ev E y cc nL ret K bc bs (pc) lv (.int (jI a) :: st) hp := E_if_ge tgt hd ht (fun h => by
  have H := h
  rw [jI_0] at H
  exact kt ((jI_le (by decide) ha).mp H)) (fun h => by
  have H := h
  rw [jI_0] at H
  exact kf (Int.not_le.mp (fun q => H ((jI_le (by decide) ha).mpr q))))
theorem J_icmp_gt {a b : Int} {off : Int} (tgt : Nat) (hd : decode cc pc = .ok (.if_icmp .gt off, 3)) (ht : (pc : Int) + off = (tgt : Int)) (ha : -2147483648 ≤ a ∧ a < 2147483648) (hb : -2147483648 ≤ b ∧ b < 2147483648) (kt : b < a → Ev E y cc nL ret K bc bs (tgt) lv (st) hp) (kf : a ≤ b → Ev E y cc nL ret K bc bs (pc + 3) lv (st) hp) : Ev E y cc nL ret K bc bs (pc) lv (.int (jI b) :: .int (jI a) :: st) hp := E_icmp_gt tgt hd ht (fun H => kt ((jI_lt hb ha).mp H)) (fun H => kf (Int.not_lt.mp (fun q => H ((jI_lt hb ha).mpr q))))
theorem J_if_gt {a : Int} {off : Int} (tgt : Nat) (hd : decode cc pc = .ok (.ifCond .gt off, 3)) (ht : (pc : Int) + off = (tgt : Int)) (ha : -2147483648 ≤ a ∧ a < 2147483648) (kt : 0 < a → Ev E y cc nL ret K bc bs (tgt) lv (st) hp) (kf : a ≤ 0 → Ev E y cc nL ret K bc bs (pc + 3) lv (st) hp) : Ev E y cc nL ret K bc bs (pc) lv (.int (jI a) :: st) hp := E_if_gt tgt hd ht (fun h => by
  have H := h
  rw [jI_0] at H
  exact kt ((jI_lt (by decide) ha).mp H)) (fun h => by
  have H := h
  rw [jI_0] at H
  exact kf (Int.not_lt.mp (fun q => H ((jI_lt (by decide) ha).mpr q))))
theorem J_icmp_le {a b : Int} {off : Int} (tgt : Nat) (hd : decode cc pc = .ok (.if_icmp .le off, 3)) (ht : (pc : Int) + off = (tgt : Int)) (ha : -2147483648 ≤ a ∧ a < 2147483648) (hb : -2147483648 ≤ b ∧ b < 2147483648) (kt : a ≤ b → Ev E y cc nL ret K bc bs (tgt) lv (st) hp) (kf : b < a → Ev E y cc nL ret K bc bs (pc + 3) lv (st) hp) : Ev E y cc nL ret K bc bs (pc) lv (.int (jI b) :: .int (jI a) :: st) hp := E_icmp_le tgt hd ht (fun H => kt ((jI_le ha hb).mp H)) (fun H => kf (Int.not_le.mp (fun q => H ((jI_le ha hb).mpr q))))
theorem J_if_le {a : Int} {off : Int} (tgt : Nat) (hd : decode cc pc = .ok (.ifCond .le off, 3)) (ht : (pc : Int) + off = (tgt : Int)) (ha : -2147483648 ≤ a ∧ a < 2147483648) (kt : a ≤ 0 → Ev E y cc nL ret K bc bs (tgt) lv (st) hp) (kf : 0 < a → Ev E y cc nL ret K bc bs (pc + 3) lv (st) hp) : Ev E y cc nL ret K bc bs (pc) lv (.int (jI a) :: st) hp := E_if_le tgt hd ht (fun h => by
  have H := h
  rw [jI_0] at H
  exact kt ((jI_le ha (by decide)).mp H)) (fun h => by
  have H := h
  rw [jI_0] at H
  exact kf (Int.not_le.mp (fun q => H ((jI_le ha (by decide)).mpr q))))
theorem J_ifeqB {P : Prop} [Decidable P] {off : Int} (tgt : Nat) (hd : decode cc pc = .ok (.ifCond .eq off, 3)) (ht : (pc : Int) + off = (tgt : Int)) (kt : ¬ P → Ev E y cc nL ret K bc bs (tgt) lv (st) hp) (kf : P → Ev E y cc nL ret K bc bs (pc + 3) lv (st) hp) : Ev E y cc nL ret K bc bs (pc) lv (.int (jI (jb P)) :: st) hp := J_if_eq tgt hd ht (by have := jb_B P; omega) (fun h => kt (fun q => by rw [jb_t q] at h; cases h)) (fun h => kf (by
  by_cases q : P
  · exact q
  · exact absurd (jb_f q) h))
theorem J_ifneB {P : Prop} [Decidable P] {off : Int} (tgt : Nat) (hd : decode cc pc = .ok (.ifCond .ne off, 3)) (ht : (pc : Int) + off = (tgt : Int)) (kt : P → Ev E y cc nL ret K bc bs (tgt) lv (st) hp) (kf : ¬ P → Ev E y cc nL ret K bc bs (pc + 3) lv (st) hp) : Ev E y cc nL ret K bc bs (pc) lv (.int (jI (jb P)) :: st) hp := J_if_ne tgt hd ht (by have := jb_B P; omega) (fun h => kt (by
  by_cases q : P
  · exact q
  · exact absurd (jb_f q) h)) (fun h => kf (fun q => by rw [jb_t q] at h; cases h))
theorem J_iald {i n : Nat} {f : Int → Int} {j : Int} (hd : decode cc pc = .ok (.iaload, 1)) (hi : hp[i]? = some (ia n f)) (hj : 0 ≤ j ∧ j < n) (hn : n < 2147483648) (k : Ev E y cc nL ret K bc bs (pc + 1) lv (.int (jI (f j)) :: st) hp) : Ev E y cc nL ret K bc bs (pc) lv (.int (jI j) :: .ref i :: st) hp := E_iald hd hi (jI_in hj hn) (by rw [jI_cast hj hn]; exact k)
theorem J_bald {i n : Nat} {f : Int → Int} {j : Int} (hd : decode cc pc = .ok (.baload, 1)) (hi : hp[i]? = some (ba n f)) (hj : 0 ≤ j ∧ j < n) (hn : n < 2147483648) (k : Ev E y cc nL ret K bc bs (pc + 1) lv (.int (jI (f j)) :: st) hp) : Ev E y cc nL ret K bc bs (pc) lv (.int (jI j) :: .ref i :: st) hp := E_bald hd hi (jI_in hj hn) (by rw [jI_cast hj hn]; exact k)
theorem J_zald {i n : Nat} {f : Int → Int} {j : Int} (hd : decode cc pc = .ok (.baload, 1)) (hi : hp[i]? = some (za n f)) (hj : 0 ≤ j ∧ j < n) (hn : n < 2147483648) (k : Ev E y cc nL ret K bc bs (pc + 1) lv (.int (jI (f j)) :: st) hp) : Ev E y cc nL ret K bc bs (pc) lv (.int (jI j) :: .ref i :: st) hp := E_zald hd hi (jI_in hj hn) (by rw [jI_cast hj hn]; exact k)
theorem J_lald {i n : Nat} {f : Int → Int} {j : Int} (hd : decode cc pc = .ok (.laload, 1)) (hi : hp[i]? = some (la n f)) (hj : 0 ≤ j ∧ j < n) (hn : n < 2147483648) (k : Ev E y cc nL ret K bc bs (pc + 1) lv (.long (jL (f j)) :: st) hp) : Ev E y cc nL ret K bc bs (pc) lv (.int (jI j) :: .ref i :: st) hp := E_lald hd hi (jI_in hj hn) (by rw [jI_cast hj hn]; exact k)
theorem J_iast {i n : Nat} {f : Int → Int} {j x : Int} (hd : decode cc pc = .ok (.iastore, 1)) (hi : hp[i]? = some (ia n f)) (hj : 0 ≤ j ∧ j < n) (hn : n < 2147483648) (k : Ev E y cc nL ret K bc bs (pc + 1) lv (st) (hp.set i (ia n (up f j x)))) : Ev E y cc nL ret K bc bs (pc) lv (.int (jI x) :: .int (jI j) :: .ref i :: st) hp := E_iast hd hi (jI_in hj hn) (by rw [jI_upd hj hn]; exact k)
theorem J_bast {i n : Nat} {f : Int → Int} {j x : Int} (hd : decode cc pc = .ok (.bastore, 1)) (hi : hp[i]? = some (ba n f)) (hj : 0 ≤ j ∧ j < n) (hn : n < 2147483648) (hx : vp_nar .byte (jI x) = jI x) (k : Ev E y cc nL ret K bc bs (pc + 1) lv (st) (hp.set i (ba n (up f j x)))) : Ev E y cc nL ret K bc bs (pc) lv (.int (jI x) :: .int (jI j) :: .ref i :: st) hp := E_bast hd hi (jI_in hj hn) (by rw [hx, jI_upd hj hn]; exact k)
theorem J_zast {i n : Nat} {f : Int → Int} {j x : Int} (hd : decode cc pc = .ok (.bastore, 1)) (hi : hp[i]? = some (za n f)) (hj : 0 ≤ j ∧ j < n) (hn : n < 2147483648) (hx : vp_nar .boolean (jI x) = jI x) (k : Ev E y cc nL ret K bc bs (pc + 1) lv (st) (hp.set i (za n (up f j x)))) : Ev E y cc nL ret K bc bs (pc) lv (.int (jI x) :: .int (jI j) :: .ref i :: st) hp := E_zast hd hi (jI_in hj hn) (by rw [hx, jI_upd hj hn]; exact k)
theorem J_last {i n : Nat} {f : Int → Int} {j x : Int} (hd : decode cc pc = .ok (.lastore, 1)) (hi : hp[i]? = some (la n f)) (hj : 0 ≤ j ∧ j < n) (hn : n < 2147483648) (k : Ev E y cc nL ret K bc bs (pc + 1) lv (st) (hp.set i (la n (up f j x)))) : Ev E y cc nL ret K bc bs (pc) lv (.long (jL x) :: .int (jI j) :: .ref i :: st) hp := E_last hd hi (jI_in hj hn) (by rw [jL_upd hj hn]; exact k)
theorem J_alen {i n : Nat} {f : Int → Int} (hd : decode cc pc = .ok (.arraylength, 1)) (hi : hp[i]? = some (ia n f)) (k : Ev E y cc nL ret K bc bs (pc + 1) lv (.int (jI n) :: st) hp) : Ev E y cc nL ret K bc bs (pc) lv (.ref i :: st) hp := E_alen hd hi (by rw [jI_nat] at k; exact k)
theorem JI_0 {a n : Int} (hd : decode cc pc = .ok (.iinc 0 n, 3)) (hn : 0 < nL) (k : Ev E y cc nL ret K bc bs (pc + 3) (.int (jI (a + n)) :: lv) (st) hp) : Ev E y cc nL ret K bc bs (pc) (.int (jI a) :: lv) (st) hp := I_0 (jI n) hd hn rfl (by rw [jI_add]; exact k)
theorem JI_1 {v0 : Value} {a n : Int} (hd : decode cc pc = .ok (.iinc 1 n, 3)) (hn : 1 < nL) (hb : v0.category = 1) (k : Ev E y cc nL ret K bc bs (pc + 3) (v0 :: .int (jI (a + n)) :: lv) (st) hp) : Ev E y cc nL ret K bc bs (pc) (v0 :: .int (jI a) :: lv) (st) hp := I_1 (jI n) hd hn rfl hb (by rw [jI_add]; exact k)
theorem JI_2 {v0 v1 : Value} {a n : Int} (hd : decode cc pc = .ok (.iinc 2 n, 3)) (hn : 2 < nL) (hb : v1.category = 1) (k : Ev E y cc nL ret K bc bs (pc + 3) (v0 :: v1 :: .int (jI (a + n)) :: lv) (st) hp) : Ev E y cc nL ret K bc bs (pc) (v0 :: v1 :: .int (jI a) :: lv) (st) hp := I_2 (jI n) hd hn rfl hb (by rw [jI_add]; exact k)
theorem JI_3 {v0 v1 v2 : Value} {a n : Int} (hd : decode cc pc = .ok (.iinc 3 n, 3)) (hn : 3 < nL) (hb : v2.category = 1) (k : Ev E y cc nL ret K bc bs (pc + 3) (v0 :: v1 :: v2 :: .int (jI (a + n)) :: lv) (st) hp) : Ev E y cc nL ret K bc bs (pc) (v0 :: v1 :: v2 :: .int (jI a) :: lv) (st) hp := I_3 (jI n) hd hn rfl hb (by rw [jI_add]; exact k)
theorem JI_4 {v0 v1 v2 v3 : Value} {a n : Int} (hd : decode cc pc = .ok (.iinc 4 n, 3)) (hn : 4 < nL) (hb : v3.category = 1) (k : Ev E y cc nL ret K bc bs (pc + 3) (v0 :: v1 :: v2 :: v3 :: .int (jI (a + n)) :: lv) (st) hp) : Ev E y cc nL ret K bc bs (pc) (v0 :: v1 :: v2 :: v3 :: .int (jI a) :: lv) (st) hp := I_4 (jI n) hd hn rfl hb (by rw [jI_add]; exact k)
theorem JI_5 {v0 v1 v2 v3 v4 : Value} {a n : Int} (hd : decode cc pc = .ok (.iinc 5 n, 3)) (hn : 5 < nL) (hb : v4.category = 1) (k : Ev E y cc nL ret K bc bs (pc + 3) (v0 :: v1 :: v2 :: v3 :: v4 :: .int (jI (a + n)) :: lv) (st) hp) : Ev E y cc nL ret K bc bs (pc) (v0 :: v1 :: v2 :: v3 :: v4 :: .int (jI a) :: lv) (st) hp := I_5 (jI n) hd hn rfl hb (by rw [jI_add]; exact k)
theorem JI_6 {v0 v1 v2 v3 v4 v5 : Value} {a n : Int} (hd : decode cc pc = .ok (.iinc 6 n, 3)) (hn : 6 < nL) (hb : v5.category = 1) (k : Ev E y cc nL ret K bc bs (pc + 3) (v0 :: v1 :: v2 :: v3 :: v4 :: v5 :: .int (jI (a + n)) :: lv) (st) hp) : Ev E y cc nL ret K bc bs (pc) (v0 :: v1 :: v2 :: v3 :: v4 :: v5 :: .int (jI a) :: lv) (st) hp := I_6 (jI n) hd hn rfl hb (by rw [jI_add]; exact k)
theorem JI_7 {v0 v1 v2 v3 v4 v5 v6 : Value} {a n : Int} (hd : decode cc pc = .ok (.iinc 7 n, 3)) (hn : 7 < nL) (hb : v6.category = 1) (k : Ev E y cc nL ret K bc bs (pc + 3) (v0 :: v1 :: v2 :: v3 :: v4 :: v5 :: v6 :: .int (jI (a + n)) :: lv) (st) hp) : Ev E y cc nL ret K bc bs (pc) (v0 :: v1 :: v2 :: v3 :: v4 :: v5 :: v6 :: .int (jI a) :: lv) (st) hp := I_7 (jI n) hd hn rfl hb (by rw [jI_add]; exact k)
theorem JI_8 {v0 v1 v2 v3 v4 v5 v6 v7 : Value} {a n : Int} (hd : decode cc pc = .ok (.iinc 8 n, 3)) (hn : 8 < nL) (hb : v7.category = 1) (k : Ev E y cc nL ret K bc bs (pc + 3) (v0 :: v1 :: v2 :: v3 :: v4 :: v5 :: v6 :: v7 :: .int (jI (a + n)) :: lv) (st) hp) : Ev E y cc nL ret K bc bs (pc) (v0 :: v1 :: v2 :: v3 :: v4 :: v5 :: v6 :: v7 :: .int (jI a) :: lv) (st) hp := I_8 (jI n) hd hn rfl hb (by rw [jI_add]; exact k)
theorem JI_9 {v0 v1 v2 v3 v4 v5 v6 v7 v8 : Value} {a n : Int} (hd : decode cc pc = .ok (.iinc 9 n, 3)) (hn : 9 < nL) (hb : v8.category = 1) (k : Ev E y cc nL ret K bc bs (pc + 3) (v0 :: v1 :: v2 :: v3 :: v4 :: v5 :: v6 :: v7 :: v8 :: .int (jI (a + n)) :: lv) (st) hp) : Ev E y cc nL ret K bc bs (pc) (v0 :: v1 :: v2 :: v3 :: v4 :: v5 :: v6 :: v7 :: v8 :: .int (jI a) :: lv) (st) hp := I_9 (jI n) hd hn rfl hb (by rw [jI_add]; exact k)
theorem JI_10 {v0 v1 v2 v3 v4 v5 v6 v7 v8 v9 : Value} {a n : Int} (hd : decode cc pc = .ok (.iinc 10 n, 3)) (hn : 10 < nL) (hb : v9.category = 1) (k : Ev E y cc nL ret K bc bs (pc + 3) (v0 :: v1 :: v2 :: v3 :: v4 :: v5 :: v6 :: v7 :: v8 :: v9 :: .int (jI (a + n)) :: lv) (st) hp) : Ev E y cc nL ret K bc bs (pc) (v0 :: v1 :: v2 :: v3 :: v4 :: v5 :: v6 :: v7 :: v8 :: v9 :: .int (jI a) :: lv) (st) hp := I_10 (jI n) hd hn rfl hb (by rw [jI_add]; exact k)
theorem JI_11 {v0 v1 v2 v3 v4 v5 v6 v7 v8 v9 v10 : Value} {a n : Int} (hd : decode cc pc = .ok (.iinc 11 n, 3)) (hn : 11 < nL) (hb : v10.category = 1) (k : Ev E y cc nL ret K bc bs (pc + 3) (v0 :: v1 :: v2 :: v3 :: v4 :: v5 :: v6 :: v7 :: v8 :: v9 :: v10 :: .int (jI (a + n)) :: lv) (st) hp) : Ev E y cc nL ret K bc bs (pc) (v0 :: v1 :: v2 :: v3 :: v4 :: v5 :: v6 :: v7 :: v8 :: v9 :: v10 :: .int (jI a) :: lv) (st) hp := I_11 (jI n) hd hn rfl hb (by rw [jI_add]; exact k)
theorem JI_12 {v0 v1 v2 v3 v4 v5 v6 v7 v8 v9 v10 v11 : Value} {a n : Int} (hd : decode cc pc = .ok (.iinc 12 n, 3)) (hn : 12 < nL) (hb : v11.category = 1) (k : Ev E y cc nL ret K bc bs (pc + 3) (v0 :: v1 :: v2 :: v3 :: v4 :: v5 :: v6 :: v7 :: v8 :: v9 :: v10 :: v11 :: .int (jI (a + n)) :: lv) (st) hp) : Ev E y cc nL ret K bc bs (pc) (v0 :: v1 :: v2 :: v3 :: v4 :: v5 :: v6 :: v7 :: v8 :: v9 :: v10 :: v11 :: .int (jI a) :: lv) (st) hp := I_12 (jI n) hd hn rfl hb (by rw [jI_add]; exact k)
theorem JI_13 {v0 v1 v2 v3 v4 v5 v6 v7 v8 v9 v10 v11 v12 : Value} {a n : Int} (hd : decode cc pc = .ok (.iinc 13 n, 3)) (hn : 13 < nL) (hb : v12.category = 1) (k : Ev E y cc nL ret K bc bs (pc + 3) (v0 :: v1 :: v2 :: v3 :: v4 :: v5 :: v6 :: v7 :: v8 :: v9 :: v10 :: v11 :: v12 :: .int (jI (a + n)) :: lv) (st) hp) : Ev E y cc nL ret K bc bs (pc) (v0 :: v1 :: v2 :: v3 :: v4 :: v5 :: v6 :: v7 :: v8 :: v9 :: v10 :: v11 :: v12 :: .int (jI a) :: lv) (st) hp := I_13 (jI n) hd hn rfl hb (by rw [jI_add]; exact k)
theorem JI_14 {v0 v1 v2 v3 v4 v5 v6 v7 v8 v9 v10 v11 v12 v13 : Value} {a n : Int} (hd : decode cc pc = .ok (.iinc 14 n, 3)) (hn : 14 < nL) (hb : v13.category = 1) (k : Ev E y cc nL ret K bc bs (pc + 3) (v0 :: v1 :: v2 :: v3 :: v4 :: v5 :: v6 :: v7 :: v8 :: v9 :: v10 :: v11 :: v12 :: v13 :: .int (jI (a + n)) :: lv) (st) hp) : Ev E y cc nL ret K bc bs (pc) (v0 :: v1 :: v2 :: v3 :: v4 :: v5 :: v6 :: v7 :: v8 :: v9 :: v10 :: v11 :: v12 :: v13 :: .int (jI a) :: lv) (st) hp := I_14 (jI n) hd hn rfl hb (by rw [jI_add]; exact k)
theorem JI_15 {v0 v1 v2 v3 v4 v5 v6 v7 v8 v9 v10 v11 v12 v13 v14 : Value} {a n : Int} (hd : decode cc pc = .ok (.iinc 15 n, 3)) (hn : 15 < nL) (hb : v14.category = 1) (k : Ev E y cc nL ret K bc bs (pc + 3) (v0 :: v1 :: v2 :: v3 :: v4 :: v5 :: v6 :: v7 :: v8 :: v9 :: v10 :: v11 :: v12 :: v13 :: v14 :: .int (jI (a + n)) :: lv) (st) hp) : Ev E y cc nL ret K bc bs (pc) (v0 :: v1 :: v2 :: v3 :: v4 :: v5 :: v6 :: v7 :: v8 :: v9 :: v10 :: v11 :: v12 :: v13 :: v14 :: .int (jI a) :: lv) (st) hp := I_15 (jI n) hd hn rfl hb (by rw [jI_add]; exact k)
variable {d : Nat} {v : Value} {hp1 : List mx_C}
theorem R_i {a b : Int} (hr : ret = some .int) (hd : decode cc pc = .ok (.ireturn, 1)) (hh : hp = hp1) (hv : a = b) : Ev E y cc nL ret (kf E d (.int (jI b)) hp1) bc bs pc lv [.int (jI a)] hp := by
  subst hh; subst hv; exact E_iret hr hd ⟨rfl, rfl⟩
theorem R_z {a b : Int} (hr : ret = some .boolean) (hd : decode cc pc = .ok (.ireturn, 1)) (ha : a = 0 ∨ a = 1) (hh : hp = hp1) (hv : a = b) : Ev E y cc nL ret (kf E d (.int (jI b)) hp1) bc bs pc lv [.int (jI a)] hp := by
  subst hh; subst hv; exact E_zret hr (by rcases ha with rfl | rfl <;> decide) hd ⟨rfl, rfl⟩
theorem R_l {a b : Int} (hr : ret = some .long) (hd : decode cc pc = .ok (.lreturn, 1)) (hh : hp = hp1) (hv : a = b) : Ev E y cc nL ret (kf E d (.long (jL b)) hp1) bc bs pc lv [.long (jL a)] hp := by
  subst hh; subst hv; exact E_lret hr hd ⟨rfl, rfl⟩
theorem R_v (hr : ret = none) (hd : decode cc pc = .ok (.return_, 1)) (hh : hp = hp1) : Ev E y cc nL ret (kv E d hp1) bc bs pc lv [] hp := by
  subst hh; exact E_vret hr hd ⟨rfl, rfl⟩
end JR
