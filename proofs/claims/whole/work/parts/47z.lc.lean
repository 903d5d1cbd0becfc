section LC
variable {E : mx_E} {y : MethodName} {cc : ByteArray} {nL : Nat} {ret : Option FieldType} {K : mx_Kd} {bc bs pc : Nat} {lv st : List Value} {hp : List mx_C}
theorem jcmp_lt {a b : Int} : jcmp a b < 0 ↔ a < b := by
  unfold jcmp
  split
  · omega
  · split <;> omega
theorem jcmp_gt {a b : Int} : 0 < jcmp a b ↔ b < a := by
  unfold jcmp
  split
  · omega
  · split <;> omega
theorem JL_eq {a b : Int} {off : Int} (tgt : Nat) (hd1 : decode cc pc = .ok (.lcmp, 1)) (hd2 : decode cc (pc + 1) = .ok (.ifCond .eq off, 3)) (ht : ((pc + 1 : Nat) : Int) + off = (tgt : Int)) (ha : -9223372036854775808 ≤ a ∧ a < 9223372036854775808) (hb : -9223372036854775808 ≤ b ∧ b < 9223372036854775808) (kt : a = b → Ev E y cc nL ret K bc bs tgt lv st hp) (kf : ¬ a = b → Ev E y cc nL ret K bc bs (pc + 1 + 3) lv st hp) : Ev E y cc nL ret K bc bs pc lv (.long (jL b) :: .long (jL a) :: st) hp :=
  J_lcmp hd1 ha hb (J_if_eq tgt hd2 ht (by have := jcmp_B a b; omega) (fun h => kt (jcmp_0.mp h)) (fun h => kf (fun q => h (jcmp_0.mpr q))))
theorem JL_ne {a b : Int} {off : Int} (tgt : Nat) (hd1 : decode cc pc = .ok (.lcmp, 1)) (hd2 : decode cc (pc + 1) = .ok (.ifCond .ne off, 3)) (ht : ((pc + 1 : Nat) : Int) + off = (tgt : Int)) (ha : -9223372036854775808 ≤ a ∧ a < 9223372036854775808) (hb : -9223372036854775808 ≤ b ∧ b < 9223372036854775808) (kt : ¬ a = b → Ev E y cc nL ret K bc bs tgt lv st hp) (kf : a = b → Ev E y cc nL ret K bc bs (pc + 1 + 3) lv st hp) : Ev E y cc nL ret K bc bs pc lv (.long (jL b) :: .long (jL a) :: st) hp :=
  J_lcmp hd1 ha hb (J_if_ne tgt hd2 ht (by have := jcmp_B a b; omega) (fun h => kt (fun q => h (jcmp_0.mpr q))) (fun h => kf (jcmp_0.mp h)))
theorem JL_lt {a b : Int} {off : Int} (tgt : Nat) (hd1 : decode cc pc = .ok (.lcmp, 1)) (hd2 : decode cc (pc + 1) = .ok (.ifCond .lt off, 3)) (ht : ((pc + 1 : Nat) : Int) + off = (tgt : Int)) (ha : -9223372036854775808 ≤ a ∧ a < 9223372036854775808) (hb : -9223372036854775808 ≤ b ∧ b < 9223372036854775808) (kt : a < b → Ev E y cc nL ret K bc bs tgt lv st hp) (kf : b ≤ a → Ev E y cc nL ret K bc bs (pc + 1 + 3) lv st hp) : Ev E y cc nL ret K bc bs pc lv (.long (jL b) :: .long (jL a) :: st) hp :=
  J_lcmp hd1 ha hb (J_if_lt tgt hd2 ht (by have := jcmp_B a b; omega) (fun h => kt (jcmp_lt.mp h)) (fun h => kf (jcmp_nn.mp h)))
theorem JL_ge {a b : Int} {off : Int} (tgt : Nat) (hd1 : decode cc pc = .ok (.lcmp, 1)) (hd2 : decode cc (pc + 1) = .ok (.ifCond .ge off, 3)) (ht : ((pc + 1 : Nat) : Int) + off = (tgt : Int)) (ha : -9223372036854775808 ≤ a ∧ a < 9223372036854775808) (hb : -9223372036854775808 ≤ b ∧ b < 9223372036854775808) (kt : b ≤ a → Ev E y cc nL ret K bc bs tgt lv st hp) (kf : a < b → Ev E y cc nL ret K bc bs (pc + 1 + 3) lv st hp) : Ev E y cc nL ret K bc bs pc lv (.long (jL b) :: .long (jL a) :: st) hp :=
  J_lcmp hd1 ha hb (J_if_ge tgt hd2 ht (by have := jcmp_B a b; omega) (fun h => kt (jcmp_nn.mp h)) (fun h => kf (jcmp_lt.mp h)))
theorem JL_gt {a b : Int} {off : Int} (tgt : Nat) (hd1 : decode cc pc = .ok (.lcmp, 1)) (hd2 : decode cc (pc + 1) = .ok (.ifCond .gt off, 3)) (ht : ((pc + 1 : Nat) : Int) + off = (tgt : Int)) (ha : -9223372036854775808 ≤ a ∧ a < 9223372036854775808) (hb : -9223372036854775808 ≤ b ∧ b < 9223372036854775808) (kt : b < a → Ev E y cc nL ret K bc bs tgt lv st hp) (kf : a ≤ b → Ev E y cc nL ret K bc bs (pc + 1 + 3) lv st hp) : Ev E y cc nL ret K bc bs pc lv (.long (jL b) :: .long (jL a) :: st) hp :=
  J_lcmp hd1 ha hb (J_if_gt tgt hd2 ht (by have := jcmp_B a b; omega) (fun h => kt (jcmp_gt.mp h)) (fun h => kf (jcmp_le.mp h)))
theorem JL_le {a b : Int} {off : Int} (tgt : Nat) (hd1 : decode cc pc = .ok (.lcmp, 1)) (hd2 : decode cc (pc + 1) = .ok (.ifCond .le off, 3)) (ht : ((pc + 1 : Nat) : Int) + off = (tgt : Int)) (ha : -9223372036854775808 ≤ a ∧ a < 9223372036854775808) (hb : -9223372036854775808 ≤ b ∧ b < 9223372036854775808) (kt : a ≤ b → Ev E y cc nL ret K bc bs tgt lv st hp) (kf : b < a → Ev E y cc nL ret K bc bs (pc + 1 + 3) lv st hp) : Ev E y cc nL ret K bc bs pc lv (.long (jL b) :: .long (jL a) :: st) hp :=
  J_lcmp hd1 ha hb (J_if_le tgt hd2 ht (by have := jcmp_B a b; omega) (fun h => kt (jcmp_le.mp h)) (fun h => kf (jcmp_gt.mp h)))
theorem J_tableIn {dflt lo hi : Int} {offs : Array Int} {len : Nat} {z : Int} {off : Int} (tgt : Nat) (hd : decode cc pc = .ok (.tableswitch dflt lo hi offs, len)) (hz : -2147483648 ≤ z ∧ z < 2147483648) (h1 : lo ≤ z ∧ z ≤ hi) (ho : offs[(z - lo).toNat]? = some off) (ht : (pc : Int) + off = (tgt : Int)) (k : Ev E y cc nL ret K bc bs tgt lv st hp) : Ev E y cc nL ret K bc bs pc lv (.int (jI z) :: st) hp :=
  E_tableIn tgt hd (by rw [jI_toInt hz]; omega) (by rw [jI_toInt hz]; omega) (by rw [jI_toInt hz]; exact ho) ht k
theorem J_tableOut {dflt lo hi : Int} {offs : Array Int} {len : Nat} {z : Int} (tgt : Nat) (hd : decode cc pc = .ok (.tableswitch dflt lo hi offs, len)) (hz : -2147483648 ≤ z ∧ z < 2147483648) (h1 : z < lo ∨ hi < z) (ht : (pc : Int) + dflt = (tgt : Int)) (k : Ev E y cc nL ret K bc bs tgt lv st hp) : Ev E y cc nL ret K bc bs pc lv (.int (jI z) :: st) hp :=
  E_tableOut tgt hd (by rw [jI_toInt hz]; exact h1) ht k
end LC
