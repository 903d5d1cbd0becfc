section M2
variable {E : mx_E} {y : MethodName} {cc : ByteArray} {nL : Nat} {ret : Option FieldType} {K : mx_Kd} {bc bs pc : Nat} {lv st : List Value} {hp : List mx_C}
theorem J_idivN {a b : Int} (hd : decode cc pc = .ok (.idiv, 1)) (ha : 0 ≤ a ∧ a < 2147483648) (hb : 0 < b ∧ b < 2147483648) (k : Ev E y cc nL ret K bc bs (pc + 1) lv (.int (jI (a / b)) :: st) hp) : Ev E y cc nL ret K bc bs pc lv (.int (jI b) :: .int (jI a) :: st) hp := by
  refine J_idiv hd (by omega) (by omega) (by omega) ?_
  rw [Int.tdiv_eq_ediv_of_nonneg ha.1]; exact k
theorem J_iremN {a b : Int} (hd : decode cc pc = .ok (.irem, 1)) (ha : 0 ≤ a ∧ a < 2147483648) (hb : 0 < b ∧ b < 2147483648) (k : Ev E y cc nL ret K bc bs (pc + 1) lv (.int (jI (a % b)) :: st) hp) : Ev E y cc nL ret K bc bs pc lv (.int (jI b) :: .int (jI a) :: st) hp := by
  refine J_irem hd (by omega) (by omega) (by omega) ?_
  rw [Int.tmod_eq_emod_of_nonneg ha.1]; exact k
theorem J_lremN {a b : Int} (hd : decode cc pc = .ok (.lrem, 1)) (ha : 0 ≤ a ∧ a < 9223372036854775808) (hb : 0 < b ∧ b < 9223372036854775808) (k : Ev E y cc nL ret K bc bs (pc + 1) lv (.long (jL (a % b)) :: st) hp) : Ev E y cc nL ret K bc bs pc lv (.long (jL b) :: .long (jL a) :: st) hp := by
  refine J_lrem hd (by omega) (by omega) (by omega) ?_
  rw [Int.tmod_eq_emod_of_nonneg ha.1]; exact k
theorem J_ldivN {a b : Int} (hd : decode cc pc = .ok (.ldiv, 1)) (ha : 0 ≤ a ∧ a < 9223372036854775808) (hb : 0 < b ∧ b < 9223372036854775808) (k : Ev E y cc nL ret K bc bs (pc + 1) lv (.long (jL (a / b)) :: st) hp) : Ev E y cc nL ret K bc bs pc lv (.long (jL b) :: .long (jL a) :: st) hp := by
  refine J_ldiv hd (by omega) (by omega) (by omega) ?_
  rw [Int.tdiv_eq_ediv_of_nonneg ha.1]; exact k
end M2
