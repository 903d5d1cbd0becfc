/-! ===== a row under change: the heap is hp with the cell i as it is now ===== -/
section ST
variable {E : mx_E} {y : MethodName} {cc : ByteArray} {nL : Nat} {ret : Option FieldType} {K : mx_Kd} {bc bs pc : Nat} {lv st : List Value} {hp : List mx_C}
theorem J_iastS {i n : Nat} {f : Int → Int} {c0 : mx_C} {j x : Int} (hd : decode cc pc = .ok (.iastore, 1)) (h0 : hp[i]? = some c0) (hj : 0 ≤ j ∧ j < n) (hn : n < 2147483648) (k : Ev E y cc nL ret K bc bs (pc + 1) lv st (hp.set i (ia n (up f j x)))) : Ev E y cc nL ret K bc bs pc lv (.int (jI x) :: .int (jI j) :: .ref i :: st) (hp.set i (ia n f)) :=
  J_iast hd (mx_ss h0) hj hn (by rw [List.set_set]; exact k)
theorem J_bastS {i n : Nat} {f : Int → Int} {c0 : mx_C} {j x : Int} (hd : decode cc pc = .ok (.bastore, 1)) (h0 : hp[i]? = some c0) (hj : 0 ≤ j ∧ j < n) (hn : n < 2147483648) (hx : vp_nar .byte (jI x) = jI x) (k : Ev E y cc nL ret K bc bs (pc + 1) lv st (hp.set i (ba n (up f j x)))) : Ev E y cc nL ret K bc bs pc lv (.int (jI x) :: .int (jI j) :: .ref i :: st) (hp.set i (ba n f)) :=
  J_bast hd (mx_ss h0) hj hn hx (by rw [List.set_set]; exact k)
theorem J_copyS {idx i n0 : Nat} {f : Int → Int} {c0 : mx_C} {sp dp n : Int} (hl : Cond.methodLink y.cls idx arraycopyName ∈ mx_gw) (hd : decode cc pc = .ok (.invokestatic idx, 3)) (h0 : hp[i]? = some c0) (h1 : 0 ≤ sp) (h2 : 0 ≤ dp) (h3 : 0 ≤ n) (h4 : sp + n ≤ n0) (h5 : dp + n ≤ n0) (hn0 : n0 < 2147483648) (hcat : (st.map fun v => v.category).sum ≤ 8) (hR : 1 ≤ K.1.frames ∧ 64 ≤ K.1.locals)
    (k : Ev E y cc nL ret K bc bs (pc + 3) lv st (hp.set i (ia n0 (cpy f f sp dp n)))) : Ev E y cc nL ret K bc bs pc lv (.int (jI n) :: .int (jI dp) :: .ref i :: .int (jI sp) :: .ref i :: st) (hp.set i (ia n0 f)) :=
  J_copy hl mx_ac1 mx_ac2 mx_ac3 hd (mx_ss h0) (mx_ss h0) h1 h2 h3 h4 h5 hn0 hn0 hcat hR (by rw [List.set_set]; exact k)
end ST
theorem Bd_up {f : Int → Int} (h : Bd f) {k x : Int} (hx : -2147483648 ≤ x ∧ x < 2147483648) : Bd (up f k x) := by
  intro q
  unfold up
  split
  · exact hx
  · exact h q
/-- a loop over whole numbers, from k on, m times -/
def lpF {α : Type} (g : Int → α → α) : Nat → Int → α → α
  | 0, _, s => s
  | m + 1, k, s => lpF g m (k + 1) (g k s)
/-- the first answer of a loop -/
def lpR {α : Type} (g : Int → Option α) : Nat → Int → α → α
  | 0, _, s => s
  | m + 1, k, s => match g k with
    | some r => r
    | none => lpR g m (k + 1) s
theorem ban_nn (a b : Int) : 0 ≤ ban a b := Int.natCast_nonneg _
theorem bor_nn (a b : Int) : 0 ≤ bor a b := Int.natCast_nonneg _
theorem bdf_nn (a b : Int) : 0 ≤ bdf a b := Int.natCast_nonneg _
theorem bsh_nn (k : Int) : 0 ≤ bsh k := Int.natCast_nonneg _
theorem bsh_pos (k : Int) : 1 ≤ bsh k := by
  unfold bsh
  have : 1 ≤ 2 ^ k.toNat := Nat.one_le_two_pow
  omega
theorem ban_le (a b : Int) (hb : 0 ≤ b) : ban a b ≤ b := by
  unfold ban
  have : a.toNat &&& b.toNat ≤ b.toNat := Nat.and_le_right
  omega
theorem ban_le' (a b : Int) (ha : 0 ≤ a) : ban a b ≤ a := by
  unfold ban
  have : a.toNat &&& b.toNat ≤ a.toNat := Nat.and_le_left
  omega
theorem nd_le (m n : Nat) : nd m n ≤ m := by
  apply Nat.le_of_testBit
  intro i h
  simp only [nd, Nat.testBit_xor, Nat.testBit_and] at h
  revert h
  cases m.testBit i <;> cases n.testBit i <;> simp
theorem bdf_le (a b : Int) (ha : 0 ≤ a) : bdf a b ≤ a := by
  unfold bdf
  have := nd_le a.toNat b.toNat
  omega
theorem bor_lt {a b : Int} (n : Nat) (ha : a < 2 ^ n) (hb : b < 2 ^ n) : bor a b < 2 ^ n := by
  have e : ((2 ^ n : Nat) : Int) = (2 : Int) ^ n := by norm_cast
  have hp : 0 < 2 ^ n := Nat.two_pow_pos n
  have h : a.toNat ||| b.toNat < 2 ^ n := Nat.or_lt_two_pow (by omega) (by omega)
  unfold bor
  omega
theorem bsh_lt {k : Int} (n : Nat) (hk : k < n) (hn : 0 < n) : bsh k < 2 ^ n := by
  have e : ((2 ^ n : Nat) : Int) = (2 : Int) ^ n := by norm_cast
  have h : 2 ^ k.toNat < 2 ^ n := Nat.pow_lt_pow_right (by decide) (by omega)
  unfold bsh
  omega
