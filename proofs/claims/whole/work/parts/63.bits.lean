/-! ===== bits, and all ways to pick ===== -/
abbrev bt (x : Int) (i : Nat) : Prop := x.toNat.testBit i = true
theorem bt_has {s k : Int} (h : 0 ≤ s) : s / 2 ^ k.toNat % 2 = 1 ↔ bt s k.toNat := by
  obtain ⟨n, rfl⟩ : ∃ n : Nat, s = n := ⟨s.toNat, by omega⟩
  unfold bt
  rw [Nat.testBit_eq_decide_div_mod_eq, decide_eq_true_eq, Int.toNat_natCast]
  have e : ((2 : Int) ^ k.toNat) = ((2 ^ k.toNat : Nat) : Int) := (Int.natCast_pow 2 k.toNat).symm
  rw [e, ← Int.natCast_ediv]
  omega
theorem nd_bit (m n i : Nat) : (nd m n).testBit i = (m.testBit i && !n.testBit i) := by
  unfold nd
  rw [Nat.testBit_xor, Nat.testBit_and]
  cases m.testBit i <;> cases n.testBit i <;> rfl
theorem bt_bor {a b : Int} {i : Nat} : bt (bor a b) i ↔ bt a i ∨ bt b i := by
  unfold bt bor
  rw [Int.toNat_natCast, Nat.testBit_or, Bool.or_eq_true]
theorem bt_ban {a b : Int} {i : Nat} : bt (ban a b) i ↔ bt a i ∧ bt b i := by
  unfold bt ban
  rw [Int.toNat_natCast, Nat.testBit_and, Bool.and_eq_true]
theorem bt_bdf {a b : Int} {i : Nat} : bt (bdf a b) i ↔ bt a i ∧ ¬ bt b i := by
  unfold bt bdf
  rw [Int.toNat_natCast, nd_bit, Bool.and_eq_true, Bool.not_eq_true']
  cases b.toNat.testBit i <;> simp
theorem bt_bsh {k : Int} {i : Nat} (hk : 0 ≤ k) : bt (bsh k) i ↔ k = i := by
  unfold bt bsh
  rw [Int.toNat_natCast, Nat.testBit_two_pow, decide_eq_true_eq]
  omega
theorem ban_nat (a b : Nat) : ban (a : Int) (b : Int) = ((a &&& b : Nat) : Int) := by unfold ban; rw [Int.toNat_natCast, Int.toNat_natCast]
theorem bor_nat (a b : Nat) : bor (a : Int) (b : Int) = ((a ||| b : Nat) : Int) := by unfold bor; rw [Int.toNat_natCast, Int.toNat_natCast]
theorem bdf_nat (a b : Nat) : bdf (a : Int) (b : Int) = ((nd a b : Nat) : Int) := by unfold bdf; rw [Int.toNat_natCast, Int.toNat_natCast]
theorem bsh_nat (k : Nat) : bsh (k : Int) = ((2 ^ k : Nat) : Int) := by unfold bsh; rw [Int.toNat_natCast]
theorem nd_or {u m : Nat} (h : m &&& u = 0) : nd (u ||| m) m = u := by
  apply Nat.eq_of_testBit_eq
  intro i
  rw [nd_bit, Nat.testBit_or]
  have hi : (m &&& u).testBit i = false := by rw [h]; exact Nat.zero_testBit i
  rw [Nat.testBit_and] at hi
  revert hi
  cases m.testBit i <;> cases u.testBit i <;> decide
/-- all ways to pick one mask of each list so that none meets another or what is taken -/
def wy : List (List Nat) → Nat → List (List Nat)
  | [], _ => [[]]
  | os :: L, u => os.flatMap fun m => if m &&& u = 0 then (wy L (u ||| m)).map (m :: ·) else []
/-- the numbers of a set below n -/
def memN (s : Nat) : Nat → List Nat
  | 0 => []
  | k + 1 => memN s k ++ (if s.testBit k then [k] else [])
abbrev mem (s : Nat) : List Nat := memN s 8
theorem memN_len (s : Nat) : ∀ k, (memN s k).length ≤ k := by
  intro k
  induction k with
  | zero => exact Nat.le_refl _
  | succ k ih =>
    rw [memN, List.length_append]
    split
    · show _ + 1 ≤ k + 1; omega
    · show _ + 0 ≤ k + 1; omega
theorem memN_lt {s : Nat} : ∀ (k x : Nat), x ∈ memN s k → x < k := by
  intro k
  induction k with
  | zero => intro x h; cases h
  | succ k ih =>
    intro x h
    rw [memN, List.mem_append] at h
    rcases h with h | h
    · have := ih x h; omega
    · split at h
      · rw [List.mem_singleton] at h; omega
      · cases h
theorem memN_mem {s : Nat} : ∀ (k x : Nat), x ∈ memN s k ↔ x < k ∧ s.testBit x = true := by
  intro k
  induction k with
  | zero => intro x; exact ⟨fun h => (by cases h), fun h => absurd h.1 (Nat.not_lt_zero _)⟩
  | succ k ih =>
    intro x
    rw [memN, List.mem_append, ih]
    constructor
    · rintro (h | h)
      · exact ⟨by omega, h.2⟩
      · split at h
        · next hb => rw [List.mem_singleton] at h; subst h; exact ⟨by omega, hb⟩
        · cases h
    · intro h
      by_cases hx : x = k
      · subst hx; right; rw [if_pos h.2]; exact List.mem_singleton.mpr rfl
      · left; exact ⟨by omega, h.2⟩
/-- the masks of one that stands so many times, so far apart, in so many places -/
def opm (st e p : Nat) : Nat := (2 ^ p ||| 2 ^ (p + st)) ||| 2 ^ (p + (e - 1) * st)
def opl (st pl e : Nat) : List Nat := (List.range (pl - (e - 1) * st)).map (opm st e)
theorem or_lt {a b n : Nat} (ha : a < 2 ^ n) (hb : b < 2 ^ n) : a ||| b < 2 ^ n := Nat.or_lt_two_pow ha hb
theorem opm_lt {st e p : Nat} (he : 2 ≤ e) (h : p + (e - 1) * st < 16) : opm st e p < 65536 := by
  have h1 : 1 * st ≤ (e - 1) * st := Nat.mul_le_mul_right st (by omega)
  have p1 : 2 ^ p < 2 ^ 16 := Nat.pow_lt_pow_right (by decide) (by omega)
  have p2 : 2 ^ (p + st) < 2 ^ 16 := Nat.pow_lt_pow_right (by decide) (by omega)
  have p3 : 2 ^ (p + (e - 1) * st) < 2 ^ 16 := Nat.pow_lt_pow_right (by decide) (by omega)
  exact or_lt (or_lt p1 p2) p3
theorem getD_append_r {α : Type} (l : List α) (x d : α) : (l ++ [x]).getD l.length d = x := by
  rw [List.getD_eq_getElem?_getD, List.getElem?_append_right (Nat.le_refl _), Nat.sub_self]; rfl
theorem getD_append_l {α : Type} {l r : List α} {i : Nat} {d : α} (h : i < l.length) : (l ++ r).getD i d = l.getD i d := by
  rw [List.getD_eq_getElem?_getD, List.getD_eq_getElem?_getD, List.getElem?_append_left h]
theorem drop_cons {α : Type} {L : List α} {i : Nat} {x : α} {r : List α} {d : α} (h : L.drop i = x :: r) : i < L.length ∧ L.getD i d = x ∧ L.drop (i + 1) = r := by
  have hi : i < L.length := by
    rcases Nat.lt_or_ge i L.length with h1 | h1
    · exact h1
    · rw [List.drop_eq_nil_of_le h1] at h; cases h
  refine ⟨hi, ?_, ?_⟩
  · rw [List.getD_eq_getElem?_getD]
    have := congrArg (fun l => l[0]?) h
    simp only [List.getElem?_drop, Nat.add_zero, List.getElem?_cons_zero] at this
    rw [this]; rfl
  · have := congrArg List.tail h
    rw [List.tail_drop] at this
    exact this
theorem drop_nil {α : Type} {L : List α} {i : Nat} (h : L.drop i = []) : L.length ≤ i := List.drop_eq_nil_iff.mp h
