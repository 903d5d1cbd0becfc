/-! ===== the reference: small methods ===== -/
def pcn : Nat → Nat → Nat
  | 0, _ => 0
  | k + 1, n => n % 2 + pcn k (n / 2)
/-- how many bits (below 65536) -/
def pc (z : Int) : Int := ((pcn 16 z.toNat : Nat) : Int)
theorem pcn_le : ∀ (k n : Nat), pcn k n ≤ k := by
  intro k
  induction k with
  | zero => intro n; exact Nat.le_refl 0
  | succ k ih => intro n; have := ih (n / 2); rw [pcn]; omega
theorem pc_B (z : Int) : 0 ≤ pc z ∧ pc z ≤ 16 := by
  have := pcn_le 16 z.toNat
  unfold pc
  omega
theorem and_half (a b : Nat) : (a &&& b) / 2 = a / 2 &&& b / 2 := by
  have h := Nat.shiftRight_and_distrib (a := a) (b := b) (i := 1)
  simpa [Nat.shiftRight_succ] using h
theorem and_odd (a b : Nat) : (a &&& b) % 2 = (a % 2) &&& (b % 2) := by
  have h := Nat.and_mod_two_pow (a := a) (b := b) (n := 1)
  simpa using h
theorem pcn_low : ∀ (k n : Nat), n < 2 ^ k → 0 < n → pcn k (n &&& (n - 1)) + 1 = pcn k n := by
  intro k
  induction k with
  | zero => intro n h1 h2; omega
  | succ k ih =>
    intro n h1 h2
    rw [pcn, pcn, and_half, and_odd]
    rcases Nat.mod_two_eq_zero_or_one n with h | h
    · have e1 : (n - 1) / 2 = n / 2 - 1 := by omega
      have e2 : n % 2 &&& (n - 1) % 2 = 0 := by rw [h]; exact Nat.zero_and _
      have h3 := ih (n / 2) (by omega) (by omega)
      rw [e1, e2, h]
      omega
    · have e1 : (n - 1) / 2 = n / 2 := by omega
      have e2 : (n - 1) % 2 = 0 := by omega
      rw [e1, e2, h, Nat.and_self, Nat.and_zero]
      omega
theorem pc_low {z : Int} (h : 1 ≤ z ∧ z < 65536) : pc (ban z (z - 1)) + 1 = pc z := by
  have h2 := pcn_low 16 z.toNat (by omega) (by omega)
  unfold pc ban
  have e2 : (z - 1).toNat = z.toNat - 1 := by omega
  rw [e2, Int.toNat_natCast]
  omega
theorem pc_0 : pc 0 = 0 := by decide
set_option maxRecDepth 100000 in
theorem qX11_isIn {hp : List mx_C} {v : Int} (h_v : -2147483648 ≤ v ∧ v < 2147483648) {a : Int} (h_a : -2147483648 ≤ a ∧ a < 2147483648) {b : Int} (h_b : -2147483648 ≤ b ∧ b < 2147483648) : SpF yX11_isIn cX11_isIn 3 (some .boolean) 0 [.int (jI v), .int (jI a), .int (jI b)] hp (.int (jI (jb (a ≤ v ∧ v ≤ b)))) hp := by
  refine Sp.of [.int (jI v), .int (jI a), .int (jI b)] (by decide) (by simp) (Nat.le_of_ble_eq_true rfl) rfl (fun E => ?_)
  refine L_i0 dX11_isIn_0 ?_
  refine L_i1 dX11_isIn_1 ?_
  refine J_icmp_lt 14 dX11_isIn_2 rfl (by omega) (by omega) (fun c2 => ?_) (fun c2 => ?_)
  · refine J_iconst dX11_isIn_14 ?_
    exact R_z rfl dX11_isIn_15 (by decide) rfl (by first | exact (jb_t (by omega)).symm | exact (jb_f (by omega)).symm)
  · refine L_i0 dX11_isIn_5 ?_
    refine L_i2 dX11_isIn_6 ?_
    refine J_icmp_gt 14 dX11_isIn_7 rfl (by omega) (by omega) (fun c7 => ?_) (fun c7 => ?_)
    · refine J_iconst dX11_isIn_14 ?_
      exact R_z rfl dX11_isIn_15 (by decide) rfl (by first | exact (jb_t (by omega)).symm | exact (jb_f (by omega)).symm)
    · refine J_iconst dX11_isIn_10 ?_
      refine E_goto 15 dX11_isIn_11 rfl ?_
      exact R_z rfl dX11_isIn_15 (by decide) rfl (by first | exact (jb_t (by omega)).symm | exact (jb_f (by omega)).symm)

def heldI (v a b : Int) : Int := if v < a then a else if b < v then b else v
theorem jcmp_nn {a b : Int} : 0 ≤ jcmp a b ↔ b ≤ a := by
  unfold jcmp
  split
  · omega
  · split <;> omega
theorem jcmp_le {a b : Int} : jcmp a b ≤ 0 ↔ a ≤ b := by
  unfold jcmp
  split
  · omega
  · split <;> omega
theorem jcmp_B (a b : Int) : -1 ≤ jcmp a b ∧ jcmp a b ≤ 1 := by
  unfold jcmp
  split
  · omega
  · split <;> omega
theorem jcmp_0 {a b : Int} : jcmp a b = 0 ↔ a = b := by
  unfold jcmp
  split
  · omega
  · split <;> omega
set_option maxRecDepth 100000 in
theorem qX11_held {hp : List mx_C} {v : Int} (h_v : -9223372036854775808 ≤ v ∧ v < 9223372036854775808) {a : Int} (h_a : -2147483648 ≤ a ∧ a < 2147483648) {b : Int} (h_b : -2147483648 ≤ b ∧ b < 2147483648) : SpF yX11_held cX11_held 4 (some .int) 0 [.long (jL v), .int (jI a), .int (jI b)] hp (.int (jI (heldI v a b))) hp := by
  have hc1 := jcmp_B v a
  have hc2 := jcmp_B v b
  refine Sp.of [.long (jL v), .retAddr 0, .int (jI a), .int (jI b)] (by decide) (by simp) (Nat.le_of_ble_eq_true rfl) rfl (fun E => ?_)
  refine L_l0 dX11_held_0 ?_
  refine L_i2 dX11_held_1 ?_
  refine J_i2l dX11_held_2 (by omega) ?_
  refine J_lcmp dX11_held_3 (by omega) (by omega) ?_
  refine J_if_ge 11 dX11_held_4 rfl (by omega) (fun c4 => ?_) (fun c4 => ?_)
  · refine L_l0 dX11_held_11 ?_
    refine L_i3 dX11_held_12 ?_
    refine J_i2l dX11_held_13 (by omega) ?_
    refine J_lcmp dX11_held_14 (by omega) (by omega) ?_
    refine J_if_le 22 dX11_held_15 rfl (by omega) (fun c15 => ?_) (fun c15 => ?_)
    · refine L_l0 dX11_held_22 ?_
      refine J_l2i dX11_held_23 (by have := jcmp_nn (a := v) (b := a); have := jcmp_le (a := v) (b := b); omega) ?_
      exact R_i rfl dX11_held_24 rfl (by unfold heldI; have h1 := jcmp_nn (a := v) (b := a); have h2 := jcmp_le (a := v) (b := b); split <;> first | omega | (split <;> omega))
    · refine L_i3 dX11_held_18 ?_
      refine E_goto 24 dX11_held_19 rfl ?_
      exact R_i rfl dX11_held_24 rfl (by unfold heldI; have h1 := jcmp_nn (a := v) (b := a); have h2 := jcmp_le (a := v) (b := b); split <;> first | omega | (split <;> omega))
  · refine L_i2 dX11_held_7 ?_
    refine E_goto 24 dX11_held_8 rfl ?_
    exact R_i rfl dX11_held_24 rfl (by unfold heldI; have h1 := jcmp_nn (a := v) (b := a); have h2 := jcmp_le (a := v) (b := b); split <;> first | omega | (split <;> omega))

set_option maxRecDepth 100000 in
theorem qX11_has {hp : List mx_C} {s k : Int} (h_s : 0 ≤ s ∧ s < 2147483648) (h_k : 0 ≤ k ∧ k < 32) : SpF yX11_has cX11_has 2 (some .boolean) 0 [.int (jI s), .int (jI k)] hp (.int (jI (jb (s / 2 ^ k.toNat % 2 = 1)))) hp := by
  refine Sp.of [.int (jI s), .int (jI k)] (by decide) (by simp) (Nat.le_of_ble_eq_true rfl) rfl (fun E => ?_)
  refine L_i0 dX11_has_0 ?_
  refine L_i1 dX11_has_1 ?_
  refine J_ishr dX11_has_2 (by omega) (by omega) ?_
  refine J_iconst dX11_has_3 ?_
  refine J_imask 1 (by decide) (by decide) dX11_has_4 ?_
  refine J_iconst dX11_has_5 ?_
  refine J_icmp_ne 13 dX11_has_6 rfl (by omega) (by omega) (fun c6 => ?_) (fun c6 => ?_)
  · refine J_iconst dX11_has_13 ?_
    exact R_z rfl dX11_has_14 (by decide) rfl (by first | exact (jb_t (by omega)).symm | exact (jb_f (by omega)).symm)
  · refine J_iconst dX11_has_9 ?_
    refine E_goto 14 dX11_has_10 rfl ?_
    exact R_z rfl dX11_has_14 (by decide) rfl (by first | exact (jb_t (by omega)).symm | exact (jb_f (by omega)).symm)

def bitsg (n q : Int) : Int := n + pc q
set_option maxRecDepth 100000 in
theorem lX11_bits {hp : List mx_C} {s r : Int} {E : mx_E} : ∀ (m : Nat) (n q : Int), pc q = m → n + pc q = r → (0 ≤ q ∧ q < 65536) → (0 ≤ r ∧ r ≤ 16) → Ev E yX11_bits cX11_bits 3 (some .int) (kf E 0 (.int (jI r)) hp) 0 0 4 [.int (jI s), .int (jI n), .int (jI q)] [] hp := by
  intro m
  induction m with
  | zero =>
    intro n q hm hn hq hr
    refine L_i2 dX11_bits_4 ?_
    refine J_if_eq 20 dX11_bits_5 rfl (by omega) (fun c5 => ?_) (fun c5 => ?_)
    · refine L_i1 dX11_bits_20 ?_
      exact R_i rfl dX11_bits_21 rfl (by have := pc_B q; omega)
    · exfalso; have := pc_low (z := q) (by omega); have := pc_B (ban q (q - 1)); omega
  | succ m ih =>
    intro n q hm hn hq hr
    refine L_i2 dX11_bits_4 ?_
    refine J_if_eq 20 dX11_bits_5 rfl (by omega) (fun c5 => ?_) (fun c5 => ?_)
    · exfalso; subst c5; rw [pc_0] at hm; omega
    · refine JI_1 dX11_bits_8 (by decide) rfl ?_
      refine L_i2 dX11_bits_11 ?_
      refine L_i2 dX11_bits_12 ?_
      refine J_iconst dX11_bits_13 ?_
      refine J_isub dX11_bits_14 ?_
      refine J_iandG dX11_bits_15 (by omega) (by omega) ?_
      refine S_i2 dX11_bits_16 (by decide) rfl ?_
      refine E_goto 4 dX11_bits_17 rfl ?_
      exact ih _ _ (by have := pc_low (z := q) (by omega); omega) (by have := pc_low (z := q) (by omega); omega) (by have := ban_nn q (q - 1); have := ban_le' q (q - 1) (by omega); omega) hr

set_option maxRecDepth 100000 in
theorem qX11_bits {hp : List mx_C} {s : Int} (h_s : 0 ≤ s ∧ s < 65536) : SpF yX11_bits cX11_bits 3 (some .int) 0 [.int (jI s)] hp (.int (jI (pc s))) hp := by
  refine Sp.of [.int (jI s), .retAddr 0, .retAddr 0] (by decide) (by simp) (Nat.le_of_ble_eq_true rfl) rfl (fun E => ?_)
  refine J_iconst dX11_bits_0 ?_
  refine S_i1 dX11_bits_1 (by decide) rfl ?_
  refine L_i0 dX11_bits_2 ?_
  refine S_i2 dX11_bits_3 (by decide) rfl ?_
  exact lX11_bits (pc s).toNat 0 s (by have := pc_B s; omega) (by omega) h_s (pc_B s)

set_option maxRecDepth 100000 in
theorem qX11_isNumber {hp : List mx_C} {k : Int} (h_k : -2147483648 ≤ k ∧ k < 2147483648) : SpF yX11_isNumber cX11_isNumber 1 (some .boolean) 1 [.int (jI k)] hp (.int (jI (jb (0 ≤ k ∧ k ≤ 7)))) hp := by
  refine Sp.of [.int (jI k)] (by decide) (by simp) (Nat.le_of_ble_eq_true rfl) rfl (fun E => ?_)
  refine L_i0 dX11_isNumber_0 ?_
  refine J_iconst dX11_isNumber_1 ?_
  refine J_bipush dX11_isNumber_2 (by decide) ?_
  refine C_s3F vX11_83 dX11_isNumber_4 (qX11_isIn (by omega) (by omega) (by omega)) (Nat.le_of_ble_eq_true rfl) (by decide) ?_
  exact R_z rfl dX11_isNumber_7 (by have := jb_B (0 ≤ k ∧ k ≤ 7); omega) rfl rfl

set_option maxRecDepth 100000 in
theorem qX11_layPlaces {S T : Nat → Int → Int} {D : List mx_C} {k f s : Int} (h_k : 0 ≤ k ∧ k ≤ 7) : SpV yX11_layPlaces cX11_layPlaces 4 none 0 [.ref 36, .int (jI k), .int (jI f), .int (jI s)] (W5 S T D) (W5 S (upS T 37 (up (up (T 37) (8 + k) f) (16 + k) s)) D) := by
  refine Sp.of [.ref 36, .int (jI k), .int (jI f), .int (jI s)] (by decide) (by simp) (Nat.le_of_ble_eq_true rfl) rfl (fun E => ?_)
  refine L_a0 dX11_layPlaces_0 ?_
  refine GW_36_0 fX11_7 dX11_layPlaces_1 ?_
  refine J_bipush dX11_layPlaces_4 (by decide) ?_
  refine L_i1 dX11_layPlaces_6 ?_
  refine J_iadd dX11_layPlaces_7 ?_
  refine L_i2 dX11_layPlaces_8 ?_
  refine AS_37 dX11_layPlaces_9 (by omega) ?_
  refine L_a0 dX11_layPlaces_10 ?_
  refine GW_36_0 fX11_7 dX11_layPlaces_11 ?_
  refine J_bipush dX11_layPlaces_14 (by decide) ?_
  refine L_i1 dX11_layPlaces_16 ?_
  refine J_iadd dX11_layPlaces_17 ?_
  refine L_i3 dX11_layPlaces_18 ?_
  refine AS_37 dX11_layPlaces_19 (by omega) ?_
  exact R_v rfl dX11_layPlaces_20 rfl

abbrev md_stands (a : Int → Int) (k : Int) : Prop := (0 ≤ k ∧ k ≤ 7) ∧ ¬ a (8 + k) = -1
set_option maxRecDepth 100000 in
theorem qX11_stands {S T : Nat → Int → Int} {D : List mx_C} (hT : ∀ i, ¬ i = 43 → Bd (T i)) {k : Int} (h_k : -2147483648 ≤ k ∧ k < 2147483648) : SpF yX11_stands cX11_stands 2 (some .boolean) 2 [.ref 36, .int (jI k)] (W5 S T D) (.int (jI (jb (md_stands (T 37) k)))) (W5 S T D) := by
  refine Sp.of [.ref 36, .int (jI k)] (by decide) (by simp) (Nat.le_of_ble_eq_true rfl) rfl (fun E => ?_)
  refine L_i1 dX11_stands_0 ?_
  refine C_s1F vX11_87 dX11_stands_1 (qX11_isNumber (by omega)) (Nat.le_of_ble_eq_true rfl) (by decide) ?_
  refine J_ifeqB 24 dX11_stands_4 rfl (fun c4 => ?_) (fun c4 => ?_)
  · refine J_iconst dX11_stands_24 ?_
    exact R_z rfl dX11_stands_25 (by decide) rfl (by first | exact (jb_t (by omega)).symm | exact (jb_f (by omega)).symm)
  · refine L_a0 dX11_stands_7 ?_
    refine GW_36_0 fX11_7 dX11_stands_8 ?_
    refine J_bipush dX11_stands_11 (by decide) ?_
    refine L_i1 dX11_stands_13 ?_
    refine J_iadd dX11_stands_14 ?_
    refine AB_37 dX11_stands_15 (by omega) (hT 37 (by decide)) (fun b15 => ?_)
    refine J_iconst dX11_stands_16 ?_
    refine J_icmp_eq 24 dX11_stands_17 rfl (by omega) (by omega) (fun c17 => ?_) (fun c17 => ?_)
    · refine J_iconst dX11_stands_24 ?_
      exact R_z rfl dX11_stands_25 (by decide) rfl (by first | exact (jb_t (by omega)).symm | exact (jb_f (by omega)).symm)
    · refine J_iconst dX11_stands_20 ?_
      refine E_goto 25 dX11_stands_21 rfl ?_
      exact R_z rfl dX11_stands_25 (by decide) rfl (by first | exact (jb_t (by omega)).symm | exact (jb_f (by omega)).symm)

def md_stg (a : Int → Int) (k acc : Int) : Int := bor acc (if md_stands a k then bsh k else 0)
def md_standing (a : Int → Int) : Int := lpF (md_stg a) 8 0 0
theorem md_stg_B {a : Int → Int} {k acc : Int} (hk : k ≤ 7) (h : 0 ≤ acc ∧ acc < 256) : 0 ≤ md_stg a k acc ∧ md_stg a k acc < 256 := by
  unfold md_stg
  refine ⟨bor_nn _ _, bor_lt 8 (by omega) ?_⟩
  split
  · exact bsh_lt 8 (by omega) (by decide)
  · decide
set_option maxRecDepth 100000 in
theorem lX11_standing {S T : Nat → Int → Int} {D : List mx_C} (hT : ∀ i, ¬ i = 43 → Bd (T i)) {E : mx_E} : ∀ (m : Nat) (k acc : Int), k + m = 8 → 0 ≤ k → (0 ≤ acc ∧ acc < 256) → Ev E yX11_standing cX11_standing 3 (some .int) (kf E 3 (.int (jI (lpF (md_stg (T 37)) m k acc))) (W5 S T D)) 0 0 4 [.ref 36, .int (jI acc), .int (jI k)] [] (W5 S T D) := by
  intro m
  induction m with
  | zero =>
    intro k acc hk hk1 hacc
    refine L_i2 dX11_standing_4 ?_
    refine J_bipush dX11_standing_5 (by decide) ?_
    refine J_icmp_ge 34 dX11_standing_7 rfl (by omega) (by omega) (fun c7 => ?_) (fun c7 => ?_)
    · refine L_i1 dX11_standing_34 ?_
      exact R_i rfl dX11_standing_35 rfl rfl
    · exfalso; omega
  | succ m ih =>
    intro k acc hk hk1 hacc
    refine L_i2 dX11_standing_4 ?_
    refine J_bipush dX11_standing_5 (by decide) ?_
    refine J_icmp_ge 34 dX11_standing_7 rfl (by omega) (by omega) (fun c7 => ?_) (fun c7 => ?_)
    · exfalso; omega
    · refine L_i1 dX11_standing_10 ?_
      refine L_a0 dX11_standing_11 ?_
      refine L_i2 dX11_standing_12 ?_
      refine C_v1F vX11_91 dX11_standing_13 (qX11_stands hT (by omega)) rfl rfl (Nat.le_of_ble_eq_true rfl) (by decide) ?_
      refine J_ifeqB 25 dX11_standing_16 rfl (fun c16 => ?_) (fun c16 => ?_)
      · refine J_iconst dX11_standing_25 ?_
        refine J_iorG dX11_standing_26 (by omega) (by first | exact bsh_nn _ | decide) ?_
        refine S_i1 dX11_standing_27 (by decide) rfl ?_
        refine JI_2 dX11_standing_28 (by decide) rfl ?_
        refine E_goto 4 dX11_standing_31 rfl ?_
        first
          | (rw [lpF, show md_stg (T 37) k acc = bor acc (bsh k) from by unfold md_stg; rw [if_pos c16]]; exact ih (k + 1) _ (by omega) (by omega) ⟨bor_nn _ _, bor_lt 8 (by omega) (bsh_lt 8 (by omega) (by decide))⟩)
          | (rw [lpF, show md_stg (T 37) k acc = bor acc 0 from by unfold md_stg; rw [if_neg c16]]; exact ih (k + 1) _ (by omega) (by omega) ⟨bor_nn _ _, bor_lt 8 (by omega) (by decide)⟩)
      · refine J_iconst dX11_standing_19 ?_
        refine L_i2 dX11_standing_20 ?_
        refine J_1shl dX11_standing_21 (by omega) ?_
        refine E_goto 26 dX11_standing_22 rfl ?_
        refine J_iorG dX11_standing_26 (by omega) (by first | exact bsh_nn _ | decide) ?_
        refine S_i1 dX11_standing_27 (by decide) rfl ?_
        refine JI_2 dX11_standing_28 (by decide) rfl ?_
        refine E_goto 4 dX11_standing_31 rfl ?_
        first
          | (rw [lpF, show md_stg (T 37) k acc = bor acc (bsh k) from by unfold md_stg; rw [if_pos c16]]; exact ih (k + 1) _ (by omega) (by omega) ⟨bor_nn _ _, bor_lt 8 (by omega) (bsh_lt 8 (by omega) (by decide))⟩)
          | (rw [lpF, show md_stg (T 37) k acc = bor acc 0 from by unfold md_stg; rw [if_neg c16]]; exact ih (k + 1) _ (by omega) (by omega) ⟨bor_nn _ _, bor_lt 8 (by omega) (by decide)⟩)

set_option maxRecDepth 100000 in
theorem qX11_standing {S T : Nat → Int → Int} {D : List mx_C} (hT : ∀ i, ¬ i = 43 → Bd (T i)) : SpF yX11_standing cX11_standing 3 (some .int) 3 [.ref 36] (W5 S T D) (.int (jI (md_standing (T 37)))) (W5 S T D) := by
  refine Sp.of [.ref 36, .retAddr 0, .retAddr 0] (by decide) (by simp) (Nat.le_of_ble_eq_true rfl) rfl (fun E => ?_)
  refine J_iconst dX11_standing_0 ?_
  refine S_i1 dX11_standing_1 (by decide) rfl ?_
  refine J_iconst dX11_standing_2 ?_
  refine S_i2 dX11_standing_3 (by decide) rfl ?_
  exact lX11_standing hT 8 0 0 (by omega) (by omega) (by omega)

