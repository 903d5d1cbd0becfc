/-! ===== the class: small helpers, the signs of a law ===== -/
set_option maxRecDepth 100000 in
theorem qX10_within {hp : List mx_C} {v : Int} (h_v : -9223372036854775808 ≤ v ∧ v < 9223372036854775808) {a : Int} (h_a : -2147483648 ≤ a ∧ a < 2147483648) {b : Int} (h_b : -2147483648 ≤ b ∧ b < 2147483648) : SpF yX10_within cX10_within 4 (some .int) 0 [.long (jL v), .int (jI a), .int (jI b)] hp (.int (jI (heldI v a b))) hp := by
  refine Sp.of [.long (jL v), .retAddr 0, .int (jI a), .int (jI b)] (by decide) (by simp) (Nat.le_of_ble_eq_true rfl) rfl (fun E => ?_)
  refine L_l0 dX10_within_0 ?_
  refine L_i2 dX10_within_1 ?_
  refine J_i2l dX10_within_2 (by omega) ?_
  refine JL_ge 11 dX10_within_3 dX10_within_4 rfl (by omega) (by omega) (fun c4 => ?_) (fun c4 => ?_)
  · refine L_l0 dX10_within_11 ?_
    refine L_i3 dX10_within_12 ?_
    refine J_i2l dX10_within_13 (by omega) ?_
    refine JL_le 22 dX10_within_14 dX10_within_15 rfl (by omega) (by omega) (fun c15 => ?_) (fun c15 => ?_)
    · refine L_l0 dX10_within_22 ?_
      refine J_l2i dX10_within_23 (by omega) ?_
      exact R_i rfl dX10_within_24 rfl (by unfold heldI; first | rw [if_pos (by omega)] | rw [if_neg (by omega), if_pos (by omega)] | rw [if_neg (by omega), if_neg (by omega)])
    · refine L_i3 dX10_within_18 ?_
      refine E_goto 24 dX10_within_19 rfl ?_
      exact R_i rfl dX10_within_24 rfl (by unfold heldI; first | rw [if_pos (by omega)] | rw [if_neg (by omega), if_pos (by omega)] | rw [if_neg (by omega), if_neg (by omega)])
  · refine L_i2 dX10_within_7 ?_
    refine E_goto 24 dX10_within_8 rfl ?_
    exact R_i rfl dX10_within_24 rfl (by unfold heldI; first | rw [if_pos (by omega)] | rw [if_neg (by omega), if_pos (by omega)] | rw [if_neg (by omega), if_neg (by omega)])

set_option maxRecDepth 100000 in
theorem qX6_isName {hp : List mx_C} {x : Int} (h_x : -2147483648 ≤ x ∧ x < 2147483648) : SpF yX6_isName cX6_isName 1 (some .boolean) 0 [.int (jI x)] hp (.int (jI (jb (8 ≤ x ∧ x ≤ 14)))) hp := by
  refine Sp.of [.int (jI x)] (by decide) (by simp) (Nat.le_of_ble_eq_true rfl) rfl (fun E => ?_)
  refine L_i0 dX6_isName_0 ?_
  refine J_bipush dX6_isName_1 (by decide) ?_
  refine J_icmp_lt 16 dX6_isName_3 rfl (by omega) (by omega) (fun c3 => ?_) (fun c3 => ?_)
  · refine J_iconst dX6_isName_16 ?_
    exact R_z rfl dX6_isName_17 (by decide) rfl (by first | exact (jb_t (by omega)).symm | exact (jb_f (by omega)).symm)
  · refine L_i0 dX6_isName_6 ?_
    refine J_bipush dX6_isName_7 (by decide) ?_
    refine J_icmp_gt 16 dX6_isName_9 rfl (by omega) (by omega) (fun c9 => ?_) (fun c9 => ?_)
    · refine J_iconst dX6_isName_16 ?_
      exact R_z rfl dX6_isName_17 (by decide) rfl (by first | exact (jb_t (by omega)).symm | exact (jb_f (by omega)).symm)
    · refine J_iconst dX6_isName_12 ?_
      refine E_goto 17 dX6_isName_13 rfl ?_
      exact R_z rfl dX6_isName_17 (by decide) rfl (by first | exact (jb_t (by omega)).symm | exact (jb_f (by omega)).symm)

set_option maxRecDepth 100000 in
theorem qX6_isRelation {hp : List mx_C} {x : Int} (h_x : -2147483648 ≤ x ∧ x < 2147483648) : SpF yX6_isRelation cX6_isRelation 1 (some .boolean) 0 [.int (jI x)] hp (.int (jI (jb ((30 ≤ x ∧ x ≤ 33) ∨ x = 41 ∨ x = 42)))) hp := by
  refine Sp.of [.int (jI x)] (by decide) (by simp) (Nat.le_of_ble_eq_true rfl) rfl (fun E => ?_)
  refine L_i0 dX6_isRelation_0 ?_
  refine J_bipush dX6_isRelation_1 (by decide) ?_
  refine J_icmp_lt 12 dX6_isRelation_3 rfl (by omega) (by omega) (fun c3 => ?_) (fun c3 => ?_)
  · refine L_i0 dX6_isRelation_12 ?_
    refine J_bipush dX6_isRelation_13 (by decide) ?_
    refine J_icmp_eq 24 dX6_isRelation_15 rfl (by omega) (by omega) (fun c15 => ?_) (fun c15 => ?_)
    · refine J_iconst dX6_isRelation_24 ?_
      refine E_goto 29 dX6_isRelation_25 rfl ?_
      exact R_z rfl dX6_isRelation_29 (by decide) rfl (by first | exact (jb_t (by omega)).symm | exact (jb_f (by omega)).symm)
    · refine L_i0 dX6_isRelation_18 ?_
      refine J_bipush dX6_isRelation_19 (by decide) ?_
      refine J_icmp_ne 28 dX6_isRelation_21 rfl (by omega) (by omega) (fun c21 => ?_) (fun c21 => ?_)
      · refine J_iconst dX6_isRelation_28 ?_
        exact R_z rfl dX6_isRelation_29 (by decide) rfl (by first | exact (jb_t (by omega)).symm | exact (jb_f (by omega)).symm)
      · refine J_iconst dX6_isRelation_24 ?_
        refine E_goto 29 dX6_isRelation_25 rfl ?_
        exact R_z rfl dX6_isRelation_29 (by decide) rfl (by first | exact (jb_t (by omega)).symm | exact (jb_f (by omega)).symm)
  · refine L_i0 dX6_isRelation_6 ?_
    refine J_bipush dX6_isRelation_7 (by decide) ?_
    refine J_icmp_le 24 dX6_isRelation_9 rfl (by omega) (by omega) (fun c9 => ?_) (fun c9 => ?_)
    · refine J_iconst dX6_isRelation_24 ?_
      refine E_goto 29 dX6_isRelation_25 rfl ?_
      exact R_z rfl dX6_isRelation_29 (by decide) rfl (by first | exact (jb_t (by omega)).symm | exact (jb_f (by omega)).symm)
    · refine L_i0 dX6_isRelation_12 ?_
      refine J_bipush dX6_isRelation_13 (by decide) ?_
      refine J_icmp_eq 24 dX6_isRelation_15 rfl (by omega) (by omega) (fun c15 => ?_) (fun c15 => ?_)
      · refine J_iconst dX6_isRelation_24 ?_
        refine E_goto 29 dX6_isRelation_25 rfl ?_
        exact R_z rfl dX6_isRelation_29 (by decide) rfl (by first | exact (jb_t (by omega)).symm | exact (jb_f (by omega)).symm)
      · refine L_i0 dX6_isRelation_18 ?_
        refine J_bipush dX6_isRelation_19 (by decide) ?_
        refine J_icmp_ne 28 dX6_isRelation_21 rfl (by omega) (by omega) (fun c21 => ?_) (fun c21 => ?_)
        · refine J_iconst dX6_isRelation_28 ?_
          exact R_z rfl dX6_isRelation_29 (by decide) rfl (by first | exact (jb_t (by omega)).symm | exact (jb_f (by omega)).symm)
        · refine J_iconst dX6_isRelation_24 ?_
          refine E_goto 29 dX6_isRelation_25 rfl ?_
          exact R_z rfl dX6_isRelation_29 (by decide) rfl (by first | exact (jb_t (by omega)).symm | exact (jb_f (by omega)).symm)

set_option maxRecDepth 100000 in
theorem qX10_isSet {hp : List mx_C} {x : Int} (h_x : -2147483648 ≤ x ∧ x < 2147483648) : SpF yX10_isSet cX10_isSet 1 (some .boolean) 0 [.int (jI x)] hp (.int (jI (jb (0 ≤ x ∧ x ≤ 255)))) hp := by
  refine Sp.of [.int (jI x)] (by decide) (by simp) (Nat.le_of_ble_eq_true rfl) rfl (fun E => ?_)
  refine L_i0 dX10_isSet_0 ?_
  refine J_if_lt 15 dX10_isSet_1 rfl (by omega) (fun c1 => ?_) (fun c1 => ?_)
  · refine J_iconst dX10_isSet_15 ?_
    exact R_z rfl dX10_isSet_16 (by decide) rfl (by first | exact (jb_t (by omega)).symm | exact (jb_f (by omega)).symm)
  · refine L_i0 dX10_isSet_4 ?_
    refine J_sipush dX10_isSet_5 (by decide) ?_
    refine J_icmp_gt 15 dX10_isSet_8 rfl (by omega) (by omega) (fun c8 => ?_) (fun c8 => ?_)
    · refine J_iconst dX10_isSet_15 ?_
      exact R_z rfl dX10_isSet_16 (by decide) rfl (by first | exact (jb_t (by omega)).symm | exact (jb_f (by omega)).symm)
    · refine J_iconst dX10_isSet_11 ?_
      refine E_goto 16 dX10_isSet_12 rfl ?_
      exact R_z rfl dX10_isSet_16 (by decide) rfl (by first | exact (jb_t (by omega)).symm | exact (jb_f (by omega)).symm)

set_option maxRecDepth 100000 in
theorem qX10_isGame {hp : List mx_C} {pl : Int} (h_pl : -2147483648 ≤ pl ∧ pl < 2147483648) {s : Int} (h_s : -2147483648 ≤ s ∧ s < 2147483648) : SpF yX10_isGame cX10_isGame 2 (some .boolean) 1 [.int (jI pl), .int (jI s)] hp (.int (jI (jb (isGm pl s)))) hp := by
  have hpb := pc_B s
  refine Sp.of [.int (jI pl), .int (jI s)] (by decide) (by simp) (Nat.le_of_ble_eq_true rfl) rfl (fun E => ?_)
  refine L_i0 dX10_isGame_0 ?_
  refine J_iconst dX10_isGame_1 ?_
  refine J_icmp_lt 30 dX10_isGame_2 rfl (by omega) (by omega) (fun c2 => ?_) (fun c2 => ?_)
  · refine J_iconst dX10_isGame_30 ?_
    exact R_z rfl dX10_isGame_31 (by decide) rfl (by first | exact (jb_t (by omega)).symm | exact (jb_f (by omega)).symm)
  · refine L_i0 dX10_isGame_5 ?_
    refine J_bipush dX10_isGame_6 (by decide) ?_
    refine J_icmp_gt 30 dX10_isGame_8 rfl (by omega) (by omega) (fun c8 => ?_) (fun c8 => ?_)
    · refine J_iconst dX10_isGame_30 ?_
      exact R_z rfl dX10_isGame_31 (by decide) rfl (by first | exact (jb_t (by omega)).symm | exact (jb_f (by omega)).symm)
    · refine L_i1 dX10_isGame_11 ?_
      refine C_s1F vX10_287 dX10_isGame_12 (qX10_isSet (by omega)) (Nat.le_of_ble_eq_true rfl) (by decide) ?_
      refine J_ifeqB 30 dX10_isGame_15 rfl (fun c15 => ?_) (fun c15 => ?_)
      · refine J_iconst dX10_isGame_30 ?_
        exact R_z rfl dX10_isGame_31 (by decide) rfl (by first | exact (jb_t (by omega)).symm | exact (jb_f (by omega)).symm)
      · refine L_i1 dX10_isGame_18 ?_
        refine C_s1F vX10_290 dX10_isGame_19 (sJ_bitCount (by omega)) (Nat.le_of_ble_eq_true rfl) (by decide) ?_
        refine J_iconst dX10_isGame_22 ?_
        refine J_icmp_gt 30 dX10_isGame_23 rfl (by omega) (by omega) (fun c23 => ?_) (fun c23 => ?_)
        · refine J_iconst dX10_isGame_30 ?_
          exact R_z rfl dX10_isGame_31 (by decide) rfl (by first | exact (jb_t (by omega)).symm | exact (jb_f (by omega)).symm)
        · refine J_iconst dX10_isGame_26 ?_
          refine E_goto 31 dX10_isGame_27 rfl ?_
          exact R_z rfl dX10_isGame_31 (by decide) rfl (by first | exact (jb_t (by omega)).symm | exact (jb_f (by omega)).symm)

set_option maxRecDepth 100000 in
theorem qX10_rowPlaces {hp : List mx_C} {s : Int} (h_s : -2147483648 ≤ s ∧ s < 2147483648) {g : Int} (h_g : -2147483648 ≤ g ∧ g < 2147483648) : SpF yX10_rowPlaces cX10_rowPlaces 3 (some .int) 1 [.int (jI s), .int (jI g)] hp (.int (jI (if isRow s g then 2 * pc s + g else -1))) hp := by
  have hpb := pc_B s
  refine Sp.of [.int (jI s), .int (jI g), .retAddr 0] (by decide) (by simp) (Nat.le_of_ble_eq_true rfl) rfl (fun E => ?_)
  refine L_i0 dX10_rowPlaces_0 ?_
  refine C_s1F vX10_287 dX10_rowPlaces_1 (qX10_isSet (by omega)) (Nat.le_of_ble_eq_true rfl) (by decide) ?_
  refine J_ifeqB 17 dX10_rowPlaces_4 rfl (fun c4 => ?_) (fun c4 => ?_)
  · refine J_iconst dX10_rowPlaces_17 ?_
    exact R_i rfl dX10_rowPlaces_18 rfl (by first | rw [if_pos (by omega)] | rw [if_neg (by omega)])
  · refine L_i1 dX10_rowPlaces_7 ?_
    refine J_if_lt 17 dX10_rowPlaces_8 rfl (by omega) (fun c8 => ?_) (fun c8 => ?_)
    · refine J_iconst dX10_rowPlaces_17 ?_
      exact R_i rfl dX10_rowPlaces_18 rfl (by first | rw [if_pos (by omega)] | rw [if_neg (by omega)])
    · refine L_i1 dX10_rowPlaces_11 ?_
      refine J_bipush dX10_rowPlaces_12 (by decide) ?_
      refine J_icmp_le 19 dX10_rowPlaces_14 rfl (by omega) (by omega) (fun c14 => ?_) (fun c14 => ?_)
      · refine J_iconst dX10_rowPlaces_19 ?_
        refine L_i0 dX10_rowPlaces_20 ?_
        refine C_s1F vX10_290 dX10_rowPlaces_21 (sJ_bitCount (by omega)) (Nat.le_of_ble_eq_true rfl) (by decide) ?_
        refine J_imul dX10_rowPlaces_24 ?_
        refine L_i1 dX10_rowPlaces_25 ?_
        refine J_iadd dX10_rowPlaces_26 ?_
        refine S_i2 dX10_rowPlaces_27 (by decide) rfl ?_
        refine L_i2 dX10_rowPlaces_28 ?_
        refine J_bipush dX10_rowPlaces_29 (by decide) ?_
        refine J_icmp_le 38 dX10_rowPlaces_31 rfl (by omega) (by omega) (fun c31 => ?_) (fun c31 => ?_)
        · refine L_i2 dX10_rowPlaces_38 ?_
          exact R_i rfl dX10_rowPlaces_39 rfl (by first | rw [if_pos (by omega)] | rw [if_neg (by omega)])
        · refine J_iconst dX10_rowPlaces_34 ?_
          refine E_goto 39 dX10_rowPlaces_35 rfl ?_
          exact R_i rfl dX10_rowPlaces_39 rfl (by first | rw [if_pos (by omega)] | rw [if_neg (by omega)])
      · refine J_iconst dX10_rowPlaces_17 ?_
        exact R_i rfl dX10_rowPlaces_18 rfl (by first | rw [if_pos (by omega)] | rw [if_neg (by omega)])

theorem half_mod {p q : Nat} (hq : 0 < q) (hle : q ≤ p) : 2 * (p % q) ≤ p := by
  have h1 := Nat.mod_lt p hq
  have h2 := Nat.div_add_mod p q
  have h3 : 1 ≤ p / q := Nat.div_pos hle hq
  have h4 : q * 1 ≤ q * (p / q) := Nat.mul_le_mul_left q h3
  omega
theorem lX10_gcd {E : mx_E} {hp : List mx_C} {x z r : Int} : ∀ (m : Nat) (p q : Nat) (i : Int) (u9 u10 : Value), p * q < 2 ^ m → q ≤ p → p < 4611686018427387904 → 0 ≤ i → i + m < 200 → (Nat.gcd p q : Int) = r → Ev E yX10_commonDivisor cX10_commonDivisor 11 (some .long) (kf E 0 (.long (jL r)) hp) 0 0 9 [.long (jL x), .retAddr 0, .long (jL z), .retAddr 0, .long (jL (p : Int)), .retAddr 0, .long (jL (q : Int)), .retAddr 0, .int (jI i), u9, u10] [] hp := by
  intro m
  induction m with
  | zero =>
    intro p q i u9 u10 hm hle hpB hi0 him hr
    have hq0 : q = 0 := by
      rcases Nat.eq_zero_or_pos q with h | h
      · exact h
      · have : 1 * 1 ≤ p * q := Nat.mul_le_mul (by omega) h
        rw [Nat.pow_zero] at hm
        omega
    subst hq0
    refine L_i8 dX10_commonDivisor_9 ?_
    refine J_sipush dX10_commonDivisor_11 (by decide) ?_
    refine J_icmp_ge 45 dX10_commonDivisor_14 rfl (by omega) (by omega) (fun c14 => ?_) (fun c14 => ?_)
    · exfalso; omega
    · refine L_l6 dX10_commonDivisor_17 ?_
      refine J_lconst 0 dX10_commonDivisor_19 (by decide) ?_
      refine JL_eq 45 dX10_commonDivisor_20 dX10_commonDivisor_21 rfl (by omega) (by omega) (fun c21 => ?_) (fun c21 => ?_)
      · refine L_l4 dX10_commonDivisor_45 ?_
        exact R_l rfl dX10_commonDivisor_47 rfl (by rw [← hr, Nat.gcd_zero_right])
      · exfalso; exact absurd rfl c21
  | succ m ih =>
    intro p q i u9 u10 hm hle hpB hi0 him hr
    refine L_i8 dX10_commonDivisor_9 ?_
    refine J_sipush dX10_commonDivisor_11 (by decide) ?_
    refine J_icmp_ge 45 dX10_commonDivisor_14 rfl (by omega) (by omega) (fun c14 => ?_) (fun c14 => ?_)
    · exfalso; omega
    · refine L_l6 dX10_commonDivisor_17 ?_
      refine J_lconst 0 dX10_commonDivisor_19 (by decide) ?_
      refine JL_eq 45 dX10_commonDivisor_20 dX10_commonDivisor_21 rfl (by omega) (by omega) (fun c21 => ?_) (fun c21 => ?_)
      · refine L_l4 dX10_commonDivisor_45 ?_
        exact R_l rfl dX10_commonDivisor_47 rfl (by rw [← hr, show q = 0 by omega, Nat.gcd_zero_right])
      · refine L_l4 dX10_commonDivisor_24 ?_
        refine L_l6 dX10_commonDivisor_26 ?_
        refine J_lremN dX10_commonDivisor_28 (by omega) (by omega) ?_
        refine S_l9 dX10_commonDivisor_29 (by decide) rfl ?_
        refine L_l6 dX10_commonDivisor_31 ?_
        refine S_l4 dX10_commonDivisor_33 (by decide) rfl ?_
        refine L_l9 dX10_commonDivisor_35 ?_
        refine S_l6 dX10_commonDivisor_37 (by decide) rfl ?_
        refine JI_8 dX10_commonDivisor_39 (by decide) rfl ?_
        refine E_goto 9 dX10_commonDivisor_42 rfl ?_
        have hq1 : 0 < q := by omega
        have hml := Nat.mod_lt p hq1
        have hhm := half_mod hq1 hle
        refine E_eq rfl (show _ = [.long (jL x), .retAddr 0, .long (jL z), .retAddr 0, .long (jL (q : Int)), .retAddr 0, .long (jL ((p % q : Nat) : Int)), .retAddr 0, .int (jI (i + 1)), .long (jL ((p : Int) % (q : Int))), .retAddr 0] from by rw [Int.natCast_emod]) rfl rfl ?_
        refine ih q (p % q) (i + 1) _ _ ?_ (by omega) (by omega) (by omega) (by omega) (by rw [← hr, Nat.gcd_comm p q, Nat.gcd_rec q p, Nat.gcd_comm])
        have h1 : q * (2 * (p % q)) ≤ q * p := Nat.mul_le_mul_left q hhm
        rw [Nat.pow_succ] at hm
        have h2 : q * (2 * (p % q)) = 2 * (q * (p % q)) := Nat.mul_left_comm q 2 (p % q)
        have h3 : q * p = p * q := Nat.mul_comm q p
        omega
set_option maxRecDepth 100000 in
theorem qX10_commonDivisor {hp : List mx_C} {p q : Nat} (h_p : p < 4611686018427387904) (h_q : q ≤ p) : SpF yX10_commonDivisor cX10_commonDivisor 11 (some .long) 0 [.long (jL (p : Int)), .long (jL (q : Int))] hp (.long (jL (Nat.gcd p q : Int))) hp := by
  refine Sp.of [.long (jL (p : Int)), .retAddr 0, .long (jL (q : Int)), .retAddr 0, .retAddr 0, .retAddr 0, .retAddr 0, .retAddr 0, .retAddr 0, .retAddr 0, .retAddr 0] (by decide) (by simp) (Nat.le_of_ble_eq_true rfl) rfl (fun E => ?_)
  refine L_l0 dX10_commonDivisor_0 ?_
  refine S_l4 dX10_commonDivisor_1 (by decide) rfl ?_
  refine L_l2 dX10_commonDivisor_3 ?_
  refine S_l6 dX10_commonDivisor_4 (by decide) rfl ?_
  refine J_iconst dX10_commonDivisor_6 ?_
  refine S_i8 dX10_commonDivisor_7 (by decide) rfl ?_
  have hb : p * q < 2 ^ 124 := by
    have h1 : p * q ≤ 4611686018427387904 * 4611686018427387904 := Nat.mul_le_mul (by omega) (by omega)
    have h2 : 4611686018427387904 * 4611686018427387904 = 2 ^ 124 := by decide
    have h3 : p * q < 4611686018427387904 * 4611686018427387904 := by
      rcases Nat.eq_zero_or_pos p with e | e
      · subst e; rw [Nat.zero_mul]; decide
      · exact Nat.lt_of_lt_of_le (Nat.mul_lt_mul_of_pos_left (show q < 4611686018427387904 by omega) e) (Nat.mul_le_mul_right _ (by omega))
    omega
  exact lX10_gcd 124 p q 0 _ _ hb h_q h_p (by omega) (by omega) rfl

def cwh (s l r : Int) : Bool := if s = 30 then decide (l < r) else if s = 41 then decide (l ≤ r) else if s = 31 then decide (r < l) else if s = 42 then decide (r ≤ l) else if s = 32 then decide (l = r) else if s = 33 then decide (¬ l = r) else if s = 22 then decide (¬ l = 0 ∧ ¬ r = 0) else decide (¬ l = 0 ∨ ¬ r = 0)
def cw2 (s l r : Int) : Int := if s = 34 then heldI (l + r) (-1000000) 1000000 else if s = 35 then heldI (l - r) (-1000000) 1000000 else if s = 36 then heldI (l * r) (-1000000) 1000000 else if s = 37 then (if r = 0 then 0 else l.tdiv r) else jb (cwh s l r = true)
def cw1 (f : Int → Int) (s v : Int) : Int := if s = 51 then -v else if s = 23 then jb (v = 0) else if s = 15 then jb (rw_holds f v) else jb ((0 ≤ v ∧ v < f 0) ∧ f 4 / 2 ^ v.toNat % 2 = 0)
def cnm (f : Int → Int) (n s : Int) : Int := if s = 8 then f 1 else if s = 9 then f 0 else if s = 10 then n else if s = 11 then pc (f 3) else if s = 12 then rw_since f n else if s = 13 then rw_first f n else rw_latest f
set_option maxRecDepth 100000 in
theorem qX2_takesOne {hp : List mx_C} {s : Int} (h_s : -2147483648 ≤ s ∧ s < 2147483648) : SpF yX2_takesOne cX2_takesOne 1 (some .boolean) 0 [.int (jI s)] hp (.int (jI (jb (s = 51 ∨ s = 23 ∨ s = 15 ∨ s = 16)))) hp := by
  refine Sp.of [.int (jI s)] (by decide) (by simp) (Nat.le_of_ble_eq_true rfl) rfl (fun E => ?_)
  refine L_i0 dX2_takesOne_0 ?_
  refine J_bipush dX2_takesOne_1 (by decide) ?_
  refine J_icmp_eq 24 dX2_takesOne_3 rfl (by omega) (by omega) (fun c3 => ?_) (fun c3 => ?_)
  · refine J_iconst dX2_takesOne_24 ?_
    refine E_goto 29 dX2_takesOne_25 rfl ?_
    exact R_z rfl dX2_takesOne_29 (by decide) rfl (by first | exact (jb_t (by omega)).symm | exact (jb_f (by omega)).symm)
  · refine L_i0 dX2_takesOne_6 ?_
    refine J_bipush dX2_takesOne_7 (by decide) ?_
    refine J_icmp_eq 24 dX2_takesOne_9 rfl (by omega) (by omega) (fun c9 => ?_) (fun c9 => ?_)
    · refine J_iconst dX2_takesOne_24 ?_
      refine E_goto 29 dX2_takesOne_25 rfl ?_
      exact R_z rfl dX2_takesOne_29 (by decide) rfl (by first | exact (jb_t (by omega)).symm | exact (jb_f (by omega)).symm)
    · refine L_i0 dX2_takesOne_12 ?_
      refine J_bipush dX2_takesOne_13 (by decide) ?_
      refine J_icmp_eq 24 dX2_takesOne_15 rfl (by omega) (by omega) (fun c15 => ?_) (fun c15 => ?_)
      · refine J_iconst dX2_takesOne_24 ?_
        refine E_goto 29 dX2_takesOne_25 rfl ?_
        exact R_z rfl dX2_takesOne_29 (by decide) rfl (by first | exact (jb_t (by omega)).symm | exact (jb_f (by omega)).symm)
      · refine L_i0 dX2_takesOne_18 ?_
        refine J_bipush dX2_takesOne_19 (by decide) ?_
        refine J_icmp_ne 28 dX2_takesOne_21 rfl (by omega) (by omega) (fun c21 => ?_) (fun c21 => ?_)
        · refine J_iconst dX2_takesOne_28 ?_
          exact R_z rfl dX2_takesOne_29 (by decide) rfl (by first | exact (jb_t (by omega)).symm | exact (jb_f (by omega)).symm)
        · refine J_iconst dX2_takesOne_24 ?_
          refine E_goto 29 dX2_takesOne_25 rfl ?_
          exact R_z rfl dX2_takesOne_29 (by decide) rfl (by first | exact (jb_t (by omega)).symm | exact (jb_f (by omega)).symm)

set_option maxRecDepth 100000 in
theorem qX2_holdsOfTwo {hp : List mx_C} {s : Int} (h_s : -2147483648 ≤ s ∧ s < 2147483648) {l : Int} (h_l : -2147483648 ≤ l ∧ l < 2147483648) {r : Int} (h_r : -2147483648 ≤ r ∧ r < 2147483648) : SpF yX2_holdsOfTwo cX2_holdsOfTwo 3 (some .boolean) 0 [.int (jI s), .int (jI l), .int (jI r)] hp (.int (jI (jb (cwh s l r = true)))) hp := by
  refine Sp.of [.int (jI s), .int (jI l), .int (jI r)] (by decide) (by simp) (Nat.le_of_ble_eq_true rfl) rfl (fun E => ?_)
  refine L_i0 dX2_holdsOfTwo_0 ?_
  refine J_tab21 166 180 180 180 180 180 180 180 100 122 144 155 180 180 180 180 180 180 180 111 133 180 dX2_holdsOfTwo_1 (by omega) rfl rfl rfl rfl rfl rfl rfl rfl rfl rfl rfl rfl rfl rfl rfl rfl rfl rfl rfl rfl rfl rfl rfl (fun c1 => ?_) (fun c1 => ?_) (fun c1 => ?_) (fun c1 => ?_) (fun c1 => ?_) (fun c1 => ?_) (fun c1 => ?_) (fun c1 => ?_) (fun c1 => ?_) (fun c1 => ?_) (fun c1 => ?_) (fun c1 => ?_) (fun c1 => ?_) (fun c1 => ?_) (fun c1 => ?_) (fun c1 => ?_) (fun c1 => ?_) (fun c1 => ?_) (fun c1 => ?_) (fun c1 => ?_) (fun c1 => ?_) (fun c1 => ?_)
  · refine L_i1 dX2_holdsOfTwo_166 ?_
    refine J_if_eq 178 dX2_holdsOfTwo_167 rfl (by omega) (fun c167 => ?_) (fun c167 => ?_)
    · refine J_iconst dX2_holdsOfTwo_178 ?_
      exact R_z rfl dX2_holdsOfTwo_179 (by decide) rfl (by unfold cwh; (repeat' split); all_goals first | (exfalso; omega) | exact (jb_t (decide_eq_true (by omega))).symm | exact (jb_f (fun hh => absurd (of_decide_eq_true hh) (by omega))).symm)
    · refine L_i2 dX2_holdsOfTwo_170 ?_
      refine J_if_eq 178 dX2_holdsOfTwo_171 rfl (by omega) (fun c171 => ?_) (fun c171 => ?_)
      · refine J_iconst dX2_holdsOfTwo_178 ?_
        exact R_z rfl dX2_holdsOfTwo_179 (by decide) rfl (by unfold cwh; (repeat' split); all_goals first | (exfalso; omega) | exact (jb_t (decide_eq_true (by omega))).symm | exact (jb_f (fun hh => absurd (of_decide_eq_true hh) (by omega))).symm)
      · refine J_iconst dX2_holdsOfTwo_174 ?_
        refine E_goto 179 dX2_holdsOfTwo_175 rfl ?_
        exact R_z rfl dX2_holdsOfTwo_179 (by decide) rfl (by unfold cwh; (repeat' split); all_goals first | (exfalso; omega) | exact (jb_t (decide_eq_true (by omega))).symm | exact (jb_f (fun hh => absurd (of_decide_eq_true hh) (by omega))).symm)
  · refine L_i1 dX2_holdsOfTwo_180 ?_
    refine J_if_ne 188 dX2_holdsOfTwo_181 rfl (by omega) (fun c181 => ?_) (fun c181 => ?_)
    · refine J_iconst dX2_holdsOfTwo_188 ?_
      refine E_goto 193 dX2_holdsOfTwo_189 rfl ?_
      exact R_z rfl dX2_holdsOfTwo_193 (by decide) rfl (by unfold cwh; (repeat' split); all_goals first | (exfalso; omega) | exact (jb_t (decide_eq_true (by omega))).symm | exact (jb_f (fun hh => absurd (of_decide_eq_true hh) (by omega))).symm)
    · refine L_i2 dX2_holdsOfTwo_184 ?_
      refine J_if_eq 192 dX2_holdsOfTwo_185 rfl (by omega) (fun c185 => ?_) (fun c185 => ?_)
      · refine J_iconst dX2_holdsOfTwo_192 ?_
        exact R_z rfl dX2_holdsOfTwo_193 (by decide) rfl (by unfold cwh; (repeat' split); all_goals first | (exfalso; omega) | exact (jb_t (decide_eq_true (by omega))).symm | exact (jb_f (fun hh => absurd (of_decide_eq_true hh) (by omega))).symm)
      · refine J_iconst dX2_holdsOfTwo_188 ?_
        refine E_goto 193 dX2_holdsOfTwo_189 rfl ?_
        exact R_z rfl dX2_holdsOfTwo_193 (by decide) rfl (by unfold cwh; (repeat' split); all_goals first | (exfalso; omega) | exact (jb_t (decide_eq_true (by omega))).symm | exact (jb_f (fun hh => absurd (of_decide_eq_true hh) (by omega))).symm)
  · refine L_i1 dX2_holdsOfTwo_180 ?_
    refine J_if_ne 188 dX2_holdsOfTwo_181 rfl (by omega) (fun c181 => ?_) (fun c181 => ?_)
    · refine J_iconst dX2_holdsOfTwo_188 ?_
      refine E_goto 193 dX2_holdsOfTwo_189 rfl ?_
      exact R_z rfl dX2_holdsOfTwo_193 (by decide) rfl (by unfold cwh; (repeat' split); all_goals first | (exfalso; omega) | exact (jb_t (decide_eq_true (by omega))).symm | exact (jb_f (fun hh => absurd (of_decide_eq_true hh) (by omega))).symm)
    · refine L_i2 dX2_holdsOfTwo_184 ?_
      refine J_if_eq 192 dX2_holdsOfTwo_185 rfl (by omega) (fun c185 => ?_) (fun c185 => ?_)
      · refine J_iconst dX2_holdsOfTwo_192 ?_
        exact R_z rfl dX2_holdsOfTwo_193 (by decide) rfl (by unfold cwh; (repeat' split); all_goals first | (exfalso; omega) | exact (jb_t (decide_eq_true (by omega))).symm | exact (jb_f (fun hh => absurd (of_decide_eq_true hh) (by omega))).symm)
      · refine J_iconst dX2_holdsOfTwo_188 ?_
        refine E_goto 193 dX2_holdsOfTwo_189 rfl ?_
        exact R_z rfl dX2_holdsOfTwo_193 (by decide) rfl (by unfold cwh; (repeat' split); all_goals first | (exfalso; omega) | exact (jb_t (decide_eq_true (by omega))).symm | exact (jb_f (fun hh => absurd (of_decide_eq_true hh) (by omega))).symm)
  · refine L_i1 dX2_holdsOfTwo_180 ?_
    refine J_if_ne 188 dX2_holdsOfTwo_181 rfl (by omega) (fun c181 => ?_) (fun c181 => ?_)
    · refine J_iconst dX2_holdsOfTwo_188 ?_
      refine E_goto 193 dX2_holdsOfTwo_189 rfl ?_
      exact R_z rfl dX2_holdsOfTwo_193 (by decide) rfl (by unfold cwh; (repeat' split); all_goals first | (exfalso; omega) | exact (jb_t (decide_eq_true (by omega))).symm | exact (jb_f (fun hh => absurd (of_decide_eq_true hh) (by omega))).symm)
    · refine L_i2 dX2_holdsOfTwo_184 ?_
      refine J_if_eq 192 dX2_holdsOfTwo_185 rfl (by omega) (fun c185 => ?_) (fun c185 => ?_)
      · refine J_iconst dX2_holdsOfTwo_192 ?_
        exact R_z rfl dX2_holdsOfTwo_193 (by decide) rfl (by unfold cwh; (repeat' split); all_goals first | (exfalso; omega) | exact (jb_t (decide_eq_true (by omega))).symm | exact (jb_f (fun hh => absurd (of_decide_eq_true hh) (by omega))).symm)
      · refine J_iconst dX2_holdsOfTwo_188 ?_
        refine E_goto 193 dX2_holdsOfTwo_189 rfl ?_
        exact R_z rfl dX2_holdsOfTwo_193 (by decide) rfl (by unfold cwh; (repeat' split); all_goals first | (exfalso; omega) | exact (jb_t (decide_eq_true (by omega))).symm | exact (jb_f (fun hh => absurd (of_decide_eq_true hh) (by omega))).symm)
  · refine L_i1 dX2_holdsOfTwo_180 ?_
    refine J_if_ne 188 dX2_holdsOfTwo_181 rfl (by omega) (fun c181 => ?_) (fun c181 => ?_)
    · refine J_iconst dX2_holdsOfTwo_188 ?_
      refine E_goto 193 dX2_holdsOfTwo_189 rfl ?_
      exact R_z rfl dX2_holdsOfTwo_193 (by decide) rfl (by unfold cwh; (repeat' split); all_goals first | (exfalso; omega) | exact (jb_t (decide_eq_true (by omega))).symm | exact (jb_f (fun hh => absurd (of_decide_eq_true hh) (by omega))).symm)
    · refine L_i2 dX2_holdsOfTwo_184 ?_
      refine J_if_eq 192 dX2_holdsOfTwo_185 rfl (by omega) (fun c185 => ?_) (fun c185 => ?_)
      · refine J_iconst dX2_holdsOfTwo_192 ?_
        exact R_z rfl dX2_holdsOfTwo_193 (by decide) rfl (by unfold cwh; (repeat' split); all_goals first | (exfalso; omega) | exact (jb_t (decide_eq_true (by omega))).symm | exact (jb_f (fun hh => absurd (of_decide_eq_true hh) (by omega))).symm)
      · refine J_iconst dX2_holdsOfTwo_188 ?_
        refine E_goto 193 dX2_holdsOfTwo_189 rfl ?_
        exact R_z rfl dX2_holdsOfTwo_193 (by decide) rfl (by unfold cwh; (repeat' split); all_goals first | (exfalso; omega) | exact (jb_t (decide_eq_true (by omega))).symm | exact (jb_f (fun hh => absurd (of_decide_eq_true hh) (by omega))).symm)
  · refine L_i1 dX2_holdsOfTwo_180 ?_
    refine J_if_ne 188 dX2_holdsOfTwo_181 rfl (by omega) (fun c181 => ?_) (fun c181 => ?_)
    · refine J_iconst dX2_holdsOfTwo_188 ?_
      refine E_goto 193 dX2_holdsOfTwo_189 rfl ?_
      exact R_z rfl dX2_holdsOfTwo_193 (by decide) rfl (by unfold cwh; (repeat' split); all_goals first | (exfalso; omega) | exact (jb_t (decide_eq_true (by omega))).symm | exact (jb_f (fun hh => absurd (of_decide_eq_true hh) (by omega))).symm)
    · refine L_i2 dX2_holdsOfTwo_184 ?_
      refine J_if_eq 192 dX2_holdsOfTwo_185 rfl (by omega) (fun c185 => ?_) (fun c185 => ?_)
      · refine J_iconst dX2_holdsOfTwo_192 ?_
        exact R_z rfl dX2_holdsOfTwo_193 (by decide) rfl (by unfold cwh; (repeat' split); all_goals first | (exfalso; omega) | exact (jb_t (decide_eq_true (by omega))).symm | exact (jb_f (fun hh => absurd (of_decide_eq_true hh) (by omega))).symm)
      · refine J_iconst dX2_holdsOfTwo_188 ?_
        refine E_goto 193 dX2_holdsOfTwo_189 rfl ?_
        exact R_z rfl dX2_holdsOfTwo_193 (by decide) rfl (by unfold cwh; (repeat' split); all_goals first | (exfalso; omega) | exact (jb_t (decide_eq_true (by omega))).symm | exact (jb_f (fun hh => absurd (of_decide_eq_true hh) (by omega))).symm)
  · refine L_i1 dX2_holdsOfTwo_180 ?_
    refine J_if_ne 188 dX2_holdsOfTwo_181 rfl (by omega) (fun c181 => ?_) (fun c181 => ?_)
    · refine J_iconst dX2_holdsOfTwo_188 ?_
      refine E_goto 193 dX2_holdsOfTwo_189 rfl ?_
      exact R_z rfl dX2_holdsOfTwo_193 (by decide) rfl (by unfold cwh; (repeat' split); all_goals first | (exfalso; omega) | exact (jb_t (decide_eq_true (by omega))).symm | exact (jb_f (fun hh => absurd (of_decide_eq_true hh) (by omega))).symm)
    · refine L_i2 dX2_holdsOfTwo_184 ?_
      refine J_if_eq 192 dX2_holdsOfTwo_185 rfl (by omega) (fun c185 => ?_) (fun c185 => ?_)
      · refine J_iconst dX2_holdsOfTwo_192 ?_
        exact R_z rfl dX2_holdsOfTwo_193 (by decide) rfl (by unfold cwh; (repeat' split); all_goals first | (exfalso; omega) | exact (jb_t (decide_eq_true (by omega))).symm | exact (jb_f (fun hh => absurd (of_decide_eq_true hh) (by omega))).symm)
      · refine J_iconst dX2_holdsOfTwo_188 ?_
        refine E_goto 193 dX2_holdsOfTwo_189 rfl ?_
        exact R_z rfl dX2_holdsOfTwo_193 (by decide) rfl (by unfold cwh; (repeat' split); all_goals first | (exfalso; omega) | exact (jb_t (decide_eq_true (by omega))).symm | exact (jb_f (fun hh => absurd (of_decide_eq_true hh) (by omega))).symm)
  · refine L_i1 dX2_holdsOfTwo_180 ?_
    refine J_if_ne 188 dX2_holdsOfTwo_181 rfl (by omega) (fun c181 => ?_) (fun c181 => ?_)
    · refine J_iconst dX2_holdsOfTwo_188 ?_
      refine E_goto 193 dX2_holdsOfTwo_189 rfl ?_
      exact R_z rfl dX2_holdsOfTwo_193 (by decide) rfl (by unfold cwh; (repeat' split); all_goals first | (exfalso; omega) | exact (jb_t (decide_eq_true (by omega))).symm | exact (jb_f (fun hh => absurd (of_decide_eq_true hh) (by omega))).symm)
    · refine L_i2 dX2_holdsOfTwo_184 ?_
      refine J_if_eq 192 dX2_holdsOfTwo_185 rfl (by omega) (fun c185 => ?_) (fun c185 => ?_)
      · refine J_iconst dX2_holdsOfTwo_192 ?_
        exact R_z rfl dX2_holdsOfTwo_193 (by decide) rfl (by unfold cwh; (repeat' split); all_goals first | (exfalso; omega) | exact (jb_t (decide_eq_true (by omega))).symm | exact (jb_f (fun hh => absurd (of_decide_eq_true hh) (by omega))).symm)
      · refine J_iconst dX2_holdsOfTwo_188 ?_
        refine E_goto 193 dX2_holdsOfTwo_189 rfl ?_
        exact R_z rfl dX2_holdsOfTwo_193 (by decide) rfl (by unfold cwh; (repeat' split); all_goals first | (exfalso; omega) | exact (jb_t (decide_eq_true (by omega))).symm | exact (jb_f (fun hh => absurd (of_decide_eq_true hh) (by omega))).symm)
  · refine L_i1 dX2_holdsOfTwo_100 ?_
    refine L_i2 dX2_holdsOfTwo_101 ?_
    refine J_icmp_ge 109 dX2_holdsOfTwo_102 rfl (by omega) (by omega) (fun c102 => ?_) (fun c102 => ?_)
    · refine J_iconst dX2_holdsOfTwo_109 ?_
      exact R_z rfl dX2_holdsOfTwo_110 (by decide) rfl (by unfold cwh; (repeat' split); all_goals first | (exfalso; omega) | exact (jb_t (decide_eq_true (by omega))).symm | exact (jb_f (fun hh => absurd (of_decide_eq_true hh) (by omega))).symm)
    · refine J_iconst dX2_holdsOfTwo_105 ?_
      refine E_goto 110 dX2_holdsOfTwo_106 rfl ?_
      exact R_z rfl dX2_holdsOfTwo_110 (by decide) rfl (by unfold cwh; (repeat' split); all_goals first | (exfalso; omega) | exact (jb_t (decide_eq_true (by omega))).symm | exact (jb_f (fun hh => absurd (of_decide_eq_true hh) (by omega))).symm)
  · refine L_i1 dX2_holdsOfTwo_122 ?_
    refine L_i2 dX2_holdsOfTwo_123 ?_
    refine J_icmp_le 131 dX2_holdsOfTwo_124 rfl (by omega) (by omega) (fun c124 => ?_) (fun c124 => ?_)
    · refine J_iconst dX2_holdsOfTwo_131 ?_
      exact R_z rfl dX2_holdsOfTwo_132 (by decide) rfl (by unfold cwh; (repeat' split); all_goals first | (exfalso; omega) | exact (jb_t (decide_eq_true (by omega))).symm | exact (jb_f (fun hh => absurd (of_decide_eq_true hh) (by omega))).symm)
    · refine J_iconst dX2_holdsOfTwo_127 ?_
      refine E_goto 132 dX2_holdsOfTwo_128 rfl ?_
      exact R_z rfl dX2_holdsOfTwo_132 (by decide) rfl (by unfold cwh; (repeat' split); all_goals first | (exfalso; omega) | exact (jb_t (decide_eq_true (by omega))).symm | exact (jb_f (fun hh => absurd (of_decide_eq_true hh) (by omega))).symm)
  · refine L_i1 dX2_holdsOfTwo_144 ?_
    refine L_i2 dX2_holdsOfTwo_145 ?_
    refine J_icmp_ne 153 dX2_holdsOfTwo_146 rfl (by omega) (by omega) (fun c146 => ?_) (fun c146 => ?_)
    · refine J_iconst dX2_holdsOfTwo_153 ?_
      exact R_z rfl dX2_holdsOfTwo_154 (by decide) rfl (by unfold cwh; (repeat' split); all_goals first | (exfalso; omega) | exact (jb_t (decide_eq_true (by omega))).symm | exact (jb_f (fun hh => absurd (of_decide_eq_true hh) (by omega))).symm)
    · refine J_iconst dX2_holdsOfTwo_149 ?_
      refine E_goto 154 dX2_holdsOfTwo_150 rfl ?_
      exact R_z rfl dX2_holdsOfTwo_154 (by decide) rfl (by unfold cwh; (repeat' split); all_goals first | (exfalso; omega) | exact (jb_t (decide_eq_true (by omega))).symm | exact (jb_f (fun hh => absurd (of_decide_eq_true hh) (by omega))).symm)
  · refine L_i1 dX2_holdsOfTwo_155 ?_
    refine L_i2 dX2_holdsOfTwo_156 ?_
    refine J_icmp_eq 164 dX2_holdsOfTwo_157 rfl (by omega) (by omega) (fun c157 => ?_) (fun c157 => ?_)
    · refine J_iconst dX2_holdsOfTwo_164 ?_
      exact R_z rfl dX2_holdsOfTwo_165 (by decide) rfl (by unfold cwh; (repeat' split); all_goals first | (exfalso; omega) | exact (jb_t (decide_eq_true (by omega))).symm | exact (jb_f (fun hh => absurd (of_decide_eq_true hh) (by omega))).symm)
    · refine J_iconst dX2_holdsOfTwo_160 ?_
      refine E_goto 165 dX2_holdsOfTwo_161 rfl ?_
      exact R_z rfl dX2_holdsOfTwo_165 (by decide) rfl (by unfold cwh; (repeat' split); all_goals first | (exfalso; omega) | exact (jb_t (decide_eq_true (by omega))).symm | exact (jb_f (fun hh => absurd (of_decide_eq_true hh) (by omega))).symm)
  · refine L_i1 dX2_holdsOfTwo_180 ?_
    refine J_if_ne 188 dX2_holdsOfTwo_181 rfl (by omega) (fun c181 => ?_) (fun c181 => ?_)
    · refine J_iconst dX2_holdsOfTwo_188 ?_
      refine E_goto 193 dX2_holdsOfTwo_189 rfl ?_
      exact R_z rfl dX2_holdsOfTwo_193 (by decide) rfl (by unfold cwh; (repeat' split); all_goals first | (exfalso; omega) | exact (jb_t (decide_eq_true (by omega))).symm | exact (jb_f (fun hh => absurd (of_decide_eq_true hh) (by omega))).symm)
    · refine L_i2 dX2_holdsOfTwo_184 ?_
      refine J_if_eq 192 dX2_holdsOfTwo_185 rfl (by omega) (fun c185 => ?_) (fun c185 => ?_)
      · refine J_iconst dX2_holdsOfTwo_192 ?_
        exact R_z rfl dX2_holdsOfTwo_193 (by decide) rfl (by unfold cwh; (repeat' split); all_goals first | (exfalso; omega) | exact (jb_t (decide_eq_true (by omega))).symm | exact (jb_f (fun hh => absurd (of_decide_eq_true hh) (by omega))).symm)
      · refine J_iconst dX2_holdsOfTwo_188 ?_
        refine E_goto 193 dX2_holdsOfTwo_189 rfl ?_
        exact R_z rfl dX2_holdsOfTwo_193 (by decide) rfl (by unfold cwh; (repeat' split); all_goals first | (exfalso; omega) | exact (jb_t (decide_eq_true (by omega))).symm | exact (jb_f (fun hh => absurd (of_decide_eq_true hh) (by omega))).symm)
  · refine L_i1 dX2_holdsOfTwo_180 ?_
    refine J_if_ne 188 dX2_holdsOfTwo_181 rfl (by omega) (fun c181 => ?_) (fun c181 => ?_)
    · refine J_iconst dX2_holdsOfTwo_188 ?_
      refine E_goto 193 dX2_holdsOfTwo_189 rfl ?_
      exact R_z rfl dX2_holdsOfTwo_193 (by decide) rfl (by unfold cwh; (repeat' split); all_goals first | (exfalso; omega) | exact (jb_t (decide_eq_true (by omega))).symm | exact (jb_f (fun hh => absurd (of_decide_eq_true hh) (by omega))).symm)
    · refine L_i2 dX2_holdsOfTwo_184 ?_
      refine J_if_eq 192 dX2_holdsOfTwo_185 rfl (by omega) (fun c185 => ?_) (fun c185 => ?_)
      · refine J_iconst dX2_holdsOfTwo_192 ?_
        exact R_z rfl dX2_holdsOfTwo_193 (by decide) rfl (by unfold cwh; (repeat' split); all_goals first | (exfalso; omega) | exact (jb_t (decide_eq_true (by omega))).symm | exact (jb_f (fun hh => absurd (of_decide_eq_true hh) (by omega))).symm)
      · refine J_iconst dX2_holdsOfTwo_188 ?_
        refine E_goto 193 dX2_holdsOfTwo_189 rfl ?_
        exact R_z rfl dX2_holdsOfTwo_193 (by decide) rfl (by unfold cwh; (repeat' split); all_goals first | (exfalso; omega) | exact (jb_t (decide_eq_true (by omega))).symm | exact (jb_f (fun hh => absurd (of_decide_eq_true hh) (by omega))).symm)
  · refine L_i1 dX2_holdsOfTwo_180 ?_
    refine J_if_ne 188 dX2_holdsOfTwo_181 rfl (by omega) (fun c181 => ?_) (fun c181 => ?_)
    · refine J_iconst dX2_holdsOfTwo_188 ?_
      refine E_goto 193 dX2_holdsOfTwo_189 rfl ?_
      exact R_z rfl dX2_holdsOfTwo_193 (by decide) rfl (by unfold cwh; (repeat' split); all_goals first | (exfalso; omega) | exact (jb_t (decide_eq_true (by omega))).symm | exact (jb_f (fun hh => absurd (of_decide_eq_true hh) (by omega))).symm)
    · refine L_i2 dX2_holdsOfTwo_184 ?_
      refine J_if_eq 192 dX2_holdsOfTwo_185 rfl (by omega) (fun c185 => ?_) (fun c185 => ?_)
      · refine J_iconst dX2_holdsOfTwo_192 ?_
        exact R_z rfl dX2_holdsOfTwo_193 (by decide) rfl (by unfold cwh; (repeat' split); all_goals first | (exfalso; omega) | exact (jb_t (decide_eq_true (by omega))).symm | exact (jb_f (fun hh => absurd (of_decide_eq_true hh) (by omega))).symm)
      · refine J_iconst dX2_holdsOfTwo_188 ?_
        refine E_goto 193 dX2_holdsOfTwo_189 rfl ?_
        exact R_z rfl dX2_holdsOfTwo_193 (by decide) rfl (by unfold cwh; (repeat' split); all_goals first | (exfalso; omega) | exact (jb_t (decide_eq_true (by omega))).symm | exact (jb_f (fun hh => absurd (of_decide_eq_true hh) (by omega))).symm)
  · refine L_i1 dX2_holdsOfTwo_180 ?_
    refine J_if_ne 188 dX2_holdsOfTwo_181 rfl (by omega) (fun c181 => ?_) (fun c181 => ?_)
    · refine J_iconst dX2_holdsOfTwo_188 ?_
      refine E_goto 193 dX2_holdsOfTwo_189 rfl ?_
      exact R_z rfl dX2_holdsOfTwo_193 (by decide) rfl (by unfold cwh; (repeat' split); all_goals first | (exfalso; omega) | exact (jb_t (decide_eq_true (by omega))).symm | exact (jb_f (fun hh => absurd (of_decide_eq_true hh) (by omega))).symm)
    · refine L_i2 dX2_holdsOfTwo_184 ?_
      refine J_if_eq 192 dX2_holdsOfTwo_185 rfl (by omega) (fun c185 => ?_) (fun c185 => ?_)
      · refine J_iconst dX2_holdsOfTwo_192 ?_
        exact R_z rfl dX2_holdsOfTwo_193 (by decide) rfl (by unfold cwh; (repeat' split); all_goals first | (exfalso; omega) | exact (jb_t (decide_eq_true (by omega))).symm | exact (jb_f (fun hh => absurd (of_decide_eq_true hh) (by omega))).symm)
      · refine J_iconst dX2_holdsOfTwo_188 ?_
        refine E_goto 193 dX2_holdsOfTwo_189 rfl ?_
        exact R_z rfl dX2_holdsOfTwo_193 (by decide) rfl (by unfold cwh; (repeat' split); all_goals first | (exfalso; omega) | exact (jb_t (decide_eq_true (by omega))).symm | exact (jb_f (fun hh => absurd (of_decide_eq_true hh) (by omega))).symm)
  · refine L_i1 dX2_holdsOfTwo_180 ?_
    refine J_if_ne 188 dX2_holdsOfTwo_181 rfl (by omega) (fun c181 => ?_) (fun c181 => ?_)
    · refine J_iconst dX2_holdsOfTwo_188 ?_
      refine E_goto 193 dX2_holdsOfTwo_189 rfl ?_
      exact R_z rfl dX2_holdsOfTwo_193 (by decide) rfl (by unfold cwh; (repeat' split); all_goals first | (exfalso; omega) | exact (jb_t (decide_eq_true (by omega))).symm | exact (jb_f (fun hh => absurd (of_decide_eq_true hh) (by omega))).symm)
    · refine L_i2 dX2_holdsOfTwo_184 ?_
      refine J_if_eq 192 dX2_holdsOfTwo_185 rfl (by omega) (fun c185 => ?_) (fun c185 => ?_)
      · refine J_iconst dX2_holdsOfTwo_192 ?_
        exact R_z rfl dX2_holdsOfTwo_193 (by decide) rfl (by unfold cwh; (repeat' split); all_goals first | (exfalso; omega) | exact (jb_t (decide_eq_true (by omega))).symm | exact (jb_f (fun hh => absurd (of_decide_eq_true hh) (by omega))).symm)
      · refine J_iconst dX2_holdsOfTwo_188 ?_
        refine E_goto 193 dX2_holdsOfTwo_189 rfl ?_
        exact R_z rfl dX2_holdsOfTwo_193 (by decide) rfl (by unfold cwh; (repeat' split); all_goals first | (exfalso; omega) | exact (jb_t (decide_eq_true (by omega))).symm | exact (jb_f (fun hh => absurd (of_decide_eq_true hh) (by omega))).symm)
  · refine L_i1 dX2_holdsOfTwo_180 ?_
    refine J_if_ne 188 dX2_holdsOfTwo_181 rfl (by omega) (fun c181 => ?_) (fun c181 => ?_)
    · refine J_iconst dX2_holdsOfTwo_188 ?_
      refine E_goto 193 dX2_holdsOfTwo_189 rfl ?_
      exact R_z rfl dX2_holdsOfTwo_193 (by decide) rfl (by unfold cwh; (repeat' split); all_goals first | (exfalso; omega) | exact (jb_t (decide_eq_true (by omega))).symm | exact (jb_f (fun hh => absurd (of_decide_eq_true hh) (by omega))).symm)
    · refine L_i2 dX2_holdsOfTwo_184 ?_
      refine J_if_eq 192 dX2_holdsOfTwo_185 rfl (by omega) (fun c185 => ?_) (fun c185 => ?_)
      · refine J_iconst dX2_holdsOfTwo_192 ?_
        exact R_z rfl dX2_holdsOfTwo_193 (by decide) rfl (by unfold cwh; (repeat' split); all_goals first | (exfalso; omega) | exact (jb_t (decide_eq_true (by omega))).symm | exact (jb_f (fun hh => absurd (of_decide_eq_true hh) (by omega))).symm)
      · refine J_iconst dX2_holdsOfTwo_188 ?_
        refine E_goto 193 dX2_holdsOfTwo_189 rfl ?_
        exact R_z rfl dX2_holdsOfTwo_193 (by decide) rfl (by unfold cwh; (repeat' split); all_goals first | (exfalso; omega) | exact (jb_t (decide_eq_true (by omega))).symm | exact (jb_f (fun hh => absurd (of_decide_eq_true hh) (by omega))).symm)
  · refine L_i1 dX2_holdsOfTwo_180 ?_
    refine J_if_ne 188 dX2_holdsOfTwo_181 rfl (by omega) (fun c181 => ?_) (fun c181 => ?_)
    · refine J_iconst dX2_holdsOfTwo_188 ?_
      refine E_goto 193 dX2_holdsOfTwo_189 rfl ?_
      exact R_z rfl dX2_holdsOfTwo_193 (by decide) rfl (by unfold cwh; (repeat' split); all_goals first | (exfalso; omega) | exact (jb_t (decide_eq_true (by omega))).symm | exact (jb_f (fun hh => absurd (of_decide_eq_true hh) (by omega))).symm)
    · refine L_i2 dX2_holdsOfTwo_184 ?_
      refine J_if_eq 192 dX2_holdsOfTwo_185 rfl (by omega) (fun c185 => ?_) (fun c185 => ?_)
      · refine J_iconst dX2_holdsOfTwo_192 ?_
        exact R_z rfl dX2_holdsOfTwo_193 (by decide) rfl (by unfold cwh; (repeat' split); all_goals first | (exfalso; omega) | exact (jb_t (decide_eq_true (by omega))).symm | exact (jb_f (fun hh => absurd (of_decide_eq_true hh) (by omega))).symm)
      · refine J_iconst dX2_holdsOfTwo_188 ?_
        refine E_goto 193 dX2_holdsOfTwo_189 rfl ?_
        exact R_z rfl dX2_holdsOfTwo_193 (by decide) rfl (by unfold cwh; (repeat' split); all_goals first | (exfalso; omega) | exact (jb_t (decide_eq_true (by omega))).symm | exact (jb_f (fun hh => absurd (of_decide_eq_true hh) (by omega))).symm)
  · refine L_i1 dX2_holdsOfTwo_111 ?_
    refine L_i2 dX2_holdsOfTwo_112 ?_
    refine J_icmp_gt 120 dX2_holdsOfTwo_113 rfl (by omega) (by omega) (fun c113 => ?_) (fun c113 => ?_)
    · refine J_iconst dX2_holdsOfTwo_120 ?_
      exact R_z rfl dX2_holdsOfTwo_121 (by decide) rfl (by unfold cwh; (repeat' split); all_goals first | (exfalso; omega) | exact (jb_t (decide_eq_true (by omega))).symm | exact (jb_f (fun hh => absurd (of_decide_eq_true hh) (by omega))).symm)
    · refine J_iconst dX2_holdsOfTwo_116 ?_
      refine E_goto 121 dX2_holdsOfTwo_117 rfl ?_
      exact R_z rfl dX2_holdsOfTwo_121 (by decide) rfl (by unfold cwh; (repeat' split); all_goals first | (exfalso; omega) | exact (jb_t (decide_eq_true (by omega))).symm | exact (jb_f (fun hh => absurd (of_decide_eq_true hh) (by omega))).symm)
  · refine L_i1 dX2_holdsOfTwo_133 ?_
    refine L_i2 dX2_holdsOfTwo_134 ?_
    refine J_icmp_lt 142 dX2_holdsOfTwo_135 rfl (by omega) (by omega) (fun c135 => ?_) (fun c135 => ?_)
    · refine J_iconst dX2_holdsOfTwo_142 ?_
      exact R_z rfl dX2_holdsOfTwo_143 (by decide) rfl (by unfold cwh; (repeat' split); all_goals first | (exfalso; omega) | exact (jb_t (decide_eq_true (by omega))).symm | exact (jb_f (fun hh => absurd (of_decide_eq_true hh) (by omega))).symm)
    · refine J_iconst dX2_holdsOfTwo_138 ?_
      refine E_goto 143 dX2_holdsOfTwo_139 rfl ?_
      exact R_z rfl dX2_holdsOfTwo_143 (by decide) rfl (by unfold cwh; (repeat' split); all_goals first | (exfalso; omega) | exact (jb_t (decide_eq_true (by omega))).symm | exact (jb_f (fun hh => absurd (of_decide_eq_true hh) (by omega))).symm)
  · refine L_i1 dX2_holdsOfTwo_180 ?_
    refine J_if_ne 188 dX2_holdsOfTwo_181 rfl (by omega) (fun c181 => ?_) (fun c181 => ?_)
    · refine J_iconst dX2_holdsOfTwo_188 ?_
      refine E_goto 193 dX2_holdsOfTwo_189 rfl ?_
      exact R_z rfl dX2_holdsOfTwo_193 (by decide) rfl (by unfold cwh; (repeat' split); all_goals first | (exfalso; omega) | exact (jb_t (decide_eq_true (by omega))).symm | exact (jb_f (fun hh => absurd (of_decide_eq_true hh) (by omega))).symm)
    · refine L_i2 dX2_holdsOfTwo_184 ?_
      refine J_if_eq 192 dX2_holdsOfTwo_185 rfl (by omega) (fun c185 => ?_) (fun c185 => ?_)
      · refine J_iconst dX2_holdsOfTwo_192 ?_
        exact R_z rfl dX2_holdsOfTwo_193 (by decide) rfl (by unfold cwh; (repeat' split); all_goals first | (exfalso; omega) | exact (jb_t (decide_eq_true (by omega))).symm | exact (jb_f (fun hh => absurd (of_decide_eq_true hh) (by omega))).symm)
      · refine J_iconst dX2_holdsOfTwo_188 ?_
        refine E_goto 193 dX2_holdsOfTwo_189 rfl ?_
        exact R_z rfl dX2_holdsOfTwo_193 (by decide) rfl (by unfold cwh; (repeat' split); all_goals first | (exfalso; omega) | exact (jb_t (decide_eq_true (by omega))).symm | exact (jb_f (fun hh => absurd (of_decide_eq_true hh) (by omega))).symm)

theorem mul_BB {l r : Int} (h1 : -1000000 ≤ l ∧ l ≤ 1000000) (h2 : -1000000 ≤ r ∧ r ≤ 1000000) : -1000000000000 ≤ l * r ∧ l * r ≤ 1000000000000 := by
  have h3 : (l * r).natAbs ≤ 1000000 * 1000000 := by
    rw [Int.natAbs_mul]
    exact Nat.mul_le_mul (by omega) (by omega)
  omega
set_option maxRecDepth 100000 in
theorem qX2_ofTwo {hp : List mx_C} {s : Int} (h_s : -2147483648 ≤ s ∧ s < 2147483648) {l r : Int} (h_l : -1000000 ≤ l ∧ l ≤ 1000000) (h_r : -1000000 ≤ r ∧ r ≤ 1000000) : SpF yX2_ofTwo cX2_ofTwo 3 (some .int) 1 [.int (jI s), .int (jI l), .int (jI r)] hp (.int (jI (cw2 s l r))) hp := by
  have hm1 : -1000000000000 ≤ l * r ∧ l * r ≤ 1000000000000 := mul_BB h_l h_r
  refine Sp.of [.int (jI s), .int (jI l), .int (jI r)] (by decide) (by simp) (Nat.le_of_ble_eq_true rfl) rfl (fun E => ?_)
  refine L_i0 dX2_ofTwo_0 ?_
  refine J_tab4 32 44 56 69 81 dX2_ofTwo_1 (by omega) rfl rfl rfl rfl rfl rfl (fun c1 => ?_) (fun c1 => ?_) (fun c1 => ?_) (fun c1 => ?_) (fun c1 => ?_)
  · refine L_i1 dX2_ofTwo_32 ?_
    refine L_i2 dX2_ofTwo_33 ?_
    refine J_iadd dX2_ofTwo_34 ?_
    refine J_i2l dX2_ofTwo_35 (by omega) ?_
    refine J_ldc (-1000000) dX2_ofTwo_36 kX2_67 (by decide) ?_
    refine J_ldc (1000000) dX2_ofTwo_38 kX2_68 (by decide) ?_
    refine C_s3F vX2_69 dX2_ofTwo_40 (qX10_within (by omega) (by decide) (by decide)) (Nat.le_of_ble_eq_true rfl) (by decide) ?_
    exact R_i rfl dX2_ofTwo_43 rfl (by unfold cw2; first | (rw [if_pos (by omega)]; done) | (rw [if_neg (by omega), if_pos (by omega)]; done) | (rw [if_neg (by omega), if_neg (by omega), if_pos (by omega)]; done) | (rw [if_neg (by omega), if_neg (by omega), if_neg (by omega), if_pos (by omega)]; first | (rw [if_pos (by omega)]; done) | (rw [if_neg (by omega)]; done)) | (rw [if_neg (by omega), if_neg (by omega), if_neg (by omega), if_neg (by omega)]; first | exact (jb_t c87).symm | exact (jb_f c87).symm))
  · refine L_i1 dX2_ofTwo_44 ?_
    refine L_i2 dX2_ofTwo_45 ?_
    refine J_isub dX2_ofTwo_46 ?_
    refine J_i2l dX2_ofTwo_47 (by omega) ?_
    refine J_ldc (-1000000) dX2_ofTwo_48 kX2_67 (by decide) ?_
    refine J_ldc (1000000) dX2_ofTwo_50 kX2_68 (by decide) ?_
    refine C_s3F vX2_69 dX2_ofTwo_52 (qX10_within (by omega) (by decide) (by decide)) (Nat.le_of_ble_eq_true rfl) (by decide) ?_
    exact R_i rfl dX2_ofTwo_55 rfl (by unfold cw2; first | (rw [if_pos (by omega)]; done) | (rw [if_neg (by omega), if_pos (by omega)]; done) | (rw [if_neg (by omega), if_neg (by omega), if_pos (by omega)]; done) | (rw [if_neg (by omega), if_neg (by omega), if_neg (by omega), if_pos (by omega)]; first | (rw [if_pos (by omega)]; done) | (rw [if_neg (by omega)]; done)) | (rw [if_neg (by omega), if_neg (by omega), if_neg (by omega), if_neg (by omega)]; first | exact (jb_t c87).symm | exact (jb_f c87).symm))
  · refine L_i1 dX2_ofTwo_56 ?_
    refine J_i2l dX2_ofTwo_57 (by omega) ?_
    refine L_i2 dX2_ofTwo_58 ?_
    refine J_i2l dX2_ofTwo_59 (by omega) ?_
    refine J_lmul dX2_ofTwo_60 ?_
    refine J_ldc (-1000000) dX2_ofTwo_61 kX2_67 (by decide) ?_
    refine J_ldc (1000000) dX2_ofTwo_63 kX2_68 (by decide) ?_
    refine C_s3F vX2_69 dX2_ofTwo_65 (qX10_within (by omega) (by decide) (by decide)) (Nat.le_of_ble_eq_true rfl) (by decide) ?_
    exact R_i rfl dX2_ofTwo_68 rfl (by unfold cw2; first | (rw [if_pos (by omega)]; done) | (rw [if_neg (by omega), if_pos (by omega)]; done) | (rw [if_neg (by omega), if_neg (by omega), if_pos (by omega)]; done) | (rw [if_neg (by omega), if_neg (by omega), if_neg (by omega), if_pos (by omega)]; first | (rw [if_pos (by omega)]; done) | (rw [if_neg (by omega)]; done)) | (rw [if_neg (by omega), if_neg (by omega), if_neg (by omega), if_neg (by omega)]; first | exact (jb_t c87).symm | exact (jb_f c87).symm))
  · refine L_i2 dX2_ofTwo_69 ?_
    refine J_if_ne 77 dX2_ofTwo_70 rfl (by omega) (fun c70 => ?_) (fun c70 => ?_)
    · refine L_i1 dX2_ofTwo_77 ?_
      refine L_i2 dX2_ofTwo_78 ?_
      refine J_idiv dX2_ofTwo_79 (by omega) (by omega) (by omega) ?_
      exact R_i rfl dX2_ofTwo_80 rfl (by unfold cw2; first | (rw [if_pos (by omega)]; done) | (rw [if_neg (by omega), if_pos (by omega)]; done) | (rw [if_neg (by omega), if_neg (by omega), if_pos (by omega)]; done) | (rw [if_neg (by omega), if_neg (by omega), if_neg (by omega), if_pos (by omega)]; first | (rw [if_pos (by omega)]; done) | (rw [if_neg (by omega)]; done)) | (rw [if_neg (by omega), if_neg (by omega), if_neg (by omega), if_neg (by omega)]; first | exact (jb_t c87).symm | exact (jb_f c87).symm))
    · refine J_iconst dX2_ofTwo_73 ?_
      refine E_goto 80 dX2_ofTwo_74 rfl ?_
      exact R_i rfl dX2_ofTwo_80 rfl (by unfold cw2; first | (rw [if_pos (by omega)]; done) | (rw [if_neg (by omega), if_pos (by omega)]; done) | (rw [if_neg (by omega), if_neg (by omega), if_pos (by omega)]; done) | (rw [if_neg (by omega), if_neg (by omega), if_neg (by omega), if_pos (by omega)]; first | (rw [if_pos (by omega)]; done) | (rw [if_neg (by omega)]; done)) | (rw [if_neg (by omega), if_neg (by omega), if_neg (by omega), if_neg (by omega)]; first | exact (jb_t c87).symm | exact (jb_f c87).symm))
  · refine L_i0 dX2_ofTwo_81 ?_
    refine L_i1 dX2_ofTwo_82 ?_
    refine L_i2 dX2_ofTwo_83 ?_
    refine C_s3F vX2_75 dX2_ofTwo_84 (qX2_holdsOfTwo (by omega) (by omega) (by omega)) (Nat.le_of_ble_eq_true rfl) (by decide) ?_
    refine J_ifeqB 94 dX2_ofTwo_87 rfl (fun c87 => ?_) (fun c87 => ?_)
    · refine J_iconst dX2_ofTwo_94 ?_
      exact R_i rfl dX2_ofTwo_95 rfl (by unfold cw2; first | (rw [if_pos (by omega)]; done) | (rw [if_neg (by omega), if_pos (by omega)]; done) | (rw [if_neg (by omega), if_neg (by omega), if_pos (by omega)]; done) | (rw [if_neg (by omega), if_neg (by omega), if_neg (by omega), if_pos (by omega)]; first | (rw [if_pos (by omega)]; done) | (rw [if_neg (by omega)]; done)) | (rw [if_neg (by omega), if_neg (by omega), if_neg (by omega), if_neg (by omega)]; first | exact (jb_t c87).symm | exact (jb_f c87).symm))
    · refine J_iconst dX2_ofTwo_90 ?_
      refine E_goto 95 dX2_ofTwo_91 rfl ?_
      exact R_i rfl dX2_ofTwo_95 rfl (by unfold cw2; first | (rw [if_pos (by omega)]; done) | (rw [if_neg (by omega), if_pos (by omega)]; done) | (rw [if_neg (by omega), if_neg (by omega), if_pos (by omega)]; done) | (rw [if_neg (by omega), if_neg (by omega), if_neg (by omega), if_pos (by omega)]; first | (rw [if_pos (by omega)]; done) | (rw [if_neg (by omega)]; done)) | (rw [if_neg (by omega), if_neg (by omega), if_neg (by omega), if_neg (by omega)]; first | exact (jb_t c87).symm | exact (jb_f c87).symm))

set_option maxRecDepth 100000 in
theorem qX2_named {S T : Nat → Int → Int} {D : List mx_C} (hv : RV (S 14)) (hl : RLn (S 14)) {s n : Int} (h_s : 8 ≤ s ∧ s ≤ 14) (h_n : 1 ≤ n ∧ n ≤ 8) : SpF yX2_named cX2_named 3 (some .int) 1 [.int (jI s), .ref 13, .int (jI n)] (W5 S T D) (.int (jI (cnm (S 14) n s))) (W5 S T D) := by
  have ha := hv.2
  refine Sp.of [.int (jI s), .ref 13, .int (jI n)] (by decide) (by simp) (Nat.le_of_ble_eq_true rfl) rfl (fun E => ?_)
  refine L_i0 dX2_named_0 ?_
  refine J_tab6 40 47 45 52 60 66 72 dX2_named_1 (by omega) rfl rfl rfl rfl rfl rfl rfl rfl (fun c1 => ?_) (fun c1 => ?_) (fun c1 => ?_) (fun c1 => ?_) (fun c1 => ?_) (fun c1 => ?_) (fun c1 => ?_)
  · refine L_a1 dX2_named_40 ?_
    refine C_v0F vX2_34 dX2_named_41 (qX4_date) rfl rfl (Nat.le_of_ble_eq_true rfl) (by decide) ?_
    exact R_i rfl dX2_named_44 rfl (by unfold cnm; (repeat' split); all_goals first | rfl | omega)
  · refine L_a1 dX2_named_47 ?_
    refine C_v0F vX2_40 dX2_named_48 (qX4_places) rfl rfl (Nat.le_of_ble_eq_true rfl) (by decide) ?_
    exact R_i rfl dX2_named_51 rfl (by unfold cnm; (repeat' split); all_goals first | rfl | omega)
  · refine L_i2 dX2_named_45 ?_
    exact R_i rfl dX2_named_46 rfl (by unfold cnm; (repeat' split); all_goals first | rfl | omega)
  · refine L_a1 dX2_named_52 ?_
    refine C_v0F vX2_43 dX2_named_53 (qX4_standing) rfl rfl (Nat.le_of_ble_eq_true rfl) (by decide) ?_
    refine C_s1F vX2_46 dX2_named_56 (sJ_bitCount (by omega)) (Nat.le_of_ble_eq_true rfl) (by decide) ?_
    exact R_i rfl dX2_named_59 rfl (by unfold cnm; (repeat' split); all_goals first | rfl | omega)
  · refine L_a1 dX2_named_60 ?_
    refine L_i2 dX2_named_61 ?_
    refine C_v1F vX2_52 dX2_named_62 (qX4_since hv.1 (by omega)) rfl rfl (Nat.le_of_ble_eq_true rfl) (by decide) ?_
    exact R_i rfl dX2_named_65 rfl (by unfold cnm; (repeat' split); all_goals first | rfl | omega)
  · refine L_a1 dX2_named_66 ?_
    refine L_i2 dX2_named_67 ?_
    refine C_v1F vX2_55 dX2_named_68 (qX4_first hv.1 (by omega)) rfl rfl (Nat.le_of_ble_eq_true rfl) (by decide) ?_
    exact R_i rfl dX2_named_71 rfl (by unfold cnm; (repeat' split); all_goals first | rfl | omega)
  · refine L_a1 dX2_named_72 ?_
    refine C_v0F vX2_58 dX2_named_73 (qX4_latest hv.1 hl) rfl rfl (Nat.le_of_ble_eq_true rfl) (by decide) ?_
    exact R_i rfl dX2_named_76 rfl (by unfold cnm; (repeat' split); all_goals first | rfl | omega)

set_option maxRecDepth 100000 in
theorem qX2_ofOne51 {S T : Nat → Int → Int} {D : List mx_C} (hv : RV (S 14)) {v : Int} (h_v : -1000000 ≤ v ∧ v ≤ 1000000) : SpF yX2_ofOne cX2_ofOne 3 (some .int) 1 [.int (jI 51), .int (jI v), .ref 13] (W5 S T D) (.int (jI (cw1 (S 14) 51 v))) (W5 S T D) := by
  have ha := hv.2
  refine Sp.of [.int (jI 51), .int (jI v), .ref 13] (by decide) (by simp) (Nat.le_of_ble_eq_true rfl) rfl (fun E => ?_)
  refine L_i0 dX2_ofOne_0 ?_
  refine E_lookup (off := 35) 36 dX2_ofOne_1 (by decide) (by decide) rfl ?_
  refine L_i1 dX2_ofOne_36 ?_
  refine J_ineg dX2_ofOne_37 ?_
  exact R_i rfl dX2_ofOne_38 rfl (by unfold cw1; rw [if_pos rfl])

set_option maxRecDepth 100000 in
theorem qX2_ofOne23 {S T : Nat → Int → Int} {D : List mx_C} (hv : RV (S 14)) {v : Int} (h_v : -1000000 ≤ v ∧ v ≤ 1000000) : SpF yX2_ofOne cX2_ofOne 3 (some .int) 1 [.int (jI 23), .int (jI v), .ref 13] (W5 S T D) (.int (jI (cw1 (S 14) 23 v))) (W5 S T D) := by
  have ha := hv.2
  refine Sp.of [.int (jI 23), .int (jI v), .ref 13] (by decide) (by simp) (Nat.le_of_ble_eq_true rfl) rfl (fun E => ?_)
  refine L_i0 dX2_ofOne_0 ?_
  refine E_lookup (off := 38) 39 dX2_ofOne_1 (by decide) (by decide) rfl ?_
  refine L_i1 dX2_ofOne_39 ?_
  refine J_if_ne 47 dX2_ofOne_40 rfl (by omega) (fun c40 => ?_) (fun c40 => ?_)
  · refine J_iconst dX2_ofOne_47 ?_
    exact R_i rfl dX2_ofOne_48 rfl (by unfold cw1; rw [if_neg (by decide), if_pos rfl]; first | (done) | exact (jb_t (by assumption)).symm | exact (jb_f (by assumption)).symm)
  · refine J_iconst dX2_ofOne_43 ?_
    refine E_goto 48 dX2_ofOne_44 rfl ?_
    exact R_i rfl dX2_ofOne_48 rfl (by unfold cw1; rw [if_neg (by decide), if_pos rfl]; first | (done) | exact (jb_t (by assumption)).symm | exact (jb_f (by assumption)).symm)

set_option maxRecDepth 100000 in
theorem qX2_ofOne15 {S T : Nat → Int → Int} {D : List mx_C} (hv : RV (S 14)) {v : Int} (h_v : -1000000 ≤ v ∧ v ≤ 1000000) : SpF yX2_ofOne cX2_ofOne 3 (some .int) 1 [.int (jI 15), .int (jI v), .ref 13] (W5 S T D) (.int (jI (cw1 (S 14) 15 v))) (W5 S T D) := by
  have ha := hv.2
  refine Sp.of [.int (jI 15), .int (jI v), .ref 13] (by decide) (by simp) (Nat.le_of_ble_eq_true rfl) rfl (fun E => ?_)
  refine L_i0 dX2_ofOne_0 ?_
  refine E_lookup (off := 48) 49 dX2_ofOne_1 (by decide) (by decide) rfl ?_
  refine L_a2 dX2_ofOne_49 ?_
  refine L_i1 dX2_ofOne_50 ?_
  refine C_v1F vX2_61 dX2_ofOne_51 (qX4_holds hv.1 (by omega)) rfl rfl (Nat.le_of_ble_eq_true rfl) (by decide) ?_
  refine J_ifeqB 61 dX2_ofOne_54 rfl (fun c54 => ?_) (fun c54 => ?_)
  · refine J_iconst dX2_ofOne_61 ?_
    exact R_i rfl dX2_ofOne_62 rfl (by unfold cw1; rw [if_neg (by decide), if_neg (by decide), if_pos rfl]; first | (done) | exact (jb_t (by assumption)).symm | exact (jb_f (by assumption)).symm)
  · refine J_iconst dX2_ofOne_57 ?_
    refine E_goto 62 dX2_ofOne_58 rfl ?_
    exact R_i rfl dX2_ofOne_62 rfl (by unfold cw1; rw [if_neg (by decide), if_neg (by decide), if_pos rfl]; first | (done) | exact (jb_t (by assumption)).symm | exact (jb_f (by assumption)).symm)

set_option maxRecDepth 100000 in
theorem qX2_ofOne16 {S T : Nat → Int → Int} {D : List mx_C} (hv : RV (S 14)) {v : Int} (h_v : -1000000 ≤ v ∧ v ≤ 1000000) : SpF yX2_ofOne cX2_ofOne 3 (some .int) 1 [.int (jI 16), .int (jI v), .ref 13] (W5 S T D) (.int (jI (cw1 (S 14) 16 v))) (W5 S T D) := by
  have ha := hv.2
  refine Sp.of [.int (jI 16), .int (jI v), .ref 13] (by decide) (by simp) (Nat.le_of_ble_eq_true rfl) rfl (fun E => ?_)
  refine L_i0 dX2_ofOne_0 ?_
  refine E_lookup (off := 62) 63 dX2_ofOne_1 (by decide) (by decide) rfl ?_
  refine L_a2 dX2_ofOne_63 ?_
  refine L_i1 dX2_ofOne_64 ?_
  refine C_v1F vX2_64 dX2_ofOne_65 (qX4_isVacant hv (by omega)) rfl rfl (Nat.le_of_ble_eq_true rfl) (by decide) ?_
  refine J_ifeqB 75 dX2_ofOne_68 rfl (fun c68 => ?_) (fun c68 => ?_)
  · refine J_iconst dX2_ofOne_75 ?_
    exact R_i rfl dX2_ofOne_76 rfl (by unfold cw1; rw [if_neg (by decide), if_neg (by decide), if_neg (by decide)]; first | (done) | exact (jb_t (by assumption)).symm | exact (jb_f (by assumption)).symm)
  · refine J_iconst dX2_ofOne_71 ?_
    refine E_goto 76 dX2_ofOne_72 rfl ?_
    exact R_i rfl dX2_ofOne_76 rfl (by unfold cw1; rw [if_neg (by decide), if_neg (by decide), if_neg (by decide)]; first | (done) | exact (jb_t (by assumption)).symm | exact (jb_f (by assumption)).symm)

