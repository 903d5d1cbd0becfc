/-! ===== Row: what its cells hold, and its methods ===== -/
/-- the bounds of a row's cells -/
def RV (f : Int → Int) : Prop := Bd f ∧ (1 ≤ f 0 ∧ f 0 ≤ 16) ∧ (0 ≤ f 1 ∧ f 1 ≤ 9999) ∧ (0 ≤ f 2 ∧ f 2 < 31019) ∧ (0 ≤ f 3 ∧ f 3 < 256) ∧ (0 ≤ f 4 ∧ f 4 < 65536) ∧ (0 ≤ f 5 ∧ f 5 ≤ 25) ∧ ∀ n, 1 ≤ n ∧ n ≤ 8 → (-1 ≤ f (5 + n) ∧ f (5 + n) ≤ 15) ∧ (-1 ≤ f (13 + n) ∧ f (13 + n) ≤ 15) ∧ (0 ≤ f (5 + n) → f (5 + n) < f (13 + n) ∧ f (13 + n) < f 0) ∧ (0 ≤ f (21 + n) ∧ f (21 + n) ≤ 99)
theorem RV.at {f : Int → Int} (h : RV f) {n : Int} (hn : 1 ≤ n ∧ n ≤ 8) : (-1 ≤ f (5 + n) ∧ f (5 + n) ≤ 15) ∧ (-1 ≤ f (13 + n) ∧ f (13 + n) ≤ 15) ∧ (0 ≤ f (5 + n) → f (5 + n) < f (13 + n) ∧ f (13 + n) < f 0) ∧ (0 ≤ f (21 + n) ∧ f (21 + n) ≤ 99) := h.2.2.2.2.2.2.2 n hn
abbrev rw_holds (f : Int → Int) (n : Int) : Prop := (1 ≤ n ∧ n ≤ 8) ∧ 0 ≤ f (5 + n)
def rw_first (f : Int → Int) (n : Int) : Int := if 1 ≤ n ∧ n ≤ 8 then f (5 + n) else -1
def rw_second (f : Int → Int) (n : Int) : Int := if 1 ≤ n ∧ n ≤ 8 then f (13 + n) else -1
def rw_since (f : Int → Int) (n : Int) : Int := if 1 ≤ n ∧ n ≤ 8 then f (21 + n) else 0
def rw_pair (f : Int → Int) (n : Int) : Int := if rw_holds f n then bor (bsh (f (5 + n))) (bsh (f (13 + n))) else 0
theorem rw_pair_B {f : Int → Int} (hv : RV f) (n : Int) : 0 ≤ rw_pair f n ∧ rw_pair f n < 65536 := by
  unfold rw_pair
  split
  · next h =>
    have h2 := hv.at h.1
    have a1 := bsh_lt (k := f (5 + n)) 16 (by omega) (by decide)
    have a2 := bsh_lt (k := f (13 + n)) 16 (by omega) (by decide)
    exact ⟨bor_nn _ _, bor_lt 16 a1 a2⟩
  · decide
theorem rw_first_B {f : Int → Int} (hv : RV f) (n : Int) : -1 ≤ rw_first f n ∧ rw_first f n ≤ 15 := by
  unfold rw_first
  split
  · next h => exact (hv.at h).1
  · decide
theorem rw_second_B {f : Int → Int} (hv : RV f) (n : Int) : -1 ≤ rw_second f n ∧ rw_second f n ≤ 15 := by
  unfold rw_second
  split
  · next h => exact (hv.at h).2.1
  · decide
theorem rw_since_B {f : Int → Int} (hv : RV f) (n : Int) : 0 ≤ rw_since f n ∧ rw_since f n ≤ 99 := by
  unfold rw_since
  split
  · next h => exact (hv.at h).2.2.2
  · decide
theorem rw_first_b {f : Int → Int} (hf : Bd f) (n : Int) : -2147483648 ≤ rw_first f n ∧ rw_first f n < 2147483648 := by
  unfold rw_first
  split
  · exact hf _
  · decide
theorem rw_second_b {f : Int → Int} (hf : Bd f) (n : Int) : -2147483648 ≤ rw_second f n ∧ rw_second f n < 2147483648 := by
  unfold rw_second
  split
  · exact hf _
  · decide
set_option maxRecDepth 100000 in
theorem sX10_isNumber {hp : List mx_C} {n : Int} (hn : -2147483648 ≤ n ∧ n < 2147483648) : SpF yX10_isNumber cX10_isNumber 1 (some .boolean) 0 [.int (jI n)] hp (.int (jI (jb (1 ≤ n ∧ n ≤ 8)))) hp := by
  refine Sp.of [.int (jI n)] (by decide) (by simp) (Nat.le_of_ble_eq_true rfl) rfl (fun E => ?_)
  refine L_i0 dX10_isNumber_0 ?_
  refine J_iconst dX10_isNumber_1 ?_
  refine J_icmp_lt 15 dX10_isNumber_2 rfl (by omega) (by omega) (fun c2 => ?_) (fun c2 => ?_)
  · refine J_iconst dX10_isNumber_15 ?_
    exact R_z rfl dX10_isNumber_16 (by decide) rfl (by first | exact (jb_t (by omega)).symm | exact (jb_f (by omega)).symm)
  · refine L_i0 dX10_isNumber_5 ?_
    refine J_bipush dX10_isNumber_6 (by decide) ?_
    refine J_icmp_gt 15 dX10_isNumber_8 rfl (by omega) (by omega) (fun c8 => ?_) (fun c8 => ?_)
    · refine J_iconst dX10_isNumber_15 ?_
      exact R_z rfl dX10_isNumber_16 (by decide) rfl (by first | exact (jb_t (by omega)).symm | exact (jb_f (by omega)).symm)
    · refine J_iconst dX10_isNumber_11 ?_
      refine E_goto 16 dX10_isNumber_12 rfl ?_
      exact R_z rfl dX10_isNumber_16 (by decide) rfl (by first | exact (jb_t (by omega)).symm | exact (jb_f (by omega)).symm)

set_option maxRecDepth 100000 in
theorem sX10_bitOf {hp : List mx_C} {n : Int} (hn : 1 ≤ n ∧ n ≤ 31) : SpF yX10_bitOf cX10_bitOf 1 (some .int) 0 [.int (jI n)] hp (.int (jI (bsh (n - 1)))) hp := by
  refine Sp.of [.int (jI n)] (by decide) (by simp) (Nat.le_of_ble_eq_true rfl) rfl (fun E => ?_)
  refine J_iconst dX10_bitOf_0 ?_
  refine L_i0 dX10_bitOf_1 ?_
  refine J_iconst dX10_bitOf_2 ?_
  refine J_isub dX10_bitOf_3 ?_
  refine J_1shl dX10_bitOf_4 (by omega) ?_
  exact R_i rfl dX10_bitOf_5 rfl rfl

set_option maxRecDepth 100000 in
theorem sX10_allOf {hp : List mx_C} {n : Int} (hn : 0 ≤ n ∧ n ≤ 31) : SpF yX10_allOf cX10_allOf 1 (some .int) 0 [.int (jI n)] hp (.int (jI (bsh n - 1))) hp := by
  refine Sp.of [.int (jI n)] (by decide) (by simp) (Nat.le_of_ble_eq_true rfl) rfl (fun E => ?_)
  refine J_iconst dX10_allOf_0 ?_
  refine L_i0 dX10_allOf_1 ?_
  refine J_1shl dX10_allOf_2 (by omega) ?_
  refine J_iconst dX10_allOf_3 ?_
  refine J_isub dX10_allOf_4 ?_
  exact R_i rfl dX10_allOf_5 rfl rfl

set_option maxRecDepth 100000 in
theorem sX4_places {hp : List mx_C} {i j : Nat} {c0 : mx_C} {f : Int → Int} (h1 : hp[i]? = some (ob 4 [.ref j])) (hij : ¬ j = i) (h2 : hp[j]? = some c0) : SpF yX4_places cX4_places 1 (some .int) 0 [.ref i] (hp.set j (ia 55 f)) (.int (jI (f 0))) (hp.set j (ia 55 f)) := by
  refine Sp.of [.ref i] (by decide) (by simp) (Nat.le_of_ble_eq_true rfl) rfl (fun E => ?_)
  refine L_a0 dX4_places_0 ?_
  refine E_getf fX4_11 dX4_places_1 (mx_sn hij h1) rfl ?_
  refine J_iconst dX4_places_4 ?_
  refine J_iald dX4_places_5 (mx_ss h2) (by omega) (by decide) ?_
  exact R_i rfl dX4_places_6 rfl rfl

set_option maxRecDepth 100000 in
theorem sX4_date {hp : List mx_C} {i j : Nat} {c0 : mx_C} {f : Int → Int} (h1 : hp[i]? = some (ob 4 [.ref j])) (hij : ¬ j = i) (h2 : hp[j]? = some c0) : SpF yX4_date cX4_date 1 (some .int) 0 [.ref i] (hp.set j (ia 55 f)) (.int (jI (f 1))) (hp.set j (ia 55 f)) := by
  refine Sp.of [.ref i] (by decide) (by simp) (Nat.le_of_ble_eq_true rfl) rfl (fun E => ?_)
  refine L_a0 dX4_date_0 ?_
  refine E_getf fX4_11 dX4_date_1 (mx_sn hij h1) rfl ?_
  refine J_iconst dX4_date_4 ?_
  refine J_iald dX4_date_5 (mx_ss h2) (by omega) (by decide) ?_
  exact R_i rfl dX4_date_6 rfl rfl

set_option maxRecDepth 100000 in
theorem sX4_drawn {hp : List mx_C} {i j : Nat} {c0 : mx_C} {f : Int → Int} (h1 : hp[i]? = some (ob 4 [.ref j])) (hij : ¬ j = i) (h2 : hp[j]? = some c0) : SpF yX4_drawn cX4_drawn 1 (some .int) 0 [.ref i] (hp.set j (ia 55 f)) (.int (jI (f 2))) (hp.set j (ia 55 f)) := by
  refine Sp.of [.ref i] (by decide) (by simp) (Nat.le_of_ble_eq_true rfl) rfl (fun E => ?_)
  refine L_a0 dX4_drawn_0 ?_
  refine E_getf fX4_11 dX4_drawn_1 (mx_sn hij h1) rfl ?_
  refine J_iconst dX4_drawn_4 ?_
  refine J_iald dX4_drawn_5 (mx_ss h2) (by omega) (by decide) ?_
  exact R_i rfl dX4_drawn_6 rfl rfl

set_option maxRecDepth 100000 in
theorem sX4_standing {hp : List mx_C} {i j : Nat} {c0 : mx_C} {f : Int → Int} (h1 : hp[i]? = some (ob 4 [.ref j])) (hij : ¬ j = i) (h2 : hp[j]? = some c0) : SpF yX4_standing cX4_standing 1 (some .int) 0 [.ref i] (hp.set j (ia 55 f)) (.int (jI (f 3))) (hp.set j (ia 55 f)) := by
  refine Sp.of [.ref i] (by decide) (by simp) (Nat.le_of_ble_eq_true rfl) rfl (fun E => ?_)
  refine L_a0 dX4_standing_0 ?_
  refine E_getf fX4_11 dX4_standing_1 (mx_sn hij h1) rfl ?_
  refine J_iconst dX4_standing_4 ?_
  refine J_iald dX4_standing_5 (mx_ss h2) (by omega) (by decide) ?_
  exact R_i rfl dX4_standing_6 rfl rfl

set_option maxRecDepth 100000 in
theorem sX4_taken {hp : List mx_C} {i j : Nat} {c0 : mx_C} {f : Int → Int} (h1 : hp[i]? = some (ob 4 [.ref j])) (hij : ¬ j = i) (h2 : hp[j]? = some c0) : SpF yX4_taken cX4_taken 1 (some .int) 0 [.ref i] (hp.set j (ia 55 f)) (.int (jI (f 4))) (hp.set j (ia 55 f)) := by
  refine Sp.of [.ref i] (by decide) (by simp) (Nat.le_of_ble_eq_true rfl) rfl (fun E => ?_)
  refine L_a0 dX4_taken_0 ?_
  refine E_getf fX4_11 dX4_taken_1 (mx_sn hij h1) rfl ?_
  refine J_iconst dX4_taken_4 ?_
  refine J_iald dX4_taken_5 (mx_ss h2) (by omega) (by decide) ?_
  exact R_i rfl dX4_taken_6 rfl rfl

set_option maxRecDepth 100000 in
theorem sX4_lines {hp : List mx_C} {i j : Nat} {c0 : mx_C} {f : Int → Int} (h1 : hp[i]? = some (ob 4 [.ref j])) (hij : ¬ j = i) (h2 : hp[j]? = some c0) : SpF yX4_lines cX4_lines 1 (some .int) 0 [.ref i] (hp.set j (ia 55 f)) (.int (jI (f 5))) (hp.set j (ia 55 f)) := by
  refine Sp.of [.ref i] (by decide) (by simp) (Nat.le_of_ble_eq_true rfl) rfl (fun E => ?_)
  refine L_a0 dX4_lines_0 ?_
  refine E_getf fX4_11 dX4_lines_1 (mx_sn hij h1) rfl ?_
  refine J_iconst dX4_lines_4 ?_
  refine J_iald dX4_lines_5 (mx_ss h2) (by omega) (by decide) ?_
  exact R_i rfl dX4_lines_6 rfl rfl

set_option maxRecDepth 100000 in
theorem sX4_holds {hp : List mx_C} {i j : Nat} {c0 : mx_C} {f : Int → Int} (h1 : hp[i]? = some (ob 4 [.ref j])) (hij : ¬ j = i) (h2 : hp[j]? = some c0) (hf : Bd f) {n : Int} (hn : -2147483648 ≤ n ∧ n < 2147483648) : SpF yX4_holds cX4_holds 2 (some .boolean) 0 [.ref i, .int (jI n)] (hp.set j (ia 55 f)) (.int (jI (jb (rw_holds f n)))) (hp.set j (ia 55 f)) := by
  refine Sp.of [.ref i, .int (jI n)] (by decide) (by simp) (Nat.le_of_ble_eq_true rfl) rfl (fun E => ?_)
  refine L_i1 dX4_holds_0 ?_
  refine J_iconst dX4_holds_1 ?_
  refine J_icmp_lt 26 dX4_holds_2 rfl (by omega) (by omega) (fun c2 => ?_) (fun c2 => ?_)
  · refine J_iconst dX4_holds_26 ?_
    exact R_z rfl dX4_holds_27 (by decide) rfl (by first | exact (jb_t (by omega)).symm | exact (jb_f (by omega)).symm)
  · refine L_i1 dX4_holds_5 ?_
    refine J_bipush dX4_holds_6 (by decide) ?_
    refine J_icmp_gt 26 dX4_holds_8 rfl (by omega) (by omega) (fun c8 => ?_) (fun c8 => ?_)
    · refine J_iconst dX4_holds_26 ?_
      exact R_z rfl dX4_holds_27 (by decide) rfl (by first | exact (jb_t (by omega)).symm | exact (jb_f (by omega)).symm)
    · refine L_a0 dX4_holds_11 ?_
      refine E_getf fX4_11 dX4_holds_12 (mx_sn hij h1) rfl ?_
      refine J_iconst dX4_holds_15 ?_
      refine L_i1 dX4_holds_16 ?_
      refine J_iadd dX4_holds_17 ?_
      refine J_ialdB dX4_holds_18 (mx_ss h2) (by omega) (by decide) hf (fun b18 => ?_)
      refine J_if_lt 26 dX4_holds_19 rfl (by omega) (fun c19 => ?_) (fun c19 => ?_)
      · refine J_iconst dX4_holds_26 ?_
        exact R_z rfl dX4_holds_27 (by decide) rfl (by first | exact (jb_t (by omega)).symm | exact (jb_f (by omega)).symm)
      · refine J_iconst dX4_holds_22 ?_
        refine E_goto 27 dX4_holds_23 rfl ?_
        exact R_z rfl dX4_holds_27 (by decide) rfl (by first | exact (jb_t (by omega)).symm | exact (jb_f (by omega)).symm)

set_option maxRecDepth 100000 in
theorem sX4_first {hp : List mx_C} {i j : Nat} {c0 : mx_C} {f : Int → Int} (h1 : hp[i]? = some (ob 4 [.ref j])) (hij : ¬ j = i) (h2 : hp[j]? = some c0) (hf : Bd f) {n : Int} (hn : -2147483648 ≤ n ∧ n < 2147483648) : SpF yX4_first cX4_first 2 (some .int) 0 [.ref i, .int (jI n)] (hp.set j (ia 55 f)) (.int (jI (rw_first f n))) (hp.set j (ia 55 f)) := by
  refine Sp.of [.ref i, .int (jI n)] (by decide) (by simp) (Nat.le_of_ble_eq_true rfl) rfl (fun E => ?_)
  refine L_i1 dX4_first_0 ?_
  refine J_iconst dX4_first_1 ?_
  refine J_icmp_lt 22 dX4_first_2 rfl (by omega) (by omega) (fun c2 => ?_) (fun c2 => ?_)
  · refine J_iconst dX4_first_22 ?_
    exact R_i rfl dX4_first_23 rfl (by unfold rw_first; split <;> omega)
  · refine L_i1 dX4_first_5 ?_
    refine J_bipush dX4_first_6 (by decide) ?_
    refine J_icmp_gt 22 dX4_first_8 rfl (by omega) (by omega) (fun c8 => ?_) (fun c8 => ?_)
    · refine J_iconst dX4_first_22 ?_
      exact R_i rfl dX4_first_23 rfl (by unfold rw_first; split <;> omega)
    · refine L_a0 dX4_first_11 ?_
      refine E_getf fX4_11 dX4_first_12 (mx_sn hij h1) rfl ?_
      refine J_iconst dX4_first_15 ?_
      refine L_i1 dX4_first_16 ?_
      refine J_iadd dX4_first_17 ?_
      refine J_ialdB dX4_first_18 (mx_ss h2) (by omega) (by decide) hf (fun b18 => ?_)
      refine E_goto 23 dX4_first_19 rfl ?_
      exact R_i rfl dX4_first_23 rfl (by unfold rw_first; split <;> omega)

set_option maxRecDepth 100000 in
theorem sX4_second {hp : List mx_C} {i j : Nat} {c0 : mx_C} {f : Int → Int} (h1 : hp[i]? = some (ob 4 [.ref j])) (hij : ¬ j = i) (h2 : hp[j]? = some c0) (hf : Bd f) {n : Int} (hn : -2147483648 ≤ n ∧ n < 2147483648) : SpF yX4_second cX4_second 2 (some .int) 0 [.ref i, .int (jI n)] (hp.set j (ia 55 f)) (.int (jI (rw_second f n))) (hp.set j (ia 55 f)) := by
  refine Sp.of [.ref i, .int (jI n)] (by decide) (by simp) (Nat.le_of_ble_eq_true rfl) rfl (fun E => ?_)
  refine L_i1 dX4_second_0 ?_
  refine J_iconst dX4_second_1 ?_
  refine J_icmp_lt 23 dX4_second_2 rfl (by omega) (by omega) (fun c2 => ?_) (fun c2 => ?_)
  · refine J_iconst dX4_second_23 ?_
    exact R_i rfl dX4_second_24 rfl (by unfold rw_second; split <;> omega)
  · refine L_i1 dX4_second_5 ?_
    refine J_bipush dX4_second_6 (by decide) ?_
    refine J_icmp_gt 23 dX4_second_8 rfl (by omega) (by omega) (fun c8 => ?_) (fun c8 => ?_)
    · refine J_iconst dX4_second_23 ?_
      exact R_i rfl dX4_second_24 rfl (by unfold rw_second; split <;> omega)
    · refine L_a0 dX4_second_11 ?_
      refine E_getf fX4_11 dX4_second_12 (mx_sn hij h1) rfl ?_
      refine J_bipush dX4_second_15 (by decide) ?_
      refine L_i1 dX4_second_17 ?_
      refine J_iadd dX4_second_18 ?_
      refine J_ialdB dX4_second_19 (mx_ss h2) (by omega) (by decide) hf (fun b19 => ?_)
      refine E_goto 24 dX4_second_20 rfl ?_
      exact R_i rfl dX4_second_24 rfl (by unfold rw_second; split <;> omega)

set_option maxRecDepth 100000 in
theorem sX4_since {hp : List mx_C} {i j : Nat} {c0 : mx_C} {f : Int → Int} (h1 : hp[i]? = some (ob 4 [.ref j])) (hij : ¬ j = i) (h2 : hp[j]? = some c0) (hf : Bd f) {n : Int} (hn : -2147483648 ≤ n ∧ n < 2147483648) : SpF yX4_since cX4_since 2 (some .int) 0 [.ref i, .int (jI n)] (hp.set j (ia 55 f)) (.int (jI (rw_since f n))) (hp.set j (ia 55 f)) := by
  refine Sp.of [.ref i, .int (jI n)] (by decide) (by simp) (Nat.le_of_ble_eq_true rfl) rfl (fun E => ?_)
  refine L_i1 dX4_since_0 ?_
  refine J_iconst dX4_since_1 ?_
  refine J_icmp_lt 23 dX4_since_2 rfl (by omega) (by omega) (fun c2 => ?_) (fun c2 => ?_)
  · refine J_iconst dX4_since_23 ?_
    exact R_i rfl dX4_since_24 rfl (by unfold rw_since; split <;> omega)
  · refine L_i1 dX4_since_5 ?_
    refine J_bipush dX4_since_6 (by decide) ?_
    refine J_icmp_gt 23 dX4_since_8 rfl (by omega) (by omega) (fun c8 => ?_) (fun c8 => ?_)
    · refine J_iconst dX4_since_23 ?_
      exact R_i rfl dX4_since_24 rfl (by unfold rw_since; split <;> omega)
    · refine L_a0 dX4_since_11 ?_
      refine E_getf fX4_11 dX4_since_12 (mx_sn hij h1) rfl ?_
      refine J_bipush dX4_since_15 (by decide) ?_
      refine L_i1 dX4_since_17 ?_
      refine J_iadd dX4_since_18 ?_
      refine J_ialdB dX4_since_19 (mx_ss h2) (by omega) (by decide) hf (fun b19 => ?_)
      refine E_goto 24 dX4_since_20 rfl ?_
      exact R_i rfl dX4_since_24 rfl (by unfold rw_since; split <;> omega)

set_option maxRecDepth 100000 in
theorem sX4_span {hp : List mx_C} {i j : Nat} {c0 : mx_C} {f : Int → Int} (h1 : hp[i]? = some (ob 4 [.ref j])) (hij : ¬ j = i) (h2 : hp[j]? = some c0) (hf : Bd f) {n : Int} (hn : -2147483648 ≤ n ∧ n < 2147483648) : SpF yX4_span cX4_span 2 (some .int) 1 [.ref i, .int (jI n)] (hp.set j (ia 55 f)) (.int (jI (rw_second f n - rw_first f n))) (hp.set j (ia 55 f)) := by
  refine Sp.of [.ref i, .int (jI n)] (by decide) (by simp) (Nat.le_of_ble_eq_true rfl) rfl (fun E => ?_)
  refine L_a0 dX4_span_0 ?_
  refine L_i1 dX4_span_1 ?_
  refine C_v1F vX4_30 dX4_span_2 (sX4_second h1 hij h2 hf (by omega)) (mx_sn hij h1) rfl (Nat.le_of_ble_eq_true rfl) (by decide) ?_
  refine L_a0 dX4_span_5 ?_
  refine L_i1 dX4_span_6 ?_
  refine C_v1F vX4_33 dX4_span_7 (sX4_first h1 hij h2 hf (by omega)) (mx_sn hij h1) rfl (Nat.le_of_ble_eq_true rfl) (by decide) ?_
  refine J_isub dX4_span_10 ?_
  exact R_i rfl dX4_span_11 rfl rfl

set_option maxRecDepth 100000 in
theorem sX4_vacant {hp : List mx_C} {i j : Nat} {c0 : mx_C} {f : Int → Int} (h1 : hp[i]? = some (ob 4 [.ref j])) (hij : ¬ j = i) (h2 : hp[j]? = some c0) (hv : RV f) : SpF yX4_vacant cX4_vacant 1 (some .int) 1 [.ref i] (hp.set j (ia 55 f)) (.int (jI (bdf (bsh (f 0) - 1) (f 4)))) (hp.set j (ia 55 f)) := by
  have hf := hv.1
  have hr := hv.2
  have hb := bsh_pos (f 0)
  refine Sp.of [.ref i] (by decide) (by simp) (Nat.le_of_ble_eq_true rfl) rfl (fun E => ?_)
  refine L_a0 dX4_vacant_0 ?_
  refine E_getf fX4_11 dX4_vacant_1 (mx_sn hij h1) rfl ?_
  refine J_iconst dX4_vacant_4 ?_
  refine J_ialdB dX4_vacant_5 (mx_ss h2) (by omega) (by decide) hf (fun b5 => ?_)
  refine C_s1F vX4_27 dX4_vacant_6 (sX10_allOf (by omega)) (Nat.le_of_ble_eq_true rfl) (by decide) ?_
  refine L_a0 dX4_vacant_9 ?_
  refine E_getf fX4_11 dX4_vacant_10 (mx_sn hij h1) rfl ?_
  refine J_iconst dX4_vacant_13 ?_
  refine J_ialdB dX4_vacant_14 (mx_ss h2) (by omega) (by decide) hf (fun b14 => ?_)
  refine J_iconst dX4_vacant_15 ?_
  refine J_inot dX4_vacant_16 ?_
  refine J_iandD dX4_vacant_17 (by omega) (by omega) ?_
  exact R_i rfl dX4_vacant_18 rfl rfl

set_option maxRecDepth 100000 in
theorem sX4_isVacant {hp : List mx_C} {i j : Nat} {c0 : mx_C} {f : Int → Int} (h1 : hp[i]? = some (ob 4 [.ref j])) (hij : ¬ j = i) (h2 : hp[j]? = some c0) (hv : RV f) {n : Int} (hn : -2147483648 ≤ n ∧ n < 2147483648) : SpF yX4_isVacant cX4_isVacant 2 (some .boolean) 0 [.ref i, .int (jI n)] (hp.set j (ia 55 f)) (.int (jI (jb ((0 ≤ n ∧ n < f 0) ∧ f 4 / 2 ^ n.toNat % 2 = 0)))) (hp.set j (ia 55 f)) := by
  have hf := hv.1
  have hr := hv.2
  refine Sp.of [.ref i, .int (jI n)] (by decide) (by simp) (Nat.le_of_ble_eq_true rfl) rfl (fun E => ?_)
  refine L_i1 dX4_isVacant_0 ?_
  refine J_if_lt 31 dX4_isVacant_1 rfl (by omega) (fun c1 => ?_) (fun c1 => ?_)
  · refine J_iconst dX4_isVacant_31 ?_
    exact R_z rfl dX4_isVacant_32 (by decide) rfl (by first | exact (jb_t (by omega)).symm | exact (jb_f (by omega)).symm)
  · refine L_i1 dX4_isVacant_4 ?_
    refine L_a0 dX4_isVacant_5 ?_
    refine E_getf fX4_11 dX4_isVacant_6 (mx_sn hij h1) rfl ?_
    refine J_iconst dX4_isVacant_9 ?_
    refine J_ialdB dX4_isVacant_10 (mx_ss h2) (by omega) (by decide) hf (fun b10 => ?_)
    refine J_icmp_ge 31 dX4_isVacant_11 rfl (by omega) (by omega) (fun c11 => ?_) (fun c11 => ?_)
    · refine J_iconst dX4_isVacant_31 ?_
      exact R_z rfl dX4_isVacant_32 (by decide) rfl (by first | exact (jb_t (by omega)).symm | exact (jb_f (by omega)).symm)
    · refine L_a0 dX4_isVacant_14 ?_
      refine E_getf fX4_11 dX4_isVacant_15 (mx_sn hij h1) rfl ?_
      refine J_iconst dX4_isVacant_18 ?_
      refine J_ialdB dX4_isVacant_19 (mx_ss h2) (by omega) (by decide) hf (fun b19 => ?_)
      refine L_i1 dX4_isVacant_20 ?_
      refine J_iushrG dX4_isVacant_21 (by omega) (by omega) ?_
      refine J_iconst dX4_isVacant_22 ?_
      refine J_imask 1 (by decide) (by decide) dX4_isVacant_23 ?_
      refine J_if_ne 31 dX4_isVacant_24 rfl (by omega) (fun c24 => ?_) (fun c24 => ?_)
      · refine J_iconst dX4_isVacant_31 ?_
        exact R_z rfl dX4_isVacant_32 (by decide) rfl (by first | exact (jb_t (by omega)).symm | exact (jb_f (by omega)).symm)
      · refine J_iconst dX4_isVacant_27 ?_
        refine E_goto 32 dX4_isVacant_28 rfl ?_
        exact R_z rfl dX4_isVacant_32 (by decide) rfl (by first | exact (jb_t (by omega)).symm | exact (jb_f (by omega)).symm)

set_option maxRecDepth 100000 in
theorem sX4_pairOf {hp : List mx_C} {i j : Nat} {c0 : mx_C} {f : Int → Int} (h1 : hp[i]? = some (ob 4 [.ref j])) (hij : ¬ j = i) (h2 : hp[j]? = some c0) (hf : Bd f) {n : Int} (hn : -2147483648 ≤ n ∧ n < 2147483648) (hr : rw_holds f n → f (5 + n) < 31 ∧ 0 ≤ f (13 + n) ∧ f (13 + n) < 31) : SpF yX4_pairOf cX4_pairOf 2 (some .int) 1 [.ref i, .int (jI n)] (hp.set j (ia 55 f)) (.int (jI (rw_pair f n))) (hp.set j (ia 55 f)) := by
  have hb := bsh_nn
  refine Sp.of [.ref i, .int (jI n)] (by decide) (by simp) (Nat.le_of_ble_eq_true rfl) rfl (fun E => ?_)
  refine L_a0 dX4_pairOf_0 ?_
  refine L_i1 dX4_pairOf_1 ?_
  refine C_v1F vX4_36 dX4_pairOf_2 (sX4_holds h1 hij h2 hf (by omega)) (mx_sn hij h1) rfl (Nat.le_of_ble_eq_true rfl) (by decide) ?_
  refine J_ifeqB 33 dX4_pairOf_5 rfl (fun c5 => ?_) (fun c5 => ?_)
  · refine J_iconst dX4_pairOf_33 ?_
    exact R_i rfl dX4_pairOf_34 rfl (by unfold rw_pair; first | rw [if_pos c5] | rw [if_neg c5])
  · refine J_iconst dX4_pairOf_8 ?_
    refine L_a0 dX4_pairOf_9 ?_
    refine E_getf fX4_11 dX4_pairOf_10 (mx_sn hij h1) rfl ?_
    refine J_iconst dX4_pairOf_13 ?_
    refine L_i1 dX4_pairOf_14 ?_
    refine J_iadd dX4_pairOf_15 ?_
    refine J_ialdB dX4_pairOf_16 (mx_ss h2) (by have := c5.1; omega) (by decide) hf (fun b16 => ?_)
    refine J_1shl dX4_pairOf_17 (by have := hr c5; omega) ?_
    refine J_iconst dX4_pairOf_18 ?_
    refine L_a0 dX4_pairOf_19 ?_
    refine E_getf fX4_11 dX4_pairOf_20 (mx_sn hij h1) rfl ?_
    refine J_bipush dX4_pairOf_23 (by decide) ?_
    refine L_i1 dX4_pairOf_25 ?_
    refine J_iadd dX4_pairOf_26 ?_
    refine J_ialdB dX4_pairOf_27 (mx_ss h2) (by have := c5.1; omega) (by decide) hf (fun b27 => ?_)
    refine J_1shl dX4_pairOf_28 (by have := hr c5; omega) ?_
    refine J_iorG dX4_pairOf_29 (hb _) (hb _) ?_
    refine E_goto 34 dX4_pairOf_30 rfl ?_
    exact R_i rfl dX4_pairOf_34 rfl (by unfold rw_pair; first | rw [if_pos c5] | rw [if_neg c5])

set_option maxRecDepth 100000 in
theorem sX4_parts {hp : List mx_C} {i j : Nat} {c0 : mx_C} {f : Int → Int} (h1 : hp[i]? = some (ob 4 [.ref j])) (hij : ¬ j = i) (h2 : hp[j]? = some c0) (hf : Bd f) {n : Int} (hn : -2147483648 ≤ n ∧ n < 2147483648) {p : Int} (hp0 : -2147483648 ≤ p ∧ p < 2147483648) : SpF yX4_parts cX4_parts 3 (some .boolean) 1 [.ref i, .int (jI n), .int (jI p)] (hp.set j (ia 55 f)) (.int (jI (jb (rw_first f n < p ∧ p < rw_second f n)))) (hp.set j (ia 55 f)) := by
  have hr := rw_first_b hf n
  have hr2 := rw_second_b hf n
  refine Sp.of [.ref i, .int (jI n), .int (jI p)] (by decide) (by simp) (Nat.le_of_ble_eq_true rfl) rfl (fun E => ?_)
  refine L_a0 dX4_parts_0 ?_
  refine L_i1 dX4_parts_1 ?_
  refine C_v1F vX4_33 dX4_parts_2 (sX4_first h1 hij h2 hf (by omega)) (mx_sn hij h1) rfl (Nat.le_of_ble_eq_true rfl) (by decide) ?_
  refine L_i2 dX4_parts_5 ?_
  refine J_icmp_ge 22 dX4_parts_6 rfl (by omega) (by omega) (fun c6 => ?_) (fun c6 => ?_)
  · refine J_iconst dX4_parts_22 ?_
    exact R_z rfl dX4_parts_23 (by decide) rfl (by first | exact (jb_t (by omega)).symm | exact (jb_f (by omega)).symm)
  · refine L_i2 dX4_parts_9 ?_
    refine L_a0 dX4_parts_10 ?_
    refine L_i1 dX4_parts_11 ?_
    refine C_v1F vX4_30 dX4_parts_12 (sX4_second h1 hij h2 hf (by omega)) (mx_sn hij h1) rfl (Nat.le_of_ble_eq_true rfl) (by decide) ?_
    refine J_icmp_ge 22 dX4_parts_15 rfl (by omega) (by omega) (fun c15 => ?_) (fun c15 => ?_)
    · refine J_iconst dX4_parts_22 ?_
      exact R_z rfl dX4_parts_23 (by decide) rfl (by first | exact (jb_t (by omega)).symm | exact (jb_f (by omega)).symm)
    · refine J_iconst dX4_parts_18 ?_
      refine E_goto 23 dX4_parts_19 rfl ?_
      exact R_z rfl dX4_parts_23 (by decide) rfl (by first | exact (jb_t (by omega)).symm | exact (jb_f (by omega)).symm)

def rw_inside (f : Int → Int) (n q : Int) : Int := if rw_holds f n ∧ rw_holds f q then jb (rw_first f n < rw_first f q ∧ rw_first f q < rw_second f n) + jb (rw_first f n < rw_second f q ∧ rw_second f q < rw_second f n) else 0
set_option maxRecDepth 100000 in
theorem sX4_inside {hp : List mx_C} {i j : Nat} {c0 : mx_C} {f : Int → Int} (h1 : hp[i]? = some (ob 4 [.ref j])) (hij : ¬ j = i) (h2 : hp[j]? = some c0) (hf : Bd f) {n : Int} (hn : -2147483648 ≤ n ∧ n < 2147483648) {q : Int} (hq : -2147483648 ≤ q ∧ q < 2147483648) : SpF yX4_inside cX4_inside 3 (some .int) 2 [.ref i, .int (jI n), .int (jI q)] (hp.set j (ia 55 f)) (.int (jI (rw_inside f n q))) (hp.set j (ia 55 f)) := by
  have hr := rw_first_b hf q
  have hr2 := rw_second_b hf q
  refine Sp.of [.ref i, .int (jI n), .int (jI q)] (by decide) (by simp) (Nat.le_of_ble_eq_true rfl) rfl (fun E => ?_)
  refine L_a0 dX4_inside_0 ?_
  refine L_i1 dX4_inside_1 ?_
  refine C_v1F vX4_36 dX4_inside_2 (sX4_holds h1 hij h2 hf (by omega)) (mx_sn hij h1) rfl (Nat.le_of_ble_eq_true rfl) (by decide) ?_
  refine J_ifeqB 16 dX4_inside_5 rfl (fun c5 => ?_) (fun c5 => ?_)
  · refine J_iconst dX4_inside_16 ?_
    exact R_i rfl dX4_inside_17 rfl (by unfold rw_inside; first | rw [if_pos ⟨c5, c13⟩, jb_t c28, jb_t c46] | rw [if_pos ⟨c5, c13⟩, jb_t c28, jb_f c46] | rw [if_pos ⟨c5, c13⟩, jb_f c28, jb_t c46] | rw [if_pos ⟨c5, c13⟩, jb_f c28, jb_f c46] | rw [if_neg (fun h => c5 h.1)] | rw [if_neg (fun h => c13 h.2)])
  · refine L_a0 dX4_inside_8 ?_
    refine L_i2 dX4_inside_9 ?_
    refine C_v1F vX4_36 dX4_inside_10 (sX4_holds h1 hij h2 hf (by omega)) (mx_sn hij h1) rfl (Nat.le_of_ble_eq_true rfl) (by decide) ?_
    refine J_ifneB 18 dX4_inside_13 rfl (fun c13 => ?_) (fun c13 => ?_)
    · refine L_a0 dX4_inside_18 ?_
      refine L_i1 dX4_inside_19 ?_
      refine L_a0 dX4_inside_20 ?_
      refine L_i2 dX4_inside_21 ?_
      refine C_v1F vX4_33 dX4_inside_22 (sX4_first h1 hij h2 hf (by omega)) (mx_sn hij h1) rfl (Nat.le_of_ble_eq_true rfl) (by decide) ?_
      refine C_v2F vX4_46 dX4_inside_25 (sX4_parts h1 hij h2 hf (by omega) (by omega)) (mx_sn hij h1) rfl (Nat.le_of_ble_eq_true rfl) (by decide) ?_
      refine J_ifeqB 35 dX4_inside_28 rfl (fun c28 => ?_) (fun c28 => ?_)
      · refine J_iconst dX4_inside_35 ?_
        refine L_a0 dX4_inside_36 ?_
        refine L_i1 dX4_inside_37 ?_
        refine L_a0 dX4_inside_38 ?_
        refine L_i2 dX4_inside_39 ?_
        refine C_v1F vX4_30 dX4_inside_40 (sX4_second h1 hij h2 hf (by omega)) (mx_sn hij h1) rfl (Nat.le_of_ble_eq_true rfl) (by decide) ?_
        refine C_v2F vX4_46 dX4_inside_43 (sX4_parts h1 hij h2 hf (by omega) (by omega)) (mx_sn hij h1) rfl (Nat.le_of_ble_eq_true rfl) (by decide) ?_
        refine J_ifeqB 53 dX4_inside_46 rfl (fun c46 => ?_) (fun c46 => ?_)
        · refine J_iconst dX4_inside_53 ?_
          refine J_iadd dX4_inside_54 ?_
          exact R_i rfl dX4_inside_55 rfl (by unfold rw_inside; first | rw [if_pos ⟨c5, c13⟩, jb_t c28, jb_t c46] | rw [if_pos ⟨c5, c13⟩, jb_t c28, jb_f c46] | rw [if_pos ⟨c5, c13⟩, jb_f c28, jb_t c46] | rw [if_pos ⟨c5, c13⟩, jb_f c28, jb_f c46] | rw [if_neg (fun h => c5 h.1)] | rw [if_neg (fun h => c13 h.2)])
        · refine J_iconst dX4_inside_49 ?_
          refine E_goto 54 dX4_inside_50 rfl ?_
          refine J_iadd dX4_inside_54 ?_
          exact R_i rfl dX4_inside_55 rfl (by unfold rw_inside; first | rw [if_pos ⟨c5, c13⟩, jb_t c28, jb_t c46] | rw [if_pos ⟨c5, c13⟩, jb_t c28, jb_f c46] | rw [if_pos ⟨c5, c13⟩, jb_f c28, jb_t c46] | rw [if_pos ⟨c5, c13⟩, jb_f c28, jb_f c46] | rw [if_neg (fun h => c5 h.1)] | rw [if_neg (fun h => c13 h.2)])
      · refine J_iconst dX4_inside_31 ?_
        refine E_goto 36 dX4_inside_32 rfl ?_
        refine L_a0 dX4_inside_36 ?_
        refine L_i1 dX4_inside_37 ?_
        refine L_a0 dX4_inside_38 ?_
        refine L_i2 dX4_inside_39 ?_
        refine C_v1F vX4_30 dX4_inside_40 (sX4_second h1 hij h2 hf (by omega)) (mx_sn hij h1) rfl (Nat.le_of_ble_eq_true rfl) (by decide) ?_
        refine C_v2F vX4_46 dX4_inside_43 (sX4_parts h1 hij h2 hf (by omega) (by omega)) (mx_sn hij h1) rfl (Nat.le_of_ble_eq_true rfl) (by decide) ?_
        refine J_ifeqB 53 dX4_inside_46 rfl (fun c46 => ?_) (fun c46 => ?_)
        · refine J_iconst dX4_inside_53 ?_
          refine J_iadd dX4_inside_54 ?_
          exact R_i rfl dX4_inside_55 rfl (by unfold rw_inside; first | rw [if_pos ⟨c5, c13⟩, jb_t c28, jb_t c46] | rw [if_pos ⟨c5, c13⟩, jb_t c28, jb_f c46] | rw [if_pos ⟨c5, c13⟩, jb_f c28, jb_t c46] | rw [if_pos ⟨c5, c13⟩, jb_f c28, jb_f c46] | rw [if_neg (fun h => c5 h.1)] | rw [if_neg (fun h => c13 h.2)])
        · refine J_iconst dX4_inside_49 ?_
          refine E_goto 54 dX4_inside_50 rfl ?_
          refine J_iadd dX4_inside_54 ?_
          exact R_i rfl dX4_inside_55 rfl (by unfold rw_inside; first | rw [if_pos ⟨c5, c13⟩, jb_t c28, jb_t c46] | rw [if_pos ⟨c5, c13⟩, jb_t c28, jb_f c46] | rw [if_pos ⟨c5, c13⟩, jb_f c28, jb_t c46] | rw [if_pos ⟨c5, c13⟩, jb_f c28, jb_f c46] | rw [if_neg (fun h => c5 h.1)] | rw [if_neg (fun h => c13 h.2)])
    · refine J_iconst dX4_inside_16 ?_
      exact R_i rfl dX4_inside_17 rfl (by unfold rw_inside; first | rw [if_pos ⟨c5, c13⟩, jb_t c28, jb_t c46] | rw [if_pos ⟨c5, c13⟩, jb_t c28, jb_f c46] | rw [if_pos ⟨c5, c13⟩, jb_f c28, jb_t c46] | rw [if_pos ⟨c5, c13⟩, jb_f c28, jb_f c46] | rw [if_neg (fun h => c5 h.1)] | rw [if_neg (fun h => c13 h.2)])

def rw_plg (f : Int → Int) (s : Int) (k acc : Int) : Int := if ban s (bsh (k - 1)) = 0 then acc else bor acc (rw_pair f k)
def rw_places (f : Int → Int) (s : Int) : Int := lpF (rw_plg f s) 8 1 0
set_option maxRecDepth 100000 in
theorem lX4_placesOf {hp : List mx_C} {i j : Nat} {c0 : mx_C} {f : Int → Int} (h1 : hp[i]? = some (ob 4 [.ref j])) (hij : ¬ j = i) (h2 : hp[j]? = some c0) (hv : RV f) {s : Int} (hs : 0 ≤ s ∧ s < 2147483648) {E : mx_E} : ∀ (m : Nat) (k acc : Int), k + m = 9 → 1 ≤ k → (0 ≤ acc ∧ acc < 65536) → Ev E yX4_placesOf cX4_placesOf 4 (some .int) (kf E 2 (.int (jI (lpF (rw_plg f s) m k acc))) (hp.set j (ia 55 f))) 0 0 4 [.ref i, .int (jI s), .int (jI acc), .int (jI k)] [] (hp.set j (ia 55 f)) := by
  intro m
  induction m with
  | zero =>
    intro k acc hk hk1 hacc
    have hf := hv.1
    refine L_i3 dX4_placesOf_4 ?_
    refine J_bipush dX4_placesOf_5 (by decide) ?_
    refine J_icmp_gt 33 dX4_placesOf_7 rfl (by omega) (by omega) (fun c7 => ?_) (fun c7 => ?_)
    · refine L_i2 dX4_placesOf_33 ?_
      exact R_i rfl dX4_placesOf_34 rfl rfl
    · exfalso; omega
  | succ m ih =>
    intro k acc hk hk1 hacc
    have hf := hv.1
    have hbn := ban_le s (bsh (k - 1)) (bsh_nn _)
    have hbl := bsh_lt (k := k - 1) 8 (by omega) (by decide)
    have hb0 := ban_nn s (bsh (k - 1))
    refine L_i3 dX4_placesOf_4 ?_
    refine J_bipush dX4_placesOf_5 (by decide) ?_
    refine J_icmp_gt 33 dX4_placesOf_7 rfl (by omega) (by omega) (fun c7 => ?_) (fun c7 => ?_)
    · exfalso; omega
    · refine L_i1 dX4_placesOf_10 ?_
      refine L_i3 dX4_placesOf_11 ?_
      refine C_s1F vX4_40 dX4_placesOf_12 (sX10_bitOf (by omega)) (Nat.le_of_ble_eq_true rfl) (by decide) ?_
      refine J_iandG dX4_placesOf_15 (by omega) (bsh_nn _) ?_
      refine J_if_eq 27 dX4_placesOf_16 rfl (by omega) (fun c16 => ?_) (fun c16 => ?_)
      · refine JI_3 dX4_placesOf_27 (by decide) rfl ?_
        refine E_goto 4 dX4_placesOf_30 rfl ?_
        first
          | (rw [lpF, show rw_plg f s k acc = acc from if_pos c16]; exact ih (k + 1) acc (by omega) (by omega) (by omega))
          | (rw [lpF, show rw_plg f s k acc = bor acc (rw_pair f k) from if_neg c16]; exact ih (k + 1) _ (by omega) (by omega) ⟨bor_nn _ _, bor_lt 16 (by omega) (rw_pair_B hv k).2⟩)
      · refine L_i2 dX4_placesOf_19 ?_
        refine L_a0 dX4_placesOf_20 ?_
        refine L_i3 dX4_placesOf_21 ?_
        refine C_v1F vX4_43 dX4_placesOf_22 (sX4_pairOf h1 hij h2 hf (by omega) (fun h => by have := hv.at h.1; have := h.2; omega)) (mx_sn hij h1) rfl (Nat.le_of_ble_eq_true rfl) (by decide) ?_
        refine J_iorG dX4_placesOf_25 (by omega) (rw_pair_B hv _).1 ?_
        refine S_i2 dX4_placesOf_26 (by decide) rfl ?_
        refine JI_3 dX4_placesOf_27 (by decide) rfl ?_
        refine E_goto 4 dX4_placesOf_30 rfl ?_
        first
          | (rw [lpF, show rw_plg f s k acc = acc from if_pos c16]; exact ih (k + 1) acc (by omega) (by omega) (by omega))
          | (rw [lpF, show rw_plg f s k acc = bor acc (rw_pair f k) from if_neg c16]; exact ih (k + 1) _ (by omega) (by omega) ⟨bor_nn _ _, bor_lt 16 (by omega) (rw_pair_B hv k).2⟩)

set_option maxRecDepth 100000 in
theorem sX4_placesOf {hp : List mx_C} {i j : Nat} {c0 : mx_C} {f : Int → Int} (h1 : hp[i]? = some (ob 4 [.ref j])) (hij : ¬ j = i) (h2 : hp[j]? = some c0) (hv : RV f) {s : Int} (hs : 0 ≤ s ∧ s < 2147483648) : SpF yX4_placesOf cX4_placesOf 4 (some .int) 2 [.ref i, .int (jI s)] (hp.set j (ia 55 f)) (.int (jI (rw_places f s))) (hp.set j (ia 55 f)) := by
  refine Sp.of [.ref i, .int (jI s), .retAddr 0, .retAddr 0] (by decide) (by simp) (Nat.le_of_ble_eq_true rfl) rfl (fun E => ?_)
  refine J_iconst dX4_placesOf_0 ?_
  refine S_i2 dX4_placesOf_1 (by decide) rfl ?_
  refine J_iconst dX4_placesOf_2 ?_
  refine S_i3 dX4_placesOf_3 (by decide) rfl ?_
  exact lX4_placesOf h1 hij h2 hv hs 8 1 0 (by omega) (by omega) (by omega)

def rw_whg (f : Int → Int) (p : Int) (k : Int) : Option Int := if rw_holds f k ∧ (rw_first f k = p ∨ rw_second f k = p) then some k else none
def rw_who (f : Int → Int) (p : Int) : Int := lpR (rw_whg f p) 8 1 0
set_option maxRecDepth 100000 in
theorem lX4_who {hp : List mx_C} {i j : Nat} {c0 : mx_C} {f : Int → Int} (h1 : hp[i]? = some (ob 4 [.ref j])) (hij : ¬ j = i) (h2 : hp[j]? = some c0) (hf : Bd f) {p : Int} (hp0 : -2147483648 ≤ p ∧ p < 2147483648) {E : mx_E} : ∀ (m : Nat) (k : Int), k + m = 9 → 1 ≤ k → Ev E yX4_who cX4_who 3 (some .int) (kf E 2 (.int (jI (lpR (rw_whg f p) m k 0))) (hp.set j (ia 55 f))) 0 0 2 [.ref i, .int (jI p), .int (jI k)] [] (hp.set j (ia 55 f)) := by
  intro m
  induction m with
  | zero =>
    intro k hk hk1
    refine L_i2 dX4_who_2 ?_
    refine J_bipush dX4_who_3 (by decide) ?_
    refine J_icmp_gt 42 dX4_who_5 rfl (by omega) (by omega) (fun c5 => ?_) (fun c5 => ?_)
    · refine J_iconst dX4_who_42 ?_
      exact R_i rfl dX4_who_43 rfl rfl
    · exfalso; omega
  | succ m ih =>
    intro k hk hk1
    have hr := rw_first_b hf k
    have hr2 := rw_second_b hf k
    refine L_i2 dX4_who_2 ?_
    refine J_bipush dX4_who_3 (by decide) ?_
    refine J_icmp_gt 42 dX4_who_5 rfl (by omega) (by omega) (fun c5 => ?_) (fun c5 => ?_)
    · exfalso; omega
    · refine L_a0 dX4_who_8 ?_
      refine L_i2 dX4_who_9 ?_
      refine C_v1F vX4_36 dX4_who_10 (sX4_holds h1 hij h2 hf (by omega)) (mx_sn hij h1) rfl (Nat.le_of_ble_eq_true rfl) (by decide) ?_
      refine J_ifeqB 36 dX4_who_13 rfl (fun c13 => ?_) (fun c13 => ?_)
      · refine JI_2 dX4_who_36 (by decide) rfl ?_
        refine E_goto 2 dX4_who_39 rfl ?_
        rw [lpR, show rw_whg f p k = none from if_neg (by first | exact fun h => c13 h.1 | exact fun h => h.2.elim c22 c31)]
        exact ih (k + 1) (by omega) (by omega)
      · refine L_a0 dX4_who_16 ?_
        refine L_i2 dX4_who_17 ?_
        refine C_v1F vX4_33 dX4_who_18 (sX4_first h1 hij h2 hf (by omega)) (mx_sn hij h1) rfl (Nat.le_of_ble_eq_true rfl) (by decide) ?_
        refine L_i1 dX4_who_21 ?_
        refine J_icmp_eq 34 dX4_who_22 rfl (by omega) (by omega) (fun c22 => ?_) (fun c22 => ?_)
        · refine L_i2 dX4_who_34 ?_
          exact R_i rfl dX4_who_35 rfl (by rw [lpR, show rw_whg f p k = some k from if_pos ⟨c13, by first | exact Or.inl c22 | exact Or.inr c31⟩])
        · refine L_a0 dX4_who_25 ?_
          refine L_i2 dX4_who_26 ?_
          refine C_v1F vX4_30 dX4_who_27 (sX4_second h1 hij h2 hf (by omega)) (mx_sn hij h1) rfl (Nat.le_of_ble_eq_true rfl) (by decide) ?_
          refine L_i1 dX4_who_30 ?_
          refine J_icmp_ne 36 dX4_who_31 rfl (by omega) (by omega) (fun c31 => ?_) (fun c31 => ?_)
          · refine JI_2 dX4_who_36 (by decide) rfl ?_
            refine E_goto 2 dX4_who_39 rfl ?_
            rw [lpR, show rw_whg f p k = none from if_neg (by first | exact fun h => c13 h.1 | exact fun h => h.2.elim c22 c31)]
            exact ih (k + 1) (by omega) (by omega)
          · refine L_i2 dX4_who_34 ?_
            exact R_i rfl dX4_who_35 rfl (by rw [lpR, show rw_whg f p k = some k from if_pos ⟨c13, by first | exact Or.inl c22 | exact Or.inr c31⟩])

set_option maxRecDepth 100000 in
theorem sX4_who {hp : List mx_C} {i j : Nat} {c0 : mx_C} {f : Int → Int} (h1 : hp[i]? = some (ob 4 [.ref j])) (hij : ¬ j = i) (h2 : hp[j]? = some c0) (hf : Bd f) {p : Int} (hp0 : -2147483648 ≤ p ∧ p < 2147483648) : SpF yX4_who cX4_who 3 (some .int) 2 [.ref i, .int (jI p)] (hp.set j (ia 55 f)) (.int (jI (rw_who f p))) (hp.set j (ia 55 f)) := by
  refine Sp.of [.ref i, .int (jI p), .retAddr 0] (by decide) (by simp) (Nat.le_of_ble_eq_true rfl) rfl (fun E => ?_)
  refine J_iconst dX4_who_0 ?_
  refine S_i2 dX4_who_1 (by decide) rfl ?_
  exact lX4_who h1 hij h2 hf hp0 8 1 (by omega) (by omega)

