/-! ===== Row: what changes it ===== -/
set_option maxRecDepth 100000 in
theorem sX4_stretch {hp : List mx_C} {i j : Nat} {c0 : mx_C} {f : Int → Int} (h1 : hp[i]? = some (ob 4 [.ref j])) (hij : ¬ j = i) (h2 : hp[j]? = some c0) {n : Int} : SpV yX4_stretch cX4_stretch 2 none 0 [.ref i, .int (jI n)] (hp.set j (ia 55 f)) (hp.set j (ia 55 (up f 0 n))) := by
  refine Sp.of [.ref i, .int (jI n)] (by decide) (by simp) (Nat.le_of_ble_eq_true rfl) rfl (fun E => ?_)
  refine L_a0 dX4_stretch_0 ?_
  refine E_getf fX4_11 dX4_stretch_1 (mx_sn hij h1) rfl ?_
  refine J_iconst dX4_stretch_4 ?_
  refine L_i1 dX4_stretch_5 ?_
  refine J_iastS dX4_stretch_6 h2 (by omega) (by decide) ?_
  exact R_v rfl dX4_stretch_7 rfl

set_option maxRecDepth 100000 in
theorem sX4_sow {hp : List mx_C} {i j : Nat} {c0 : mx_C} {f : Int → Int} (h1 : hp[i]? = some (ob 4 [.ref j])) (hij : ¬ j = i) (h2 : hp[j]? = some c0) {n : Int} : SpV yX4_sow cX4_sow 2 none 0 [.ref i, .int (jI n)] (hp.set j (ia 55 f)) (hp.set j (ia 55 (up f 2 n))) := by
  refine Sp.of [.ref i, .int (jI n)] (by decide) (by simp) (Nat.le_of_ble_eq_true rfl) rfl (fun E => ?_)
  refine L_a0 dX4_sow_0 ?_
  refine E_getf fX4_11 dX4_sow_1 (mx_sn hij h1) rfl ?_
  refine J_iconst dX4_sow_4 ?_
  refine L_i1 dX4_sow_5 ?_
  refine J_iastS dX4_sow_6 h2 (by omega) (by decide) ?_
  exact R_v rfl dX4_sow_7 rfl

set_option maxRecDepth 100000 in
theorem sX4_dawn {hp : List mx_C} {i j : Nat} {c0 : mx_C} {f : Int → Int} (h1 : hp[i]? = some (ob 4 [.ref j])) (hij : ¬ j = i) (h2 : hp[j]? = some c0) : SpV yX4_dawn cX4_dawn 1 none 0 [.ref i] (hp.set j (ia 55 f)) (hp.set j (ia 55 (up f 1 (f 1 + 1)))) := by
  refine Sp.of [.ref i] (by decide) (by simp) (Nat.le_of_ble_eq_true rfl) rfl (fun E => ?_)
  refine L_a0 dX4_dawn_0 ?_
  refine E_getf fX4_11 dX4_dawn_1 (mx_sn hij h1) rfl ?_
  refine J_iconst dX4_dawn_4 ?_
  refine E_dup2 dX4_dawn_5 rfl rfl ?_
  refine J_iald dX4_dawn_6 (mx_ss h2) (by omega) (by decide) ?_
  refine J_iconst dX4_dawn_7 ?_
  refine J_iadd dX4_dawn_8 ?_
  refine J_iastS dX4_dawn_9 h2 (by omega) (by decide) ?_
  exact R_v rfl dX4_dawn_10 rfl

set_option maxRecDepth 100000 in
theorem sX4_draw {hp : List mx_C} {i j : Nat} {c0 : mx_C} {f : Int → Int} (h1 : hp[i]? = some (ob 4 [.ref j])) (hij : ¬ j = i) (h2 : hp[j]? = some c0) (hr : 0 ≤ f 2 ∧ f 2 < 31019) : SpF yX4_draw cX4_draw 2 (some .int) 0 [.ref i] (hp.set j (ia 55 f)) (.int (jI (f 2))) (hp.set j (ia 55 (up f 2 ((f 2 * 701 + 571).tmod 31019)))) := by
  refine Sp.of [.ref i, .retAddr 0] (by decide) (by simp) (Nat.le_of_ble_eq_true rfl) rfl (fun E => ?_)
  refine L_a0 dX4_draw_0 ?_
  refine E_getf fX4_11 dX4_draw_1 (mx_sn hij h1) rfl ?_
  refine J_iconst dX4_draw_4 ?_
  refine J_iald dX4_draw_5 (mx_ss h2) (by omega) (by decide) ?_
  refine S_i1 dX4_draw_6 (by decide) rfl ?_
  refine L_a0 dX4_draw_7 ?_
  refine E_getf fX4_11 dX4_draw_8 (mx_sn hij h1) rfl ?_
  refine J_iconst dX4_draw_11 ?_
  refine L_i1 dX4_draw_12 ?_
  refine J_sipush dX4_draw_13 (by decide) ?_
  refine J_imul dX4_draw_16 ?_
  refine J_sipush dX4_draw_17 (by decide) ?_
  refine J_iadd dX4_draw_20 ?_
  refine J_sipush dX4_draw_21 (by decide) ?_
  refine J_irem dX4_draw_24 (by omega) (by omega) (by omega) ?_
  refine J_iastS dX4_draw_25 h2 (by omega) (by decide) ?_
  refine L_i1 dX4_draw_26 ?_
  exact R_i rfl dX4_draw_27 rfl rfl

def rw_at (f : Int → Int) (n : Int) : Int := if 0 ≤ n ∧ n < 25 then f (30 + n) else 0
set_option maxRecDepth 100000 in
theorem sX4_line {hp : List mx_C} {i j : Nat} {c0 : mx_C} {f : Int → Int} (h1 : hp[i]? = some (ob 4 [.ref j])) (hij : ¬ j = i) (h2 : hp[j]? = some c0) (hf : Bd f) {n : Int} (hn : -2147483648 ≤ n ∧ n < 2147483648) : SpF yX4_line cX4_line 2 (some .int) 0 [.ref i, .int (jI n)] (hp.set j (ia 55 f)) (.int (jI (rw_at f n))) (hp.set j (ia 55 f)) := by
  refine Sp.of [.ref i, .int (jI n)] (by decide) (by simp) (Nat.le_of_ble_eq_true rfl) rfl (fun E => ?_)
  refine L_i1 dX4_line_0 ?_
  refine J_if_lt 22 dX4_line_1 rfl (by omega) (fun c1 => ?_) (fun c1 => ?_)
  · refine J_iconst dX4_line_22 ?_
    exact R_i rfl dX4_line_23 rfl (by unfold rw_at; split <;> omega)
  · refine L_i1 dX4_line_4 ?_
    refine J_bipush dX4_line_5 (by decide) ?_
    refine J_icmp_ge 22 dX4_line_7 rfl (by omega) (by omega) (fun c7 => ?_) (fun c7 => ?_)
    · refine J_iconst dX4_line_22 ?_
      exact R_i rfl dX4_line_23 rfl (by unfold rw_at; split <;> omega)
    · refine L_a0 dX4_line_10 ?_
      refine E_getf fX4_11 dX4_line_11 (mx_sn hij h1) rfl ?_
      refine J_bipush dX4_line_14 (by decide) ?_
      refine L_i1 dX4_line_16 ?_
      refine J_iadd dX4_line_17 ?_
      refine J_ialdB dX4_line_18 (mx_ss h2) (by omega) (by decide) hf (fun b18 => ?_)
      refine E_goto 23 dX4_line_19 rfl ?_
      exact R_i rfl dX4_line_23 rfl (by unfold rw_at; split <;> omega)

set_option maxRecDepth 100000 in
theorem sX4_lineDate {hp : List mx_C} {n : Int} (hn : 0 ≤ n ∧ n < 2147483648) : SpF yX4_lineDate cX4_lineDate 1 (some .int) 0 [.int (jI n)] hp (.int (jI (n / 1024))) hp := by
  refine Sp.of [.int (jI n)] (by decide) (by simp) (Nat.le_of_ble_eq_true rfl) rfl (fun E => ?_)
  refine L_i0 dX4_lineDate_0 ?_
  refine J_bipush dX4_lineDate_1 (by decide) ?_
  refine J_iushrG dX4_lineDate_3 (by omega) (by omega) ?_
  exact R_i rfl dX4_lineDate_4 rfl rfl

set_option maxRecDepth 100000 in
theorem sX4_lineNumber {hp : List mx_C} {n : Int} (hn : 0 ≤ n ∧ n < 2147483648) : SpF yX4_lineNumber cX4_lineNumber 1 (some .int) 0 [.int (jI n)] hp (.int (jI (n / 64 % 16))) hp := by
  refine Sp.of [.int (jI n)] (by decide) (by simp) (Nat.le_of_ble_eq_true rfl) rfl (fun E => ?_)
  refine L_i0 dX4_lineNumber_0 ?_
  refine J_bipush dX4_lineNumber_1 (by decide) ?_
  refine J_iushrG dX4_lineNumber_3 (by omega) (by omega) ?_
  refine J_bipush dX4_lineNumber_4 (by decide) ?_
  refine J_imask 4 (by decide) (by decide) dX4_lineNumber_6 ?_
  exact R_i rfl dX4_lineNumber_7 rfl rfl

set_option maxRecDepth 100000 in
theorem sX4_lineKind {hp : List mx_C} {n : Int} (hn : 0 ≤ n ∧ n < 2147483648) : SpF yX4_lineKind cX4_lineKind 1 (some .int) 0 [.int (jI n)] hp (.int (jI (n / 16 % 4))) hp := by
  refine Sp.of [.int (jI n)] (by decide) (by simp) (Nat.le_of_ble_eq_true rfl) rfl (fun E => ?_)
  refine L_i0 dX4_lineKind_0 ?_
  refine J_iconst dX4_lineKind_1 ?_
  refine J_iushrG dX4_lineKind_2 (by omega) (by omega) ?_
  refine J_iconst dX4_lineKind_3 ?_
  refine J_imask 2 (by decide) (by decide) dX4_lineKind_4 ?_
  exact R_i rfl dX4_lineKind_5 rfl rfl

set_option maxRecDepth 100000 in
theorem sX4_linePlace {hp : List mx_C} {n : Int} (hn : 0 ≤ n ∧ n < 2147483648) : SpF yX4_linePlace cX4_linePlace 1 (some .int) 0 [.int (jI n)] hp (.int (jI (n % 16))) hp := by
  refine Sp.of [.int (jI n)] (by decide) (by simp) (Nat.le_of_ble_eq_true rfl) rfl (fun E => ?_)
  refine L_i0 dX4_linePlace_0 ?_
  refine J_bipush dX4_linePlace_1 (by decide) ?_
  refine J_imask 4 (by decide) (by decide) dX4_linePlace_3 ?_
  exact R_i rfl dX4_linePlace_4 rfl rfl

def rw_line (f : Int → Int) (n kd p : Int) : Int := bor (bor (bor (f 1 * 1024) (n * 64)) (kd * 16)) p
def rw_write (f : Int → Int) (n kd p : Int) : Int → Int := if 25 ≤ f 5 then up (up (cpy f f 31 30 24) 54 (rw_line f n kd p)) 5 25 else up (up f (30 + f 5) (rw_line f n kd p)) 5 (f 5 + 1)
theorem rw_write_lo {f : Int → Int} {n kd p q : Int} (hf : 0 ≤ f 5) (h : q < 30) (h5 : ¬ q = 5) : rw_write f n kd p q = f q := by
  unfold rw_write
  split
  · rw [up_n h5, up_n (by omega)]
    unfold cpy
    rw [if_neg (by omega)]
  · rw [up_n h5, up_n (by omega)]
theorem rw_line_B {f : Int → Int} {n kd p : Int} (h1 : 0 ≤ f 1 ∧ f 1 ≤ 9999) (hn : 0 ≤ n ∧ n ≤ 8) (hk : 0 ≤ kd ∧ kd ≤ 2) (hp : 0 ≤ p ∧ p ≤ 15) : 0 ≤ rw_line f n kd p ∧ rw_line f n kd p < 16777216 := by
  unfold rw_line
  exact ⟨bor_nn _ _, bor_lt 24 (bor_lt 24 (bor_lt 24 (by omega) (by omega)) (by omega)) (by omega)⟩
set_option maxRecDepth 100000 in
theorem sX4_write {hp : List mx_C} {i j : Nat} {c0 : mx_C} {f : Int → Int} (h1 : hp[i]? = some (ob 4 [.ref j])) (hij : ¬ j = i) (h2 : hp[j]? = some c0) (hf : Bd f) (h5 : 0 ≤ f 5 ∧ f 5 ≤ 25) (hd1 : 0 ≤ f 1 ∧ f 1 ≤ 9999) {n kd p : Int} (hn : 0 ≤ n ∧ n ≤ 8) (hk : 0 ≤ kd ∧ kd ≤ 2) (hp0 : 0 ≤ p ∧ p ≤ 15) : SpV yX4_write cX4_write 5 none 1 [.ref i, .int (jI n), .int (jI kd), .int (jI p)] (hp.set j (ia 55 f)) (hp.set j (ia 55 (rw_write f n kd p))) := by
  refine Sp.of [.ref i, .int (jI n), .int (jI kd), .int (jI p), .retAddr 0] (by decide) (by simp) (Nat.le_of_ble_eq_true rfl) rfl (fun E => ?_)
  refine L_a0 dX4_write_0 ?_
  refine E_getf fX4_11 dX4_write_1 (mx_sn hij h1) rfl ?_
  refine J_iconst dX4_write_4 ?_
  refine J_ialdB dX4_write_5 (mx_ss h2) (by omega) (by decide) hf (fun b5 => ?_)
  refine S_i4 dX4_write_6 (by decide) rfl ?_
  refine L_i4 dX4_write_8 ?_
  refine J_bipush dX4_write_10 (by decide) ?_
  refine J_icmp_lt 36 dX4_write_12 rfl (by omega) (by omega) (fun c12 => ?_) (fun c12 => ?_)
  · refine L_i4 dX4_write_36 ?_
    refine J_if_lt 81 dX4_write_38 rfl (by omega) (fun c38 => ?_) (fun c38 => ?_)
    · exfalso; omega
    · refine L_a0 dX4_write_41 ?_
      refine E_getf fX4_11 dX4_write_42 (mx_sn hij h1) rfl ?_
      refine J_bipush dX4_write_45 (by decide) ?_
      refine L_i4 dX4_write_47 ?_
      refine J_iadd dX4_write_49 ?_
      refine L_a0 dX4_write_50 ?_
      refine E_getf fX4_11 dX4_write_51 (mx_sn hij h1) rfl ?_
      refine J_iconst dX4_write_54 ?_
      refine J_iald dX4_write_55 (mx_ss h2) (by omega) (by decide) ?_
      refine J_eqi (b := f 1) (by first | rfl | (unfold cpy; rw [if_neg (by omega)])) ?_
      refine J_bipush dX4_write_56 (by decide) ?_
      refine J_ishl dX4_write_58 (by omega) ?_
      refine L_i1 dX4_write_59 ?_
      refine J_bipush dX4_write_60 (by decide) ?_
      refine J_ishl dX4_write_62 (by omega) ?_
      refine J_iorG dX4_write_63 (by show 0 ≤ f 1 * 1024; omega) (by show 0 ≤ n * 64; omega) ?_
      refine L_i2 dX4_write_64 ?_
      refine J_iconst dX4_write_65 ?_
      refine J_ishl dX4_write_66 (by omega) ?_
      refine J_iorG dX4_write_67 (bor_nn _ _) (by show 0 ≤ kd * 16; omega) ?_
      refine L_i3 dX4_write_68 ?_
      refine J_iorG dX4_write_69 (bor_nn _ _) (by omega) ?_
      refine J_iastS dX4_write_70 h2 (by omega) (by decide) ?_
      refine L_a0 dX4_write_71 ?_
      refine E_getf fX4_11 dX4_write_72 (mx_sn hij h1) rfl ?_
      refine J_iconst dX4_write_75 ?_
      refine L_i4 dX4_write_76 ?_
      refine J_iconst dX4_write_78 ?_
      refine J_iadd dX4_write_79 ?_
      refine J_iastS dX4_write_80 h2 (by omega) (by decide) ?_
      exact R_v rfl dX4_write_81 (by unfold rw_write; first | (rw [if_pos c12]; rfl) | (rw [if_neg (by omega)]; rfl))
  · refine L_a0 dX4_write_15 ?_
    refine E_getf fX4_11 dX4_write_16 (mx_sn hij h1) rfl ?_
    refine J_bipush dX4_write_19 (by decide) ?_
    refine L_a0 dX4_write_21 ?_
    refine E_getf fX4_11 dX4_write_22 (mx_sn hij h1) rfl ?_
    refine J_bipush dX4_write_25 (by decide) ?_
    refine J_bipush dX4_write_27 (by decide) ?_
    refine J_copyS aX4_15 dX4_write_29 h2 (by omega) (by omega) (by omega) (by omega) (by omega) (by decide) (Nat.le_of_ble_eq_true rfl) ⟨by show 1 ≤ 1; decide, by show 64 ≤ 64 * 1; decide⟩ ?_
    refine J_bipush dX4_write_32 (by decide) ?_
    refine S_i4 dX4_write_34 (by decide) rfl ?_
    refine L_i4 dX4_write_36 ?_
    refine J_if_lt 81 dX4_write_38 rfl (by omega) (fun c38 => ?_) (fun c38 => ?_)
    · exfalso; omega
    · refine L_a0 dX4_write_41 ?_
      refine E_getf fX4_11 dX4_write_42 (mx_sn hij h1) rfl ?_
      refine J_bipush dX4_write_45 (by decide) ?_
      refine L_i4 dX4_write_47 ?_
      refine J_iadd dX4_write_49 ?_
      refine L_a0 dX4_write_50 ?_
      refine E_getf fX4_11 dX4_write_51 (mx_sn hij h1) rfl ?_
      refine J_iconst dX4_write_54 ?_
      refine J_iald dX4_write_55 (mx_ss h2) (by omega) (by decide) ?_
      refine J_eqi (b := f 1) (by first | rfl | (unfold cpy; rw [if_neg (by omega)])) ?_
      refine J_bipush dX4_write_56 (by decide) ?_
      refine J_ishl dX4_write_58 (by omega) ?_
      refine L_i1 dX4_write_59 ?_
      refine J_bipush dX4_write_60 (by decide) ?_
      refine J_ishl dX4_write_62 (by omega) ?_
      refine J_iorG dX4_write_63 (by show 0 ≤ f 1 * 1024; omega) (by show 0 ≤ n * 64; omega) ?_
      refine L_i2 dX4_write_64 ?_
      refine J_iconst dX4_write_65 ?_
      refine J_ishl dX4_write_66 (by omega) ?_
      refine J_iorG dX4_write_67 (bor_nn _ _) (by show 0 ≤ kd * 16; omega) ?_
      refine L_i3 dX4_write_68 ?_
      refine J_iorG dX4_write_69 (bor_nn _ _) (by omega) ?_
      refine J_iastS dX4_write_70 h2 (by omega) (by decide) ?_
      refine L_a0 dX4_write_71 ?_
      refine E_getf fX4_11 dX4_write_72 (mx_sn hij h1) rfl ?_
      refine J_iconst dX4_write_75 ?_
      refine L_i4 dX4_write_76 ?_
      refine J_iconst dX4_write_78 ?_
      refine J_iadd dX4_write_79 ?_
      refine J_iastS dX4_write_80 h2 (by omega) (by decide) ?_
      exact R_v rfl dX4_write_81 (by unfold rw_write; first | (rw [if_pos c12]; rfl) | (rw [if_neg (by omega)]; rfl))

def rw_age (f : Int → Int) (n : Int) : Int → Int := if rw_holds f n ∧ f (21 + n) < 99 then up f (21 + n) (f (21 + n) + 1) else f
set_option maxRecDepth 100000 in
theorem sX4_age {hp : List mx_C} {i j : Nat} {c0 : mx_C} {f : Int → Int} (h1 : hp[i]? = some (ob 4 [.ref j])) (hij : ¬ j = i) (h2 : hp[j]? = some c0) (hf : Bd f) {n : Int} (hn : 1 ≤ n ∧ n ≤ 8) : SpV yX4_age cX4_age 2 none 1 [.ref i, .int (jI n)] (hp.set j (ia 55 f)) (hp.set j (ia 55 (rw_age f n))) := by
  refine Sp.of [.ref i, .int (jI n)] (by decide) (by simp) (Nat.le_of_ble_eq_true rfl) rfl (fun E => ?_)
  refine L_a0 dX4_age_0 ?_
  refine L_i1 dX4_age_1 ?_
  refine C_v1F vX4_36 dX4_age_2 (sX4_holds h1 hij h2 hf (by omega)) (mx_sn hij h1) rfl (Nat.le_of_ble_eq_true rfl) (by decide) ?_
  refine J_ifeqB 35 dX4_age_5 rfl (fun c5 => ?_) (fun c5 => ?_)
  · exact R_v rfl dX4_age_35 (by unfold rw_age; split <;> first | rfl | (exfalso; omega))
  · refine L_a0 dX4_age_8 ?_
    refine E_getf fX4_11 dX4_age_9 (mx_sn hij h1) rfl ?_
    refine J_bipush dX4_age_12 (by decide) ?_
    refine L_i1 dX4_age_14 ?_
    refine J_iadd dX4_age_15 ?_
    refine J_ialdB dX4_age_16 (mx_ss h2) (by omega) (by decide) hf (fun b16 => ?_)
    refine J_bipush dX4_age_17 (by decide) ?_
    refine J_icmp_ge 35 dX4_age_19 rfl (by omega) (by omega) (fun c19 => ?_) (fun c19 => ?_)
    · exact R_v rfl dX4_age_35 (by unfold rw_age; split <;> first | rfl | (exfalso; omega))
    · refine L_a0 dX4_age_22 ?_
      refine E_getf fX4_11 dX4_age_23 (mx_sn hij h1) rfl ?_
      refine J_bipush dX4_age_26 (by decide) ?_
      refine L_i1 dX4_age_28 ?_
      refine J_iadd dX4_age_29 ?_
      refine E_dup2 dX4_age_30 rfl rfl ?_
      refine J_ialdB dX4_age_31 (mx_ss h2) (by omega) (by decide) hf (fun b31 => ?_)
      refine J_iconst dX4_age_32 ?_
      refine J_iadd dX4_age_33 ?_
      refine J_iastS dX4_age_34 h2 (by omega) (by decide) ?_
      exact R_v rfl dX4_age_35 (by unfold rw_age; split <;> first | rfl | (exfalso; omega))

def rw_ent (f : Int → Int) (n p s : Int) : Int → Int := up (up (up (up f (5 + n) p) (13 + n) s) 3 (bor (f 3) (bsh (n - 1)))) 4 (bor (f 4) (bor (bsh p) (bsh s)))
def rw_enter (f : Int → Int) (n p s : Int) : Int → Int := rw_write (rw_ent f n p s) n 0 p
set_option maxRecDepth 100000 in
theorem sX4_enter {hp : List mx_C} {i j : Nat} {c0 : mx_C} {f : Int → Int} (h1 : hp[i]? = some (ob 4 [.ref j])) (hij : ¬ j = i) (h2 : hp[j]? = some c0) (hv : RV f) {n p s : Int} (hn : 1 ≤ n ∧ n ≤ 8) (hnh : f (5 + n) < 0) (hp0 : 0 ≤ p ∧ p ≤ 15) (hs0 : 0 ≤ s ∧ s ≤ 15) : SpV yX4_enter cX4_enter 4 none 2 [.ref i, .int (jI n), .int (jI p), .int (jI s)] (hp.set j (ia 55 f)) (hp.set j (ia 55 (rw_enter f n p s))) := by
  have hf := hv.1
  have hr := hv.2
  have hb3 : Bd (up (up (up f (5 + n) p) (13 + n) s) 3 (bor (f 3) (bsh (n - 1)))) := Bd_up (Bd_up (Bd_up hf (by omega)) (by omega)) (by
    have := bor_lt 8 (by omega) (bsh_lt (k := n - 1) 8 (by omega) (by decide)) (a := f 3)
    have := bor_nn (f 3) (bsh (n - 1))
    omega)
  have hb4 : Bd (rw_ent f n p s) := Bd_up hb3 (by
    have := bor_lt 16 (by omega) (bor_lt 16 (bsh_lt (k := p) 16 (by omega) (by decide)) (bsh_lt (k := s) 16 (by omega) (by decide))) (a := f 4)
    have := bor_nn (f 4) (bor (bsh p) (bsh s))
    omega)
  have hs1 : (up (up (up f (5 + n) p) (13 + n) s) 3 (bor (f 3) (bsh (n - 1)))) (5 + n) = p := by rw [up_n (by omega), up_n (by omega), up_s]
  have hs2 : (up (up (up f (5 + n) p) (13 + n) s) 3 (bor (f 3) (bsh (n - 1)))) (13 + n) = s := by rw [up_n (by omega), up_s]
  have hold3 : rw_holds (up (up (up f (5 + n) p) (13 + n) s) 3 (bor (f 3) (bsh (n - 1)))) n := ⟨hn, by rw [hs1]; omega⟩
  have e5 : rw_ent f n p s 5 = f 5 := by unfold rw_ent; rw [up_n (by omega), up_n (by omega), up_n (by omega), up_n (by omega)]
  have e1 : rw_ent f n p s 1 = f 1 := by unfold rw_ent; rw [up_n (by omega), up_n (by omega), up_n (by omega), up_n (by omega)]
  refine Sp.of [.ref i, .int (jI n), .int (jI p), .int (jI s)] (by decide) (by simp) (Nat.le_of_ble_eq_true rfl) rfl (fun E => ?_)
  refine L_i1 dX4_enter_0 ?_
  refine C_s1F vX4_50 dX4_enter_1 (sX10_isNumber (by omega)) (Nat.le_of_ble_eq_true rfl) (by decide) ?_
  refine J_ifeqB 15 dX4_enter_4 rfl (fun c4 => ?_) (fun c4 => ?_)
  · exfalso; omega
  · refine L_a0 dX4_enter_7 ?_
    refine L_i1 dX4_enter_8 ?_
    refine C_v1F vX4_36 dX4_enter_9 (sX4_holds h1 hij h2 hf (by omega)) (mx_sn hij h1) rfl (Nat.le_of_ble_eq_true rfl) (by decide) ?_
    refine J_ifeqB 16 dX4_enter_12 rfl (fun c12 => ?_) (fun c12 => ?_)
    · refine L_a0 dX4_enter_16 ?_
      refine E_getf fX4_11 dX4_enter_17 (mx_sn hij h1) rfl ?_
      refine J_iconst dX4_enter_20 ?_
      refine L_i1 dX4_enter_21 ?_
      refine J_iadd dX4_enter_22 ?_
      refine L_i2 dX4_enter_23 ?_
      refine J_iastS dX4_enter_24 h2 (by omega) (by decide) ?_
      refine L_a0 dX4_enter_25 ?_
      refine E_getf fX4_11 dX4_enter_26 (mx_sn hij h1) rfl ?_
      refine J_bipush dX4_enter_29 (by decide) ?_
      refine L_i1 dX4_enter_31 ?_
      refine J_iadd dX4_enter_32 ?_
      refine L_i3 dX4_enter_33 ?_
      refine J_iastS dX4_enter_34 h2 (by omega) (by decide) ?_
      refine L_a0 dX4_enter_35 ?_
      refine E_getf fX4_11 dX4_enter_36 (mx_sn hij h1) rfl ?_
      refine J_iconst dX4_enter_39 ?_
      refine E_dup2 dX4_enter_40 rfl rfl ?_
      refine J_iald dX4_enter_41 (mx_ss h2) (by omega) (by decide) ?_
      refine J_eqi (b := f 3) (by rw [up_n (by omega), up_n (by omega)]) ?_
      refine L_i1 dX4_enter_42 ?_
      refine C_s1F vX4_40 dX4_enter_43 (sX10_bitOf (by omega)) (Nat.le_of_ble_eq_true rfl) (by decide) ?_
      refine J_iorG dX4_enter_46 (by omega) (bsh_nn _) ?_
      refine J_iastS dX4_enter_47 h2 (by omega) (by decide) ?_
      refine L_a0 dX4_enter_48 ?_
      refine E_getf fX4_11 dX4_enter_49 (mx_sn hij h1) rfl ?_
      refine J_iconst dX4_enter_52 ?_
      refine E_dup2 dX4_enter_53 rfl rfl ?_
      refine J_iald dX4_enter_54 (mx_ss h2) (by omega) (by decide) ?_
      refine J_eqi (b := f 4) (by rw [up_n (by omega), up_n (by omega), up_n (by omega)]) ?_
      refine L_a0 dX4_enter_55 ?_
      refine L_i1 dX4_enter_56 ?_
      refine C_v1F vX4_43 dX4_enter_57 (sX4_pairOf h1 hij h2 hb3 (by omega) (fun _ => by rw [hs1, hs2]; omega)) (mx_sn hij h1) rfl (Nat.le_of_ble_eq_true rfl) (by decide) ?_
      refine J_eqi (b := bor (bsh p) (bsh s)) (by rw [rw_pair, if_pos hold3, hs1, hs2]) ?_
      refine J_iorG dX4_enter_60 (by omega) (bor_nn _ _) ?_
      refine J_iastS dX4_enter_61 h2 (by omega) (by decide) ?_
      refine L_a0 dX4_enter_62 ?_
      refine L_i1 dX4_enter_63 ?_
      refine J_iconst dX4_enter_64 ?_
      refine L_i2 dX4_enter_65 ?_
      refine C_v3V vX4_53 dX4_enter_66 (sX4_write h1 hij h2 hb4 (by rw [e5]; omega) (by rw [e1]; omega) (by omega) (by omega) (by omega)) (mx_sn hij h1) rfl (Nat.le_of_ble_eq_true rfl) (by decide) ?_
      exact R_v rfl dX4_enter_69 rfl
    · exfalso; omega

def rw_dep (f : Int → Int) (n : Int) (g : Int → Int) : Int → Int := up (up (up (up (up g 3 (bdf (f 3) (bsh (n - 1)))) 4 (bdf (f 4) (rw_pair f n))) (5 + n) (-1)) (13 + n) (-1)) (21 + n) 0
def rw_depart (f : Int → Int) (n kd : Int) : Int → Int := rw_dep f n (rw_write f n kd (f (5 + n)))
theorem rw_pair_congr {f g : Int → Int} {n : Int} (h1 : f (5 + n) = g (5 + n)) (h2 : f (13 + n) = g (13 + n)) : rw_pair f n = rw_pair g n := by
  unfold rw_pair rw_holds
  rw [h1, h2]
theorem rw_write_Bd {f : Int → Int} {n kd p : Int} (hf : Bd f) (h5 : 0 ≤ f 5 ∧ f 5 ≤ 25) (h1 : 0 ≤ f 1 ∧ f 1 ≤ 9999) (hn : 0 ≤ n ∧ n ≤ 8) (hk : 0 ≤ kd ∧ kd ≤ 2) (hp : 0 ≤ p ∧ p ≤ 15) : Bd (rw_write f n kd p) := by
  have hl := rw_line_B h1 hn hk hp
  unfold rw_write
  split
  · refine Bd_up (Bd_up ?_ (by omega)) (by omega)
    intro q
    unfold cpy
    split <;> exact hf _
  · exact Bd_up (Bd_up hf (by omega)) (by omega)
set_option maxRecDepth 100000 in
theorem sX4_depart {hp : List mx_C} {i j : Nat} {c0 : mx_C} {f : Int → Int} (h1 : hp[i]? = some (ob 4 [.ref j])) (hij : ¬ j = i) (h2 : hp[j]? = some c0) (hv : RV f) {n kd : Int} (hn : 1 ≤ n ∧ n ≤ 8) (hh : 0 ≤ f (5 + n)) (hk : 0 ≤ kd ∧ kd ≤ 2) : SpV yX4_depart cX4_depart 3 none 2 [.ref i, .int (jI n), .int (jI kd)] (hp.set j (ia 55 f)) (hp.set j (ia 55 (rw_depart f n kd))) := by
  have hf := hv.1
  have hr := hv.2
  have hh2 := hv.at hn
  have hb3 : Bd (up (rw_write f n kd (f (5 + n))) 3 (bdf (f 3) (bsh (n - 1)))) := Bd_up (rw_write_Bd hf (by omega) (by omega) (by omega) (by omega) (by omega)) (by
    have := bdf_le (f 3) (bsh (n - 1)) (by omega)
    have := bdf_nn (f 3) (bsh (n - 1))
    omega)
  have hs1 : (up (rw_write f n kd (f (5 + n))) 3 (bdf (f 3) (bsh (n - 1)))) (5 + n) = f (5 + n) := by rw [up_n (by omega)]; exact rw_write_lo (by omega) (by omega) (by omega)
  have hs2 : (up (rw_write f n kd (f (5 + n))) 3 (bdf (f 3) (bsh (n - 1)))) (13 + n) = f (13 + n) := by rw [up_n (by omega)]; exact rw_write_lo (by omega) (by omega) (by omega)
  refine Sp.of [.ref i, .int (jI n), .int (jI kd)] (by decide) (by simp) (Nat.le_of_ble_eq_true rfl) rfl (fun E => ?_)
  refine L_a0 dX4_depart_0 ?_
  refine L_i1 dX4_depart_1 ?_
  refine C_v1F vX4_36 dX4_depart_2 (sX4_holds h1 hij h2 hf (by omega)) (mx_sn hij h1) rfl (Nat.le_of_ble_eq_true rfl) (by decide) ?_
  refine J_ifneB 9 dX4_depart_5 rfl (fun c5 => ?_) (fun c5 => ?_)
  · refine L_a0 dX4_depart_9 ?_
    refine L_i1 dX4_depart_10 ?_
    refine L_i2 dX4_depart_11 ?_
    refine L_a0 dX4_depart_12 ?_
    refine L_i1 dX4_depart_13 ?_
    refine C_v1F vX4_33 dX4_depart_14 (sX4_first h1 hij h2 hf (by omega)) (mx_sn hij h1) rfl (Nat.le_of_ble_eq_true rfl) (by decide) ?_
    refine J_eqi (b := f (5 + n)) (by unfold rw_first; rw [if_pos hn]) ?_
    refine C_v3V vX4_53 dX4_depart_17 (sX4_write h1 hij h2 hf (by omega) (by omega) (by omega) (by omega) (by omega)) (mx_sn hij h1) rfl (Nat.le_of_ble_eq_true rfl) (by decide) ?_
    refine L_a0 dX4_depart_20 ?_
    refine E_getf fX4_11 dX4_depart_21 (mx_sn hij h1) rfl ?_
    refine J_iconst dX4_depart_24 ?_
    refine E_dup2 dX4_depart_25 rfl rfl ?_
    refine J_iald dX4_depart_26 (mx_ss h2) (by omega) (by decide) ?_
    refine J_eqi (b := f 3) (rw_write_lo (by omega) (by omega) (by omega)) ?_
    refine L_i1 dX4_depart_27 ?_
    refine C_s1F vX4_40 dX4_depart_28 (sX10_bitOf (by omega)) (Nat.le_of_ble_eq_true rfl) (by decide) ?_
    refine J_iconst dX4_depart_31 ?_
    refine J_inot dX4_depart_32 ?_
    refine J_iandD dX4_depart_33 (by omega) (bsh_nn _) ?_
    refine J_iastS dX4_depart_34 h2 (by omega) (by decide) ?_
    refine L_a0 dX4_depart_35 ?_
    refine E_getf fX4_11 dX4_depart_36 (mx_sn hij h1) rfl ?_
    refine J_iconst dX4_depart_39 ?_
    refine E_dup2 dX4_depart_40 rfl rfl ?_
    refine J_iald dX4_depart_41 (mx_ss h2) (by omega) (by decide) ?_
    refine J_eqi (b := f 4) (by rw [up_n (by omega)]; exact rw_write_lo (by omega) (by omega) (by omega)) ?_
    refine L_a0 dX4_depart_42 ?_
    refine L_i1 dX4_depart_43 ?_
    refine C_v1F vX4_43 dX4_depart_44 (sX4_pairOf h1 hij h2 hb3 (by omega) (fun _ => by rw [hs1, hs2]; omega)) (mx_sn hij h1) rfl (Nat.le_of_ble_eq_true rfl) (by decide) ?_
    refine J_eqi (b := rw_pair f n) (rw_pair_congr hs1 hs2) ?_
    refine J_iconst dX4_depart_47 ?_
    refine J_inot dX4_depart_48 ?_
    refine J_iandD dX4_depart_49 (by omega) (rw_pair_B hv _).1 ?_
    refine J_iastS dX4_depart_50 h2 (by omega) (by decide) ?_
    refine L_a0 dX4_depart_51 ?_
    refine E_getf fX4_11 dX4_depart_52 (mx_sn hij h1) rfl ?_
    refine J_iconst dX4_depart_55 ?_
    refine L_i1 dX4_depart_56 ?_
    refine J_iadd dX4_depart_57 ?_
    refine J_iconst dX4_depart_58 ?_
    refine J_iastS dX4_depart_59 h2 (by omega) (by decide) ?_
    refine L_a0 dX4_depart_60 ?_
    refine E_getf fX4_11 dX4_depart_61 (mx_sn hij h1) rfl ?_
    refine J_bipush dX4_depart_64 (by decide) ?_
    refine L_i1 dX4_depart_66 ?_
    refine J_iadd dX4_depart_67 ?_
    refine J_iconst dX4_depart_68 ?_
    refine J_iastS dX4_depart_69 h2 (by omega) (by decide) ?_
    refine L_a0 dX4_depart_70 ?_
    refine E_getf fX4_11 dX4_depart_71 (mx_sn hij h1) rfl ?_
    refine J_bipush dX4_depart_74 (by decide) ?_
    refine L_i1 dX4_depart_76 ?_
    refine J_iadd dX4_depart_77 ?_
    refine J_iconst dX4_depart_78 ?_
    refine J_iastS dX4_depart_79 h2 (by omega) (by decide) ?_
    exact R_v rfl dX4_depart_80 rfl
  · exfalso; omega

