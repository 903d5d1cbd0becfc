/-! ===== the class: the finder's small questions ===== -/
/-- the finder knows the distances -/
def FA (S : Nat → Int → Int) : Prop := ∀ n, 1 ≤ n ∧ n ≤ 8 → 0 ≤ S 22 n ∧ S 22 n ≤ 15
def FL (S : Nat → Int → Int) : Prop := ∀ n, 1 ≤ n ∧ n ≤ 8 → (0 ≤ S 23 n ∧ S 23 n < 256) ∧ (0 ≤ S 24 n ∧ S 24 n < 256)
def fsf (a : Int → Int) (n fr : Int) : Int := ban fr (fr / 2 ^ (a n).toNat)
def fpr (a : Int → Int) (n p : Int) : Int := bor (bsh p) (bsh (p + a n))
abbrev fsp (b : Int → Int) (s n : Int) : Prop := ¬ ban s (bsh (n - 1)) = 0 ∧ ban s (b n) = 0
theorem fsf_B (a : Int → Int) (n : Int) {fr : Int} (h : 0 ≤ fr) : 0 ≤ fsf a n fr ∧ fsf a n fr ≤ fr := ⟨ban_nn _ _, ban_le' _ _ h⟩
theorem ediv2_B {x : Int} (h : 0 ≤ x) (k : Nat) : 0 ≤ x / 2 ^ k ∧ x / 2 ^ k ≤ x := ⟨Int.ediv_nonneg h (Int.pow_nonneg (by decide)), Int.ediv_le_self _ h⟩
set_option maxRecDepth 100000 in
theorem qX0_apart {S T : Nat → Int → Int} {D : List mx_C} (hA : FA S) {n : Int} (h_n : -2147483648 ≤ n ∧ n < 2147483648) : SpF yX0_apart cX0_apart 2 (some .int) 1 [.ref 21, .int (jI n)] (W5 S T D) (.int (jI (if 1 ≤ n ∧ n ≤ 8 then S 22 n else 0))) (W5 S T D) := by
  refine Sp.of [.ref 21, .int (jI n)] (by decide) (by simp) (Nat.le_of_ble_eq_true rfl) rfl (fun E => ?_)
  refine L_i1 dX0_apart_0 ?_
  refine C_s1F vX0_39 dX0_apart_1 (sX10_isNumber (by omega)) (Nat.le_of_ble_eq_true rfl) (by decide) ?_
  refine J_ifeqB 16 dX0_apart_4 rfl (fun c4 => ?_) (fun c4 => ?_)
  · refine J_iconst dX0_apart_16 ?_
    exact R_i rfl dX0_apart_17 rfl (by first | rw [if_pos (by omega)] | rw [if_neg (by omega)])
  · refine L_a0 dX0_apart_7 ?_
    refine GW_21_0 fX0_11 dX0_apart_8 ?_
    refine L_i1 dX0_apart_11 ?_
    refine AR_22 dX0_apart_12 (by omega) ?_
    refine E_goto 17 dX0_apart_13 rfl ?_
    exact R_i rfl dX0_apart_17 rfl (by first | rw [if_pos (by omega)] | rw [if_neg (by omega)])

set_option maxRecDepth 100000 in
theorem qX0_speaks {S T : Nat → Int → Int} {D : List mx_C} (hL : FL S) {s : Int} (h_s : 0 ≤ s ∧ s < 256) {n : Int} (h_n : 1 ≤ n ∧ n ≤ 8) : SpF yX0_speaks cX0_speaks 3 (some .boolean) 0 [.ref 21, .int (jI s), .int (jI n)] (W5 S T D) (.int (jI (jb (fsp (S 24) s n)))) (W5 S T D) := by
  have hn := hL n h_n
  have b1 := ban_nn s (bsh (n - 1))
  have b2 := ban_le' s (bsh (n - 1)) (by omega)
  have b3 := ban_nn s (S 24 n)
  have b4 := ban_le' s (S 24 n) (by omega)
  refine Sp.of [.ref 21, .int (jI s), .int (jI n)] (by decide) (by simp) (Nat.le_of_ble_eq_true rfl) rfl (fun E => ?_)
  refine L_i1 dX0_speaks_0 ?_
  refine J_iconst dX0_speaks_1 ?_
  refine L_i2 dX0_speaks_2 ?_
  refine J_iconst dX0_speaks_3 ?_
  refine J_isub dX0_speaks_4 ?_
  refine J_1shl dX0_speaks_5 (by omega) ?_
  refine J_iandG dX0_speaks_6 (by omega) (bsh_nn _) ?_
  refine J_if_eq 25 dX0_speaks_7 rfl (by omega) (fun c7 => ?_) (fun c7 => ?_)
  · refine J_iconst dX0_speaks_25 ?_
    exact R_z rfl dX0_speaks_26 (by decide) rfl (by first | exact (jb_t (by omega)).symm | exact (jb_f (by omega)).symm)
  · refine L_i1 dX0_speaks_10 ?_
    refine L_a0 dX0_speaks_11 ?_
    refine GW_21_2 fX0_18 dX0_speaks_12 ?_
    refine L_i2 dX0_speaks_15 ?_
    refine AR_24 dX0_speaks_16 (by omega) ?_
    refine J_iandG dX0_speaks_17 (by omega) (by omega) ?_
    refine J_if_ne 25 dX0_speaks_18 rfl (by omega) (fun c18 => ?_) (fun c18 => ?_)
    · refine J_iconst dX0_speaks_25 ?_
      exact R_z rfl dX0_speaks_26 (by decide) rfl (by first | exact (jb_t (by omega)).symm | exact (jb_f (by omega)).symm)
    · refine J_iconst dX0_speaks_21 ?_
      refine E_goto 26 dX0_speaks_22 rfl ?_
      exact R_z rfl dX0_speaks_26 (by decide) rfl (by first | exact (jb_t (by omega)).symm | exact (jb_f (by omega)).symm)

set_option maxRecDepth 100000 in
theorem qX0_firstsOf {S T : Nat → Int → Int} {D : List mx_C} (hA : FA S) {n : Int} (h_n : 1 ≤ n ∧ n ≤ 8) {fr : Int} (h_fr : 0 ≤ fr ∧ fr < 65536) : SpF yX0_firstsOf cX0_firstsOf 3 (some .int) 0 [.ref 21, .int (jI n), .int (jI fr)] (W5 S T D) (.int (jI (fsf (S 22) n fr))) (W5 S T D) := by
  have hn := hA n h_n
  refine Sp.of [.ref 21, .int (jI n), .int (jI fr)] (by decide) (by simp) (Nat.le_of_ble_eq_true rfl) rfl (fun E => ?_)
  refine L_i2 dX0_firstsOf_0 ?_
  refine L_i2 dX0_firstsOf_1 ?_
  refine L_a0 dX0_firstsOf_2 ?_
  refine GW_21_0 fX0_11 dX0_firstsOf_3 ?_
  refine L_i1 dX0_firstsOf_6 ?_
  refine AR_22 dX0_firstsOf_7 (by omega) ?_
  refine J_iushrG dX0_firstsOf_8 (by omega) (by omega) ?_
  refine J_iandG dX0_firstsOf_9 (by omega) (ediv2_B h_fr.1 _).1 ?_
  exact R_i rfl dX0_firstsOf_10 rfl rfl

set_option maxRecDepth 100000 in
theorem qX0_pairOf {S T : Nat → Int → Int} {D : List mx_C} (hA : FA S) {n : Int} (h_n : 1 ≤ n ∧ n ≤ 8) {p : Int} (h_p : 0 ≤ p ∧ p ≤ 15) : SpF yX0_pairOf cX0_pairOf 3 (some .int) 0 [.ref 21, .int (jI n), .int (jI p)] (W5 S T D) (.int (jI (fpr (S 22) n p))) (W5 S T D) := by
  have hn := hA n h_n
  refine Sp.of [.ref 21, .int (jI n), .int (jI p)] (by decide) (by simp) (Nat.le_of_ble_eq_true rfl) rfl (fun E => ?_)
  refine J_iconst dX0_pairOf_0 ?_
  refine L_i2 dX0_pairOf_1 ?_
  refine J_1shl dX0_pairOf_2 (by omega) ?_
  refine J_iconst dX0_pairOf_3 ?_
  refine L_i2 dX0_pairOf_4 ?_
  refine L_a0 dX0_pairOf_5 ?_
  refine GW_21_0 fX0_11 dX0_pairOf_6 ?_
  refine L_i1 dX0_pairOf_9 ?_
  refine AR_22 dX0_pairOf_10 (by omega) ?_
  refine J_iadd dX0_pairOf_11 ?_
  refine J_1shl dX0_pairOf_12 (by omega) ?_
  refine J_iorG dX0_pairOf_13 (bsh_nn _) (bsh_nn _) ?_
  exact R_i rfl dX0_pairOf_14 rfl rfl

set_option maxRecDepth 100000 in
theorem qX0_isFirst {S T : Nat → Int → Int} {D : List mx_C} (hA : FA S) {n : Int} (h_n : 1 ≤ n ∧ n ≤ 8) {fr : Int} (h_fr : 0 ≤ fr ∧ fr < 65536) {p : Int} (h_p : 0 ≤ p ∧ p ≤ 15) : SpF yX0_isFirst cX0_isFirst 4 (some .boolean) 1 [.ref 21, .int (jI n), .int (jI fr), .int (jI p)] (W5 S T D) (.int (jI (jb (fsf (S 22) n fr / 2 ^ p.toNat % 2 = 1)))) (W5 S T D) := by
  have hb := fsf_B (S 22) n h_fr.1
  have hd := ediv2_B hb.1 p.toNat
  refine Sp.of [.ref 21, .int (jI n), .int (jI fr), .int (jI p)] (by decide) (by simp) (Nat.le_of_ble_eq_true rfl) rfl (fun E => ?_)
  refine L_a0 dX0_isFirst_0 ?_
  refine L_i1 dX0_isFirst_1 ?_
  refine L_i2 dX0_isFirst_2 ?_
  refine C_v2F vX0_47 dX0_isFirst_3 (qX0_firstsOf hA h_n h_fr) rfl rfl (Nat.le_of_ble_eq_true rfl) (by decide) ?_
  refine L_i3 dX0_isFirst_6 ?_
  refine J_iushrG dX0_isFirst_7 (by omega) (by omega) ?_
  refine J_iconst dX0_isFirst_8 ?_
  refine J_imask 1 (by decide) (by decide) dX0_isFirst_9 ?_
  refine J_if_eq 17 dX0_isFirst_10 rfl (by omega) (fun c10 => ?_) (fun c10 => ?_)
  · refine J_iconst dX0_isFirst_17 ?_
    exact R_z rfl dX0_isFirst_18 (by decide) rfl (by first | exact (jb_t (by omega)).symm | exact (jb_f (by omega)).symm)
  · refine J_iconst dX0_isFirst_13 ?_
    refine E_goto 18 dX0_isFirst_14 rfl ?_
    exact R_z rfl dX0_isFirst_18 (by decide) rfl (by first | exact (jb_t (by omega)).symm | exact (jb_f (by omega)).symm)

set_option maxRecDepth 100000 in
theorem qX0_lowestOf {hp : List mx_C} {s : Int} (h_s : 0 ≤ s ∧ s < 256) : SpF yX0_lowestOf cX0_lowestOf 2 (some .int) 1 [.int (jI s)] hp (.int (jI (if s = 0 then 0 else lowF s 31 0 + 1))) hp := by
  refine Sp.of [.int (jI s), .retAddr 0] (by decide) (by simp) (Nat.le_of_ble_eq_true rfl) rfl (fun E => ?_)
  refine L_i0 dX0_lowestOf_0 ?_
  refine J_sipush dX0_lowestOf_1 (by decide) ?_
  refine J_imask 8 (by decide) (by decide) dX0_lowestOf_4 ?_
  refine J_eqi (b := s) (by omega) ?_
  refine S_i1 dX0_lowestOf_5 (by decide) rfl ?_
  refine L_i1 dX0_lowestOf_6 ?_
  refine J_if_ne 14 dX0_lowestOf_7 rfl (by omega) (fun c7 => ?_) (fun c7 => ?_)
  · refine L_i1 dX0_lowestOf_14 ?_
    refine C_s1F vX0_51 dX0_lowestOf_15 (sJ_ntz (by omega)) (Nat.le_of_ble_eq_true rfl) (by decide) ?_
    refine J_iconst dX0_lowestOf_18 ?_
    refine J_iadd dX0_lowestOf_19 ?_
    exact R_i rfl dX0_lowestOf_20 rfl (by first | rw [if_pos (by omega)] | rw [if_neg (by omega)])
  · refine J_iconst dX0_lowestOf_10 ?_
    refine E_goto 20 dX0_lowestOf_11 rfl ?_
    exact R_i rfl dX0_lowestOf_20 rfl (by first | rw [if_pos (by omega)] | rw [if_neg (by omega)])

def fsc (a b : Int → Int) (s fr : Int) (n : Int) (q : Int × Int) : Int × Int := if fsp b s n ∧ pc (fsf a n fr) < q.2 then (n, pc (fsf a n fr)) else q
theorem fsc_0 {a b : Int → Int} {s fr : Int} : ∀ (m : Nat) (k x y : Int), y ≤ 0 → lpF (fsc a b s fr) m k (x, y) = (x, y) := by
  intro m
  induction m with
  | zero => intro k x y _; rfl
  | succ m ih =>
    intro k x y h
    have hp := pc_B (fsf a k fr)
    rw [lpF, show fsc a b s fr k (x, y) = (x, y) from if_neg (fun hh => by have := hh.2; omega)]
    exact ih (k + 1) x y h
set_option maxRecDepth 100000 in
theorem lX0_scarcest {E : mx_E} {S T : Nat → Int → Int} {D : List mx_C} (hA : FA S) (hL : FL S) {s : Int} (h_s : 0 ≤ s ∧ s < 256) {fr : Int} (h_fr : 0 ≤ fr ∧ fr < 65536) {r : Int} : ∀ (m : Nat) (k x y : Int) (u6 : Value), u6.category = 1 → k + m = 9 → 1 ≤ k → (0 ≤ x ∧ x ≤ 8) → (0 ≤ y ∧ y ≤ 17) → (lpF (fsc (S 22) (S 24) s fr) m k (x, y)).1 = r → Ev E yX0_scarcest cX0_scarcest 7 (some .int) (kf E 1 (.int (jI r)) (W5 S T D)) 0 0 9 [.ref 21, .int (jI s), .int (jI fr), .int (jI x), .int (jI y), .int (jI k), u6] [] (W5 S T D) := by
  intro m
  induction m with
  | zero =>
    intro k x y u6 hu hk hk1 hx hy hr
    have hr : x = r := hr
    refine L_i5 dX0_scarcest_9 ?_
    refine J_bipush dX0_scarcest_11 (by decide) ?_
    refine J_icmp_gt 67 dX0_scarcest_13 rfl (by omega) (by omega) (fun c13 => ?_) (fun c13 => ?_)
    · refine L_i3 dX0_scarcest_67 ?_
      exact R_i rfl dX0_scarcest_68 rfl hr
    · exfalso; omega
  | succ m ih =>
    intro k x y u6 hu hk hk1 hx hy hr
    have hn := hA k (by omega)
    have hb := fsf_B (S 22) k h_fr.1
    have hpb := pc_B (fsf (S 22) k fr)
    have hr0 := hr
    rw [lpF] at hr
    refine L_i5 dX0_scarcest_9 ?_
    refine J_bipush dX0_scarcest_11 (by decide) ?_
    refine J_icmp_gt 67 dX0_scarcest_13 rfl (by omega) (by omega) (fun c13 => ?_) (fun c13 => ?_)
    · exfalso; omega
    · refine L_i4 dX0_scarcest_16 ?_
      refine J_if_le 67 dX0_scarcest_18 rfl (by omega) (fun c18 => ?_) (fun c18 => ?_)
      · refine L_i3 dX0_scarcest_67 ?_
        exact R_i rfl dX0_scarcest_68 rfl (by rw [fsc_0 _ _ _ _ (by omega)] at hr0; exact hr0)
      · refine L_a0 dX0_scarcest_21 ?_
        refine L_i1 dX0_scarcest_22 ?_
        refine L_i5 dX0_scarcest_23 ?_
        refine C_v2F vX0_56 dX0_scarcest_25 (qX0_speaks hL h_s (by omega)) rfl rfl (Nat.le_of_ble_eq_true rfl) (by decide) ?_
        refine J_ifeqB 61 dX0_scarcest_28 rfl (fun c28 => ?_) (fun c28 => ?_)
        · refine JI_5 dX0_scarcest_61 (by decide) rfl ?_
          refine E_goto 9 dX0_scarcest_64 rfl ?_
          rw [show fsc (S 22) (S 24) s fr k (x, y) = (x, y) from if_neg (fun hh => by first | exact c28 hh.1 | (have := hh.2; omega))] at hr
          exact ih (k + 1) x y _ hu (by omega) (by omega) hx hy hr
        · refine L_i2 dX0_scarcest_31 ?_
          refine L_i2 dX0_scarcest_32 ?_
          refine L_a0 dX0_scarcest_33 ?_
          refine GW_21_0 fX0_11 dX0_scarcest_34 ?_
          refine L_i5 dX0_scarcest_37 ?_
          refine AR_22 dX0_scarcest_39 (by omega) ?_
          refine J_iushrG dX0_scarcest_40 (by omega) (by omega) ?_
          refine J_iandG dX0_scarcest_41 (by omega) (ediv2_B h_fr.1 _).1 ?_
          refine J_eqi (b := fsf (S 22) k fr) rfl ?_
          refine C_s1F vX0_60 dX0_scarcest_42 (sJ_bitCount (by omega)) (Nat.le_of_ble_eq_true rfl) (by decide) ?_
          refine S_i6 dX0_scarcest_45 (by decide) rfl ?_
          refine L_i6 dX0_scarcest_47 ?_
          refine L_i4 dX0_scarcest_49 ?_
          refine J_icmp_ge 61 dX0_scarcest_51 rfl (by omega) (by omega) (fun c51 => ?_) (fun c51 => ?_)
          · refine JI_5 dX0_scarcest_61 (by decide) rfl ?_
            refine E_goto 9 dX0_scarcest_64 rfl ?_
            rw [show fsc (S 22) (S 24) s fr k (x, y) = (x, y) from if_neg (fun hh => by first | exact c28 hh.1 | (have := hh.2; omega))] at hr
            exact ih (k + 1) x y _ rfl (by omega) (by omega) hx hy hr
          · refine L_i6 dX0_scarcest_54 ?_
            refine S_i4 dX0_scarcest_56 (by decide) rfl ?_
            refine L_i5 dX0_scarcest_58 ?_
            refine S_i3 dX0_scarcest_60 (by decide) rfl ?_
            refine JI_5 dX0_scarcest_61 (by decide) rfl ?_
            refine E_goto 9 dX0_scarcest_64 rfl ?_
            rw [show fsc (S 22) (S 24) s fr k (x, y) = (k, pc (fsf (S 22) k fr)) from if_pos ⟨c28, by show pc (fsf (S 22) k fr) < y; omega⟩] at hr
            exact ih (k + 1) k _ _ rfl (by omega) (by omega) (by omega) (by omega) hr
set_option maxRecDepth 100000 in
theorem qX0_scarcest {S T : Nat → Int → Int} {D : List mx_C} (hA : FA S) (hL : FL S) {s : Int} (h_s : 0 ≤ s ∧ s < 256) {fr : Int} (h_fr : 0 ≤ fr ∧ fr < 65536) : SpF yX0_scarcest cX0_scarcest 7 (some .int) 1 [.ref 21, .int (jI s), .int (jI fr)] (W5 S T D) (.int (jI (lpF (fsc (S 22) (S 24) s fr) 8 1 (0, 17)).1)) (W5 S T D) := by
  refine Sp.of [.ref 21, .int (jI s), .int (jI fr), .retAddr 0, .retAddr 0, .retAddr 0, .retAddr 0] (by decide) (by simp) (Nat.le_of_ble_eq_true rfl) rfl (fun E => ?_)
  refine J_iconst dX0_scarcest_0 ?_
  refine S_i3 dX0_scarcest_1 (by decide) rfl ?_
  refine J_bipush dX0_scarcest_2 (by decide) ?_
  refine S_i4 dX0_scarcest_4 (by decide) rfl ?_
  refine J_iconst dX0_scarcest_6 ?_
  refine S_i5 dX0_scarcest_7 (by decide) rfl ?_
  exact lX0_scarcest hA hL h_s h_fr 8 1 0 17 _ rfl (by omega) (by omega) (by omega) (by omega) rfl

set_option maxRecDepth 100000 in
theorem qX0_remember {S T : Nat → Int → Int} {D : List mx_C} {sl ky v : Int} (h_sl : 0 ≤ sl ∧ sl < 4096) : SpV yX0_remember cX0_remember 5 none 0 [.ref 21, .int (jI sl), .long (jL ky), .int (jI v)] (W5 S T D) (W5 (upS (upS S 25 (up (S 25) sl ky)) 26 (up (upS S 25 (up (S 25) sl ky) 26) sl v)) T D) := by
  refine Sp.of [.ref 21, .int (jI sl), .long (jL ky), .retAddr 0, .int (jI v)] (by decide) (by simp) (Nat.le_of_ble_eq_true rfl) rfl (fun E => ?_)
  refine L_a0 dX0_remember_0 ?_
  refine GW_21_3 fX0_21 dX0_remember_1 ?_
  refine L_i1 dX0_remember_4 ?_
  refine L_l2 dX0_remember_5 ?_
  refine AS_25 dX0_remember_6 (by omega) ?_
  refine L_a0 dX0_remember_7 ?_
  refine GW_21_4 fX0_25 dX0_remember_8 ?_
  refine L_i1 dX0_remember_11 ?_
  refine L_i4 dX0_remember_12 ?_
  refine AS_26 dX0_remember_14 (by omega) ?_
  exact R_v rfl dX0_remember_15 rfl

