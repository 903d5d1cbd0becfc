/-! ===== the class: what is done by hand, what is asked of the row ===== -/
section AA
variable {E : mx_E} {y : MethodName} {cc : ByteArray} {nL : Nat} {ret : Option FieldType} {K : mx_Kd} {bc bs pc d : Nat} {lv st : List Value} {hp hp1 : List mx_C} {S T : Nat → Int → Int} {D : List mx_C}
theorem AR_12 {j : Int} (hd : decode cc pc = .ok (.aaload, 1)) (hj : 0 ≤ j ∧ j < 4) (k : Ev E y cc nL ret K bc bs (pc + 1) lv (va_rf (tx (S 12 j)) :: st) (W5 S T D)) : Ev E y cc nL ret K bc bs pc lv (.int (jI j) :: .ref 12 :: st) (W5 S T D) := by
  have hj' : 0 ≤ j ∧ j < ((4 : Nat) : Int) := hj
  refine E_aald (f := fun q => tx (S 12 (q : Int))) hd rfl (jI_in hj' (by decide)) ?_
  rw [jI_cast hj' (by decide)]
  exact k
theorem R_a {v : Option Nat} {rt : FieldType} (hr : ret = some rt) (hrt : (∃ n, rt = .object n) ∨ ∃ t, rt = .array t) (hd : decode cc pc = .ok (.areturn, 1)) (hh : hp = hp1) : Ev E y cc nL ret (kf E d (va_rf v) hp1) bc bs pc lv [va_rf v] hp := E_aret hr hrt hd ⟨rfl, hh⟩
end AA
set_option maxRecDepth 100000 in
theorem qX10_end {S T : Nat → Int → Int} {D : List mx_C} {n : Int} (h_n : -2147483648 ≤ n ∧ n < 2147483648) (h0 : 0 ≤ S 1 1 ∧ S 1 1 ≤ 300) : SpF yX10_end cX10_end 2 (some .int) 0 [.ref 0, .int (jI n)] (W5 S T D) (.int (jI (if 0 ≤ n ∧ n ≤ S 1 1 then n else -1))) (W5 (if 0 ≤ n ∧ n ≤ S 1 1 then upS S 1 (up (S 1) 1 n) else S) T D) := by
  refine Sp.of [.ref 0, .int (jI n)] (by decide) (by simp) (Nat.le_of_ble_eq_true rfl) rfl (fun E => ?_)
  refine L_i1 dX10_end_0 ?_
  refine J_if_lt 15 dX10_end_1 rfl (by omega) (fun c1 => ?_) (fun c1 => ?_)
  · refine J_iconst dX10_end_15 ?_
    exact R_i rfl dX10_end_16 (by first | rw [if_pos (by omega)] | rw [if_neg (by omega)]) (by first | rw [if_pos (by omega)] | rw [if_neg (by omega)])
  · refine L_i1 dX10_end_4 ?_
    refine L_a0 dX10_end_5 ?_
    refine GW_0_0 fX10_10 dX10_end_6 ?_
    refine GW_1_1 fX10_86 dX10_end_9 ?_
    refine J_icmp_le 17 dX10_end_12 rfl (by omega) (by omega) (fun c12 => ?_) (fun c12 => ?_)
    · refine L_a0 dX10_end_17 ?_
      refine GW_0_0 fX10_10 dX10_end_18 ?_
      refine L_i1 dX10_end_21 ?_
      refine PW_1_1 fX10_86 dX10_end_22 ?_
      refine L_i1 dX10_end_25 ?_
      exact R_i rfl dX10_end_26 (by first | rw [if_pos (by omega)] | rw [if_neg (by omega)]) (by first | rw [if_pos (by omega)] | rw [if_neg (by omega)])
    · refine J_iconst dX10_end_15 ?_
      exact R_i rfl dX10_end_16 (by first | rw [if_pos (by omega)] | rw [if_neg (by omega)]) (by first | rw [if_pos (by omega)] | rw [if_neg (by omega)])

set_option maxRecDepth 100000 in
theorem qX10_fault {S T : Nat → Int → Int} {D : List mx_C} {n : Int} (h_n : -2147483648 ≤ n ∧ n < 2147483648) : SpF yX10_fault cX10_fault 2 (some .int) 0 [.ref 0, .int (jI n)] (W5 S T D) (.int (jI (if n = 0 then S 3 10 else if n = 1 then S 3 11 else -1))) (W5 S T D) := by
  refine Sp.of [.ref 0, .int (jI n)] (by decide) (by simp) (Nat.le_of_ble_eq_true rfl) rfl (fun E => ?_)
  refine L_i1 dX10_fault_0 ?_
  refine J_if_ne 12 dX10_fault_1 rfl (by omega) (fun c1 => ?_) (fun c1 => ?_)
  · refine L_i1 dX10_fault_12 ?_
    refine J_iconst dX10_fault_13 ?_
    refine J_icmp_ne 27 dX10_fault_14 rfl (by omega) (by omega) (fun c14 => ?_) (fun c14 => ?_)
    · refine J_iconst dX10_fault_27 ?_
      exact R_i rfl dX10_fault_28 rfl (by first | rw [if_pos (by omega)] | rw [if_neg (by omega), if_pos (by omega)] | rw [if_neg (by omega), if_neg (by omega)])
    · refine L_a0 dX10_fault_17 ?_
      refine GW_0_1 fX10_19 dX10_fault_18 ?_
      refine GW_3_11 fX10_96 dX10_fault_21 ?_
      refine E_goto 28 dX10_fault_24 rfl ?_
      exact R_i rfl dX10_fault_28 rfl (by first | rw [if_pos (by omega)] | rw [if_neg (by omega), if_pos (by omega)] | rw [if_neg (by omega), if_neg (by omega)])
  · refine L_a0 dX10_fault_4 ?_
    refine GW_0_1 fX10_19 dX10_fault_5 ?_
    refine GW_3_10 fX10_93 dX10_fault_8 ?_
    exact R_i rfl dX10_fault_11 rfl (by first | rw [if_pos (by omega)] | rw [if_neg (by omega), if_pos (by omega)] | rw [if_neg (by omega), if_neg (by omega)])

set_option maxRecDepth 100000 in
theorem qX10_about {S T : Nat → Int → Int} {D : List mx_C} {n : Int} (h_n : -2147483648 ≤ n ∧ n < 2147483648) : SpF yX10_about cX10_about 2 (some .int) 0 [.ref 0, .int (jI n)] (W5 S T D) (.int (jI (if n = 0 then S 0 10 else if n = 1 then S 0 11 else if n = 2 then S 17 2 else if n = 3 then S 19 1 else if n = 4 then S 1 1 else -2))) (W5 S T D) := by
  refine Sp.of [.ref 0, .int (jI n)] (by decide) (by simp) (Nat.le_of_ble_eq_true rfl) rfl (fun E => ?_)
  refine L_i1 dX10_about_0 ?_
  refine J_tab5 36 41 46 54 62 70 dX10_about_1 (by omega) rfl rfl rfl rfl rfl rfl rfl (fun c1 => ?_) (fun c1 => ?_) (fun c1 => ?_) (fun c1 => ?_) (fun c1 => ?_) (fun c1 => ?_)
  · refine L_a0 dX10_about_36 ?_
    refine GW_0_10 fX10_71 dX10_about_37 ?_
    exact R_i rfl dX10_about_40 rfl (by repeat' split; all_goals omega)
  · refine L_a0 dX10_about_41 ?_
    refine GW_0_11 fX10_75 dX10_about_42 ?_
    exact R_i rfl dX10_about_45 rfl (by repeat' split; all_goals omega)
  · refine L_a0 dX10_about_46 ?_
    refine GW_0_5 fX10_42 dX10_about_47 ?_
    refine GW_17_2 fX10_177 dX10_about_50 ?_
    exact R_i rfl dX10_about_53 rfl (by repeat' split; all_goals omega)
  · refine L_a0 dX10_about_54 ?_
    refine GW_0_6 fX10_49 dX10_about_55 ?_
    refine GW_19_1 fX10_330 dX10_about_58 ?_
    exact R_i rfl dX10_about_61 rfl (by repeat' split; all_goals omega)
  · refine L_a0 dX10_about_62 ?_
    refine GW_0_0 fX10_10 dX10_about_63 ?_
    refine GW_1_1 fX10_86 dX10_about_66 ?_
    exact R_i rfl dX10_about_69 rfl (by repeat' split; all_goals omega)
  · refine J_bipush dX10_about_70 (by decide) ?_
    exact R_i rfl dX10_about_72 rfl (by repeat' split; all_goals omega)

set_option maxRecDepth 100000 in
theorem qX10_scriptOfN {S T : Nat → Int → Int} {D : List mx_C} {n : Int} (h_n : -2147483648 ≤ n ∧ n < 2147483648) (h0 : 0 ≤ S 0 10 ∧ S 0 10 ≤ 4) (hno : ¬ (0 ≤ n ∧ n < S 0 10)) : SpF yX10_scriptOf cX10_scriptOf 2 (some (.object "Procession$Script")) 0 [.ref 0, .int (jI n)] (W5 S T D) (.null) (W5 S T D) := by
  refine Sp.of [.ref 0, .int (jI n)] (by decide) (by simp) (Nat.le_of_ble_eq_true rfl) rfl (fun E => ?_)
  refine L_i1 dX10_scriptOf_0 ?_
  refine J_if_lt 26 dX10_scriptOf_1 rfl (by omega) (fun c1 => ?_) (fun c1 => ?_)
  · refine E_null dX10_scriptOf_26 ?_
    exact R_a (v := none) rfl (Or.inl ⟨_, rfl⟩) dX10_scriptOf_27 rfl
  · refine L_i1 dX10_scriptOf_4 ?_
    refine L_a0 dX10_scriptOf_5 ?_
    refine GW_0_10 fX10_71 dX10_scriptOf_6 ?_
    refine J_icmp_ge 26 dX10_scriptOf_9 rfl (by omega) (by omega) (fun c9 => ?_) (fun c9 => ?_)
    · refine E_null dX10_scriptOf_26 ?_
      exact R_a (v := none) rfl (Or.inl ⟨_, rfl⟩) dX10_scriptOf_27 rfl
    · refine L_i1 dX10_scriptOf_12 ?_
      refine J_iconst dX10_scriptOf_13 ?_
      refine J_icmp_ge 26 dX10_scriptOf_14 rfl (by omega) (by omega) (fun c14 => ?_) (fun c14 => ?_)
      · refine E_null dX10_scriptOf_26 ?_
        exact R_a (v := none) rfl (Or.inl ⟨_, rfl⟩) dX10_scriptOf_27 rfl
      · exfalso; omega

set_option maxRecDepth 100000 in
theorem qX10_scriptOf {S T : Nat → Int → Int} {D : List mx_C} {n : Int} {i : Nat} (h_n : 0 ≤ n ∧ n < S 0 10 ∧ S 0 10 ≤ 4) (ht : tx (S 12 n) = some i) : SpF yX10_scriptOf cX10_scriptOf 2 (some (.object "Procession$Script")) 0 [.ref 0, .int (jI n)] (W5 S T D) (.ref i) (W5 S T D) := by
  refine Sp.of [.ref 0, .int (jI n)] (by decide) (by simp) (Nat.le_of_ble_eq_true rfl) rfl (fun E => ?_)
  refine L_i1 dX10_scriptOf_0 ?_
  refine J_if_lt 26 dX10_scriptOf_1 rfl (by omega) (fun c1 => ?_) (fun c1 => ?_)
  · exfalso; omega
  · refine L_i1 dX10_scriptOf_4 ?_
    refine L_a0 dX10_scriptOf_5 ?_
    refine GW_0_10 fX10_71 dX10_scriptOf_6 ?_
    refine J_icmp_ge 26 dX10_scriptOf_9 rfl (by omega) (by omega) (fun c9 => ?_) (fun c9 => ?_)
    · exfalso; omega
    · refine L_i1 dX10_scriptOf_12 ?_
      refine J_iconst dX10_scriptOf_13 ?_
      refine J_icmp_ge 26 dX10_scriptOf_14 rfl (by omega) (by omega) (fun c14 => ?_) (fun c14 => ?_)
      · exfalso; omega
      · refine L_a0 dX10_scriptOf_17 ?_
        refine GW_0_2 fX10_25 dX10_scriptOf_18 ?_
        refine L_i1 dX10_scriptOf_21 ?_
        refine AR_12 dX10_scriptOf_22 (by omega) ?_
        rw [ht]
        refine E_goto 27 dX10_scriptOf_23 rfl ?_
        exact R_a (v := some i) rfl (Or.inl ⟨_, rfl⟩) dX10_scriptOf_27 rfl

set_option maxRecDepth 100000 in
theorem qX10_byN {S T : Nat → Int → Int} {D : List mx_C} {n : Int} (h_n : -2147483648 ≤ n ∧ n < 2147483648) (h0 : 0 ≤ S 0 10 ∧ S 0 10 ≤ 4) (hno : ¬ (-1 ≤ n ∧ n < S 0 10)) : SpF yX10_by cX10_by 2 (some .boolean) 1 [.ref 0, .int (jI n)] (W5 S T D) (.int (jI 0)) (W5 S T D) := by
  refine Sp.of [.ref 0, .int (jI n)] (by decide) (by simp) (Nat.le_of_ble_eq_true rfl) rfl (fun E => ?_)
  refine L_i1 dX10_by_0 ?_
  refine J_iconst dX10_by_1 ?_
  refine J_icmp_eq 15 dX10_by_2 rfl (by omega) (by omega) (fun c2 => ?_) (fun c2 => ?_)
  · exfalso; omega
  · refine L_a0 dX10_by_5 ?_
    refine L_i1 dX10_by_6 ?_
    refine C_v1F vX10_99 dX10_by_7 (qX10_scriptOfN (by omega) h0 (by omega)) rfl rfl (Nat.le_of_ble_eq_true rfl) (by decide) ?_
    refine E_ifnonnull_n dX10_by_10 ?_
    refine J_iconst dX10_by_13 ?_
    exact R_z rfl dX10_by_14 (by decide) rfl (by simp_all)

set_option maxRecDepth 100000 in
theorem qX10_byM {S T : Nat → Int → Int} {D : List mx_C} {n : Int} (hn : n = -1) : SpF yX10_by cX10_by 2 (some .boolean) 1 [.ref 0, .int (jI n)] (W5 S T D) (.int (jI 1)) (W5 (upS S 0 (up (S 0) 11 n)) T D) := by
  refine Sp.of [.ref 0, .int (jI n)] (by decide) (by simp) (Nat.le_of_ble_eq_true rfl) rfl (fun E => ?_)
  refine L_i1 dX10_by_0 ?_
  refine J_iconst dX10_by_1 ?_
  refine J_icmp_eq 15 dX10_by_2 rfl (by omega) (by omega) (fun c2 => ?_) (fun c2 => ?_)
  · refine L_a0 dX10_by_15 ?_
    refine L_i1 dX10_by_16 ?_
    refine PW_0_11 fX10_75 dX10_by_17 ?_
    refine J_iconst dX10_by_20 ?_
    exact R_z rfl dX10_by_21 (by decide) rfl (by simp_all)
  · exfalso; omega

set_option maxRecDepth 100000 in
theorem qX10_by {S T : Nat → Int → Int} {D : List mx_C} {n : Int} {i : Nat} (h_n : 0 ≤ n ∧ n < S 0 10 ∧ S 0 10 ≤ 4) (ht : tx (S 12 n) = some i) : SpF yX10_by cX10_by 2 (some .boolean) 1 [.ref 0, .int (jI n)] (W5 S T D) (.int (jI 1)) (W5 (upS S 0 (up (S 0) 11 n)) T D) := by
  refine Sp.of [.ref 0, .int (jI n)] (by decide) (by simp) (Nat.le_of_ble_eq_true rfl) rfl (fun E => ?_)
  refine L_i1 dX10_by_0 ?_
  refine J_iconst dX10_by_1 ?_
  refine J_icmp_eq 15 dX10_by_2 rfl (by omega) (by omega) (fun c2 => ?_) (fun c2 => ?_)
  · exfalso; omega
  · refine L_a0 dX10_by_5 ?_
    refine L_i1 dX10_by_6 ?_
    refine C_v1F vX10_99 dX10_by_7 (qX10_scriptOf (i := i) (by omega) ht) rfl rfl (Nat.le_of_ble_eq_true rfl) (by decide) ?_
    refine E_ifnonnull_r 15 dX10_by_10 rfl ?_
    refine L_a0 dX10_by_15 ?_
    refine L_i1 dX10_by_16 ?_
    refine PW_0_11 fX10_75 dX10_by_17 ?_
    refine J_iconst dX10_by_20 ?_
    exact R_z rfl dX10_by_21 (by decide) rfl (by simp_all)

set_option maxRecDepth 100000 in
theorem qX10_at {S T : Nat → Int → Int} {D : List mx_C} (hv : RV (S 14)) {n : Int} (h_n : -2147483648 ≤ n ∧ n < 2147483648) : SpF yX10_at cX10_at 2 (some .int) 3 [.ref 0, .int (jI n)] (W5 S T D) (.int (jI (if 0 ≤ n ∧ n < S 14 0 then rw_who (S 14) n else -1))) (W5 S T D) := by
  have ha := hv.2
  refine Sp.of [.ref 0, .int (jI n)] (by decide) (by simp) (Nat.le_of_ble_eq_true rfl) rfl (fun E => ?_)
  refine L_i1 dX10_at_0 ?_
  refine J_if_lt 15 dX10_at_1 rfl (by omega) (fun c1 => ?_) (fun c1 => ?_)
  · refine J_iconst dX10_at_15 ?_
    refine E_goto 27 dX10_at_16 rfl ?_
    exact R_i rfl dX10_at_27 rfl (by first | rw [if_pos (by omega)] | rw [if_neg (by omega)])
  · refine L_i1 dX10_at_4 ?_
    refine L_a0 dX10_at_5 ?_
    refine GW_0_3 fX10_32 dX10_at_6 ?_
    refine C_v0F vX10_103 dX10_at_9 (qX4_places) rfl rfl (Nat.le_of_ble_eq_true rfl) (by decide) ?_
    refine J_icmp_lt 19 dX10_at_12 rfl (by omega) (by omega) (fun c12 => ?_) (fun c12 => ?_)
    · refine L_a0 dX10_at_19 ?_
      refine GW_0_3 fX10_32 dX10_at_20 ?_
      refine L_i1 dX10_at_23 ?_
      refine C_v1F vX10_200 dX10_at_24 (qX4_who hv.1 (by omega)) rfl rfl (Nat.le_of_ble_eq_true rfl) (by decide) ?_
      exact R_i rfl dX10_at_27 rfl (by first | rw [if_pos (by omega)] | rw [if_neg (by omega)])
    · refine J_iconst dX10_at_15 ?_
      refine E_goto 27 dX10_at_16 rfl ?_
      exact R_i rfl dX10_at_27 rfl (by first | rw [if_pos (by omega)] | rw [if_neg (by omega)])

set_option maxRecDepth 100000 in
theorem qX10_is {S T : Nat → Int → Int} {D : List mx_C} (hv : RV (S 14)) {n : Int} (h_n : -2147483648 ≤ n ∧ n < 2147483648) : SpF yX10_is cX10_is 2 (some .int) 2 [.ref 0, .int (jI n)] (W5 S T D) (.int (jI (if n = 0 then S 14 1 else if n = 1 then S 14 2 else if n = 2 then S 14 0 else if n = 3 then S 14 3 else if n = 4 then bdf (bsh (S 14 0) - 1) (S 14 4) else -2))) (W5 S T D) := by
  have ha := hv.2
  refine Sp.of [.ref 0, .int (jI n)] (by decide) (by simp) (Nat.le_of_ble_eq_true rfl) rfl (fun E => ?_)
  refine L_i1 dX10_is_0 ?_
  refine J_tab5 36 44 52 60 68 76 dX10_is_1 (by omega) rfl rfl rfl rfl rfl rfl rfl (fun c1 => ?_) (fun c1 => ?_) (fun c1 => ?_) (fun c1 => ?_) (fun c1 => ?_) (fun c1 => ?_)
  · refine L_a0 dX10_is_36 ?_
    refine GW_0_3 fX10_32 dX10_is_37 ?_
    refine C_v0F vX10_144 dX10_is_40 (qX4_date) rfl rfl (Nat.le_of_ble_eq_true rfl) (by decide) ?_
    exact R_i rfl dX10_is_43 rfl (by repeat' split; all_goals first | rfl | omega)
  · refine L_a0 dX10_is_44 ?_
    refine GW_0_3 fX10_32 dX10_is_45 ?_
    refine C_v0F vX10_203 dX10_is_48 (qX4_drawn) rfl rfl (Nat.le_of_ble_eq_true rfl) (by decide) ?_
    exact R_i rfl dX10_is_51 rfl (by repeat' split; all_goals first | rfl | omega)
  · refine L_a0 dX10_is_52 ?_
    refine GW_0_3 fX10_32 dX10_is_53 ?_
    refine C_v0F vX10_103 dX10_is_56 (qX4_places) rfl rfl (Nat.le_of_ble_eq_true rfl) (by decide) ?_
    exact R_i rfl dX10_is_59 rfl (by repeat' split; all_goals first | rfl | omega)
  · refine L_a0 dX10_is_60 ?_
    refine GW_0_3 fX10_32 dX10_is_61 ?_
    refine C_v0F vX10_206 dX10_is_64 (qX4_standing) rfl rfl (Nat.le_of_ble_eq_true rfl) (by decide) ?_
    exact R_i rfl dX10_is_67 rfl (by repeat' split; all_goals first | rfl | omega)
  · refine L_a0 dX10_is_68 ?_
    refine GW_0_3 fX10_32 dX10_is_69 ?_
    refine C_v0F vX10_209 dX10_is_72 (qX4_vacant hv) rfl rfl (Nat.le_of_ble_eq_true rfl) (by decide) ?_
    exact R_i rfl dX10_is_75 rfl (by repeat' split; all_goals first | rfl | omega)
  · refine J_bipush dX10_is_76 (by decide) ?_
    exact R_i rfl dX10_is_78 rfl (by repeat' split; all_goals first | rfl | omega)

def cl_ln (v q : Int) : Int := if q = 0 then v / 1024 else if q = 1 then v / 64 % 16 else if q = 2 then v / 16 % 4 else v % 16
set_option maxRecDepth 100000 in
theorem qX10_book {S T : Nat → Int → Int} {D : List mx_C} (hv : RV (S 14)) (hl : RLn (S 14)) {i : Int} (h_i : -2147483648 ≤ i ∧ i < 2147483648) {q : Int} (h_q : -2147483648 ≤ q ∧ q < 2147483648) : SpF yX10_book cX10_book 4 (some .int) 1 [.ref 0, .int (jI i), .int (jI q)] (W5 S T D) (.int (jI (if i = -1 then S 14 5 else if (0 ≤ i ∧ i < S 14 5) ∧ (0 ≤ q ∧ q ≤ 3) then cl_ln (S 14 (30 + i)) q else -2))) (W5 S T D) := by
  have ha := hv.2
  refine Sp.of [.ref 0, .int (jI i), .int (jI q), .retAddr 0] (by decide) (by simp) (Nat.le_of_ble_eq_true rfl) rfl (fun E => ?_)
  refine L_i1 dX10_book_0 ?_
  refine J_iconst dX10_book_1 ?_
  refine J_icmp_ne 13 dX10_book_2 rfl (by omega) (by omega) (fun c2 => ?_) (fun c2 => ?_)
  · refine L_i1 dX10_book_13 ?_
    refine J_if_lt 28 dX10_book_14 rfl (by omega) (fun c14 => ?_) (fun c14 => ?_)
    · refine J_bipush dX10_book_28 (by decide) ?_
      exact R_i rfl dX10_book_30 rfl (by unfold cl_ln; repeat' split; all_goals omega)
    · refine L_i1 dX10_book_17 ?_
      refine L_a0 dX10_book_18 ?_
      refine GW_0_3 fX10_32 dX10_book_19 ?_
      refine C_v0F vX10_212 dX10_book_22 (qX4_lines) rfl rfl (Nat.le_of_ble_eq_true rfl) (by decide) ?_
      refine J_icmp_lt 31 dX10_book_25 rfl (by omega) (by omega) (fun c25 => ?_) (fun c25 => ?_)
      · refine L_a0 dX10_book_31 ?_
        refine GW_0_3 fX10_32 dX10_book_32 ?_
        refine L_i1 dX10_book_35 ?_
        refine C_v1F vX10_215 dX10_book_36 (qX4_line hv.1 (by omega)) rfl rfl (Nat.le_of_ble_eq_true rfl) (by decide) ?_
        refine J_eqi (b := S 14 (30 + i)) (by unfold rw_at; rw [if_pos (by omega)]) ?_
        have hli := hl i (by omega)
        have hlb := hv.1 (30 + i)
        refine S_i3 dX10_book_39 (by decide) rfl ?_
        refine L_i2 dX10_book_40 ?_
        refine J_tab4 72 77 82 87 92 dX10_book_41 (by omega) rfl rfl rfl rfl rfl rfl (fun c41 => ?_) (fun c41 => ?_) (fun c41 => ?_) (fun c41 => ?_) (fun c41 => ?_)
        · refine L_i3 dX10_book_72 ?_
          refine C_s1F vX10_218 dX10_book_73 (sX4_lineDate (by omega)) (Nat.le_of_ble_eq_true rfl) (by decide) ?_
          exact R_i rfl dX10_book_76 rfl (by unfold cl_ln; repeat' split; all_goals omega)
        · refine L_i3 dX10_book_77 ?_
          refine C_s1F vX10_221 dX10_book_78 (sX4_lineNumber (by omega)) (Nat.le_of_ble_eq_true rfl) (by decide) ?_
          exact R_i rfl dX10_book_81 rfl (by unfold cl_ln; repeat' split; all_goals omega)
        · refine L_i3 dX10_book_82 ?_
          refine C_s1F vX10_224 dX10_book_83 (sX4_lineKind (by omega)) (Nat.le_of_ble_eq_true rfl) (by decide) ?_
          exact R_i rfl dX10_book_86 rfl (by unfold cl_ln; repeat' split; all_goals omega)
        · refine L_i3 dX10_book_87 ?_
          refine C_s1F vX10_227 dX10_book_88 (sX4_linePlace (by omega)) (Nat.le_of_ble_eq_true rfl) (by decide) ?_
          exact R_i rfl dX10_book_91 rfl (by unfold cl_ln; repeat' split; all_goals omega)
        · refine J_bipush dX10_book_92 (by decide) ?_
          exact R_i rfl dX10_book_94 rfl (by unfold cl_ln; repeat' split; all_goals omega)
      · refine J_bipush dX10_book_28 (by decide) ?_
        exact R_i rfl dX10_book_30 rfl (by unfold cl_ln; repeat' split; all_goals omega)
  · refine L_a0 dX10_book_5 ?_
    refine GW_0_3 fX10_32 dX10_book_6 ?_
    refine C_v0F vX10_212 dX10_book_9 (qX4_lines) rfl rfl (Nat.le_of_ble_eq_true rfl) (by decide) ?_
    exact R_i rfl dX10_book_12 rfl (by unfold cl_ln; repeat' split; all_goals omega)

abbrev cl_len (f : Int → Int) (n : Int) : Prop := (1 ≤ n ∧ n ≤ 16) ∧ ¬ n = f 0 ∧ f 4 / 2 ^ n.toNat = 0
theorem stK_14 (S : Nat → Int → Int) : stK S 14 = S 14 := by unfold stK; rw [upS_n (by decide), upS_n (by decide)]
set_option maxRecDepth 100000 in
theorem qX10_length {S T : Nat → Int → Int} {D : List mx_C} (hv : RV (S 14)) (h1 : 0 ≤ S 17 1 ∧ S 17 1 ≤ 29) (h2 : 0 ≤ S 17 2 ∧ S 17 2 ≤ 30) {n : Int} (h_n : -2147483648 ≤ n ∧ n < 2147483648) : SpF yX10_length cX10_length 2 (some .boolean) 3 [.ref 0, .int (jI n)] (W5 S T D) (.int (jI (jb (cl_len (S 14) n)))) (W5 (if cl_len (S 14) n then upS (stK S) 14 (up (stK S 14) 0 n) else S) T D) := by
  have ha := hv.2
  have hdn : 0 ≤ S 14 4 / 2 ^ n.toNat := Int.ediv_nonneg (by omega) (Int.pow_nonneg (by decide))
  have hdl : S 14 4 / 2 ^ n.toNat ≤ S 14 4 := Int.ediv_le_self _ (by omega)
  refine Sp.of [.ref 0, .int (jI n)] (by decide) (by simp) (Nat.le_of_ble_eq_true rfl) rfl (fun E => ?_)
  refine L_i1 dX10_length_0 ?_
  refine J_iconst dX10_length_1 ?_
  refine J_icmp_lt 34 dX10_length_2 rfl (by omega) (by omega) (fun c2 => ?_) (fun c2 => ?_)
  · refine J_iconst dX10_length_34 ?_
    exact R_z rfl dX10_length_35 (by decide) (by first | (rw [if_pos (by omega)]; done) | (rw [if_neg (by omega)]; done)) (by first | exact (jb_t (by omega)).symm | exact (jb_f (by omega)).symm)
  · refine L_i1 dX10_length_5 ?_
    refine J_bipush dX10_length_6 (by decide) ?_
    refine J_icmp_gt 34 dX10_length_8 rfl (by omega) (by omega) (fun c8 => ?_) (fun c8 => ?_)
    · refine J_iconst dX10_length_34 ?_
      exact R_z rfl dX10_length_35 (by decide) (by first | (rw [if_pos (by omega)]; done) | (rw [if_neg (by omega)]; done)) (by first | exact (jb_t (by omega)).symm | exact (jb_f (by omega)).symm)
    · refine L_i1 dX10_length_11 ?_
      refine L_a0 dX10_length_12 ?_
      refine GW_0_3 fX10_32 dX10_length_13 ?_
      refine C_v0F vX10_103 dX10_length_16 (qX4_places) rfl rfl (Nat.le_of_ble_eq_true rfl) (by decide) ?_
      refine J_icmp_eq 34 dX10_length_19 rfl (by omega) (by omega) (fun c19 => ?_) (fun c19 => ?_)
      · refine J_iconst dX10_length_34 ?_
        exact R_z rfl dX10_length_35 (by decide) (by first | (rw [if_pos (by omega)]; done) | (rw [if_neg (by omega)]; done)) (by first | exact (jb_t (by omega)).symm | exact (jb_f (by omega)).symm)
      · refine L_a0 dX10_length_22 ?_
        refine GW_0_3 fX10_32 dX10_length_23 ?_
        refine C_v0F vX10_107 dX10_length_26 (qX4_taken) rfl rfl (Nat.le_of_ble_eq_true rfl) (by decide) ?_
        refine L_i1 dX10_length_29 ?_
        refine J_iushrG dX10_length_30 (by omega) (by omega) ?_
        refine J_if_eq 36 dX10_length_31 rfl (by omega) (fun c31 => ?_) (fun c31 => ?_)
        · refine L_a0 dX10_length_36 ?_
          refine GW_0_5 fX10_42 dX10_length_37 ?_
          refine L_a0 dX10_length_40 ?_
          refine GW_0_3 fX10_32 dX10_length_41 ?_
          refine C_v1V vX10_110 dX10_length_44 (qX8_keep (by omega) (by omega)) rfl rfl (Nat.le_of_ble_eq_true rfl) (by decide) ?_
          refine L_a0 dX10_length_47 ?_
          refine GW_0_3 fX10_32 dX10_length_48 ?_
          refine L_i1 dX10_length_51 ?_
          refine C_v1V vX10_114 dX10_length_52 (qX4_stretch) rfl rfl (Nat.le_of_ble_eq_true rfl) (by decide) ?_
          refine J_iconst dX10_length_55 ?_
          exact R_z rfl dX10_length_56 (by decide) (by first | (rw [if_pos (by omega)]; done) | (rw [if_neg (by omega)]; done)) (by first | exact (jb_t (by omega)).symm | exact (jb_f (by omega)).symm)
        · refine J_iconst dX10_length_34 ?_
          exact R_z rfl dX10_length_35 (by decide) (by first | (rw [if_pos (by omega)]; done) | (rw [if_neg (by omega)]; done)) (by first | exact (jb_t (by omega)).symm | exact (jb_f (by omega)).symm)

set_option maxRecDepth 100000 in
theorem qX10_leave {S T : Nat → Int → Int} {D : List mx_C} (hv : RV (S 14)) (h1 : 0 ≤ S 17 1 ∧ S 17 1 ≤ 29) (h2 : 0 ≤ S 17 2 ∧ S 17 2 ≤ 30) {n : Int} (h_n : -2147483648 ≤ n ∧ n < 2147483648) : SpF yX10_leave cX10_leave 2 (some .boolean) 3 [.ref 0, .int (jI n)] (W5 S T D) (.int (jI (jb (rw_holds (S 14) n)))) (W5 (if rw_holds (S 14) n then upS (stK S) 14 (rw_depart (stK S 14) n 1) else S) T D) := by
  have ha := hv.2
  refine Sp.of [.ref 0, .int (jI n)] (by decide) (by simp) (Nat.le_of_ble_eq_true rfl) rfl (fun E => ?_)
  refine L_a0 dX10_leave_0 ?_
  refine GW_0_3 fX10_32 dX10_leave_1 ?_
  refine L_i1 dX10_leave_4 ?_
  refine C_v1F vX10_125 dX10_leave_5 (qX4_holds hv.1 (by omega)) rfl rfl (Nat.le_of_ble_eq_true rfl) (by decide) ?_
  refine J_ifneB 13 dX10_leave_8 rfl (fun c8 => ?_) (fun c8 => ?_)
  · refine L_a0 dX10_leave_13 ?_
    refine GW_0_5 fX10_42 dX10_leave_14 ?_
    refine L_a0 dX10_leave_17 ?_
    refine GW_0_3 fX10_32 dX10_leave_18 ?_
    refine C_v1V vX10_110 dX10_leave_21 (qX8_keep (by omega) (by omega)) rfl rfl (Nat.le_of_ble_eq_true rfl) (by decide) ?_
    refine L_a0 dX10_leave_24 ?_
    refine GW_0_3 fX10_32 dX10_leave_25 ?_
    refine L_i1 dX10_leave_28 ?_
    refine J_iconst dX10_leave_29 ?_
    refine C_v2V vX10_128 dX10_leave_30 (qX4_depart (S := stK S) (by rw [stK_14]; exact hv) (by omega) (by rw [stK_14]; exact c8.2) (by omega)) rfl rfl (Nat.le_of_ble_eq_true rfl) (by decide) ?_
    refine J_iconst dX10_leave_33 ?_
    exact R_z rfl dX10_leave_34 (by decide) (by first | rw [if_pos c8] | rw [if_neg c8]) (by first | exact (jb_t c8).symm | exact (jb_f c8).symm)
  · refine J_iconst dX10_leave_11 ?_
    exact R_z rfl dX10_leave_12 (by decide) (by first | rw [if_pos c8] | rw [if_neg c8]) (by first | exact (jb_t c8).symm | exact (jb_f c8).symm)

set_option maxRecDepth 100000 in
theorem qX10_turn {S T : Nat → Int → Int} {D : List mx_C} (hv : RV (S 14)) (h1 : 0 ≤ S 17 1 ∧ S 17 1 ≤ 29) (h2 : 0 ≤ S 17 2 ∧ S 17 2 ≤ 30) : SpF yX10_turn cX10_turn 2 (some .int) 4 [.ref 0] (W5 S T D) (.int (jI (if pc (S 14 3) = 0 then -1 else pc (S 14 3)))) (W5 (if pc (S 14 3) = 0 then S else upS (stK S) 14 (rw_turn (stK S 14))) T D) := by
  have ha := hv.2
  have hpb := pc_B (S 14 3)
  refine Sp.of [.ref 0, .retAddr 0] (by decide) (by simp) (Nat.le_of_ble_eq_true rfl) rfl (fun E => ?_)
  refine L_a0 dX10_turn_0 ?_
  refine GW_0_3 fX10_32 dX10_turn_1 ?_
  refine C_v0F vX10_132 dX10_turn_4 (qX4_walking hv) rfl rfl (Nat.le_of_ble_eq_true rfl) (by decide) ?_
  refine S_i1 dX10_turn_7 (by decide) rfl ?_
  refine L_i1 dX10_turn_8 ?_
  refine J_if_ne 14 dX10_turn_9 rfl (by omega) (fun c9 => ?_) (fun c9 => ?_)
  · refine L_a0 dX10_turn_14 ?_
    refine GW_0_5 fX10_42 dX10_turn_15 ?_
    refine L_a0 dX10_turn_18 ?_
    refine GW_0_3 fX10_32 dX10_turn_19 ?_
    refine C_v1V vX10_110 dX10_turn_22 (qX8_keep (by omega) (by omega)) rfl rfl (Nat.le_of_ble_eq_true rfl) (by decide) ?_
    refine L_a0 dX10_turn_25 ?_
    refine GW_0_3 fX10_32 dX10_turn_26 ?_
    refine C_v0V vX10_135 dX10_turn_29 (qX4_reverse (S := stK S) (by rw [stK_14]; exact hv)) rfl rfl (Nat.le_of_ble_eq_true rfl) (by decide) ?_
    refine L_i1 dX10_turn_32 ?_
    exact R_i rfl dX10_turn_33 (by first | rw [if_pos (by omega)] | rw [if_neg (by omega)]) (by first | rw [if_pos (by omega)] | rw [if_neg (by omega)])
  · refine J_iconst dX10_turn_12 ?_
    exact R_i rfl dX10_turn_13 (by first | rw [if_pos (by omega)] | rw [if_neg (by omega)]) (by first | rw [if_pos (by omega)] | rw [if_neg (by omega)])

abbrev cl_sh (f : Int → Int) (b : Int) : Prop := ¬ b = 0 ∧ (-16 < b ∧ b < 16) ∧ rw_canMove f b = 1
theorem rw_canMove_01 (f : Int → Int) (b : Int) : rw_canMove f b = 0 ∨ rw_canMove f b = 1 := lpR_z (fun k r h => by unfold rw_cmg at h; split at h; (cases h; exact Or.inl rfl); (cases h)) 8 1 _ (by unfold jb; split; exact Or.inr rfl; exact Or.inl rfl)
set_option maxRecDepth 100000 in
theorem qX10_shift {S T : Nat → Int → Int} {D : List mx_C} (hv : RV (S 14)) (h1 : 0 ≤ S 17 1 ∧ S 17 1 ≤ 29) (h2 : 0 ≤ S 17 2 ∧ S 17 2 ≤ 30) {b : Int} (h_b : -2147483648 ≤ b ∧ b < 2147483648) (hca : cl_sh (S 14) b → CM (S 14) b 1) : SpF yX10_shift cX10_shift 2 (some .boolean) 4 [.ref 0, .int (jI b)] (W5 S T D) (.int (jI (jb (cl_sh (S 14) b)))) (W5 (if cl_sh (S 14) b then upS (stK S) 14 (rw_move (stK S 14) b) else S) T D) := by
  have ha := hv.2
  have h01 := rw_canMove_01 (S 14) b
  refine Sp.of [.ref 0, .int (jI b)] (by decide) (by simp) (Nat.le_of_ble_eq_true rfl) rfl (fun E => ?_)
  refine L_i1 dX10_shift_0 ?_
  refine J_if_eq 27 dX10_shift_1 rfl (by omega) (fun c1 => ?_) (fun c1 => ?_)
  · refine J_iconst dX10_shift_27 ?_
    exact R_z rfl dX10_shift_28 (by decide) (by first | (rw [if_pos (by omega)]; done) | (rw [if_neg (by omega)]; done)) (by first | exact (jb_t (by omega)).symm | exact (jb_f (by omega)).symm)
  · refine L_i1 dX10_shift_4 ?_
    refine J_bipush dX10_shift_5 (by decide) ?_
    refine J_icmp_le 27 dX10_shift_7 rfl (by omega) (by omega) (fun c7 => ?_) (fun c7 => ?_)
    · refine J_iconst dX10_shift_27 ?_
      exact R_z rfl dX10_shift_28 (by decide) (by first | (rw [if_pos (by omega)]; done) | (rw [if_neg (by omega)]; done)) (by first | exact (jb_t (by omega)).symm | exact (jb_f (by omega)).symm)
    · refine L_i1 dX10_shift_10 ?_
      refine J_bipush dX10_shift_11 (by decide) ?_
      refine J_icmp_ge 27 dX10_shift_13 rfl (by omega) (by omega) (fun c13 => ?_) (fun c13 => ?_)
      · refine J_iconst dX10_shift_27 ?_
        exact R_z rfl dX10_shift_28 (by decide) (by first | (rw [if_pos (by omega)]; done) | (rw [if_neg (by omega)]; done)) (by first | exact (jb_t (by omega)).symm | exact (jb_f (by omega)).symm)
      · refine L_a0 dX10_shift_16 ?_
        refine GW_0_3 fX10_32 dX10_shift_17 ?_
        refine L_i1 dX10_shift_20 ?_
        refine C_v1F vX10_138 dX10_shift_21 (qX4_canMove hv (by omega)) rfl rfl (Nat.le_of_ble_eq_true rfl) (by decide) ?_
        refine J_if_ne 29 dX10_shift_24 rfl (by omega) (fun c24 => ?_) (fun c24 => ?_)
        · refine L_a0 dX10_shift_29 ?_
          refine GW_0_5 fX10_42 dX10_shift_30 ?_
          refine L_a0 dX10_shift_33 ?_
          refine GW_0_3 fX10_32 dX10_shift_34 ?_
          refine C_v1V vX10_110 dX10_shift_37 (qX8_keep (by omega) (by omega)) rfl rfl (Nat.le_of_ble_eq_true rfl) (by decide) ?_
          refine L_a0 dX10_shift_40 ?_
          refine GW_0_3 fX10_32 dX10_shift_41 ?_
          refine L_i1 dX10_shift_44 ?_
          refine C_v1V vX10_141 dX10_shift_45 (qX4_move (S := stK S) (by rw [stK_14]; exact hv) (by omega) (by rw [stK_14]; exact hca ⟨by omega, by omega, by omega⟩)) rfl rfl (Nat.le_of_ble_eq_true rfl) (by decide) ?_
          refine J_iconst dX10_shift_48 ?_
          exact R_z rfl dX10_shift_49 (by decide) (by first | (rw [if_pos (by omega)]; done) | (rw [if_neg (by omega)]; done)) (by first | exact (jb_t (by omega)).symm | exact (jb_f (by omega)).symm)
        · refine J_iconst dX10_shift_27 ?_
          exact R_z rfl dX10_shift_28 (by decide) (by first | (rw [if_pos (by omega)]; done) | (rw [if_neg (by omega)]; done)) (by first | exact (jb_t (by omega)).symm | exact (jb_f (by omega)).symm)

set_option maxRecDepth 100000 in
theorem qX10_undo {S T : Nat → Int → Int} {D : List mx_C} (h1 : 0 ≤ S 17 1 ∧ S 17 1 ≤ 29) (h2 : 0 ≤ S 17 2 ∧ S 17 2 ≤ 30) (h3 : ¬ S 17 2 = 0) : SpF yX10_undo cX10_undo 1 (some .int) 3 [.ref 0] (W5 S T D) (.int (jI (S 17 2 - 1))) (W5 (stU S) T D) := by
  refine Sp.of [.ref 0] (by decide) (by simp) (Nat.le_of_ble_eq_true rfl) rfl (fun E => ?_)
  refine L_a0 dX10_undo_0 ?_
  refine GW_0_5 fX10_42 dX10_undo_1 ?_
  refine L_a0 dX10_undo_4 ?_
  refine GW_0_3 fX10_32 dX10_undo_5 ?_
  refine C_v1F vX10_173 dX10_undo_8 (qX8_takeBack (by omega) (by omega) h3) rfl rfl (Nat.le_of_ble_eq_true rfl) (by decide) ?_
  refine J_if_eq 24 dX10_undo_11 rfl (by omega) (fun c11 => ?_) (fun c11 => ?_)
  · exact absurd c11 (by decide)
  · refine L_a0 dX10_undo_14 ?_
    refine GW_0_5 fX10_42 dX10_undo_15 ?_
    refine GW_17_2 fX10_177 dX10_undo_18 ?_
    refine J_eqi (b := S 17 2 - 1) (by unfold stU; rw [upS_n (by decide), upS_s, up_s]) ?_
    refine E_goto 25 dX10_undo_21 rfl ?_
    exact R_i rfl dX10_undo_25 rfl rfl

set_option maxRecDepth 100000 in
theorem qX10_undo0 {S T : Nat → Int → Int} {D : List mx_C} (h2 : S 17 2 = 0) : SpF yX10_undo cX10_undo 1 (some .int) 3 [.ref 0] (W5 S T D) (.int (jI (-1))) (W5 S T D) := by
  refine Sp.of [.ref 0] (by decide) (by simp) (Nat.le_of_ble_eq_true rfl) rfl (fun E => ?_)
  refine L_a0 dX10_undo_0 ?_
  refine GW_0_5 fX10_42 dX10_undo_1 ?_
  refine L_a0 dX10_undo_4 ?_
  refine GW_0_3 fX10_32 dX10_undo_5 ?_
  refine C_v1F vX10_173 dX10_undo_8 (qX8_takeBack0 h2) rfl rfl (Nat.le_of_ble_eq_true rfl) (by decide) ?_
  refine J_if_eq 24 dX10_undo_11 rfl (by omega) (fun c11 => ?_) (fun c11 => ?_)
  · refine J_iconst dX10_undo_24 ?_
    exact R_i rfl dX10_undo_25 rfl rfl
  · exact absurd rfl c11

