/-! ===== the reference: what the token at hand can be ===== -/
def nmR (t w : Int) : Int := if ¬ t = 2 then -1 else if w = 6578553 then 0 else if w = 121450625394034 then 1 else if w = 1819242087 then 2 else if w = 2002873451 then 3 else if w = 495690081125 then 4 else if w = 439855772532 then 5 else if w = 1818325876 then 6 else -1
def nmK (k : Int) : Int := if k = 8 then 0 else if k = 10 then 1 else if k = 9 then 2 else if k = 11 then 3 else if k = 12 then 4 else if k = 13 then 5 else if k = 14 then 6 else -1
abbrev ofN (s n : Int) : Prop := n < 4 ∨ (n < 6 ∧ s = 1) ∨ (6 ≤ n ∧ s = 0)
def cpR (t : Int) : Int := if t = 60 then 10 else if t = 4 then 11 else if t = 62 then 12 else if t = 5 then 13 else if t = 61 then 14 else if t = 35 then 15 else -1
def cpK (k : Int) : Int := if k = 30 then 10 else if k = 41 then 11 else if k = 31 then 12 else if k = 42 then 13 else if k = 32 then 14 else if k = 33 then 15 else -1
def btR (t w : Int) (ps : List Int) : Int := if t = 43 then 6 else if t = 45 then 7 else if t = 42 then 8 else if t = 47 then 9 else if ¬ opn ps = 41 then -1 else if ¬ cmB ps = true then cpR t else if t = 2 ∧ w = 6385252 then 21 else if t = 2 ∧ w = 28530 then 22 else -1
def btK (k : Int) (ps : List Int) : Int := if k = 34 then 6 else if k = 35 then 7 else if k = 36 then 8 else if k = 37 then 9 else if ¬ opn ps = 41 then -1 else if ¬ cmB ps = true then cpK k else if k = 22 then 21 else if k = 21 then 22 else -1
def ptR (o t w : Int) (ps : List Int) : Int := if o = 40 then (if t = 41 then 0 else -1) else if o = 41 then (if (t = 2 ∧ w = 1952998766) ∧ cmB ps = true then 42 else -1) else if o = 42 then (if t = 2 ∧ w = 1701606245 then 43 else -1) else if o = 43 then (if t = 2 ∧ w = 6647396 then 0 else -1) else -1
def ptK (o k : Int) (ps : List Int) : Int := if o = 40 then (if k = 39 then 0 else -1) else if o = 41 then (if k = 18 ∧ cmB ps = true then 42 else -1) else if o = 42 then (if k = 19 then 43 else -1) else if o = 43 then (if k = 20 then 0 else -1) else -1
def srR (t w : Int) : Int := if t = 2 ∧ w = 27696098611389806 then 0 else if t = 2 ∧ w = 499985311091 then 1 else if t = 2 ∧ w = 1819242087 then 2 else if t = 2 ∧ w = 1785686382 then 3 else if t = 2 ∧ w = 465557354085 then 4 else if t = 2 ∧ w = 1953854062 then 5 else if t = 2 ∧ w = 6578553 then 6 else -1
def srK (k : Int) : Int := if k = 3 then 0 else if k = 4 then 1 else if k = 9 then 2 else if k = 5 then 3 else if k = 6 then 4 else if k = 7 then 5 else if k = 8 then 6 else -1
theorem nmR_kd (B : Nat → Int) (c : Nat) : nmR (lxt B c) (lxw B c) = nmK (kd B c) := by
  unfold nmR nmK
  simp only [kd_8 (B := B) (c := c), kd_10 (B := B) (c := c), kd_9 (B := B) (c := c), kd_11 (B := B) (c := c), kd_12 (B := B) (c := c), kd_13 (B := B) (c := c), kd_14 (B := B) (c := c)]
  by_cases h : lxt B c = 2 <;> simp [h]
theorem cpR_kd (B : Nat → Int) (c : Nat) : cpR (lxt B c) = cpK (kd B c) := by
  unfold cpR cpK
  simp only [kd_30 (B := B) (c := c), kd_41 (B := B) (c := c), kd_31 (B := B) (c := c), kd_42 (B := B) (c := c), kd_32 (B := B) (c := c), kd_33 (B := B) (c := c)]
theorem btR_kd (B : Nat → Int) (c : Nat) (ps : List Int) : btR (lxt B c) (lxw B c) ps = btK (kd B c) ps := by
  unfold btR btK
  rw [cpR_kd]
  simp only [kd_34 (B := B) (c := c), kd_35 (B := B) (c := c), kd_36 (B := B) (c := c), kd_37 (B := B) (c := c), kd_22 (B := B) (c := c), kd_21 (B := B) (c := c)]
theorem ptR_kd (o : Int) (B : Nat → Int) (c : Nat) (ps : List Int) : ptR o (lxt B c) (lxw B c) ps = ptK o (kd B c) ps := by
  unfold ptR ptK
  simp only [kd_39 (B := B) (c := c), kd_18 (B := B) (c := c), kd_19 (B := B) (c := c), kd_20 (B := B) (c := c)]
theorem srR_kd (B : Nat → Int) (c : Nat) : srR (lxt B c) (lxw B c) = srK (kd B c) := by
  unfold srR srK
  simp only [kd_3 (B := B) (c := c), kd_4 (B := B) (c := c), kd_9 (B := B) (c := c), kd_5 (B := B) (c := c), kd_6 (B := B) (c := c), kd_7 (B := B) (c := c), kd_8 (B := B) (c := c)]
set_option maxRecDepth 100000 in
theorem qX11_nameOf {S T : Nat → Int → Int} {D : List mx_C} {B : Nat → Int} {c : Nat} (hct : CT B T c) (hB : ∀ k, B k ≤ 255) : SpF yX11_nameOf cX11_nameOf 1 (some .int) 5 [.ref 36] (W5 S T D) (.int (jI (nmR (lxt B c) (lxw B c)))) (W5 S T D) := by
  have ht := lxt_B hB c
  have hw := lxw_B hB c
  refine Sp.of [.ref 36] (by decide) (by simp) (Nat.le_of_ble_eq_true rfl) rfl (fun E => ?_)
  refine L_a0 dX11_nameOf_0 ?_
  refine GW_36_9 fX11_114 dX11_nameOf_1 ?_
  refine J_eqi (b := lxt B c) hct.2.2.1 ?_
  refine J_iconst dX11_nameOf_4 ?_
  refine J_icmp_eq 10 dX11_nameOf_5 rfl (by omega) (by omega) (fun c5 => ?_) (fun c5 => ?_)
  · refine L_a0 dX11_nameOf_10 ?_
    refine GW_36_11 fX11_127 dX11_nameOf_11 ?_
    refine J_eql (b := (lxw B c : Int)) (hct.2.2.2.2 (by omega)) ?_
    refine J_bipush dX11_nameOf_14 (by decide) ?_
    refine J_bipush dX11_nameOf_16 (by decide) ?_
    refine J_bipush dX11_nameOf_18 (by decide) ?_
    refine C_s3F vX11_140 dX11_nameOf_20 (qX11_w3 (x := 100) (z := 97) (u := 121) (by decide) (by decide) (by decide)) (Nat.le_of_ble_eq_true rfl) (by decide) ?_
    refine J_eql (b := 6578553) (by decide) ?_
    refine JL_ne 29 dX11_nameOf_23 dX11_nameOf_24 rfl (by omega) (by omega) (fun c24 => ?_) (fun c24 => ?_)
    · refine L_a0 dX11_nameOf_29 ?_
      refine GW_36_11 fX11_127 dX11_nameOf_30 ?_
      refine J_eql (b := (lxw B c : Int)) (hct.2.2.2.2 (by omega)) ?_
      refine J_bipush dX11_nameOf_33 (by decide) ?_
      refine J_bipush dX11_nameOf_35 (by decide) ?_
      refine J_bipush dX11_nameOf_37 (by decide) ?_
      refine J_bipush dX11_nameOf_39 (by decide) ?_
      refine J_bipush dX11_nameOf_41 (by decide) ?_
      refine J_bipush dX11_nameOf_43 (by decide) ?_
      refine C_s6F vX11_158 dX11_nameOf_45 (qX11_w6 (x := 110) (z := 117) (u := 109) (v := 98) (t := 101) (r := 114) (by decide) (by decide) (by decide) (by decide) (by decide) (by decide)) (Nat.le_of_ble_eq_true rfl) (by decide) ?_
      refine J_eql (b := 121450625394034) (by decide) ?_
      refine JL_ne 54 dX11_nameOf_48 dX11_nameOf_49 rfl (by omega) (by omega) (fun c49 => ?_) (fun c49 => ?_)
      · refine L_a0 dX11_nameOf_54 ?_
        refine GW_36_11 fX11_127 dX11_nameOf_55 ?_
        refine J_eql (b := (lxw B c : Int)) (hct.2.2.2.2 (by omega)) ?_
        refine J_bipush dX11_nameOf_58 (by decide) ?_
        refine J_bipush dX11_nameOf_60 (by decide) ?_
        refine J_bipush dX11_nameOf_62 (by decide) ?_
        refine J_bipush dX11_nameOf_64 (by decide) ?_
        refine C_s4F vX11_144 dX11_nameOf_66 (qX11_w4 (x := 108) (z := 111) (u := 110) (v := 103) (by decide) (by decide) (by decide) (by decide)) (Nat.le_of_ble_eq_true rfl) (by decide) ?_
        refine J_eql (b := 1819242087) (by decide) ?_
        refine JL_ne 75 dX11_nameOf_69 dX11_nameOf_70 rfl (by omega) (by omega) (fun c70 => ?_) (fun c70 => ?_)
        · refine L_a0 dX11_nameOf_75 ?_
          refine GW_36_11 fX11_127 dX11_nameOf_76 ?_
          refine J_eql (b := (lxw B c : Int)) (hct.2.2.2.2 (by omega)) ?_
          refine J_bipush dX11_nameOf_79 (by decide) ?_
          refine J_bipush dX11_nameOf_81 (by decide) ?_
          refine J_bipush dX11_nameOf_83 (by decide) ?_
          refine J_bipush dX11_nameOf_85 (by decide) ?_
          refine C_s4F vX11_144 dX11_nameOf_87 (qX11_w4 (x := 119) (z := 97) (u := 108) (v := 107) (by decide) (by decide) (by decide) (by decide)) (Nat.le_of_ble_eq_true rfl) (by decide) ?_
          refine J_eql (b := 2002873451) (by decide) ?_
          refine JL_ne 96 dX11_nameOf_90 dX11_nameOf_91 rfl (by omega) (by omega) (fun c91 => ?_) (fun c91 => ?_)
          · refine L_a0 dX11_nameOf_96 ?_
            refine GW_36_11 fX11_127 dX11_nameOf_97 ?_
            refine J_eql (b := (lxw B c : Int)) (hct.2.2.2.2 (by omega)) ?_
            refine J_bipush dX11_nameOf_100 (by decide) ?_
            refine J_bipush dX11_nameOf_102 (by decide) ?_
            refine J_bipush dX11_nameOf_104 (by decide) ?_
            refine J_bipush dX11_nameOf_106 (by decide) ?_
            refine J_bipush dX11_nameOf_108 (by decide) ?_
            refine C_s5F vX11_148 dX11_nameOf_110 (qX11_w5 (x := 115) (z := 105) (u := 110) (v := 99) (t := 101) (by decide) (by decide) (by decide) (by decide) (by decide)) (Nat.le_of_ble_eq_true rfl) (by decide) ?_
            refine J_eql (b := 495690081125) (by decide) ?_
            refine JL_ne 119 dX11_nameOf_113 dX11_nameOf_114 rfl (by omega) (by omega) (fun c114 => ?_) (fun c114 => ?_)
            · refine L_a0 dX11_nameOf_119 ?_
              refine GW_36_11 fX11_127 dX11_nameOf_120 ?_
              refine J_eql (b := (lxw B c : Int)) (hct.2.2.2.2 (by omega)) ?_
              refine J_bipush dX11_nameOf_123 (by decide) ?_
              refine J_bipush dX11_nameOf_125 (by decide) ?_
              refine J_bipush dX11_nameOf_127 (by decide) ?_
              refine J_bipush dX11_nameOf_129 (by decide) ?_
              refine J_bipush dX11_nameOf_131 (by decide) ?_
              refine C_s5F vX11_148 dX11_nameOf_133 (qX11_w5 (x := 102) (z := 105) (u := 114) (v := 115) (t := 116) (by decide) (by decide) (by decide) (by decide) (by decide)) (Nat.le_of_ble_eq_true rfl) (by decide) ?_
              refine J_eql (b := 439855772532) (by decide) ?_
              refine JL_ne 144 dX11_nameOf_136 dX11_nameOf_137 rfl (by omega) (by omega) (fun c137 => ?_) (fun c137 => ?_)
              · refine L_a0 dX11_nameOf_144 ?_
                refine GW_36_11 fX11_127 dX11_nameOf_145 ?_
                refine J_eql (b := (lxw B c : Int)) (hct.2.2.2.2 (by omega)) ?_
                refine J_bipush dX11_nameOf_148 (by decide) ?_
                refine J_bipush dX11_nameOf_150 (by decide) ?_
                refine J_bipush dX11_nameOf_152 (by decide) ?_
                refine J_bipush dX11_nameOf_154 (by decide) ?_
                refine C_s4F vX11_144 dX11_nameOf_156 (qX11_w4 (x := 108) (z := 97) (u := 115) (v := 116) (by decide) (by decide) (by decide) (by decide)) (Nat.le_of_ble_eq_true rfl) (by decide) ?_
                refine J_eql (b := 1818325876) (by decide) ?_
                refine JL_ne 168 dX11_nameOf_159 dX11_nameOf_160 rfl (by omega) (by omega) (fun c160 => ?_) (fun c160 => ?_)
                · refine J_iconst dX11_nameOf_168 ?_
                  exact R_i rfl dX11_nameOf_169 rfl (by unfold nmR; repeat' split; all_goals omega)
                · refine J_bipush dX11_nameOf_163 (by decide) ?_
                  refine E_goto 169 dX11_nameOf_165 rfl ?_
                  exact R_i rfl dX11_nameOf_169 rfl (by unfold nmR; repeat' split; all_goals omega)
              · refine J_iconst dX11_nameOf_140 ?_
                refine E_goto 169 dX11_nameOf_141 rfl ?_
                exact R_i rfl dX11_nameOf_169 rfl (by unfold nmR; repeat' split; all_goals omega)
            · refine J_iconst dX11_nameOf_117 ?_
              exact R_i rfl dX11_nameOf_118 rfl (by unfold nmR; repeat' split; all_goals omega)
          · refine J_iconst dX11_nameOf_94 ?_
            exact R_i rfl dX11_nameOf_95 rfl (by unfold nmR; repeat' split; all_goals omega)
        · refine J_iconst dX11_nameOf_73 ?_
          exact R_i rfl dX11_nameOf_74 rfl (by unfold nmR; repeat' split; all_goals omega)
      · refine J_iconst dX11_nameOf_52 ?_
        exact R_i rfl dX11_nameOf_53 rfl (by unfold nmR; repeat' split; all_goals omega)
    · refine J_iconst dX11_nameOf_27 ?_
      exact R_i rfl dX11_nameOf_28 rfl (by unfold nmR; repeat' split; all_goals omega)
  · refine J_iconst dX11_nameOf_8 ?_
    exact R_i rfl dX11_nameOf_9 rfl (by unfold nmR; repeat' split; all_goals omega)

set_option maxRecDepth 100000 in
theorem qX11_isOf {S T : Nat → Int → Int} {D : List mx_C} (h14 : 0 ≤ T 36 14 ∧ T 36 14 ≤ 10) {n : Int} (hn : -1 ≤ n ∧ n ≤ 6) : SpF yX11_isOf cX11_isOf 2 (some .boolean) 0 [.ref 36, .int (jI n)] (W5 S T D) (.int (jI (jb (ofN (T 36 14) n)))) (W5 S T D) := by
  refine Sp.of [.ref 36, .int (jI n)] (by decide) (by simp) (Nat.le_of_ble_eq_true rfl) rfl (fun E => ?_)
  refine L_i1 dX11_isOf_0 ?_
  refine J_iconst dX11_isOf_1 ?_
  refine J_icmp_lt 29 dX11_isOf_2 rfl (by omega) (by omega) (fun c2 => ?_) (fun c2 => ?_)
  · refine J_iconst dX11_isOf_29 ?_
    refine E_goto 34 dX11_isOf_30 rfl ?_
    exact R_z rfl dX11_isOf_34 (by decide) rfl (by first | exact (jb_t (by omega)).symm | exact (jb_f (by omega)).symm)
  · refine L_i1 dX11_isOf_5 ?_
    refine J_bipush dX11_isOf_6 (by decide) ?_
    refine J_icmp_ge 22 dX11_isOf_8 rfl (by omega) (by omega) (fun c8 => ?_) (fun c8 => ?_)
    · refine L_a0 dX11_isOf_22 ?_
      refine GW_36_14 fX11_162 dX11_isOf_23 ?_
      refine J_if_ne 33 dX11_isOf_26 rfl (by omega) (fun c26 => ?_) (fun c26 => ?_)
      · refine J_iconst dX11_isOf_33 ?_
        exact R_z rfl dX11_isOf_34 (by decide) rfl (by first | exact (jb_t (by omega)).symm | exact (jb_f (by omega)).symm)
      · refine J_iconst dX11_isOf_29 ?_
        refine E_goto 34 dX11_isOf_30 rfl ?_
        exact R_z rfl dX11_isOf_34 (by decide) rfl (by first | exact (jb_t (by omega)).symm | exact (jb_f (by omega)).symm)
    · refine L_a0 dX11_isOf_11 ?_
      refine GW_36_14 fX11_162 dX11_isOf_12 ?_
      refine J_iconst dX11_isOf_15 ?_
      refine J_icmp_ne 33 dX11_isOf_16 rfl (by omega) (by omega) (fun c16 => ?_) (fun c16 => ?_)
      · refine J_iconst dX11_isOf_33 ?_
        exact R_z rfl dX11_isOf_34 (by decide) rfl (by first | exact (jb_t (by omega)).symm | exact (jb_f (by omega)).symm)
      · refine E_goto 29 dX11_isOf_19 rfl ?_
        refine J_iconst dX11_isOf_29 ?_
        refine E_goto 34 dX11_isOf_30 rfl ?_
        exact R_z rfl dX11_isOf_34 (by decide) rfl (by first | exact (jb_t (by omega)).symm | exact (jb_f (by omega)).symm)

set_option maxRecDepth 100000 in
theorem qX11_compareOf {S T : Nat → Int → Int} {D : List mx_C} {B : Nat → Int} {c : Nat} (hct : CT B T c) (hB : ∀ k, B k ≤ 255) : SpF yX11_compareOf cX11_compareOf 1 (some .int) 0 [.ref 36] (W5 S T D) (.int (jI (cpR (lxt B c)))) (W5 S T D) := by
  have ht := lxt_B hB c
  have hw := lxw_B hB c
  refine Sp.of [.ref 36] (by decide) (by simp) (Nat.le_of_ble_eq_true rfl) rfl (fun E => ?_)
  refine L_a0 dX11_compareOf_0 ?_
  refine GW_36_9 fX11_114 dX11_compareOf_1 ?_
  refine J_eqi (b := lxt B c) hct.2.2.1 ?_
  refine J_bipush dX11_compareOf_4 (by decide) ?_
  refine J_icmp_ne 14 dX11_compareOf_6 rfl (by omega) (by omega) (fun c6 => ?_) (fun c6 => ?_)
  · refine L_a0 dX11_compareOf_14 ?_
    refine GW_36_9 fX11_114 dX11_compareOf_15 ?_
    refine J_eqi (b := lxt B c) hct.2.2.1 ?_
    refine J_iconst dX11_compareOf_18 ?_
    refine J_icmp_ne 27 dX11_compareOf_19 rfl (by omega) (by omega) (fun c19 => ?_) (fun c19 => ?_)
    · refine L_a0 dX11_compareOf_27 ?_
      refine GW_36_9 fX11_114 dX11_compareOf_28 ?_
      refine J_eqi (b := lxt B c) hct.2.2.1 ?_
      refine J_bipush dX11_compareOf_31 (by decide) ?_
      refine J_icmp_ne 41 dX11_compareOf_33 rfl (by omega) (by omega) (fun c33 => ?_) (fun c33 => ?_)
      · refine L_a0 dX11_compareOf_41 ?_
        refine GW_36_9 fX11_114 dX11_compareOf_42 ?_
        refine J_eqi (b := lxt B c) hct.2.2.1 ?_
        refine J_iconst dX11_compareOf_45 ?_
        refine J_icmp_ne 54 dX11_compareOf_46 rfl (by omega) (by omega) (fun c46 => ?_) (fun c46 => ?_)
        · refine L_a0 dX11_compareOf_54 ?_
          refine GW_36_9 fX11_114 dX11_compareOf_55 ?_
          refine J_eqi (b := lxt B c) hct.2.2.1 ?_
          refine J_bipush dX11_compareOf_58 (by decide) ?_
          refine J_icmp_ne 68 dX11_compareOf_60 rfl (by omega) (by omega) (fun c60 => ?_) (fun c60 => ?_)
          · refine L_a0 dX11_compareOf_68 ?_
            refine GW_36_9 fX11_114 dX11_compareOf_69 ?_
            refine J_eqi (b := lxt B c) hct.2.2.1 ?_
            refine J_bipush dX11_compareOf_72 (by decide) ?_
            refine J_icmp_ne 82 dX11_compareOf_74 rfl (by omega) (by omega) (fun c74 => ?_) (fun c74 => ?_)
            · refine J_iconst dX11_compareOf_82 ?_
              exact R_i rfl dX11_compareOf_83 rfl (by unfold cpR; repeat' split; all_goals omega)
            · refine J_bipush dX11_compareOf_77 (by decide) ?_
              refine E_goto 83 dX11_compareOf_79 rfl ?_
              exact R_i rfl dX11_compareOf_83 rfl (by unfold cpR; repeat' split; all_goals omega)
          · refine J_bipush dX11_compareOf_63 (by decide) ?_
            refine E_goto 83 dX11_compareOf_65 rfl ?_
            exact R_i rfl dX11_compareOf_83 rfl (by unfold cpR; repeat' split; all_goals omega)
        · refine J_bipush dX11_compareOf_49 (by decide) ?_
          refine E_goto 83 dX11_compareOf_51 rfl ?_
          exact R_i rfl dX11_compareOf_83 rfl (by unfold cpR; repeat' split; all_goals omega)
      · refine J_bipush dX11_compareOf_36 (by decide) ?_
        refine E_goto 83 dX11_compareOf_38 rfl ?_
        exact R_i rfl dX11_compareOf_83 rfl (by unfold cpR; repeat' split; all_goals omega)
    · refine J_bipush dX11_compareOf_22 (by decide) ?_
      refine E_goto 83 dX11_compareOf_24 rfl ?_
      exact R_i rfl dX11_compareOf_83 rfl (by unfold cpR; repeat' split; all_goals omega)
  · refine J_bipush dX11_compareOf_9 (by decide) ?_
    refine E_goto 83 dX11_compareOf_11 rfl ?_
    exact R_i rfl dX11_compareOf_83 rfl (by unfold cpR; repeat' split; all_goals omega)

set_option maxRecDepth 100000 in
theorem qX11_betweenOf {S T : Nat → Int → Int} {D : List mx_C} {B : Nat → Int} {c : Nat} (hct : CT B T c) (hB : ∀ k, B k ≤ 255) {ps : List Int} (hvo : VO ps) (h16 : T 36 16 = (ps.length : Int)) (hp : PLd (T 41) ps) (hl : ps.length < 160) : SpF yX11_betweenOf cX11_betweenOf 1 (some .int) 3 [.ref 36] (W5 S T D) (.int (jI (btR (lxt B c) (lxw B c) ps))) (W5 S T D) := by
  have ht := lxt_B hB c
  have hw := lxw_B hB c
  have hob := opn_B ps hvo
  refine Sp.of [.ref 36] (by decide) (by simp) (Nat.le_of_ble_eq_true rfl) rfl (fun E => ?_)
  refine L_a0 dX11_betweenOf_0 ?_
  refine GW_36_9 fX11_114 dX11_betweenOf_1 ?_
  refine J_eqi (b := lxt B c) hct.2.2.1 ?_
  refine J_bipush dX11_betweenOf_4 (by decide) ?_
  refine J_icmp_ne 12 dX11_betweenOf_6 rfl (by omega) (by omega) (fun c6 => ?_) (fun c6 => ?_)
  · refine L_a0 dX11_betweenOf_12 ?_
    refine GW_36_9 fX11_114 dX11_betweenOf_13 ?_
    refine J_eqi (b := lxt B c) hct.2.2.1 ?_
    refine J_bipush dX11_betweenOf_16 (by decide) ?_
    refine J_icmp_ne 24 dX11_betweenOf_18 rfl (by omega) (by omega) (fun c18 => ?_) (fun c18 => ?_)
    · refine L_a0 dX11_betweenOf_24 ?_
      refine GW_36_9 fX11_114 dX11_betweenOf_25 ?_
      refine J_eqi (b := lxt B c) hct.2.2.1 ?_
      refine J_bipush dX11_betweenOf_28 (by decide) ?_
      refine J_icmp_ne 36 dX11_betweenOf_30 rfl (by omega) (by omega) (fun c30 => ?_) (fun c30 => ?_)
      · refine L_a0 dX11_betweenOf_36 ?_
        refine GW_36_9 fX11_114 dX11_betweenOf_37 ?_
        refine J_eqi (b := lxt B c) hct.2.2.1 ?_
        refine J_bipush dX11_betweenOf_40 (by decide) ?_
        refine J_icmp_ne 48 dX11_betweenOf_42 rfl (by omega) (by omega) (fun c42 => ?_) (fun c42 => ?_)
        · refine L_a0 dX11_betweenOf_48 ?_
          refine C_v0F vX11_182 dX11_betweenOf_49 (qX11_openNow hvo h16 hp hl) rfl rfl (Nat.le_of_ble_eq_true rfl) (by decide) ?_
          refine J_bipush dX11_betweenOf_52 (by decide) ?_
          refine J_icmp_eq 59 dX11_betweenOf_54 rfl (by omega) (by omega) (fun c54 => ?_) (fun c54 => ?_)
          · refine L_a0 dX11_betweenOf_59 ?_
            refine C_v0F vX11_211 dX11_betweenOf_60 (qX11_isCompared hvo h16 hp hl) rfl rfl (Nat.le_of_ble_eq_true rfl) (by decide) ?_
            refine J_ifneB 71 dX11_betweenOf_63 rfl (fun c63 => ?_) (fun c63 => ?_)
            · refine L_a0 dX11_betweenOf_71 ?_
              refine J_bipush dX11_betweenOf_72 (by decide) ?_
              refine J_bipush dX11_betweenOf_74 (by decide) ?_
              refine J_bipush dX11_betweenOf_76 (by decide) ?_
              refine C_s3F vX11_140 dX11_betweenOf_78 (qX11_w3 (x := 97) (z := 110) (u := 100) (by decide) (by decide) (by decide)) (Nat.le_of_ble_eq_true rfl) (by decide) ?_
              refine J_eql (b := 6385252) (by decide) ?_
              refine C_v1F vX11_203 dX11_betweenOf_81 (qX11_isWord hct hB (by omega)) rfl rfl (Nat.le_of_ble_eq_true rfl) (by decide) ?_
              refine J_ifeqB 92 dX11_betweenOf_84 rfl (fun c84 => ?_) (fun c84 => ?_)
              · refine L_a0 dX11_betweenOf_92 ?_
                refine J_bipush dX11_betweenOf_93 (by decide) ?_
                refine J_bipush dX11_betweenOf_95 (by decide) ?_
                refine C_s2F vX11_136 dX11_betweenOf_97 (qX11_w2 (x := 111) (z := 114) (by decide) (by decide)) (Nat.le_of_ble_eq_true rfl) (by decide) ?_
                refine J_eql (b := 28530) (by decide) ?_
                refine C_v1F vX11_203 dX11_betweenOf_100 (qX11_isWord hct hB (by omega)) rfl rfl (Nat.le_of_ble_eq_true rfl) (by decide) ?_
                refine J_ifeqB 111 dX11_betweenOf_103 rfl (fun c103 => ?_) (fun c103 => ?_)
                · refine J_iconst dX11_betweenOf_111 ?_
                  exact R_i rfl dX11_betweenOf_112 rfl (by unfold btR; first | (repeat' split; all_goals omega) | (repeat' split; all_goals first | rfl | omega | contradiction))
                · refine J_bipush dX11_betweenOf_106 (by decide) ?_
                  refine E_goto 112 dX11_betweenOf_108 rfl ?_
                  exact R_i rfl dX11_betweenOf_112 rfl (by unfold btR; first | (repeat' split; all_goals omega) | (repeat' split; all_goals first | rfl | omega | contradiction))
              · refine J_bipush dX11_betweenOf_87 (by decide) ?_
                refine E_goto 112 dX11_betweenOf_89 rfl ?_
                exact R_i rfl dX11_betweenOf_112 rfl (by unfold btR; first | (repeat' split; all_goals omega) | (repeat' split; all_goals first | rfl | omega | contradiction))
            · refine L_a0 dX11_betweenOf_66 ?_
              refine C_v0F vX11_214 dX11_betweenOf_67 (qX11_compareOf hct hB) rfl rfl (Nat.le_of_ble_eq_true rfl) (by decide) ?_
              exact R_i rfl dX11_betweenOf_70 rfl (by unfold btR; first | (repeat' split; all_goals omega) | (repeat' split; all_goals first | rfl | omega | contradiction))
          · refine J_iconst dX11_betweenOf_57 ?_
            exact R_i rfl dX11_betweenOf_58 rfl (by unfold btR; first | (repeat' split; all_goals omega) | (repeat' split; all_goals first | rfl | omega | contradiction))
        · refine J_bipush dX11_betweenOf_45 (by decide) ?_
          exact R_i rfl dX11_betweenOf_47 rfl (by unfold btR; first | (repeat' split; all_goals omega) | (repeat' split; all_goals first | rfl | omega | contradiction))
      · refine J_bipush dX11_betweenOf_33 (by decide) ?_
        exact R_i rfl dX11_betweenOf_35 rfl (by unfold btR; first | (repeat' split; all_goals omega) | (repeat' split; all_goals first | rfl | omega | contradiction))
    · refine J_bipush dX11_betweenOf_21 (by decide) ?_
      exact R_i rfl dX11_betweenOf_23 rfl (by unfold btR; first | (repeat' split; all_goals omega) | (repeat' split; all_goals first | rfl | omega | contradiction))
  · refine J_bipush dX11_betweenOf_9 (by decide) ?_
    exact R_i rfl dX11_betweenOf_11 rfl (by unfold btR; first | (repeat' split; all_goals omega) | (repeat' split; all_goals first | rfl | omega | contradiction))

set_option maxRecDepth 100000 in
theorem qX11_partOf {S T : Nat → Int → Int} {D : List mx_C} {B : Nat → Int} {c : Nat} (hct : CT B T c) (hB : ∀ k, B k ≤ 255) {ps : List Int} (hvo : VO ps) (h16 : T 36 16 = (ps.length : Int)) (hp : PLd (T 41) ps) (hl : ps.length < 160) {o : Int} (ho : -1 ≤ o ∧ o ≤ 100) : SpF yX11_partOf cX11_partOf 2 (some .int) 3 [.ref 36, .int (jI o)] (W5 S T D) (.int (jI (ptR o (lxt B c) (lxw B c) ps))) (W5 S T D) := by
  have ht := lxt_B hB c
  have hw := lxw_B hB c
  refine Sp.of [.ref 36, .int (jI o)] (by decide) (by simp) (Nat.le_of_ble_eq_true rfl) rfl (fun E => ?_)
  refine L_i1 dX11_partOf_0 ?_
  refine J_tab4 32 47 79 104 126 dX11_partOf_1 (by omega) rfl rfl rfl rfl rfl rfl (fun c1 => ?_) (fun c1 => ?_) (fun c1 => ?_) (fun c1 => ?_) (fun c1 => ?_)
  · refine L_a0 dX11_partOf_32 ?_
    refine GW_36_9 fX11_114 dX11_partOf_33 ?_
    refine J_eqi (b := lxt B c) hct.2.2.1 ?_
    refine J_bipush dX11_partOf_36 (by decide) ?_
    refine J_icmp_ne 45 dX11_partOf_38 rfl (by omega) (by omega) (fun c38 => ?_) (fun c38 => ?_)
    · refine J_iconst dX11_partOf_45 ?_
      exact R_i rfl dX11_partOf_46 rfl (by first | (simp_all [ptR]; done) | (unfold ptR; repeat' split; all_goals first | rfl | omega | contradiction))
    · refine J_iconst dX11_partOf_41 ?_
      refine E_goto 46 dX11_partOf_42 rfl ?_
      exact R_i rfl dX11_partOf_46 rfl (by first | (simp_all [ptR]; done) | (unfold ptR; repeat' split; all_goals first | rfl | omega | contradiction))
  · refine L_a0 dX11_partOf_47 ?_
    refine J_bipush dX11_partOf_48 (by decide) ?_
    refine J_bipush dX11_partOf_50 (by decide) ?_
    refine J_bipush dX11_partOf_52 (by decide) ?_
    refine J_bipush dX11_partOf_54 (by decide) ?_
    refine C_s4F vX11_144 dX11_partOf_56 (qX11_w4 (x := 116) (z := 104) (u := 101) (v := 110) (by decide) (by decide) (by decide) (by decide)) (Nat.le_of_ble_eq_true rfl) (by decide) ?_
    refine J_eql (b := 1952998766) (by decide) ?_
    refine C_v1F vX11_203 dX11_partOf_59 (qX11_isWord hct hB (by omega)) rfl rfl (Nat.le_of_ble_eq_true rfl) (by decide) ?_
    refine J_ifeqB 77 dX11_partOf_62 rfl (fun c62 => ?_) (fun c62 => ?_)
    · refine J_iconst dX11_partOf_77 ?_
      exact R_i rfl dX11_partOf_78 rfl (by first | (simp_all [ptR]; done) | (unfold ptR; repeat' split; all_goals first | rfl | omega | contradiction))
    · refine L_a0 dX11_partOf_65 ?_
      refine C_v0F vX11_211 dX11_partOf_66 (qX11_isCompared hvo h16 hp hl) rfl rfl (Nat.le_of_ble_eq_true rfl) (by decide) ?_
      refine J_ifeqB 77 dX11_partOf_69 rfl (fun c69 => ?_) (fun c69 => ?_)
      · refine J_iconst dX11_partOf_77 ?_
        exact R_i rfl dX11_partOf_78 rfl (by first | (simp_all [ptR]; done) | (unfold ptR; repeat' split; all_goals first | rfl | omega | contradiction))
      · refine J_bipush dX11_partOf_72 (by decide) ?_
        refine E_goto 78 dX11_partOf_74 rfl ?_
        exact R_i rfl dX11_partOf_78 rfl (by first | (simp_all [ptR]; done) | (unfold ptR; repeat' split; all_goals first | rfl | omega | contradiction))
  · refine L_a0 dX11_partOf_79 ?_
    refine J_bipush dX11_partOf_80 (by decide) ?_
    refine J_bipush dX11_partOf_82 (by decide) ?_
    refine J_bipush dX11_partOf_84 (by decide) ?_
    refine J_bipush dX11_partOf_86 (by decide) ?_
    refine C_s4F vX11_144 dX11_partOf_88 (qX11_w4 (x := 101) (z := 108) (u := 115) (v := 101) (by decide) (by decide) (by decide) (by decide)) (Nat.le_of_ble_eq_true rfl) (by decide) ?_
    refine J_eql (b := 1701606245) (by decide) ?_
    refine C_v1F vX11_203 dX11_partOf_91 (qX11_isWord hct hB (by omega)) rfl rfl (Nat.le_of_ble_eq_true rfl) (by decide) ?_
    refine J_ifeqB 102 dX11_partOf_94 rfl (fun c94 => ?_) (fun c94 => ?_)
    · refine J_iconst dX11_partOf_102 ?_
      exact R_i rfl dX11_partOf_103 rfl (by first | (simp_all [ptR]; done) | (unfold ptR; repeat' split; all_goals first | rfl | omega | contradiction))
    · refine J_bipush dX11_partOf_97 (by decide) ?_
      refine E_goto 103 dX11_partOf_99 rfl ?_
      exact R_i rfl dX11_partOf_103 rfl (by first | (simp_all [ptR]; done) | (unfold ptR; repeat' split; all_goals first | rfl | omega | contradiction))
  · refine L_a0 dX11_partOf_104 ?_
    refine J_bipush dX11_partOf_105 (by decide) ?_
    refine J_bipush dX11_partOf_107 (by decide) ?_
    refine J_bipush dX11_partOf_109 (by decide) ?_
    refine C_s3F vX11_140 dX11_partOf_111 (qX11_w3 (x := 101) (z := 110) (u := 100) (by decide) (by decide) (by decide)) (Nat.le_of_ble_eq_true rfl) (by decide) ?_
    refine J_eql (b := 6647396) (by decide) ?_
    refine C_v1F vX11_203 dX11_partOf_114 (qX11_isWord hct hB (by omega)) rfl rfl (Nat.le_of_ble_eq_true rfl) (by decide) ?_
    refine J_ifeqB 124 dX11_partOf_117 rfl (fun c117 => ?_) (fun c117 => ?_)
    · refine J_iconst dX11_partOf_124 ?_
      exact R_i rfl dX11_partOf_125 rfl (by first | (simp_all [ptR]; done) | (unfold ptR; repeat' split; all_goals first | rfl | omega | contradiction))
    · refine J_iconst dX11_partOf_120 ?_
      refine E_goto 125 dX11_partOf_121 rfl ?_
      exact R_i rfl dX11_partOf_125 rfl (by first | (simp_all [ptR]; done) | (unfold ptR; repeat' split; all_goals first | rfl | omega | contradiction))
  · refine J_iconst dX11_partOf_126 ?_
    exact R_i rfl dX11_partOf_127 rfl (by first | (simp_all [ptR]; done) | (unfold ptR; repeat' split; all_goals first | rfl | omega | contradiction))

