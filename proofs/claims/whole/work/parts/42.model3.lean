/-! ===== the reference: the book, draws, turning, keeping ===== -/
def md_ln (v q : Int) : Int := if q = 0 then v / 432 else if q = 1 then v / 48 % 9 else if q = 2 then v / 16 % 3 else v % 16
/-- the book's lines are not below 0 -/
def ML (a : Int → Int) : Prop := ∀ q, 0 ≤ q ∧ q < 25 → 0 ≤ a (1638 + q)
set_option maxRecDepth 100000 in
theorem qX11_lineOf {S T : Nat → Int → Int} {D : List mx_C} (hv : MV (T 37)) (hl : ML (T 37)) {i q : Int} (h_i : 0 ≤ i ∧ i < 25) (h_q : 0 ≤ q ∧ q ≤ 3) : SpF yX11_lineOf cX11_lineOf 4 (some .int) 0 [.ref 36, .int (jI i), .int (jI q)] (W5 S T D) (.int (jI (md_ln (T 37 (1638 + i)) q))) (W5 S T D) := by
  have hl2 := hl i h_i
  refine Sp.of [.ref 36, .int (jI i), .int (jI q), .retAddr 0] (by decide) (by simp) (Nat.le_of_ble_eq_true rfl) rfl (fun E => ?_)
  refine L_a0 dX11_lineOf_0 ?_
  refine GW_36_0 fX11_7 dX11_lineOf_1 ?_
  refine J_sipush dX11_lineOf_4 (by decide) ?_
  refine L_i1 dX11_lineOf_7 ?_
  refine J_iadd dX11_lineOf_8 ?_
  refine AB_37 dX11_lineOf_9 (by omega) hv.1 (fun b9 => ?_)
  refine S_i3 dX11_lineOf_10 (by decide) rfl ?_
  refine L_i2 dX11_lineOf_11 ?_
  refine J_if_ne 23 dX11_lineOf_12 rfl (by omega) (fun c12 => ?_) (fun c12 => ?_)
  · refine L_i2 dX11_lineOf_23 ?_
    refine J_iconst dX11_lineOf_24 ?_
    refine J_icmp_ne 38 dX11_lineOf_25 rfl (by omega) (by omega) (fun c25 => ?_) (fun c25 => ?_)
    · refine L_i2 dX11_lineOf_38 ?_
      refine J_iconst dX11_lineOf_39 ?_
      refine J_icmp_ne 52 dX11_lineOf_40 rfl (by omega) (by omega) (fun c40 => ?_) (fun c40 => ?_)
      · refine L_i3 dX11_lineOf_52 ?_
        refine J_bipush dX11_lineOf_53 (by decide) ?_
        refine J_iremN dX11_lineOf_55 (by omega) (by omega) ?_
        exact R_i rfl dX11_lineOf_56 rfl (by unfold md_ln; split <;> first | rfl | omega | (split <;> first | rfl | omega | (split <;> first | rfl | omega)))
      · refine L_i3 dX11_lineOf_43 ?_
        refine J_bipush dX11_lineOf_44 (by decide) ?_
        refine J_idivN dX11_lineOf_46 (by omega) (by omega) ?_
        refine J_iconst dX11_lineOf_47 ?_
        refine J_iremN dX11_lineOf_48 (by omega) (by omega) ?_
        refine E_goto 56 dX11_lineOf_49 rfl ?_
        exact R_i rfl dX11_lineOf_56 rfl (by unfold md_ln; split <;> first | rfl | omega | (split <;> first | rfl | omega | (split <;> first | rfl | omega)))
    · refine L_i3 dX11_lineOf_28 ?_
      refine J_bipush dX11_lineOf_29 (by decide) ?_
      refine J_idivN dX11_lineOf_31 (by omega) (by omega) ?_
      refine J_bipush dX11_lineOf_32 (by decide) ?_
      refine J_iremN dX11_lineOf_34 (by omega) (by omega) ?_
      refine E_goto 56 dX11_lineOf_35 rfl ?_
      exact R_i rfl dX11_lineOf_56 rfl (by unfold md_ln; split <;> first | rfl | omega | (split <;> first | rfl | omega | (split <;> first | rfl | omega)))
  · refine L_i3 dX11_lineOf_15 ?_
    refine J_sipush dX11_lineOf_16 (by decide) ?_
    refine J_idivN dX11_lineOf_19 (by omega) (by omega) ?_
    refine E_goto 56 dX11_lineOf_20 rfl ?_
    exact R_i rfl dX11_lineOf_56 rfl (by unfold md_ln; split <;> first | rfl | omega | (split <;> first | rfl | omega | (split <;> first | rfl | omega)))

def md_wl (a : Int → Int) (k q : Int) : Int := ((a 4 * 9 + k + 1) * 3 + q) * 16 + a (8 + k)
/-- the lines move one ahead: k done so far -/
def md_sh (a : Int → Int) (k : Int) : Int → Int := fun j => if 1638 ≤ j ∧ j < 1638 + (k - 1) then a (j + 1) else a j
theorem md_sh_1 (a : Int → Int) : md_sh a 1 = a := by
  funext j
  unfold md_sh
  rw [if_neg (by omega)]
theorem md_sh_s (a : Int → Int) {k : Int} (hk : 1 ≤ k) : up (md_sh a k) (1638 + k - 1) (md_sh a k (1638 + k)) = md_sh a (k + 1) := by
  funext j
  unfold up md_sh
  by_cases h : j = 1638 + k - 1
  · rw [if_pos h, if_neg (by omega), if_pos (by omega)]
    congr 1
    omega
  · rw [if_neg h]
    by_cases h2 : 1638 ≤ j ∧ j < 1638 + (k - 1)
    · rw [if_pos h2, if_pos (by omega)]
    · rw [if_neg h2, if_neg (by omega)]
def md_write (a : Int → Int) (k q : Int) : Int → Int := if a 6 = 25 then up (up (up (md_sh a 25) 6 24) 1662 (md_wl a k q)) 6 25 else up (up a (1638 + a 6) (md_wl a k q)) 6 (a 6 + 1)
set_option maxRecDepth 100000 in
theorem tX11_write1 {S T : Nat → Int → Int} {D : List mx_C} (hv : MV (T 37)) {k q : Int} (hk : 0 ≤ k ∧ k ≤ 7) (hq : 0 ≤ q ∧ q ≤ 2) {u3 : Value} (h25 : T 37 6 = 25) {E : mx_E} : Ev E yX11_write cX11_write 4 none (kv E 1 (W5 S (upS T 37 (md_write (T 37) k q)) D)) 0 0 56 [.ref 36, .int (jI k), .int (jI q), u3] [] (W5 S (upS T 37 (md_sh (T 37) 25)) D) := by
  have ha := hv.2
  have hak := hv.at hk
  refine L_a0 dX11_write_56 ?_
  refine GW_36_0 fX11_7 dX11_write_57 ?_
  refine J_bipush dX11_write_60 (by decide) ?_
  refine E_dup2 dX11_write_62 rfl rfl ?_
  refine AR_37 dX11_write_63 (by omega) ?_
  refine J_eqi (b := 25) (by show md_sh (T 37) 25 6 = 25; unfold md_sh; rw [if_neg (by omega)]; exact h25) ?_
  refine J_iconst dX11_write_64 ?_
  refine J_isub dX11_write_65 ?_
  refine AS_37 dX11_write_66 (by omega) ?_
  refine L_a0 dX11_write_67 ?_
  refine GW_36_0 fX11_7 dX11_write_68 ?_
  refine J_sipush dX11_write_71 (by decide) ?_
  refine L_a0 dX11_write_74 ?_
  refine GW_36_0 fX11_7 dX11_write_75 ?_
  refine J_bipush dX11_write_78 (by decide) ?_
  refine AR_37 dX11_write_80 (by omega) ?_
  refine J_eqi (b := 24) rfl ?_
  refine J_iadd dX11_write_81 ?_
  refine L_a0 dX11_write_82 ?_
  refine GW_36_0 fX11_7 dX11_write_83 ?_
  refine J_iconst dX11_write_86 ?_
  refine AR_37 dX11_write_87 (by omega) ?_
  refine J_eqi (b := T 37 4) (by show md_sh (T 37) 25 4 = T 37 4; unfold md_sh; rw [if_neg (by omega)]) ?_
  refine J_bipush dX11_write_88 (by decide) ?_
  refine J_imul dX11_write_90 ?_
  refine L_i1 dX11_write_91 ?_
  refine J_iadd dX11_write_92 ?_
  refine J_iconst dX11_write_93 ?_
  refine J_iadd dX11_write_94 ?_
  refine J_iconst dX11_write_95 ?_
  refine J_imul dX11_write_96 ?_
  refine L_i2 dX11_write_97 ?_
  refine J_iadd dX11_write_98 ?_
  refine J_bipush dX11_write_99 (by decide) ?_
  refine J_imul dX11_write_101 ?_
  refine L_a0 dX11_write_102 ?_
  refine GW_36_0 fX11_7 dX11_write_103 ?_
  refine J_bipush dX11_write_106 (by decide) ?_
  refine L_i1 dX11_write_108 ?_
  refine J_iadd dX11_write_109 ?_
  refine AR_37 dX11_write_110 (by omega) ?_
  refine J_eqi (b := T 37 (8 + k)) (by show up (md_sh (T 37) 25) 6 24 (8 + k) = _; rw [up_n (by omega)]; unfold md_sh; rw [if_neg (by omega)]) ?_
  refine J_iadd dX11_write_111 ?_
  refine AS_37 dX11_write_112 (by omega) ?_
  refine L_a0 dX11_write_113 ?_
  refine GW_36_0 fX11_7 dX11_write_114 ?_
  refine J_bipush dX11_write_117 (by decide) ?_
  refine E_dup2 dX11_write_119 rfl rfl ?_
  refine AR_37 dX11_write_120 (by omega) ?_
  refine J_eqi (b := 24) rfl ?_
  refine J_iconst dX11_write_121 ?_
  refine J_iadd dX11_write_122 ?_
  refine AS_37 dX11_write_123 (by omega) ?_
  exact R_v rfl dX11_write_124 (by unfold md_write; rw [if_pos h25]; rfl)

set_option maxRecDepth 100000 in
theorem tX11_write2 {S T : Nat → Int → Int} {D : List mx_C} (hv : MV (T 37)) {k q : Int} (hk : 0 ≤ k ∧ k ≤ 7) (hq : 0 ≤ q ∧ q ≤ 2) {u3 : Value} (h25 : ¬ T 37 6 = 25) {E : mx_E} : Ev E yX11_write cX11_write 4 none (kv E 1 (W5 S (upS T 37 (md_write (T 37) k q)) D)) 0 0 67 [.ref 36, .int (jI k), .int (jI q), u3] [] (W5 S T D) := by
  have ha := hv.2
  have hak := hv.at hk
  refine L_a0 dX11_write_67 ?_
  refine GW_36_0 fX11_7 dX11_write_68 ?_
  refine J_sipush dX11_write_71 (by decide) ?_
  refine L_a0 dX11_write_74 ?_
  refine GW_36_0 fX11_7 dX11_write_75 ?_
  refine J_bipush dX11_write_78 (by decide) ?_
  refine AB_37 dX11_write_80 (by omega) hv.1 (fun b80 => ?_)
  refine J_iadd dX11_write_81 ?_
  refine L_a0 dX11_write_82 ?_
  refine GW_36_0 fX11_7 dX11_write_83 ?_
  refine J_iconst dX11_write_86 ?_
  refine AB_37 dX11_write_87 (by omega) hv.1 (fun b87 => ?_)
  refine J_bipush dX11_write_88 (by decide) ?_
  refine J_imul dX11_write_90 ?_
  refine L_i1 dX11_write_91 ?_
  refine J_iadd dX11_write_92 ?_
  refine J_iconst dX11_write_93 ?_
  refine J_iadd dX11_write_94 ?_
  refine J_iconst dX11_write_95 ?_
  refine J_imul dX11_write_96 ?_
  refine L_i2 dX11_write_97 ?_
  refine J_iadd dX11_write_98 ?_
  refine J_bipush dX11_write_99 (by decide) ?_
  refine J_imul dX11_write_101 ?_
  refine L_a0 dX11_write_102 ?_
  refine GW_36_0 fX11_7 dX11_write_103 ?_
  refine J_bipush dX11_write_106 (by decide) ?_
  refine L_i1 dX11_write_108 ?_
  refine J_iadd dX11_write_109 ?_
  refine AB_37 dX11_write_110 (by omega) hv.1 (fun b110 => ?_)
  refine J_iadd dX11_write_111 ?_
  refine AS_37 dX11_write_112 (by omega) ?_
  refine L_a0 dX11_write_113 ?_
  refine GW_36_0 fX11_7 dX11_write_114 ?_
  refine J_bipush dX11_write_117 (by decide) ?_
  refine E_dup2 dX11_write_119 rfl rfl ?_
  refine AR_37 dX11_write_120 (by omega) ?_
  refine J_eqi (b := T 37 6) (up_n (by omega)) ?_
  refine J_iconst dX11_write_121 ?_
  refine J_iadd dX11_write_122 ?_
  refine AS_37 dX11_write_123 (by omega) ?_
  exact R_v rfl dX11_write_124 (by unfold md_write; rw [if_neg h25]; rfl)

set_option maxRecDepth 100000 in
theorem lX11_write {S T : Nat → Int → Int} {D : List mx_C} (hv : MV (T 37)) {k q : Int} (hk : 0 ≤ k ∧ k ≤ 7) (hq : 0 ≤ q ∧ q ≤ 2) (h25 : T 37 6 = 25) {E : mx_E} : ∀ (m : Nat) (r : Int), r + m = 25 → 1 ≤ r → Ev E yX11_write cX11_write 4 none (kv E 1 (W5 S (upS T 37 (md_write (T 37) k q)) D)) 0 0 22 [.ref 36, .int (jI k), .int (jI q), .int (jI r)] [] (W5 S (upS T 37 (md_sh (T 37) r)) D) := by
  intro m
  induction m with
  | zero =>
    intro r hr hr1
    refine L_i3 dX11_write_22 ?_
    refine J_bipush dX11_write_23 (by decide) ?_
    refine J_icmp_ge 56 dX11_write_25 rfl (by omega) (by omega) (fun c25 => ?_) (fun c25 => ?_)
    · have e : r = 25 := by omega
      subst e
      exact tX11_write1 hv hk hq h25
    · exfalso; omega
  | succ m ih =>
    intro r hr hr1
    refine L_i3 dX11_write_22 ?_
    refine J_bipush dX11_write_23 (by decide) ?_
    refine J_icmp_ge 56 dX11_write_25 rfl (by omega) (by omega) (fun c25 => ?_) (fun c25 => ?_)
    · exfalso; omega
    · refine L_a0 dX11_write_28 ?_
      refine GW_36_0 fX11_7 dX11_write_29 ?_
      refine J_sipush dX11_write_32 (by decide) ?_
      refine L_i3 dX11_write_35 ?_
      refine J_iadd dX11_write_36 ?_
      refine J_iconst dX11_write_37 ?_
      refine J_isub dX11_write_38 ?_
      refine L_a0 dX11_write_39 ?_
      refine GW_36_0 fX11_7 dX11_write_40 ?_
      refine J_sipush dX11_write_43 (by decide) ?_
      refine L_i3 dX11_write_46 ?_
      refine J_iadd dX11_write_47 ?_
      refine AR_37 dX11_write_48 (by omega) ?_
      refine AS_37 dX11_write_49 (by omega) ?_
      refine JI_3 dX11_write_50 (by decide) rfl ?_
      refine E_goto 22 dX11_write_53 rfl ?_
      have e := md_sh_s (T 37) (k := r) (by omega)
      refine E_eq rfl rfl rfl (show _ = W5 S (upS T 37 (md_sh (T 37) (r + 1))) D from by rw [← e]; rfl) (ih (r + 1) (by omega) (by omega))

set_option maxRecDepth 100000 in
theorem qX11_write {S T : Nat → Int → Int} {D : List mx_C} (hv : MV (T 37)) (hw : T 36 23 = 1) {k q : Int} (hk : 0 ≤ k ∧ k ≤ 7) (hq : 0 ≤ q ∧ q ≤ 2) : SpV yX11_write cX11_write 4 none 1 [.ref 36, .int (jI k), .int (jI q)] (W5 S T D) (W5 S (upS T 37 (md_write (T 37) k q)) D) := by
  have ha := hv.2
  refine Sp.of [.ref 36, .int (jI k), .int (jI q), .retAddr 0] (by decide) (by simp) (Nat.le_of_ble_eq_true rfl) rfl (fun E => ?_)
  refine L_a0 dX11_write_0 ?_
  refine GW_36_23 fX11_43 dX11_write_1 ?_
  refine J_if_ne 8 dX11_write_4 rfl (by omega) (fun c4 => ?_) (fun c4 => ?_)
  · refine L_a0 dX11_write_8 ?_
    refine GW_36_0 fX11_7 dX11_write_9 ?_
    refine J_bipush dX11_write_12 (by decide) ?_
    refine AB_37 dX11_write_14 (by omega) hv.1 (fun b14 => ?_)
    refine J_bipush dX11_write_15 (by decide) ?_
    refine J_icmp_ne 67 dX11_write_17 rfl (by omega) (by omega) (fun c17 => ?_) (fun c17 => ?_)
    · exact tX11_write2 hv hk hq c17
    · refine J_iconst dX11_write_20 ?_
      refine S_i3 dX11_write_21 (by decide) rfl ?_
      have e : W5 S T D = W5 S (upS T 37 (md_sh (T 37) 1)) D := by rw [md_sh_1]; rfl
      rw [e]
      exact lX11_write hv hk hq c17 24 1 (by omega) (by omega)
  · exfalso; omega

set_option maxRecDepth 100000 in
theorem qX11_anew {S T : Nat → Int → Int} {D : List mx_C} (hv : MV (T 37)) : SpV yX11_anew cX11_anew 1 none 0 [.ref 36] (W5 S T D) (W5 S (upF T 37 5 ((T 37 5 * 701 + 571) % 31019)) D) := by
  have ha := hv.2
  refine Sp.of [.ref 36] (by decide) (by simp) (Nat.le_of_ble_eq_true rfl) rfl (fun E => ?_)
  refine L_a0 dX11_anew_0 ?_
  refine GW_36_0 fX11_7 dX11_anew_1 ?_
  refine J_iconst dX11_anew_4 ?_
  refine L_a0 dX11_anew_5 ?_
  refine GW_36_0 fX11_7 dX11_anew_6 ?_
  refine J_iconst dX11_anew_9 ?_
  refine AB_37 dX11_anew_10 (by omega) hv.1 (fun b10 => ?_)
  refine J_i2l dX11_anew_11 (by omega) ?_
  refine J_ldc2 (701) dX11_anew_12 kX11_323 (by decide) ?_
  refine J_lmul dX11_anew_15 ?_
  refine J_ldc2 (571) dX11_anew_16 kX11_325 (by decide) ?_
  refine J_ladd dX11_anew_19 ?_
  refine J_ldc2 (31019) dX11_anew_20 kX11_327 (by decide) ?_
  refine J_lremN dX11_anew_23 (by omega) (by omega) ?_
  refine J_l2i dX11_anew_24 (by omega) ?_
  refine AS_37 dX11_anew_25 (by omega) ?_
  exact R_v rfl dX11_anew_26 rfl

set_option maxRecDepth 100000 in
theorem qX11_drawnBy {S T : Nat → Int → Int} {D : List mx_C} (hv : MV (T 37)) {n : Int} (h_n : 1 ≤ n ∧ n ≤ 100) : SpF yX11_drawnBy cX11_drawnBy 3 (some .int) 1 [.ref 36, .int (jI n)] (W5 S T D) (.int (jI (T 37 5 % n))) (W5 S (upF T 37 5 ((T 37 5 * 701 + 571) % 31019)) D) := by
  have ha := hv.2
  refine Sp.of [.ref 36, .int (jI n), .retAddr 0] (by decide) (by simp) (Nat.le_of_ble_eq_true rfl) rfl (fun E => ?_)
  refine L_a0 dX11_drawnBy_0 ?_
  refine GW_36_0 fX11_7 dX11_drawnBy_1 ?_
  refine J_iconst dX11_drawnBy_4 ?_
  refine AB_37 dX11_drawnBy_5 (by omega) hv.1 (fun b5 => ?_)
  refine L_i1 dX11_drawnBy_6 ?_
  refine J_iremN dX11_drawnBy_7 (by omega) (by omega) ?_
  refine S_i2 dX11_drawnBy_8 (by decide) rfl ?_
  refine L_a0 dX11_drawnBy_9 ?_
  refine C_v0V vX11_320 dX11_drawnBy_10 (qX11_anew hv) rfl rfl (Nat.le_of_ble_eq_true rfl) (by decide) ?_
  refine L_i2 dX11_drawnBy_13 ?_
  exact R_i rfl dX11_drawnBy_14 rfl rfl

def md_leave (a : Int → Int) (k q : Int) : Int → Int := up (up (up (md_write a k q) (8 + k) (-1)) (16 + k) (-1)) (24 + k) 0
set_option maxRecDepth 100000 in
theorem qX11_leaveNow {S T : Nat → Int → Int} {D : List mx_C} (hv : MV (T 37)) (hw : T 36 23 = 1) {k q : Int} (hk : 0 ≤ k ∧ k ≤ 7) (hq : 0 ≤ q ∧ q ≤ 2) : SpV yX11_leaveNow cX11_leaveNow 3 none 2 [.ref 36, .int (jI k), .int (jI q)] (W5 S T D) (W5 S (upS T 37 (md_leave (T 37) k q)) D) := by
  refine Sp.of [.ref 36, .int (jI k), .int (jI q)] (by decide) (by simp) (Nat.le_of_ble_eq_true rfl) rfl (fun E => ?_)
  refine L_a0 dX11_leaveNow_0 ?_
  refine L_i1 dX11_leaveNow_1 ?_
  refine L_i2 dX11_leaveNow_2 ?_
  refine C_v2V vX11_335 dX11_leaveNow_3 (qX11_write hv hw hk hq) rfl rfl (Nat.le_of_ble_eq_true rfl) (by decide) ?_
  refine L_a0 dX11_leaveNow_6 ?_
  refine L_i1 dX11_leaveNow_7 ?_
  refine J_iconst dX11_leaveNow_8 ?_
  refine J_iconst dX11_leaveNow_9 ?_
  refine C_v3V vX11_75 dX11_leaveNow_10 (qX11_layPlaces (by omega)) rfl rfl (Nat.le_of_ble_eq_true rfl) (by decide) ?_
  refine L_a0 dX11_leaveNow_13 ?_
  refine GW_36_0 fX11_7 dX11_leaveNow_14 ?_
  refine J_bipush dX11_leaveNow_17 (by decide) ?_
  refine L_i1 dX11_leaveNow_19 ?_
  refine J_iadd dX11_leaveNow_20 ?_
  refine J_iconst dX11_leaveNow_21 ?_
  refine AS_37 dX11_leaveNow_22 (by omega) ?_
  exact R_v rfl dX11_leaveNow_23 rfl

