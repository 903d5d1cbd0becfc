/-! ===== the reference: turning, steps kept and taken back, copies ===== -/
/-- k cells from s on, copied to d on -/
def blit (a : Int → Int) (s d k : Int) : Int → Int := fun j => if d ≤ j ∧ j < d + k then a (s + (j - d)) else a j
theorem blit_0 (a : Int → Int) (s d : Int) : blit a s d 0 = a := by
  funext j
  unfold blit
  rw [if_neg (by omega)]
theorem blit_s (a : Int → Int) {s d k : Int} (hk : 0 ≤ k) (h : ¬ (d ≤ s + k ∧ s + k < d + k)) : up (blit a s d k) (d + k) (blit a s d k (s + k)) = blit a s d (k + 1) := by
  funext j
  unfold up blit
  by_cases hj : j = d + k
  · rw [if_pos hj, if_neg h, if_pos (by omega)]
    congr 1
    omega
  · rw [if_neg hj]
    by_cases h2 : d ≤ j ∧ j < d + k
    · rw [if_pos h2, if_pos (by omega)]
    · rw [if_neg h2, if_neg (by omega)]
theorem blit_n (a : Int → Int) {s d k j : Int} (h : ¬ (d ≤ j ∧ j < d + k)) : blit a s d k j = a j := if_neg h
def cpk (f g : Int → Int) (k : Int) : Int → Int := fun j => if 0 ≤ j ∧ j < k then f j else g j
theorem cpk_0 (f g : Int → Int) : cpk f g 0 = g := by
  funext j
  unfold cpk
  rw [if_neg (by omega)]
theorem cpk_s (f g : Int → Int) {k : Int} (hk : 0 ≤ k) : up (cpk f g k) k (f k) = cpk f g (k + 1) := by
  funext j
  unfold up cpk
  by_cases hj : j = k
  · rw [if_pos hj, if_pos (by omega), hj]
  · rw [if_neg hj]
    by_cases h2 : 0 ≤ j ∧ j < k
    · rw [if_pos h2, if_pos (by omega)]
    · rw [if_neg h2, if_neg (by omega)]
def kp_x (b : Int → Int) : Int := 48 + 53 * b 2
def kp_fin (b : Int → Int) : Int → Int := up (blit (blit b 4 (kp_x b) 28) 1638 (kp_x b + 28) 25) 2 (b 2 + 1)
def md_keep (a : Int → Int) : Int → Int := if a 2 = 30 then kp_fin (up (blit a 101 48 1537) 2 29) else kp_fin a
set_option maxRecDepth 100000 in
theorem lX11_keep3 {S T : Nat → Int → Int} {D : List mx_C} {b : Int → Int} (hb : 0 ≤ b 2 ∧ b 2 ≤ 29) {E : mx_E} : ∀ (m : Nat) (k : Int), k + m = 25 → 0 ≤ k → Ev E yX11_keep cX11_keep 3 none (kv E 0 (W5 S (upS T 37 (kp_fin b)) D)) 0 0 99 [.ref 36, .int (jI (kp_x b)), .int (jI k)] [] (W5 S (upS T 37 (blit (blit b 4 (kp_x b) 28) 1638 (kp_x b + 28) k)) D) := by
  intro m
  induction m with
  | zero =>
    intro k hk hk0
    have hx : kp_x b = 48 + 53 * b 2 := rfl
    refine L_i2 dX11_keep_99 ?_
    refine J_bipush dX11_keep_100 (by decide) ?_
    refine J_icmp_ge 132 dX11_keep_102 rfl (by omega) (by omega) (fun c102 => ?_) (fun c102 => ?_)
    · refine L_a0 dX11_keep_132 ?_
      refine GW_36_0 fX11_7 dX11_keep_133 ?_
      refine J_iconst dX11_keep_136 ?_
      refine E_dup2 dX11_keep_137 rfl rfl ?_
      refine AR_37 dX11_keep_138 (by omega) ?_
      refine J_eqi (b := b 2) (by show blit (blit b 4 (kp_x b) 28) 1638 (kp_x b + 28) k 2 = b 2; rw [blit_n _ (by omega), blit_n _ (by omega)]) ?_
      refine J_iconst dX11_keep_139 ?_
      refine J_iadd dX11_keep_140 ?_
      refine AS_37 dX11_keep_141 (by omega) ?_
      exact R_v rfl dX11_keep_142 (by have e : k = 25 := (by omega); subst e; rfl)
    · exfalso; omega
  | succ m ih =>
    intro k hk hk0
    have hx : kp_x b = 48 + 53 * b 2 := rfl
    refine L_i2 dX11_keep_99 ?_
    refine J_bipush dX11_keep_100 (by decide) ?_
    refine J_icmp_ge 132 dX11_keep_102 rfl (by omega) (by omega) (fun c102 => ?_) (fun c102 => ?_)
    · exfalso; omega
    · refine L_a0 dX11_keep_105 ?_
      refine GW_36_0 fX11_7 dX11_keep_106 ?_
      refine L_i1 dX11_keep_109 ?_
      refine J_bipush dX11_keep_110 (by decide) ?_
      refine J_iadd dX11_keep_112 ?_
      refine L_i2 dX11_keep_113 ?_
      refine J_iadd dX11_keep_114 ?_
      refine L_a0 dX11_keep_115 ?_
      refine GW_36_0 fX11_7 dX11_keep_116 ?_
      refine J_sipush dX11_keep_119 (by decide) ?_
      refine L_i2 dX11_keep_122 ?_
      refine J_iadd dX11_keep_123 ?_
      refine AR_37 dX11_keep_124 (by omega) ?_
      refine AS_37 dX11_keep_125 (by omega) ?_
      refine JI_2 dX11_keep_126 (by decide) rfl ?_
      refine E_goto 99 dX11_keep_129 rfl ?_
      have e := blit_s (blit b 4 (kp_x b) 28) (s := 1638) (d := kp_x b + 28) (k := k) (by omega) (by omega)
      refine E_eq rfl rfl rfl (show _ = (W5 S (upS T 37 (blit (blit b 4 (kp_x b) 28) (1638) (kp_x b + 28) (k + 1))) D) from by rw [← e]; rfl) (ih (k + 1) (by omega) (by omega))

set_option maxRecDepth 100000 in
theorem lX11_keep2 {S T : Nat → Int → Int} {D : List mx_C} {b : Int → Int} (hb : 0 ≤ b 2 ∧ b 2 ≤ 29) {E : mx_E} : ∀ (m : Nat) (k : Int), k + m = 28 → 0 ≤ k → Ev E yX11_keep cX11_keep 3 none (kv E 0 (W5 S (upS T 37 (kp_fin b)) D)) 0 0 69 [.ref 36, .int (jI (kp_x b)), .int (jI k)] [] (W5 S (upS T 37 (blit b 4 (kp_x b) k)) D) := by
  intro m
  induction m with
  | zero =>
    intro k hk hk0
    have hx : kp_x b = 48 + 53 * b 2 := rfl
    refine L_i2 dX11_keep_69 ?_
    refine J_bipush dX11_keep_70 (by decide) ?_
    refine J_icmp_ge 97 dX11_keep_72 rfl (by omega) (by omega) (fun c72 => ?_) (fun c72 => ?_)
    · refine J_iconst dX11_keep_97 ?_
      refine S_i2 dX11_keep_98 (by decide) rfl ?_
      have e : k = 28 := by omega
      subst e
      have e2 : W5 S (upS T 37 (blit b 4 (kp_x b) 28)) D = W5 S (upS T 37 (blit (blit b 4 (kp_x b) 28) 1638 (kp_x b + 28) 0)) D := by rw [blit_0]
      rw [e2]
      exact lX11_keep3 hb 25 0 (by omega) (by omega)
    · exfalso; omega
  | succ m ih =>
    intro k hk hk0
    have hx : kp_x b = 48 + 53 * b 2 := rfl
    refine L_i2 dX11_keep_69 ?_
    refine J_bipush dX11_keep_70 (by decide) ?_
    refine J_icmp_ge 97 dX11_keep_72 rfl (by omega) (by omega) (fun c72 => ?_) (fun c72 => ?_)
    · exfalso; omega
    · refine L_a0 dX11_keep_75 ?_
      refine GW_36_0 fX11_7 dX11_keep_76 ?_
      refine L_i1 dX11_keep_79 ?_
      refine L_i2 dX11_keep_80 ?_
      refine J_iadd dX11_keep_81 ?_
      refine L_a0 dX11_keep_82 ?_
      refine GW_36_0 fX11_7 dX11_keep_83 ?_
      refine J_iconst dX11_keep_86 ?_
      refine L_i2 dX11_keep_87 ?_
      refine J_iadd dX11_keep_88 ?_
      refine AR_37 dX11_keep_89 (by omega) ?_
      refine AS_37 dX11_keep_90 (by omega) ?_
      refine JI_2 dX11_keep_91 (by decide) rfl ?_
      refine E_goto 69 dX11_keep_94 rfl ?_
      have e := blit_s (b) (s := 4) (d := kp_x b) (k := k) (by omega) (by omega)
      refine E_eq rfl rfl rfl (show _ = (W5 S (upS T 37 (blit (b) (4) (kp_x b) (k + 1))) D) from by rw [← e]; rfl) (ih (k + 1) (by omega) (by omega))

set_option maxRecDepth 100000 in
theorem tX11_keep {S T : Nat → Int → Int} {D : List mx_C} {b : Int → Int} (hb : 0 ≤ b 2 ∧ b 2 ≤ 29) {u1 u2 : Value} {E : mx_E} : Ev E yX11_keep cX11_keep 3 none (kv E 0 (W5 S (upS T 37 (kp_fin b)) D)) 0 0 54 [.ref 36, u1, u2] [] (W5 S (upS T 37 (b)) D) := by
  refine J_bipush dX11_keep_54 (by decide) ?_
  refine J_bipush dX11_keep_56 (by decide) ?_
  refine L_a0 dX11_keep_58 ?_
  refine GW_36_0 fX11_7 dX11_keep_59 ?_
  refine J_iconst dX11_keep_62 ?_
  refine AR_37 dX11_keep_63 (by omega) ?_
  refine J_imul dX11_keep_64 ?_
  refine J_iadd dX11_keep_65 ?_
  refine J_eqi (b := kp_x b) rfl ?_
  refine S_i1 dX11_keep_66 (by decide) rfl ?_
  refine J_iconst dX11_keep_67 ?_
  refine S_i2 dX11_keep_68 (by decide) rfl ?_
  have e2 : W5 S (upS T 37 b) D = W5 S (upS T 37 (blit b 4 (kp_x b) 0)) D := by rw [blit_0]
  rw [e2]
  exact lX11_keep2 hb 28 0 (by omega) (by omega)

set_option maxRecDepth 100000 in
theorem lX11_keep1 {S T : Nat → Int → Int} {D : List mx_C} {a : Int → Int} (h30 : a 2 = 30) {E : mx_E} : ∀ (m : Nat) (k : Int) (u2 : Value), k + m = 1537 → 0 ≤ k → Ev E yX11_keep cX11_keep 3 none (kv E 0 (W5 S (upS T 37 (md_keep a)) D)) 0 0 13 [.ref 36, .int (jI k), u2] [] (W5 S (upS T 37 (blit a 101 48 k)) D) := by
  intro m
  induction m with
  | zero =>
    intro k u2 hk hk0
    refine L_i1 dX11_keep_13 ?_
    refine J_sipush dX11_keep_14 (by decide) ?_
    refine J_icmp_ge 44 dX11_keep_17 rfl (by omega) (by omega) (fun c17 => ?_) (fun c17 => ?_)
    · refine L_a0 dX11_keep_44 ?_
      refine GW_36_0 fX11_7 dX11_keep_45 ?_
      refine J_iconst dX11_keep_48 ?_
      refine E_dup2 dX11_keep_49 rfl rfl ?_
      refine AR_37 dX11_keep_50 (by omega) ?_
      refine J_eqi (b := 30) (by show blit a 101 48 k 2 = 30; rw [blit_n _ (by omega)]; exact h30) ?_
      refine J_iconst dX11_keep_51 ?_
      refine J_isub dX11_keep_52 ?_
      refine AS_37 dX11_keep_53 (by omega) ?_
      have e : k = 1537 := by omega
      subst e
      unfold md_keep
      rw [if_pos h30]
      exact tX11_keep (b := up (blit a 101 48 1537) 2 29) (by rw [up_s]; omega)
    · exfalso; omega
  | succ m ih =>
    intro k u2 hk hk0
    refine L_i1 dX11_keep_13 ?_
    refine J_sipush dX11_keep_14 (by decide) ?_
    refine J_icmp_ge 44 dX11_keep_17 rfl (by omega) (by omega) (fun c17 => ?_) (fun c17 => ?_)
    · exfalso; omega
    · refine L_a0 dX11_keep_20 ?_
      refine GW_36_0 fX11_7 dX11_keep_21 ?_
      refine J_bipush dX11_keep_24 (by decide) ?_
      refine L_i1 dX11_keep_26 ?_
      refine J_iadd dX11_keep_27 ?_
      refine L_a0 dX11_keep_28 ?_
      refine GW_36_0 fX11_7 dX11_keep_29 ?_
      refine J_bipush dX11_keep_32 (by decide) ?_
      refine L_i1 dX11_keep_34 ?_
      refine J_iadd dX11_keep_35 ?_
      refine AR_37 dX11_keep_36 (by omega) ?_
      refine AS_37 dX11_keep_37 (by omega) ?_
      refine JI_1 dX11_keep_38 (by decide) rfl ?_
      refine E_goto 13 dX11_keep_41 rfl ?_
      have e := blit_s (a) (s := 101) (d := 48) (k := k) (by omega) (by omega)
      refine E_eq rfl rfl rfl (show _ = (W5 S (upS T 37 (blit (a) (101) (48) (k + 1))) D) from by rw [← e]; rfl) (ih (k + 1) _ (by omega) (by omega))

set_option maxRecDepth 100000 in
theorem qX11_keep {S T : Nat → Int → Int} {D : List mx_C} (h2 : 0 ≤ T 37 2 ∧ T 37 2 ≤ 30) : SpV yX11_keep cX11_keep 3 none 0 [.ref 36] (W5 S T D) (W5 S (upS T 37 (md_keep (T 37))) D) := by
  refine Sp.of [.ref 36, .retAddr 0, .retAddr 0] (by decide) (by simp) (Nat.le_of_ble_eq_true rfl) rfl (fun E => ?_)
  refine L_a0 dX11_keep_0 ?_
  refine GW_36_0 fX11_7 dX11_keep_1 ?_
  refine J_iconst dX11_keep_4 ?_
  refine AR_37 dX11_keep_5 (by omega) ?_
  refine J_bipush dX11_keep_6 (by decide) ?_
  refine J_icmp_ne 54 dX11_keep_8 rfl (by omega) (by omega) (fun c8 => ?_) (fun c8 => ?_)
  · have e : W5 S T D = W5 S (upS T 37 (T 37)) D := rfl
    rw [e]
    unfold md_keep
    rw [if_neg c8]
    exact tX11_keep (by omega)
  · refine J_iconst dX11_keep_11 ?_
    refine S_i1 dX11_keep_12 (by decide) rfl ?_
    have e : W5 S T D = W5 S (upS T 37 (blit (T 37) 101 48 0)) D := by rw [blit_0]; rfl
    rw [e]
    exact lX11_keep1 c8 1537 0 _ (by omega) (by omega)

def ud_x (b : Int → Int) : Int := 48 + 53 * (b 2 - 1)
def md_undo (b : Int → Int) : Int → Int := blit (blit (up b 2 (b 2 - 1)) (ud_x b) 4 28) (ud_x b + 28) 1638 25
set_option maxRecDepth 100000 in
theorem lX11_undo2 {S T : Nat → Int → Int} {D : List mx_C} {b : Int → Int} (hb : 1 ≤ b 2 ∧ b 2 ≤ 30) {E : mx_E} : ∀ (m : Nat) (k : Int), k + m = 25 → 0 ≤ k → Ev E yX11_undo cX11_undo 3 (some .int) (kf E 0 (.int (jI (b 2 - 1))) (W5 S (upS T 37 (md_undo b)) D)) 0 0 66 [.ref 36, .int (jI (ud_x b)), .int (jI k)] [] (W5 S (upS T 37 (blit (blit (up b 2 (b 2 - 1)) (ud_x b) 4 28) (ud_x b + 28) 1638 k)) D) := by
  intro m
  induction m with
  | zero =>
    intro k hk hk0
    have hx : ud_x b = 48 + 53 * (b 2 - 1) := rfl
    refine L_i2 dX11_undo_66 ?_
    refine J_bipush dX11_undo_67 (by decide) ?_
    refine J_icmp_ge 99 dX11_undo_69 rfl (by omega) (by omega) (fun c69 => ?_) (fun c69 => ?_)
    · refine L_a0 dX11_undo_99 ?_
      refine GW_36_0 fX11_7 dX11_undo_100 ?_
      refine J_iconst dX11_undo_103 ?_
      refine AR_37 dX11_undo_104 (by omega) ?_
      exact R_i rfl dX11_undo_105 (by have e : k = 25 := (by omega); subst e; rfl) (by show blit (blit (up b 2 (b 2 - 1)) (ud_x b) 4 28) (ud_x b + 28) 1638 k 2 = b 2 - 1; rw [blit_n _ (by omega), blit_n _ (by omega), up_s])
    · exfalso; omega
  | succ m ih =>
    intro k hk hk0
    have hx : ud_x b = 48 + 53 * (b 2 - 1) := rfl
    refine L_i2 dX11_undo_66 ?_
    refine J_bipush dX11_undo_67 (by decide) ?_
    refine J_icmp_ge 99 dX11_undo_69 rfl (by omega) (by omega) (fun c69 => ?_) (fun c69 => ?_)
    · exfalso; omega
    · refine L_a0 dX11_undo_72 ?_
      refine GW_36_0 fX11_7 dX11_undo_73 ?_
      refine J_sipush dX11_undo_76 (by decide) ?_
      refine L_i2 dX11_undo_79 ?_
      refine J_iadd dX11_undo_80 ?_
      refine L_a0 dX11_undo_81 ?_
      refine GW_36_0 fX11_7 dX11_undo_82 ?_
      refine L_i1 dX11_undo_85 ?_
      refine J_bipush dX11_undo_86 (by decide) ?_
      refine J_iadd dX11_undo_88 ?_
      refine L_i2 dX11_undo_89 ?_
      refine J_iadd dX11_undo_90 ?_
      refine AR_37 dX11_undo_91 (by omega) ?_
      refine AS_37 dX11_undo_92 (by omega) ?_
      refine JI_2 dX11_undo_93 (by decide) rfl ?_
      refine E_goto 66 dX11_undo_96 rfl ?_
      have e := blit_s (blit (up b 2 (b 2 - 1)) (ud_x b) 4 28) (s := ud_x b + 28) (d := 1638) (k := k) (by omega) (by omega)
      refine E_eq rfl rfl rfl (show _ = (W5 S (upS T 37 (blit (blit (up b 2 (b 2 - 1)) (ud_x b) 4 28) (ud_x b + 28) (1638) (k + 1))) D) from by rw [← e]; rfl) (ih (k + 1) (by omega) (by omega))

set_option maxRecDepth 100000 in
theorem lX11_undo1 {S T : Nat → Int → Int} {D : List mx_C} {b : Int → Int} (hb : 1 ≤ b 2 ∧ b 2 ≤ 30) {E : mx_E} : ∀ (m : Nat) (k : Int), k + m = 28 → 0 ≤ k → Ev E yX11_undo cX11_undo 3 (some .int) (kf E 0 (.int (jI (b 2 - 1))) (W5 S (upS T 37 (md_undo b)) D)) 0 0 36 [.ref 36, .int (jI (ud_x b)), .int (jI k)] [] (W5 S (upS T 37 (blit (up b 2 (b 2 - 1)) (ud_x b) 4 k)) D) := by
  intro m
  induction m with
  | zero =>
    intro k hk hk0
    have hx : ud_x b = 48 + 53 * (b 2 - 1) := rfl
    refine L_i2 dX11_undo_36 ?_
    refine J_bipush dX11_undo_37 (by decide) ?_
    refine J_icmp_ge 64 dX11_undo_39 rfl (by omega) (by omega) (fun c39 => ?_) (fun c39 => ?_)
    · refine J_iconst dX11_undo_64 ?_
      refine S_i2 dX11_undo_65 (by decide) rfl ?_
      have e : k = 28 := by omega
      subst e
      have e2 : W5 S (upS T 37 (blit (up b 2 (b 2 - 1)) (ud_x b) 4 28)) D = W5 S (upS T 37 (blit (blit (up b 2 (b 2 - 1)) (ud_x b) 4 28) (ud_x b + 28) 1638 0)) D := by rw [blit_0]
      rw [e2]
      exact lX11_undo2 hb 25 0 (by omega) (by omega)
    · exfalso; omega
  | succ m ih =>
    intro k hk hk0
    have hx : ud_x b = 48 + 53 * (b 2 - 1) := rfl
    refine L_i2 dX11_undo_36 ?_
    refine J_bipush dX11_undo_37 (by decide) ?_
    refine J_icmp_ge 64 dX11_undo_39 rfl (by omega) (by omega) (fun c39 => ?_) (fun c39 => ?_)
    · exfalso; omega
    · refine L_a0 dX11_undo_42 ?_
      refine GW_36_0 fX11_7 dX11_undo_43 ?_
      refine J_iconst dX11_undo_46 ?_
      refine L_i2 dX11_undo_47 ?_
      refine J_iadd dX11_undo_48 ?_
      refine L_a0 dX11_undo_49 ?_
      refine GW_36_0 fX11_7 dX11_undo_50 ?_
      refine L_i1 dX11_undo_53 ?_
      refine L_i2 dX11_undo_54 ?_
      refine J_iadd dX11_undo_55 ?_
      refine AR_37 dX11_undo_56 (by omega) ?_
      refine AS_37 dX11_undo_57 (by omega) ?_
      refine JI_2 dX11_undo_58 (by decide) rfl ?_
      refine E_goto 36 dX11_undo_61 rfl ?_
      have e := blit_s (up b 2 (b 2 - 1)) (s := ud_x b) (d := 4) (k := k) (by omega) (by omega)
      refine E_eq rfl rfl rfl (show _ = (W5 S (upS T 37 (blit (up b 2 (b 2 - 1)) (ud_x b) (4) (k + 1))) D) from by rw [← e]; rfl) (ih (k + 1) (by omega) (by omega))

set_option maxRecDepth 100000 in
theorem qX11_undo {S T : Nat → Int → Int} {D : List mx_C} (h2 : 0 ≤ T 37 2 ∧ T 37 2 ≤ 30) : SpF yX11_undo cX11_undo 3 (some .int) 0 [.ref 36] (W5 S T D) (.int (jI (T 37 2 - 1))) (W5 S (if T 37 2 = 0 then T else upS T 37 (md_undo (T 37))) D) := by
  refine Sp.of [.ref 36, .retAddr 0, .retAddr 0] (by decide) (by simp) (Nat.le_of_ble_eq_true rfl) rfl (fun E => ?_)
  refine L_a0 dX11_undo_0 ?_
  refine GW_36_0 fX11_7 dX11_undo_1 ?_
  refine J_iconst dX11_undo_4 ?_
  refine AR_37 dX11_undo_5 (by omega) ?_
  refine J_if_ne 11 dX11_undo_6 rfl (by omega) (fun c6 => ?_) (fun c6 => ?_)
  · refine L_a0 dX11_undo_11 ?_
    refine GW_36_0 fX11_7 dX11_undo_12 ?_
    refine J_iconst dX11_undo_15 ?_
    refine E_dup2 dX11_undo_16 rfl rfl ?_
    refine AR_37 dX11_undo_17 (by omega) ?_
    refine J_iconst dX11_undo_18 ?_
    refine J_isub dX11_undo_19 ?_
    refine AS_37 dX11_undo_20 (by omega) ?_
    refine J_bipush dX11_undo_21 (by decide) ?_
    refine J_bipush dX11_undo_23 (by decide) ?_
    refine L_a0 dX11_undo_25 ?_
    refine GW_36_0 fX11_7 dX11_undo_26 ?_
    refine J_iconst dX11_undo_29 ?_
    refine AR_37 dX11_undo_30 (by omega) ?_
    refine J_eqi (b := T 37 2 - 1) rfl ?_
    refine J_imul dX11_undo_31 ?_
    refine J_iadd dX11_undo_32 ?_
    refine J_eqi (b := ud_x (T 37)) rfl ?_
    refine S_i1 dX11_undo_33 (by decide) rfl ?_
    refine J_iconst dX11_undo_34 ?_
    refine S_i2 dX11_undo_35 (by decide) rfl ?_
    rw [if_neg c6]
    have e : W5 S (upS T 37 (up (T 37) 2 (T 37 2 - 1))) D = W5 S (upS T 37 (blit (up (T 37) 2 (T 37 2 - 1)) (ud_x (T 37)) 4 0)) D := by rw [blit_0]
    rw [e]
    exact lX11_undo1 (by omega) 28 0 (by omega) (by omega)
  · refine J_iconst dX11_undo_9 ?_
    exact R_i rfl dX11_undo_10 (by rw [if_pos c6]) (by omega)

set_option maxRecDepth 100000 in
theorem lX11_copy_image {S T : Nat → Int → Int} {D : List mx_C} {E : mx_E} : ∀ (m : Nat) (k : Int), k + m = 1663 → 0 ≤ k → Ev E yX11_copy cX11_copy 3 none (kv E 0 (W5 S (upS T 38 (cpk (T 37) (T 38) 1663)) D)) 0 0 2 [.ref 37, .ref 38, .int (jI k)] [] (W5 S (upS T 38 (cpk (T 37) (T 38) k)) D) := by
  intro m
  induction m with
  | zero =>
    intro k hk hk0
    refine L_i2 dX11_copy_2 ?_
    refine J_sipush dX11_copy_3 (by decide) ?_
    refine J_icmp_ge 21 dX11_copy_6 rfl (by omega) (by omega) (fun c6 => ?_) (fun c6 => ?_)
    · exact R_v rfl dX11_copy_21 (by have e : k = 1663 := (by omega); subst e; rfl)
    · exfalso; omega
  | succ m ih =>
    intro k hk hk0
    refine L_i2 dX11_copy_2 ?_
    refine J_sipush dX11_copy_3 (by decide) ?_
    refine J_icmp_ge 21 dX11_copy_6 rfl (by omega) (by omega) (fun c6 => ?_) (fun c6 => ?_)
    · exfalso; omega
    · refine L_a1 dX11_copy_9 ?_
      refine L_i2 dX11_copy_10 ?_
      refine L_a0 dX11_copy_11 ?_
      refine L_i2 dX11_copy_12 ?_
      refine AR_37 dX11_copy_13 (by omega) ?_
      refine AS_38 dX11_copy_14 (by omega) ?_
      refine JI_2 dX11_copy_15 (by decide) rfl ?_
      refine E_goto 2 dX11_copy_18 rfl ?_
      have e := cpk_s (T 37) (T 38) (k := k) (by omega)
      refine E_eq rfl rfl rfl (show _ = (W5 S (upS T 38 (cpk (T 37) (T 38) (k + 1))) D) from by rw [← e]; rfl) (ih (k + 1) (by omega) (by omega))

set_option maxRecDepth 100000 in
theorem qX11_copy_image {S T : Nat → Int → Int} {D : List mx_C} : SpV yX11_copy cX11_copy 3 none 0 [.ref 37, .ref 38] (W5 S T D) (W5 S (upS T 38 (cpk (T 37) (T 38) 1663)) D) := by
  refine Sp.of [.ref 37, .ref 38, .retAddr 0] (by decide) (by simp) (Nat.le_of_ble_eq_true rfl) rfl (fun E => ?_)
  refine J_iconst dX11_copy_0 ?_
  refine S_i2 dX11_copy_1 (by decide) rfl ?_
  have e : W5 S T D = W5 S (upS T 38 (cpk (T 37) (T 38) 0)) D := by rw [cpk_0]; rfl
  rw [e]
  exact lX11_copy_image 1663 0 (by omega) (by omega)

set_option maxRecDepth 100000 in
theorem qX11_image {S T : Nat → Int → Int} {D : List mx_C} : SpF yX11_image cX11_image 1 (some .int) 1 [.ref 36] (W5 S T D) (.int (jI (T 37 4))) (W5 S (upS T 38 (cpk (T 37) (T 38) 1663)) D) := by
  refine Sp.of [.ref 36] (by decide) (by simp) (Nat.le_of_ble_eq_true rfl) rfl (fun E => ?_)
  refine L_a0 dX11_image_0 ?_
  refine GW_36_0 fX11_7 dX11_image_1 ?_
  refine L_a0 dX11_image_4 ?_
  refine GW_36_1 fX11_13 dX11_image_5 ?_
  refine C_s2V vX11_79 dX11_image_8 qX11_copy_image (Nat.le_of_ble_eq_true rfl) (by decide) ?_
  refine L_a0 dX11_image_11 ?_
  refine GW_36_0 fX11_7 dX11_image_12 ?_
  refine J_iconst dX11_image_15 ?_
  refine AR_37 dX11_image_16 (by omega) ?_
  exact R_i rfl dX11_image_17 rfl rfl

set_option maxRecDepth 100000 in
theorem lX11_copy_back {S T : Nat → Int → Int} {D : List mx_C} {E : mx_E} : ∀ (m : Nat) (k : Int), k + m = 1663 → 0 ≤ k → Ev E yX11_copy cX11_copy 3 none (kv E 0 (W5 S (upS T 37 (cpk (T 38) (T 37) 1663)) D)) 0 0 2 [.ref 38, .ref 37, .int (jI k)] [] (W5 S (upS T 37 (cpk (T 38) (T 37) k)) D) := by
  intro m
  induction m with
  | zero =>
    intro k hk hk0
    refine L_i2 dX11_copy_2 ?_
    refine J_sipush dX11_copy_3 (by decide) ?_
    refine J_icmp_ge 21 dX11_copy_6 rfl (by omega) (by omega) (fun c6 => ?_) (fun c6 => ?_)
    · exact R_v rfl dX11_copy_21 (by have e : k = 1663 := (by omega); subst e; rfl)
    · exfalso; omega
  | succ m ih =>
    intro k hk hk0
    refine L_i2 dX11_copy_2 ?_
    refine J_sipush dX11_copy_3 (by decide) ?_
    refine J_icmp_ge 21 dX11_copy_6 rfl (by omega) (by omega) (fun c6 => ?_) (fun c6 => ?_)
    · exfalso; omega
    · refine L_a1 dX11_copy_9 ?_
      refine L_i2 dX11_copy_10 ?_
      refine L_a0 dX11_copy_11 ?_
      refine L_i2 dX11_copy_12 ?_
      refine AR_38 dX11_copy_13 (by omega) ?_
      refine AS_37 dX11_copy_14 (by omega) ?_
      refine JI_2 dX11_copy_15 (by decide) rfl ?_
      refine E_goto 2 dX11_copy_18 rfl ?_
      have e := cpk_s (T 38) (T 37) (k := k) (by omega)
      refine E_eq rfl rfl rfl (show _ = (W5 S (upS T 37 (cpk (T 38) (T 37) (k + 1))) D) from by rw [← e]; rfl) (ih (k + 1) (by omega) (by omega))

set_option maxRecDepth 100000 in
theorem qX11_copy_back {S T : Nat → Int → Int} {D : List mx_C} : SpV yX11_copy cX11_copy 3 none 0 [.ref 38, .ref 37] (W5 S T D) (W5 S (upS T 37 (cpk (T 38) (T 37) 1663)) D) := by
  refine Sp.of [.ref 38, .ref 37, .retAddr 0] (by decide) (by simp) (Nat.le_of_ble_eq_true rfl) rfl (fun E => ?_)
  refine J_iconst dX11_copy_0 ?_
  refine S_i2 dX11_copy_1 (by decide) rfl ?_
  have e : W5 S T D = W5 S (upS T 37 (cpk (T 38) (T 37) 0)) D := by rw [cpk_0]; rfl
  rw [e]
  exact lX11_copy_back 1663 0 (by omega) (by omega)

set_option maxRecDepth 100000 in
theorem qX11_back {S T : Nat → Int → Int} {D : List mx_C} : SpF yX11_back cX11_back 1 (some .int) 1 [.ref 36] (W5 S T D) (.int (jI (T 38 4))) (W5 S (upS T 37 (cpk (T 38) (T 37) 1663)) D) := by
  refine Sp.of [.ref 36] (by decide) (by simp) (Nat.le_of_ble_eq_true rfl) rfl (fun E => ?_)
  refine L_a0 dX11_back_0 ?_
  refine GW_36_1 fX11_13 dX11_back_1 ?_
  refine L_a0 dX11_back_4 ?_
  refine GW_36_0 fX11_7 dX11_back_5 ?_
  refine C_s2V vX11_79 dX11_back_8 qX11_copy_back (Nat.le_of_ble_eq_true rfl) (by decide) ?_
  refine L_a0 dX11_back_11 ?_
  refine GW_36_0 fX11_7 dX11_back_12 ?_
  refine J_iconst dX11_back_15 ?_
  refine AR_37 dX11_back_16 (by omega) ?_
  exact R_i rfl dX11_back_17 rfl (by show cpk (T 38) (T 37) 1663 4 = T 38 4; exact if_pos (by omega))

set_option maxRecDepth 100000 in
theorem qX11_about {S T : Nat → Int → Int} {D : List mx_C} {n : Int} (h_n : -2147483648 ≤ n ∧ n < 2147483648) : SpF yX11_about cX11_about 2 (some .int) 1 [.ref 36, .int (jI n)] (W5 S T D) (.int (jI (if 0 ≤ n ∧ n ≤ 3 then T 37 n else if n = 4 then T 36 4 else -2))) (W5 S T D) := by
  refine Sp.of [.ref 36, .int (jI n)] (by decide) (by simp) (Nat.le_of_ble_eq_true rfl) rfl (fun E => ?_)
  refine L_i1 dX11_about_0 ?_
  refine J_iconst dX11_about_1 ?_
  refine J_iconst dX11_about_2 ?_
  refine C_s3F vX11_83 dX11_about_3 (qX11_isIn (by omega) (by omega) (by omega)) (Nat.le_of_ble_eq_true rfl) (by decide) ?_
  refine J_ifeqB 18 dX11_about_6 rfl (fun c6 => ?_) (fun c6 => ?_)
  · refine L_i1 dX11_about_18 ?_
    refine J_iconst dX11_about_19 ?_
    refine J_icmp_ne 30 dX11_about_20 rfl (by omega) (by omega) (fun c20 => ?_) (fun c20 => ?_)
    · refine J_bipush dX11_about_30 (by decide) ?_
      exact R_i rfl dX11_about_32 rfl (by split <;> first | rfl | omega | (split <;> first | rfl | omega))
    · refine L_a0 dX11_about_23 ?_
      refine GW_36_4 fX11_98 dX11_about_24 ?_
      refine E_goto 32 dX11_about_27 rfl ?_
      exact R_i rfl dX11_about_32 rfl (by split <;> first | rfl | omega | (split <;> first | rfl | omega))
  · refine L_a0 dX11_about_9 ?_
    refine GW_36_0 fX11_7 dX11_about_10 ?_
    refine L_i1 dX11_about_13 ?_
    refine AR_37 dX11_about_14 (by omega) ?_
    refine E_goto 32 dX11_about_15 rfl ?_
    exact R_i rfl dX11_about_32 rfl (by split <;> first | rfl | omega | (split <;> first | rfl | omega))

