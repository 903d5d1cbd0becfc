/-! ===== the class: the eldest, the widest and their like; sayings, the image ===== -/
abbrev cl_elc (f : Int → Int) (n acc : Int) : Prop := rw_holds f n ∧ (acc = -1 ∨ rw_since f acc < rw_since f n)
def cl_elg (f : Int → Int) (n acc : Int) : Int := if cl_elc f n acc then n else acc
set_option maxRecDepth 100000 in
theorem lX10_eldest {E : mx_E} {S T : Nat → Int → Int} {D : List mx_C} (hv : RV (S 14)) {r : Int} : ∀ (m : Nat) (k acc : Int), k + m = 9 → 1 ≤ k → (-1 ≤ acc ∧ acc < k) → lpF (cl_elg (S 14)) m k acc = r → Ev E yX10_eldest cX10_eldest 3 (some .int) (kf E 2 (.int (jI r)) (W5 S T D)) 0 0 4 [.ref 0, .int (jI acc), .int (jI k)] [] (W5 S T D) := by
  intro m
  induction m with
  | zero =>
    intro k acc hk hk0 hacc hres
    refine L_i2 dX10_eldest_4 ?_
    refine J_bipush dX10_eldest_5 (by decide) ?_
    refine J_icmp_gt 53 dX10_eldest_7 rfl (by omega) (by omega) (fun c7 => ?_) (fun c7 => ?_)
    · refine L_i1 dX10_eldest_53 ?_
      exact R_i rfl dX10_eldest_54 rfl (show acc = r from hres)
    · exfalso; omega
  | succ m ih =>
    intro k acc hk hk0 hacc hres
    have ha := hv.at (n := k) (by omega)
    have b1 := rw_since_B hv k
    have b2 := rw_since_B hv acc
    have b3 := rw_first_B hv k
    have b4 := rw_first_B hv acc
    have b5 := rw_second_B hv k
    have b6 := rw_second_B hv acc
    refine L_i2 dX10_eldest_4 ?_
    refine J_bipush dX10_eldest_5 (by decide) ?_
    refine J_icmp_gt 53 dX10_eldest_7 rfl (by omega) (by omega) (fun c7 => ?_) (fun c7 => ?_)
    · exfalso; omega
    · refine L_a0 dX10_eldest_10 ?_
      refine GW_0_3 fX10_32 dX10_eldest_11 ?_
      refine L_i2 dX10_eldest_14 ?_
      refine C_v1F vX10_125 dX10_eldest_15 (qX4_holds hv.1 (by omega)) rfl rfl (Nat.le_of_ble_eq_true rfl) (by decide) ?_
      refine J_ifeqB 47 dX10_eldest_18 rfl (fun c18 => ?_) (fun c18 => ?_)
      · refine JI_2 dX10_eldest_47 (by decide) rfl ?_
        refine E_goto 4 dX10_eldest_50 rfl ?_
        exact ih (k + 1) acc (by omega) (by omega) (by omega) (by rw [← hres, lpF, show cl_elg (S 14) k acc = acc from if_neg (fun e => c18 e.1)])
      · refine L_i1 dX10_eldest_21 ?_
        refine J_iconst dX10_eldest_22 ?_
        refine J_icmp_eq 45 dX10_eldest_23 rfl (by omega) (by omega) (fun c23 => ?_) (fun c23 => ?_)
        · refine L_i2 dX10_eldest_45 ?_
          refine S_i1 dX10_eldest_46 (by decide) rfl ?_
          refine JI_2 dX10_eldest_47 (by decide) rfl ?_
          refine E_goto 4 dX10_eldest_50 rfl ?_
          exact ih (k + 1) k (by omega) (by omega) (by omega) (by rw [← hres, lpF, show cl_elg (S 14) k acc = k from if_pos ⟨c18, Or.inl c23⟩])
        · refine L_a0 dX10_eldest_26 ?_
          refine GW_0_3 fX10_32 dX10_eldest_27 ?_
          refine L_i2 dX10_eldest_30 ?_
          refine C_v1F vX10_190 dX10_eldest_31 (qX4_since hv.1 (by omega)) rfl rfl (Nat.le_of_ble_eq_true rfl) (by decide) ?_
          refine L_a0 dX10_eldest_34 ?_
          refine GW_0_3 fX10_32 dX10_eldest_35 ?_
          refine L_i1 dX10_eldest_38 ?_
          refine C_v1F vX10_190 dX10_eldest_39 (qX4_since hv.1 (by omega)) rfl rfl (Nat.le_of_ble_eq_true rfl) (by decide) ?_
          refine J_icmp_le 47 dX10_eldest_42 rfl (by omega) (by omega) (fun c42 => ?_) (fun c42 => ?_)
          · refine JI_2 dX10_eldest_47 (by decide) rfl ?_
            refine E_goto 4 dX10_eldest_50 rfl ?_
            exact ih (k + 1) acc (by omega) (by omega) (by omega) (by rw [← hres, lpF, show cl_elg (S 14) k acc = acc from if_neg (fun e => by have := e.2; omega)])
          · refine L_i2 dX10_eldest_45 ?_
            refine S_i1 dX10_eldest_46 (by decide) rfl ?_
            refine JI_2 dX10_eldest_47 (by decide) rfl ?_
            refine E_goto 4 dX10_eldest_50 rfl ?_
            exact ih (k + 1) k (by omega) (by omega) (by omega) (by rw [← hres, lpF, show cl_elg (S 14) k acc = k from if_pos ⟨c18, Or.inr (by omega)⟩])

set_option maxRecDepth 100000 in
theorem qX10_eldest {S T : Nat → Int → Int} {D : List mx_C} (hv : RV (S 14)) : SpF yX10_eldest cX10_eldest 3 (some .int) 2 [.ref 0] (W5 S T D) (.int (jI (lpF (cl_elg (S 14)) 8 1 (-1)))) (W5 S T D) := by
  refine Sp.of [.ref 0, .retAddr 0, .retAddr 0] (by decide) (by simp) (Nat.le_of_ble_eq_true rfl) rfl (fun E => ?_)
  refine J_iconst dX10_eldest_0 ?_
  refine S_i1 dX10_eldest_1 (by decide) rfl ?_
  refine J_iconst dX10_eldest_2 ?_
  refine S_i2 dX10_eldest_3 (by decide) rfl ?_
  exact lX10_eldest hv 8 1 (-1) (by omega) (by omega) (by omega) rfl

abbrev cl_wic (f : Int → Int) (n acc : Int) : Prop := rw_holds f n ∧ (acc = -1 ∨ rw_second f acc - rw_first f acc < rw_second f n - rw_first f n)
def cl_wig (f : Int → Int) (n acc : Int) : Int := if cl_wic f n acc then n else acc
set_option maxRecDepth 100000 in
theorem lX10_widest {E : mx_E} {S T : Nat → Int → Int} {D : List mx_C} (hv : RV (S 14)) {r : Int} : ∀ (m : Nat) (k acc : Int), k + m = 9 → 1 ≤ k → (-1 ≤ acc ∧ acc < k) → lpF (cl_wig (S 14)) m k acc = r → Ev E yX10_widest cX10_widest 3 (some .int) (kf E 2 (.int (jI r)) (W5 S T D)) 0 0 4 [.ref 0, .int (jI acc), .int (jI k)] [] (W5 S T D) := by
  intro m
  induction m with
  | zero =>
    intro k acc hk hk0 hacc hres
    refine L_i2 dX10_widest_4 ?_
    refine J_bipush dX10_widest_5 (by decide) ?_
    refine J_icmp_gt 53 dX10_widest_7 rfl (by omega) (by omega) (fun c7 => ?_) (fun c7 => ?_)
    · refine L_i1 dX10_widest_53 ?_
      exact R_i rfl dX10_widest_54 rfl (show acc = r from hres)
    · exfalso; omega
  | succ m ih =>
    intro k acc hk hk0 hacc hres
    have ha := hv.at (n := k) (by omega)
    have b1 := rw_since_B hv k
    have b2 := rw_since_B hv acc
    have b3 := rw_first_B hv k
    have b4 := rw_first_B hv acc
    have b5 := rw_second_B hv k
    have b6 := rw_second_B hv acc
    refine L_i2 dX10_widest_4 ?_
    refine J_bipush dX10_widest_5 (by decide) ?_
    refine J_icmp_gt 53 dX10_widest_7 rfl (by omega) (by omega) (fun c7 => ?_) (fun c7 => ?_)
    · exfalso; omega
    · refine L_a0 dX10_widest_10 ?_
      refine GW_0_3 fX10_32 dX10_widest_11 ?_
      refine L_i2 dX10_widest_14 ?_
      refine C_v1F vX10_125 dX10_widest_15 (qX4_holds hv.1 (by omega)) rfl rfl (Nat.le_of_ble_eq_true rfl) (by decide) ?_
      refine J_ifeqB 47 dX10_widest_18 rfl (fun c18 => ?_) (fun c18 => ?_)
      · refine JI_2 dX10_widest_47 (by decide) rfl ?_
        refine E_goto 4 dX10_widest_50 rfl ?_
        exact ih (k + 1) acc (by omega) (by omega) (by omega) (by rw [← hres, lpF, show cl_wig (S 14) k acc = acc from if_neg (fun e => c18 e.1)])
      · refine L_i1 dX10_widest_21 ?_
        refine J_iconst dX10_widest_22 ?_
        refine J_icmp_eq 45 dX10_widest_23 rfl (by omega) (by omega) (fun c23 => ?_) (fun c23 => ?_)
        · refine L_i2 dX10_widest_45 ?_
          refine S_i1 dX10_widest_46 (by decide) rfl ?_
          refine JI_2 dX10_widest_47 (by decide) rfl ?_
          refine E_goto 4 dX10_widest_50 rfl ?_
          exact ih (k + 1) k (by omega) (by omega) (by omega) (by rw [← hres, lpF, show cl_wig (S 14) k acc = k from if_pos ⟨c18, Or.inl c23⟩])
        · refine L_a0 dX10_widest_26 ?_
          refine GW_0_3 fX10_32 dX10_widest_27 ?_
          refine L_i2 dX10_widest_30 ?_
          refine C_v1F vX10_230 dX10_widest_31 (qX4_span hv.1 (by omega)) rfl rfl (Nat.le_of_ble_eq_true rfl) (by decide) ?_
          refine L_a0 dX10_widest_34 ?_
          refine GW_0_3 fX10_32 dX10_widest_35 ?_
          refine L_i1 dX10_widest_38 ?_
          refine C_v1F vX10_230 dX10_widest_39 (qX4_span hv.1 (by omega)) rfl rfl (Nat.le_of_ble_eq_true rfl) (by decide) ?_
          refine J_icmp_le 47 dX10_widest_42 rfl (by omega) (by omega) (fun c42 => ?_) (fun c42 => ?_)
          · refine JI_2 dX10_widest_47 (by decide) rfl ?_
            refine E_goto 4 dX10_widest_50 rfl ?_
            exact ih (k + 1) acc (by omega) (by omega) (by omega) (by rw [← hres, lpF, show cl_wig (S 14) k acc = acc from if_neg (fun e => by have := e.2; omega)])
          · refine L_i2 dX10_widest_45 ?_
            refine S_i1 dX10_widest_46 (by decide) rfl ?_
            refine JI_2 dX10_widest_47 (by decide) rfl ?_
            refine E_goto 4 dX10_widest_50 rfl ?_
            exact ih (k + 1) k (by omega) (by omega) (by omega) (by rw [← hres, lpF, show cl_wig (S 14) k acc = k from if_pos ⟨c18, Or.inr (by omega)⟩])

set_option maxRecDepth 100000 in
theorem qX10_widest {S T : Nat → Int → Int} {D : List mx_C} (hv : RV (S 14)) : SpF yX10_widest cX10_widest 3 (some .int) 2 [.ref 0] (W5 S T D) (.int (jI (lpF (cl_wig (S 14)) 8 1 (-1)))) (W5 S T D) := by
  refine Sp.of [.ref 0, .retAddr 0, .retAddr 0] (by decide) (by simp) (Nat.le_of_ble_eq_true rfl) rfl (fun E => ?_)
  refine J_iconst dX10_widest_0 ?_
  refine S_i1 dX10_widest_1 (by decide) rfl ?_
  refine J_iconst dX10_widest_2 ?_
  refine S_i2 dX10_widest_3 (by decide) rfl ?_
  exact lX10_widest hv 8 1 (-1) (by omega) (by omega) (by omega) rfl

def cl_mig (f : Int → Int) (n : Int) : Option Int := if rw_holds f n ∧ ¬ rw_first f n + rw_second f n = f 0 - 1 then some 0 else none
def cl_mirror (f : Int → Int) : Int := lpR (cl_mig f) 8 1 1
set_option maxRecDepth 100000 in
theorem lX10_mirror {E : mx_E} {S T : Nat → Int → Int} {D : List mx_C} (hv : RV (S 14)) {r : Int} : ∀ (m : Nat) (k : Int), k + m = 9 → 1 ≤ k → lpR (cl_mig (S 14)) m k 1 = r → Ev E yX10_mirror cX10_mirror 2 (some .boolean) (kf E 2 (.int (jI r)) (W5 S T D)) 0 0 2 [.ref 0, .int (jI k)] [] (W5 S T D) := by
  intro m
  induction m with
  | zero =>
    intro k hk hk0 hres
    have ha := hv.2
    refine L_i1 dX10_mirror_2 ?_
    refine J_bipush dX10_mirror_3 (by decide) ?_
    refine J_icmp_gt 56 dX10_mirror_5 rfl (by omega) (by omega) (fun c5 => ?_) (fun c5 => ?_)
    · refine J_iconst dX10_mirror_56 ?_
      exact R_z rfl dX10_mirror_57 (by decide) rfl (show (1 : Int) = r from hres)
    · exfalso; omega
  | succ m ih =>
    intro k hk hk0 hres
    have ha := hv.2
    have b3 := rw_first_B hv k
    have b5 := rw_second_B hv k
    refine L_i1 dX10_mirror_2 ?_
    refine J_bipush dX10_mirror_3 (by decide) ?_
    refine J_icmp_gt 56 dX10_mirror_5 rfl (by omega) (by omega) (fun c5 => ?_) (fun c5 => ?_)
    · exfalso; omega
    · refine L_a0 dX10_mirror_8 ?_
      refine GW_0_3 fX10_32 dX10_mirror_9 ?_
      refine L_i1 dX10_mirror_12 ?_
      refine C_v1F vX10_125 dX10_mirror_13 (qX4_holds hv.1 (by omega)) rfl rfl (Nat.le_of_ble_eq_true rfl) (by decide) ?_
      refine J_ifeqB 50 dX10_mirror_16 rfl (fun c16 => ?_) (fun c16 => ?_)
      · refine JI_1 dX10_mirror_50 (by decide) rfl ?_
        refine E_goto 2 dX10_mirror_53 rfl ?_
        exact ih (k + 1) (by omega) (by omega) (by rw [← hres, lpR, show cl_mig (S 14) k = none from if_neg (fun e => c16 e.1)])
      · refine L_a0 dX10_mirror_19 ?_
        refine GW_0_3 fX10_32 dX10_mirror_20 ?_
        refine L_i1 dX10_mirror_23 ?_
        refine C_v1F vX10_183 dX10_mirror_24 (qX4_first hv.1 (by omega)) rfl rfl (Nat.le_of_ble_eq_true rfl) (by decide) ?_
        refine L_a0 dX10_mirror_27 ?_
        refine GW_0_3 fX10_32 dX10_mirror_28 ?_
        refine L_i1 dX10_mirror_31 ?_
        refine C_v1F vX10_187 dX10_mirror_32 (qX4_second hv.1 (by omega)) rfl rfl (Nat.le_of_ble_eq_true rfl) (by decide) ?_
        refine J_iadd dX10_mirror_35 ?_
        refine L_a0 dX10_mirror_36 ?_
        refine GW_0_3 fX10_32 dX10_mirror_37 ?_
        refine C_v0F vX10_103 dX10_mirror_40 (qX4_places) rfl rfl (Nat.le_of_ble_eq_true rfl) (by decide) ?_
        refine J_iconst dX10_mirror_43 ?_
        refine J_isub dX10_mirror_44 ?_
        refine J_icmp_eq 50 dX10_mirror_45 rfl (by omega) (by omega) (fun c45 => ?_) (fun c45 => ?_)
        · refine JI_1 dX10_mirror_50 (by decide) rfl ?_
          refine E_goto 2 dX10_mirror_53 rfl ?_
          exact ih (k + 1) (by omega) (by omega) (by rw [← hres, lpR, show cl_mig (S 14) k = none from if_neg (fun e => e.2 c45)])
        · refine J_iconst dX10_mirror_48 ?_
          exact R_z rfl dX10_mirror_49 (by decide) rfl (by rw [← hres, lpR, show cl_mig (S 14) k = some 0 from if_pos ⟨c16, c45⟩])

set_option maxRecDepth 100000 in
theorem qX10_mirror {S T : Nat → Int → Int} {D : List mx_C} (hv : RV (S 14)) : SpF yX10_mirror cX10_mirror 2 (some .boolean) 2 [.ref 0] (W5 S T D) (.int (jI (cl_mirror (S 14)))) (W5 S T D) := by
  refine Sp.of [.ref 0, .retAddr 0] (by decide) (by simp) (Nat.le_of_ble_eq_true rfl) rfl (fun E => ?_)
  refine J_iconst dX10_mirror_0 ?_
  refine S_i1 dX10_mirror_1 (by decide) rfl ?_
  exact lX10_mirror hv 8 1 (by omega) (by omega) rfl

theorem rw_inside_B (f : Int → Int) (n q : Int) : 0 ≤ rw_inside f n q ∧ rw_inside f n q ≤ 2 := by
  unfold rw_inside
  split
  · have h1 := jb_B (rw_first f n < rw_first f q ∧ rw_first f q < rw_second f n)
    have h2 := jb_B (rw_first f n < rw_second f q ∧ rw_second f q < rw_second f n)
    omega
  · omega
def cl_crg (f : Int → Int) (n q acc : Int) : Int := acc + jb (rw_inside f n q = 1)
def cl_neg (f : Int → Int) (n q acc : Int) : Int := acc + jb (rw_inside f n q = 2 ∨ rw_inside f q n = 2)
def cl_two (g : Int → Int → Int → Int) : Int := lpF (fun n acc => lpF (g n) (8 - n).toNat (n + 1) acc) 8 1 0
theorem cl_crg_B (f : Int → Int) (n q acc : Int) : acc ≤ cl_crg f n q acc ∧ cl_crg f n q acc ≤ acc + 1 := by
  have := jb_B (rw_inside f n q = 1)
  unfold cl_crg
  omega
theorem cl_neg_B (f : Int → Int) (n q acc : Int) : acc ≤ cl_neg f n q acc ∧ cl_neg f n q acc ≤ acc + 1 := by
  have := jb_B (rw_inside f n q = 2 ∨ rw_inside f q n = 2)
  unfold cl_neg
  omega
set_option maxRecDepth 100000 in
theorem lX10_crossed1 {E : mx_E} {S T : Nat → Int → Int} {D : List mx_C} (hv : RV (S 14)) {n r a : Int} (h_n : 1 ≤ n ∧ n ≤ 8) (hk : ∀ acc : Int, acc = a → ∀ u : Value, u.category = 1 → Ev E yX10_crossed cX10_crossed 4 (some .int) (kf E 3 (.int (jI r)) (W5 S T D)) 0 0 42 [.ref 0, .int (jI acc), .int (jI n), u] [] (W5 S T D)) : ∀ (m : Nat) (q acc : Int), q + m = 9 → n < q → (0 ≤ acc ∧ acc ≤ 1000 + q) → lpF (cl_crg (S 14) n) m q acc = a → Ev E yX10_crossed cX10_crossed 4 (some .int) (kf E 3 (.int (jI r)) (W5 S T D)) 0 0 14 [.ref 0, .int (jI acc), .int (jI n), .int (jI q)] [] (W5 S T D) := by
  intro m
  induction m with
  | zero =>
    intro q acc hq hq0 hacc hres
    refine L_i3 dX10_crossed_14 ?_
    refine J_bipush dX10_crossed_15 (by decide) ?_
    refine J_icmp_gt 42 dX10_crossed_17 rfl (by omega) (by omega) (fun c17 => ?_) (fun c17 => ?_)
    · exact hk acc hres _ rfl
    · exfalso; omega
  | succ m ih =>
    intro q acc hq hq0 hacc hres
    have i1 := rw_inside_B (S 14) n q
    have i2 := rw_inside_B (S 14) q n
    refine L_i3 dX10_crossed_14 ?_
    refine J_bipush dX10_crossed_15 (by decide) ?_
    refine J_icmp_gt 42 dX10_crossed_17 rfl (by omega) (by omega) (fun c17 => ?_) (fun c17 => ?_)
    · exfalso; omega
    · refine L_a0 dX10_crossed_20 ?_
      refine GW_0_3 fX10_32 dX10_crossed_21 ?_
      refine L_i2 dX10_crossed_24 ?_
      refine L_i3 dX10_crossed_25 ?_
      refine C_v2F vX10_233 dX10_crossed_26 (qX4_inside hv.1 (by omega) (by omega)) rfl rfl (Nat.le_of_ble_eq_true rfl) (by decide) ?_
      refine J_iconst dX10_crossed_29 ?_
      refine J_icmp_ne 36 dX10_crossed_30 rfl (by omega) (by omega) (fun c30 => ?_) (fun c30 => ?_)
      · refine JI_3 dX10_crossed_36 (by decide) rfl ?_
        refine E_goto 14 dX10_crossed_39 rfl ?_
        exact ih (q + 1) _ (by omega) (by omega) (by omega) (by rw [← hres, lpF, show cl_crg (S 14) n q acc = acc from by unfold cl_crg; rw [jb_f c30]; omega])
      · refine JI_1 dX10_crossed_33 (by decide) rfl ?_
        refine JI_3 dX10_crossed_36 (by decide) rfl ?_
        refine E_goto 14 dX10_crossed_39 rfl ?_
        exact ih (q + 1) _ (by omega) (by omega) (by omega) (by rw [← hres, lpF, show cl_crg (S 14) n q acc = acc + 1 from by unfold cl_crg; rw [jb_t c30]])

set_option maxRecDepth 100000 in
theorem lX10_crossed {E : mx_E} {S T : Nat → Int → Int} {D : List mx_C} (hv : RV (S 14)) {r : Int} : ∀ (m : Nat) (n acc : Int) (u : Value), u.category = 1 → n + m = 9 → 1 ≤ n → (0 ≤ acc ∧ acc ≤ 8 * n) → lpF (fun n acc => lpF (cl_crg (S 14) n) (8 - n).toNat (n + 1) acc) m n acc = r → Ev E yX10_crossed cX10_crossed 4 (some .int) (kf E 3 (.int (jI r)) (W5 S T D)) 0 0 4 [.ref 0, .int (jI acc), .int (jI n), u] [] (W5 S T D) := by
  intro m
  induction m with
  | zero =>
    intro n acc u hu hn hn0 hacc hres
    refine L_i2 dX10_crossed_4 ?_
    refine J_bipush dX10_crossed_5 (by decide) ?_
    refine J_icmp_gt 48 dX10_crossed_7 rfl (by omega) (by omega) (fun c7 => ?_) (fun c7 => ?_)
    · refine L_i1 dX10_crossed_48 ?_
      exact R_i rfl dX10_crossed_49 rfl (show acc = r from hres)
    · exfalso; omega
  | succ m ih =>
    intro n acc u hu hn hn0 hacc hres
    refine L_i2 dX10_crossed_4 ?_
    refine J_bipush dX10_crossed_5 (by decide) ?_
    refine J_icmp_gt 48 dX10_crossed_7 rfl (by omega) (by omega) (fun c7 => ?_) (fun c7 => ?_)
    · exfalso; omega
    · refine L_i2 dX10_crossed_10 ?_
      refine J_iconst dX10_crossed_11 ?_
      refine J_iadd dX10_crossed_12 ?_
      refine S_i3 dX10_crossed_13 (by decide) rfl ?_
      exact lX10_crossed1 hv (r := r) (by omega) (fun acc2 e2 u hu => by
        refine JI_2 dX10_crossed_42 (by decide) rfl ?_
        refine E_goto 4 dX10_crossed_45 rfl ?_
        have hab := lpF_acc (fun k a => cl_crg_B (S 14) n k a) (8 - n).toNat (n + 1) acc
        exact ih (n + 1) acc2 u hu (by omega) (by omega) (by omega) (by rw [← hres, lpF, e2])) (8 - n).toNat (n + 1) acc (by omega) (by omega) (by omega) rfl

set_option maxRecDepth 100000 in
theorem qX10_crossed {S T : Nat → Int → Int} {D : List mx_C} (hv : RV (S 14)) : SpF yX10_crossed cX10_crossed 4 (some .int) 3 [.ref 0] (W5 S T D) (.int (jI (cl_two (cl_crg (S 14))))) (W5 S T D) := by
  refine Sp.of [.ref 0, .retAddr 0, .retAddr 0, .retAddr 0] (by decide) (by simp) (Nat.le_of_ble_eq_true rfl) rfl (fun E => ?_)
  refine J_iconst dX10_crossed_0 ?_
  refine S_i1 dX10_crossed_1 (by decide) rfl ?_
  refine J_iconst dX10_crossed_2 ?_
  refine S_i2 dX10_crossed_3 (by decide) rfl ?_
  exact lX10_crossed hv 8 1 0 _ rfl (by omega) (by omega) (by omega) rfl

set_option maxRecDepth 100000 in
theorem lX10_nested1 {E : mx_E} {S T : Nat → Int → Int} {D : List mx_C} (hv : RV (S 14)) {n r a : Int} (h_n : 1 ≤ n ∧ n ≤ 8) (hk : ∀ acc : Int, acc = a → ∀ u : Value, u.category = 1 → Ev E yX10_nested cX10_nested 4 (some .int) (kf E 3 (.int (jI r)) (W5 S T D)) 0 0 55 [.ref 0, .int (jI acc), .int (jI n), u] [] (W5 S T D)) : ∀ (m : Nat) (q acc : Int), q + m = 9 → n < q → (0 ≤ acc ∧ acc ≤ 1000 + q) → lpF (cl_neg (S 14) n) m q acc = a → Ev E yX10_nested cX10_nested 4 (some .int) (kf E 3 (.int (jI r)) (W5 S T D)) 0 0 14 [.ref 0, .int (jI acc), .int (jI n), .int (jI q)] [] (W5 S T D) := by
  intro m
  induction m with
  | zero =>
    intro q acc hq hq0 hacc hres
    refine L_i3 dX10_nested_14 ?_
    refine J_bipush dX10_nested_15 (by decide) ?_
    refine J_icmp_gt 55 dX10_nested_17 rfl (by omega) (by omega) (fun c17 => ?_) (fun c17 => ?_)
    · exact hk acc hres _ rfl
    · exfalso; omega
  | succ m ih =>
    intro q acc hq hq0 hacc hres
    have i1 := rw_inside_B (S 14) n q
    have i2 := rw_inside_B (S 14) q n
    refine L_i3 dX10_nested_14 ?_
    refine J_bipush dX10_nested_15 (by decide) ?_
    refine J_icmp_gt 55 dX10_nested_17 rfl (by omega) (by omega) (fun c17 => ?_) (fun c17 => ?_)
    · exfalso; omega
    · refine L_a0 dX10_nested_20 ?_
      refine GW_0_3 fX10_32 dX10_nested_21 ?_
      refine L_i2 dX10_nested_24 ?_
      refine L_i3 dX10_nested_25 ?_
      refine C_v2F vX10_233 dX10_nested_26 (qX4_inside hv.1 (by omega) (by omega)) rfl rfl (Nat.le_of_ble_eq_true rfl) (by decide) ?_
      refine J_iconst dX10_nested_29 ?_
      refine J_icmp_eq 46 dX10_nested_30 rfl (by omega) (by omega) (fun c30 => ?_) (fun c30 => ?_)
      · refine JI_1 dX10_nested_46 (by decide) rfl ?_
        refine JI_3 dX10_nested_49 (by decide) rfl ?_
        refine E_goto 14 dX10_nested_52 rfl ?_
        exact ih (q + 1) _ (by omega) (by omega) (by omega) (by rw [← hres, lpF, show cl_neg (S 14) n q acc = acc + 1 from by unfold cl_neg; rw [jb_t (Or.inl c30)]])
      · refine L_a0 dX10_nested_33 ?_
        refine GW_0_3 fX10_32 dX10_nested_34 ?_
        refine L_i3 dX10_nested_37 ?_
        refine L_i2 dX10_nested_38 ?_
        refine C_v2F vX10_233 dX10_nested_39 (qX4_inside hv.1 (by omega) (by omega)) rfl rfl (Nat.le_of_ble_eq_true rfl) (by decide) ?_
        refine J_iconst dX10_nested_42 ?_
        refine J_icmp_ne 49 dX10_nested_43 rfl (by omega) (by omega) (fun c43 => ?_) (fun c43 => ?_)
        · refine JI_3 dX10_nested_49 (by decide) rfl ?_
          refine E_goto 14 dX10_nested_52 rfl ?_
          exact ih (q + 1) _ (by omega) (by omega) (by omega) (by rw [← hres, lpF, show cl_neg (S 14) n q acc = acc from by unfold cl_neg; rw [jb_f (fun e => by rcases e with e | e; exact c30 e; exact c43 e)]; omega])
        · refine JI_1 dX10_nested_46 (by decide) rfl ?_
          refine JI_3 dX10_nested_49 (by decide) rfl ?_
          refine E_goto 14 dX10_nested_52 rfl ?_
          exact ih (q + 1) _ (by omega) (by omega) (by omega) (by rw [← hres, lpF, show cl_neg (S 14) n q acc = acc + 1 from by unfold cl_neg; rw [jb_t (Or.inr c43)]])

set_option maxRecDepth 100000 in
theorem lX10_nested {E : mx_E} {S T : Nat → Int → Int} {D : List mx_C} (hv : RV (S 14)) {r : Int} : ∀ (m : Nat) (n acc : Int) (u : Value), u.category = 1 → n + m = 9 → 1 ≤ n → (0 ≤ acc ∧ acc ≤ 8 * n) → lpF (fun n acc => lpF (cl_neg (S 14) n) (8 - n).toNat (n + 1) acc) m n acc = r → Ev E yX10_nested cX10_nested 4 (some .int) (kf E 3 (.int (jI r)) (W5 S T D)) 0 0 4 [.ref 0, .int (jI acc), .int (jI n), u] [] (W5 S T D) := by
  intro m
  induction m with
  | zero =>
    intro n acc u hu hn hn0 hacc hres
    refine L_i2 dX10_nested_4 ?_
    refine J_bipush dX10_nested_5 (by decide) ?_
    refine J_icmp_gt 61 dX10_nested_7 rfl (by omega) (by omega) (fun c7 => ?_) (fun c7 => ?_)
    · refine L_i1 dX10_nested_61 ?_
      exact R_i rfl dX10_nested_62 rfl (show acc = r from hres)
    · exfalso; omega
  | succ m ih =>
    intro n acc u hu hn hn0 hacc hres
    refine L_i2 dX10_nested_4 ?_
    refine J_bipush dX10_nested_5 (by decide) ?_
    refine J_icmp_gt 61 dX10_nested_7 rfl (by omega) (by omega) (fun c7 => ?_) (fun c7 => ?_)
    · exfalso; omega
    · refine L_i2 dX10_nested_10 ?_
      refine J_iconst dX10_nested_11 ?_
      refine J_iadd dX10_nested_12 ?_
      refine S_i3 dX10_nested_13 (by decide) rfl ?_
      exact lX10_nested1 hv (r := r) (by omega) (fun acc2 e2 u hu => by
        refine JI_2 dX10_nested_55 (by decide) rfl ?_
        refine E_goto 4 dX10_nested_58 rfl ?_
        have hab := lpF_acc (fun k a => cl_neg_B (S 14) n k a) (8 - n).toNat (n + 1) acc
        exact ih (n + 1) acc2 u hu (by omega) (by omega) (by omega) (by rw [← hres, lpF, e2])) (8 - n).toNat (n + 1) acc (by omega) (by omega) (by omega) rfl

set_option maxRecDepth 100000 in
theorem qX10_nested {S T : Nat → Int → Int} {D : List mx_C} (hv : RV (S 14)) : SpF yX10_nested cX10_nested 4 (some .int) 3 [.ref 0] (W5 S T D) (.int (jI (cl_two (cl_neg (S 14))))) (W5 S T D) := by
  refine Sp.of [.ref 0, .retAddr 0, .retAddr 0, .retAddr 0] (by decide) (by simp) (Nat.le_of_ble_eq_true rfl) rfl (fun E => ?_)
  refine J_iconst dX10_nested_0 ?_
  refine S_i1 dX10_nested_1 (by decide) rfl ?_
  refine J_iconst dX10_nested_2 ?_
  refine S_i2 dX10_nested_3 (by decide) rfl ?_
  exact lX10_nested hv 8 1 0 _ rfl (by omega) (by omega) (by omega) rfl

set_option maxRecDepth 100000 in
theorem qX10_spread {S T : Nat → Int → Int} {D : List mx_C} (hv : RV (S 14)) : SpF yX10_spread cX10_spread 2 (some .int) 1 [.ref 0] (W5 S T D) (.int (jI (if S 14 4 = 0 then 0 else topF (S 14 4) 16 - lowF (S 14 4) 31 0))) (W5 S T D) := by
  have ha := hv.2
  refine Sp.of [.ref 0, .retAddr 0] (by decide) (by simp) (Nat.le_of_ble_eq_true rfl) rfl (fun E => ?_)
  refine L_a0 dX10_spread_0 ?_
  refine GW_0_3 fX10_32 dX10_spread_1 ?_
  refine C_v0F vX10_107 dX10_spread_4 (qX4_taken) rfl rfl (Nat.le_of_ble_eq_true rfl) (by decide) ?_
  refine S_i1 dX10_spread_7 (by decide) rfl ?_
  refine L_i1 dX10_spread_8 ?_
  refine J_if_ne 14 dX10_spread_9 rfl (by omega) (fun c9 => ?_) (fun c9 => ?_)
  · refine J_bipush dX10_spread_14 (by decide) ?_
    refine L_i1 dX10_spread_16 ?_
    refine C_s1F vX10_236 dX10_spread_17 (sJ_nlz (by omega)) (Nat.le_of_ble_eq_true rfl) (by decide) ?_
    refine J_isub dX10_spread_20 ?_
    refine L_i1 dX10_spread_21 ?_
    refine C_s1F vX10_241 dX10_spread_22 (sJ_ntz (by omega)) (Nat.le_of_ble_eq_true rfl) (by decide) ?_
    refine J_isub dX10_spread_25 ?_
    exact R_i rfl dX10_spread_26 rfl (by rw [if_neg (by omega)]; omega)
  · refine J_iconst dX10_spread_12 ?_
    exact R_i rfl dX10_spread_13 rfl (by rw [if_pos (by omega)])

def cl_rog (v p : Int) (s : Int × Int) : Int × Int := (if s.1 < (if v / 2 ^ p.toNat % 2 = 0 then 0 else s.2 + 1) then (if v / 2 ^ p.toNat % 2 = 0 then 0 else s.2 + 1) else s.1, if v / 2 ^ p.toNat % 2 = 0 then 0 else s.2 + 1)
def cl_room (f : Int → Int) : Int := (lpF (cl_rog (bdf (bsh (f 0) - 1) (f 4))) (f 0).toNat 0 (0, 0)).1
set_option maxRecDepth 100000 in
theorem lX10_room {E : mx_E} {S T : Nat → Int → Int} {D : List mx_C} (hv : RV (S 14)) {v r : Int} (h_v : 0 ≤ v ∧ v < 65536) : ∀ (m : Nat) (p lo now : Int), p + m = S 14 0 → 0 ≤ p → (0 ≤ lo ∧ lo ≤ 100) → (0 ≤ now ∧ now ≤ p) → (lpF (cl_rog v) m p (lo, now)).1 = r → Ev E yX10_room cX10_room 5 (some .int) (kf E 2 (.int (jI r)) (W5 S T D)) 0 0 15 [.ref 0, .int (jI v), .int (jI lo), .int (jI now), .int (jI p)] [] (W5 S T D) := by
  intro m
  induction m with
  | zero =>
    intro p lo now hp hp0 hlo hno hres
    have ha := hv.2
    refine L_i4 dX10_room_15 ?_
    refine L_a0 dX10_room_17 ?_
    refine GW_0_3 fX10_32 dX10_room_18 ?_
    refine C_v0F vX10_103 dX10_room_21 (qX4_places) rfl rfl (Nat.le_of_ble_eq_true rfl) (by decide) ?_
    refine J_icmp_ge 56 dX10_room_24 rfl (by omega) (by omega) (fun c24 => ?_) (fun c24 => ?_)
    · refine L_i2 dX10_room_56 ?_
      exact R_i rfl dX10_room_57 rfl (show lo = r from hres)
    · exfalso; omega
  | succ m ih =>
    intro p lo now hp hp0 hlo hno hres
    have ha := hv.2
    refine L_i4 dX10_room_15 ?_
    refine L_a0 dX10_room_17 ?_
    refine GW_0_3 fX10_32 dX10_room_18 ?_
    refine C_v0F vX10_103 dX10_room_21 (qX4_places) rfl rfl (Nat.le_of_ble_eq_true rfl) (by decide) ?_
    refine J_icmp_ge 56 dX10_room_24 rfl (by omega) (by omega) (fun c24 => ?_) (fun c24 => ?_)
    · exfalso; omega
    · refine L_i1 dX10_room_27 ?_
      refine L_i4 dX10_room_28 ?_
      refine J_iushrG dX10_room_30 (by omega) (by omega) ?_
      refine J_iconst dX10_room_31 ?_
      refine J_imask 1 (by decide) (by decide) dX10_room_32 ?_
      refine J_eqi (b := v / 2 ^ p.toNat % 2) rfl ?_
      have hvm : 0 ≤ v / 2 ^ p.toNat % 2 ∧ v / 2 ^ p.toNat % 2 ≤ 1 := by omega
      refine J_if_eq 42 dX10_room_33 rfl (by omega) (fun c33 => ?_) (fun c33 => ?_)
      · refine J_iconst dX10_room_42 ?_
        refine S_i3 dX10_room_43 (by decide) rfl ?_
        refine L_i2 dX10_room_44 ?_
        refine L_i3 dX10_room_45 ?_
        refine J_mmax vX10_244 mX10_244 dX10_room_46 (by omega) (by omega) (Nat.le_of_ble_eq_true rfl) ⟨Nat.le_of_ble_eq_true rfl, Nat.le_of_ble_eq_true rfl⟩ ?_
        refine S_i2 dX10_room_49 (by decide) rfl ?_
        refine JI_4 dX10_room_50 (by decide) rfl ?_
        refine E_goto 15 dX10_room_53 rfl ?_
        exact ih (p + 1) _ _ (by omega) (by omega) (by split <;> omega) (by omega) (by rw [← hres, lpF, show cl_rog v p (lo, now) = (if lo < 0 then 0 else lo, 0) from by unfold cl_rog; rw [if_pos c33]])
      · refine L_i3 dX10_room_36 ?_
        refine J_iconst dX10_room_37 ?_
        refine J_iadd dX10_room_38 ?_
        refine E_goto 43 dX10_room_39 rfl ?_
        refine S_i3 dX10_room_43 (by decide) rfl ?_
        refine L_i2 dX10_room_44 ?_
        refine L_i3 dX10_room_45 ?_
        refine J_mmax vX10_244 mX10_244 dX10_room_46 (by omega) (by omega) (Nat.le_of_ble_eq_true rfl) ⟨Nat.le_of_ble_eq_true rfl, Nat.le_of_ble_eq_true rfl⟩ ?_
        refine S_i2 dX10_room_49 (by decide) rfl ?_
        refine JI_4 dX10_room_50 (by decide) rfl ?_
        refine E_goto 15 dX10_room_53 rfl ?_
        exact ih (p + 1) _ _ (by omega) (by omega) (by split <;> omega) (by omega) (by rw [← hres, lpF, show cl_rog v p (lo, now) = (if lo < now + 1 then now + 1 else lo, now + 1) from by unfold cl_rog; rw [if_neg c33]])

theorem bsh_16 {k : Int} (h : k ≤ 16) : bsh k ≤ 65536 := by
  unfold bsh
  have : 2 ^ k.toNat ≤ 2 ^ 16 := Nat.pow_le_pow_right (by decide) (by omega)
  omega
set_option maxRecDepth 100000 in
theorem qX10_room {S T : Nat → Int → Int} {D : List mx_C} (hv : RV (S 14)) : SpF yX10_room cX10_room 5 (some .int) 2 [.ref 0] (W5 S T D) (.int (jI (cl_room (S 14)))) (W5 S T D) := by
  have ha := hv.2
  have hbn := bdf_nn (bsh (S 14 0) - 1) (S 14 4)
  have hbp := bsh_pos (S 14 0)
  have hbl := bdf_le (bsh (S 14 0) - 1) (S 14 4) (by omega)
  have hbs := bsh_lt (k := S 14 0) 17 (by omega) (by decide)
  have hbq : bsh (S 14 0) ≤ 65536 := bsh_16 (by omega)
  refine Sp.of [.ref 0, .retAddr 0, .retAddr 0, .retAddr 0, .retAddr 0] (by decide) (by simp) (Nat.le_of_ble_eq_true rfl) rfl (fun E => ?_)
  refine L_a0 dX10_room_0 ?_
  refine GW_0_3 fX10_32 dX10_room_1 ?_
  refine C_v0F vX10_209 dX10_room_4 (qX4_vacant hv) rfl rfl (Nat.le_of_ble_eq_true rfl) (by decide) ?_
  refine S_i1 dX10_room_7 (by decide) rfl ?_
  refine J_iconst dX10_room_8 ?_
  refine S_i2 dX10_room_9 (by decide) rfl ?_
  refine J_iconst dX10_room_10 ?_
  refine S_i3 dX10_room_11 (by decide) rfl ?_
  refine J_iconst dX10_room_12 ?_
  refine S_i4 dX10_room_13 (by decide) rfl ?_
  exact (lX10_room hv (by omega) (S 14 0).toNat 0 0 0 (by omega) (by omega) (by omega) (by omega) rfl)

def cl_ldg (f : Int → Int) (q i acc : Int) : Int := acc + jb (f (30 + i) / 16 % 4 = q)
def cl_ledger (f : Int → Int) (q : Int) : Int := lpF (cl_ldg f q) (f 5).toNat 0 0
set_option maxRecDepth 100000 in
theorem lX10_ledger {E : mx_E} {S T : Nat → Int → Int} {D : List mx_C} (hv : RV (S 14)) (hl : RLn (S 14)) {q r : Int} (h_q : 0 ≤ q ∧ q ≤ 2) : ∀ (m : Nat) (i acc : Int), i + m = S 14 5 → 0 ≤ i → (0 ≤ acc ∧ acc ≤ i) → lpF (cl_ldg (S 14) q) m i acc = r → Ev E yX10_ledger cX10_ledger 4 (some .int) (kf E 1 (.int (jI r)) (W5 S T D)) 0 0 16 [.ref 0, .int (jI q), .int (jI acc), .int (jI i)] [] (W5 S T D) := by
  intro m
  induction m with
  | zero =>
    intro i acc hi hi0 hacc hres
    have ha := hv.2
    refine L_i3 dX10_ledger_16 ?_
    refine L_a0 dX10_ledger_17 ?_
    refine GW_0_3 fX10_32 dX10_ledger_18 ?_
    refine C_v0F vX10_212 dX10_ledger_21 (qX4_lines) rfl rfl (Nat.le_of_ble_eq_true rfl) (by decide) ?_
    refine J_icmp_ge 51 dX10_ledger_24 rfl (by omega) (by omega) (fun c24 => ?_) (fun c24 => ?_)
    · refine L_i2 dX10_ledger_51 ?_
      exact R_i rfl dX10_ledger_52 rfl (show acc = r from hres)
    · exfalso; omega
  | succ m ih =>
    intro i acc hi hi0 hacc hres
    have ha := hv.2
    have hli := hl i (by omega)
    have hlb := hv.1 (30 + i)
    refine L_i3 dX10_ledger_16 ?_
    refine L_a0 dX10_ledger_17 ?_
    refine GW_0_3 fX10_32 dX10_ledger_18 ?_
    refine C_v0F vX10_212 dX10_ledger_21 (qX4_lines) rfl rfl (Nat.le_of_ble_eq_true rfl) (by decide) ?_
    refine J_icmp_ge 51 dX10_ledger_24 rfl (by omega) (by omega) (fun c24 => ?_) (fun c24 => ?_)
    · exfalso; omega
    · refine L_a0 dX10_ledger_27 ?_
      refine GW_0_3 fX10_32 dX10_ledger_28 ?_
      refine L_i3 dX10_ledger_31 ?_
      refine C_v1F vX10_215 dX10_ledger_32 (qX4_line hv.1 (by omega)) rfl rfl (Nat.le_of_ble_eq_true rfl) (by decide) ?_
      refine J_eqi (b := S 14 (30 + i)) (by unfold rw_at; rw [if_pos (by omega)]) ?_
      refine C_s1F vX10_224 dX10_ledger_35 (sX4_lineKind (by omega)) (Nat.le_of_ble_eq_true rfl) (by decide) ?_
      refine L_i1 dX10_ledger_38 ?_
      refine J_icmp_ne 45 dX10_ledger_39 rfl (by omega) (by omega) (fun c39 => ?_) (fun c39 => ?_)
      · refine JI_3 dX10_ledger_45 (by decide) rfl ?_
        refine E_goto 16 dX10_ledger_48 rfl ?_
        exact ih (i + 1) _ (by omega) (by omega) (by omega) (by rw [← hres, lpF, show cl_ldg (S 14) q i acc = acc from by unfold cl_ldg; rw [jb_f c39]; omega])
      · refine JI_2 dX10_ledger_42 (by decide) rfl ?_
        refine JI_3 dX10_ledger_45 (by decide) rfl ?_
        refine E_goto 16 dX10_ledger_48 rfl ?_
        exact ih (i + 1) _ (by omega) (by omega) (by omega) (by rw [← hres, lpF, show cl_ldg (S 14) q i acc = acc + 1 from by unfold cl_ldg; rw [jb_t c39]])

set_option maxRecDepth 100000 in
theorem qX10_ledger {S T : Nat → Int → Int} {D : List mx_C} (hv : RV (S 14)) (hl : RLn (S 14)) {q : Int} (h_q : -2147483648 ≤ q ∧ q < 2147483648) : SpF yX10_ledger cX10_ledger 4 (some .int) 1 [.ref 0, .int (jI q)] (W5 S T D) (.int (jI (if 0 ≤ q ∧ q ≤ 2 then cl_ledger (S 14) q else -2))) (W5 S T D) := by
  have ha := hv.2
  refine Sp.of [.ref 0, .int (jI q), .retAddr 0, .retAddr 0] (by decide) (by simp) (Nat.le_of_ble_eq_true rfl) rfl (fun E => ?_)
  refine L_i1 dX10_ledger_0 ?_
  refine J_if_lt 9 dX10_ledger_1 rfl (by omega) (fun c1 => ?_) (fun c1 => ?_)
  · refine J_bipush dX10_ledger_9 (by decide) ?_
    exact R_i rfl dX10_ledger_11 rfl (by rw [if_neg (by omega)])
  · refine L_i1 dX10_ledger_4 ?_
    refine J_iconst dX10_ledger_5 ?_
    refine J_icmp_le 12 dX10_ledger_6 rfl (by omega) (by omega) (fun c6 => ?_) (fun c6 => ?_)
    · refine J_iconst dX10_ledger_12 ?_
      refine S_i2 dX10_ledger_13 (by decide) rfl ?_
      refine J_iconst dX10_ledger_14 ?_
      refine S_i3 dX10_ledger_15 (by decide) rfl ?_
      rw [if_pos (by omega)]
      exact lX10_ledger hv hl (by omega) (S 14 5).toNat 0 0 (by omega) (by omega) (by omega) rfl
    · refine J_bipush dX10_ledger_9 (by decide) ?_
      exact R_i rfl dX10_ledger_11 rfl (by rw [if_neg (by omega)])

abbrev cl_sd (n b c : Int) : Prop := (1 ≤ n ∧ n ≤ 8) ∧ (0 ≤ b ∧ b ≤ 14) ∧ c < 8
set_option maxRecDepth 100000 in
theorem qX10_saidM {S T : Nat → Int → Int} {D : List mx_C} {n : Int} (h_n : -2147483648 ≤ n ∧ n < 2147483648) {b : Int} (h_b : -2147483648 ≤ b ∧ b < 2147483648) (h19 : 0 ≤ S 19 1 ∧ S 19 1 ≤ 8) (hn : n = -1) : SpF yX10_said cX10_said 3 (some .int) 1 [.ref 0, .int (jI n), .int (jI b)] (W5 S T D) (.int (jI 0)) (W5 (upS S 19 (up (S 19) 1 0)) T D) := by
  refine Sp.of [.ref 0, .int (jI n), .int (jI b)] (by decide) (by simp) (Nat.le_of_ble_eq_true rfl) rfl (fun E => ?_)
  refine L_i1 dX10_said_0 ?_
  refine J_iconst dX10_said_1 ?_
  refine J_icmp_ne 15 dX10_said_2 rfl (by omega) (by omega) (fun c2 => ?_) (fun c2 => ?_)
  · exfalso; omega
  · refine L_a0 dX10_said_5 ?_
    refine GW_0_6 fX10_49 dX10_said_6 ?_
    refine J_iconst dX10_said_9 ?_
    refine PW_19_1 fX10_330 dX10_said_10 ?_
    refine J_iconst dX10_said_13 ?_
    exact R_i rfl dX10_said_14 rfl (by simp_all)

set_option maxRecDepth 100000 in
theorem qX10_saidN {S T : Nat → Int → Int} {D : List mx_C} {n : Int} (h_n : -2147483648 ≤ n ∧ n < 2147483648) {b : Int} (h_b : -2147483648 ≤ b ∧ b < 2147483648) (h19 : 0 ≤ S 19 1 ∧ S 19 1 ≤ 8) (hn : ¬ n = -1) (hno : ¬ cl_sd n b (S 19 1)) : SpF yX10_said cX10_said 3 (some .int) 1 [.ref 0, .int (jI n), .int (jI b)] (W5 S T D) (.int (jI (-2))) (W5 S T D) := by
  refine Sp.of [.ref 0, .int (jI n), .int (jI b)] (by decide) (by simp) (Nat.le_of_ble_eq_true rfl) rfl (fun E => ?_)
  refine L_i1 dX10_said_0 ?_
  refine J_iconst dX10_said_1 ?_
  refine J_icmp_ne 15 dX10_said_2 rfl (by omega) (by omega) (fun c2 => ?_) (fun c2 => ?_)
  · refine L_i1 dX10_said_15 ?_
    refine C_s1F vX10_180 dX10_said_16 (sX10_isNumber (by omega)) (Nat.le_of_ble_eq_true rfl) (by decide) ?_
    refine J_ifeqB 44 dX10_said_19 rfl (fun c19 => ?_) (fun c19 => ?_)
    · refine J_bipush dX10_said_44 (by decide) ?_
      exact R_i rfl dX10_said_46 rfl (by simp_all)
    · refine L_i2 dX10_said_22 ?_
      refine J_if_lt 44 dX10_said_23 rfl (by omega) (fun c23 => ?_) (fun c23 => ?_)
      · refine J_bipush dX10_said_44 (by decide) ?_
        exact R_i rfl dX10_said_46 rfl (by simp_all)
      · refine L_i2 dX10_said_26 ?_
        refine J_bipush dX10_said_27 (by decide) ?_
        refine J_icmp_gt 44 dX10_said_29 rfl (by omega) (by omega) (fun c29 => ?_) (fun c29 => ?_)
        · refine J_bipush dX10_said_44 (by decide) ?_
          exact R_i rfl dX10_said_46 rfl (by simp_all)
        · refine L_a0 dX10_said_32 ?_
          refine GW_0_6 fX10_49 dX10_said_33 ?_
          refine L_i1 dX10_said_36 ?_
          refine L_i2 dX10_said_37 ?_
          refine C_v2F vX10_331 dX10_said_38 (qX5_add0 (by omega)) rfl rfl (Nat.le_of_ble_eq_true rfl) (by decide) ?_
          refine J_if_ne 47 dX10_said_41 rfl (by omega) (fun c41 => ?_) (fun c41 => ?_)
          · exact absurd rfl c41
          · refine J_bipush dX10_said_44 (by decide) ?_
            exact R_i rfl dX10_said_46 rfl (by simp_all)
  · exfalso; omega

set_option maxRecDepth 100000 in
theorem qX10_said {S T : Nat → Int → Int} {D : List mx_C} {n : Int} (h_n : -2147483648 ≤ n ∧ n < 2147483648) {b : Int} (h_b : -2147483648 ≤ b ∧ b < 2147483648) (h19 : 0 ≤ S 19 1 ∧ S 19 1 ≤ 8) (hsd : cl_sd n b (S 19 1)) : SpF yX10_said cX10_said 3 (some .int) 1 [.ref 0, .int (jI n), .int (jI b)] (W5 S T D) (.int (jI (S 19 1 + 1))) (W5 (syA S n b) T D) := by
  refine Sp.of [.ref 0, .int (jI n), .int (jI b)] (by decide) (by simp) (Nat.le_of_ble_eq_true rfl) rfl (fun E => ?_)
  refine L_i1 dX10_said_0 ?_
  refine J_iconst dX10_said_1 ?_
  refine J_icmp_ne 15 dX10_said_2 rfl (by omega) (by omega) (fun c2 => ?_) (fun c2 => ?_)
  · refine L_i1 dX10_said_15 ?_
    refine C_s1F vX10_180 dX10_said_16 (sX10_isNumber (by omega)) (Nat.le_of_ble_eq_true rfl) (by decide) ?_
    refine J_ifeqB 44 dX10_said_19 rfl (fun c19 => ?_) (fun c19 => ?_)
    · exact absurd hsd.1 c19
    · refine L_i2 dX10_said_22 ?_
      refine J_if_lt 44 dX10_said_23 rfl (by omega) (fun c23 => ?_) (fun c23 => ?_)
      · exfalso; omega
      · refine L_i2 dX10_said_26 ?_
        refine J_bipush dX10_said_27 (by decide) ?_
        refine J_icmp_gt 44 dX10_said_29 rfl (by omega) (by omega) (fun c29 => ?_) (fun c29 => ?_)
        · exfalso; omega
        · refine L_a0 dX10_said_32 ?_
          refine GW_0_6 fX10_49 dX10_said_33 ?_
          refine L_i1 dX10_said_36 ?_
          refine L_i2 dX10_said_37 ?_
          refine C_v2F vX10_331 dX10_said_38 (qX5_add (by omega) (by omega) (by omega)) rfl rfl (Nat.le_of_ble_eq_true rfl) (by decide) ?_
          refine J_if_ne 47 dX10_said_41 rfl (by omega) (fun c41 => ?_) (fun c41 => ?_)
          · refine L_a0 dX10_said_47 ?_
            refine GW_0_6 fX10_49 dX10_said_48 ?_
            refine GW_19_1 fX10_330 dX10_said_51 ?_
            refine J_eqi (b := S 19 1 + 1) (by unfold syA; rw [upS_s, up_s]) ?_
            exact R_i rfl dX10_said_54 rfl rfl
          · exact absurd c41 (by decide)
  · exfalso; omega

/-- the image taken -/
def imT (S : Nat → Int → Int) (n b : Int) : Nat → Int → Int := upS (upS (upS (upS (upS (upS S 30 (cpy (S 14) (S 30) 0 0 55)) 32 (cpy (S 18) (S 32) 0 0 1650)) 31 (up (up (S 31) 1 (S 17 1)) 2 (S 17 2))) 34 (cpy (S 20) (S 34) 0 0 8)) 33 (up (S 33) 1 (S 19 1))) 28 (up (up (S 28) 3 n) 4 b)
def imG (S : Nat → Int → Int) : Nat → Int → Int := upS (upS (upS (upS (upS S 14 (cpy (S 30) (S 14) 0 0 55)) 18 (cpy (S 32) (S 18) 0 0 1650)) 17 (up (up (S 17) 1 (S 31 1)) 2 (S 31 2))) 20 (cpy (S 34) (S 20) 0 0 8)) 19 (up (S 19) 1 (S 33 1))
set_option maxRecDepth 100000 in
theorem qX1_take {S T : Nat → Int → Int} {D : List mx_C} {n b : Int} : SpV yX1_take cX1_take 6 none 2 [.ref 28, .ref 13, .ref 17, .ref 19, .int (jI n), .int (jI b)] (W5 S T D) (W5 (imT S n b) T D) := by
  refine Sp.of [.ref 28, .ref 13, .ref 17, .ref 19, .int (jI n), .int (jI b)] (by decide) (by simp) (Nat.le_of_ble_eq_true rfl) rfl (fun E => ?_)
  refine L_a0 dX1_take_0 ?_
  refine GW_28_0 fX1_12 dX1_take_1 ?_
  refine L_a1 dX1_take_4 ?_
  refine C_v1V vX1_39 dX1_take_5 (qX4_become_29_13) rfl rfl (Nat.le_of_ble_eq_true rfl) (by decide) ?_
  refine L_a0 dX1_take_8 ?_
  refine GW_28_1 fX1_21 dX1_take_9 ?_
  refine L_a2 dX1_take_12 ?_
  refine C_v1V vX1_43 dX1_take_13 (qX8_become_31_17) rfl rfl (Nat.le_of_ble_eq_true rfl) (by decide) ?_
  refine L_a0 dX1_take_16 ?_
  refine GW_28_2 fX1_28 dX1_take_17 ?_
  refine L_a3 dX1_take_20 ?_
  refine C_v1V vX1_46 dX1_take_21 (qX5_become_33_19) rfl rfl (Nat.le_of_ble_eq_true rfl) (by decide) ?_
  refine L_a0 dX1_take_24 ?_
  refine L_i4 dX1_take_25 ?_
  refine PW_28_3 fX1_32 dX1_take_27 ?_
  refine L_a0 dX1_take_30 ?_
  refine L_i5 dX1_take_31 ?_
  refine PW_28_4 fX1_36 dX1_take_33 ?_
  exact R_v rfl dX1_take_36 (by unfold imT; rw [upS_upS, upS_s]; simp [upS])

set_option maxRecDepth 100000 in
theorem qX1_give {S T : Nat → Int → Int} {D : List mx_C} : SpV yX1_give cX1_give 4 none 2 [.ref 28, .ref 13, .ref 17, .ref 19] (W5 S T D) (W5 (imG S) T D) := by
  refine Sp.of [.ref 28, .ref 13, .ref 17, .ref 19] (by decide) (by simp) (Nat.le_of_ble_eq_true rfl) rfl (fun E => ?_)
  refine L_a1 dX1_give_0 ?_
  refine L_a0 dX1_give_1 ?_
  refine GW_28_0 fX1_12 dX1_give_2 ?_
  refine C_v1V vX1_39 dX1_give_5 (qX4_become_13_29) rfl rfl (Nat.le_of_ble_eq_true rfl) (by decide) ?_
  refine L_a2 dX1_give_8 ?_
  refine L_a0 dX1_give_9 ?_
  refine GW_28_1 fX1_21 dX1_give_10 ?_
  refine C_v1V vX1_43 dX1_give_13 (qX8_become_17_31) rfl rfl (Nat.le_of_ble_eq_true rfl) (by decide) ?_
  refine L_a3 dX1_give_16 ?_
  refine L_a0 dX1_give_17 ?_
  refine GW_28_2 fX1_28 dX1_give_18 ?_
  refine C_v1V vX1_46 dX1_give_21 (qX5_become_19_33) rfl rfl (Nat.le_of_ble_eq_true rfl) (by decide) ?_
  exact R_v rfl dX1_give_24 (by unfold imG; simp [upS])

set_option maxRecDepth 100000 in
theorem qX10_image {S T : Nat → Int → Int} {D : List mx_C} : SpF yX10_image cX10_image 1 (some .int) 3 [.ref 0] (W5 S T D) (.int (jI (S 14 1))) (W5 (imT S (S 0 10) (S 0 11)) T D) := by
  refine Sp.of [.ref 0] (by decide) (by simp) (Nat.le_of_ble_eq_true rfl) rfl (fun E => ?_)
  refine L_a0 dX10_image_0 ?_
  refine GW_0_8 fX10_63 dX10_image_1 ?_
  refine L_a0 dX10_image_4 ?_
  refine GW_0_3 fX10_32 dX10_image_5 ?_
  refine L_a0 dX10_image_8 ?_
  refine GW_0_5 fX10_42 dX10_image_9 ?_
  refine L_a0 dX10_image_12 ?_
  refine GW_0_6 fX10_49 dX10_image_13 ?_
  refine L_a0 dX10_image_16 ?_
  refine GW_0_10 fX10_71 dX10_image_17 ?_
  refine L_a0 dX10_image_20 ?_
  refine GW_0_11 fX10_75 dX10_image_21 ?_
  refine C_v5V vX10_338 dX10_image_24 (qX1_take) rfl rfl (Nat.le_of_ble_eq_true rfl) (by decide) ?_
  refine L_a0 dX10_image_27 ?_
  refine GW_0_3 fX10_32 dX10_image_28 ?_
  refine C_v0F vX10_144 dX10_image_31 (qX4_date) rfl rfl (Nat.le_of_ble_eq_true rfl) (by decide) ?_
  exact R_i rfl dX10_image_34 rfl (by simp [imT, upS])

set_option maxRecDepth 100000 in
theorem qX10_back {S T : Nat → Int → Int} {D : List mx_C} : SpF yX10_back cX10_back 1 (some .int) 3 [.ref 0] (W5 S T D) (.int (jI (S 30 1))) (W5 (upS (imG S) 0 (up (up (S 0) 10 (S 28 3)) 11 (S 28 4))) T D) := by
  refine Sp.of [.ref 0] (by decide) (by simp) (Nat.le_of_ble_eq_true rfl) rfl (fun E => ?_)
  refine L_a0 dX10_back_0 ?_
  refine GW_0_8 fX10_63 dX10_back_1 ?_
  refine L_a0 dX10_back_4 ?_
  refine GW_0_3 fX10_32 dX10_back_5 ?_
  refine L_a0 dX10_back_8 ?_
  refine GW_0_5 fX10_42 dX10_back_9 ?_
  refine L_a0 dX10_back_12 ?_
  refine GW_0_6 fX10_49 dX10_back_13 ?_
  refine C_v3V vX10_342 dX10_back_16 (qX1_give) rfl rfl (Nat.le_of_ble_eq_true rfl) (by decide) ?_
  refine L_a0 dX10_back_19 ?_
  refine L_a0 dX10_back_20 ?_
  refine GW_0_8 fX10_63 dX10_back_21 ?_
  refine GW_28_3 fX10_346 dX10_back_24 ?_
  refine J_eqi (b := S 28 3) (by simp [imG, upS]) ?_
  refine PW_0_10 fX10_71 dX10_back_27 ?_
  refine L_a0 dX10_back_30 ?_
  refine L_a0 dX10_back_31 ?_
  refine GW_0_8 fX10_63 dX10_back_32 ?_
  refine GW_28_4 fX10_347 dX10_back_35 ?_
  refine J_eqi (b := S 28 4) (by simp [imG, upS]) ?_
  refine PW_0_11 fX10_75 dX10_back_38 ?_
  refine L_a0 dX10_back_41 ?_
  refine GW_0_3 fX10_32 dX10_back_42 ?_
  refine C_v0F vX10_144 dX10_back_45 (qX4_date) rfl rfl (Nat.le_of_ble_eq_true rfl) (by decide) ?_
  exact R_i rfl dX10_back_48 (by rw [upS_upS, upS_s]; simp [imG, upS]) (by simp [imG, upS, cpy])

