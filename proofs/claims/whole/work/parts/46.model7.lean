/-! ===== the reference: what is asked of the row ===== -/
theorem md_ln_B {v : Int} (h : 0 ≤ v) : 0 ≤ md_ln v 2 ∧ md_ln v 2 ≤ 2 := by
  show 0 ≤ v / 16 % 3 ∧ v / 16 % 3 ≤ 2
  omega
def md_ldg (a : Int → Int) (q i acc : Int) : Int := acc + jb (md_ln (a (1638 + i)) 2 = q)
def md_ledger (a : Int → Int) (q : Int) : Int := lpF (md_ldg a q) (a 6).toNat 0 0
set_option maxRecDepth 100000 in
theorem lX11_ledger {E : mx_E} {S T : Nat → Int → Int} {D : List mx_C} (hv : MV (T 37)) (hl : ML (T 37)) {q : Int} (h_q : 0 ≤ q ∧ q ≤ 2) : ∀ (m : Nat) (i acc : Int), i + m = T 37 6 → 0 ≤ i → (0 ≤ acc ∧ acc ≤ i) → Ev E yX11_ledger cX11_ledger 4 (some .int) (kf E 1 (.int (jI (lpF (md_ldg (T 37) q) m i acc))) (W5 S T D)) 0 0 16 [.ref 36, .int (jI q), .int (jI acc), .int (jI i)] [] (W5 S T D) := by
  intro m
  induction m with
  | zero =>
    intro i acc hi hi0 hacc
    have ha := hv.2
    refine L_i3 dX11_ledger_16 ?_
    refine L_a0 dX11_ledger_17 ?_
    refine GW_36_0 fX11_7 dX11_ledger_18 ?_
    refine J_bipush dX11_ledger_21 (by decide) ?_
    refine AB_37 dX11_ledger_23 (by omega) hv.1 (fun b23 => ?_)
    refine J_icmp_ge 51 dX11_ledger_24 rfl (by omega) (by omega) (fun c24 => ?_) (fun c24 => ?_)
    · refine L_i2 dX11_ledger_51 ?_
      exact R_i rfl dX11_ledger_52 rfl rfl
    · exfalso; omega
  | succ m ih =>
    intro i acc hi hi0 hacc
    have ha := hv.2
    have hln := md_ln_B (hl i (by omega))
    refine L_i3 dX11_ledger_16 ?_
    refine L_a0 dX11_ledger_17 ?_
    refine GW_36_0 fX11_7 dX11_ledger_18 ?_
    refine J_bipush dX11_ledger_21 (by decide) ?_
    refine AB_37 dX11_ledger_23 (by omega) hv.1 (fun b23 => ?_)
    refine J_icmp_ge 51 dX11_ledger_24 rfl (by omega) (by omega) (fun c24 => ?_) (fun c24 => ?_)
    · exfalso; omega
    · refine L_i2 dX11_ledger_27 ?_
      refine L_a0 dX11_ledger_28 ?_
      refine L_i3 dX11_ledger_29 ?_
      refine J_iconst dX11_ledger_30 ?_
      refine C_v2F vX11_310 dX11_ledger_31 (qX11_lineOf hv hl (by omega) (by omega)) rfl rfl (Nat.le_of_ble_eq_true rfl) (by decide) ?_
      refine L_i1 dX11_ledger_34 ?_
      refine J_icmp_ne 42 dX11_ledger_35 rfl (by omega) (by omega) (fun c35 => ?_) (fun c35 => ?_)
      · refine J_iconst dX11_ledger_42 ?_
        refine J_iadd dX11_ledger_43 ?_
        refine S_i2 dX11_ledger_44 (by decide) rfl ?_
        refine JI_3 dX11_ledger_45 (by decide) rfl ?_
        refine E_goto 16 dX11_ledger_48 rfl ?_
        first
          | (rw [lpF, show md_ldg (T 37) q i acc = acc + 1 from by unfold md_ldg; rw [jb_t c35]]; exact ih (i + 1) _ (by omega) (by omega) (by omega))
          | (rw [lpF, show md_ldg (T 37) q i acc = acc + 0 from by unfold md_ldg; rw [jb_f c35]]; exact ih (i + 1) _ (by omega) (by omega) (by omega))
      · refine J_iconst dX11_ledger_38 ?_
        refine E_goto 43 dX11_ledger_39 rfl ?_
        refine J_iadd dX11_ledger_43 ?_
        refine S_i2 dX11_ledger_44 (by decide) rfl ?_
        refine JI_3 dX11_ledger_45 (by decide) rfl ?_
        refine E_goto 16 dX11_ledger_48 rfl ?_
        first
          | (rw [lpF, show md_ldg (T 37) q i acc = acc + 1 from by unfold md_ldg; rw [jb_t c35]]; exact ih (i + 1) _ (by omega) (by omega) (by omega))
          | (rw [lpF, show md_ldg (T 37) q i acc = acc + 0 from by unfold md_ldg; rw [jb_f c35]]; exact ih (i + 1) _ (by omega) (by omega) (by omega))

set_option maxRecDepth 100000 in
theorem qX11_ledger {S T : Nat → Int → Int} {D : List mx_C} (hv : MV (T 37)) (hl : ML (T 37)) {q : Int} (h_q : -2147483648 ≤ q ∧ q < 2147483648) : SpF yX11_ledger cX11_ledger 4 (some .int) 1 [.ref 36, .int (jI q)] (W5 S T D) (.int (jI (if 0 ≤ q ∧ q ≤ 2 then md_ledger (T 37) q else -2))) (W5 S T D) := by
  have ha := hv.2
  refine Sp.of [.ref 36, .int (jI q), .retAddr 0, .retAddr 0] (by decide) (by simp) (Nat.le_of_ble_eq_true rfl) rfl (fun E => ?_)
  refine L_i1 dX11_ledger_0 ?_
  refine J_iconst dX11_ledger_1 ?_
  refine J_iconst dX11_ledger_2 ?_
  refine C_s3F vX11_83 dX11_ledger_3 (qX11_isIn (by omega) (by omega) (by omega)) (Nat.le_of_ble_eq_true rfl) (by decide) ?_
  refine J_ifneB 12 dX11_ledger_6 rfl (fun c6 => ?_) (fun c6 => ?_)
  · refine J_iconst dX11_ledger_12 ?_
    refine S_i2 dX11_ledger_13 (by decide) rfl ?_
    refine J_iconst dX11_ledger_14 ?_
    refine S_i3 dX11_ledger_15 (by decide) rfl ?_
    rw [if_pos c6]
    exact lX11_ledger hv hl c6 (T 37 6).toNat 0 0 (by omega) (by omega) (by omega)
  · refine J_bipush dX11_ledger_9 (by decide) ?_
    exact R_i rfl dX11_ledger_11 rfl (by rw [if_neg c6])

abbrev md_elc (a : Int → Int) (k acc : Int) : Prop := md_stands a k ∧ (acc = -1 ∨ a (24 + acc) < a (24 + k))
def md_elg (a : Int → Int) (k acc : Int) : Int := if md_elc a k acc then k else acc
def md_eldest (a : Int → Int) : Int := if lpF (md_elg a) 8 0 (-1) = -1 then -1 else lpF (md_elg a) 8 0 (-1) + 1
def md_ap (a : Int → Int) (k : Int) : Int := a (16 + k) - a (8 + k)
abbrev md_wic (a : Int → Int) (k acc : Int) : Prop := md_stands a k ∧ (acc = -1 ∨ md_ap a acc < md_ap a k)
def md_wig (a : Int → Int) (k acc : Int) : Int := if md_wic a k acc then k else acc
def md_widest (a : Int → Int) : Int := if lpF (md_wig a) 8 0 (-1) = -1 then -1 else lpF (md_wig a) 8 0 (-1) + 1
set_option maxRecDepth 100000 in
theorem qX11_apartOf {S T : Nat → Int → Int} {D : List mx_C} (hv : MV (T 37)) {k : Int} (h_k : 0 ≤ k ∧ k ≤ 7) : SpF yX11_apartOf cX11_apartOf 2 (some .int) 0 [.ref 36, .int (jI k)] (W5 S T D) (.int (jI (md_ap (T 37) k))) (W5 S T D) := by
  refine Sp.of [.ref 36, .int (jI k)] (by decide) (by simp) (Nat.le_of_ble_eq_true rfl) rfl (fun E => ?_)
  refine L_a0 dX11_apartOf_0 ?_
  refine GW_36_0 fX11_7 dX11_apartOf_1 ?_
  refine J_bipush dX11_apartOf_4 (by decide) ?_
  refine L_i1 dX11_apartOf_6 ?_
  refine J_iadd dX11_apartOf_7 ?_
  refine AB_37 dX11_apartOf_8 (by omega) hv.1 (fun b8 => ?_)
  refine L_a0 dX11_apartOf_9 ?_
  refine GW_36_0 fX11_7 dX11_apartOf_10 ?_
  refine J_bipush dX11_apartOf_13 (by decide) ?_
  refine L_i1 dX11_apartOf_15 ?_
  refine J_iadd dX11_apartOf_16 ?_
  refine AB_37 dX11_apartOf_17 (by omega) hv.1 (fun b17 => ?_)
  refine J_isub dX11_apartOf_18 ?_
  exact R_i rfl dX11_apartOf_19 rfl rfl

set_option maxRecDepth 100000 in
theorem lX11_eldest {E : mx_E} {S T : Nat → Int → Int} {D : List mx_C} (hv : MV (T 37)) : ∀ (m : Nat) (k acc : Int), k + m = 8 → 0 ≤ k → (-1 ≤ acc ∧ acc < k) → Ev E yX11_eldest cX11_eldest 3 (some .int) (kf E 3 (.int (jI (if lpF (md_elg (T 37)) m k acc = -1 then -1 else lpF (md_elg (T 37)) m k acc + 1))) (W5 S T D)) 0 0 4 [.ref 36, .int (jI acc), .int (jI k)] [] (W5 S T D) := by
  intro m
  induction m with
  | zero =>
    intro k acc hk hk0 hacc
    refine L_i2 dX11_eldest_4 ?_
    refine J_bipush dX11_eldest_5 (by decide) ?_
    refine J_icmp_ge 52 dX11_eldest_7 rfl (by omega) (by omega) (fun c7 => ?_) (fun c7 => ?_)
    · refine L_i1 dX11_eldest_52 ?_
      refine J_iconst dX11_eldest_53 ?_
      refine J_icmp_ne 61 dX11_eldest_54 rfl (by omega) (by omega) (fun c54 => ?_) (fun c54 => ?_)
      · refine L_i1 dX11_eldest_61 ?_
        refine J_iconst dX11_eldest_62 ?_
        refine J_iadd dX11_eldest_63 ?_
        exact R_i rfl dX11_eldest_64 rfl (by show _ = if acc = -1 then -1 else acc + 1; split <;> omega)
      · refine J_iconst dX11_eldest_57 ?_
        refine E_goto 64 dX11_eldest_58 rfl ?_
        exact R_i rfl dX11_eldest_64 rfl (by show _ = if acc = -1 then -1 else acc + 1; split <;> omega)
    · exfalso; omega
  | succ m ih =>
    intro k acc hk hk0 hacc
    have ha := hv.at (k := k) (by omega)
    have ha2 := hv.at (k := acc)
    refine L_i2 dX11_eldest_4 ?_
    refine J_bipush dX11_eldest_5 (by decide) ?_
    refine J_icmp_ge 52 dX11_eldest_7 rfl (by omega) (by omega) (fun c7 => ?_) (fun c7 => ?_)
    · exfalso; omega
    · refine L_a0 dX11_eldest_10 ?_
      refine L_i2 dX11_eldest_11 ?_
      refine C_v1F vX11_91 dX11_eldest_12 (qX11_standsV hv (by omega)) rfl rfl (Nat.le_of_ble_eq_true rfl) (by decide) ?_
      refine J_ifeqB 46 dX11_eldest_15 rfl (fun c15 => ?_) (fun c15 => ?_)
      · refine JI_2 dX11_eldest_46 (by decide) rfl ?_
        refine E_goto 4 dX11_eldest_49 rfl ?_
        first
          | (rw [lpF, show md_elg (T 37) k acc = k from if_pos ⟨c15, by omega⟩]; exact ih (k + 1) _ (by omega) (by omega) (by omega))
          | (rw [lpF, show md_elg (T 37) k acc = acc from if_neg (fun h => by have := h.2; omega)]; exact ih (k + 1) _ (by omega) (by omega) (by omega))
          | (rw [lpF, show md_elg (T 37) k acc = acc from if_neg (fun h => c15 h.1)]; exact ih (k + 1) _ (by omega) (by omega) (by omega))
      · refine L_i1 dX11_eldest_18 ?_
        refine J_iconst dX11_eldest_19 ?_
        refine J_icmp_eq 44 dX11_eldest_20 rfl (by omega) (by omega) (fun c20 => ?_) (fun c20 => ?_)
        · refine L_i2 dX11_eldest_44 ?_
          refine S_i1 dX11_eldest_45 (by decide) rfl ?_
          refine JI_2 dX11_eldest_46 (by decide) rfl ?_
          refine E_goto 4 dX11_eldest_49 rfl ?_
          first
            | (rw [lpF, show md_elg (T 37) k acc = k from if_pos ⟨c15, by omega⟩]; exact ih (k + 1) _ (by omega) (by omega) (by omega))
            | (rw [lpF, show md_elg (T 37) k acc = acc from if_neg (fun h => by have := h.2; omega)]; exact ih (k + 1) _ (by omega) (by omega) (by omega))
            | (rw [lpF, show md_elg (T 37) k acc = acc from if_neg (fun h => c15 h.1)]; exact ih (k + 1) _ (by omega) (by omega) (by omega))
        · refine L_a0 dX11_eldest_23 ?_
          refine GW_36_0 fX11_7 dX11_eldest_24 ?_
          refine J_bipush dX11_eldest_27 (by decide) ?_
          refine L_i2 dX11_eldest_29 ?_
          refine J_iadd dX11_eldest_30 ?_
          refine AB_37 dX11_eldest_31 (by omega) hv.1 (fun b31 => ?_)
          refine L_a0 dX11_eldest_32 ?_
          refine GW_36_0 fX11_7 dX11_eldest_33 ?_
          refine J_bipush dX11_eldest_36 (by decide) ?_
          refine L_i1 dX11_eldest_38 ?_
          refine J_iadd dX11_eldest_39 ?_
          refine AB_37 dX11_eldest_40 (by omega) hv.1 (fun b40 => ?_)
          refine J_icmp_le 46 dX11_eldest_41 rfl (by omega) (by omega) (fun c41 => ?_) (fun c41 => ?_)
          · refine JI_2 dX11_eldest_46 (by decide) rfl ?_
            refine E_goto 4 dX11_eldest_49 rfl ?_
            first
              | (rw [lpF, show md_elg (T 37) k acc = k from if_pos ⟨c15, by omega⟩]; exact ih (k + 1) _ (by omega) (by omega) (by omega))
              | (rw [lpF, show md_elg (T 37) k acc = acc from if_neg (fun h => by have := h.2; omega)]; exact ih (k + 1) _ (by omega) (by omega) (by omega))
              | (rw [lpF, show md_elg (T 37) k acc = acc from if_neg (fun h => c15 h.1)]; exact ih (k + 1) _ (by omega) (by omega) (by omega))
          · refine L_i2 dX11_eldest_44 ?_
            refine S_i1 dX11_eldest_45 (by decide) rfl ?_
            refine JI_2 dX11_eldest_46 (by decide) rfl ?_
            refine E_goto 4 dX11_eldest_49 rfl ?_
            first
              | (rw [lpF, show md_elg (T 37) k acc = k from if_pos ⟨c15, by omega⟩]; exact ih (k + 1) _ (by omega) (by omega) (by omega))
              | (rw [lpF, show md_elg (T 37) k acc = acc from if_neg (fun h => by have := h.2; omega)]; exact ih (k + 1) _ (by omega) (by omega) (by omega))
              | (rw [lpF, show md_elg (T 37) k acc = acc from if_neg (fun h => c15 h.1)]; exact ih (k + 1) _ (by omega) (by omega) (by omega))

set_option maxRecDepth 100000 in
theorem qX11_eldest {S T : Nat → Int → Int} {D : List mx_C} (hv : MV (T 37)) : SpF yX11_eldest cX11_eldest 3 (some .int) 3 [.ref 36] (W5 S T D) (.int (jI (md_eldest (T 37)))) (W5 S T D) := by
  refine Sp.of [.ref 36, .retAddr 0, .retAddr 0] (by decide) (by simp) (Nat.le_of_ble_eq_true rfl) rfl (fun E => ?_)
  refine J_iconst dX11_eldest_0 ?_
  refine S_i1 dX11_eldest_1 (by decide) rfl ?_
  refine J_iconst dX11_eldest_2 ?_
  refine S_i2 dX11_eldest_3 (by decide) rfl ?_
  exact lX11_eldest hv 8 0 (-1) (by omega) (by omega) (by omega)

set_option maxRecDepth 100000 in
theorem lX11_widest {E : mx_E} {S T : Nat → Int → Int} {D : List mx_C} (hv : MV (T 37)) : ∀ (m : Nat) (k acc : Int), k + m = 8 → 0 ≤ k → (-1 ≤ acc ∧ acc < k) → Ev E yX11_widest cX11_widest 3 (some .int) (kf E 3 (.int (jI (if lpF (md_wig (T 37)) m k acc = -1 then -1 else lpF (md_wig (T 37)) m k acc + 1))) (W5 S T D)) 0 0 4 [.ref 36, .int (jI acc), .int (jI k)] [] (W5 S T D) := by
  intro m
  induction m with
  | zero =>
    intro k acc hk hk0 hacc
    refine L_i2 dX11_widest_4 ?_
    refine J_bipush dX11_widest_5 (by decide) ?_
    refine J_icmp_ge 44 dX11_widest_7 rfl (by omega) (by omega) (fun c7 => ?_) (fun c7 => ?_)
    · refine L_i1 dX11_widest_44 ?_
      refine J_iconst dX11_widest_45 ?_
      refine J_icmp_ne 53 dX11_widest_46 rfl (by omega) (by omega) (fun c46 => ?_) (fun c46 => ?_)
      · refine L_i1 dX11_widest_53 ?_
        refine J_iconst dX11_widest_54 ?_
        refine J_iadd dX11_widest_55 ?_
        exact R_i rfl dX11_widest_56 rfl (by show _ = if acc = -1 then -1 else acc + 1; split <;> omega)
      · refine J_iconst dX11_widest_49 ?_
        refine E_goto 56 dX11_widest_50 rfl ?_
        exact R_i rfl dX11_widest_56 rfl (by show _ = if acc = -1 then -1 else acc + 1; split <;> omega)
    · exfalso; omega
  | succ m ih =>
    intro k acc hk hk0 hacc
    have ha := hv.at (k := k) (by omega)
    have ha2 := hv.at (k := acc)
    have hw1 : md_ap (T 37) k = T 37 (16 + k) - T 37 (8 + k) := rfl
    have hw2 : md_ap (T 37) acc = T 37 (16 + acc) - T 37 (8 + acc) := rfl
    refine L_i2 dX11_widest_4 ?_
    refine J_bipush dX11_widest_5 (by decide) ?_
    refine J_icmp_ge 44 dX11_widest_7 rfl (by omega) (by omega) (fun c7 => ?_) (fun c7 => ?_)
    · exfalso; omega
    · refine L_a0 dX11_widest_10 ?_
      refine L_i2 dX11_widest_11 ?_
      refine C_v1F vX11_91 dX11_widest_12 (qX11_standsV hv (by omega)) rfl rfl (Nat.le_of_ble_eq_true rfl) (by decide) ?_
      refine J_ifeqB 38 dX11_widest_15 rfl (fun c15 => ?_) (fun c15 => ?_)
      · refine JI_2 dX11_widest_38 (by decide) rfl ?_
        refine E_goto 4 dX11_widest_41 rfl ?_
        first
          | (rw [lpF, show md_wig (T 37) k acc = k from if_pos ⟨c15, by omega⟩]; exact ih (k + 1) _ (by omega) (by omega) (by omega))
          | (rw [lpF, show md_wig (T 37) k acc = acc from if_neg (fun h => by have := h.2; omega)]; exact ih (k + 1) _ (by omega) (by omega) (by omega))
          | (rw [lpF, show md_wig (T 37) k acc = acc from if_neg (fun h => c15 h.1)]; exact ih (k + 1) _ (by omega) (by omega) (by omega))
      · refine L_i1 dX11_widest_18 ?_
        refine J_iconst dX11_widest_19 ?_
        refine J_icmp_eq 36 dX11_widest_20 rfl (by omega) (by omega) (fun c20 => ?_) (fun c20 => ?_)
        · refine L_i2 dX11_widest_36 ?_
          refine S_i1 dX11_widest_37 (by decide) rfl ?_
          refine JI_2 dX11_widest_38 (by decide) rfl ?_
          refine E_goto 4 dX11_widest_41 rfl ?_
          first
            | (rw [lpF, show md_wig (T 37) k acc = k from if_pos ⟨c15, by omega⟩]; exact ih (k + 1) _ (by omega) (by omega) (by omega))
            | (rw [lpF, show md_wig (T 37) k acc = acc from if_neg (fun h => by have := h.2; omega)]; exact ih (k + 1) _ (by omega) (by omega) (by omega))
            | (rw [lpF, show md_wig (T 37) k acc = acc from if_neg (fun h => c15 h.1)]; exact ih (k + 1) _ (by omega) (by omega) (by omega))
        · refine L_a0 dX11_widest_23 ?_
          refine L_i2 dX11_widest_24 ?_
          refine C_v1F vX11_389 dX11_widest_25 (qX11_apartOf hv (by omega)) rfl rfl (Nat.le_of_ble_eq_true rfl) (by decide) ?_
          refine L_a0 dX11_widest_28 ?_
          refine L_i1 dX11_widest_29 ?_
          refine C_v1F vX11_389 dX11_widest_30 (qX11_apartOf hv (by omega)) rfl rfl (Nat.le_of_ble_eq_true rfl) (by decide) ?_
          refine J_icmp_le 38 dX11_widest_33 rfl (by omega) (by omega) (fun c33 => ?_) (fun c33 => ?_)
          · refine JI_2 dX11_widest_38 (by decide) rfl ?_
            refine E_goto 4 dX11_widest_41 rfl ?_
            first
              | (rw [lpF, show md_wig (T 37) k acc = k from if_pos ⟨c15, by omega⟩]; exact ih (k + 1) _ (by omega) (by omega) (by omega))
              | (rw [lpF, show md_wig (T 37) k acc = acc from if_neg (fun h => by have := h.2; omega)]; exact ih (k + 1) _ (by omega) (by omega) (by omega))
              | (rw [lpF, show md_wig (T 37) k acc = acc from if_neg (fun h => c15 h.1)]; exact ih (k + 1) _ (by omega) (by omega) (by omega))
          · refine L_i2 dX11_widest_36 ?_
            refine S_i1 dX11_widest_37 (by decide) rfl ?_
            refine JI_2 dX11_widest_38 (by decide) rfl ?_
            refine E_goto 4 dX11_widest_41 rfl ?_
            first
              | (rw [lpF, show md_wig (T 37) k acc = k from if_pos ⟨c15, by omega⟩]; exact ih (k + 1) _ (by omega) (by omega) (by omega))
              | (rw [lpF, show md_wig (T 37) k acc = acc from if_neg (fun h => by have := h.2; omega)]; exact ih (k + 1) _ (by omega) (by omega) (by omega))
              | (rw [lpF, show md_wig (T 37) k acc = acc from if_neg (fun h => c15 h.1)]; exact ih (k + 1) _ (by omega) (by omega) (by omega))

set_option maxRecDepth 100000 in
theorem qX11_widest {S T : Nat → Int → Int} {D : List mx_C} (hv : MV (T 37)) : SpF yX11_widest cX11_widest 3 (some .int) 3 [.ref 36] (W5 S T D) (.int (jI (md_widest (T 37)))) (W5 S T D) := by
  refine Sp.of [.ref 36, .retAddr 0, .retAddr 0] (by decide) (by simp) (Nat.le_of_ble_eq_true rfl) rfl (fun E => ?_)
  refine J_iconst dX11_widest_0 ?_
  refine S_i1 dX11_widest_1 (by decide) rfl ?_
  refine J_iconst dX11_widest_2 ?_
  refine S_i2 dX11_widest_3 (by decide) rfl ?_
  exact lX11_widest hv 8 0 (-1) (by omega) (by omega) (by omega)

def md_mig (a : Int → Int) (k : Int) : Option Int := if md_stands a k ∧ ¬ a (8 + k) + a (16 + k) = a 7 - 1 then some 0 else none
def md_mirror (a : Int → Int) : Int := lpR (md_mig a) 8 0 1
set_option maxRecDepth 100000 in
theorem lX11_mirror {E : mx_E} {S T : Nat → Int → Int} {D : List mx_C} (hv : MV (T 37)) : ∀ (m : Nat) (k : Int), k + m = 8 → 0 ≤ k → Ev E yX11_mirror cX11_mirror 2 (some .boolean) (kf E 3 (.int (jI (lpR (md_mig (T 37)) m k 1))) (W5 S T D)) 0 0 2 [.ref 36, .int (jI k)] [] (W5 S T D) := by
  intro m
  induction m with
  | zero =>
    intro k hk hk0
    refine L_i1 dX11_mirror_2 ?_
    refine J_bipush dX11_mirror_3 (by decide) ?_
    refine J_icmp_ge 55 dX11_mirror_5 rfl (by omega) (by omega) (fun c5 => ?_) (fun c5 => ?_)
    · refine J_iconst dX11_mirror_55 ?_
      exact R_z rfl dX11_mirror_56 (by decide) rfl rfl
    · exfalso; omega
  | succ m ih =>
    intro k hk hk0
    have ha := hv.at (k := k) (by omega)
    have ha2 := hv.2
    refine L_i1 dX11_mirror_2 ?_
    refine J_bipush dX11_mirror_3 (by decide) ?_
    refine J_icmp_ge 55 dX11_mirror_5 rfl (by omega) (by omega) (fun c5 => ?_) (fun c5 => ?_)
    · exfalso; omega
    · refine L_a0 dX11_mirror_8 ?_
      refine L_i1 dX11_mirror_9 ?_
      refine C_v1F vX11_91 dX11_mirror_10 (qX11_standsV hv (by omega)) rfl rfl (Nat.le_of_ble_eq_true rfl) (by decide) ?_
      refine J_ifeqB 49 dX11_mirror_13 rfl (fun c13 => ?_) (fun c13 => ?_)
      · refine JI_1 dX11_mirror_49 (by decide) rfl ?_
        refine E_goto 2 dX11_mirror_52 rfl ?_
        first
          | (rw [lpR, show md_mig (T 37) k = none from if_neg (fun h => c13 h.1)]; exact ih (k + 1) (by omega) (by omega))
          | (rw [lpR, show md_mig (T 37) k = none from if_neg (fun h => h.2 c44)]; exact ih (k + 1) (by omega) (by omega))
      · refine L_a0 dX11_mirror_16 ?_
        refine GW_36_0 fX11_7 dX11_mirror_17 ?_
        refine J_bipush dX11_mirror_20 (by decide) ?_
        refine L_i1 dX11_mirror_22 ?_
        refine J_iadd dX11_mirror_23 ?_
        refine AB_37 dX11_mirror_24 (by omega) hv.1 (fun b24 => ?_)
        refine L_a0 dX11_mirror_25 ?_
        refine GW_36_0 fX11_7 dX11_mirror_26 ?_
        refine J_bipush dX11_mirror_29 (by decide) ?_
        refine L_i1 dX11_mirror_31 ?_
        refine J_iadd dX11_mirror_32 ?_
        refine AB_37 dX11_mirror_33 (by omega) hv.1 (fun b33 => ?_)
        refine J_iadd dX11_mirror_34 ?_
        refine L_a0 dX11_mirror_35 ?_
        refine GW_36_0 fX11_7 dX11_mirror_36 ?_
        refine J_bipush dX11_mirror_39 (by decide) ?_
        refine AB_37 dX11_mirror_41 (by omega) hv.1 (fun b41 => ?_)
        refine J_iconst dX11_mirror_42 ?_
        refine J_isub dX11_mirror_43 ?_
        refine J_icmp_eq 49 dX11_mirror_44 rfl (by omega) (by omega) (fun c44 => ?_) (fun c44 => ?_)
        · refine JI_1 dX11_mirror_49 (by decide) rfl ?_
          refine E_goto 2 dX11_mirror_52 rfl ?_
          first
            | (rw [lpR, show md_mig (T 37) k = none from if_neg (fun h => c13 h.1)]; exact ih (k + 1) (by omega) (by omega))
            | (rw [lpR, show md_mig (T 37) k = none from if_neg (fun h => h.2 c44)]; exact ih (k + 1) (by omega) (by omega))
        · refine J_iconst dX11_mirror_47 ?_
          exact R_z rfl dX11_mirror_48 (by decide) rfl (by rw [lpR, show md_mig (T 37) k = some 0 from if_pos ⟨c13, c44⟩])

set_option maxRecDepth 100000 in
theorem qX11_mirror {S T : Nat → Int → Int} {D : List mx_C} (hv : MV (T 37)) : SpF yX11_mirror cX11_mirror 2 (some .boolean) 3 [.ref 36] (W5 S T D) (.int (jI (md_mirror (T 37)))) (W5 S T D) := by
  refine Sp.of [.ref 36, .retAddr 0] (by decide) (by simp) (Nat.le_of_ble_eq_true rfl) rfl (fun E => ?_)
  refine J_iconst dX11_mirror_0 ?_
  refine S_i1 dX11_mirror_1 (by decide) rfl ?_
  exact lX11_mirror hv 8 0 (by omega) (by omega)

def md_in (a : Int → Int) (k l : Int) : Int := jb (a (8 + l) + 1 ≤ a (8 + k) ∧ a (8 + k) ≤ a (16 + l) - 1) + jb (a (8 + l) + 1 ≤ a (16 + k) ∧ a (16 + k) ≤ a (16 + l) - 1)
theorem md_in_B (a : Int → Int) (k l : Int) : 0 ≤ md_in a k l ∧ md_in a k l ≤ 2 := by
  unfold md_in
  have h1 := jb_B (a (8 + l) + 1 ≤ a (8 + k) ∧ a (8 + k) ≤ a (16 + l) - 1)
  have h2 := jb_B (a (8 + l) + 1 ≤ a (16 + k) ∧ a (16 + k) ≤ a (16 + l) - 1)
  omega
set_option maxRecDepth 100000 in
theorem qX11_inside {S T : Nat → Int → Int} {D : List mx_C} (hv : MV (T 37)) {k l : Int} (h_k : 0 ≤ k ∧ k ≤ 7) (h_l : 0 ≤ l ∧ l ≤ 7) : SpF yX11_inside cX11_inside 4 (some .int) 1 [.ref 36, .int (jI k), .int (jI l)] (W5 S T D) (.int (jI (md_in (T 37) k l))) (W5 S T D) := by
  have ha := hv.at h_k
  have ha2 := hv.at h_l
  refine Sp.of [.ref 36, .int (jI k), .int (jI l), .retAddr 0] (by decide) (by simp) (Nat.le_of_ble_eq_true rfl) rfl (fun E => ?_)
  refine L_a0 dX11_inside_0 ?_
  refine GW_36_0 fX11_7 dX11_inside_1 ?_
  refine J_bipush dX11_inside_4 (by decide) ?_
  refine L_i1 dX11_inside_6 ?_
  refine J_iadd dX11_inside_7 ?_
  refine AB_37 dX11_inside_8 (by omega) hv.1 (fun b8 => ?_)
  refine L_a0 dX11_inside_9 ?_
  refine GW_36_0 fX11_7 dX11_inside_10 ?_
  refine J_bipush dX11_inside_13 (by decide) ?_
  refine L_i2 dX11_inside_15 ?_
  refine J_iadd dX11_inside_16 ?_
  refine AB_37 dX11_inside_17 (by omega) hv.1 (fun b17 => ?_)
  refine J_iconst dX11_inside_18 ?_
  refine J_iadd dX11_inside_19 ?_
  refine L_a0 dX11_inside_20 ?_
  refine GW_36_0 fX11_7 dX11_inside_21 ?_
  refine J_bipush dX11_inside_24 (by decide) ?_
  refine L_i2 dX11_inside_26 ?_
  refine J_iadd dX11_inside_27 ?_
  refine AB_37 dX11_inside_28 (by omega) hv.1 (fun b28 => ?_)
  refine J_iconst dX11_inside_29 ?_
  refine J_isub dX11_inside_30 ?_
  refine C_s3F vX11_83 dX11_inside_31 (qX11_isIn (by omega) (by omega) (by omega)) (Nat.le_of_ble_eq_true rfl) (by decide) ?_
  refine J_ifeqB 41 dX11_inside_34 rfl (fun c34 => ?_) (fun c34 => ?_)
  · refine J_iconst dX11_inside_41 ?_
    refine S_i3 dX11_inside_42 (by decide) rfl ?_
    refine L_i3 dX11_inside_43 ?_
    refine L_a0 dX11_inside_44 ?_
    refine GW_36_0 fX11_7 dX11_inside_45 ?_
    refine J_bipush dX11_inside_48 (by decide) ?_
    refine L_i1 dX11_inside_50 ?_
    refine J_iadd dX11_inside_51 ?_
    refine AB_37 dX11_inside_52 (by omega) hv.1 (fun b52 => ?_)
    refine L_a0 dX11_inside_53 ?_
    refine GW_36_0 fX11_7 dX11_inside_54 ?_
    refine J_bipush dX11_inside_57 (by decide) ?_
    refine L_i2 dX11_inside_59 ?_
    refine J_iadd dX11_inside_60 ?_
    refine AB_37 dX11_inside_61 (by omega) hv.1 (fun b61 => ?_)
    refine J_iconst dX11_inside_62 ?_
    refine J_iadd dX11_inside_63 ?_
    refine L_a0 dX11_inside_64 ?_
    refine GW_36_0 fX11_7 dX11_inside_65 ?_
    refine J_bipush dX11_inside_68 (by decide) ?_
    refine L_i2 dX11_inside_70 ?_
    refine J_iadd dX11_inside_71 ?_
    refine AB_37 dX11_inside_72 (by omega) hv.1 (fun b72 => ?_)
    refine J_iconst dX11_inside_73 ?_
    refine J_isub dX11_inside_74 ?_
    refine C_s3F vX11_83 dX11_inside_75 (qX11_isIn (by omega) (by omega) (by omega)) (Nat.le_of_ble_eq_true rfl) (by decide) ?_
    refine J_ifeqB 85 dX11_inside_78 rfl (fun c78 => ?_) (fun c78 => ?_)
    · refine J_iconst dX11_inside_85 ?_
      refine J_iadd dX11_inside_86 ?_
      exact R_i rfl dX11_inside_87 rfl (by unfold md_in; first | rw [jb_t c34, jb_t c78] | rw [jb_t c34, jb_f c78] | rw [jb_f c34, jb_t c78] | rw [jb_f c34, jb_f c78])
    · refine J_iconst dX11_inside_81 ?_
      refine E_goto 86 dX11_inside_82 rfl ?_
      refine J_iadd dX11_inside_86 ?_
      exact R_i rfl dX11_inside_87 rfl (by unfold md_in; first | rw [jb_t c34, jb_t c78] | rw [jb_t c34, jb_f c78] | rw [jb_f c34, jb_t c78] | rw [jb_f c34, jb_f c78])
  · refine J_iconst dX11_inside_37 ?_
    refine E_goto 42 dX11_inside_38 rfl ?_
    refine S_i3 dX11_inside_42 (by decide) rfl ?_
    refine L_i3 dX11_inside_43 ?_
    refine L_a0 dX11_inside_44 ?_
    refine GW_36_0 fX11_7 dX11_inside_45 ?_
    refine J_bipush dX11_inside_48 (by decide) ?_
    refine L_i1 dX11_inside_50 ?_
    refine J_iadd dX11_inside_51 ?_
    refine AB_37 dX11_inside_52 (by omega) hv.1 (fun b52 => ?_)
    refine L_a0 dX11_inside_53 ?_
    refine GW_36_0 fX11_7 dX11_inside_54 ?_
    refine J_bipush dX11_inside_57 (by decide) ?_
    refine L_i2 dX11_inside_59 ?_
    refine J_iadd dX11_inside_60 ?_
    refine AB_37 dX11_inside_61 (by omega) hv.1 (fun b61 => ?_)
    refine J_iconst dX11_inside_62 ?_
    refine J_iadd dX11_inside_63 ?_
    refine L_a0 dX11_inside_64 ?_
    refine GW_36_0 fX11_7 dX11_inside_65 ?_
    refine J_bipush dX11_inside_68 (by decide) ?_
    refine L_i2 dX11_inside_70 ?_
    refine J_iadd dX11_inside_71 ?_
    refine AB_37 dX11_inside_72 (by omega) hv.1 (fun b72 => ?_)
    refine J_iconst dX11_inside_73 ?_
    refine J_isub dX11_inside_74 ?_
    refine C_s3F vX11_83 dX11_inside_75 (qX11_isIn (by omega) (by omega) (by omega)) (Nat.le_of_ble_eq_true rfl) (by decide) ?_
    refine J_ifeqB 85 dX11_inside_78 rfl (fun c78 => ?_) (fun c78 => ?_)
    · refine J_iconst dX11_inside_85 ?_
      refine J_iadd dX11_inside_86 ?_
      exact R_i rfl dX11_inside_87 rfl (by unfold md_in; first | rw [jb_t c34, jb_t c78] | rw [jb_t c34, jb_f c78] | rw [jb_f c34, jb_t c78] | rw [jb_f c34, jb_f c78])
    · refine J_iconst dX11_inside_81 ?_
      refine E_goto 86 dX11_inside_82 rfl ?_
      refine J_iadd dX11_inside_86 ?_
      exact R_i rfl dX11_inside_87 rfl (by unfold md_in; first | rw [jb_t c34, jb_t c78] | rw [jb_t c34, jb_f c78] | rw [jb_f c34, jb_t c78] | rw [jb_f c34, jb_f c78])

abbrev md_crc (a : Int → Int) (k l : Int) : Prop := md_stands a k ∧ md_stands a l ∧ md_in a k l = 1
def md_crg (a : Int → Int) (k l acc : Int) : Int := acc + jb (md_crc a k l)
def md_crossed (a : Int → Int) : Int := lpF (fun k acc => lpF (md_crg a k) k.toNat 0 acc) 8 0 0
abbrev md_nec (a : Int → Int) (k l : Int) : Prop := ¬ k = l ∧ md_stands a k ∧ md_stands a l ∧ md_in a k l = 2
def md_neg (a : Int → Int) (k l acc : Int) : Int := acc + jb (md_nec a k l)
def md_nested (a : Int → Int) : Int := lpF (fun k acc => lpF (md_neg a k) 8 0 acc) 8 0 0
theorem lpF_acc {g : Int → Int → Int} (hg : ∀ k acc, acc ≤ g k acc ∧ g k acc ≤ acc + 1) : ∀ (m : Nat) (k acc : Int), acc ≤ lpF g m k acc ∧ lpF g m k acc ≤ acc + m := by
  intro m
  induction m with
  | zero => intro k acc; show acc ≤ acc ∧ acc ≤ acc + 0; omega
  | succ m ih =>
    intro k acc
    rw [lpF]
    have h1 := hg k acc
    have h2 := ih (k + 1) (g k acc)
    omega
theorem md_crg_B (a : Int → Int) (k l acc : Int) : acc ≤ md_crg a k l acc ∧ md_crg a k l acc ≤ acc + 1 := by
  unfold md_crg
  have := jb_B (md_crc a k l)
  omega
theorem md_neg_B (a : Int → Int) (k l acc : Int) : acc ≤ md_neg a k l acc ∧ md_neg a k l acc ≤ acc + 1 := by
  unfold md_neg
  have := jb_B (md_nec a k l)
  omega
set_option maxRecDepth 100000 in
theorem lX11_crossed2 {E : mx_E} {S T : Nat → Int → Int} {D : List mx_C} (hv : MV (T 37)) {R : Option Value → List mx_C → Prop} {k r : Int} (h_k : 0 ≤ k ∧ k ≤ 7) (hr : 0 ≤ r ∧ r < 1000) (kk : ∀ u3, Ev E yX11_crossed cX11_crossed 4 (some .int) (mx_km E 4 0 0 R) 0 0 57 [.ref 36, .int (jI r), .int (jI k), u3] [] (W5 S T D)) : ∀ (m : Nat) (l acc : Int), l + m = k → 0 ≤ l → (0 ≤ acc ∧ acc + m < 1000) → lpF (md_crg (T 37) k) m l acc = r → Ev E yX11_crossed cX11_crossed 4 (some .int) (mx_km E 4 0 0 R) 0 0 12 [.ref 36, .int (jI acc), .int (jI k), .int (jI l)] [] (W5 S T D) := by
  intro m
  induction m with
  | zero =>
    intro l acc hl hl0 hacc hres
    refine L_i3 dX11_crossed_12 ?_
    refine L_i2 dX11_crossed_13 ?_
    refine J_icmp_ge 57 dX11_crossed_14 rfl (by omega) (by omega) (fun c14 => ?_) (fun c14 => ?_)
    · have e : acc = r := hres
      subst e
      exact kk _
    · exfalso; omega
  | succ m ih =>
    intro l acc hl hl0 hacc hres
    have hin := md_in_B (T 37) k l
    refine L_i3 dX11_crossed_12 ?_
    refine L_i2 dX11_crossed_13 ?_
    refine J_icmp_ge 57 dX11_crossed_14 rfl (by omega) (by omega) (fun c14 => ?_) (fun c14 => ?_)
    · exfalso; omega
    · refine L_i1 dX11_crossed_17 ?_
      refine L_a0 dX11_crossed_18 ?_
      refine L_i2 dX11_crossed_19 ?_
      refine C_v1F vX11_91 dX11_crossed_20 (qX11_standsV hv (by omega)) rfl rfl (Nat.le_of_ble_eq_true rfl) (by decide) ?_
      refine J_ifeqB 48 dX11_crossed_23 rfl (fun c23 => ?_) (fun c23 => ?_)
      · refine J_iconst dX11_crossed_48 ?_
        refine J_iadd dX11_crossed_49 ?_
        refine S_i1 dX11_crossed_50 (by decide) rfl ?_
        refine JI_3 dX11_crossed_51 (by decide) rfl ?_
        refine E_goto 12 dX11_crossed_54 rfl ?_
        first
          | (rw [lpF, show md_crg (T 37) k l acc = acc + 1 from by unfold md_crg; rw [jb_t ⟨c23, c31, c41⟩]] at hres; exact ih (l + 1) _ (by omega) (by omega) (by omega) hres)
          | (rw [lpF, show md_crg (T 37) k l acc = acc + 0 from by unfold md_crg; rw [jb_f (fun h => c23 h.1)]] at hres; exact ih (l + 1) _ (by omega) (by omega) (by omega) hres)
          | (rw [lpF, show md_crg (T 37) k l acc = acc + 0 from by unfold md_crg; rw [jb_f (fun h => c31 h.2.1)]] at hres; exact ih (l + 1) _ (by omega) (by omega) (by omega) hres)
          | (rw [lpF, show md_crg (T 37) k l acc = acc + 0 from by unfold md_crg; rw [jb_f (fun h => c41 h.2.2)]] at hres; exact ih (l + 1) _ (by omega) (by omega) (by omega) hres)
      · refine L_a0 dX11_crossed_26 ?_
        refine L_i3 dX11_crossed_27 ?_
        refine C_v1F vX11_91 dX11_crossed_28 (qX11_standsV hv (by omega)) rfl rfl (Nat.le_of_ble_eq_true rfl) (by decide) ?_
        refine J_ifeqB 48 dX11_crossed_31 rfl (fun c31 => ?_) (fun c31 => ?_)
        · refine J_iconst dX11_crossed_48 ?_
          refine J_iadd dX11_crossed_49 ?_
          refine S_i1 dX11_crossed_50 (by decide) rfl ?_
          refine JI_3 dX11_crossed_51 (by decide) rfl ?_
          refine E_goto 12 dX11_crossed_54 rfl ?_
          first
            | (rw [lpF, show md_crg (T 37) k l acc = acc + 1 from by unfold md_crg; rw [jb_t ⟨c23, c31, c41⟩]] at hres; exact ih (l + 1) _ (by omega) (by omega) (by omega) hres)
            | (rw [lpF, show md_crg (T 37) k l acc = acc + 0 from by unfold md_crg; rw [jb_f (fun h => c23 h.1)]] at hres; exact ih (l + 1) _ (by omega) (by omega) (by omega) hres)
            | (rw [lpF, show md_crg (T 37) k l acc = acc + 0 from by unfold md_crg; rw [jb_f (fun h => c31 h.2.1)]] at hres; exact ih (l + 1) _ (by omega) (by omega) (by omega) hres)
            | (rw [lpF, show md_crg (T 37) k l acc = acc + 0 from by unfold md_crg; rw [jb_f (fun h => c41 h.2.2)]] at hres; exact ih (l + 1) _ (by omega) (by omega) (by omega) hres)
        · refine L_a0 dX11_crossed_34 ?_
          refine L_i2 dX11_crossed_35 ?_
          refine L_i3 dX11_crossed_36 ?_
          refine C_v2F vX11_392 dX11_crossed_37 (qX11_inside hv (by omega) (by omega)) rfl rfl (Nat.le_of_ble_eq_true rfl) (by decide) ?_
          refine J_iconst dX11_crossed_40 ?_
          refine J_icmp_ne 48 dX11_crossed_41 rfl (by omega) (by omega) (fun c41 => ?_) (fun c41 => ?_)
          · refine J_iconst dX11_crossed_48 ?_
            refine J_iadd dX11_crossed_49 ?_
            refine S_i1 dX11_crossed_50 (by decide) rfl ?_
            refine JI_3 dX11_crossed_51 (by decide) rfl ?_
            refine E_goto 12 dX11_crossed_54 rfl ?_
            first
              | (rw [lpF, show md_crg (T 37) k l acc = acc + 1 from by unfold md_crg; rw [jb_t ⟨c23, c31, c41⟩]] at hres; exact ih (l + 1) _ (by omega) (by omega) (by omega) hres)
              | (rw [lpF, show md_crg (T 37) k l acc = acc + 0 from by unfold md_crg; rw [jb_f (fun h => c23 h.1)]] at hres; exact ih (l + 1) _ (by omega) (by omega) (by omega) hres)
              | (rw [lpF, show md_crg (T 37) k l acc = acc + 0 from by unfold md_crg; rw [jb_f (fun h => c31 h.2.1)]] at hres; exact ih (l + 1) _ (by omega) (by omega) (by omega) hres)
              | (rw [lpF, show md_crg (T 37) k l acc = acc + 0 from by unfold md_crg; rw [jb_f (fun h => c41 h.2.2)]] at hres; exact ih (l + 1) _ (by omega) (by omega) (by omega) hres)
          · refine J_iconst dX11_crossed_44 ?_
            refine E_goto 49 dX11_crossed_45 rfl ?_
            refine J_iadd dX11_crossed_49 ?_
            refine S_i1 dX11_crossed_50 (by decide) rfl ?_
            refine JI_3 dX11_crossed_51 (by decide) rfl ?_
            refine E_goto 12 dX11_crossed_54 rfl ?_
            first
              | (rw [lpF, show md_crg (T 37) k l acc = acc + 1 from by unfold md_crg; rw [jb_t ⟨c23, c31, c41⟩]] at hres; exact ih (l + 1) _ (by omega) (by omega) (by omega) hres)
              | (rw [lpF, show md_crg (T 37) k l acc = acc + 0 from by unfold md_crg; rw [jb_f (fun h => c23 h.1)]] at hres; exact ih (l + 1) _ (by omega) (by omega) (by omega) hres)
              | (rw [lpF, show md_crg (T 37) k l acc = acc + 0 from by unfold md_crg; rw [jb_f (fun h => c31 h.2.1)]] at hres; exact ih (l + 1) _ (by omega) (by omega) (by omega) hres)
              | (rw [lpF, show md_crg (T 37) k l acc = acc + 0 from by unfold md_crg; rw [jb_f (fun h => c41 h.2.2)]] at hres; exact ih (l + 1) _ (by omega) (by omega) (by omega) hres)

set_option maxRecDepth 100000 in
theorem lX11_crossed1 {E : mx_E} {S T : Nat → Int → Int} {D : List mx_C} (hv : MV (T 37)) : ∀ (m : Nat) (k acc : Int) (u3 : Value), k + m = 8 → 0 ≤ k → (0 ≤ acc ∧ acc ≤ 8 * k) → Ev E yX11_crossed cX11_crossed 4 (some .int) (kf E 4 (.int (jI (lpF (fun k acc => lpF (md_crg (T 37) k) k.toNat 0 acc) m k acc))) (W5 S T D)) 0 0 4 [.ref 36, .int (jI acc), .int (jI k), u3] [] (W5 S T D) := by
  intro m
  induction m with
  | zero =>
    intro k acc u3 hk hk0 hacc
    refine L_i2 dX11_crossed_4 ?_
    refine J_bipush dX11_crossed_5 (by decide) ?_
    refine J_icmp_ge 63 dX11_crossed_7 rfl (by omega) (by omega) (fun c7 => ?_) (fun c7 => ?_)
    · refine L_i1 dX11_crossed_63 ?_
      exact R_i rfl dX11_crossed_64 rfl rfl
    · exfalso; omega
  | succ m ih =>
    intro k acc u3 hk hk0 hacc
    refine L_i2 dX11_crossed_4 ?_
    refine J_bipush dX11_crossed_5 (by decide) ?_
    refine J_icmp_ge 63 dX11_crossed_7 rfl (by omega) (by omega) (fun c7 => ?_) (fun c7 => ?_)
    · exfalso; omega
    · refine J_iconst dX11_crossed_10 ?_
      refine S_i3 dX11_crossed_11 (by decide) rfl ?_
      have hb := lpF_acc (g := md_crg (T 37) k) (md_crg_B (T 37) k) k.toNat 0 acc
      refine lX11_crossed2 hv (k := k) (r := lpF (md_crg (T 37) k) k.toNat 0 acc) (by omega) (by omega) (fun u3 => ?_) k.toNat 0 acc (by omega) (by omega) (by omega) rfl
      refine JI_2 dX11_crossed_57 (by decide) rfl ?_
      refine E_goto 4 dX11_crossed_60 rfl ?_
      rw [lpF]
      exact ih (k + 1) _ _ (by omega) (by omega) (by omega)

set_option maxRecDepth 100000 in
theorem qX11_crossed {S T : Nat → Int → Int} {D : List mx_C} (hv : MV (T 37)) : SpF yX11_crossed cX11_crossed 4 (some .int) 4 [.ref 36] (W5 S T D) (.int (jI (md_crossed (T 37)))) (W5 S T D) := by
  refine Sp.of [.ref 36, .retAddr 0, .retAddr 0, .retAddr 0] (by decide) (by simp) (Nat.le_of_ble_eq_true rfl) rfl (fun E => ?_)
  refine J_iconst dX11_crossed_0 ?_
  refine S_i1 dX11_crossed_1 (by decide) rfl ?_
  refine J_iconst dX11_crossed_2 ?_
  refine S_i2 dX11_crossed_3 (by decide) rfl ?_
  exact lX11_crossed1 hv 8 0 0 _ (by omega) (by omega) (by omega)

set_option maxRecDepth 100000 in
theorem lX11_nested2 {E : mx_E} {S T : Nat → Int → Int} {D : List mx_C} (hv : MV (T 37)) {R : Option Value → List mx_C → Prop} {k r : Int} (h_k : 0 ≤ k ∧ k ≤ 7) (hr : 0 ≤ r ∧ r < 1000) (kk : ∀ u3, Ev E yX11_nested cX11_nested 4 (some .int) (mx_km E 4 0 0 R) 0 0 63 [.ref 36, .int (jI r), .int (jI k), u3] [] (W5 S T D)) : ∀ (m : Nat) (l acc : Int), l + m = 8 → 0 ≤ l → (0 ≤ acc ∧ acc + m < 1000) → lpF (md_neg (T 37) k) m l acc = r → Ev E yX11_nested cX11_nested 4 (some .int) (mx_km E 4 0 0 R) 0 0 12 [.ref 36, .int (jI acc), .int (jI k), .int (jI l)] [] (W5 S T D) := by
  intro m
  induction m with
  | zero =>
    intro l acc hl hl0 hacc hres
    refine L_i3 dX11_nested_12 ?_
    refine J_bipush dX11_nested_13 (by decide) ?_
    refine J_icmp_ge 63 dX11_nested_15 rfl (by omega) (by omega) (fun c15 => ?_) (fun c15 => ?_)
    · have e : acc = r := hres
      subst e
      exact kk _
    · exfalso; omega
  | succ m ih =>
    intro l acc hl hl0 hacc hres
    have hin := md_in_B (T 37) k l
    refine L_i3 dX11_nested_12 ?_
    refine J_bipush dX11_nested_13 (by decide) ?_
    refine J_icmp_ge 63 dX11_nested_15 rfl (by omega) (by omega) (fun c15 => ?_) (fun c15 => ?_)
    · exfalso; omega
    · refine L_i1 dX11_nested_18 ?_
      refine L_i2 dX11_nested_19 ?_
      refine L_i3 dX11_nested_20 ?_
      refine J_icmp_eq 54 dX11_nested_21 rfl (by omega) (by omega) (fun c21 => ?_) (fun c21 => ?_)
      · refine J_iconst dX11_nested_54 ?_
        refine J_iadd dX11_nested_55 ?_
        refine S_i1 dX11_nested_56 (by decide) rfl ?_
        refine JI_3 dX11_nested_57 (by decide) rfl ?_
        refine E_goto 12 dX11_nested_60 rfl ?_
        first
          | (rw [lpF, show md_neg (T 37) k l acc = acc + 1 from by unfold md_neg; rw [jb_t ⟨c21, c29, c37, c47⟩]] at hres; exact ih (l + 1) _ (by omega) (by omega) (by omega) hres)
          | (rw [lpF, show md_neg (T 37) k l acc = acc + 0 from by unfold md_neg; rw [jb_f (fun h => c29 h.2.1)]] at hres; exact ih (l + 1) _ (by omega) (by omega) (by omega) hres)
          | (rw [lpF, show md_neg (T 37) k l acc = acc + 0 from by unfold md_neg; rw [jb_f (fun h => c37 h.2.2.1)]] at hres; exact ih (l + 1) _ (by omega) (by omega) (by omega) hres)
          | (rw [lpF, show md_neg (T 37) k l acc = acc + 0 from by unfold md_neg; rw [jb_f (fun h => c47 h.2.2.2)]] at hres; exact ih (l + 1) _ (by omega) (by omega) (by omega) hres)
          | (rw [lpF, show md_neg (T 37) k l acc = acc + 0 from by unfold md_neg; rw [jb_f (fun h => h.1 c21)]] at hres; exact ih (l + 1) _ (by omega) (by omega) (by omega) hres)
      · refine L_a0 dX11_nested_24 ?_
        refine L_i2 dX11_nested_25 ?_
        refine C_v1F vX11_91 dX11_nested_26 (qX11_standsV hv (by omega)) rfl rfl (Nat.le_of_ble_eq_true rfl) (by decide) ?_
        refine J_ifeqB 54 dX11_nested_29 rfl (fun c29 => ?_) (fun c29 => ?_)
        · refine J_iconst dX11_nested_54 ?_
          refine J_iadd dX11_nested_55 ?_
          refine S_i1 dX11_nested_56 (by decide) rfl ?_
          refine JI_3 dX11_nested_57 (by decide) rfl ?_
          refine E_goto 12 dX11_nested_60 rfl ?_
          first
            | (rw [lpF, show md_neg (T 37) k l acc = acc + 1 from by unfold md_neg; rw [jb_t ⟨c21, c29, c37, c47⟩]] at hres; exact ih (l + 1) _ (by omega) (by omega) (by omega) hres)
            | (rw [lpF, show md_neg (T 37) k l acc = acc + 0 from by unfold md_neg; rw [jb_f (fun h => c29 h.2.1)]] at hres; exact ih (l + 1) _ (by omega) (by omega) (by omega) hres)
            | (rw [lpF, show md_neg (T 37) k l acc = acc + 0 from by unfold md_neg; rw [jb_f (fun h => c37 h.2.2.1)]] at hres; exact ih (l + 1) _ (by omega) (by omega) (by omega) hres)
            | (rw [lpF, show md_neg (T 37) k l acc = acc + 0 from by unfold md_neg; rw [jb_f (fun h => c47 h.2.2.2)]] at hres; exact ih (l + 1) _ (by omega) (by omega) (by omega) hres)
            | (rw [lpF, show md_neg (T 37) k l acc = acc + 0 from by unfold md_neg; rw [jb_f (fun h => h.1 c21)]] at hres; exact ih (l + 1) _ (by omega) (by omega) (by omega) hres)
        · refine L_a0 dX11_nested_32 ?_
          refine L_i3 dX11_nested_33 ?_
          refine C_v1F vX11_91 dX11_nested_34 (qX11_standsV hv (by omega)) rfl rfl (Nat.le_of_ble_eq_true rfl) (by decide) ?_
          refine J_ifeqB 54 dX11_nested_37 rfl (fun c37 => ?_) (fun c37 => ?_)
          · refine J_iconst dX11_nested_54 ?_
            refine J_iadd dX11_nested_55 ?_
            refine S_i1 dX11_nested_56 (by decide) rfl ?_
            refine JI_3 dX11_nested_57 (by decide) rfl ?_
            refine E_goto 12 dX11_nested_60 rfl ?_
            first
              | (rw [lpF, show md_neg (T 37) k l acc = acc + 1 from by unfold md_neg; rw [jb_t ⟨c21, c29, c37, c47⟩]] at hres; exact ih (l + 1) _ (by omega) (by omega) (by omega) hres)
              | (rw [lpF, show md_neg (T 37) k l acc = acc + 0 from by unfold md_neg; rw [jb_f (fun h => c29 h.2.1)]] at hres; exact ih (l + 1) _ (by omega) (by omega) (by omega) hres)
              | (rw [lpF, show md_neg (T 37) k l acc = acc + 0 from by unfold md_neg; rw [jb_f (fun h => c37 h.2.2.1)]] at hres; exact ih (l + 1) _ (by omega) (by omega) (by omega) hres)
              | (rw [lpF, show md_neg (T 37) k l acc = acc + 0 from by unfold md_neg; rw [jb_f (fun h => c47 h.2.2.2)]] at hres; exact ih (l + 1) _ (by omega) (by omega) (by omega) hres)
              | (rw [lpF, show md_neg (T 37) k l acc = acc + 0 from by unfold md_neg; rw [jb_f (fun h => h.1 c21)]] at hres; exact ih (l + 1) _ (by omega) (by omega) (by omega) hres)
          · refine L_a0 dX11_nested_40 ?_
            refine L_i2 dX11_nested_41 ?_
            refine L_i3 dX11_nested_42 ?_
            refine C_v2F vX11_392 dX11_nested_43 (qX11_inside hv (by omega) (by omega)) rfl rfl (Nat.le_of_ble_eq_true rfl) (by decide) ?_
            refine J_iconst dX11_nested_46 ?_
            refine J_icmp_ne 54 dX11_nested_47 rfl (by omega) (by omega) (fun c47 => ?_) (fun c47 => ?_)
            · refine J_iconst dX11_nested_54 ?_
              refine J_iadd dX11_nested_55 ?_
              refine S_i1 dX11_nested_56 (by decide) rfl ?_
              refine JI_3 dX11_nested_57 (by decide) rfl ?_
              refine E_goto 12 dX11_nested_60 rfl ?_
              first
                | (rw [lpF, show md_neg (T 37) k l acc = acc + 1 from by unfold md_neg; rw [jb_t ⟨c21, c29, c37, c47⟩]] at hres; exact ih (l + 1) _ (by omega) (by omega) (by omega) hres)
                | (rw [lpF, show md_neg (T 37) k l acc = acc + 0 from by unfold md_neg; rw [jb_f (fun h => c29 h.2.1)]] at hres; exact ih (l + 1) _ (by omega) (by omega) (by omega) hres)
                | (rw [lpF, show md_neg (T 37) k l acc = acc + 0 from by unfold md_neg; rw [jb_f (fun h => c37 h.2.2.1)]] at hres; exact ih (l + 1) _ (by omega) (by omega) (by omega) hres)
                | (rw [lpF, show md_neg (T 37) k l acc = acc + 0 from by unfold md_neg; rw [jb_f (fun h => c47 h.2.2.2)]] at hres; exact ih (l + 1) _ (by omega) (by omega) (by omega) hres)
                | (rw [lpF, show md_neg (T 37) k l acc = acc + 0 from by unfold md_neg; rw [jb_f (fun h => h.1 c21)]] at hres; exact ih (l + 1) _ (by omega) (by omega) (by omega) hres)
            · refine J_iconst dX11_nested_50 ?_
              refine E_goto 55 dX11_nested_51 rfl ?_
              refine J_iadd dX11_nested_55 ?_
              refine S_i1 dX11_nested_56 (by decide) rfl ?_
              refine JI_3 dX11_nested_57 (by decide) rfl ?_
              refine E_goto 12 dX11_nested_60 rfl ?_
              first
                | (rw [lpF, show md_neg (T 37) k l acc = acc + 1 from by unfold md_neg; rw [jb_t ⟨c21, c29, c37, c47⟩]] at hres; exact ih (l + 1) _ (by omega) (by omega) (by omega) hres)
                | (rw [lpF, show md_neg (T 37) k l acc = acc + 0 from by unfold md_neg; rw [jb_f (fun h => c29 h.2.1)]] at hres; exact ih (l + 1) _ (by omega) (by omega) (by omega) hres)
                | (rw [lpF, show md_neg (T 37) k l acc = acc + 0 from by unfold md_neg; rw [jb_f (fun h => c37 h.2.2.1)]] at hres; exact ih (l + 1) _ (by omega) (by omega) (by omega) hres)
                | (rw [lpF, show md_neg (T 37) k l acc = acc + 0 from by unfold md_neg; rw [jb_f (fun h => c47 h.2.2.2)]] at hres; exact ih (l + 1) _ (by omega) (by omega) (by omega) hres)
                | (rw [lpF, show md_neg (T 37) k l acc = acc + 0 from by unfold md_neg; rw [jb_f (fun h => h.1 c21)]] at hres; exact ih (l + 1) _ (by omega) (by omega) (by omega) hres)

set_option maxRecDepth 100000 in
theorem lX11_nested1 {E : mx_E} {S T : Nat → Int → Int} {D : List mx_C} (hv : MV (T 37)) : ∀ (m : Nat) (k acc : Int) (u3 : Value), k + m = 8 → 0 ≤ k → (0 ≤ acc ∧ acc ≤ 8 * k) → Ev E yX11_nested cX11_nested 4 (some .int) (kf E 4 (.int (jI (lpF (fun k acc => lpF (md_neg (T 37) k) 8 0 acc) m k acc))) (W5 S T D)) 0 0 4 [.ref 36, .int (jI acc), .int (jI k), u3] [] (W5 S T D) := by
  intro m
  induction m with
  | zero =>
    intro k acc u3 hk hk0 hacc
    refine L_i2 dX11_nested_4 ?_
    refine J_bipush dX11_nested_5 (by decide) ?_
    refine J_icmp_ge 69 dX11_nested_7 rfl (by omega) (by omega) (fun c7 => ?_) (fun c7 => ?_)
    · refine L_i1 dX11_nested_69 ?_
      exact R_i rfl dX11_nested_70 rfl rfl
    · exfalso; omega
  | succ m ih =>
    intro k acc u3 hk hk0 hacc
    refine L_i2 dX11_nested_4 ?_
    refine J_bipush dX11_nested_5 (by decide) ?_
    refine J_icmp_ge 69 dX11_nested_7 rfl (by omega) (by omega) (fun c7 => ?_) (fun c7 => ?_)
    · exfalso; omega
    · refine J_iconst dX11_nested_10 ?_
      refine S_i3 dX11_nested_11 (by decide) rfl ?_
      have hb := lpF_acc (g := md_neg (T 37) k) (md_neg_B (T 37) k) 8 0 acc
      refine lX11_nested2 hv (k := k) (r := lpF (md_neg (T 37) k) 8 0 acc) (by omega) (by omega) (fun u3 => ?_) 8 0 acc (by omega) (by omega) (by omega) rfl
      refine JI_2 dX11_nested_63 (by decide) rfl ?_
      refine E_goto 4 dX11_nested_66 rfl ?_
      rw [lpF]
      exact ih (k + 1) _ _ (by omega) (by omega) (by omega)

set_option maxRecDepth 100000 in
theorem qX11_nested {S T : Nat → Int → Int} {D : List mx_C} (hv : MV (T 37)) : SpF yX11_nested cX11_nested 4 (some .int) 4 [.ref 36] (W5 S T D) (.int (jI (md_nested (T 37)))) (W5 S T D) := by
  refine Sp.of [.ref 36, .retAddr 0, .retAddr 0, .retAddr 0] (by decide) (by simp) (Nat.le_of_ble_eq_true rfl) rfl (fun E => ?_)
  refine J_iconst dX11_nested_0 ?_
  refine S_i1 dX11_nested_1 (by decide) rfl ?_
  refine J_iconst dX11_nested_2 ?_
  refine S_i2 dX11_nested_3 (by decide) rfl ?_
  exact lX11_nested1 hv 8 0 0 _ (by omega) (by omega) (by omega)

