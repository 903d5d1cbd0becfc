/-! ===== the reference: the row ===== -/
def MV (a : Int → Int) : Prop := Bd a ∧ (0 ≤ a 0 ∧ a 0 ≤ 4) ∧ (-1 ≤ a 1 ∧ a 1 < a 0) ∧ (0 ≤ a 2 ∧ a 2 ≤ 30) ∧ (0 ≤ a 3 ∧ a 3 ≤ 8) ∧ (0 ≤ a 4 ∧ a 4 ≤ 9999) ∧ (0 ≤ a 5 ∧ a 5 < 31019) ∧ (0 ≤ a 6 ∧ a 6 ≤ 25) ∧ (1 ≤ a 7 ∧ a 7 ≤ 16) ∧ ∀ k, 0 ≤ k ∧ k ≤ 7 → (-1 ≤ a (8 + k) ∧ a (8 + k) ≤ 15) ∧ (-1 ≤ a (16 + k) ∧ a (16 + k) ≤ 15) ∧ (0 ≤ a (8 + k) → a (8 + k) < a (16 + k) ∧ a (16 + k) < a 7) ∧ (0 ≤ a (24 + k) ∧ a (24 + k) ≤ 99)
theorem MV.at {a : Int → Int} (h : MV a) {k : Int} (hk : 0 ≤ k ∧ k ≤ 7) : (-1 ≤ a (8 + k) ∧ a (8 + k) ≤ 15) ∧ (-1 ≤ a (16 + k) ∧ a (16 + k) ≤ 15) ∧ (0 ≤ a (8 + k) → a (8 + k) < a (16 + k) ∧ a (16 + k) < a 7) ∧ (0 ≤ a (24 + k) ∧ a (24 + k) ≤ 99) := h.2.2.2.2.2.2.2.2.2 k hk
set_option maxRecDepth 100000 in
theorem qX11_standsV {S T : Nat → Int → Int} {D : List mx_C} (hv : MV (T 37)) {k : Int} (h_k : -2147483648 ≤ k ∧ k < 2147483648) : SpF yX11_stands cX11_stands 2 (some .boolean) 2 [.ref 36, .int (jI k)] (W5 S T D) (.int (jI (jb (md_stands (T 37) k)))) (W5 S T D) := by
  refine Sp.of [.ref 36, .int (jI k)] (by decide) (by simp) (Nat.le_of_ble_eq_true rfl) rfl (fun E => ?_)
  refine L_i1 dX11_stands_0 ?_
  refine C_s1F vX11_87 dX11_stands_1 (qX11_isNumber (by omega)) (Nat.le_of_ble_eq_true rfl) (by decide) ?_
  refine J_ifeqB 24 dX11_stands_4 rfl (fun c4 => ?_) (fun c4 => ?_)
  · refine J_iconst dX11_stands_24 ?_
    exact R_z rfl dX11_stands_25 (by decide) rfl (by first | exact (jb_t (by omega)).symm | exact (jb_f (by omega)).symm)
  · refine L_a0 dX11_stands_7 ?_
    refine GW_36_0 fX11_7 dX11_stands_8 ?_
    refine J_bipush dX11_stands_11 (by decide) ?_
    refine L_i1 dX11_stands_13 ?_
    refine J_iadd dX11_stands_14 ?_
    refine AB_37 dX11_stands_15 (by omega) hv.1 (fun b15 => ?_)
    refine J_iconst dX11_stands_16 ?_
    refine J_icmp_eq 24 dX11_stands_17 rfl (by omega) (by omega) (fun c17 => ?_) (fun c17 => ?_)
    · refine J_iconst dX11_stands_24 ?_
      exact R_z rfl dX11_stands_25 (by decide) rfl (by first | exact (jb_t (by omega)).symm | exact (jb_f (by omega)).symm)
    · refine J_iconst dX11_stands_20 ?_
      refine E_goto 25 dX11_stands_21 rfl ?_
      exact R_z rfl dX11_stands_25 (by decide) rfl (by first | exact (jb_t (by omega)).symm | exact (jb_f (by omega)).symm)

set_option maxRecDepth 100000 in
theorem lX11_standingV {S T : Nat → Int → Int} {D : List mx_C} (hv : MV (T 37)) {E : mx_E} : ∀ (m : Nat) (k acc : Int), k + m = 8 → 0 ≤ k → (0 ≤ acc ∧ acc < 256) → Ev E yX11_standing cX11_standing 3 (some .int) (kf E 3 (.int (jI (lpF (md_stg (T 37)) m k acc))) (W5 S T D)) 0 0 4 [.ref 36, .int (jI acc), .int (jI k)] [] (W5 S T D) := by
  intro m
  induction m with
  | zero =>
    intro k acc hk hk1 hacc
    refine L_i2 dX11_standing_4 ?_
    refine J_bipush dX11_standing_5 (by decide) ?_
    refine J_icmp_ge 34 dX11_standing_7 rfl (by omega) (by omega) (fun c7 => ?_) (fun c7 => ?_)
    · refine L_i1 dX11_standing_34 ?_
      exact R_i rfl dX11_standing_35 rfl rfl
    · exfalso; omega
  | succ m ih =>
    intro k acc hk hk1 hacc
    refine L_i2 dX11_standing_4 ?_
    refine J_bipush dX11_standing_5 (by decide) ?_
    refine J_icmp_ge 34 dX11_standing_7 rfl (by omega) (by omega) (fun c7 => ?_) (fun c7 => ?_)
    · exfalso; omega
    · refine L_i1 dX11_standing_10 ?_
      refine L_a0 dX11_standing_11 ?_
      refine L_i2 dX11_standing_12 ?_
      refine C_v1F vX11_91 dX11_standing_13 (qX11_standsV hv (by omega)) rfl rfl (Nat.le_of_ble_eq_true rfl) (by decide) ?_
      refine J_ifeqB 25 dX11_standing_16 rfl (fun c16 => ?_) (fun c16 => ?_)
      · refine J_iconst dX11_standing_25 ?_
        refine J_iorG dX11_standing_26 (by omega) (by first | exact bsh_nn _ | decide) ?_
        refine S_i1 dX11_standing_27 (by decide) rfl ?_
        refine JI_2 dX11_standing_28 (by decide) rfl ?_
        refine E_goto 4 dX11_standing_31 rfl ?_
        first
          | (rw [lpF, show md_stg (T 37) k acc = bor acc (bsh k) from by unfold md_stg; rw [if_pos c16]]; exact ih (k + 1) _ (by omega) (by omega) ⟨bor_nn _ _, bor_lt 8 (by omega) (bsh_lt 8 (by omega) (by decide))⟩)
          | (rw [lpF, show md_stg (T 37) k acc = bor acc 0 from by unfold md_stg; rw [if_neg c16]]; exact ih (k + 1) _ (by omega) (by omega) ⟨bor_nn _ _, bor_lt 8 (by omega) (by decide)⟩)
      · refine J_iconst dX11_standing_19 ?_
        refine L_i2 dX11_standing_20 ?_
        refine J_1shl dX11_standing_21 (by omega) ?_
        refine E_goto 26 dX11_standing_22 rfl ?_
        refine J_iorG dX11_standing_26 (by omega) (by first | exact bsh_nn _ | decide) ?_
        refine S_i1 dX11_standing_27 (by decide) rfl ?_
        refine JI_2 dX11_standing_28 (by decide) rfl ?_
        refine E_goto 4 dX11_standing_31 rfl ?_
        first
          | (rw [lpF, show md_stg (T 37) k acc = bor acc (bsh k) from by unfold md_stg; rw [if_pos c16]]; exact ih (k + 1) _ (by omega) (by omega) ⟨bor_nn _ _, bor_lt 8 (by omega) (bsh_lt 8 (by omega) (by decide))⟩)
          | (rw [lpF, show md_stg (T 37) k acc = bor acc 0 from by unfold md_stg; rw [if_neg c16]]; exact ih (k + 1) _ (by omega) (by omega) ⟨bor_nn _ _, bor_lt 8 (by omega) (by decide)⟩)

set_option maxRecDepth 100000 in
theorem qX11_standingV {S T : Nat → Int → Int} {D : List mx_C} (hv : MV (T 37)) : SpF yX11_standing cX11_standing 3 (some .int) 3 [.ref 36] (W5 S T D) (.int (jI (md_standing (T 37)))) (W5 S T D) := by
  refine Sp.of [.ref 36, .retAddr 0, .retAddr 0] (by decide) (by simp) (Nat.le_of_ble_eq_true rfl) rfl (fun E => ?_)
  refine J_iconst dX11_standing_0 ?_
  refine S_i1 dX11_standing_1 (by decide) rfl ?_
  refine J_iconst dX11_standing_2 ?_
  refine S_i2 dX11_standing_3 (by decide) rfl ?_
  exact lX11_standingV hv 8 0 0 (by omega) (by omega) (by omega)

theorem lpF_B {g : Int → Int → Int} {b : Int} {lo hi : Int} (hg : ∀ k acc, lo ≤ k ∧ k < hi → (0 ≤ acc ∧ acc < b) → (0 ≤ g k acc ∧ g k acc < b)) : ∀ (m : Nat) (k acc : Int), lo ≤ k → k + m = hi → (0 ≤ acc ∧ acc < b) → (0 ≤ lpF g m k acc ∧ lpF g m k acc < b) := by
  intro m
  induction m with
  | zero => intro k acc _ _ h; exact h
  | succ m ih =>
    intro k acc h1 h2 h
    rw [lpF]
    exact ih (k + 1) _ (by omega) (by omega) (hg k acc (by omega) h)
theorem md_standing_B (a : Int → Int) : 0 ≤ md_standing a ∧ md_standing a < 256 := lpF_B (lo := 0) (hi := 8) (fun k acc hk h => md_stg_B (by omega) h) 8 0 0 (by omega) (by omega) (by omega)
def md_pl (a : Int → Int) (k : Int) : Int := bor (bsh (a (8 + k))) (bsh (a (16 + k)))
theorem md_pl_B {a : Int → Int} (hv : MV a) {k : Int} (hk : 0 ≤ k ∧ k ≤ 7) : 0 ≤ md_pl a k ∧ md_pl a k < 65536 := by
  have h := hv.at hk
  exact ⟨bor_nn _ _, bor_lt 16 (bsh_lt 16 (by omega) (by decide)) (bsh_lt 16 (by omega) (by decide))⟩
set_option maxRecDepth 100000 in
theorem qX11_placesOf {S T : Nat → Int → Int} {D : List mx_C} (hv : MV (T 37)) {k : Int} (h_k : 0 ≤ k ∧ k ≤ 7) (h_s : 0 ≤ T 37 (8 + k)) : SpF yX11_placesOf cX11_placesOf 2 (some .int) 0 [.ref 36, .int (jI k)] (W5 S T D) (.int (jI (md_pl (T 37) k))) (W5 S T D) := by
  have ha := hv.at h_k
  refine Sp.of [.ref 36, .int (jI k)] (by decide) (by simp) (Nat.le_of_ble_eq_true rfl) rfl (fun E => ?_)
  refine J_iconst dX11_placesOf_0 ?_
  refine L_a0 dX11_placesOf_1 ?_
  refine GW_36_0 fX11_7 dX11_placesOf_2 ?_
  refine J_bipush dX11_placesOf_5 (by decide) ?_
  refine L_i1 dX11_placesOf_7 ?_
  refine J_iadd dX11_placesOf_8 ?_
  refine AB_37 dX11_placesOf_9 (by omega) hv.1 (fun b9 => ?_)
  refine J_1shl dX11_placesOf_10 (by omega) ?_
  refine J_iconst dX11_placesOf_11 ?_
  refine L_a0 dX11_placesOf_12 ?_
  refine GW_36_0 fX11_7 dX11_placesOf_13 ?_
  refine J_bipush dX11_placesOf_16 (by decide) ?_
  refine L_i1 dX11_placesOf_18 ?_
  refine J_iadd dX11_placesOf_19 ?_
  refine AB_37 dX11_placesOf_20 (by omega) hv.1 (fun b20 => ?_)
  refine J_1shl dX11_placesOf_21 (by omega) ?_
  refine J_iorG dX11_placesOf_22 (bsh_nn _) (bsh_nn _) ?_
  exact R_i rfl dX11_placesOf_23 rfl rfl

def md_tkg (a : Int → Int) (k acc : Int) : Int := bor acc (if md_stands a k then md_pl a k else 0)
def md_taken (a : Int → Int) : Int := lpF (md_tkg a) 8 0 0
theorem md_tkg_B {a : Int → Int} (hv : MV a) {k acc : Int} (hk : 0 ≤ k ∧ k ≤ 7) (h : 0 ≤ acc ∧ acc < 65536) : 0 ≤ md_tkg a k acc ∧ md_tkg a k acc < 65536 := by
  unfold md_tkg
  refine ⟨bor_nn _ _, bor_lt 16 (by omega) ?_⟩
  split
  · exact (md_pl_B hv hk).2
  · decide
theorem md_taken_B {a : Int → Int} (hv : MV a) : 0 ≤ md_taken a ∧ md_taken a < 65536 := lpF_B (lo := 0) (hi := 8) (fun k acc hk h => md_tkg_B hv (by omega) h) 8 0 0 (by omega) (by omega) (by omega)
set_option maxRecDepth 100000 in
theorem lX11_taken {S T : Nat → Int → Int} {D : List mx_C} (hv : MV (T 37)) {E : mx_E} : ∀ (m : Nat) (k acc : Int), k + m = 8 → 0 ≤ k → (0 ≤ acc ∧ acc < 65536) → Ev E yX11_taken cX11_taken 3 (some .int) (kf E 3 (.int (jI (lpF (md_tkg (T 37)) m k acc))) (W5 S T D)) 0 0 4 [.ref 36, .int (jI acc), .int (jI k)] [] (W5 S T D) := by
  intro m
  induction m with
  | zero =>
    intro k acc hk hk1 hacc
    refine L_i2 dX11_taken_4 ?_
    refine J_bipush dX11_taken_5 (by decide) ?_
    refine J_icmp_ge 36 dX11_taken_7 rfl (by omega) (by omega) (fun c7 => ?_) (fun c7 => ?_)
    · refine L_i1 dX11_taken_36 ?_
      exact R_i rfl dX11_taken_37 rfl rfl
    · exfalso; omega
  | succ m ih =>
    intro k acc hk hk1 hacc
    have ha := hv.at (k := k) (by omega)
    refine L_i2 dX11_taken_4 ?_
    refine J_bipush dX11_taken_5 (by decide) ?_
    refine J_icmp_ge 36 dX11_taken_7 rfl (by omega) (by omega) (fun c7 => ?_) (fun c7 => ?_)
    · exfalso; omega
    · refine L_i1 dX11_taken_10 ?_
      refine L_a0 dX11_taken_11 ?_
      refine L_i2 dX11_taken_12 ?_
      refine C_v1F vX11_91 dX11_taken_13 (qX11_standsV hv (by omega)) rfl rfl (Nat.le_of_ble_eq_true rfl) (by decide) ?_
      refine J_ifeqB 27 dX11_taken_16 rfl (fun c16 => ?_) (fun c16 => ?_)
      · refine J_iconst dX11_taken_27 ?_
        refine J_iorG dX11_taken_28 (by omega) (by first | exact bor_nn _ _ | decide) ?_
        refine S_i1 dX11_taken_29 (by decide) rfl ?_
        refine JI_2 dX11_taken_30 (by decide) rfl ?_
        refine E_goto 4 dX11_taken_33 rfl ?_
        first
          | (rw [lpF, show md_tkg (T 37) k acc = bor acc (md_pl (T 37) k) from by unfold md_tkg; rw [if_pos c16]]; exact ih (k + 1) _ (by omega) (by omega) ⟨bor_nn _ _, bor_lt 16 (by omega) (md_pl_B hv (by omega)).2⟩)
          | (rw [lpF, show md_tkg (T 37) k acc = bor acc 0 from by unfold md_tkg; rw [if_neg c16]]; exact ih (k + 1) _ (by omega) (by omega) ⟨bor_nn _ _, bor_lt 16 (by omega) (by decide)⟩)
      · refine L_a0 dX11_taken_19 ?_
        refine L_i2 dX11_taken_20 ?_
        refine C_v1F vX11_94 dX11_taken_21 (qX11_placesOf hv (by omega) (by omega)) rfl rfl (Nat.le_of_ble_eq_true rfl) (by decide) ?_
        refine E_goto 28 dX11_taken_24 rfl ?_
        refine J_iorG dX11_taken_28 (by omega) (by first | exact bor_nn _ _ | decide) ?_
        refine S_i1 dX11_taken_29 (by decide) rfl ?_
        refine JI_2 dX11_taken_30 (by decide) rfl ?_
        refine E_goto 4 dX11_taken_33 rfl ?_
        first
          | (rw [lpF, show md_tkg (T 37) k acc = bor acc (md_pl (T 37) k) from by unfold md_tkg; rw [if_pos c16]]; exact ih (k + 1) _ (by omega) (by omega) ⟨bor_nn _ _, bor_lt 16 (by omega) (md_pl_B hv (by omega)).2⟩)
          | (rw [lpF, show md_tkg (T 37) k acc = bor acc 0 from by unfold md_tkg; rw [if_neg c16]]; exact ih (k + 1) _ (by omega) (by omega) ⟨bor_nn _ _, bor_lt 16 (by omega) (by decide)⟩)

set_option maxRecDepth 100000 in
theorem qX11_taken {S T : Nat → Int → Int} {D : List mx_C} (hv : MV (T 37)) : SpF yX11_taken cX11_taken 3 (some .int) 3 [.ref 36] (W5 S T D) (.int (jI (md_taken (T 37)))) (W5 S T D) := by
  refine Sp.of [.ref 36, .retAddr 0, .retAddr 0] (by decide) (by simp) (Nat.le_of_ble_eq_true rfl) rfl (fun E => ?_)
  refine J_iconst dX11_taken_0 ?_
  refine S_i1 dX11_taken_1 (by decide) rfl ?_
  refine J_iconst dX11_taken_2 ?_
  refine S_i2 dX11_taken_3 (by decide) rfl ?_
  exact lX11_taken hv 8 0 0 (by omega) (by omega) (by omega)

set_option maxRecDepth 100000 in
theorem qX11_everyPlace {S T : Nat → Int → Int} {D : List mx_C} (hv : MV (T 37)) : SpF yX11_everyPlace cX11_everyPlace 1 (some .int) 0 [.ref 36] (W5 S T D) (.int (jI (bsh (T 37 7) - 1))) (W5 S T D) := by
  have ha := hv.2
  refine Sp.of [.ref 36] (by decide) (by simp) (Nat.le_of_ble_eq_true rfl) rfl (fun E => ?_)
  refine J_iconst dX11_everyPlace_0 ?_
  refine L_a0 dX11_everyPlace_1 ?_
  refine GW_36_0 fX11_7 dX11_everyPlace_2 ?_
  refine J_bipush dX11_everyPlace_5 (by decide) ?_
  refine AB_37 dX11_everyPlace_7 (by omega) hv.1 (fun b7 => ?_)
  refine J_1shl dX11_everyPlace_8 (by omega) ?_
  refine J_iconst dX11_everyPlace_9 ?_
  refine J_isub dX11_everyPlace_10 ?_
  exact R_i rfl dX11_everyPlace_11 rfl rfl

def md_t1 (T : Nat → Int → Int) (x : Int) : Nat → Int → Int := upS (upS T 40 (up (T 40) (T 36 4) x)) 36 (up (T 36) 4 (T 36 4 + 1))
def md_four (v : Int) : Nat → (Nat → Int → Int) → Nat → Int → Int
  | 0, T => T
  | m + 1, T => md_four v m (md_t1 T (v / 2 ^ (8 * m) % 256))
set_option maxRecDepth 100000 in
theorem lX11_four {S : Nat → Int → Int} {D : List mx_C} {v : Int} (h_v : -2147483648 ≤ v ∧ v < 2147483648) {E : mx_E} : ∀ (m : Nat) (q : Int) (T : Nat → Int → Int), m ≤ 4 → q = 8 * m - 8 → 0 ≤ T 36 4 → T 36 4 + m ≤ 300 → Ev E yX11_four cX11_four 3 none (kv E 0 (W5 S (md_four v m T) D)) 0 0 3 [.ref 36, .int (jI v), .int (jI q)] [] (W5 S T D) := by
  intro m
  induction m with
  | zero =>
    intro q T hm hq h0 h1
    refine L_i2 dX11_four_3 ?_
    refine J_if_lt 39 dX11_four_4 rfl (by omega) (fun c4 => ?_) (fun c4 => ?_)
    · exact R_v rfl dX11_four_39 rfl
    · exfalso; omega
  | succ m ih =>
    intro q T hm hq h0 h1
    refine L_i2 dX11_four_3 ?_
    refine J_if_lt 39 dX11_four_4 rfl (by omega) (fun c4 => ?_) (fun c4 => ?_)
    · exfalso; omega
    · refine L_a0 dX11_four_7 ?_
      refine GW_36_3 fX11_19 dX11_four_8 ?_
      refine L_a0 dX11_four_11 ?_
      refine GW_36_4 fX11_98 dX11_four_12 ?_
      refine L_i1 dX11_four_15 ?_
      refine L_i2 dX11_four_16 ?_
      refine J_ishr dX11_four_17 (by omega) (by omega) ?_
      refine J_sipush dX11_four_18 (by decide) ?_
      refine J_imask 8 (by decide) (by decide) dX11_four_21 ?_
      refine AS_40 dX11_four_22 (by omega) ?_
      refine L_a0 dX11_four_23 ?_
      refine E_dup dX11_four_24 rfl ?_
      refine GW_36_4 fX11_98 dX11_four_25 ?_
      refine J_eqi (b := T 36 4) rfl ?_
      refine J_iconst dX11_four_28 ?_
      refine J_iadd dX11_four_29 ?_
      refine PW_36_4 fX11_98 dX11_four_30 ?_
      refine JI_2 dX11_four_33 (by decide) rfl ?_
      refine E_goto 3 dX11_four_36 rfl ?_
      rw [md_four]
      have e8 : q.toNat = 8 * m := by omega
      rw [e8]
      exact ih _ _ (by omega) (by omega) (by show 0 ≤ T 36 4 + 1; omega) (by show T 36 4 + 1 + m ≤ 300; omega)

set_option maxRecDepth 100000 in
theorem qX11_four {S T : Nat → Int → Int} {D : List mx_C} {v : Int} (h_v : -2147483648 ≤ v ∧ v < 2147483648) (h0 : 0 ≤ T 36 4) (h1 : T 36 4 + 4 ≤ 300) : SpV yX11_four cX11_four 3 none 0 [.ref 36, .int (jI v)] (W5 S T D) (W5 S (md_four v 4 T) D) := by
  refine Sp.of [.ref 36, .int (jI v), .retAddr 0] (by decide) (by simp) (Nat.le_of_ble_eq_true rfl) rfl (fun E => ?_)
  refine J_bipush dX11_four_0 (by decide) ?_
  refine S_i2 dX11_four_2 (by decide) rfl ?_
  exact lX11_four h_v 4 24 T (by omega) (by omega) h0 (by omega)

theorem md_four_sz (v : Int) : ∀ (m : Nat) (T : Nat → Int → Int), md_four v m T 36 4 = T 36 4 + m := by
  intro m
  induction m with
  | zero => intro T; show T 36 4 = T 36 4 + 0; omega
  | succ m ih => intro T; rw [md_four, ih]; show T 36 4 + 1 + (m : Int) = _; omega
def md_feed (T : Nat → Int → Int) (a b c d e : Int) : Nat → Int → Int := md_four e 4 (md_four d 4 (md_four c 4 (md_four b 4 (md_four a 4 T))))
set_option maxRecDepth 100000 in
theorem qX11_feedN {S T : Nat → Int → Int} {D : List mx_C} {a b c d e : Int} (h0 : 0 ≤ T 36 4 ∧ T 36 4 ≤ 300) (h1 : 280 < T 36 4) : SpF yX11_feed cX11_feed 6 (some .int) 1 [.ref 36, .int (jI a), .int (jI b), .int (jI c), .int (jI d), .int (jI e)] (W5 S T D) (.int (jI (-1))) (W5 S T D) := by
  refine Sp.of [.ref 36, .int (jI a), .int (jI b), .int (jI c), .int (jI d), .int (jI e)] (by decide) (by simp) (Nat.le_of_ble_eq_true rfl) rfl (fun E => ?_)
  refine L_a0 dX11_feed_0 ?_
  refine GW_36_4 fX11_98 dX11_feed_1 ?_
  refine J_bipush dX11_feed_4 (by decide) ?_
  refine J_iadd dX11_feed_6 ?_
  refine J_sipush dX11_feed_7 (by decide) ?_
  refine J_icmp_le 15 dX11_feed_10 rfl (by omega) (by omega) (fun c10 => ?_) (fun c10 => ?_)
  · exfalso; omega
  · refine J_iconst dX11_feed_13 ?_
    exact R_i rfl dX11_feed_14 rfl rfl

set_option maxRecDepth 100000 in
theorem qX11_feed {S T : Nat → Int → Int} {D : List mx_C} {a : Int} (h_a : -2147483648 ≤ a ∧ a < 2147483648) {b : Int} (h_b : -2147483648 ≤ b ∧ b < 2147483648) {c : Int} (h_c : -2147483648 ≤ c ∧ c < 2147483648) {d : Int} (h_d : -2147483648 ≤ d ∧ d < 2147483648) {e : Int} (h_e : -2147483648 ≤ e ∧ e < 2147483648) (h0 : 0 ≤ T 36 4 ∧ T 36 4 ≤ 280) : SpF yX11_feed cX11_feed 6 (some .int) 1 [.ref 36, .int (jI a), .int (jI b), .int (jI c), .int (jI d), .int (jI e)] (W5 S T D) (.int (jI (T 36 4 + 20))) (W5 S (md_feed T a b c d e) D) := by
  refine Sp.of [.ref 36, .int (jI a), .int (jI b), .int (jI c), .int (jI d), .int (jI e)] (by decide) (by simp) (Nat.le_of_ble_eq_true rfl) rfl (fun E => ?_)
  refine L_a0 dX11_feed_0 ?_
  refine GW_36_4 fX11_98 dX11_feed_1 ?_
  refine J_bipush dX11_feed_4 (by decide) ?_
  refine J_iadd dX11_feed_6 ?_
  refine J_sipush dX11_feed_7 (by decide) ?_
  refine J_icmp_le 15 dX11_feed_10 rfl (by omega) (by omega) (fun c10 => ?_) (fun c10 => ?_)
  · refine L_a0 dX11_feed_15 ?_
    refine L_i1 dX11_feed_16 ?_
    refine C_v1V vX11_101 dX11_feed_17 (qX11_four h_a (by first | omega | (simp only [md_four_sz]; omega)) (by first | omega | (simp only [md_four_sz]; omega))) rfl rfl (Nat.le_of_ble_eq_true rfl) (by decide) ?_
    refine L_a0 dX11_feed_20 ?_
    refine L_i2 dX11_feed_21 ?_
    refine C_v1V vX11_101 dX11_feed_22 (qX11_four h_b (by first | omega | (simp only [md_four_sz]; omega)) (by first | omega | (simp only [md_four_sz]; omega))) rfl rfl (Nat.le_of_ble_eq_true rfl) (by decide) ?_
    refine L_a0 dX11_feed_25 ?_
    refine L_i3 dX11_feed_26 ?_
    refine C_v1V vX11_101 dX11_feed_27 (qX11_four h_c (by first | omega | (simp only [md_four_sz]; omega)) (by first | omega | (simp only [md_four_sz]; omega))) rfl rfl (Nat.le_of_ble_eq_true rfl) (by decide) ?_
    refine L_a0 dX11_feed_30 ?_
    refine L_i4 dX11_feed_31 ?_
    refine C_v1V vX11_101 dX11_feed_33 (qX11_four h_d (by first | omega | (simp only [md_four_sz]; omega)) (by first | omega | (simp only [md_four_sz]; omega))) rfl rfl (Nat.le_of_ble_eq_true rfl) (by decide) ?_
    refine L_a0 dX11_feed_36 ?_
    refine L_i5 dX11_feed_37 ?_
    refine C_v1V vX11_101 dX11_feed_39 (qX11_four h_e (by first | omega | (simp only [md_four_sz]; omega)) (by first | omega | (simp only [md_four_sz]; omega))) rfl rfl (Nat.le_of_ble_eq_true rfl) (by decide) ?_
    refine L_a0 dX11_feed_42 ?_
    refine GW_36_4 fX11_98 dX11_feed_43 ?_
    exact R_i rfl dX11_feed_46 rfl (by show md_four e 4 _ 36 4 = _; simp only [md_four_sz]; omega)
  · exfalso; omega

set_option maxRecDepth 100000 in
theorem qX11_end {S T : Nat → Int → Int} {D : List mx_C} {n : Int} (h_n : -2147483648 ≤ n ∧ n < 2147483648) (h0 : 0 ≤ T 36 4 ∧ T 36 4 ≤ 300) : SpF yX11_end cX11_end 2 (some .int) 1 [.ref 36, .int (jI n)] (W5 S T D) (.int (jI (if 0 ≤ n ∧ n ≤ T 36 4 then n else -1))) (W5 S (if 0 ≤ n ∧ n ≤ T 36 4 then upF T 36 4 n else T) D) := by
  refine Sp.of [.ref 36, .int (jI n)] (by decide) (by simp) (Nat.le_of_ble_eq_true rfl) rfl (fun E => ?_)
  refine L_i1 dX11_end_0 ?_
  refine J_iconst dX11_end_1 ?_
  refine L_a0 dX11_end_2 ?_
  refine GW_36_4 fX11_98 dX11_end_3 ?_
  refine C_s3F vX11_83 dX11_end_6 (qX11_isIn (by omega) (by omega) (by omega)) (Nat.le_of_ble_eq_true rfl) (by decide) ?_
  refine J_ifneB 14 dX11_end_9 rfl (fun c9 => ?_) (fun c9 => ?_)
  · refine L_a0 dX11_end_14 ?_
    refine L_i1 dX11_end_15 ?_
    refine PW_36_4 fX11_98 dX11_end_16 ?_
    refine L_i1 dX11_end_19 ?_
    exact R_i rfl dX11_end_20 (by first | rw [if_pos c9] | rw [if_neg c9]) (by first | rw [if_pos c9] | rw [if_neg c9])
  · refine J_iconst dX11_end_12 ?_
    exact R_i rfl dX11_end_13 (by first | rw [if_pos c9] | rw [if_neg c9]) (by first | rw [if_pos c9] | rw [if_neg c9])

set_option maxRecDepth 100000 in
theorem qX11_fault {S T : Nat → Int → Int} {D : List mx_C} {n : Int} (h_n : -2147483648 ≤ n ∧ n < 2147483648) : SpF yX11_fault cX11_fault 2 (some .int) 0 [.ref 36, .int (jI n)] (W5 S T D) (.int (jI (if n = 0 then T 36 5 else if n = 1 then T 36 6 else -1))) (W5 S T D) := by
  refine Sp.of [.ref 36, .int (jI n)] (by decide) (by simp) (Nat.le_of_ble_eq_true rfl) rfl (fun E => ?_)
  refine L_i1 dX11_fault_0 ?_
  refine J_if_ne 11 dX11_fault_1 rfl (by omega) (fun c1 => ?_) (fun c1 => ?_)
  · refine L_i1 dX11_fault_11 ?_
    refine J_iconst dX11_fault_12 ?_
    refine J_icmp_ne 23 dX11_fault_13 rfl (by omega) (by omega) (fun c13 => ?_) (fun c13 => ?_)
    · refine J_iconst dX11_fault_23 ?_
      exact R_i rfl dX11_fault_24 rfl (by split <;> first | omega | (split <;> omega))
    · refine L_a0 dX11_fault_16 ?_
      refine GW_36_6 fX11_26 dX11_fault_17 ?_
      refine E_goto 24 dX11_fault_20 rfl ?_
      exact R_i rfl dX11_fault_24 rfl (by split <;> first | omega | (split <;> omega))
  · refine L_a0 dX11_fault_4 ?_
    refine GW_36_5 fX11_22 dX11_fault_5 ?_
    refine E_goto 24 dX11_fault_8 rfl ?_
    exact R_i rfl dX11_fault_24 rfl (by split <;> first | omega | (split <;> omega))

set_option maxRecDepth 100000 in
theorem qX11_by {S T : Nat → Int → Int} {D : List mx_C} (hv : MV (T 37)) {n : Int} (h_n : -2147483648 ≤ n ∧ n < 2147483648) : SpF yX11_by cX11_by 2 (some .boolean) 1 [.ref 36, .int (jI n)] (W5 S T D) (.int (jI (jb (-1 ≤ n ∧ n ≤ T 37 0 - 1)))) (W5 S (if -1 ≤ n ∧ n ≤ T 37 0 - 1 then upF T 37 1 n else T) D) := by
  have ha := hv.2
  refine Sp.of [.ref 36, .int (jI n)] (by decide) (by simp) (Nat.le_of_ble_eq_true rfl) rfl (fun E => ?_)
  refine L_i1 dX11_by_0 ?_
  refine J_iconst dX11_by_1 ?_
  refine L_a0 dX11_by_2 ?_
  refine GW_36_0 fX11_7 dX11_by_3 ?_
  refine J_iconst dX11_by_6 ?_
  refine AB_37 dX11_by_7 (by omega) hv.1 (fun b7 => ?_)
  refine J_iconst dX11_by_8 ?_
  refine J_isub dX11_by_9 ?_
  refine C_s3F vX11_83 dX11_by_10 (qX11_isIn (by omega) (by omega) (by omega)) (Nat.le_of_ble_eq_true rfl) (by decide) ?_
  refine J_ifneB 18 dX11_by_13 rfl (fun c13 => ?_) (fun c13 => ?_)
  · refine L_a0 dX11_by_18 ?_
    refine GW_36_0 fX11_7 dX11_by_19 ?_
    refine J_iconst dX11_by_22 ?_
    refine L_i1 dX11_by_23 ?_
    refine AS_37 dX11_by_24 (by omega) ?_
    refine J_iconst dX11_by_25 ?_
    exact R_z rfl dX11_by_26 (by decide) (by first | rw [if_pos c13] | rw [if_neg c13]) (by first | exact (jb_t (by omega)).symm | exact (jb_f (by omega)).symm)
  · refine J_iconst dX11_by_16 ?_
    exact R_z rfl dX11_by_17 (by decide) (by first | rw [if_pos c13] | rw [if_neg c13]) (by first | exact (jb_t (by omega)).symm | exact (jb_f (by omega)).symm)

