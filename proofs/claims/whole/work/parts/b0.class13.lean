/-! ===== the class: whose sayings, a text played ===== -/
abbrev HSy (S : Nat → Int → Int) : Prop := (0 ≤ S 19 1 ∧ S 19 1 ≤ 8) ∧ ∀ i, 0 ≤ i ∧ i < S 19 1 → (0 ≤ S 20 i ∧ S 20 i < 4096) ∧ 1 ≤ S 20 i / 16 ∧ S 20 i / 16 ≤ 8
def csA (f y : Int → Int) (lb : Option (List Int)) : Nat → Int → Int
  | 0, _ => 1
  | m + 1, i => if cbt f (y i / 16) lb = y i % 16 then csA f y lb m (i + 1) else 0
theorem csA_01 (f y : Int → Int) (lb : Option (List Int)) : ∀ (m : Nat) (i : Int), csA f y lb m i = 0 ∨ csA f y lb m i = 1 := by
  intro m
  induction m with
  | zero => intro i; exact Or.inr rfl
  | succ m ih => intro i; unfold csA; split; exact ih _; exact Or.inl rfl
set_option maxRecDepth 100000 in
theorem lX10_saysAll {E : mx_E} {S T : Nat → Int → Int} {D : List mx_C} (hv : RV (S 14)) (hl : RLn (S 14)) (hy : HSy S) {ur : Nat} {u : Value} (hur : u = .null ∨ u = .ref ur) {lb lt : Option (List Int)} (hu : CRu D u lb lt) {r : Int} : ∀ (m : Nat) (i : Int) (S1 : Nat → Int → Int), i + m = S 19 1 → 0 ≤ i → Fr [35] S S1 → csA (S 14) (S 20) lb m i = r → Ev E yX10_saysAll cX10_saysAll 3 (some .boolean) (kI E 4 (fun v hp' => v = r ∧ ∃ S', hp' = W5 S' T D ∧ Fr [35] S S')) 0 0 2 [.ref 0, u, .int (jI i)] [] (W5 S1 T D) := by
  intro m
  induction m with
  | zero =>
    intro i S1 him hi hf hres
    have ha := hv.2
    have e19 : S1 19 = S 19 := hf 19 (by decide)
    refine L_i2 dX10_saysAll_2 ?_
    refine L_a0 dX10_saysAll_3 ?_
    refine GW_0_6 fX10_49 dX10_saysAll_4 ?_
    refine GW_19_1 fX10_330 dX10_saysAll_7 ?_
    refine J_eqi (b := S 19 1) (by rw [e19]) ?_
    refine J_icmp_ge 45 dX10_saysAll_10 rfl (by omega) (by omega) (fun c10 => ?_) (fun c10 => ?_)
    · refine J_iconst dX10_saysAll_45 ?_
      exact RQ_z rfl dX10_saysAll_46 (by decide) ⟨hres, S1, rfl, hf⟩
    · exfalso; omega
  | succ m ih =>
    intro i S1 him hi hf hres
    have ha := hv.2
    have e14 : S1 14 = S 14 := hf 14 (by decide)
    have e19 : S1 19 = S 19 := hf 19 (by decide)
    have e20 : S1 20 = S 20 := hf 20 (by decide)
    have hyi := hy.2 i (by omega)
    have hbB := cbt_B (f := S 14) (n := S 20 i / 16) hyi.2 lb
    unfold csA at hres
    rcases hur with rfl | rfl
    · refine L_i2 dX10_saysAll_2 ?_
      refine L_a0 dX10_saysAll_3 ?_
      refine GW_0_6 fX10_49 dX10_saysAll_4 ?_
      refine GW_19_1 fX10_330 dX10_saysAll_7 ?_
      refine J_eqi (b := S 19 1) (by rw [e19]) ?_
      refine J_icmp_ge 45 dX10_saysAll_10 rfl (by omega) (by omega) (fun c10 => ?_) (fun c10 => ?_)
      · exfalso; omega
      · refine L_a0 dX10_saysAll_13 ?_
        refine L_n1 dX10_saysAll_14 ?_
        refine L_a0 dX10_saysAll_15 ?_
        refine GW_0_6 fX10_49 dX10_saysAll_16 ?_
        refine L_i2 dX10_saysAll_19 ?_
        refine C_v1F vX10_371 dX10_saysAll_20 (qX5_number (by omega) (by rw [e20]; exact hyi.1)) rfl rfl (Nat.le_of_ble_eq_true rfl) (by decide) ?_
        refine J_eqi (b := S 20 i / 16) (by rw [e20]) ?_
        refine C_v2I vX10_193 dX10_saysAll_23 (qX10_betweenBy (S := S1) (by rw [e14]; exact hv) (by rw [e14]; exact hl) hyi.2 hu) rfl rfl (Nat.le_of_ble_eq_true rfl) (by decide) (fun v23 hp23 hq23 => ?_)
        obtain ⟨e23, S23, rfl, hf23⟩ := hq23
        rw [e14] at e23
        subst e23
        have hf23 := hf.trans hf23
        have e20b : S23 20 = S 20 := hf23 20 (by decide)
        refine L_a0 dX10_saysAll_26 ?_
        refine GW_0_6 fX10_49 dX10_saysAll_27 ?_
        refine L_i2 dX10_saysAll_30 ?_
        refine C_v1F vX10_374 dX10_saysAll_31 (qX5_between (by omega)) rfl rfl (Nat.le_of_ble_eq_true rfl) (by decide) ?_
        refine J_eqi (b := S 20 i % 16) (by rw [e20b]) ?_
        refine J_icmp_eq 39 dX10_saysAll_34 rfl (by omega) (by omega) (fun c34 => ?_) (fun c34 => ?_)
        · refine JI_2 dX10_saysAll_39 (by decide) rfl ?_
          refine E_goto 2 dX10_saysAll_42 rfl ?_
          rw [if_pos (by omega)] at hres
          exact ih (i + 1) S23 (by omega) (by omega) hf23 hres
        · refine J_iconst dX10_saysAll_37 ?_
          exact RQ_z rfl dX10_saysAll_38 (by decide) ⟨(by rw [if_neg (by omega)] at hres; exact hres), S23, rfl, hf23⟩
    · refine L_i2 dX10_saysAll_2 ?_
      refine L_a0 dX10_saysAll_3 ?_
      refine GW_0_6 fX10_49 dX10_saysAll_4 ?_
      refine GW_19_1 fX10_330 dX10_saysAll_7 ?_
      refine J_eqi (b := S 19 1) (by rw [e19]) ?_
      refine J_icmp_ge 45 dX10_saysAll_10 rfl (by omega) (by omega) (fun c10 => ?_) (fun c10 => ?_)
      · exfalso; omega
      · refine L_a0 dX10_saysAll_13 ?_
        refine L_a1 dX10_saysAll_14 ?_
        refine L_a0 dX10_saysAll_15 ?_
        refine GW_0_6 fX10_49 dX10_saysAll_16 ?_
        refine L_i2 dX10_saysAll_19 ?_
        refine C_v1F vX10_371 dX10_saysAll_20 (qX5_number (by omega) (by rw [e20]; exact hyi.1)) rfl rfl (Nat.le_of_ble_eq_true rfl) (by decide) ?_
        refine J_eqi (b := S 20 i / 16) (by rw [e20]) ?_
        refine C_v2I vX10_193 dX10_saysAll_23 (qX10_betweenBy (S := S1) (by rw [e14]; exact hv) (by rw [e14]; exact hl) hyi.2 hu) rfl rfl (Nat.le_of_ble_eq_true rfl) (by decide) (fun v23 hp23 hq23 => ?_)
        obtain ⟨e23, S23, rfl, hf23⟩ := hq23
        rw [e14] at e23
        subst e23
        have hf23 := hf.trans hf23
        have e20b : S23 20 = S 20 := hf23 20 (by decide)
        refine L_a0 dX10_saysAll_26 ?_
        refine GW_0_6 fX10_49 dX10_saysAll_27 ?_
        refine L_i2 dX10_saysAll_30 ?_
        refine C_v1F vX10_374 dX10_saysAll_31 (qX5_between (by omega)) rfl rfl (Nat.le_of_ble_eq_true rfl) (by decide) ?_
        refine J_eqi (b := S 20 i % 16) (by rw [e20b]) ?_
        refine J_icmp_eq 39 dX10_saysAll_34 rfl (by omega) (by omega) (fun c34 => ?_) (fun c34 => ?_)
        · refine JI_2 dX10_saysAll_39 (by decide) rfl ?_
          refine E_goto 2 dX10_saysAll_42 rfl ?_
          rw [if_pos (by omega)] at hres
          exact ih (i + 1) S23 (by omega) (by omega) hf23 hres
        · refine J_iconst dX10_saysAll_37 ?_
          exact RQ_z rfl dX10_saysAll_38 (by decide) ⟨(by rw [if_neg (by omega)] at hres; exact hres), S23, rfl, hf23⟩
theorem qX10_saysAll {S T : Nat → Int → Int} {D : List mx_C} (hv : RV (S 14)) (hl : RLn (S 14)) (hy : HSy S) {ur : Nat} {u : Value} (hur : u = .null ∨ u = .ref ur) {lb lt : Option (List Int)} (hu : CRu D u lb lt) : SpI yX10_saysAll cX10_saysAll 3 (some .boolean) 4 [.ref 0, u] (W5 S T D) (fun v hp' => v = csA (S 14) (S 20) lb (S 19 1).toNat 0 ∧ ∃ S', hp' = W5 S' T D ∧ Fr [35] S S') := by
  have h0 := hy.1
  refine Sp.of [.ref 0, u, .retAddr 0] (by decide) (by rcases hur with rfl | rfl <;> simp) (by rcases hur with rfl | rfl <;> exact Nat.le_of_ble_eq_true rfl) (by rcases hur with rfl | rfl <;> rfl) (fun E => ?_)
  rcases hur with rfl | rfl
  · refine J_iconst dX10_saysAll_0 ?_
    refine S_i2 dX10_saysAll_1 (by decide) rfl ?_
    exact lX10_saysAll (ur := ur) hv hl hy (Or.inl rfl) hu (S 19 1).toNat 0 S (by omega) (by omega) (Fr.refl _ _) rfl
  · refine J_iconst dX10_saysAll_0 ?_
    refine S_i2 dX10_saysAll_1 (by decide) rfl ?_
    exact lX10_saysAll (ur := ur) hv hl hy (Or.inr rfl) hu (S 19 1).toNat 0 S (by omega) (by omega) (Fr.refl _ _) rfl
def cwg (f y : Int → Int) (k : Nat) (tb : Int → Option (List Int)) (i acc : Int) : Int := if csA f y (tb i) k 0 = 0 then acc else bor acc (bsh i)
def CTx (S : Nat → Int → Int) (D : List mx_C) (tb : Int → Option (List Int)) : Prop := (0 ≤ S 0 10 ∧ S 0 10 ≤ 4) ∧ ∀ i, 0 ≤ i ∧ i < S 0 10 → ∃ j : Nat, ∃ lt : Option (List Int), tx (S 12 i) = some (j + 54) ∧ CSc D j (tb i) lt
set_option maxRecDepth 100000 in
theorem lX10_whose {E : mx_E} {S T : Nat → Int → Int} {D : List mx_C} (hv : RV (S 14)) (hl : RLn (S 14)) (hy : HSy S) {tb : Int → Option (List Int)} (ht : CTx S D tb) {r : Int} : ∀ (m : Nat) (i acc : Int) (S1 : Nat → Int → Int), i + m = S 0 10 → 0 ≤ i → (0 ≤ acc ∧ acc < 16) → Fr [35] S S1 → lpF (cwg (S 14) (S 20) (S 19 1).toNat tb) m i acc = r → Ev E yX10_whose cX10_whose 3 (some .int) (kI E 5 (fun v hp' => v = r ∧ ∃ S', hp' = W5 S' T D ∧ Fr [35] S S')) 0 0 4 [.ref 0, .int (jI acc), .int (jI i)] [] (W5 S1 T D) := by
  intro m
  induction m with
  | zero =>
    intro i acc S1 him hi hacc hf hres
    have h0 := ht.1
    have e0 : S1 0 = S 0 := hf 0 (by decide)
    have hres : acc = r := hres
    refine L_i2 dX10_whose_4 ?_
    refine L_a0 dX10_whose_5 ?_
    refine GW_0_10 fX10_71 dX10_whose_6 ?_
    refine J_eqi (b := S 0 10) (by rw [e0]) ?_
    refine J_icmp_ge 36 dX10_whose_9 rfl (by omega) (by omega) (fun c9 => ?_) (fun c9 => ?_)
    · refine L_i1 dX10_whose_36 ?_
      exact RQ_i rfl dX10_whose_37 ⟨hres, S1, rfl, hf⟩
    · exfalso; omega
  | succ m ih =>
    intro i acc S1 him hi hacc hf hres
    have h0 := ht.1
    have e0 : S1 0 = S 0 := hf 0 (by decide)
    have e12 : S1 12 = S 12 := hf 12 (by decide)
    have e14 : S1 14 = S 14 := hf 14 (by decide)
    have e19 : S1 19 = S 19 := hf 19 (by decide)
    have e20 : S1 20 = S 20 := hf 20 (by decide)
    obtain ⟨j, lt, h1, h2⟩ := ht.2 i (by omega)
    have hcB := csA_01 (S 14) (S 20) (tb i) (S 19 1).toNat 0
    have hres : lpF (cwg (S 14) (S 20) (S 19 1).toNat tb) m (i + 1) (cwg (S 14) (S 20) (S 19 1).toNat tb i acc) = r := hres
    refine L_i2 dX10_whose_4 ?_
    refine L_a0 dX10_whose_5 ?_
    refine GW_0_10 fX10_71 dX10_whose_6 ?_
    refine J_eqi (b := S 0 10) (by rw [e0]) ?_
    refine J_icmp_ge 36 dX10_whose_9 rfl (by omega) (by omega) (fun c9 => ?_) (fun c9 => ?_)
    · exfalso; omega
    · refine L_a0 dX10_whose_12 ?_
      refine L_a0 dX10_whose_13 ?_
      refine L_i2 dX10_whose_14 ?_
      refine C_v1F vX10_99 dX10_whose_15 (qX10_scriptOf (i := j + 54) (by rw [e0]; omega) (by rw [e12]; exact h1)) rfl rfl (Nat.le_of_ble_eq_true rfl) (by decide) ?_
      refine C_v1I vX10_334 dX10_whose_18 (qX10_saysAll (S := S1) (ur := j + 54) (by rw [e14]; exact hv) (by rw [e14]; exact hl) (by unfold HSy; rw [e19, e20]; exact hy) (Or.inr rfl) (Or.inr ⟨j, rfl, h2⟩)) rfl rfl (Nat.le_of_ble_eq_true rfl) (by decide) (fun v18 hp18 hq18 => ?_)
      obtain ⟨e18, S18, rfl, hf18⟩ := hq18
      rw [e14, e19, e20] at e18
      subst e18
      have hf18 := hf.trans hf18
      refine J_if_eq 30 dX10_whose_21 rfl (by omega) (fun c21 => ?_) (fun c21 => ?_)
      · refine JI_2 dX10_whose_30 (by decide) rfl ?_
        refine E_goto 4 dX10_whose_33 rfl ?_
        exact ih (i + 1) acc S18 (by omega) (by omega) hacc hf18 (by unfold cwg at hres; rw [if_pos (by omega)] at hres; exact hres)
      · refine L_i1 dX10_whose_24 ?_
        refine J_iconst dX10_whose_25 ?_
        refine L_i2 dX10_whose_26 ?_
        refine J_1shl dX10_whose_27 (by omega) ?_
        refine J_iorG dX10_whose_28 (by omega) (bsh_nn _) ?_
        refine S_i1 dX10_whose_29 (by decide) rfl ?_
        refine JI_2 dX10_whose_30 (by decide) rfl ?_
        refine E_goto 4 dX10_whose_33 rfl ?_
        exact ih (i + 1) _ S18 (by omega) (by omega) ⟨bor_nn _ _, bor_lt 4 (by omega) (bsh_lt 4 (by omega) (by decide))⟩ hf18 (by unfold cwg at hres; rw [if_neg (by omega)] at hres; exact hres)
set_option maxRecDepth 100000 in
theorem qX10_whose {S T : Nat → Int → Int} {D : List mx_C} (hv : RV (S 14)) (hl : RLn (S 14)) (hy : HSy S) {tb : Int → Option (List Int)} (ht : CTx S D tb) : SpI yX10_whose cX10_whose 3 (some .int) 5 [.ref 0] (W5 S T D) (fun v hp' => v = lpF (cwg (S 14) (S 20) (S 19 1).toNat tb) (S 0 10).toNat 0 0 ∧ ∃ S', hp' = W5 S' T D ∧ Fr [35] S S') := by
  have h0 := ht.1
  refine Sp.of [.ref 0, .retAddr 0, .retAddr 0] (by decide) (by simp) (Nat.le_of_ble_eq_true rfl) rfl (fun E => ?_)
  refine J_iconst dX10_whose_0 ?_
  refine S_i1 dX10_whose_1 (by decide) rfl ?_
  refine J_iconst dX10_whose_2 ?_
  refine S_i2 dX10_whose_3 (by decide) rfl ?_
  exact lX10_whose hv hl hy ht (S 0 10).toNat 0 0 S (by omega) (by omega) (by omega) (Fr.refl _ _) rfl

