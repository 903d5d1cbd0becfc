/-! ===== the reference: days, by scripts, by years ===== -/
def md_aps (c : Int → Int) (b : Int) : Nat → (Int → Int) × Int → Int × (Int → Int) × Int
  | 0, s => (1, s)
  | m + 1, s => if s.1 4 = 9999 then (0, s) else md_aps c b m (md_pass c b (md_keep s.1, s.2))
theorem md_aps_01 (c : Int → Int) (b : Int) : ∀ (m : Nat) (s : (Int → Int) × Int), (md_aps c b m s).1 = 0 ∨ (md_aps c b m s).1 = 1 := by
  intro m
  induction m with
  | zero => intro s; exact Or.inr rfl
  | succ m ih =>
    intro s
    rw [md_aps]
    split
    · exact Or.inl rfl
    · exact ih _
theorem md_kp_P {c : Int → Int} {b z : Int} {a : Int → Int} (hv : MV a) (hl : ML a) (h4 : ¬ a 4 = 9999) : MV (md_pass c b (md_keep a, z)).1 ∧ ML (md_pass c b (md_keep a, z)).1 ∧ (md_pass c b (md_keep a, z)).1 0 = a 0 ∧ (md_pass c b (md_keep a, z)).1 1 = a 1 ∧ (md_pass c b (md_keep a, z)).1 4 = a 4 + 1 := by
  have h2 := hv.2.2.2.1
  have h4b := hv.2.2.2.2.2.1
  have e4 : md_keep a 4 = a 4 := md_keep_at h2 (by omega) (by omega)
  have e0 : md_keep a 0 = a 0 := md_keep_at h2 (by omega) (by omega)
  have e1 : md_keep a 1 = a 1 := md_keep_at h2 (by omega) (by omega)
  have h := md_pass_P (c := c) (b := b) (s := (md_keep a, z)) (md_keep_V hv) (md_keep_L hv hl) (by show md_keep a 4 < 9999; omega)
  refine ⟨h.1, h.2.1, h.2.2.1.trans e0, h.2.2.2.1.trans e1, ?_⟩
  rw [h.2.2.2.2]
  show md_keep a 4 + 1 = _
  rw [e4]
theorem md_aps_P {c : Int → Int} {b : Int} : ∀ (m : Nat) (s : (Int → Int) × Int), MV s.1 → ML s.1 → MV (md_aps c b m s).2.1 ∧ ML (md_aps c b m s).2.1 ∧ (md_aps c b m s).2.1 0 = s.1 0 ∧ (md_aps c b m s).2.1 1 = s.1 1 := by
  intro m
  induction m with
  | zero => intro s hv hl; exact ⟨hv, hl, rfl, rfl⟩
  | succ m ih =>
    intro s hv hl
    rw [md_aps]
    split
    · exact ⟨hv, hl, rfl, rfl⟩
    · next h4 =>
      have h := md_kp_P (c := c) (b := b) (z := s.2) hv hl h4
      have h' := ih _ h.1 h.2.1
      exact ⟨h'.1, h'.2.1, h'.2.2.1.trans h.2.2.1, h'.2.2.2.trans h.2.2.2.1⟩
set_option maxRecDepth 100000 in
theorem lX11_arePassed {E : mx_E} {S T : Nat → Int → Int} {D : List mx_C} (hi : MI T) {n : Int} (h_n : -2147483648 ≤ n ∧ n < 2147483648) {r : Int × (Int → Int) × Int} : ∀ (m : Nat) (k : Int) (T1 : Nat → Int → Int), (m = (n - k).toNat) → 0 ≤ k ∧ (k ≤ n ∨ k = 0) → MV (T1 37) → ML (T1 37) → T1 37 0 = T 37 0 → T1 36 23 = 1 → T1 36 = up (T 36) 24 (T1 36 24) → Fr [36, 37, 42, 43, 44] T T1 → md_aps (T 39) 1 m (T1 37, T1 36 24) = r → Ev E yX11_arePassed cX11_arePassed 3 (some .boolean) (kI E 11 (fun v hp' => v = r.1 ∧ ∃ T', hp' = W5 S T' D ∧ T' 37 = r.2.1 ∧ T' 36 = up (T 36) 24 r.2.2 ∧ Fr [36, 37, 42, 43, 44] T T')) 0 0 7 [.ref 36, .int (jI n), .int (jI k)] [] (W5 S T1 D) := by
  intro m
  induction m with
  | zero =>
    intro k T1 hk hk0 hv1 hl1 h0 h23 h36 f1 hres
    refine L_i2 dX11_arePassed_7 ?_
    refine L_i1 dX11_arePassed_8 ?_
    refine J_icmp_ge 40 dX11_arePassed_9 rfl (by omega) (by omega) (fun c9 => ?_) (fun c9 => ?_)
    · refine J_iconst dX11_arePassed_40 ?_
      exact RQ_z rfl dX11_arePassed_41 (by decide) ⟨by rw [← hres]; rfl, T1, rfl, by rw [← hres]; rfl, by rw [← hres]; exact h36, f1⟩
    · exfalso; omega
  | succ m ih =>
    intro k T1 hk hk0 hv1 hl1 h0 h23 h36 f1 hres
    have hb1 := hv1.2
    have hi1 : MI T1 := ⟨hv1, hl1, by rw [f1 39 (by decide), h0]; exact hi.2.2⟩
    refine L_i2 dX11_arePassed_7 ?_
    refine L_i1 dX11_arePassed_8 ?_
    refine J_icmp_ge 40 dX11_arePassed_9 rfl (by omega) (by omega) (fun c9 => ?_) (fun c9 => ?_)
    · exfalso; omega
    · refine L_a0 dX11_arePassed_12 ?_
      refine GW_36_0 fX11_7 dX11_arePassed_13 ?_
      refine J_iconst dX11_arePassed_16 ?_
      refine AB_37 dX11_arePassed_17 (by omega) hv1.1 (fun b17 => ?_)
      refine J_sipush dX11_arePassed_18 (by decide) ?_
      refine J_icmp_ne 26 dX11_arePassed_21 rfl (by omega) (by omega) (fun c21 => ?_) (fun c21 => ?_)
      · refine L_a0 dX11_arePassed_26 ?_
        refine C_v0V vX11_353 dX11_arePassed_27 (qX11_keep hv1.2.2.2.1) rfl rfl (Nat.le_of_ble_eq_true rfl) (by decide) ?_
        refine L_a0 dX11_arePassed_30 ?_
        refine C_v0U vX11_365 dX11_arePassed_31 (qX11_pass hi1.keep (Or.inr h23)) rfl rfl (Nat.le_of_ble_eq_true rfl) (by decide) (fun hp31 hq31 => ?_)
        obtain ⟨T31, rfl, g31, o31, f31⟩ := hq31
        refine JI_2 dX11_arePassed_34 (by decide) rfl ?_
        refine E_goto 7 dX11_arePassed_37 rfl ?_
        have hkp := md_kp_P (c := T 39) (b := 1) (z := T1 36 24) hv1 hl1 c21
        have e39 : (upS T1 37 (md_keep (T1 37))) 39 = T 39 := f1 39 (by decide)
        rw [e39, show (upS T1 37 (md_keep (T1 37))) 36 23 = 1 from h23, show (upS T1 37 (md_keep (T1 37))) 37 = md_keep (T1 37) from rfl] at g31 o31
        have g31' : T31 37 = (md_pass (T 39) 1 (md_keep (T1 37), T1 36 24)).1 := g31
        have o31' : T31 36 = up (T1 36) 24 (md_pass (T 39) 1 (md_keep (T1 37), T1 36 24)).2 := o31
        have f31' : Fr [36, 37, 42, 43, 44] T1 T31 := (Fr_up T1 (md_keep (T1 37)) (by decide)).trans f31
        exact ih (k + 1) T31 (by omega) (by omega) (by rw [g31']; exact hkp.1) (by rw [g31']; exact hkp.2.1) (by rw [g31', hkp.2.2.1]; exact h0) (by rw [o31', up_n (by decide)]; exact h23) (by rw [o31', up_s]; exact (congrArg (fun f => up f 24 _) h36).trans (up_up _ _ _ _)) (f1.trans f31') (by rw [← hres, md_aps, if_neg (show ¬ (T1 37, T1 36 24).1 4 = 9999 from c21), g31', o31', up_s])
      · refine J_iconst dX11_arePassed_24 ?_
        exact RQ_z rfl dX11_arePassed_25 (by decide) ⟨by rw [← hres, md_aps, if_pos (show (T1 37, T1 36 24).1 4 = 9999 from c21)], T1, rfl, by rw [← hres, md_aps, if_pos (show (T1 37, T1 36 24).1 4 = 9999 from c21)], by rw [← hres, md_aps, if_pos (show (T1 37, T1 36 24).1 4 = 9999 from c21)]; exact h36, f1⟩

set_option maxRecDepth 100000 in
theorem qX11_arePassed {S T : Nat → Int → Int} {D : List mx_C} (hi : MI T) (hw : T 36 23 = 1) {n : Int} (h_n : -2147483648 ≤ n ∧ n < 2147483648) : SpI yX11_arePassed cX11_arePassed 3 (some .boolean) 11 [.ref 36, .int (jI n)] (W5 S T D) (fun v hp' => v = (md_aps (T 39) 1 n.toNat (T 37, 0)).1 ∧ ∃ T', hp' = W5 S T' D ∧ T' 37 = (md_aps (T 39) 1 n.toNat (T 37, 0)).2.1 ∧ T' 36 = up (T 36) 24 (md_aps (T 39) 1 n.toNat (T 37, 0)).2.2 ∧ Fr [36, 37, 42, 43, 44] T T') := by
  refine Sp.of [.ref 36, .int (jI n), .retAddr 0] (by decide) (by simp) (Nat.le_of_ble_eq_true rfl) rfl (fun E => ?_)
  refine L_a0 dX11_arePassed_0 ?_
  refine J_iconst dX11_arePassed_1 ?_
  refine PW_36_24 fX11_350 dX11_arePassed_2 ?_
  refine J_iconst dX11_arePassed_5 ?_
  refine S_i2 dX11_arePassed_6 (by decide) rfl ?_
  exact lX11_arePassed (T := T) hi h_n (r := md_aps (T 39) 1 n.toNat (T 37, 0)) n.toNat 0 (upS T 36 (up (T 36) 24 0)) (by omega) (by omega) hi.1 hi.2.1 rfl hw (by rw [upS_s, up_s]) (Fr_up _ _ (by decide)) rfl

set_option maxRecDepth 100000 in
theorem qX11_day {S T : Nat → Int → Int} {D : List mx_C} (hi : MI T) (hw : T 36 23 = 1) {n : Int} (h_n : -2147483648 ≤ n ∧ n < 2147483648) : SpI yX11_day cX11_day 2 (some .int) 12 [.ref 36, .int (jI n)] (W5 S T D) (fun v hp' => v = (if (1 ≤ n ∧ n ≤ 60) ∧ T 37 4 + n ≤ 9999 then (if (md_aps (T 39) 1 n.toNat (T 37, 0)).1 = 1 then (md_aps (T 39) 1 n.toNat (T 37, 0)).2.2 else -1) else -1) ∧ ∃ T', hp' = W5 S T' D ∧ T' 37 = (if (1 ≤ n ∧ n ≤ 60) ∧ T 37 4 + n ≤ 9999 then (md_aps (T 39) 1 n.toNat (T 37, 0)).2.1 else T 37) ∧ ∃ z, T' 36 = up (T 36) 24 z ∧ Fr [36, 37, 42, 43, 44] T T') := by
  have hv := hi.1
  have hl := hi.2.1
  have ha := hv.2
  have h01 := md_aps_01 (T 39) 1 n.toNat (T 37, 0)
  refine Sp.of [.ref 36, .int (jI n)] (by decide) (by simp) (Nat.le_of_ble_eq_true rfl) rfl (fun E => ?_)
  refine L_i1 dX11_day_0 ?_
  refine J_iconst dX11_day_1 ?_
  refine J_bipush dX11_day_2 (by decide) ?_
  refine C_s3F vX11_83 dX11_day_4 (qX11_isIn (by omega) (by omega) (by omega)) (Nat.le_of_ble_eq_true rfl) (by decide) ?_
  refine J_ifeqB 39 dX11_day_7 rfl (fun c7 => ?_) (fun c7 => ?_)
  · refine J_iconst dX11_day_39 ?_
    exact RQ_i rfl dX11_day_40 ⟨by first | (rw [if_pos (by omega), if_pos (by omega)]) | (rw [if_pos (by omega), if_neg (by omega)]) | (rw [if_neg (by omega)]), by first | (refine ⟨_, rfl, by rw [if_pos (by omega)]; exact g26, _, o26, f26⟩; done) | exact ⟨T, rfl, by rw [if_neg (by omega)], T 36 24, by funext j; unfold up; split <;> first | rfl | (next h => rw [h]), Fr.refl _ _⟩⟩
  · refine L_a0 dX11_day_10 ?_
    refine GW_36_0 fX11_7 dX11_day_11 ?_
    refine J_iconst dX11_day_14 ?_
    refine AB_37 dX11_day_15 (by omega) hv.1 (fun b15 => ?_)
    refine L_i1 dX11_day_16 ?_
    refine J_iadd dX11_day_17 ?_
    refine J_sipush dX11_day_18 (by decide) ?_
    refine J_icmp_gt 39 dX11_day_21 rfl (by omega) (by omega) (fun c21 => ?_) (fun c21 => ?_)
    · refine J_iconst dX11_day_39 ?_
      exact RQ_i rfl dX11_day_40 ⟨by first | (rw [if_pos (by omega), if_pos (by omega)]) | (rw [if_pos (by omega), if_neg (by omega)]) | (rw [if_neg (by omega)]), by first | (refine ⟨_, rfl, by rw [if_pos (by omega)]; exact g26, _, o26, f26⟩; done) | exact ⟨T, rfl, by rw [if_neg (by omega)], T 36 24, by funext j; unfold up; split <;> first | rfl | (next h => rw [h]), Fr.refl _ _⟩⟩
    · refine L_a0 dX11_day_24 ?_
      refine L_i1 dX11_day_25 ?_
      refine C_v1I vX11_368 dX11_day_26 (qX11_arePassed hi hw h_n) rfl rfl (Nat.le_of_ble_eq_true rfl) (by decide) (fun v26 hp26 hq26 => ?_)
      obtain ⟨rfl, T26, rfl, g26, o26, f26⟩ := hq26
      refine J_if_eq 39 dX11_day_29 rfl (by omega) (fun c29 => ?_) (fun c29 => ?_)
      · refine J_iconst dX11_day_39 ?_
        exact RQ_i rfl dX11_day_40 ⟨by first | (rw [if_pos (by omega), if_pos (by omega)]) | (rw [if_pos (by omega), if_neg (by omega)]) | (rw [if_neg (by omega)]), by first | (refine ⟨_, rfl, by rw [if_pos (by omega)]; exact g26, _, o26, f26⟩; done) | exact ⟨T, rfl, by rw [if_neg (by omega)], T 36 24, by funext j; unfold up; split <;> first | rfl | (next h => rw [h]), Fr.refl _ _⟩⟩
      · refine L_a0 dX11_day_32 ?_
        refine GW_36_24 fX11_350 dX11_day_33 ?_
        rw [o26, up_s]
        refine E_goto 40 dX11_day_36 rfl ?_
        exact RQ_i rfl dX11_day_40 ⟨by first | (rw [if_pos (by omega), if_pos (by omega)]) | (rw [if_pos (by omega), if_neg (by omega)]) | (rw [if_neg (by omega)]), by first | (refine ⟨_, rfl, by rw [if_pos (by omega)]; exact g26, _, o26, f26⟩; done) | exact ⟨T, rfl, by rw [if_neg (by omega)], T 36 24, by funext j; unfold up; split <;> first | rfl | (next h => rw [h]), Fr.refl _ _⟩⟩

