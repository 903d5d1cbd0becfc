/-! ===== the class: days pass, years happen ===== -/
theorem RX_up4 {f : Int → Int} {v : Int} (h : RX f) (hv : 0 ≤ v ∧ v < 65536) : RX (up f 4 v) := by
  have ha := h.1.2
  have e : ∀ q, ¬ q = 4 → up f 4 v q = f q := fun q hq => up_n hq
  exact RX_g h (Bd_up h.1.1 (by omega)) (fun q hq => e q (by omega)) (by rw [e 1 (by omega)]; omega) (by rw [e 2 (by omega)]; omega) (by rw [e 3 (by omega)]; omega) (by rw [up_s]; omega) (by rw [e 5 (by omega)]; omega) (fun k hk => by rw [e _ (by omega)]; exact (h.1.at hk).2.2.2) (RLn_up h.2 (Or.inl (by omega)))
theorem rw_places_B {f : Int → Int} (hv : RV f) (s : Int) : 0 ≤ rw_places f s ∧ rw_places f s < 65536 := by
  have : ∀ (m : Nat) (k acc : Int), (0 ≤ acc ∧ acc < 65536) → 0 ≤ lpF (rw_plg f s) m k acc ∧ lpF (rw_plg f s) m k acc < 65536 := by
    intro m
    induction m with
    | zero => intro k acc h; exact h
    | succ m ih =>
      intro k acc h
      refine ih (k + 1) _ ?_
      unfold rw_plg
      split
      · exact h
      · exact ⟨bor_nn _ _, bor_lt 16 (by omega) (rw_pair_B hv k).2⟩
  exact this 8 1 0 (by omega)
theorem RLn_rvg {f : Int → Int} {l k : Int} (h : RLn f) (hk : 1 ≤ k ∧ k ≤ 8) : RLn (rw_rvg l k f) := by
  unfold rw_rvg
  split
  · exact RLn_up (RLn_up h (Or.inl (by omega))) (Or.inl (by omega))
  · exact h
theorem RX_rvL {l : Int} : ∀ (m : Nat) (k : Int) (f : Int → Int), 1 ≤ k → k + m ≤ 9 → RX f → l = f 0 - 1 → RX (lpF (rw_rvg l) m k f) := by
  intro m
  induction m with
  | zero => intro k f _ _ h _; exact h
  | succ m ih =>
    intro k f h1 h2 h hl
    have h3 := rw_rvg_V h.1 hl (k := k) (by omega)
    exact ih (k + 1) _ (by omega) (by omega) ⟨h3.1, RLn_rvg h.2 (by omega)⟩ (by rw [h3.2]; exact hl)
theorem RX_turn {f : Int → Int} (h : RX f) : RX (rw_turn f) := by
  have h1 := RX_rvL (l := f 0 - 1) 8 1 f (by omega) (by omega) h rfl
  exact RX_up4 h1 (rw_places_B h1.1 _)
abbrev HSt (S : Nat → Int → Int) : Prop := (0 ≤ S 17 1 ∧ S 17 1 ≤ 29) ∧ (0 ≤ S 17 2 ∧ S 17 2 ≤ 30)
theorem HSt_K {S : Nat → Int → Int} (h : HSt S) : HSt (stK S) := by
  have e : stK S 17 = up (up (S 17) 1 ((S 17 1 + 1) % 30)) 2 (if S 17 2 + 1 < 30 then S 17 2 + 1 else 30) := by unfold stK; rw [upS_s]
  unfold HSt
  rw [e, up_s, up_n (by omega), up_s]
  refine ⟨by omega, ?_⟩
  split <;> omega
theorem Fr_14u {A S' : Nat → Int → Int} {g : Int → Int} (h : Fr [14, 35] A S') (e : S' 14 = g) : Fr [35] (upS A 14 g) S' := fun i hi => by
  by_cases h14 : i = 14
  · subst h14; rw [upS_s]; exact e
  · rw [upS_n h14]; exact h i (by simp at hi ⊢; exact ⟨h14, hi⟩)
def cps (lt : Option (List Int)) (S : Nat → Int → Int) : Nat → Int → Int := upS (stK S) 14 (cpd lt (S 14))
def cpN (lt : Option (List Int)) : Nat → (Nat → Int → Int) → (Nat → Int → Int)
  | 0, S => S
  | m + 1, S => if 9999 ≤ S 14 1 then S else cpN lt m (cps lt S)
theorem Fr_cps {lt : Option (List Int)} {A B : Nat → Int → Int} (h : Fr [35] A B) : Fr [35] (cps lt A) (cps lt B) := by
  have e : B 14 = A 14 := h 14 (by decide)
  unfold cps
  rw [e]
  exact Fr_upS (Fr_stK h) 14 _
theorem Fr_cpN {lt : Option (List Int)} : ∀ (m : Nat) {A B : Nat → Int → Int}, Fr [35] A B → Fr [35] (cpN lt m A) (cpN lt m B) := by
  intro m
  induction m with
  | zero => intro A B h; exact h
  | succ m ih =>
    intro A B h
    have e : B 14 = A 14 := h 14 (by decide)
    unfold cpN
    rw [e]
    split
    · exact h
    · exact ih (Fr_cps h)
theorem cps_14 {lt : Option (List Int)} {S : Nat → Int → Int} : cps lt S 14 = cpd lt (S 14) := upS_s _ _ _
theorem HSt_e {A B : Nat → Int → Int} (h : HSt A) (e : B 17 = A 17) : HSt B := by unfold HSt; rw [e]; exact h
theorem cps_17 {lt : Option (List Int)} {S : Nat → Int → Int} : cps lt S 17 = stK S 17 := upS_n (by decide)
theorem cpN_I {lt : Option (List Int)} : ∀ (m : Nat) (S : Nat → Int → Int), RX (S 14) → HSt S → RX (cpN lt m S 14) ∧ HSt (cpN lt m S) := by
  intro m
  induction m with
  | zero => intro S h1 h2; exact ⟨h1, h2⟩
  | succ m ih =>
    intro S h1 h2
    unfold cpN
    split
    · exact ⟨h1, h2⟩
    · exact ih _ (by rw [cps_14]; exact (RX_cpd h1 (by omega)).1) (HSt_e (HSt_K h2) cps_17)
set_option maxRecDepth 100000 in
theorem lX10_passDays {E : mx_E} {T : Nat → Int → Int} {D : List mx_C} {lb lt : Option (List Int)} {n r : Int} (h_n : n < 2147483648) {A : Nat → Int → Int} : ∀ (m : Nat) (i : Int) (S1 : Nat → Int → Int), i + m = n → 0 ≤ i → RX (S1 14) → HSt S1 → CR1 S1 D lb lt → jb (S1 14 1 + (m : Int) ≤ 9999) = r → Fr [35] A (cpN lt m S1) → Ev E yX10_passDays cX10_passDays 3 (some .boolean) (kI E 5 (fun v hp' => v = r ∧ ∃ S', hp' = W5 S' T D ∧ Fr [35] A S')) 0 0 2 [.ref 0, .int (jI n), .int (jI i)] [] (W5 S1 T D) := by
  intro m
  induction m with
  | zero =>
    intro i S1 him hi hx hs hr hres hA
    have ha := hx.1.2
    refine L_i2 dX10_passDays_2 ?_
    refine L_i1 dX10_passDays_3 ?_
    refine J_icmp_ge 43 dX10_passDays_4 rfl (by omega) (by omega) (fun c4 => ?_) (fun c4 => ?_)
    · refine J_iconst dX10_passDays_43 ?_
      exact RQ_z rfl dX10_passDays_44 (by decide) ⟨((jb_t (by omega)).symm).trans hres, S1, rfl, hA⟩
    · exfalso; omega
  | succ m ih =>
    intro i S1 him hi hx hs hr hres hA
    have ha := hx.1.2
    refine L_i2 dX10_passDays_2 ?_
    refine L_i1 dX10_passDays_3 ?_
    refine J_icmp_ge 43 dX10_passDays_4 rfl (by omega) (by omega) (fun c4 => ?_) (fun c4 => ?_)
    · exfalso; omega
    · refine L_a0 dX10_passDays_7 ?_
      refine GW_0_3 fX10_32 dX10_passDays_8 ?_
      refine C_v0F vX10_144 dX10_passDays_11 (qX4_date) rfl rfl (Nat.le_of_ble_eq_true rfl) (by decide) ?_
      refine J_sipush dX10_passDays_14 (by decide) ?_
      refine J_icmp_lt 22 dX10_passDays_17 rfl (by omega) (by omega) (fun c17 => ?_) (fun c17 => ?_)
      · refine L_a0 dX10_passDays_22 ?_
        refine GW_0_5 fX10_42 dX10_passDays_23 ?_
        refine L_a0 dX10_passDays_26 ?_
        refine GW_0_3 fX10_32 dX10_passDays_27 ?_
        refine C_v1V vX10_110 dX10_passDays_30 (qX8_keep hs.1 hs.2) rfl rfl (Nat.le_of_ble_eq_true rfl) (by decide) ?_
        refine L_a0 dX10_passDays_33 ?_
        refine C_v0U vX10_252 dX10_passDays_34 (qX10_passDay (S := stK S1) (hr.fr (l := [17, 18]) (by unfold stK; exact (Fr_up _ _ (by decide)).trans (Fr_up _ _ (by decide))) (by decide) (by decide)) (by rw [stK_14]; exact hx)) rfl rfl (Nat.le_of_ble_eq_true rfl) (by decide) (fun hp34 hq34 => ?_)
        obtain ⟨S34, rfl, hf34, e34⟩ := hq34
        rw [stK_14] at e34
        have hf34 : Fr [35] (cps lt S1) S34 := Fr_14u hf34 e34
        refine JI_2 dX10_passDays_37 (by decide) rfl ?_
        refine E_goto 2 dX10_passDays_40 rfl ?_
        have hc := RX_cpd (lt := lt) hx (by omega)
        have hfr : Fr [14, 17, 18] S1 (cps lt S1) := fun i hi => by
          unfold cps stK
          rw [upS_n (by simp at hi; exact hi.1), upS_n (by simp at hi; exact hi.2.1), upS_n (by simp at hi; exact hi.2.2)]
        unfold cpN at hA
        rw [if_neg (by omega)] at hA
        refine ih (i + 1) S34 (by omega) (by omega) (by rw [e34]; exact hc.1) (HSt_e (HSt_K hs) ((hf34 17 (by decide)).trans cps_17)) ((hr.fr hfr (by decide) (by decide)).fr hf34 (by decide) (by decide)) ?_ (hA.trans (Fr_cpN m hf34))
        rw [e34, hc.2, ← hres]
        congr 1
        exact propext (by constructor <;> intro <;> omega)
      · refine J_iconst dX10_passDays_20 ?_
        exact RQ_z rfl dX10_passDays_21 (by decide) ⟨((jb_f (by omega)).symm).trans hres, S1, rfl, by unfold cpN at hA; rw [if_pos (by omega)] at hA; exact hA⟩
theorem qX10_passDays {S T : Nat → Int → Int} {D : List mx_C} (hx : RX (S 14)) (hs : HSt S) {lb lt : Option (List Int)} (hr : CR1 S D lb lt) {n : Int} (h_n : 0 ≤ n ∧ n < 2147483648) : SpI yX10_passDays cX10_passDays 3 (some .boolean) 5 [.ref 0, .int (jI n)] (W5 S T D) (fun v hp' => v = jb (S 14 1 + n ≤ 9999) ∧ ∃ S', hp' = W5 S' T D ∧ Fr [35] (cpN lt n.toNat S) S') := by
  refine Sp.of [.ref 0, .int (jI n), .retAddr 0] (by decide) (by simp) (Nat.le_of_ble_eq_true rfl) rfl (fun E => ?_)
  refine J_iconst dX10_passDays_0 ?_
  refine S_i2 dX10_passDays_1 (by decide) rfl ?_
  exact lX10_passDays h_n.2 n.toNat 0 S (by omega) (by omega) hx hs hr (by rw [Int.toNat_of_nonneg h_n.1]) (Fr.refl _ _)
def cdy (lt : Option (List Int)) (S : Nat → Int → Int) (n : Int) : Int := if (1 ≤ n ∧ n ≤ 60) ∧ S 14 1 + n ≤ 9999 then pc (S 14 3) - pc (cpN lt n.toNat S 14 3) else -1
def cdS (lt : Option (List Int)) (S : Nat → Int → Int) (n : Int) : Nat → Int → Int := if (1 ≤ n ∧ n ≤ 60) ∧ S 14 1 + n ≤ 9999 then cpN lt n.toNat S else S
set_option maxRecDepth 100000 in
theorem qX10_day {S T : Nat → Int → Int} {D : List mx_C} (hx : RX (S 14)) (hs : HSt S) {lb lt : Option (List Int)} (hr : CR1 S D lb lt) {n : Int} (h_n : -2147483648 ≤ n ∧ n < 2147483648) : SpI yX10_day cX10_day 3 (some .int) 6 [.ref 0, .int (jI n)] (W5 S T D) (fun v hp' => v = cdy lt S n ∧ ∃ S', hp' = W5 S' T D ∧ Fr [35] (cdS lt S n) S') := by
  have hv := hx.1
  have ha := hv.2
  have hpb := pc_B (S 14 3)
  refine Sp.of [.ref 0, .int (jI n), .retAddr 0] (by decide) (by simp) (Nat.le_of_ble_eq_true rfl) rfl (fun E => ?_)
  refine L_i1 dX10_day_0 ?_
  refine J_iconst dX10_day_1 ?_
  refine J_icmp_lt 26 dX10_day_2 rfl (by omega) (by omega) (fun c2 => ?_) (fun c2 => ?_)
  · refine J_iconst dX10_day_26 ?_
    exact RQ_i rfl dX10_day_27 ⟨(by unfold cdy; rw [if_neg (by omega)]), S, rfl, by unfold cdS; rw [if_neg (by omega)]; exact Fr.refl _ _⟩
  · refine L_i1 dX10_day_5 ?_
    refine J_bipush dX10_day_6 (by decide) ?_
    refine J_icmp_gt 26 dX10_day_8 rfl (by omega) (by omega) (fun c8 => ?_) (fun c8 => ?_)
    · refine J_iconst dX10_day_26 ?_
      exact RQ_i rfl dX10_day_27 ⟨(by unfold cdy; rw [if_neg (by omega)]), S, rfl, by unfold cdS; rw [if_neg (by omega)]; exact Fr.refl _ _⟩
    · refine L_a0 dX10_day_11 ?_
      refine GW_0_3 fX10_32 dX10_day_12 ?_
      refine C_v0F vX10_144 dX10_day_15 (qX4_date) rfl rfl (Nat.le_of_ble_eq_true rfl) (by decide) ?_
      refine L_i1 dX10_day_18 ?_
      refine J_iadd dX10_day_19 ?_
      refine J_sipush dX10_day_20 (by decide) ?_
      refine J_icmp_le 28 dX10_day_23 rfl (by omega) (by omega) (fun c23 => ?_) (fun c23 => ?_)
      · refine L_a0 dX10_day_28 ?_
        refine GW_0_3 fX10_32 dX10_day_29 ?_
        refine C_v0F vX10_132 dX10_day_32 (qX4_walking hv) rfl rfl (Nat.le_of_ble_eq_true rfl) (by decide) ?_
        refine S_i2 dX10_day_35 (by decide) rfl ?_
        refine L_a0 dX10_day_36 ?_
        refine L_i1 dX10_day_37 ?_
        refine C_v1I vX10_147 dX10_day_38 (qX10_passDays hx hs hr (by omega)) rfl rfl (Nat.le_of_ble_eq_true rfl) (by decide) (fun v38 hp38 hq38 => ?_)
        obtain ⟨v38, S38, rfl, hf38⟩ := hq38
        have e38 : S38 14 = cpN lt n.toNat S 14 := hf38 14 (by decide)
        refine E_pop dX10_day_41 rfl ?_
        refine L_i2 dX10_day_42 ?_
        refine L_a0 dX10_day_43 ?_
        refine GW_0_3 fX10_32 dX10_day_44 ?_
        refine C_v0F vX10_132 dX10_day_47 (qX4_walking (S := S38) (by rw [e38]; exact (cpN_I (lt := lt) n.toNat S hx hs).1.1)) rfl rfl (Nat.le_of_ble_eq_true rfl) (by decide) ?_
        refine J_isub dX10_day_50 ?_
        exact RQ_i rfl dX10_day_51 ⟨(by unfold cdy; rw [if_pos (by omega), e38]), S38, rfl, by unfold cdS; rw [if_pos (by omega)]; exact hf38⟩
      · refine J_iconst dX10_day_26 ?_
        exact RQ_i rfl dX10_day_27 ⟨(by unfold cdy; rw [if_neg (by omega)]), S, rfl, by unfold cdS; rw [if_neg (by omega)]; exact Fr.refl _ _⟩

