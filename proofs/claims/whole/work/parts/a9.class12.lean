/-! ===== the class: of, foretold, one line carried out ===== -/
def cof (f : Int → Int) (n q : Int) (lb lt : Option (List Int)) : Int := if ¬ (1 ≤ n ∧ n ≤ 8) then -2 else if q = 0 then rw_first f n else if q = 1 then rw_second f n else if q = 2 then rw_since f n else if q = 3 then cbt f n lb else if q = 4 then cti f n lt else -2
set_option maxRecDepth 100000 in
theorem qX10_of {S T : Nat → Int → Int} {D : List mx_C} (hv : RV (S 14)) (hl : RLn (S 14)) {lb lt : Option (List Int)} (hr : CR1 S D lb lt) {n : Int} (h_n : -2147483648 ≤ n ∧ n < 2147483648) {q : Int} (h_q : -2147483648 ≤ q ∧ q < 2147483648) : SpI yX10_of cX10_of 3 (some .int) 4 [.ref 0, .int (jI n), .int (jI q)] (W5 S T D) (fun v hp' => v = cof (S 14) n q lb lt ∧ ∃ S', hp' = W5 S' T D ∧ Fr [35] S S') := by
  have ha := hv.2
  obtain ⟨u, hu, _, _, hsc⟩ := hr.sp (T := T)
  refine Sp.of [.ref 0, .int (jI n), .int (jI q)] (by decide) (by simp) (Nat.le_of_ble_eq_true rfl) rfl (fun E => ?_)
  refine L_i1 dX10_of_0 ?_
  refine C_s1F vX10_180 dX10_of_1 (sX10_isNumber (by omega)) (Nat.le_of_ble_eq_true rfl) (by decide) ?_
  refine J_ifneB 10 dX10_of_4 rfl (fun c4 => ?_) (fun c4 => ?_)
  · refine L_i2 dX10_of_10 ?_
    refine J_tab5 44 53 62 71 85 91 dX10_of_11 (by omega) rfl rfl rfl rfl rfl rfl rfl (fun c11 => ?_) (fun c11 => ?_) (fun c11 => ?_) (fun c11 => ?_) (fun c11 => ?_) (fun c11 => ?_)
    · refine L_a0 dX10_of_44 ?_
      refine GW_0_3 fX10_32 dX10_of_45 ?_
      refine L_i1 dX10_of_48 ?_
      refine C_v1F vX10_183 dX10_of_49 (qX4_first hv.1 (by omega)) rfl rfl (Nat.le_of_ble_eq_true rfl) (by decide) ?_
      exact RQ_i rfl dX10_of_52 ⟨(by unfold cof; rw [if_neg (by omega), if_pos (by omega)]), S, rfl, Fr.refl _ _⟩
    · refine L_a0 dX10_of_53 ?_
      refine GW_0_3 fX10_32 dX10_of_54 ?_
      refine L_i1 dX10_of_57 ?_
      refine C_v1F vX10_187 dX10_of_58 (qX4_second hv.1 (by omega)) rfl rfl (Nat.le_of_ble_eq_true rfl) (by decide) ?_
      exact RQ_i rfl dX10_of_61 ⟨(by unfold cof; rw [if_neg (by omega), if_neg (by omega), if_pos (by omega)]), S, rfl, Fr.refl _ _⟩
    · refine L_a0 dX10_of_62 ?_
      refine GW_0_3 fX10_32 dX10_of_63 ?_
      refine L_i1 dX10_of_66 ?_
      refine C_v1F vX10_190 dX10_of_67 (qX4_since hv.1 (by omega)) rfl rfl (Nat.le_of_ble_eq_true rfl) (by decide) ?_
      exact RQ_i rfl dX10_of_70 ⟨(by unfold cof; rw [if_neg (by omega), if_neg (by omega), if_neg (by omega), if_pos (by omega)]), S, rfl, Fr.refl _ _⟩
    · refine L_a0 dX10_of_71 ?_
      refine L_a0 dX10_of_72 ?_
      refine L_a0 dX10_of_73 ?_
      refine GW_0_11 fX10_75 dX10_of_74 ?_
      refine C_v1F vX10_99 dX10_of_77 hsc rfl rfl (Nat.le_of_ble_eq_true rfl) (by decide) ?_
      refine L_i1 dX10_of_80 ?_
      refine C_v2I vX10_193 dX10_of_81 (qX10_betweenBy hv hl (by omega) hu) rfl rfl (Nat.le_of_ble_eq_true rfl) (by decide) (fun v81 hp81 hq81 => ?_)
      obtain ⟨e81, S81, rfl, hf81⟩ := hq81
      subst e81
      exact RQ_i rfl dX10_of_84 ⟨(by unfold cof; rw [if_neg (by omega), if_neg (by omega), if_neg (by omega), if_neg (by omega), if_pos (by omega)]), S81, rfl, hf81⟩
    · refine L_a0 dX10_of_85 ?_
      refine L_i1 dX10_of_86 ?_
      refine C_v1I vX10_197 dX10_of_87 (qX10_tiresOf hv hl (by omega) hr) rfl rfl (Nat.le_of_ble_eq_true rfl) (by decide) (fun v87 hp87 hq87 => ?_)
      obtain ⟨e87, S87, rfl, hf87⟩ := hq87
      subst e87
      exact RQ_i rfl dX10_of_90 ⟨(by unfold cof; rw [if_neg (by omega), if_neg (by omega), if_neg (by omega), if_neg (by omega), if_neg (by omega), if_pos (by omega)]), S87, rfl, hf87⟩
    · refine J_bipush dX10_of_91 (by decide) ?_
      exact RQ_i rfl dX10_of_93 ⟨(by unfold cof; rw [if_neg (by omega), if_neg (by omega), if_neg (by omega), if_neg (by omega), if_neg (by omega), if_neg (by omega)]), S, rfl, Fr.refl _ _⟩
  · refine J_bipush dX10_of_7 (by decide) ?_
    exact RQ_i rfl dX10_of_9 ⟨(by unfold cof; rw [if_pos (by omega)]), S, rfl, Fr.refl _ _⟩

def cfN (lt : Option (List Int)) : Nat → (Int → Int) → (Int → Int)
  | 0, f => f
  | m + 1, f => if 9999 ≤ f 1 then f else cfN lt m (cpd lt f)
theorem RX_ag {f g : Int → Int} (h : RX f) (hB : Bd g) (e : ∀ k, 0 ≤ k ∧ k < 55 → g k = f k) : RX g := by
  have ha := h.1.2
  exact RX_g h hB (fun q hq => e q (by omega)) (by rw [e 1 (by omega)]; omega) (by rw [e 2 (by omega)]; omega) (by rw [e 3 (by omega)]; omega) (by rw [e 4 (by omega)]; omega) (by rw [e 5 (by omega)]; omega) (fun k hk => by rw [e _ (by omega)]; exact (h.1.at hk).2.2.2) (fun k hk => by rw [e _ (by omega)]; exact h.2 k hk)
set_option maxRecDepth 100000 in
theorem lX10_foretold {E : mx_E} {S T : Nat → Int → Int} {D : List mx_C} {lb lt : Option (List Int)} (hr : CR1 S D lb lt) (hx0 : RX (S 14)) {n r : Int} (h_n : n ≤ 60) : ∀ (m : Nat) (i : Int) (S1 : Nat → Int → Int), i + m = n → 0 ≤ i → RX (S1 14) → Fr [14, 35] (upS S 16 (cpy (S 14) (S 16) 0 0 55)) S1 → cfN lt m (S1 14) 3 = r → Ev E yX10_foretold cX10_foretold 3 (some .int) (kI E 5 (fun v hp' => v = r ∧ ∃ S', hp' = W5 S' T D ∧ Fr [14, 16, 35] S S' ∧ (∀ k, 0 ≤ k ∧ k < 55 → S' 14 k = S 14 k) ∧ RX (S' 14))) 0 0 26 [.ref 0, .int (jI n), .int (jI i)] [] (W5 S1 T D) := by
  intro m
  induction m with
  | zero =>
    intro i S1 him hi hx hf hres
    have ha := hx.1.2
    have hres : S1 14 3 = r := hres
    have e16 : S1 16 = cpy (S 14) (S 16) 0 0 55 := (hf 16 (by decide)).trans (upS_s _ _ _)
    have hag : ∀ k, 0 ≤ k ∧ k < 55 → cpy (S1 16) (S1 14) 0 0 55 k = S 14 k := fun k hk => by
      rw [e16]
      unfold cpy
      rw [if_pos (by omega), if_pos (by omega)]
      congr 1
      omega
    have hbd : Bd (cpy (S1 16) (S1 14) 0 0 55) := fun q => by
      by_cases hq : 0 ≤ q ∧ q < 55
      · rw [hag q hq]; exact hx0.1.1 q
      · unfold cpy; rw [if_neg (by omega)]; exact hx.1.1 q
    refine L_i2 dX10_foretold_26 ?_
    refine L_i1 dX10_foretold_27 ?_
    refine J_icmp_ge 54 dX10_foretold_28 rfl (by omega) (by omega) (fun c28 => ?_) (fun c28 => ?_)
    · refine L_a0 dX10_foretold_54 ?_
      refine GW_0_3 fX10_32 dX10_foretold_55 ?_
      refine C_v0F vX10_206 dX10_foretold_58 (qX4_standing) rfl rfl (Nat.le_of_ble_eq_true rfl) (by decide) ?_
      refine S_i2 dX10_foretold_61 (by decide) rfl ?_
      refine L_a0 dX10_foretold_62 ?_
      refine GW_0_3 fX10_32 dX10_foretold_63 ?_
      refine L_a0 dX10_foretold_66 ?_
      refine GW_0_4 fX10_36 dX10_foretold_67 ?_
      refine C_v1V vX10_249 dX10_foretold_70 (qX4_become_13_15) rfl rfl (Nat.le_of_ble_eq_true rfl) (by decide) ?_
      refine L_i2 dX10_foretold_73 ?_
      exact RQ_i rfl dX10_foretold_74 ⟨hres, _, rfl, ((Fr_up S _ (by decide)).t hf (by simp)).trans (Fr_up S1 _ (by decide)), (by rw [upS_s]; exact hag), (by rw [upS_s]; exact RX_ag hx0 hbd hag)⟩
    · exfalso; omega
  | succ m ih =>
    intro i S1 him hi hx hf hres
    have ha := hx.1.2
    have e16 : S1 16 = cpy (S 14) (S 16) 0 0 55 := (hf 16 (by decide)).trans (upS_s _ _ _)
    have hag : ∀ k, 0 ≤ k ∧ k < 55 → cpy (S1 16) (S1 14) 0 0 55 k = S 14 k := fun k hk => by
      rw [e16]
      unfold cpy
      rw [if_pos (by omega), if_pos (by omega)]
      congr 1
      omega
    have hbd : Bd (cpy (S1 16) (S1 14) 0 0 55) := fun q => by
      by_cases hq : 0 ≤ q ∧ q < 55
      · rw [hag q hq]; exact hx0.1.1 q
      · unfold cpy; rw [if_neg (by omega)]; exact hx.1.1 q
    refine L_i2 dX10_foretold_26 ?_
    refine L_i1 dX10_foretold_27 ?_
    refine J_icmp_ge 54 dX10_foretold_28 rfl (by omega) (by omega) (fun c28 => ?_) (fun c28 => ?_)
    · exfalso; omega
    · refine L_a0 dX10_foretold_31 ?_
      refine GW_0_3 fX10_32 dX10_foretold_32 ?_
      refine C_v0F vX10_144 dX10_foretold_35 (qX4_date) rfl rfl (Nat.le_of_ble_eq_true rfl) (by decide) ?_
      refine J_sipush dX10_foretold_38 (by decide) ?_
      refine J_icmp_ge 54 dX10_foretold_41 rfl (by omega) (by omega) (fun c41 => ?_) (fun c41 => ?_)
      · unfold cfN at hres
        rw [if_pos (by omega)] at hres
        refine L_a0 dX10_foretold_54 ?_
        refine GW_0_3 fX10_32 dX10_foretold_55 ?_
        refine C_v0F vX10_206 dX10_foretold_58 (qX4_standing) rfl rfl (Nat.le_of_ble_eq_true rfl) (by decide) ?_
        refine S_i2 dX10_foretold_61 (by decide) rfl ?_
        refine L_a0 dX10_foretold_62 ?_
        refine GW_0_3 fX10_32 dX10_foretold_63 ?_
        refine L_a0 dX10_foretold_66 ?_
        refine GW_0_4 fX10_36 dX10_foretold_67 ?_
        refine C_v1V vX10_249 dX10_foretold_70 (qX4_become_13_15) rfl rfl (Nat.le_of_ble_eq_true rfl) (by decide) ?_
        refine L_i2 dX10_foretold_73 ?_
        exact RQ_i rfl dX10_foretold_74 ⟨hres, _, rfl, ((Fr_up S _ (by decide)).t hf (by simp)).trans (Fr_up S1 _ (by decide)), (by rw [upS_s]; exact hag), (by rw [upS_s]; exact RX_ag hx0 hbd hag)⟩
      · refine L_a0 dX10_foretold_44 ?_
        refine C_v0U vX10_252 dX10_foretold_45 (qX10_passDay ((hr.fr (Fr_up (l := [16]) S _ (by decide)) (by decide) (by decide)).fr hf (by decide) (by decide)) hx) rfl rfl (Nat.le_of_ble_eq_true rfl) (by decide) (fun hp45 hq45 => ?_)
        obtain ⟨S45, rfl, hf45, e45⟩ := hq45
        refine JI_2 dX10_foretold_48 (by decide) rfl ?_
        refine E_goto 26 dX10_foretold_51 rfl ?_
        unfold cfN at hres
        rw [if_neg (by omega)] at hres
        exact ih (i + 1) S45 (by omega) (by omega) (by rw [e45]; exact (RX_cpd hx (by omega)).1) (hf.trans hf45) (by rw [e45]; exact hres)
set_option maxRecDepth 100000 in
theorem qX10_foretold {S T : Nat → Int → Int} {D : List mx_C} (hx : RX (S 14)) {lb lt : Option (List Int)} (hr : CR1 S D lb lt) {n : Int} (h_n : -2147483648 ≤ n ∧ n < 2147483648) : SpI yX10_foretold cX10_foretold 3 (some .int) 5 [.ref 0, .int (jI n)] (W5 S T D) (fun v hp' => v = (if 1 ≤ n ∧ n ≤ 60 then cfN lt n.toNat (S 14) 3 else -1) ∧ ∃ S', hp' = W5 S' T D ∧ Fr [14, 16, 35] S S' ∧ (∀ k, 0 ≤ k ∧ k < 55 → S' 14 k = S 14 k) ∧ RX (S' 14)) := by
  refine Sp.of [.ref 0, .int (jI n), .retAddr 0] (by decide) (by simp) (Nat.le_of_ble_eq_true rfl) rfl (fun E => ?_)
  refine L_i1 dX10_foretold_0 ?_
  refine J_iconst dX10_foretold_1 ?_
  refine J_icmp_lt 11 dX10_foretold_2 rfl (by omega) (by omega) (fun c2 => ?_) (fun c2 => ?_)
  · refine J_iconst dX10_foretold_11 ?_
    exact RQ_i rfl dX10_foretold_12 ⟨(by rw [if_neg (by omega)]), S, rfl, Fr.refl _ _, (fun _ _ => rfl), hx⟩
  · refine L_i1 dX10_foretold_5 ?_
    refine J_bipush dX10_foretold_6 (by decide) ?_
    refine J_icmp_le 13 dX10_foretold_8 rfl (by omega) (by omega) (fun c8 => ?_) (fun c8 => ?_)
    · refine L_a0 dX10_foretold_13 ?_
      refine GW_0_4 fX10_36 dX10_foretold_14 ?_
      refine L_a0 dX10_foretold_17 ?_
      refine GW_0_3 fX10_32 dX10_foretold_18 ?_
      refine C_v1V vX10_249 dX10_foretold_21 (qX4_become_15_13) rfl rfl (Nat.le_of_ble_eq_true rfl) (by decide) ?_
      refine J_iconst dX10_foretold_24 ?_
      refine S_i2 dX10_foretold_25 (by decide) rfl ?_
      exact lX10_foretold hr hx (by omega) n.toNat 0 _ (by omega) (by omega) (by rw [upS_n (by decide)]; exact hx) (Fr.refl _ _) (by rw [if_pos (by omega), upS_n (by decide)])
    · refine J_iconst dX10_foretold_11 ?_
      exact RQ_i rfl dX10_foretold_12 ⟨(by rw [if_neg (by omega)]), S, rfl, Fr.refl _ _, (fun _ _ => rfl), hx⟩

def ccv (lb lt : Option (List Int)) (kd a b : Int) (S : Nat → Int → Int) : Int := if kd = 5 then jb (¬ csp (S 14) a b lb = -1) else if kd = 6 then jb (rw_holds (S 14) a) else if kd = 7 then jb (¬ pc (S 14 3) = 0) else if kd = 8 then jb (S 14 1 + a ≤ 9999) else if kd = 9 then jb (cl_len (S 14) a) else 1
def ccS (lb lt : Option (List Int)) (kd a b : Int) (S : Nat → Int → Int) : Nat → Int → Int := if kd = 5 then cjo S a b lb else if kd = 6 then (if rw_holds (S 14) a then upS (stK S) 14 (rw_depart (stK S 14) a 1) else S) else if kd = 7 then (if pc (S 14 3) = 0 then S else upS (stK S) 14 (rw_turn (stK S 14))) else if kd = 8 then cpN lt a.toNat S else if kd = 9 then (if cl_len (S 14) a then upS (stK S) 14 (up (stK S 14) 0 a) else S) else S
set_option maxRecDepth 100000 in
theorem qX10_carriedOut {S T : Nat → Int → Int} {D : List mx_C} (hx : RX (S 14)) (hs : HSt S) {lb lt : Option (List Int)} (hr : CR1 S D lb lt) {kd : Int} (h_kd : -2147483648 ≤ kd ∧ kd < 2147483648) {a : Int} (h_a : -2147483648 ≤ a ∧ a < 2147483648) {b : Int} (h_b : -2147483648 ≤ b ∧ b < 2147483648) (h8 : kd = 8 → 0 ≤ a) : SpI yX10_carriedOut cX10_carriedOut 4 (some .boolean) 6 [.ref 0, .int (jI kd), .int (jI a), .int (jI b)] (W5 S T D) (fun v hp' => v = ccv lb lt kd a b S ∧ ∃ S', hp' = W5 S' T D ∧ Fr [35] (ccS lb lt kd a b S) S') := by
  have hv := hx.1
  have ha := hv.2
  have hpb := pc_B (S 14 3)
  refine Sp.of [.ref 0, .int (jI kd), .int (jI a), .int (jI b)] (by decide) (by simp) (Nat.le_of_ble_eq_true rfl) rfl (fun E => ?_)
  refine L_i1 dX10_carriedOut_0 ?_
  refine J_tab5 42 58 64 78 36 84 dX10_carriedOut_1 (by omega) rfl rfl rfl rfl rfl rfl rfl (fun c1 => ?_) (fun c1 => ?_) (fun c1 => ?_) (fun c1 => ?_) (fun c1 => ?_) (fun c1 => ?_)
  · refine L_a0 dX10_carriedOut_42 ?_
    refine L_i2 dX10_carriedOut_43 ?_
    refine L_i3 dX10_carriedOut_44 ?_
    refine C_v2I vX10_385 dX10_carriedOut_45 (qX10_join hv hx.2 hs.1 hs.2 hr (by omega) (by omega)) rfl rfl (Nat.le_of_ble_eq_true rfl) (by decide) (fun v45 hp45 hq45 => ?_)
    obtain ⟨e45, S45, rfl, hf45⟩ := hq45
    subst e45
    have hcW := csp_W (f := S 14) (n := a) (p := b) (lb := lb) (by omega)
    refine J_iconst dX10_carriedOut_48 ?_
    refine J_icmp_eq 56 dX10_carriedOut_49 rfl (by omega) (by omega) (fun c49 => ?_) (fun c49 => ?_)
    · refine J_iconst dX10_carriedOut_56 ?_
      exact RQ_z rfl dX10_carriedOut_57 (by first | decide | exact jb_01 _) ⟨(by unfold ccv; rw [if_pos (by omega)]; first | exact (jb_t (by omega)).symm | exact (jb_f (by omega)).symm), S45, rfl, (by unfold ccS; rw [if_pos (by omega)]; exact hf45)⟩
    · refine J_iconst dX10_carriedOut_52 ?_
      refine E_goto 57 dX10_carriedOut_53 rfl ?_
      exact RQ_z rfl dX10_carriedOut_57 (by first | decide | exact jb_01 _) ⟨(by unfold ccv; rw [if_pos (by omega)]; first | exact (jb_t (by omega)).symm | exact (jb_f (by omega)).symm), S45, rfl, (by unfold ccS; rw [if_pos (by omega)]; exact hf45)⟩
  · refine L_a0 dX10_carriedOut_58 ?_
    refine L_i2 dX10_carriedOut_59 ?_
    refine C_v1F vX10_388 dX10_carriedOut_60 (qX10_leave hv hs.1 hs.2 (by omega)) rfl rfl (Nat.le_of_ble_eq_true rfl) (by decide) ?_
    exact RQ_z rfl dX10_carriedOut_63 (by first | decide | exact jb_01 _) ⟨(by unfold ccv; rw [if_neg (by omega), if_pos (by omega)]), _, rfl, (by unfold ccS; rw [if_neg (by omega), if_pos (by omega)]; exact Fr.refl _ _)⟩
  · refine L_a0 dX10_carriedOut_64 ?_
    refine C_v0F vX10_391 dX10_carriedOut_65 (qX10_turn hv hs.1 hs.2) rfl rfl (Nat.le_of_ble_eq_true rfl) (by decide) ?_
    refine J_iconst dX10_carriedOut_68 ?_
    refine J_icmp_eq 76 dX10_carriedOut_69 rfl (by omega) (by omega) (fun c69 => ?_) (fun c69 => ?_)
    · refine J_iconst dX10_carriedOut_76 ?_
      exact RQ_z rfl dX10_carriedOut_77 (by first | decide | exact jb_01 _) ⟨(by unfold ccv; rw [if_neg (by omega), if_neg (by omega), if_pos (by omega)]; first | exact (jb_t (by omega)).symm | exact (jb_f (by omega)).symm), _, rfl, (by unfold ccS; rw [if_neg (by omega), if_neg (by omega), if_pos (by omega)]; exact Fr.refl _ _)⟩
    · refine J_iconst dX10_carriedOut_72 ?_
      refine E_goto 77 dX10_carriedOut_73 rfl ?_
      exact RQ_z rfl dX10_carriedOut_77 (by first | decide | exact jb_01 _) ⟨(by unfold ccv; rw [if_neg (by omega), if_neg (by omega), if_pos (by omega)]; first | exact (jb_t (by omega)).symm | exact (jb_f (by omega)).symm), _, rfl, (by unfold ccS; rw [if_neg (by omega), if_neg (by omega), if_pos (by omega)]; exact Fr.refl _ _)⟩
  · refine L_a0 dX10_carriedOut_78 ?_
    refine L_i2 dX10_carriedOut_79 ?_
    refine C_v1I vX10_147 dX10_carriedOut_80 (qX10_passDays hx hs hr (by omega)) rfl rfl (Nat.le_of_ble_eq_true rfl) (by decide) (fun v80 hp80 hq80 => ?_)
    obtain ⟨e80, S80, rfl, hf80⟩ := hq80
    subst e80
    exact RQ_z rfl dX10_carriedOut_83 (by first | decide | exact jb_01 _) ⟨(by unfold ccv; rw [if_neg (by omega), if_neg (by omega), if_neg (by omega), if_pos (by omega)]), S80, rfl, (by unfold ccS; rw [if_neg (by omega), if_neg (by omega), if_neg (by omega), if_pos (by omega)]; exact hf80)⟩
  · refine L_a0 dX10_carriedOut_36 ?_
    refine L_i2 dX10_carriedOut_37 ?_
    refine C_v1F vX10_382 dX10_carriedOut_38 (qX10_length hv hs.1 hs.2 (by omega)) rfl rfl (Nat.le_of_ble_eq_true rfl) (by decide) ?_
    exact RQ_z rfl dX10_carriedOut_41 (by first | decide | exact jb_01 _) ⟨(by unfold ccv; rw [if_neg (by omega), if_neg (by omega), if_neg (by omega), if_neg (by omega), if_pos (by omega)]), _, rfl, (by unfold ccS; rw [if_neg (by omega), if_neg (by omega), if_neg (by omega), if_neg (by omega), if_pos (by omega)]; exact Fr.refl _ _)⟩
  · refine J_iconst dX10_carriedOut_84 ?_
    exact RQ_z rfl dX10_carriedOut_85 (by first | decide | exact jb_01 _) ⟨(by unfold ccv; rw [if_neg (by omega), if_neg (by omega), if_neg (by omega), if_neg (by omega), if_neg (by omega)]), S, rfl, (by unfold ccS; rw [if_neg (by omega), if_neg (by omega), if_neg (by omega), if_neg (by omega), if_neg (by omega)]; exact Fr.refl _ _)⟩

