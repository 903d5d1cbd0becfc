/-! ===== the class: who joins where ===== -/
def csp (f : Int → Int) (n p : Int) (lb : Option (List Int)) : Int := if ((1 ≤ n ∧ n ≤ 8) ∧ ¬ rw_holds f n ∧ (0 ≤ p ∧ p < f 0)) ∧ (p + cbt f n lb + 1 < f 0 ∧ ban (f 4) (bor (bsh p) (bsh (p + cbt f n lb + 1))) = 0) then p + cbt f n lb + 1 else -1
def ccn (f : Int → Int) (n : Int) (lb : Option (List Int)) : Int := if ¬ (1 ≤ n ∧ n ≤ 8) then -1 else if rw_holds f n then 0 else ban (bdf (bsh (f 0) - 1) (f 4)) (bdf (bsh (f 0) - 1) (f 4) / 2 ^ (cbt f n lb + 1).toNat)
theorem Fr_upS {l : List Nat} {S S1 : Nat → Int → Int} (h : Fr l S S1) (i : Nat) (g : Int → Int) : Fr l (upS S i g) (upS S1 i g) := fun j hj => by
  unfold upS
  split
  · rfl
  · exact h j hj
theorem Fr_stK {S S1 : Nat → Int → Int} (h : Fr [35] S S1) : Fr [35] (stK S) (stK S1) := by
  have e14 : S1 14 = S 14 := h 14 (by decide)
  have e17 : S1 17 = S 17 := h 17 (by decide)
  have e18 : S1 18 = S 18 := h 18 (by decide)
  unfold stK
  rw [e14, e17, e18]
  exact Fr_upS (Fr_upS h 18 _) 17 _
def cjo (S : Nat → Int → Int) (n p : Int) (lb : Option (List Int)) : Nat → Int → Int := if csp (S 14) n p lb = -1 then S else upS (stK S) 14 (rw_enter (S 14) n p (csp (S 14) n p lb))
set_option maxRecDepth 100000 in
theorem qX10_secondPlace {S T : Nat → Int → Int} {D : List mx_C} (hv : RV (S 14)) (hl : RLn (S 14)) {lb lt : Option (List Int)} (hr : CR1 S D lb lt) {n : Int} (h_n : -2147483648 ≤ n ∧ n < 2147483648) {p : Int} (h_p : -2147483648 ≤ p ∧ p < 2147483648) : SpI yX10_secondPlace cX10_secondPlace 4 (some .int) 4 [.ref 0, .int (jI n), .int (jI p)] (W5 S T D) (fun v hp' => v = csp (S 14) n p lb ∧ ∃ S', hp' = W5 S' T D ∧ Fr [35] S S') := by
  have ha := hv.2
  obtain ⟨u, hu, _, _, hsc⟩ := hr.sp (T := T)
  refine Sp.of [.ref 0, .int (jI n), .int (jI p), .retAddr 0] (by decide) (by simp) (Nat.le_of_ble_eq_true rfl) rfl (fun E => ?_)
  refine L_i1 dX10_secondPlace_0 ?_
  refine C_s1F vX10_180 dX10_secondPlace_1 (sX10_isNumber (by omega)) (Nat.le_of_ble_eq_true rfl) (by decide) ?_
  refine J_ifeqB 33 dX10_secondPlace_4 rfl (fun c4 => ?_) (fun c4 => ?_)
  · refine J_iconst dX10_secondPlace_33 ?_
    exact RQ_i rfl dX10_secondPlace_34 ⟨(by unfold csp; rw [if_neg (fun hh => by first | exact c4 hh.1.1 | exact hh.1.2.1 c15 | omega)]), S, rfl, Fr.refl _ _⟩
  · refine L_a0 dX10_secondPlace_7 ?_
    refine GW_0_3 fX10_32 dX10_secondPlace_8 ?_
    refine L_i1 dX10_secondPlace_11 ?_
    refine C_v1F vX10_125 dX10_secondPlace_12 (qX4_holds hv.1 (by omega)) rfl rfl (Nat.le_of_ble_eq_true rfl) (by decide) ?_
    refine J_ifneB 33 dX10_secondPlace_15 rfl (fun c15 => ?_) (fun c15 => ?_)
    · refine J_iconst dX10_secondPlace_33 ?_
      exact RQ_i rfl dX10_secondPlace_34 ⟨(by unfold csp; rw [if_neg (fun hh => by first | exact c4 hh.1.1 | exact hh.1.2.1 c15 | omega)]), S, rfl, Fr.refl _ _⟩
    · refine L_i2 dX10_secondPlace_18 ?_
      refine J_if_lt 33 dX10_secondPlace_19 rfl (by omega) (fun c19 => ?_) (fun c19 => ?_)
      · refine J_iconst dX10_secondPlace_33 ?_
        exact RQ_i rfl dX10_secondPlace_34 ⟨(by unfold csp; rw [if_neg (fun hh => by first | exact c4 hh.1.1 | exact hh.1.2.1 c15 | omega)]), S, rfl, Fr.refl _ _⟩
      · refine L_i2 dX10_secondPlace_22 ?_
        refine L_a0 dX10_secondPlace_23 ?_
        refine GW_0_3 fX10_32 dX10_secondPlace_24 ?_
        refine C_v0F vX10_103 dX10_secondPlace_27 (qX4_places) rfl rfl (Nat.le_of_ble_eq_true rfl) (by decide) ?_
        refine J_icmp_lt 35 dX10_secondPlace_30 rfl (by omega) (by omega) (fun c30 => ?_) (fun c30 => ?_)
        · refine L_i2 dX10_secondPlace_35 ?_
          refine L_a0 dX10_secondPlace_36 ?_
          refine L_a0 dX10_secondPlace_37 ?_
          refine L_a0 dX10_secondPlace_38 ?_
          refine GW_0_11 fX10_75 dX10_secondPlace_39 ?_
          refine C_v1F vX10_99 dX10_secondPlace_42 hsc rfl rfl (Nat.le_of_ble_eq_true rfl) (by decide) ?_
          refine L_i1 dX10_secondPlace_45 ?_
          refine C_v2I vX10_193 dX10_secondPlace_46 (qX10_betweenBy hv hl (by omega) hu) rfl rfl (Nat.le_of_ble_eq_true rfl) (by decide) (fun v46 hp46 hq46 => ?_)
          obtain ⟨e46, S46, rfl, hf46⟩ := hq46
          subst e46
          have e14 : S46 14 = S 14 := hf46 14 (by decide)
          have hbB := cbt_B (f := S 14) (n := n) (by omega) lb
          refine J_iadd dX10_secondPlace_49 ?_
          refine J_iconst dX10_secondPlace_50 ?_
          refine J_iadd dX10_secondPlace_51 ?_
          refine S_i3 dX10_secondPlace_52 (by decide) rfl ?_
          refine L_i3 dX10_secondPlace_53 ?_
          refine L_a0 dX10_secondPlace_54 ?_
          refine GW_0_3 fX10_32 dX10_secondPlace_55 ?_
          refine C_v0F vX10_103 dX10_secondPlace_58 (qX4_places) rfl rfl (Nat.le_of_ble_eq_true rfl) (by decide) ?_
          refine J_eqi (b := S 14 0) (by rw [e14]) ?_
          refine J_icmp_ge 82 dX10_secondPlace_61 rfl (by omega) (by omega) (fun c61 => ?_) (fun c61 => ?_)
          · refine J_iconst dX10_secondPlace_82 ?_
            exact RQ_i rfl dX10_secondPlace_83 ⟨(by unfold csp; rw [if_neg (fun hh => by first | exact c4 hh.1.1 | exact hh.1.2.1 c15 | omega)]), S46, rfl, hf46⟩
          · refine L_a0 dX10_secondPlace_64 ?_
            refine GW_0_3 fX10_32 dX10_secondPlace_65 ?_
            refine C_v0F vX10_107 dX10_secondPlace_68 (qX4_taken) rfl rfl (Nat.le_of_ble_eq_true rfl) (by decide) ?_
            refine J_eqi (b := S 14 4) (by rw [e14]) ?_
            refine J_iconst dX10_secondPlace_71 ?_
            refine L_i2 dX10_secondPlace_72 ?_
            refine J_1shl dX10_secondPlace_73 (by omega) ?_
            refine J_iconst dX10_secondPlace_74 ?_
            refine L_i3 dX10_secondPlace_75 ?_
            refine J_1shl dX10_secondPlace_76 (by omega) ?_
            refine J_iorG dX10_secondPlace_77 (bsh_nn _) (bsh_nn _) ?_
            refine J_iandG dX10_secondPlace_78 (by omega) (bor_nn _ _) ?_
            have hn1 := ban_nn (S 14 4) (bor (bsh p) (bsh (p + cbt (S 14) n lb + 1)))
            have hn2 := ban_le' (S 14 4) (bor (bsh p) (bsh (p + cbt (S 14) n lb + 1))) (by omega)
            refine J_if_eq 84 dX10_secondPlace_79 rfl (by omega) (fun c79 => ?_) (fun c79 => ?_)
            · refine L_i3 dX10_secondPlace_84 ?_
              exact RQ_i rfl dX10_secondPlace_85 ⟨(by unfold csp; rw [if_pos ⟨⟨c4, c15, by omega⟩, by omega⟩]), S46, rfl, hf46⟩
            · refine J_iconst dX10_secondPlace_82 ?_
              exact RQ_i rfl dX10_secondPlace_83 ⟨(by unfold csp; rw [if_neg (fun hh => by first | exact c4 hh.1.1 | exact hh.1.2.1 c15 | omega)]), S46, rfl, hf46⟩
        · refine J_iconst dX10_secondPlace_33 ?_
          exact RQ_i rfl dX10_secondPlace_34 ⟨(by unfold csp; rw [if_neg (fun hh => by first | exact c4 hh.1.1 | exact hh.1.2.1 c15 | omega)]), S, rfl, Fr.refl _ _⟩

set_option maxRecDepth 100000 in
theorem qX10_can {S T : Nat → Int → Int} {D : List mx_C} (hv : RV (S 14)) (hl : RLn (S 14)) {lb lt : Option (List Int)} (hr : CR1 S D lb lt) {n : Int} (h_n : -2147483648 ≤ n ∧ n < 2147483648) : SpI yX10_can cX10_can 3 (some .int) 4 [.ref 0, .int (jI n)] (W5 S T D) (fun v hp' => v = ccn (S 14) n lb ∧ ∃ S', hp' = W5 S' T D ∧ Fr [35] S S') := by
  have ha := hv.2
  obtain ⟨u, hu, _, _, hsc⟩ := hr.sp (T := T)
  have hb0 : 1 ≤ bsh (S 14 0) ∧ bsh (S 14 0) ≤ 65536 := ⟨by unfold bsh; exact Int.ofNat_le.mpr (Nat.one_le_two_pow), bsh_16 (by omega)⟩
  have hv1 := bdf_nn (bsh (S 14 0) - 1) (S 14 4)
  have hv2 := bdf_le (bsh (S 14 0) - 1) (S 14 4) (by omega)
  refine Sp.of [.ref 0, .int (jI n), .retAddr 0] (by decide) (by simp) (Nat.le_of_ble_eq_true rfl) rfl (fun E => ?_)
  refine L_i1 dX10_can_0 ?_
  refine C_s1F vX10_180 dX10_can_1 (sX10_isNumber (by omega)) (Nat.le_of_ble_eq_true rfl) (by decide) ?_
  refine J_ifneB 9 dX10_can_4 rfl (fun c4 => ?_) (fun c4 => ?_)
  · refine L_a0 dX10_can_9 ?_
    refine GW_0_3 fX10_32 dX10_can_10 ?_
    refine L_i1 dX10_can_13 ?_
    refine C_v1F vX10_125 dX10_can_14 (qX4_holds hv.1 (by omega)) rfl rfl (Nat.le_of_ble_eq_true rfl) (by decide) ?_
    refine J_ifeqB 22 dX10_can_17 rfl (fun c17 => ?_) (fun c17 => ?_)
    · refine L_a0 dX10_can_22 ?_
      refine GW_0_3 fX10_32 dX10_can_23 ?_
      refine C_v0F vX10_209 dX10_can_26 (qX4_vacant hv) rfl rfl (Nat.le_of_ble_eq_true rfl) (by decide) ?_
      refine S_i2 dX10_can_29 (by decide) rfl ?_
      refine L_i2 dX10_can_30 ?_
      refine L_i2 dX10_can_31 ?_
      refine L_a0 dX10_can_32 ?_
      refine L_a0 dX10_can_33 ?_
      refine L_a0 dX10_can_34 ?_
      refine GW_0_11 fX10_75 dX10_can_35 ?_
      refine C_v1F vX10_99 dX10_can_38 hsc rfl rfl (Nat.le_of_ble_eq_true rfl) (by decide) ?_
      refine L_i1 dX10_can_41 ?_
      refine C_v2I vX10_193 dX10_can_42 (qX10_betweenBy hv hl (by omega) hu) rfl rfl (Nat.le_of_ble_eq_true rfl) (by decide) (fun v42 hp42 hq42 => ?_)
      obtain ⟨e42, S42, rfl, hf42⟩ := hq42
      subst e42
      have e14 : S42 14 = S 14 := hf42 14 (by decide)
      have hbB := cbt_B (f := S 14) (n := n) (by omega) lb
      refine J_iconst dX10_can_45 ?_
      refine J_iadd dX10_can_46 ?_
      refine J_iushrG dX10_can_47 (by omega) (by omega) ?_
      refine J_iandG dX10_can_48 (by omega) (Int.ediv_nonneg (by omega) (Int.pow_nonneg (by decide))) ?_
      exact RQ_i rfl dX10_can_49 ⟨(by unfold ccn; rw [if_neg (by omega), if_neg c17]), S42, rfl, hf42⟩
    · refine J_iconst dX10_can_20 ?_
      exact RQ_i rfl dX10_can_21 ⟨(by unfold ccn; rw [if_neg (by omega), if_pos c17]), S, rfl, Fr.refl _ _⟩
  · refine J_iconst dX10_can_7 ?_
    exact RQ_i rfl dX10_can_8 ⟨(by unfold ccn; rw [if_pos c4]), S, rfl, Fr.refl _ _⟩

theorem csp_B {f : Int → Int} {n p : Int} {lb : Option (List Int)} (h0 : f 0 ≤ 16) (h : ¬ csp f n p lb = -1) : (1 ≤ n ∧ n ≤ 8) ∧ ¬ rw_holds f n ∧ (0 ≤ p ∧ p ≤ 15) ∧ (0 ≤ csp f n p lb ∧ csp f n p lb ≤ 15) := by
  unfold csp at h ⊢
  split
  · rename_i hh
    have := cbt_B (f := f) hh.1.1 lb
    exact ⟨hh.1.1, hh.1.2.1, by omega, by omega⟩
  · rename_i hh
    rw [if_neg hh] at h
    exact absurd rfl h
theorem csp_W {f : Int → Int} {n p : Int} {lb : Option (List Int)} (h0 : f 0 ≤ 16) : -1 ≤ csp f n p lb ∧ csp f n p lb ≤ 15 := by
  by_cases h : csp f n p lb = -1
  · omega
  · have := csp_B h0 h
    omega
set_option maxRecDepth 100000 in
theorem qX10_join {S T : Nat → Int → Int} {D : List mx_C} (hv : RV (S 14)) (hl : RLn (S 14)) (h1 : 0 ≤ S 17 1 ∧ S 17 1 ≤ 29) (h2 : 0 ≤ S 17 2 ∧ S 17 2 ≤ 30) {lb lt : Option (List Int)} (hr : CR1 S D lb lt) {n : Int} (h_n : -2147483648 ≤ n ∧ n < 2147483648) {p : Int} (h_p : -2147483648 ≤ p ∧ p < 2147483648) : SpI yX10_join cX10_join 4 (some .int) 5 [.ref 0, .int (jI n), .int (jI p)] (W5 S T D) (fun v hp' => v = csp (S 14) n p lb ∧ ∃ S', hp' = W5 S' T D ∧ Fr [35] (cjo S n p lb) S') := by
  have ha := hv.2
  refine Sp.of [.ref 0, .int (jI n), .int (jI p), .retAddr 0] (by decide) (by simp) (Nat.le_of_ble_eq_true rfl) rfl (fun E => ?_)
  refine L_a0 dX10_join_0 ?_
  refine L_i1 dX10_join_1 ?_
  refine L_i2 dX10_join_2 ?_
  refine C_v2I vX10_117 dX10_join_3 (qX10_secondPlace hv hl hr h_n h_p) rfl rfl (Nat.le_of_ble_eq_true rfl) (by decide) (fun v3 hp3 hq3 => ?_)
  obtain ⟨e3, S3, rfl, hf3⟩ := hq3
  subst e3
  have e14 : S3 14 = S 14 := hf3 14 (by decide)
  have e17 : S3 17 = S 17 := hf3 17 (by decide)
  have hcW := csp_W (f := S 14) (n := n) (p := p) (lb := lb) (by omega)
  refine S_i3 dX10_join_6 (by decide) rfl ?_
  refine L_i3 dX10_join_7 ?_
  refine J_iconst dX10_join_8 ?_
  refine J_icmp_eq 33 dX10_join_9 rfl (by omega) (by omega) (fun c9 => ?_) (fun c9 => ?_)
  · refine L_i3 dX10_join_33 ?_
    exact RQ_i rfl dX10_join_34 ⟨rfl, _, rfl, (by first | (unfold cjo; rw [if_pos c9]; exact hf3) | (unfold cjo; rw [if_neg c9, stK_14, e14]; exact Fr_upS (Fr_stK hf3) 14 _))⟩
  · have hcb := csp_B (f := S 14) (n := n) (p := p) (lb := lb) (by omega) c9
    refine L_a0 dX10_join_12 ?_
    refine GW_0_5 fX10_42 dX10_join_13 ?_
    refine L_a0 dX10_join_16 ?_
    refine GW_0_3 fX10_32 dX10_join_17 ?_
    refine C_v1V vX10_110 dX10_join_20 (qX8_keep (by rw [e17]; exact h1) (by rw [e17]; exact h2)) rfl rfl (Nat.le_of_ble_eq_true rfl) (by decide) ?_
    refine L_a0 dX10_join_23 ?_
    refine GW_0_3 fX10_32 dX10_join_24 ?_
    refine L_i1 dX10_join_27 ?_
    refine L_i2 dX10_join_28 ?_
    refine L_i3 dX10_join_29 ?_
    refine C_v3V vX10_121 dX10_join_30 (qX4_enter (S := stK S3) (by rw [stK_14, e14]; exact hv) (by omega) (by rw [stK_14, e14]; omega) (by omega) (by omega)) rfl rfl (Nat.le_of_ble_eq_true rfl) (by decide) ?_
    refine L_i3 dX10_join_33 ?_
    exact RQ_i rfl dX10_join_34 ⟨rfl, _, rfl, (by first | (unfold cjo; rw [if_pos c9]; exact hf3) | (unfold cjo; rw [if_neg c9, stK_14, e14]; exact Fr_upS (Fr_stK hf3) 14 _))⟩

