/-! ===== the class: measure, and what is asked of rows ===== -/
def FJ (S : Nat → Int → Int) : Prop := FI fan S ∧ (S 21 6 = 0 → (1 ≤ S 21 7 ∧ ∀ n, 1 ≤ n ∧ n ≤ 8 → 1 ≤ S 22 n))
theorem FGo.j {S : Nat → Int → Int} (h : FGo S) : FJ S := ⟨h.1, fun _ => ⟨h.2.2.2.1, h.2.2.1⟩⟩
abbrev LF : List Nat := [21, 22, 23, 24, 25, 26, 27, 35]
theorem lrn_6 {S : Nat → Int → Int} {n b : Int} (h : lrn S n b 21 6 = 0) : S 21 6 = 0 := by
  unfold lrn at h
  split at h
  · rw [upS_s, up_s] at h; omega
  · exact h
set_option maxRecDepth 100000 in
theorem lX10_measuren {E : mx_E} {S T : Nat → Int → Int} {D : List mx_C} (hv : RV (S 14)) (hl : RLn (S 14)) {lb lt : Option (List Int)} {i : Nat} (hu : CRu D (.null) lb lt) (hJ : FJ S) (h7 : S 21 7 ≤ 99999) : ∀ (j : Nat) (k : Int) (S1 : Nat → Int → Int), k + j = 9 → 1 ≤ k → FI fan S1 → Fr [21, 22, 35] S S1 → S1 21 7 = S 21 7 → (S1 21 6 = 0 → S 21 6 = 0) → (∀ n, 1 ≤ n ∧ n < k → S1 22 n = cbt (S 14) n lb + 1) → Ev E yX10_measure cX10_measure 3 none (kU E 4 (fun hp' => ∃ S', hp' = W5 S' T D ∧ FGo S' ∧ Fr [21, 22, 23, 24, 35] S S' ∧ (∀ n, 1 ≤ n ∧ n ≤ 8 → S' 22 n = cbt (S 14) n lb + 1) ∧ S' 21 7 ≤ S 21 7 + 1)) 0 0 11 [.ref 0, .null, .int (jI k)] [] (W5 S1 T D) := by
  intro j
  induction j with
  | zero =>
    intro k S1 hkj hk hI hF e7 e6 hN
    have hk9 : k = 9 := by omega
    subst hk9
    have hN8 : ∀ n, 1 ≤ n ∧ n ≤ 8 → S1 22 n = cbt (S 14) n lb + 1 := fun n hn => hN n (by omega)
    have hB8 : ∀ n, 1 ≤ n ∧ n ≤ 8 → 1 ≤ S1 22 n := fun n hn => by have := cbt_B (f := S 14) hn lb; rw [hN8 n hn]; omega
    have hz := hI.2.2.1
    by_cases h6 : S1 21 6 = 0
    · have hj := hJ.2 (e6 h6)
      refine L_i2 dX10_measure_11 ?_
      refine J_bipush dX10_measure_12 (by decide) ?_
      refine J_icmp_gt 37 dX10_measure_14 rfl (by omega) (by omega) (fun c14 => ?_) (fun c14 => ?_)
      · refine L_a0 dX10_measure_37 ?_
        refine GW_0_7 fX10_56 dX10_measure_38 ?_
        refine C_v0V vX10_368 dX10_measure_41 (qX0_settle0 h6) rfl rfl (Nat.le_of_ble_eq_true rfl) (by decide) ?_
        exact RQ_v rfl dX10_measure_44 ⟨S1, rfl, ⟨hI, h6, hB8, by omega, by omega⟩, hF.mono (by simp), hN8, by omega⟩
      · exfalso; omega
    · have h61 : S1 21 6 = 1 := hz.resolve_left h6
      have h70 := hI.2.2.2.1
      refine L_i2 dX10_measure_11 ?_
      refine J_bipush dX10_measure_12 (by decide) ?_
      refine J_icmp_gt 37 dX10_measure_14 rfl (by omega) (by omega) (fun c14 => ?_) (fun c14 => ?_)
      · refine L_a0 dX10_measure_37 ?_
        refine GW_0_7 fX10_56 dX10_measure_38 ?_
        refine C_v0U vX10_368 dX10_measure_41 (qX0_settle1 hI.1 h61) rfl rfl (Nat.le_of_ble_eq_true rfl) (by decide) (fun hp41 hq41 => ?_)
        obtain ⟨S2, rfl, hF2, e21, hK2⟩ := hq41
        have e22 : S2 22 = S1 22 := hF2 22 (by decide)
        have e76 : S2 21 6 = 0 := by rw [e21, up_n (by decide), up_s]
        have e77 : S2 21 7 = S1 21 7 + 1 := by rw [e21, up_s]
        exact RQ_v rfl dX10_measure_44 ⟨S2, rfl, ⟨FI_stl hI hF2 e21 hK2, e76, by rw [e22]; exact hB8, by omega, by omega⟩, Fr.t (hF.mono (l' := [21, 22, 23, 24, 35]) (by simp)) hF2 (by simp), by rw [e22]; exact hN8, by omega⟩
      · exfalso; omega
  | succ j ih =>
    intro k S1 hkj hk hI hF e7 e6 hN
    have e14 : S1 14 = S 14 := hF 14 (by decide)
    have hbB := cbt_B (f := S 14) (n := k) (by omega) lb
    refine L_i2 dX10_measure_11 ?_
    refine J_bipush dX10_measure_12 (by decide) ?_
    refine J_icmp_gt 37 dX10_measure_14 rfl (by omega) (by omega) (fun c14 => ?_) (fun c14 => ?_)
    · exfalso; omega
    · refine L_a0 dX10_measure_17 ?_
      refine GW_0_7 fX10_56 dX10_measure_18 ?_
      refine L_i2 dX10_measure_21 ?_
      refine L_a0 dX10_measure_22 ?_
      refine L_n1 dX10_measure_23 ?_
      refine L_i2 dX10_measure_24 ?_
      refine C_v2I vX10_193 dX10_measure_25 (qX10_betweenBy (S := S1) (by rw [e14]; exact hv) (by rw [e14]; exact hl) (n := k) (by omega) hu) rfl rfl (Nat.le_of_ble_eq_true rfl) (by decide) (fun v25 hp25 hq25 => ?_)
      obtain ⟨ev, S2, rfl, hF2⟩ := hq25
      rw [e14] at ev
      subst ev
      have hI2 := hI.fr hF2 (by decide) (by decide) (by decide) (by decide) (by decide) (by decide)
      have h21 : S2 21 = S1 21 := hF2 21 (by decide)
      have h22 : S2 22 = S1 22 := hF2 22 (by decide)
      refine C_v2V vX10_365 dX10_measure_28 (qX0_learn hI2.1 (by omega) hbB) rfl rfl (Nat.le_of_ble_eq_true rfl) (by decide) ?_
      refine JI_2 dX10_measure_31 (by decide) rfl ?_
      refine E_goto 11 dX10_measure_34 rfl ?_
      obtain ⟨l1, l2, l3, l4, l5⟩ := FI_lrn hI2 (n := k) (b := cbt (S 14) k lb) (by omega) hbB
      refine ih (k + 1) _ (by omega) (by omega) l1 (Fr.t (Fr.t hF hF2 (by simp)) l2 (by simp)) (by rw [l5, h21]; exact e7) (fun h => e6 (by rw [← h21]; exact lrn_6 h)) (fun n hn => ?_)
      by_cases e : n = k
      · subst e; exact l4
      · rw [l3 n e, h22]; exact hN n (by omega)
set_option maxRecDepth 100000 in
theorem lX10_measurer {E : mx_E} {S T : Nat → Int → Int} {D : List mx_C} (hv : RV (S 14)) (hl : RLn (S 14)) {lb lt : Option (List Int)} {i : Nat} (hu : CRu D (.ref i) lb lt) (hJ : FJ S) (h7 : S 21 7 ≤ 99999) : ∀ (j : Nat) (k : Int) (S1 : Nat → Int → Int), k + j = 9 → 1 ≤ k → FI fan S1 → Fr [21, 22, 35] S S1 → S1 21 7 = S 21 7 → (S1 21 6 = 0 → S 21 6 = 0) → (∀ n, 1 ≤ n ∧ n < k → S1 22 n = cbt (S 14) n lb + 1) → Ev E yX10_measure cX10_measure 3 none (kU E 4 (fun hp' => ∃ S', hp' = W5 S' T D ∧ FGo S' ∧ Fr [21, 22, 23, 24, 35] S S' ∧ (∀ n, 1 ≤ n ∧ n ≤ 8 → S' 22 n = cbt (S 14) n lb + 1) ∧ S' 21 7 ≤ S 21 7 + 1)) 0 0 11 [.ref 0, .ref i, .int (jI k)] [] (W5 S1 T D) := by
  intro j
  induction j with
  | zero =>
    intro k S1 hkj hk hI hF e7 e6 hN
    have hk9 : k = 9 := by omega
    subst hk9
    have hN8 : ∀ n, 1 ≤ n ∧ n ≤ 8 → S1 22 n = cbt (S 14) n lb + 1 := fun n hn => hN n (by omega)
    have hB8 : ∀ n, 1 ≤ n ∧ n ≤ 8 → 1 ≤ S1 22 n := fun n hn => by have := cbt_B (f := S 14) hn lb; rw [hN8 n hn]; omega
    have hz := hI.2.2.1
    by_cases h6 : S1 21 6 = 0
    · have hj := hJ.2 (e6 h6)
      refine L_i2 dX10_measure_11 ?_
      refine J_bipush dX10_measure_12 (by decide) ?_
      refine J_icmp_gt 37 dX10_measure_14 rfl (by omega) (by omega) (fun c14 => ?_) (fun c14 => ?_)
      · refine L_a0 dX10_measure_37 ?_
        refine GW_0_7 fX10_56 dX10_measure_38 ?_
        refine C_v0V vX10_368 dX10_measure_41 (qX0_settle0 h6) rfl rfl (Nat.le_of_ble_eq_true rfl) (by decide) ?_
        exact RQ_v rfl dX10_measure_44 ⟨S1, rfl, ⟨hI, h6, hB8, by omega, by omega⟩, hF.mono (by simp), hN8, by omega⟩
      · exfalso; omega
    · have h61 : S1 21 6 = 1 := hz.resolve_left h6
      have h70 := hI.2.2.2.1
      refine L_i2 dX10_measure_11 ?_
      refine J_bipush dX10_measure_12 (by decide) ?_
      refine J_icmp_gt 37 dX10_measure_14 rfl (by omega) (by omega) (fun c14 => ?_) (fun c14 => ?_)
      · refine L_a0 dX10_measure_37 ?_
        refine GW_0_7 fX10_56 dX10_measure_38 ?_
        refine C_v0U vX10_368 dX10_measure_41 (qX0_settle1 hI.1 h61) rfl rfl (Nat.le_of_ble_eq_true rfl) (by decide) (fun hp41 hq41 => ?_)
        obtain ⟨S2, rfl, hF2, e21, hK2⟩ := hq41
        have e22 : S2 22 = S1 22 := hF2 22 (by decide)
        have e76 : S2 21 6 = 0 := by rw [e21, up_n (by decide), up_s]
        have e77 : S2 21 7 = S1 21 7 + 1 := by rw [e21, up_s]
        exact RQ_v rfl dX10_measure_44 ⟨S2, rfl, ⟨FI_stl hI hF2 e21 hK2, e76, by rw [e22]; exact hB8, by omega, by omega⟩, Fr.t (hF.mono (l' := [21, 22, 23, 24, 35]) (by simp)) hF2 (by simp), by rw [e22]; exact hN8, by omega⟩
      · exfalso; omega
  | succ j ih =>
    intro k S1 hkj hk hI hF e7 e6 hN
    have e14 : S1 14 = S 14 := hF 14 (by decide)
    have hbB := cbt_B (f := S 14) (n := k) (by omega) lb
    refine L_i2 dX10_measure_11 ?_
    refine J_bipush dX10_measure_12 (by decide) ?_
    refine J_icmp_gt 37 dX10_measure_14 rfl (by omega) (by omega) (fun c14 => ?_) (fun c14 => ?_)
    · exfalso; omega
    · refine L_a0 dX10_measure_17 ?_
      refine GW_0_7 fX10_56 dX10_measure_18 ?_
      refine L_i2 dX10_measure_21 ?_
      refine L_a0 dX10_measure_22 ?_
      refine L_a1 dX10_measure_23 ?_
      refine L_i2 dX10_measure_24 ?_
      refine C_v2I vX10_193 dX10_measure_25 (qX10_betweenBy (S := S1) (by rw [e14]; exact hv) (by rw [e14]; exact hl) (n := k) (by omega) hu) rfl rfl (Nat.le_of_ble_eq_true rfl) (by decide) (fun v25 hp25 hq25 => ?_)
      obtain ⟨ev, S2, rfl, hF2⟩ := hq25
      rw [e14] at ev
      subst ev
      have hI2 := hI.fr hF2 (by decide) (by decide) (by decide) (by decide) (by decide) (by decide)
      have h21 : S2 21 = S1 21 := hF2 21 (by decide)
      have h22 : S2 22 = S1 22 := hF2 22 (by decide)
      refine C_v2V vX10_365 dX10_measure_28 (qX0_learn hI2.1 (by omega) hbB) rfl rfl (Nat.le_of_ble_eq_true rfl) (by decide) ?_
      refine JI_2 dX10_measure_31 (by decide) rfl ?_
      refine E_goto 11 dX10_measure_34 rfl ?_
      obtain ⟨l1, l2, l3, l4, l5⟩ := FI_lrn hI2 (n := k) (b := cbt (S 14) k lb) (by omega) hbB
      refine ih (k + 1) _ (by omega) (by omega) l1 (Fr.t (Fr.t hF hF2 (by simp)) l2 (by simp)) (by rw [l5, h21]; exact e7) (fun h => e6 (by rw [← h21]; exact lrn_6 h)) (fun n hn => ?_)
      by_cases e : n = k
      · subst e; exact l4
      · rw [l3 n e, h22]; exact hN n (by omega)
set_option maxRecDepth 100000 in
theorem qX10_measure {S T : Nat → Int → Int} {D : List mx_C} (hv : RV (S 14)) (hl : RLn (S 14)) {lb lt : Option (List Int)} (hr : CR1 S D lb lt) (hJ : FJ S) (h7 : S 21 7 ≤ 99999) : SpU yX10_measure cX10_measure 3 none 4 [.ref 0] (W5 S T D) (fun hp' => ∃ S', hp' = W5 S' T D ∧ FGo S' ∧ Fr [21, 22, 23, 24, 35] S S' ∧ (∀ n, 1 ≤ n ∧ n ≤ 8 → S' 22 n = cbt (S 14) n lb + 1) ∧ S' 21 7 ≤ S 21 7 + 1) := by
  obtain ⟨u, hu, hcat, hkd, hsc⟩ := hr.sp (T := T)
  rcases hkd with rfl | ⟨i, rfl⟩
  · refine Sp.of [.ref 0, .retAddr 0, .retAddr 0] (by decide) (by simp) (Nat.le_of_ble_eq_true rfl) rfl (fun E => ?_)
    refine L_a0 dX10_measure_0 ?_
    refine L_a0 dX10_measure_1 ?_
    refine GW_0_11 fX10_75 dX10_measure_2 ?_
    refine C_v1F vX10_99 dX10_measure_5 hsc rfl rfl (Nat.le_of_ble_eq_true rfl) (by decide) ?_
    refine S_n1 dX10_measure_8 (by decide) rfl ?_
    refine J_iconst dX10_measure_9 ?_
    refine S_i2 dX10_measure_10 (by decide) rfl ?_
    exact lX10_measuren hv hl (i := 0) hu hJ h7 8 1 S (by omega) (by omega) hJ.1 (Fr.refl _ _) rfl id (fun n hn => by omega)
  · refine Sp.of [.ref 0, .retAddr 0, .retAddr 0] (by decide) (by simp) (Nat.le_of_ble_eq_true rfl) rfl (fun E => ?_)
    refine L_a0 dX10_measure_0 ?_
    refine L_a0 dX10_measure_1 ?_
    refine GW_0_11 fX10_75 dX10_measure_2 ?_
    refine C_v1F vX10_99 dX10_measure_5 hsc rfl rfl (Nat.le_of_ble_eq_true rfl) (by decide) ?_
    refine S_a1 dX10_measure_8 (by decide) rfl ?_
    refine J_iconst dX10_measure_9 ?_
    refine S_i2 dX10_measure_10 (by decide) rfl ?_
    exact lX10_measurer hv hl hu hJ h7 8 1 S (by omega) (by omega) hJ.1 (Fr.refl _ _) rfl id (fun n hn => by omega)
/-- behind a question of rows -/
def MQ0 (S T : Nat → Int → Int) (D : List mx_C) (lb : Option (List Int)) (F : (Int → Int) → Int) (v : Int) (hp' : List mx_C) : Prop := ∃ (S' : Nat → Int → Int) (a : Int → Int), hp' = W5 S' T D ∧ FJ S' ∧ Fr LF S S' ∧ S' 21 7 ≤ S 21 7 + 1 ∧ (∀ n, 1 ≤ n ∧ n ≤ 8 → a n = cbt (S 14) n lb + 1) ∧ v = F a
theorem MQ0.no {S T : Nat → Int → Int} {D : List mx_C} {lb : Option (List Int)} {F : (Int → Int) → Int} {v : Int} (hJ : FJ S) (h : ∀ a, v = F a) : MQ0 S T D lb F v (W5 S T D) := ⟨S, fun n => cbt (S 14) n lb + 1, rfl, hJ, Fr.refl _ _, by omega, fun _ _ => rfl, h _⟩
theorem MQ0.ye {S T S1 S2 : Nat → Int → Int} {D : List mx_C} {lb : Option (List Int)} {F : (Int → Int) → Int} {v : Int} (hF1 : Fr [21, 22, 23, 24, 35] S S1) (hN : ∀ n, 1 ≤ n ∧ n ≤ 8 → S1 22 n = cbt (S 14) n lb + 1) (h7 : S1 21 7 ≤ S 21 7 + 1) (hG : FGo S2) (hF2 : Fr [25, 26, 27] S1 S2) (h : v = F (S1 22)) : MQ0 S T D lb F v (W5 S2 T D) :=
  ⟨S2, S1 22, rfl, hG.j, Fr.t (hF1.mono (l' := LF) (by simp)) hF2 (by simp), by rw [hF2 21 (by decide)]; exact h7, hN, h⟩
theorem all_nat {n : Int} (h : 0 ≤ n) : bsh n - 1 = ((2 ^ n.toNat - 1 : Nat) : Int) := by
  have : 1 ≤ 2 ^ n.toNat := Nat.one_le_two_pow
  unfold bsh
  omega
theorem all_lt {n : Int} (h : n ≤ 16) : 2 ^ n.toNat - 1 < 65536 := by
  have : 2 ^ n.toNat ≤ 2 ^ 16 := Nat.pow_le_pow_right (by decide) (by omega)
  omega
theorem qX0_countZ {S T : Nat → Int → Int} {D : List mx_C} {a : Int → Int} (hG : FGo S) (ha : S 22 = a) {z : Int} {s fr : Nat} (hz : z = (s : Int)) (h_s : s < 256) (h_fr : fr < 65536) : SpI yX0_count cX0_count 8 (some .int) 53 [.ref 21, .int (jI z), .int (jI (fr : Int))] (W5 S T D) (CQo S T D ((cn (fa a) s fr : Nat) : Int)) := by rw [hz]; exact qX0_count hG ha h_s h_fr
theorem qX0_settledZ {S T : Nat → Int → Int} {D : List mx_C} {a : Int → Int} (hG : FGo S) (ha : S 22 = a) {z : Int} {s fr : Nat} (hz : z = (s : Int)) (h_s : s < 256) (h_fr : fr < 65536) : SpI yX0_settled cX0_settled 5 (some .int) 91 [.ref 21, .int (jI z), .int (jI (fr : Int))] (W5 S T D) (CQo S T D (stv a s fr)) := by rw [hz]; exact qX0_settled hG ha h_s h_fr
theorem qX0_fitsZ {S T : Nat → Int → Int} {D : List mx_C} {a : Int → Int} (hG : FGo S) (ha : S 22 = a) {z : Int} {s fr : Nat} (hz : z = (s : Int)) (h_s : s < 256) (h_fr : fr < 65536) : SpI yX0_fits cX0_fits 8 (some .boolean) 87 [.ref 21, .int (jI z), .int (jI (fr : Int))] (W5 S T D) (CQo S T D (fb a s fr)) := by rw [hz]; exact qX0_fits hG ha h_s h_fr
theorem qX0_winsZ {S T : Nat → Int → Int} {D : List mx_C} {a : Int → Int} (hG : FGo S) (ha : S 22 = a) {z : Int} {s fr : Nat} (hz : z = (s : Int)) (h_s : s < 256) (h_fr : fr < 65536) : SpI yX0_wins cX0_wins 7 (some .boolean) 28 [.ref 21, .int (jI z), .int (jI (fr : Int))] (W5 S T D) (CQo S T D (gv a s fr)) := by rw [hz]; exact qX0_wins hG ha h_s h_fr
theorem qX0_winningPlayZ {S T : Nat → Int → Int} {D : List mx_C} {a : Int → Int} (hG : FGo S) (ha : S 22 = a) {z : Int} {s fr : Nat} (hz : z = (s : Int)) (h_s : s < 256) (h_fr : fr < 65536) : SpI yX0_winningPlay cX0_winningPlay 5 (some .int) 30 [.ref 21, .int (jI z), .int (jI (fr : Int))] (W5 S T D) (CQo S T D (gwp a s fr)) := by rw [hz]; exact qX0_winningPlay hG ha h_s h_fr
theorem qX0_lowestFirstZ {S T : Nat → Int → Int} {D : List mx_C} {a : Int → Int} (hG : FGo S) (ha : S 22 = a) {z : Int} {s fr : Nat} (hz : z = (s : Int)) (h_s : s < 256) (h_fr : fr < 65536) {nb : Int} (h_nb : -2147483648 ≤ nb ∧ nb < 2147483648) : SpI yX0_lowestFirst cX0_lowestFirst 8 (some .int) 91 [.ref 21, .int (jI z), .int (jI (fr : Int)), .int (jI nb)] (W5 S T D) (CQo S T D (lff a nb 8 1 s fr)) := by rw [hz]; exact qX0_lowestFirst hG ha h_s h_fr h_nb
theorem qX0_whoInZ {S T : Nat → Int → Int} {D : List mx_C} {a : Int → Int} (hG : FGo S) (ha : S 22 = a) {z : Int} {s fr : Nat} (hz : z = (s : Int)) (h_s : s < 256) (h_fr : fr < 65536) {i pl : Int} (h_i : 0 ≤ i ∧ i < 2147483648) (h_pl : -2147483648 ≤ pl ∧ pl < 2147483648) : SpI yX0_whoIn cX0_whoIn 12 (some .int) 55 [.ref 21, .int (jI z), .int (jI (fr : Int)), .int (jI i), .int (jI pl)] (W5 S T D) (CQ7 S T D (if (0 ≤ pl ∧ pl < 16) ∧ i < ((cn (fa a) s fr : Nat) : Int) then whl a (pl + 1).toNat 0 s fr i (fun _ => 0) pl else -1)) := by rw [hz]; exact qX0_whoIn hG ha h_s h_fr h_i h_pl
theorem qX0_countWithZ {S T : Nat → Int → Int} {D : List mx_C} {a : Int → Int} (hG : FGo S) (ha : S 22 = a) {z : Int} {s fr : Nat} (hz : z = (s : Int)) (h_s : s < 256) (h_fr : fr < 65536) {n : Int} (h_n : 1 ≤ n ∧ n ≤ 8) {p : Int} (h_p : -2147483648 ≤ p ∧ p < 2147483648) : SpI yX0_countWith cX0_countWith 5 (some .int) 54 [.ref 21, .int (jI z), .int (jI (fr : Int)), .int (jI n), .int (jI p)] (W5 S T D) (CQo S T D (if 0 ≤ p ∧ p < 16 then ((cbn (fa a) s fr (n - 1).toNat p.toNat : Nat) : Int) else 0)) := by rw [hz]; exact qX0_countWith hG ha h_s h_fr h_n h_p
set_option maxRecDepth 100000 in
theorem qX10_rows {S T : Nat → Int → Int} {D : List mx_C} (hv : RV (S 14)) (hl : RLn (S 14)) {lb lt : Option (List Int)} (hr : CR1 S D lb lt) (hJ : FJ S) (h7 : S 21 7 ≤ 99999) {s : Int} (h_s : -2147483648 ≤ s ∧ s < 2147483648) {g : Int} (h_g : -2147483648 ≤ g ∧ g < 2147483648) : SpL yX10_rows cX10_rows 4 (some .long) 54 [.ref 0, .int (jI s), .int (jI g)] (W5 S T D) (MQ0 S T D lb (fun a => if isRow s g then ((cn (fa a) s.toNat (2 ^ (2 * pc s + g).toNat - 1) : Nat) : Int) else -1)) := by
  have hpb := pc_B s
  by_cases hrw : isRow s g
  · obtain ⟨sn, hsn⟩ : ∃ n : Nat, s = (n : Int) := ⟨s.toNat, by have := hrw.1; omega⟩
    have hs8 : sn < 256 := by have := hrw.1; omega
    have hg1 := hrw.2
    have hfr := all_lt (n := 2 * pc s + g) (by omega)
    refine Sp.of [.ref 0, .int (jI s), .int (jI g), .retAddr 0] (by decide) (by simp) (Nat.le_of_ble_eq_true rfl) rfl (fun E => ?_)
    refine L_i1 dX10_rows_0 ?_
    refine L_i2 dX10_rows_1 ?_
    refine C_s2F vX10_255 dX10_rows_2 (qX10_rowPlaces h_s h_g) (Nat.le_of_ble_eq_true rfl) (by decide) ?_
    refine J_eqi (b := 2 * pc s + g) (if_pos hrw) ?_
    refine S_i3 dX10_rows_5 (by decide) rfl ?_
    refine L_i3 dX10_rows_6 ?_
    refine J_iconst dX10_rows_7 ?_
    refine J_icmp_ne 15 dX10_rows_8 rfl (by omega) (by omega) (fun c8 => ?_) (fun c8 => ?_)
    · refine L_a0 dX10_rows_15 ?_
      refine C_v0U vX10_260 dX10_rows_16 (qX10_measure hv hl hr hJ h7) rfl rfl (Nat.le_of_ble_eq_true rfl) (by decide) (fun hp16 hq16 => ?_)
      obtain ⟨S1, rfl, hG1, hF1, hN1, h71⟩ := hq16
      refine L_a0 dX10_rows_19 ?_
      refine GW_0_7 fX10_56 dX10_rows_20 ?_
      refine L_i1 dX10_rows_23 ?_
      refine L_i3 dX10_rows_24 ?_
      refine C_s1F vX10_263 dX10_rows_25 (sX10_allOf (by omega)) (Nat.le_of_ble_eq_true rfl) (by decide) ?_
      refine J_eqi (b := ((2 ^ (2 * pc s + g).toNat - 1 : Nat) : Int)) (all_nat (by omega)) ?_
      refine C_v2I vX10_266 dX10_rows_28 (qX0_countZ hG1 rfl hsn hs8 hfr) rfl rfl (Nat.le_of_ble_eq_true rfl) (by decide) (fun v28 hp28 hq28 => ?_)
      obtain ⟨rfl, S2, rfl, hG2, hF2⟩ := hq28
      have hcB := cn_B (hG1.oA rfl) (s := sn) hfr
      refine J_i2l dX10_rows_31 (by omega) ?_
      exact RQ_l rfl dX10_rows_32 (MQ0.ye hF1 hN1 h71 hG2 (Fr67 hF2) (by rw [if_pos hrw, show s.toNat = sn from by omega]))
    · exfalso; omega
  · refine Sp.of [.ref 0, .int (jI s), .int (jI g), .retAddr 0] (by decide) (by simp) (Nat.le_of_ble_eq_true rfl) rfl (fun E => ?_)
    refine L_i1 dX10_rows_0 ?_
    refine L_i2 dX10_rows_1 ?_
    refine C_s2F vX10_255 dX10_rows_2 (qX10_rowPlaces h_s h_g) (Nat.le_of_ble_eq_true rfl) (by decide) ?_
    refine J_eqi (b := -1) (if_neg hrw) ?_
    refine S_i3 dX10_rows_5 (by decide) rfl ?_
    refine L_i3 dX10_rows_6 ?_
    refine J_iconst dX10_rows_7 ?_
    refine J_icmp_ne 15 dX10_rows_8 rfl (by omega) (by omega) (fun c8 => ?_) (fun c8 => ?_)
    · exfalso; omega
    · refine J_ldc2 (-1) dX10_rows_11 kX10_258 (by decide) ?_
      exact RQ_l rfl dX10_rows_14 (MQ0.no hJ (fun a => (if_neg hrw).symm))
set_option maxRecDepth 100000 in
theorem qX10_rowAt {S T : Nat → Int → Int} {D : List mx_C} (hv : RV (S 14)) (hl : RLn (S 14)) {lb lt : Option (List Int)} (hr : CR1 S D lb lt) (hJ : FJ S) (h7 : S 21 7 ≤ 99999) {s : Int} (h_s : -2147483648 ≤ s ∧ s < 2147483648) {g : Int} (h_g : -2147483648 ≤ g ∧ g < 2147483648) {i : Int} (h_i : -2147483648 ≤ i ∧ i < 2147483648) {p : Int} (h_p : -2147483648 ≤ p ∧ p < 2147483648) : SpI yX10_rowAt cX10_rowAt 6 (some .int) 56 [.ref 0, .int (jI s), .int (jI g), .int (jI i), .int (jI p)] (W5 S T D) (MQ0 S T D lb (fun a => if isRow s g ∧ 0 ≤ i ∧ (0 ≤ p ∧ p < 2 * pc s + g) then (if i < ((cn (fa a) s.toNat (2 ^ (2 * pc s + g).toNat - 1) : Nat) : Int) then whl a (p + 1).toNat 0 s.toNat (2 ^ (2 * pc s + g).toNat - 1) i (fun _ => 0) p else -1) else -1)) := by
  have hpb := pc_B s
  by_cases hrw : isRow s g
  · obtain ⟨sn, hsn⟩ : ∃ n : Nat, s = (n : Int) := ⟨s.toNat, by have := hrw.1; omega⟩
    have hs8 : sn < 256 := by have := hrw.1; omega
    have hg1 := hrw.2
    have hfr := all_lt (n := 2 * pc s + g) (by omega)
    refine Sp.of [.ref 0, .int (jI s), .int (jI g), .int (jI i), .int (jI p), .retAddr 0] (by decide) (by simp) (Nat.le_of_ble_eq_true rfl) rfl (fun E => ?_)
    refine L_i1 dX10_rowAt_0 ?_
    refine L_i2 dX10_rowAt_1 ?_
    refine C_s2F vX10_255 dX10_rowAt_2 (qX10_rowPlaces h_s h_g) (Nat.le_of_ble_eq_true rfl) (by decide) ?_
    refine J_eqi (b := 2 * pc s + g) (if_pos hrw) ?_
    refine S_i5 dX10_rowAt_5 (by decide) rfl ?_
    refine L_i3 dX10_rowAt_7 ?_
    refine J_if_lt 23 dX10_rowAt_8 rfl (by omega) (fun c8 => ?_) (fun c8 => ?_)
    · refine J_iconst dX10_rowAt_23 ?_
      exact RQ_i rfl dX10_rowAt_24 (MQ0.no hJ (fun a => (if_neg (by omega)).symm))
    · refine L_i4 dX10_rowAt_11 ?_
      refine J_if_lt 23 dX10_rowAt_13 rfl (by omega) (fun c13 => ?_) (fun c13 => ?_)
      · refine J_iconst dX10_rowAt_23 ?_
        exact RQ_i rfl dX10_rowAt_24 (MQ0.no hJ (fun a => (if_neg (by omega)).symm))
      · refine L_i4 dX10_rowAt_16 ?_
        refine L_i5 dX10_rowAt_18 ?_
        refine J_icmp_lt 25 dX10_rowAt_20 rfl (by omega) (by omega) (fun c20 => ?_) (fun c20 => ?_)
        · refine L_a0 dX10_rowAt_25 ?_
          refine C_v0U vX10_260 dX10_rowAt_26 (qX10_measure hv hl hr hJ h7) rfl rfl (Nat.le_of_ble_eq_true rfl) (by decide) (fun hp26 hq26 => ?_)
          obtain ⟨S1, rfl, hG1, hF1, hN1, h71⟩ := hq26
          refine L_a0 dX10_rowAt_29 ?_
          refine GW_0_7 fX10_56 dX10_rowAt_30 ?_
          refine L_i1 dX10_rowAt_33 ?_
          refine L_i5 dX10_rowAt_34 ?_
          refine C_s1F vX10_263 dX10_rowAt_36 (sX10_allOf (by omega)) (Nat.le_of_ble_eq_true rfl) (by decide) ?_
          refine J_eqi (b := ((2 ^ (2 * pc s + g).toNat - 1 : Nat) : Int)) (all_nat (by omega)) ?_
          refine L_i3 dX10_rowAt_39 ?_
          refine L_i4 dX10_rowAt_40 ?_
          refine C_v4I vX10_272 dX10_rowAt_42 (qX0_whoInZ hG1 rfl hsn hs8 hfr (by omega) (by omega)) rfl rfl (Nat.le_of_ble_eq_true rfl) (by decide) (fun v42 hp42 hq42 => ?_)
          obtain ⟨rfl, S2, rfl, hG2, hF2⟩ := hq42
          exact RQ_i rfl dX10_rowAt_45 (MQ0.ye hF1 hN1 h71 hG2 hF2 (by
  have hp16 : 0 ≤ p ∧ p < 16 := by omega
  have hcd : isRow s g ∧ 0 ≤ i ∧ (0 ≤ p ∧ p < 2 * pc s + g) := ⟨hrw, by omega, by omega⟩
  rw [if_pos hcd, show s.toNat = sn from by omega]
  by_cases hc : i < ((cn (fa (S1 22)) sn (2 ^ (2 * pc s + g).toNat - 1) : Nat) : Int)
  · rw [if_pos hc, if_pos ⟨hp16, hc⟩]
  · rw [if_neg hc, if_neg (fun hh => hc hh.2)]))
        · refine J_iconst dX10_rowAt_23 ?_
          exact RQ_i rfl dX10_rowAt_24 (MQ0.no hJ (fun a => (if_neg (by omega)).symm))
  · refine Sp.of [.ref 0, .int (jI s), .int (jI g), .int (jI i), .int (jI p), .retAddr 0] (by decide) (by simp) (Nat.le_of_ble_eq_true rfl) rfl (fun E => ?_)
    refine L_i1 dX10_rowAt_0 ?_
    refine L_i2 dX10_rowAt_1 ?_
    refine C_s2F vX10_255 dX10_rowAt_2 (qX10_rowPlaces h_s h_g) (Nat.le_of_ble_eq_true rfl) (by decide) ?_
    refine J_eqi (b := -1) (if_neg hrw) ?_
    refine S_i5 dX10_rowAt_5 (by decide) rfl ?_
    refine L_i3 dX10_rowAt_7 ?_
    refine J_if_lt 23 dX10_rowAt_8 rfl (by omega) (fun c8 => ?_) (fun c8 => ?_)
    · refine J_iconst dX10_rowAt_23 ?_
      exact RQ_i rfl dX10_rowAt_24 (MQ0.no hJ (fun a => (if_neg (fun hh => hrw hh.1)).symm))
    · refine L_i4 dX10_rowAt_11 ?_
      refine J_if_lt 23 dX10_rowAt_13 rfl (by omega) (fun c13 => ?_) (fun c13 => ?_)
      · refine J_iconst dX10_rowAt_23 ?_
        exact RQ_i rfl dX10_rowAt_24 (MQ0.no hJ (fun a => (if_neg (fun hh => hrw hh.1)).symm))
      · refine L_i4 dX10_rowAt_16 ?_
        refine L_i5 dX10_rowAt_18 ?_
        refine J_icmp_lt 25 dX10_rowAt_20 rfl (by omega) (by omega) (fun c20 => ?_) (fun c20 => ?_)
        · exfalso; omega
        · refine J_iconst dX10_rowAt_23 ?_
          exact RQ_i rfl dX10_rowAt_24 (MQ0.no hJ (fun a => (if_neg (fun hh => hrw hh.1)).symm))
set_option maxRecDepth 100000 in
theorem qX10_row {S T : Nat → Int → Int} {D : List mx_C} (hv : RV (S 14)) (hl : RLn (S 14)) {lb lt : Option (List Int)} (hr : CR1 S D lb lt) (hJ : FJ S) (h7 : S 21 7 ≤ 99999) {s : Int} (h_s : -2147483648 ≤ s ∧ s < 2147483648) {g : Int} (h_g : -2147483648 ≤ g ∧ g < 2147483648) {p : Int} (h_p : -2147483648 ≤ p ∧ p < 2147483648) : SpI yX10_row cX10_row 4 (some .int) 57 [.ref 0, .int (jI s), .int (jI g), .int (jI p)] (W5 S T D) (MQ0 S T D lb (fun a => if isRow s g ∧ (0 : Int) ≤ 0 ∧ (0 ≤ p ∧ p < 2 * pc s + g) then (if 0 < ((cn (fa a) s.toNat (2 ^ (2 * pc s + g).toNat - 1) : Nat) : Int) then whl a (p + 1).toNat 0 s.toNat (2 ^ (2 * pc s + g).toNat - 1) 0 (fun _ => 0) p else -1) else -1)) := by
  refine Sp.of [.ref 0, .int (jI s), .int (jI g), .int (jI p)] (by decide) (by simp) (Nat.le_of_ble_eq_true rfl) rfl (fun E => ?_)
  refine L_a0 dX10_row_0 ?_
  refine L_i1 dX10_row_1 ?_
  refine L_i2 dX10_row_2 ?_
  refine J_iconst dX10_row_3 ?_
  refine L_i3 dX10_row_4 ?_
  refine C_v4I vX10_268 dX10_row_5 (qX10_rowAt hv hl hr hJ h7 h_s h_g (i := 0) (by omega) h_p) rfl rfl (Nat.le_of_ble_eq_true rfl) (by decide) (fun v5 hp5 hq5 => ?_)
  exact RQ_i rfl dX10_row_8 hq5

set_option maxRecDepth 100000 in
theorem qX10_pinned {S T : Nat → Int → Int} {D : List mx_C} (hv : RV (S 14)) (hl : RLn (S 14)) {lb lt : Option (List Int)} (hr : CR1 S D lb lt) (hJ : FJ S) (h7 : S 21 7 ≤ 99999) {s : Int} (h_s : -2147483648 ≤ s ∧ s < 2147483648) {g : Int} (h_g : -2147483648 ≤ g ∧ g < 2147483648) : SpI yX10_pinned cX10_pinned 4 (some .int) 92 [.ref 0, .int (jI s), .int (jI g)] (W5 S T D) (MQ0 S T D lb (fun a => if isRow s g then stv a s.toNat (2 ^ (2 * pc s + g).toNat - 1) else -1)) := by
  have hpb := pc_B s
  by_cases hrw : isRow s g
  · obtain ⟨sn, hsn⟩ : ∃ n : Nat, s = (n : Int) := ⟨s.toNat, by have := hrw.1; omega⟩
    have hs8 : sn < 256 := by have := hrw.1; omega
    have hg1 := hrw.2
    have hfr := all_lt (n := 2 * pc s + g) (by omega)
    refine Sp.of [.ref 0, .int (jI s), .int (jI g), .retAddr 0] (by decide) (by simp) (Nat.le_of_ble_eq_true rfl) rfl (fun E => ?_)
    refine L_i1 dX10_pinned_0 ?_
    refine L_i2 dX10_pinned_1 ?_
    refine C_s2F vX10_255 dX10_pinned_2 (qX10_rowPlaces h_s h_g) (Nat.le_of_ble_eq_true rfl) (by decide) ?_
    refine J_eqi (b := 2 * pc s + g) (if_pos hrw) ?_
    refine S_i3 dX10_pinned_5 (by decide) rfl ?_
    refine L_i3 dX10_pinned_6 ?_
    refine J_iconst dX10_pinned_7 ?_
    refine J_icmp_ne 13 dX10_pinned_8 rfl (by omega) (by omega) (fun c8 => ?_) (fun c8 => ?_)
    · refine L_a0 dX10_pinned_13 ?_
      refine C_v0U vX10_260 dX10_pinned_14 (qX10_measure hv hl hr hJ h7) rfl rfl (Nat.le_of_ble_eq_true rfl) (by decide) (fun hp14 hq14 => ?_)
      obtain ⟨S1, rfl, hG1, hF1, hN1, h71⟩ := hq14
      refine L_a0 dX10_pinned_17 ?_
      refine GW_0_7 fX10_56 dX10_pinned_18 ?_
      refine L_i1 dX10_pinned_21 ?_
      refine L_i3 dX10_pinned_22 ?_
      refine C_s1F vX10_263 dX10_pinned_23 (sX10_allOf (by omega)) (Nat.le_of_ble_eq_true rfl) (by decide) ?_
      refine J_eqi (b := ((2 ^ (2 * pc s + g).toNat - 1 : Nat) : Int)) (all_nat (by omega)) ?_
      refine C_v2I vX10_284 dX10_pinned_26 (qX0_settledZ hG1 rfl hsn hs8 hfr) rfl rfl (Nat.le_of_ble_eq_true rfl) (by decide) (fun v26 hp26 hq26 => ?_)
      obtain ⟨rfl, S2, rfl, hG2, hF2⟩ := hq26
      exact RQ_i rfl dX10_pinned_29 (MQ0.ye hF1 hN1 h71 hG2 (Fr67 hF2) (by rw [if_pos hrw, show s.toNat = sn from by omega]))
    · exfalso; omega
  · refine Sp.of [.ref 0, .int (jI s), .int (jI g), .retAddr 0] (by decide) (by simp) (Nat.le_of_ble_eq_true rfl) rfl (fun E => ?_)
    refine L_i1 dX10_pinned_0 ?_
    refine L_i2 dX10_pinned_1 ?_
    refine C_s2F vX10_255 dX10_pinned_2 (qX10_rowPlaces h_s h_g) (Nat.le_of_ble_eq_true rfl) (by decide) ?_
    refine J_eqi (b := -1) (if_neg hrw) ?_
    refine S_i3 dX10_pinned_5 (by decide) rfl ?_
    refine L_i3 dX10_pinned_6 ?_
    refine J_iconst dX10_pinned_7 ?_
    refine J_icmp_ne 13 dX10_pinned_8 rfl (by omega) (by omega) (fun c8 => ?_) (fun c8 => ?_)
    · exfalso; omega
    · refine J_iconst dX10_pinned_11 ?_
      exact RQ_i rfl dX10_pinned_12 (MQ0.no hJ (fun a => (if_neg hrw).symm))
set_option maxRecDepth 100000 in
theorem qX10_kinds {S T : Nat → Int → Int} {D : List mx_C} (hv : RV (S 14)) (hl : RLn (S 14)) {lb lt : Option (List Int)} (hr : CR1 S D lb lt) (hJ : FJ S) (h7 : S 21 7 ≤ 99999) {s : Int} (h_s : -2147483648 ≤ s ∧ s < 2147483648) {g : Int} (h_g : -2147483648 ≤ g ∧ g < 2147483648) : SpL yX10_kinds cX10_kinds 4 (some .long) 54 [.ref 0, .int (jI s), .int (jI g)] (W5 S T D) (MQ0 S T D lb (fun a => if isRow s g then (((cn (fa a) s.toNat (2 ^ (2 * pc s + g).toNat - 1) : Nat) : Int) + 1) / 2 else -1)) := by
  have hpb := pc_B s
  by_cases hrw : isRow s g
  · obtain ⟨sn, hsn⟩ : ∃ n : Nat, s = (n : Int) := ⟨s.toNat, by have := hrw.1; omega⟩
    have hs8 : sn < 256 := by have := hrw.1; omega
    have hg1 := hrw.2
    have hfr := all_lt (n := 2 * pc s + g) (by omega)
    refine Sp.of [.ref 0, .int (jI s), .int (jI g), .retAddr 0] (by decide) (by simp) (Nat.le_of_ble_eq_true rfl) rfl (fun E => ?_)
    refine L_i1 dX10_kinds_0 ?_
    refine L_i2 dX10_kinds_1 ?_
    refine C_s2F vX10_255 dX10_kinds_2 (qX10_rowPlaces h_s h_g) (Nat.le_of_ble_eq_true rfl) (by decide) ?_
    refine J_eqi (b := 2 * pc s + g) (if_pos hrw) ?_
    refine S_i3 dX10_kinds_5 (by decide) rfl ?_
    refine L_i3 dX10_kinds_6 ?_
    refine J_iconst dX10_kinds_7 ?_
    refine J_icmp_ne 15 dX10_kinds_8 rfl (by omega) (by omega) (fun c8 => ?_) (fun c8 => ?_)
    · refine L_a0 dX10_kinds_15 ?_
      refine C_v0U vX10_260 dX10_kinds_16 (qX10_measure hv hl hr hJ h7) rfl rfl (Nat.le_of_ble_eq_true rfl) (by decide) (fun hp16 hq16 => ?_)
      obtain ⟨S1, rfl, hG1, hF1, hN1, h71⟩ := hq16
      refine L_a0 dX10_kinds_19 ?_
      refine GW_0_7 fX10_56 dX10_kinds_20 ?_
      refine L_i1 dX10_kinds_23 ?_
      refine L_i3 dX10_kinds_24 ?_
      refine C_s1F vX10_263 dX10_kinds_25 (sX10_allOf (by omega)) (Nat.le_of_ble_eq_true rfl) (by decide) ?_
      refine J_eqi (b := ((2 ^ (2 * pc s + g).toNat - 1 : Nat) : Int)) (all_nat (by omega)) ?_
      refine C_v2I vX10_266 dX10_kinds_28 (qX0_countZ hG1 rfl hsn hs8 hfr) rfl rfl (Nat.le_of_ble_eq_true rfl) (by decide) (fun v28 hp28 hq28 => ?_)
      obtain ⟨rfl, S2, rfl, hG2, hF2⟩ := hq28
      have hcB := cn_B (hG1.oA rfl) (s := sn) hfr
      refine J_iconst dX10_kinds_31 ?_
      refine J_iadd dX10_kinds_32 ?_
      refine J_iconst dX10_kinds_33 ?_
      refine J_idivN dX10_kinds_34 (by omega) (by omega) ?_
      refine J_i2l dX10_kinds_35 (by omega) ?_
      exact RQ_l rfl dX10_kinds_36 (MQ0.ye hF1 hN1 h71 hG2 (Fr67 hF2) (by rw [if_pos hrw, show s.toNat = sn from by omega]))
    · exfalso; omega
  · refine Sp.of [.ref 0, .int (jI s), .int (jI g), .retAddr 0] (by decide) (by simp) (Nat.le_of_ble_eq_true rfl) rfl (fun E => ?_)
    refine L_i1 dX10_kinds_0 ?_
    refine L_i2 dX10_kinds_1 ?_
    refine C_s2F vX10_255 dX10_kinds_2 (qX10_rowPlaces h_s h_g) (Nat.le_of_ble_eq_true rfl) (by decide) ?_
    refine J_eqi (b := -1) (if_neg hrw) ?_
    refine S_i3 dX10_kinds_5 (by decide) rfl ?_
    refine L_i3 dX10_kinds_6 ?_
    refine J_iconst dX10_kinds_7 ?_
    refine J_icmp_ne 15 dX10_kinds_8 rfl (by omega) (by omega) (fun c8 => ?_) (fun c8 => ?_)
    · exfalso; omega
    · refine J_ldc2 (-1) dX10_kinds_11 kX10_258 (by decide) ?_
      exact RQ_l rfl dX10_kinds_14 (MQ0.no hJ (fun a => (if_neg hrw).symm))
