/-! ===== the class: Row in the world, copies, steps, sayings, the image ===== -/
theorem qX4_places {S T : Nat → Int → Int} {D : List mx_C}  : SpF yX4_places cX4_places 1 (some .int) 0 [.ref 13] (W5 S T D) (.int (jI ((S 14) 0))) (W5 S T D) := by
  have h := sX4_places (hp := W5 S T D) (i := 13) (j := 14) (f := S 14) rfl (by decide) rfl 
  rw [WE_14] at h
  exact h
theorem qX4_date {S T : Nat → Int → Int} {D : List mx_C}  : SpF yX4_date cX4_date 1 (some .int) 0 [.ref 13] (W5 S T D) (.int (jI ((S 14) 1))) (W5 S T D) := by
  have h := sX4_date (hp := W5 S T D) (i := 13) (j := 14) (f := S 14) rfl (by decide) rfl 
  rw [WE_14] at h
  exact h
theorem qX4_drawn {S T : Nat → Int → Int} {D : List mx_C}  : SpF yX4_drawn cX4_drawn 1 (some .int) 0 [.ref 13] (W5 S T D) (.int (jI ((S 14) 2))) (W5 S T D) := by
  have h := sX4_drawn (hp := W5 S T D) (i := 13) (j := 14) (f := S 14) rfl (by decide) rfl 
  rw [WE_14] at h
  exact h
theorem qX4_standing {S T : Nat → Int → Int} {D : List mx_C}  : SpF yX4_standing cX4_standing 1 (some .int) 0 [.ref 13] (W5 S T D) (.int (jI ((S 14) 3))) (W5 S T D) := by
  have h := sX4_standing (hp := W5 S T D) (i := 13) (j := 14) (f := S 14) rfl (by decide) rfl 
  rw [WE_14] at h
  exact h
theorem qX4_taken {S T : Nat → Int → Int} {D : List mx_C}  : SpF yX4_taken cX4_taken 1 (some .int) 0 [.ref 13] (W5 S T D) (.int (jI ((S 14) 4))) (W5 S T D) := by
  have h := sX4_taken (hp := W5 S T D) (i := 13) (j := 14) (f := S 14) rfl (by decide) rfl 
  rw [WE_14] at h
  exact h
theorem qX4_lines {S T : Nat → Int → Int} {D : List mx_C}  : SpF yX4_lines cX4_lines 1 (some .int) 0 [.ref 13] (W5 S T D) (.int (jI ((S 14) 5))) (W5 S T D) := by
  have h := sX4_lines (hp := W5 S T D) (i := 13) (j := 14) (f := S 14) rfl (by decide) rfl 
  rw [WE_14] at h
  exact h
theorem qX4_holds {S T : Nat → Int → Int} {D : List mx_C} (hf : Bd (S 14)) {n : Int} (hn : -2147483648 ≤ n ∧ n < 2147483648) : SpF yX4_holds cX4_holds 2 (some .boolean) 0 [.ref 13, .int (jI n)] (W5 S T D) (.int (jI (jb (rw_holds (S 14) n)))) (W5 S T D) := by
  have h := sX4_holds (hp := W5 S T D) (i := 13) (j := 14) (f := S 14) rfl (by decide) rfl hf hn
  rw [WE_14] at h
  exact h
theorem qX4_first {S T : Nat → Int → Int} {D : List mx_C} (hf : Bd (S 14)) {n : Int} (hn : -2147483648 ≤ n ∧ n < 2147483648) : SpF yX4_first cX4_first 2 (some .int) 0 [.ref 13, .int (jI n)] (W5 S T D) (.int (jI (rw_first (S 14) n))) (W5 S T D) := by
  have h := sX4_first (hp := W5 S T D) (i := 13) (j := 14) (f := S 14) rfl (by decide) rfl hf hn
  rw [WE_14] at h
  exact h
theorem qX4_second {S T : Nat → Int → Int} {D : List mx_C} (hf : Bd (S 14)) {n : Int} (hn : -2147483648 ≤ n ∧ n < 2147483648) : SpF yX4_second cX4_second 2 (some .int) 0 [.ref 13, .int (jI n)] (W5 S T D) (.int (jI (rw_second (S 14) n))) (W5 S T D) := by
  have h := sX4_second (hp := W5 S T D) (i := 13) (j := 14) (f := S 14) rfl (by decide) rfl hf hn
  rw [WE_14] at h
  exact h
theorem qX4_since {S T : Nat → Int → Int} {D : List mx_C} (hf : Bd (S 14)) {n : Int} (hn : -2147483648 ≤ n ∧ n < 2147483648) : SpF yX4_since cX4_since 2 (some .int) 0 [.ref 13, .int (jI n)] (W5 S T D) (.int (jI (rw_since (S 14) n))) (W5 S T D) := by
  have h := sX4_since (hp := W5 S T D) (i := 13) (j := 14) (f := S 14) rfl (by decide) rfl hf hn
  rw [WE_14] at h
  exact h
theorem qX4_span {S T : Nat → Int → Int} {D : List mx_C} (hf : Bd (S 14)) {n : Int} (hn : -2147483648 ≤ n ∧ n < 2147483648) : SpF yX4_span cX4_span 2 (some .int) 1 [.ref 13, .int (jI n)] (W5 S T D) (.int (jI (rw_second (S 14) n - rw_first (S 14) n))) (W5 S T D) := by
  have h := sX4_span (hp := W5 S T D) (i := 13) (j := 14) (f := S 14) rfl (by decide) rfl hf hn
  rw [WE_14] at h
  exact h
theorem qX4_vacant {S T : Nat → Int → Int} {D : List mx_C} (hv : RV (S 14)) : SpF yX4_vacant cX4_vacant 1 (some .int) 1 [.ref 13] (W5 S T D) (.int (jI (bdf (bsh ((S 14) 0) - 1) ((S 14) 4)))) (W5 S T D) := by
  have h := sX4_vacant (hp := W5 S T D) (i := 13) (j := 14) (f := S 14) rfl (by decide) rfl hv
  rw [WE_14] at h
  exact h
theorem qX4_isVacant {S T : Nat → Int → Int} {D : List mx_C} (hv : RV (S 14)) {n : Int} (hn : -2147483648 ≤ n ∧ n < 2147483648) : SpF yX4_isVacant cX4_isVacant 2 (some .boolean) 0 [.ref 13, .int (jI n)] (W5 S T D) (.int (jI (jb ((0 ≤ n ∧ n < (S 14) 0) ∧ (S 14) 4 / 2 ^ n.toNat % 2 = 0)))) (W5 S T D) := by
  have h := sX4_isVacant (hp := W5 S T D) (i := 13) (j := 14) (f := S 14) rfl (by decide) rfl hv hn
  rw [WE_14] at h
  exact h
theorem qX4_pairOf {S T : Nat → Int → Int} {D : List mx_C} (hf : Bd (S 14)) {n : Int} (hn : -2147483648 ≤ n ∧ n < 2147483648) (hr : rw_holds (S 14) n → (S 14) (5 + n) < 31 ∧ 0 ≤ (S 14) (13 + n) ∧ (S 14) (13 + n) < 31) : SpF yX4_pairOf cX4_pairOf 2 (some .int) 1 [.ref 13, .int (jI n)] (W5 S T D) (.int (jI (rw_pair (S 14) n))) (W5 S T D) := by
  have h := sX4_pairOf (hp := W5 S T D) (i := 13) (j := 14) (f := S 14) rfl (by decide) rfl hf hn hr
  rw [WE_14] at h
  exact h
theorem qX4_parts {S T : Nat → Int → Int} {D : List mx_C} (hf : Bd (S 14)) {n : Int} (hn : -2147483648 ≤ n ∧ n < 2147483648) {p : Int} (hp0 : -2147483648 ≤ p ∧ p < 2147483648) : SpF yX4_parts cX4_parts 3 (some .boolean) 1 [.ref 13, .int (jI n), .int (jI p)] (W5 S T D) (.int (jI (jb (rw_first (S 14) n < p ∧ p < rw_second (S 14) n)))) (W5 S T D) := by
  have h := sX4_parts (hp := W5 S T D) (i := 13) (j := 14) (f := S 14) rfl (by decide) rfl hf hn hp0
  rw [WE_14] at h
  exact h
theorem qX4_inside {S T : Nat → Int → Int} {D : List mx_C} (hf : Bd (S 14)) {n : Int} (hn : -2147483648 ≤ n ∧ n < 2147483648) {q : Int} (hq : -2147483648 ≤ q ∧ q < 2147483648) : SpF yX4_inside cX4_inside 3 (some .int) 2 [.ref 13, .int (jI n), .int (jI q)] (W5 S T D) (.int (jI (rw_inside (S 14) n q))) (W5 S T D) := by
  have h := sX4_inside (hp := W5 S T D) (i := 13) (j := 14) (f := S 14) rfl (by decide) rfl hf hn hq
  rw [WE_14] at h
  exact h
theorem qX4_placesOf {S T : Nat → Int → Int} {D : List mx_C} (hv : RV (S 14)) {s : Int} (hs : 0 ≤ s ∧ s < 2147483648) : SpF yX4_placesOf cX4_placesOf 4 (some .int) 2 [.ref 13, .int (jI s)] (W5 S T D) (.int (jI (rw_places (S 14) s))) (W5 S T D) := by
  have h := sX4_placesOf (hp := W5 S T D) (i := 13) (j := 14) (f := S 14) rfl (by decide) rfl hv hs
  rw [WE_14] at h
  exact h
theorem qX4_who {S T : Nat → Int → Int} {D : List mx_C} (hf : Bd (S 14)) {p : Int} (hp0 : -2147483648 ≤ p ∧ p < 2147483648) : SpF yX4_who cX4_who 3 (some .int) 2 [.ref 13, .int (jI p)] (W5 S T D) (.int (jI (rw_who (S 14) p))) (W5 S T D) := by
  have h := sX4_who (hp := W5 S T D) (i := 13) (j := 14) (f := S 14) rfl (by decide) rfl hf hp0
  rw [WE_14] at h
  exact h
theorem qX4_stretch {S T : Nat → Int → Int} {D : List mx_C} {n : Int} : SpV yX4_stretch cX4_stretch 2 none 0 [.ref 13, .int (jI n)] (W5 S T D) (W5 (upS S 14 (up (S 14) 0 n)) T D) := by
  have h := sX4_stretch (hp := W5 S T D) (i := 13) (j := 14) (f := S 14) rfl (by decide) rfl (n := n) 
  rw [WE_14] at h
  rw [WS_14] at h
  exact h
theorem qX4_sow {S T : Nat → Int → Int} {D : List mx_C} {n : Int} : SpV yX4_sow cX4_sow 2 none 0 [.ref 13, .int (jI n)] (W5 S T D) (W5 (upS S 14 (up (S 14) 2 n)) T D) := by
  have h := sX4_sow (hp := W5 S T D) (i := 13) (j := 14) (f := S 14) rfl (by decide) rfl (n := n) 
  rw [WE_14] at h
  rw [WS_14] at h
  exact h
theorem qX4_dawn {S T : Nat → Int → Int} {D : List mx_C}  : SpV yX4_dawn cX4_dawn 1 none 0 [.ref 13] (W5 S T D) (W5 (upS S 14 (up (S 14) 1 ((S 14) 1 + 1))) T D) := by
  have h := sX4_dawn (hp := W5 S T D) (i := 13) (j := 14) (f := S 14) rfl (by decide) rfl 
  rw [WE_14] at h
  rw [WS_14] at h
  exact h
theorem qX4_draw {S T : Nat → Int → Int} {D : List mx_C} (hr : 0 ≤ (S 14) 2 ∧ (S 14) 2 < 31019) : SpF yX4_draw cX4_draw 2 (some .int) 0 [.ref 13] (W5 S T D) (.int (jI ((S 14) 2))) (W5 (upS S 14 (up (S 14) 2 (((S 14) 2 * 701 + 571).tmod 31019))) T D) := by
  have h := sX4_draw (hp := W5 S T D) (i := 13) (j := 14) (f := S 14) rfl (by decide) rfl hr
  rw [WE_14] at h
  rw [WS_14] at h
  exact h
theorem qX4_line {S T : Nat → Int → Int} {D : List mx_C} (hf : Bd (S 14)) {n : Int} (hn : -2147483648 ≤ n ∧ n < 2147483648) : SpF yX4_line cX4_line 2 (some .int) 0 [.ref 13, .int (jI n)] (W5 S T D) (.int (jI (rw_at (S 14) n))) (W5 S T D) := by
  have h := sX4_line (hp := W5 S T D) (i := 13) (j := 14) (f := S 14) rfl (by decide) rfl hf hn
  rw [WE_14] at h
  exact h
theorem qX4_write {S T : Nat → Int → Int} {D : List mx_C} (hf : Bd (S 14)) (h5 : 0 ≤ (S 14) 5 ∧ (S 14) 5 ≤ 25) (hd1 : 0 ≤ (S 14) 1 ∧ (S 14) 1 ≤ 9999) {n kd p : Int} (hn : 0 ≤ n ∧ n ≤ 8) (hk : 0 ≤ kd ∧ kd ≤ 2) (hp0 : 0 ≤ p ∧ p ≤ 15) : SpV yX4_write cX4_write 5 none 1 [.ref 13, .int (jI n), .int (jI kd), .int (jI p)] (W5 S T D) (W5 (upS S 14 (rw_write (S 14) n kd p)) T D) := by
  have h := sX4_write (hp := W5 S T D) (i := 13) (j := 14) (f := S 14) rfl (by decide) rfl hf h5 hd1 hn hk hp0
  rw [WE_14] at h
  rw [WS_14] at h
  exact h
theorem qX4_age {S T : Nat → Int → Int} {D : List mx_C} (hf : Bd (S 14)) {n : Int} (hn : 1 ≤ n ∧ n ≤ 8) : SpV yX4_age cX4_age 2 none 1 [.ref 13, .int (jI n)] (W5 S T D) (W5 (upS S 14 (rw_age (S 14) n)) T D) := by
  have h := sX4_age (hp := W5 S T D) (i := 13) (j := 14) (f := S 14) rfl (by decide) rfl hf hn
  rw [WE_14] at h
  rw [WS_14] at h
  exact h
theorem qX4_enter {S T : Nat → Int → Int} {D : List mx_C} (hv : RV (S 14)) {n p s : Int} (hn : 1 ≤ n ∧ n ≤ 8) (hnh : (S 14) (5 + n) < 0) (hp0 : 0 ≤ p ∧ p ≤ 15) (hs0 : 0 ≤ s ∧ s ≤ 15) : SpV yX4_enter cX4_enter 4 none 2 [.ref 13, .int (jI n), .int (jI p), .int (jI s)] (W5 S T D) (W5 (upS S 14 (rw_enter (S 14) n p s)) T D) := by
  have h := sX4_enter (hp := W5 S T D) (i := 13) (j := 14) (f := S 14) rfl (by decide) rfl hv hn hnh hp0 hs0
  rw [WE_14] at h
  rw [WS_14] at h
  exact h
theorem qX4_depart {S T : Nat → Int → Int} {D : List mx_C} (hv : RV (S 14)) {n kd : Int} (hn : 1 ≤ n ∧ n ≤ 8) (hh : 0 ≤ (S 14) (5 + n)) (hk : 0 ≤ kd ∧ kd ≤ 2) : SpV yX4_depart cX4_depart 3 none 2 [.ref 13, .int (jI n), .int (jI kd)] (W5 S T D) (W5 (upS S 14 (rw_depart (S 14) n kd)) T D) := by
  have h := sX4_depart (hp := W5 S T D) (i := 13) (j := 14) (f := S 14) rfl (by decide) rfl hv hn hh hk
  rw [WE_14] at h
  rw [WS_14] at h
  exact h
theorem qX4_canMove {S T : Nat → Int → Int} {D : List mx_C} (hv : RV (S 14)) {n : Int} (hn : -16 < n ∧ n < 16) : SpF yX4_canMove cX4_canMove 3 (some .boolean) 1 [.ref 13, .int (jI n)] (W5 S T D) (.int (jI (rw_canMove (S 14) n))) (W5 S T D) := by
  have h := sX4_canMove (hp := W5 S T D) (i := 13) (j := 14) (f := S 14) rfl (by decide) rfl hv hn
  rw [WE_14] at h
  exact h
theorem qX4_latest {S T : Nat → Int → Int} {D : List mx_C} (hf : Bd (S 14)) (hl : RLn (S 14)) : SpF yX4_latest cX4_latest 3 (some .int) 0 [.ref 13] (W5 S T D) (.int (jI (rw_latest (S 14)))) (W5 S T D) := by
  have h := sX4_latest (hp := W5 S T D) (i := 13) (j := 14) (f := S 14) rfl (by decide) rfl hf hl
  rw [WE_14] at h
  exact h
theorem qX4_reverse {S T : Nat → Int → Int} {D : List mx_C} (hv : RV (S 14)) : SpV yX4_reverse cX4_reverse 4 none 3 [.ref 13] (W5 S T D) (W5 (upS S 14 (rw_turn (S 14))) T D) := by
  have h := sX4_reverse (hp := W5 S T D) (i := 13) (j := 14) (f := S 14) rfl (by decide) rfl hv
  rw [WE_14] at h
  rw [WS_14] at h
  exact h
theorem qX4_move {S T : Nat → Int → Int} {D : List mx_C} (hv : RV (S 14)) {b : Int} (hb : -16 < b ∧ b < 16) (hc : CM (S 14) b 1) : SpV yX4_move cX4_move 3 none 3 [.ref 13, .int (jI b)] (W5 S T D) (W5 (upS S 14 (rw_move (S 14) b)) T D) := by
  have h := sX4_move (hp := W5 S T D) (i := 13) (j := 14) (f := S 14) rfl (by decide) rfl hv hb hc
  rw [WE_14] at h
  rw [WS_14] at h
  exact h
set_option maxRecDepth 100000 in
theorem qX4_walking {S T : Nat → Int → Int} {D : List mx_C} (hv : RV (S 14)) : SpF yX4_walking cX4_walking 1 (some .int) 1 [.ref 13] (W5 S T D) (.int (jI (pc (S 14 3)))) (W5 S T D) := by
  have hv3 := hv.2.2.2.2.1
  refine Sp.of [.ref 13] (by decide) (by simp) (Nat.le_of_ble_eq_true rfl) rfl (fun E => ?_)
  refine L_a0 dX4_walking_0 ?_
  refine GW_13_0 fX4_11 dX4_walking_1 ?_
  refine J_iconst dX4_walking_4 ?_
  refine AR_14 dX4_walking_5 (by omega) ?_
  refine C_s1F vX4_21 dX4_walking_6 (sJ_bitCount (by omega)) (Nat.le_of_ble_eq_true rfl) (by decide) ?_
  exact R_i rfl dX4_walking_9 rfl rfl

set_option maxRecDepth 100000 in
theorem qX4_become_15_13 {S T : Nat → Int → Int} {D : List mx_C} : SpV yX4_become cX4_become 2 none 1 [.ref 15, .ref 13] (W5 S T D) (W5 (upS S 16 (cpy (S 14) (S 16) 0 0 55)) T D) := by
  refine Sp.of [.ref 15, .ref 13] (by decide) (by simp) (Nat.le_of_ble_eq_true rfl) rfl (fun E => ?_)
  refine L_a1 dX4_become_0 ?_
  refine GW_13_0 fX4_11 dX4_become_1 ?_
  refine J_iconst dX4_become_4 ?_
  refine L_a0 dX4_become_5 ?_
  refine GW_15_0 fX4_11 dX4_become_6 ?_
  refine J_iconst dX4_become_9 ?_
  refine J_bipush dX4_become_10 (by decide) ?_
  refine J_copy aX4_15 mx_ac1 mx_ac2 mx_ac3 dX4_become_12 rfl rfl (by omega) (by omega) (by omega) (by omega) (by omega) (by decide) (by decide) (Nat.le_of_ble_eq_true rfl) ⟨Nat.le_of_ble_eq_true rfl, Nat.le_of_ble_eq_true rfl⟩ ?_
  rw [WS_16]
  exact R_v rfl dX4_become_15 rfl

set_option maxRecDepth 100000 in
theorem qX4_become_13_15 {S T : Nat → Int → Int} {D : List mx_C} : SpV yX4_become cX4_become 2 none 1 [.ref 13, .ref 15] (W5 S T D) (W5 (upS S 14 (cpy (S 16) (S 14) 0 0 55)) T D) := by
  refine Sp.of [.ref 13, .ref 15] (by decide) (by simp) (Nat.le_of_ble_eq_true rfl) rfl (fun E => ?_)
  refine L_a1 dX4_become_0 ?_
  refine GW_15_0 fX4_11 dX4_become_1 ?_
  refine J_iconst dX4_become_4 ?_
  refine L_a0 dX4_become_5 ?_
  refine GW_13_0 fX4_11 dX4_become_6 ?_
  refine J_iconst dX4_become_9 ?_
  refine J_bipush dX4_become_10 (by decide) ?_
  refine J_copy aX4_15 mx_ac1 mx_ac2 mx_ac3 dX4_become_12 rfl rfl (by omega) (by omega) (by omega) (by omega) (by omega) (by decide) (by decide) (Nat.le_of_ble_eq_true rfl) ⟨Nat.le_of_ble_eq_true rfl, Nat.le_of_ble_eq_true rfl⟩ ?_
  rw [WS_14]
  exact R_v rfl dX4_become_15 rfl

set_option maxRecDepth 100000 in
theorem qX4_become_29_13 {S T : Nat → Int → Int} {D : List mx_C} : SpV yX4_become cX4_become 2 none 1 [.ref 29, .ref 13] (W5 S T D) (W5 (upS S 30 (cpy (S 14) (S 30) 0 0 55)) T D) := by
  refine Sp.of [.ref 29, .ref 13] (by decide) (by simp) (Nat.le_of_ble_eq_true rfl) rfl (fun E => ?_)
  refine L_a1 dX4_become_0 ?_
  refine GW_13_0 fX4_11 dX4_become_1 ?_
  refine J_iconst dX4_become_4 ?_
  refine L_a0 dX4_become_5 ?_
  refine GW_29_0 fX4_11 dX4_become_6 ?_
  refine J_iconst dX4_become_9 ?_
  refine J_bipush dX4_become_10 (by decide) ?_
  refine J_copy aX4_15 mx_ac1 mx_ac2 mx_ac3 dX4_become_12 rfl rfl (by omega) (by omega) (by omega) (by omega) (by omega) (by decide) (by decide) (Nat.le_of_ble_eq_true rfl) ⟨Nat.le_of_ble_eq_true rfl, Nat.le_of_ble_eq_true rfl⟩ ?_
  rw [WS_30]
  exact R_v rfl dX4_become_15 rfl

set_option maxRecDepth 100000 in
theorem qX4_become_13_29 {S T : Nat → Int → Int} {D : List mx_C} : SpV yX4_become cX4_become 2 none 1 [.ref 13, .ref 29] (W5 S T D) (W5 (upS S 14 (cpy (S 30) (S 14) 0 0 55)) T D) := by
  refine Sp.of [.ref 13, .ref 29] (by decide) (by simp) (Nat.le_of_ble_eq_true rfl) rfl (fun E => ?_)
  refine L_a1 dX4_become_0 ?_
  refine GW_29_0 fX4_11 dX4_become_1 ?_
  refine J_iconst dX4_become_4 ?_
  refine L_a0 dX4_become_5 ?_
  refine GW_13_0 fX4_11 dX4_become_6 ?_
  refine J_iconst dX4_become_9 ?_
  refine J_bipush dX4_become_10 (by decide) ?_
  refine J_copy aX4_15 mx_ac1 mx_ac2 mx_ac3 dX4_become_12 rfl rfl (by omega) (by omega) (by omega) (by omega) (by omega) (by decide) (by decide) (Nat.le_of_ble_eq_true rfl) ⟨Nat.le_of_ble_eq_true rfl, Nat.le_of_ble_eq_true rfl⟩ ?_
  rw [WS_14]
  exact R_v rfl dX4_become_15 rfl

set_option maxRecDepth 100000 in
theorem qX4_copyTo {S T : Nat → Int → Int} {D : List mx_C} {p : Int} (h_p : 0 ≤ p ∧ p ≤ 1595) : SpV yX4_copyTo cX4_copyTo 3 none 1 [.ref 13, .ref 18, .int (jI p)] (W5 S T D) (W5 (upS S 18 (cpy (S 14) (S 18) 0 p 55)) T D) := by
  refine Sp.of [.ref 13, .ref 18, .int (jI p)] (by decide) (by simp) (Nat.le_of_ble_eq_true rfl) rfl (fun E => ?_)
  refine L_i2 dX4_copyTo_0 ?_
  refine J_if_lt 25 dX4_copyTo_1 rfl (by omega) (fun c1 => ?_) (fun c1 => ?_)
  · exfalso; omega
  · refine L_i2 dX4_copyTo_4 ?_
    refine L_a1 dX4_copyTo_5 ?_
    refine AL_18 dX4_copyTo_6 ?_
    refine J_bipush dX4_copyTo_7 (by decide) ?_
    refine J_isub dX4_copyTo_9 ?_
    refine J_icmp_gt 25 dX4_copyTo_10 rfl (by omega) (by omega) (fun c10 => ?_) (fun c10 => ?_)
    · exfalso; omega
    · refine L_a0 dX4_copyTo_13 ?_
      refine GW_13_0 fX4_11 dX4_copyTo_14 ?_
      refine J_iconst dX4_copyTo_17 ?_
      refine L_a1 dX4_copyTo_18 ?_
      refine L_i2 dX4_copyTo_19 ?_
      refine J_bipush dX4_copyTo_20 (by decide) ?_
      refine J_copy aX4_15 mx_ac1 mx_ac2 mx_ac3 dX4_copyTo_22 rfl rfl (by omega) (by omega) (by omega) (by omega) (by omega) (by decide) (by decide) (Nat.le_of_ble_eq_true rfl) ⟨Nat.le_of_ble_eq_true rfl, Nat.le_of_ble_eq_true rfl⟩ ?_
      rw [WS_18]
      exact R_v rfl dX4_copyTo_25 rfl

set_option maxRecDepth 100000 in
theorem qX4_copyFrom {S T : Nat → Int → Int} {D : List mx_C} {p : Int} (h_p : 0 ≤ p ∧ p ≤ 1595) : SpV yX4_copyFrom cX4_copyFrom 3 none 1 [.ref 13, .ref 18, .int (jI p)] (W5 S T D) (W5 (upS S 14 (cpy (S 18) (S 14) p 0 55)) T D) := by
  refine Sp.of [.ref 13, .ref 18, .int (jI p)] (by decide) (by simp) (Nat.le_of_ble_eq_true rfl) rfl (fun E => ?_)
  refine L_i2 dX4_copyFrom_0 ?_
  refine J_if_lt 25 dX4_copyFrom_1 rfl (by omega) (fun c1 => ?_) (fun c1 => ?_)
  · exfalso; omega
  · refine L_i2 dX4_copyFrom_4 ?_
    refine L_a1 dX4_copyFrom_5 ?_
    refine AL_18 dX4_copyFrom_6 ?_
    refine J_bipush dX4_copyFrom_7 (by decide) ?_
    refine J_isub dX4_copyFrom_9 ?_
    refine J_icmp_gt 25 dX4_copyFrom_10 rfl (by omega) (by omega) (fun c10 => ?_) (fun c10 => ?_)
    · exfalso; omega
    · refine L_a1 dX4_copyFrom_13 ?_
      refine L_i2 dX4_copyFrom_14 ?_
      refine L_a0 dX4_copyFrom_15 ?_
      refine GW_13_0 fX4_11 dX4_copyFrom_16 ?_
      refine J_iconst dX4_copyFrom_19 ?_
      refine J_bipush dX4_copyFrom_20 (by decide) ?_
      refine J_copy aX4_15 mx_ac1 mx_ac2 mx_ac3 dX4_copyFrom_22 rfl rfl (by omega) (by omega) (by omega) (by omega) (by omega) (by decide) (by decide) (Nat.le_of_ble_eq_true rfl) ⟨Nat.le_of_ble_eq_true rfl, Nat.le_of_ble_eq_true rfl⟩ ?_
      rw [WS_14]
      exact R_v rfl dX4_copyFrom_25 rfl

/-- a step kept -/
def stK (S : Nat → Int → Int) : Nat → Int → Int := upS (upS S 18 (cpy (S 14) (S 18) 0 (S 17 1 * 55) 55)) 17 (up (up (S 17) 1 ((S 17 1 + 1) % 30)) 2 (if S 17 2 + 1 < 30 then S 17 2 + 1 else 30))
def stU (S : Nat → Int → Int) : Nat → Int → Int := upS (upS S 17 (up (up (S 17) 1 ((S 17 1 + 30 - 1) % 30)) 2 (S 17 2 - 1))) 14 (cpy (S 18) (S 14) ((S 17 1 + 30 - 1) % 30 * 55) 0 55)
theorem upS_upS (S : Nat → Int → Int) (i : Nat) (f g : Int → Int) : upS (upS S i f) i g = upS S i g := by
  funext k
  unfold upS
  split <;> rfl
theorem upS_comm (S : Nat → Int → Int) {i j : Nat} (h : ¬ i = j) (f g : Int → Int) : upS (upS S i f) j g = upS (upS S j g) i f := by
  funext k
  unfold upS
  by_cases h1 : k = i
  · subst h1; rw [if_neg h, if_pos rfl, if_pos rfl]
  · rw [if_neg h1, if_neg h1]
set_option maxRecDepth 100000 in
theorem qX8_keep {S T : Nat → Int → Int} {D : List mx_C} (h1 : 0 ≤ S 17 1 ∧ S 17 1 ≤ 29) (h2 : 0 ≤ S 17 2 ∧ S 17 2 ≤ 30) : SpV yX8_keep cX8_keep 2 none 2 [.ref 17, .ref 13] (W5 S T D) (W5 (stK S) T D) := by
  refine Sp.of [.ref 17, .ref 13] (by decide) (by simp) (Nat.le_of_ble_eq_true rfl) rfl (fun E => ?_)
  refine L_a1 dX8_keep_0 ?_
  refine L_a0 dX8_keep_1 ?_
  refine GW_17_0 fX8_11 dX8_keep_2 ?_
  refine L_a0 dX8_keep_5 ?_
  refine GW_17_1 fX8_15 dX8_keep_6 ?_
  refine J_bipush dX8_keep_9 (by decide) ?_
  refine J_imul dX8_keep_11 ?_
  refine C_v2V vX8_22 dX8_keep_12 (qX4_copyTo (by omega)) rfl rfl (Nat.le_of_ble_eq_true rfl) (by decide) ?_
  refine L_a0 dX8_keep_15 ?_
  refine L_a0 dX8_keep_16 ?_
  refine GW_17_1 fX8_15 dX8_keep_17 ?_
  refine J_eqi (b := S 17 1) (by rw [upS_n (by decide)]) ?_
  refine J_iconst dX8_keep_20 ?_
  refine J_iadd dX8_keep_21 ?_
  refine J_bipush dX8_keep_22 (by decide) ?_
  refine J_iremN dX8_keep_24 (by omega) (by omega) ?_
  refine PW_17_1 fX8_15 dX8_keep_25 ?_
  refine L_a0 dX8_keep_28 ?_
  refine J_bipush dX8_keep_29 (by decide) ?_
  refine L_a0 dX8_keep_31 ?_
  refine GW_17_2 fX8_19 dX8_keep_32 ?_
  refine J_eqi (b := S 17 2) (by rw [upS_s, up_n (by decide), upS_n (by decide)]) ?_
  refine J_iconst dX8_keep_35 ?_
  refine J_iadd dX8_keep_36 ?_
  refine J_mmin vX8_26 mX8_26 dX8_keep_37 (by omega) (by omega) (Nat.le_of_ble_eq_true rfl) ⟨Nat.le_of_ble_eq_true rfl, Nat.le_of_ble_eq_true rfl⟩ ?_
  refine PW_17_2 fX8_19 dX8_keep_40 ?_
  exact R_v rfl dX8_keep_43 (by unfold stK; rw [upS_upS, upS_s, upS_n (by decide)])

set_option maxRecDepth 100000 in
theorem qX8_takeBack0 {S T : Nat → Int → Int} {D : List mx_C} (h2 : S 17 2 = 0) : SpF yX8_takeBack cX8_takeBack 2 (some .boolean) 0 [.ref 17, .ref 13] (W5 S T D) (.int (jI 0)) (W5 S T D) := by
  refine Sp.of [.ref 17, .ref 13] (by decide) (by simp) (Nat.le_of_ble_eq_true rfl) rfl (fun E => ?_)
  refine L_a0 dX8_takeBack_0 ?_
  refine GW_17_2 fX8_19 dX8_takeBack_1 ?_
  refine J_eqi (b := 0) h2 ?_
  refine J_if_ne 9 dX8_takeBack_4 rfl (by omega) (fun c4 => ?_) (fun c4 => ?_)
  · exact absurd rfl c4
  · refine J_iconst dX8_takeBack_7 ?_
    exact R_z rfl dX8_takeBack_8 (by decide) rfl (by simp_all)

set_option maxRecDepth 100000 in
theorem qX8_takeBack {S T : Nat → Int → Int} {D : List mx_C} (h1 : 0 ≤ S 17 1 ∧ S 17 1 ≤ 29) (h2 : 0 ≤ S 17 2 ∧ S 17 2 ≤ 30) (h3 : ¬ S 17 2 = 0) : SpF yX8_takeBack cX8_takeBack 2 (some .boolean) 2 [.ref 17, .ref 13] (W5 S T D) (.int (jI 1)) (W5 (stU S) T D) := by
  refine Sp.of [.ref 17, .ref 13] (by decide) (by simp) (Nat.le_of_ble_eq_true rfl) rfl (fun E => ?_)
  refine L_a0 dX8_takeBack_0 ?_
  refine GW_17_2 fX8_19 dX8_takeBack_1 ?_
  refine J_if_ne 9 dX8_takeBack_4 rfl (by omega) (fun c4 => ?_) (fun c4 => ?_)
  · refine L_a0 dX8_takeBack_9 ?_
    refine L_a0 dX8_takeBack_10 ?_
    refine GW_17_1 fX8_15 dX8_takeBack_11 ?_
    refine J_bipush dX8_takeBack_14 (by decide) ?_
    refine J_iadd dX8_takeBack_16 ?_
    refine J_iconst dX8_takeBack_17 ?_
    refine J_isub dX8_takeBack_18 ?_
    refine J_bipush dX8_takeBack_19 (by decide) ?_
    refine J_iremN dX8_takeBack_21 (by omega) (by omega) ?_
    refine PW_17_1 fX8_15 dX8_takeBack_22 ?_
    refine L_a0 dX8_takeBack_25 ?_
    refine E_dup dX8_takeBack_26 rfl ?_
    refine GW_17_2 fX8_19 dX8_takeBack_27 ?_
    refine J_eqi (b := S 17 2) (by rw [upS_s, up_n (by decide)]) ?_
    refine J_iconst dX8_takeBack_30 ?_
    refine J_isub dX8_takeBack_31 ?_
    refine PW_17_2 fX8_19 dX8_takeBack_32 ?_
    refine L_a1 dX8_takeBack_35 ?_
    refine L_a0 dX8_takeBack_36 ?_
    refine GW_17_0 fX8_11 dX8_takeBack_37 ?_
    refine L_a0 dX8_takeBack_40 ?_
    refine GW_17_1 fX8_15 dX8_takeBack_41 ?_
    refine J_eqi (b := (S 17 1 + 30 - 1) % 30) (by rw [upS_s, up_n (by decide), upS_s, up_s]) ?_
    refine J_bipush dX8_takeBack_44 (by decide) ?_
    refine J_imul dX8_takeBack_46 ?_
    refine C_v2V vX8_32 dX8_takeBack_47 (qX4_copyFrom (by omega)) rfl rfl (Nat.le_of_ble_eq_true rfl) (by decide) ?_
    refine J_iconst dX8_takeBack_50 ?_
    exact R_z rfl dX8_takeBack_51 (by decide) (by unfold stU; rw [upS_upS, upS_s, upS_n (by decide), upS_n (by decide)]) (by simp_all)
  · exfalso; omega

set_option maxRecDepth 100000 in
theorem qX8_become_31_17 {S T : Nat → Int → Int} {D : List mx_C} : SpV yX8_become cX8_become 2 none 1 [.ref 31, .ref 17] (W5 S T D) (W5 (upS (upS S 32 (cpy (S 18) (S 32) 0 0 1650)) 31 (up (up (S 31) 1 (S 17 1)) 2 (S 17 2))) T D) := by
  refine Sp.of [.ref 31, .ref 17] (by decide) (by simp) (Nat.le_of_ble_eq_true rfl) rfl (fun E => ?_)
  refine L_a1 dX8_become_0 ?_
  refine GW_17_0 fX8_11 dX8_become_1 ?_
  refine J_iconst dX8_become_4 ?_
  refine L_a0 dX8_become_5 ?_
  refine GW_31_0 fX8_11 dX8_become_6 ?_
  refine J_iconst dX8_become_9 ?_
  refine J_sipush dX8_become_10 (by decide) ?_
  refine J_copy aX8_35 mx_ac1 mx_ac2 mx_ac3 dX8_become_13 rfl rfl (by omega) (by omega) (by omega) (by omega) (by omega) (by decide) (by decide) (Nat.le_of_ble_eq_true rfl) ⟨Nat.le_of_ble_eq_true rfl, Nat.le_of_ble_eq_true rfl⟩ ?_
  rw [WS_32]
  refine L_a0 dX8_become_16 ?_
  refine L_a1 dX8_become_17 ?_
  refine GW_17_1 fX8_15 dX8_become_18 ?_
  refine J_eqi (b := S 17 1) (congrFun (upS_n (by decide)) 1) ?_
  refine PW_31_1 fX8_15 dX8_become_21 ?_
  refine L_a0 dX8_become_24 ?_
  refine L_a1 dX8_become_25 ?_
  refine GW_17_2 fX8_19 dX8_become_26 ?_
  refine J_eqi (b := S 17 2) (congrFun ((upS_n (by decide)).trans (upS_n (by decide))) 2) ?_
  refine PW_31_2 fX8_19 dX8_become_29 ?_
  exact R_v rfl dX8_become_32 (by rw [upS_upS, upS_s, upS_n (by decide)])

set_option maxRecDepth 100000 in
theorem qX8_become_17_31 {S T : Nat → Int → Int} {D : List mx_C} : SpV yX8_become cX8_become 2 none 1 [.ref 17, .ref 31] (W5 S T D) (W5 (upS (upS S 18 (cpy (S 32) (S 18) 0 0 1650)) 17 (up (up (S 17) 1 (S 31 1)) 2 (S 31 2))) T D) := by
  refine Sp.of [.ref 17, .ref 31] (by decide) (by simp) (Nat.le_of_ble_eq_true rfl) rfl (fun E => ?_)
  refine L_a1 dX8_become_0 ?_
  refine GW_31_0 fX8_11 dX8_become_1 ?_
  refine J_iconst dX8_become_4 ?_
  refine L_a0 dX8_become_5 ?_
  refine GW_17_0 fX8_11 dX8_become_6 ?_
  refine J_iconst dX8_become_9 ?_
  refine J_sipush dX8_become_10 (by decide) ?_
  refine J_copy aX8_35 mx_ac1 mx_ac2 mx_ac3 dX8_become_13 rfl rfl (by omega) (by omega) (by omega) (by omega) (by omega) (by decide) (by decide) (Nat.le_of_ble_eq_true rfl) ⟨Nat.le_of_ble_eq_true rfl, Nat.le_of_ble_eq_true rfl⟩ ?_
  rw [WS_18]
  refine L_a0 dX8_become_16 ?_
  refine L_a1 dX8_become_17 ?_
  refine GW_31_1 fX8_15 dX8_become_18 ?_
  refine J_eqi (b := S 31 1) (congrFun (upS_n (by decide)) 1) ?_
  refine PW_17_1 fX8_15 dX8_become_21 ?_
  refine L_a0 dX8_become_24 ?_
  refine L_a1 dX8_become_25 ?_
  refine GW_31_2 fX8_19 dX8_become_26 ?_
  refine J_eqi (b := S 31 2) (congrFun ((upS_n (by decide)).trans (upS_n (by decide))) 2) ?_
  refine PW_17_2 fX8_19 dX8_become_29 ?_
  exact R_v rfl dX8_become_32 (by rw [upS_upS, upS_s, upS_n (by decide)])

def syA (S : Nat → Int → Int) (n b : Int) : Nat → Int → Int := upS (upS S 20 (up (S 20) (S 19 1) (bor (n * 16) b))) 19 (up (S 19) 1 (S 19 1 + 1))
set_option maxRecDepth 100000 in
theorem qX5_add0 {S T : Nat → Int → Int} {D : List mx_C} {n b : Int} (h1 : S 19 1 = 8) : SpF yX5_add cX5_add 3 (some .boolean) 0 [.ref 19, .int (jI n), .int (jI b)] (W5 S T D) (.int (jI 0)) (W5 S T D) := by
  refine Sp.of [.ref 19, .int (jI n), .int (jI b)] (by decide) (by simp) (Nat.le_of_ble_eq_true rfl) rfl (fun E => ?_)
  refine L_a0 dX5_add_0 ?_
  refine GW_19_1 fX5_13 dX5_add_1 ?_
  refine J_eqi (b := 8) h1 ?_
  refine J_if_lt 16 dX5_add_4 rfl (by omega) (fun c4 => ?_) (fun c4 => ?_)
  · exact absurd c4 (by decide)
  · refine L_a0 dX5_add_7 ?_
    refine GW_19_1 fX5_13 dX5_add_8 ?_
    refine J_eqi (b := 8) h1 ?_
    refine J_bipush dX5_add_11 (by decide) ?_
    refine J_icmp_lt 18 dX5_add_13 rfl (by omega) (by omega) (fun c13 => ?_) (fun c13 => ?_)
    · exact absurd c13 (by decide)
    · refine J_iconst dX5_add_16 ?_
      exact R_z rfl dX5_add_17 (by decide) rfl (by simp_all)

set_option maxRecDepth 100000 in
theorem qX5_add {S T : Nat → Int → Int} {D : List mx_C} {n b : Int} (h1 : 0 ≤ S 19 1 ∧ S 19 1 < 8) (h_n : 0 ≤ n ∧ n ≤ 100) (h_b : 0 ≤ b ∧ b ≤ 100) : SpF yX5_add cX5_add 3 (some .boolean) 0 [.ref 19, .int (jI n), .int (jI b)] (W5 S T D) (.int (jI 1)) (W5 (syA S n b) T D) := by
  refine Sp.of [.ref 19, .int (jI n), .int (jI b)] (by decide) (by simp) (Nat.le_of_ble_eq_true rfl) rfl (fun E => ?_)
  refine L_a0 dX5_add_0 ?_
  refine GW_19_1 fX5_13 dX5_add_1 ?_
  refine J_if_lt 16 dX5_add_4 rfl (by omega) (fun c4 => ?_) (fun c4 => ?_)
  · exfalso; omega
  · refine L_a0 dX5_add_7 ?_
    refine GW_19_1 fX5_13 dX5_add_8 ?_
    refine J_bipush dX5_add_11 (by decide) ?_
    refine J_icmp_lt 18 dX5_add_13 rfl (by omega) (by omega) (fun c13 => ?_) (fun c13 => ?_)
    · refine L_a0 dX5_add_18 ?_
      refine GW_19_0 fX5_9 dX5_add_19 ?_
      refine L_a0 dX5_add_22 ?_
      refine GW_19_1 fX5_13 dX5_add_23 ?_
      refine L_i1 dX5_add_26 ?_
      refine J_iconst dX5_add_27 ?_
      refine J_ishl dX5_add_28 (by omega) ?_
      refine J_eqi (b := n * 16) rfl ?_
      refine L_i2 dX5_add_29 ?_
      refine J_iorG dX5_add_30 (by omega) (by omega) ?_
      refine AS_20 dX5_add_31 (by omega) ?_
      refine L_a0 dX5_add_32 ?_
      refine E_dup dX5_add_33 rfl ?_
      refine GW_19_1 fX5_13 dX5_add_34 ?_
      refine J_eqi (b := S 19 1) (congrFun (upS_n (by decide)) 1) ?_
      refine J_iconst dX5_add_37 ?_
      refine J_iadd dX5_add_38 ?_
      refine PW_19_1 fX5_13 dX5_add_39 ?_
      refine J_iconst dX5_add_42 ?_
      exact R_z rfl dX5_add_43 (by decide) (by unfold syA; rw [upS_n (by decide)]) (by simp_all)
    · exfalso; omega

set_option maxRecDepth 100000 in
theorem qX5_number {S T : Nat → Int → Int} {D : List mx_C} {i : Int} (h_i : 0 ≤ i ∧ i < 8) (h20 : 0 ≤ S 20 i ∧ S 20 i < 4096) : SpF yX5_number cX5_number 2 (some .int) 0 [.ref 19, .int (jI i)] (W5 S T D) (.int (jI (S 20 i / 16))) (W5 S T D) := by
  refine Sp.of [.ref 19, .int (jI i)] (by decide) (by simp) (Nat.le_of_ble_eq_true rfl) rfl (fun E => ?_)
  refine L_i1 dX5_number_0 ?_
  refine J_if_lt 21 dX5_number_1 rfl (by omega) (fun c1 => ?_) (fun c1 => ?_)
  · exfalso; omega
  · refine L_i1 dX5_number_4 ?_
    refine J_bipush dX5_number_5 (by decide) ?_
    refine J_icmp_ge 21 dX5_number_7 rfl (by omega) (by omega) (fun c7 => ?_) (fun c7 => ?_)
    · exfalso; omega
    · refine L_a0 dX5_number_10 ?_
      refine GW_19_0 fX5_9 dX5_number_11 ?_
      refine L_i1 dX5_number_14 ?_
      refine AR_20 dX5_number_15 (by omega) ?_
      refine J_iconst dX5_number_16 ?_
      refine J_iushrK 16 dX5_number_17 (by decide) (by omega) (by omega) ?_
      refine E_goto 22 dX5_number_18 rfl ?_
      exact R_i rfl dX5_number_22 rfl rfl

set_option maxRecDepth 100000 in
theorem qX5_between {S T : Nat → Int → Int} {D : List mx_C} {i : Int} (h_i : 0 ≤ i ∧ i < 8) : SpF yX5_between cX5_between 2 (some .int) 0 [.ref 19, .int (jI i)] (W5 S T D) (.int (jI (S 20 i % 16))) (W5 S T D) := by
  refine Sp.of [.ref 19, .int (jI i)] (by decide) (by simp) (Nat.le_of_ble_eq_true rfl) rfl (fun E => ?_)
  refine L_i1 dX5_between_0 ?_
  refine J_if_lt 22 dX5_between_1 rfl (by omega) (fun c1 => ?_) (fun c1 => ?_)
  · exfalso; omega
  · refine L_i1 dX5_between_4 ?_
    refine J_bipush dX5_between_5 (by decide) ?_
    refine J_icmp_ge 22 dX5_between_7 rfl (by omega) (by omega) (fun c7 => ?_) (fun c7 => ?_)
    · exfalso; omega
    · refine L_a0 dX5_between_10 ?_
      refine GW_19_0 fX5_9 dX5_between_11 ?_
      refine L_i1 dX5_between_14 ?_
      refine AR_20 dX5_between_15 (by omega) ?_
      refine J_bipush dX5_between_16 (by decide) ?_
      refine J_imask 4 (by decide) (by decide) dX5_between_18 ?_
      refine E_goto 23 dX5_between_19 rfl ?_
      exact R_i rfl dX5_between_23 rfl rfl

set_option maxRecDepth 100000 in
theorem qX5_become_33_19 {S T : Nat → Int → Int} {D : List mx_C} : SpV yX5_become cX5_become 2 none 1 [.ref 33, .ref 19] (W5 S T D) (W5 (upS (upS S 34 (cpy (S 20) (S 34) 0 0 8)) 33 (up (S 33) 1 (S 19 1))) T D) := by
  refine Sp.of [.ref 33, .ref 19] (by decide) (by simp) (Nat.le_of_ble_eq_true rfl) rfl (fun E => ?_)
  refine L_a1 dX5_become_0 ?_
  refine GW_19_0 fX5_9 dX5_become_1 ?_
  refine J_iconst dX5_become_4 ?_
  refine L_a0 dX5_become_5 ?_
  refine GW_33_0 fX5_9 dX5_become_6 ?_
  refine J_iconst dX5_become_9 ?_
  refine J_bipush dX5_become_10 (by decide) ?_
  refine J_copy aX5_17 mx_ac1 mx_ac2 mx_ac3 dX5_become_12 rfl rfl (by omega) (by omega) (by omega) (by omega) (by omega) (by decide) (by decide) (Nat.le_of_ble_eq_true rfl) ⟨Nat.le_of_ble_eq_true rfl, Nat.le_of_ble_eq_true rfl⟩ ?_
  rw [WS_34]
  refine L_a0 dX5_become_15 ?_
  refine L_a1 dX5_become_16 ?_
  refine GW_19_1 fX5_13 dX5_become_17 ?_
  refine J_eqi (b := S 19 1) (congrFun (upS_n (by decide)) 1) ?_
  refine PW_33_1 fX5_13 dX5_become_20 ?_
  exact R_v rfl dX5_become_23 (by rw [upS_n (by decide)])

set_option maxRecDepth 100000 in
theorem qX5_become_19_33 {S T : Nat → Int → Int} {D : List mx_C} : SpV yX5_become cX5_become 2 none 1 [.ref 19, .ref 33] (W5 S T D) (W5 (upS (upS S 20 (cpy (S 34) (S 20) 0 0 8)) 19 (up (S 19) 1 (S 33 1))) T D) := by
  refine Sp.of [.ref 19, .ref 33] (by decide) (by simp) (Nat.le_of_ble_eq_true rfl) rfl (fun E => ?_)
  refine L_a1 dX5_become_0 ?_
  refine GW_33_0 fX5_9 dX5_become_1 ?_
  refine J_iconst dX5_become_4 ?_
  refine L_a0 dX5_become_5 ?_
  refine GW_19_0 fX5_9 dX5_become_6 ?_
  refine J_iconst dX5_become_9 ?_
  refine J_bipush dX5_become_10 (by decide) ?_
  refine J_copy aX5_17 mx_ac1 mx_ac2 mx_ac3 dX5_become_12 rfl rfl (by omega) (by omega) (by omega) (by omega) (by omega) (by decide) (by decide) (Nat.le_of_ble_eq_true rfl) ⟨Nat.le_of_ble_eq_true rfl, Nat.le_of_ble_eq_true rfl⟩ ?_
  rw [WS_20]
  refine L_a0 dX5_become_15 ?_
  refine L_a1 dX5_become_16 ?_
  refine GW_33_1 fX5_13 dX5_become_17 ?_
  refine J_eqi (b := S 33 1) (congrFun (upS_n (by decide)) 1) ?_
  refine PW_19_1 fX5_13 dX5_become_20 ?_
  exact R_v rfl dX5_become_23 (by rw [upS_n (by decide)])

