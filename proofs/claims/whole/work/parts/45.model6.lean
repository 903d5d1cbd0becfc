/-! ===== the reference: what a kept step leaves as it was; length, leaving, turning, moving by hand ===== -/
theorem kp_fin_lo {b : Int → Int} (hb : 0 ≤ b 2 ∧ b 2 ≤ 29) {q : Int} (hq : q < 48 ∨ 1638 ≤ q) (h2 : ¬ q = 2) : kp_fin b q = b q := by
  unfold kp_fin
  have hx : kp_x b = 48 + 53 * b 2 := rfl
  rw [up_n h2, blit_n _ (by omega), blit_n _ (by omega)]
theorem md_keep_lo {a : Int → Int} (h : 0 ≤ a 2 ∧ a 2 ≤ 30) {q : Int} (hq : q < 48 ∨ 1638 ≤ q) (h2 : ¬ q = 2) : md_keep a q = a q := by
  unfold md_keep
  split
  · rw [kp_fin_lo (by rw [up_s]; omega) hq h2, up_n h2, blit_n _ (by omega)]
  · exact kp_fin_lo (by omega) hq h2
theorem md_keep_2 {a : Int → Int} : md_keep a 2 = if a 2 = 30 then 30 else a 2 + 1 := by
  unfold md_keep
  split
  · unfold kp_fin; rw [up_s, up_s]; rfl
  · unfold kp_fin; rw [up_s]
theorem Bd_blit {a : Int → Int} (h : Bd a) (s d k : Int) : Bd (blit a s d k) := by
  intro q
  unfold blit
  split <;> exact h _
theorem kp_fin_Bd {b : Int → Int} (h : Bd b) (hb : 0 ≤ b 2 ∧ b 2 ≤ 29) : Bd (kp_fin b) := Bd_up (Bd_blit (Bd_blit h _ _ _) _ _ _) (by omega)
theorem md_keep_V {a : Int → Int} (hv : MV a) : MV (md_keep a) := by
  have h2 := hv.2.2.2.1
  have e : ∀ q, q < 48 → ¬ q = 2 → md_keep a q = a q := fun q u v => md_keep_lo h2 (Or.inl u) v
  have e0 := e 0 (by omega) (by omega)
  have e1 := e 1 (by omega) (by omega)
  have e3 := e 3 (by omega) (by omega)
  have e4 := e 4 (by omega) (by omega)
  have e5 := e 5 (by omega) (by omega)
  have e6 := e 6 (by omega) (by omega)
  have e7 := e 7 (by omega) (by omega)
  refine ⟨?_, by rw [e0]; exact hv.2.1, by rw [e1, e0]; exact hv.2.2.1, by rw [md_keep_2]; split <;> omega, by rw [e3]; exact hv.2.2.2.2.1, by rw [e4]; exact hv.2.2.2.2.2.1, by rw [e5]; exact hv.2.2.2.2.2.2.1, by rw [e6]; exact hv.2.2.2.2.2.2.2.1, by rw [e7]; exact hv.2.2.2.2.2.2.2.2.1, fun n hn => ?_⟩
  · unfold md_keep
    split
    · exact kp_fin_Bd (Bd_up (Bd_blit hv.1 _ _ _) (by decide)) (by rw [up_s]; decide)
    · exact kp_fin_Bd hv.1 (by omega)
  · rw [e7, e (8 + n) (by omega) (by omega), e (16 + n) (by omega) (by omega), e (24 + n) (by omega) (by omega)]
    exact hv.at hn
abbrev md_lenOk (a : Int → Int) (n : Int) : Prop := (1 ≤ n ∧ n ≤ 16) ∧ ¬ n = a 7 ∧ md_taken a / 2 ^ n.toNat = 0
set_option maxRecDepth 100000 in
theorem qX11_length {S T : Nat → Int → Int} {D : List mx_C} (hv : MV (T 37)) {n : Int} (h_n : -2147483648 ≤ n ∧ n < 2147483648) : SpF yX11_length cX11_length 2 (some .boolean) 4 [.ref 36, .int (jI n)] (W5 S T D) (.int (jI (jb (md_lenOk (T 37) n)))) (W5 S (if md_lenOk (T 37) n then upS T 37 (up (md_keep (T 37)) 7 n) else T) D) := by
  have ht := md_taken_B hv
  have hdv : 1 ≤ n → n ≤ 16 → 0 ≤ md_taken (T 37) / 2 ^ n.toNat ∧ md_taken (T 37) / 2 ^ n.toNat < 65536 := fun _ _ => by
    have hp : (0 : Int) < 2 ^ n.toNat := Int.pow_pos (by decide)
    exact ⟨Int.ediv_nonneg (by omega) (by omega), Int.lt_of_le_of_lt (Int.ediv_le_self _ (by omega)) (by omega)⟩
  have ha := hv.2
  refine Sp.of [.ref 36, .int (jI n)] (by decide) (by simp) (Nat.le_of_ble_eq_true rfl) rfl (fun E => ?_)
  refine L_i1 dX11_length_0 ?_
  refine J_iconst dX11_length_1 ?_
  refine J_bipush dX11_length_2 (by decide) ?_
  refine C_s3F vX11_83 dX11_length_4 (qX11_isIn (by omega) (by omega) (by omega)) (Nat.le_of_ble_eq_true rfl) (by decide) ?_
  refine J_ifeqB 30 dX11_length_7 rfl (fun c7 => ?_) (fun c7 => ?_)
  · refine J_iconst dX11_length_30 ?_
    exact R_z rfl dX11_length_31 (by decide) (by rw [if_neg (by omega)]) (jb_f (by omega)).symm
  · refine L_i1 dX11_length_10 ?_
    refine L_a0 dX11_length_11 ?_
    refine GW_36_0 fX11_7 dX11_length_12 ?_
    refine J_bipush dX11_length_15 (by decide) ?_
    refine AB_37 dX11_length_17 (by omega) hv.1 (fun b17 => ?_)
    refine J_icmp_eq 30 dX11_length_18 rfl (by omega) (by omega) (fun c18 => ?_) (fun c18 => ?_)
    · refine J_iconst dX11_length_30 ?_
      exact R_z rfl dX11_length_31 (by decide) (by rw [if_neg (by omega)]) (jb_f (by omega)).symm
    · refine L_a0 dX11_length_21 ?_
      refine C_v0F vX11_275 dX11_length_22 (qX11_taken hv) rfl rfl (Nat.le_of_ble_eq_true rfl) (by decide) ?_
      refine L_i1 dX11_length_25 ?_
      refine J_ishr dX11_length_26 (by omega) (by omega) ?_
      have hdv2 := hdv (by omega) (by omega)
      refine J_if_eq 32 dX11_length_27 rfl (by omega) (fun c27 => ?_) (fun c27 => ?_)
      · refine L_a0 dX11_length_32 ?_
        refine C_v0V vX11_353 dX11_length_33 (qX11_keep hv.2.2.2.1) rfl rfl (Nat.le_of_ble_eq_true rfl) (by decide) ?_
        refine L_a0 dX11_length_36 ?_
        refine GW_36_0 fX11_7 dX11_length_37 ?_
        refine J_bipush dX11_length_40 (by decide) ?_
        refine L_i1 dX11_length_42 ?_
        refine AS_37 dX11_length_43 (by omega) ?_
        refine J_iconst dX11_length_44 ?_
        exact R_z rfl dX11_length_45 (by decide) (by rw [if_pos ⟨by omega, by omega, c27⟩]; rfl) (jb_t ⟨by omega, by omega, c27⟩).symm
      · refine J_iconst dX11_length_30 ?_
        exact R_z rfl dX11_length_31 (by decide) (by rw [if_neg (fun h => c27 h.2.2)]) (jb_f (fun h => c27 h.2.2)).symm

set_option maxRecDepth 100000 in
theorem qX11_leave {S T : Nat → Int → Int} {D : List mx_C} (hv : MV (T 37)) (hw : T 36 23 = 1) {n : Int} (h_n : -2147483648 ≤ n ∧ n < 2147483648) (h_n2 : -2147483648 < n) : SpF yX11_leave cX11_leave 2 (some .boolean) 3 [.ref 36, .int (jI n)] (W5 S T D) (.int (jI (jb (md_stands (T 37) (n - 1))))) (W5 S (if md_stands (T 37) (n - 1) then upS T 37 (md_leave (md_keep (T 37)) (n - 1) 1) else T) D) := by
  refine Sp.of [.ref 36, .int (jI n)] (by decide) (by simp) (Nat.le_of_ble_eq_true rfl) rfl (fun E => ?_)
  refine L_a0 dX11_leave_0 ?_
  refine L_i1 dX11_leave_1 ?_
  refine J_iconst dX11_leave_2 ?_
  refine J_isub dX11_leave_3 ?_
  refine C_v1F vX11_91 dX11_leave_4 (qX11_standsV hv (by omega)) rfl rfl (Nat.le_of_ble_eq_true rfl) (by decide) ?_
  refine J_ifneB 12 dX11_leave_7 rfl (fun c7 => ?_) (fun c7 => ?_)
  · refine L_a0 dX11_leave_12 ?_
    refine C_v0V vX11_353 dX11_leave_13 (qX11_keep hv.2.2.2.1) rfl rfl (Nat.le_of_ble_eq_true rfl) (by decide) ?_
    refine L_a0 dX11_leave_16 ?_
    refine L_i1 dX11_leave_17 ?_
    refine J_iconst dX11_leave_18 ?_
    refine J_isub dX11_leave_19 ?_
    refine J_iconst dX11_leave_20 ?_
    refine C_v2V vX11_347 dX11_leave_21 (qX11_leaveNow (T := upS T 37 (md_keep (T 37))) (md_keep_V hv) hw (by omega) (by decide)) rfl rfl (Nat.le_of_ble_eq_true rfl) (by decide) ?_
    refine J_iconst dX11_leave_24 ?_
    exact R_z rfl dX11_leave_25 (by decide) (by first | (rw [if_pos c7]; rfl) | rw [if_neg c7]) (by first | exact (jb_t c7).symm | exact (jb_f c7).symm)
  · refine J_iconst dX11_leave_10 ?_
    exact R_z rfl dX11_leave_11 (by decide) (by first | (rw [if_pos c7]; rfl) | rw [if_neg c7]) (by first | exact (jb_t c7).symm | exact (jb_f c7).symm)

set_option maxRecDepth 100000 in
theorem qX11_turn {S T : Nat → Int → Int} {D : List mx_C} (hv : MV (T 37)) : SpF yX11_turn cX11_turn 1 (some .int) 4 [.ref 36] (W5 S T D) (.int (jI (if md_standing (T 37) = 0 then -1 else pc (md_standing (md_turn (md_keep (T 37))))))) (W5 S (if md_standing (T 37) = 0 then T else upS T 37 (md_turn (md_keep (T 37)))) D) := by
  have hs := md_standing_B (T 37)
  have hs2 := md_standing_B (md_turn (md_keep (T 37)))
  refine Sp.of [.ref 36] (by decide) (by simp) (Nat.le_of_ble_eq_true rfl) rfl (fun E => ?_)
  refine L_a0 dX11_turn_0 ?_
  refine C_v0F vX11_301 dX11_turn_1 (qX11_standingV hv) rfl rfl (Nat.le_of_ble_eq_true rfl) (by decide) ?_
  refine J_if_ne 9 dX11_turn_4 rfl (by omega) (fun c4 => ?_) (fun c4 => ?_)
  · refine L_a0 dX11_turn_9 ?_
    refine C_v0V vX11_353 dX11_turn_10 (qX11_keep hv.2.2.2.1) rfl rfl (Nat.le_of_ble_eq_true rfl) (by decide) ?_
    refine L_a0 dX11_turn_13 ?_
    refine C_v0V vX11_359 dX11_turn_14 (qX11_turnNow (T := upS T 37 (md_keep (T 37))) (md_keep_V hv)) rfl rfl (Nat.le_of_ble_eq_true rfl) (by decide) ?_
    refine E_eq rfl rfl rfl (show _ = W5 S (upS T 37 (md_turn (md_keep (T 37)))) D from rfl) ?_
    refine L_a0 dX11_turn_17 ?_
    refine C_v0F vX11_301 dX11_turn_18 (qX11_standingV (T := upS T 37 (md_turn (md_keep (T 37)))) (md_turn_V (md_keep_V hv) 8 0 (by omega) (by omega))) rfl rfl (Nat.le_of_ble_eq_true rfl) (by decide) ?_
    refine J_eqi (b := md_standing (md_turn (md_keep (T 37)))) rfl ?_
    refine C_s1F vX11_304 dX11_turn_21 (qX11_bits (by omega)) (Nat.le_of_ble_eq_true rfl) (by decide) ?_
    exact R_i rfl dX11_turn_24 (by first | rw [if_neg c4] | rw [if_pos c4]) (by first | rw [if_neg c4] | rw [if_pos c4])
  · refine J_iconst dX11_turn_7 ?_
    exact R_i rfl dX11_turn_8 (by first | rw [if_neg c4] | rw [if_pos c4]) (by first | rw [if_neg c4] | rw [if_pos c4])

def CA (a : Int → Int) (b k : Int) : Prop := ∀ n, k ≤ n ∧ n ≤ 7 → 0 ≤ a (8 + n) → 0 ≤ a (8 + n) + b ∧ a (16 + n) + b < a 7
theorem md_mvg_V {a : Int → Int} (hv : MV a) {b k : Int} (hc : CA a b k) (hk : 0 ≤ k ∧ k ≤ 7) : MV (md_mvg b k a) ∧ CA (md_mvg b k a) b (k + 1) := by
  unfold md_mvg
  split
  · next h =>
    have ha := hv.at hk
    have h2 := h.2
    have hck := hc k (by omega) (by omega)
    refine ⟨MV_two hv hk (by omega), fun n hn hh => ?_⟩
    rw [up_n (k := 16 + k) (j := 8 + n) (by omega), up_n (k := 8 + k) (j := 8 + n) (by omega)] at hh ⊢
    rw [up_n (k := 16 + k) (j := 16 + n) (by omega), up_n (k := 8 + k) (j := 16 + n) (by omega), up_n (k := 16 + k) (j := 7) (by omega), up_n (k := 8 + k) (j := 7) (by omega)]
    exact hc n (by omega) hh
  · exact ⟨hv, fun n hn hh => hc n (by omega) hh⟩
set_option maxRecDepth 100000 in
theorem lX11_shift {E : mx_E} {S T : Nat → Int → Int} {D : List mx_C} {b : Int} (hb : -15 ≤ b ∧ b ≤ 15) : ∀ (m : Nat) (k : Int) (a : Int → Int), MV a → CA a b k → k + m = 8 → 0 ≤ k → Ev E yX11_shift cX11_shift 3 (some .boolean) (kf E 5 (.int (jI 1)) (W5 S (upS T 37 (lpF (md_mvg b) m k a)) D)) 0 0 16 [.ref 36, .int (jI b), .int (jI k)] [] (W5 S (upS T 37 (a)) D) := by
  intro m
  induction m with
  | zero =>
    intro k a hv hc hk hk0
    refine L_i2 dX11_shift_16 ?_
    refine J_bipush dX11_shift_17 (by decide) ?_
    refine J_icmp_ge 63 dX11_shift_19 rfl (by omega) (by omega) (fun c19 => ?_) (fun c19 => ?_)
    · refine J_iconst dX11_shift_63 ?_
      exact R_z rfl dX11_shift_64 (by decide) rfl rfl
    · exfalso; omega
  | succ m ih =>
    intro k a hv hc hk hk0
    have hvk := md_mvg_V hv hc (k := k) (by omega)
    have ha := hv.2
    refine L_i2 dX11_shift_16 ?_
    refine J_bipush dX11_shift_17 (by decide) ?_
    refine J_icmp_ge 63 dX11_shift_19 rfl (by omega) (by omega) (fun c19 => ?_) (fun c19 => ?_)
    · exfalso; omega
    · refine L_a0 dX11_shift_22 ?_
      refine L_i2 dX11_shift_23 ?_
      refine C_v1F vX11_91 dX11_shift_24 (qX11_standsV (T := upS T 37 a) hv (by omega)) rfl rfl (Nat.le_of_ble_eq_true rfl) (by decide) ?_
      refine J_ifeqB 57 dX11_shift_27 rfl (fun c27 => ?_) (fun c27 => ?_)
      · refine JI_2 dX11_shift_57 (by decide) rfl ?_
        refine E_goto 16 dX11_shift_60 rfl ?_
        first
          | (rw [lpF, show md_mvg b k a = a from if_neg c27]; exact ih (k + 1) a hv (fun n hn hh => hc n (by omega) hh) (by omega) (by omega))
          | (have e : md_mvg b k a = _ := if_pos c27; rw [e] at hvk; rw [lpF, e]; exact ih (k + 1) _ hvk.1 hvk.2 (by omega) (by omega))
      · refine L_a0 dX11_shift_30 ?_
        refine L_i2 dX11_shift_31 ?_
        refine L_a0 dX11_shift_32 ?_
        refine GW_36_0 fX11_7 dX11_shift_33 ?_
        refine J_bipush dX11_shift_36 (by decide) ?_
        refine L_i2 dX11_shift_38 ?_
        refine J_iadd dX11_shift_39 ?_
        refine AB_37 dX11_shift_40 (by omega) hv.1 (fun b40 => ?_)
        refine L_i1 dX11_shift_41 ?_
        refine J_iadd dX11_shift_42 ?_
        refine L_a0 dX11_shift_43 ?_
        refine GW_36_0 fX11_7 dX11_shift_44 ?_
        refine J_bipush dX11_shift_47 (by decide) ?_
        refine L_i2 dX11_shift_49 ?_
        refine J_iadd dX11_shift_50 ?_
        refine AB_37 dX11_shift_51 (by omega) hv.1 (fun b51 => ?_)
        refine L_i1 dX11_shift_52 ?_
        refine J_iadd dX11_shift_53 ?_
        refine C_v3V vX11_75 dX11_shift_54 (qX11_layPlaces (by omega)) rfl rfl (Nat.le_of_ble_eq_true rfl) (by decide) ?_
        refine JI_2 dX11_shift_57 (by decide) rfl ?_
        refine E_goto 16 dX11_shift_60 rfl ?_
        first
          | (rw [lpF, show md_mvg b k a = a from if_neg c27]; exact ih (k + 1) a hv (fun n hn hh => hc n (by omega) hh) (by omega) (by omega))
          | (have e : md_mvg b k a = _ := if_pos c27; rw [e] at hvk; rw [lpF, e]; exact ih (k + 1) _ hvk.1 hvk.2 (by omega) (by omega))

set_option maxRecDepth 100000 in
theorem qX11_shift {S T : Nat → Int → Int} {D : List mx_C} (hv : MV (T 37)) {b : Int} (h_b : -2147483648 ≤ b ∧ b < 2147483648) (hca : md_cs (T 37) b → CA (T 37) b 0) : SpF yX11_shift cX11_shift 3 (some .boolean) 5 [.ref 36, .int (jI b)] (W5 S T D) (.int (jI (jb (md_cs (T 37) b)))) (W5 S (if md_cs (T 37) b then upS T 37 (lpF (md_mvg b) 8 0 (md_keep (T 37))) else T) D) := by
  refine Sp.of [.ref 36, .int (jI b), .retAddr 0] (by decide) (by simp) (Nat.le_of_ble_eq_true rfl) rfl (fun E => ?_)
  refine L_a0 dX11_shift_0 ?_
  refine L_i1 dX11_shift_1 ?_
  refine C_v1F vX11_362 dX11_shift_2 (qX11_canShift hv h_b) rfl rfl (Nat.le_of_ble_eq_true rfl) (by decide) ?_
  refine J_ifneB 10 dX11_shift_5 rfl (fun c5 => ?_) (fun c5 => ?_)
  · refine L_a0 dX11_shift_10 ?_
    refine C_v0V vX11_353 dX11_shift_11 (qX11_keep hv.2.2.2.1) rfl rfl (Nat.le_of_ble_eq_true rfl) (by decide) ?_
    refine J_iconst dX11_shift_14 ?_
    refine S_i2 dX11_shift_15 (by decide) rfl ?_
    rw [if_pos c5, jb_t c5]
    have ck : CA (md_keep (T 37)) b 0 := fun n hn hh => by
      have h2 := hv.2.2.2.1
      rw [md_keep_lo h2 (Or.inl (by omega)) (by omega)] at hh ⊢
      rw [md_keep_lo h2 (Or.inl (by omega)) (by omega), md_keep_lo h2 (Or.inl (by omega)) (by omega)]
      exact hca c5 n hn hh
    exact lX11_shift (T := T) c5.1 8 0 _ (md_keep_V hv) ck (by omega) (by omega)
  · refine J_iconst dX11_shift_8 ?_
    exact R_z rfl dX11_shift_9 (by decide) (by rw [if_neg c5]) (jb_f c5).symm

def md_said (a : Int → Int) (n b : Int) : Int → Int := up (up (up a (32 + 2 * a 3) (n - 1)) (32 + 2 * a 3 + 1) b) 3 (a 3 + 1)
abbrev sd_ok (n b c : Int) : Prop := (1 ≤ n ∧ n ≤ 8) ∧ (0 ≤ b ∧ b ≤ 14) ∧ ¬ c = 8
set_option maxRecDepth 100000 in
theorem qX11_said {S T : Nat → Int → Int} {D : List mx_C} (hv : MV (T 37)) {n : Int} (h_n : -2147483648 ≤ n ∧ n < 2147483648) {b : Int} (h_b : -2147483648 ≤ b ∧ b < 2147483648) (h_n2 : -2147483648 < n) : SpF yX11_said cX11_said 3 (some .int) 2 [.ref 36, .int (jI n), .int (jI b)] (W5 S T D) (.int (jI (if n = -1 then 0 else if sd_ok n b (T 37 3) then T 37 3 + 1 else -2))) (W5 S (if n = -1 then upF T 37 3 0 else if sd_ok n b (T 37 3) then upS T 37 (md_said (T 37) n b) else T) D) := by
  have ha := hv.2
  refine Sp.of [.ref 36, .int (jI n), .int (jI b)] (by decide) (by simp) (Nat.le_of_ble_eq_true rfl) rfl (fun E => ?_)
  refine L_i1 dX11_said_0 ?_
  refine J_iconst dX11_said_1 ?_
  refine J_icmp_ne 14 dX11_said_2 rfl (by omega) (by omega) (fun c2 => ?_) (fun c2 => ?_)
  · refine L_i1 dX11_said_14 ?_
    refine J_iconst dX11_said_15 ?_
    refine J_isub dX11_said_16 ?_
    refine C_s1F vX11_87 dX11_said_17 (qX11_isNumber (by omega)) (Nat.le_of_ble_eq_true rfl) (by decide) ?_
    refine J_ifeqB 44 dX11_said_20 rfl (fun c20 => ?_) (fun c20 => ?_)
    · refine J_bipush dX11_said_44 (by decide) ?_
      exact R_i rfl dX11_said_46 (by split <;> first | rfl | omega | (split <;> first | rfl | omega)) (by split <;> first | rfl | omega | (split <;> first | rfl | omega))
    · refine L_i2 dX11_said_23 ?_
      refine J_iconst dX11_said_24 ?_
      refine J_bipush dX11_said_25 (by decide) ?_
      refine C_s3F vX11_83 dX11_said_27 (qX11_isIn (by omega) (by omega) (by omega)) (Nat.le_of_ble_eq_true rfl) (by decide) ?_
      refine J_ifeqB 44 dX11_said_30 rfl (fun c30 => ?_) (fun c30 => ?_)
      · refine J_bipush dX11_said_44 (by decide) ?_
        exact R_i rfl dX11_said_46 (by split <;> first | rfl | omega | (split <;> first | rfl | omega)) (by split <;> first | rfl | omega | (split <;> first | rfl | omega))
      · refine L_a0 dX11_said_33 ?_
        refine GW_36_0 fX11_7 dX11_said_34 ?_
        refine J_iconst dX11_said_37 ?_
        refine AB_37 dX11_said_38 (by omega) hv.1 (fun b38 => ?_)
        refine J_bipush dX11_said_39 (by decide) ?_
        refine J_icmp_ne 47 dX11_said_41 rfl (by omega) (by omega) (fun c41 => ?_) (fun c41 => ?_)
        · refine L_a0 dX11_said_47 ?_
          refine GW_36_0 fX11_7 dX11_said_48 ?_
          refine J_bipush dX11_said_51 (by decide) ?_
          refine J_iconst dX11_said_53 ?_
          refine L_a0 dX11_said_54 ?_
          refine GW_36_0 fX11_7 dX11_said_55 ?_
          refine J_iconst dX11_said_58 ?_
          refine AB_37 dX11_said_59 (by omega) hv.1 (fun b59 => ?_)
          refine J_imul dX11_said_60 ?_
          refine J_iadd dX11_said_61 ?_
          refine L_i1 dX11_said_62 ?_
          refine J_iconst dX11_said_63 ?_
          refine J_isub dX11_said_64 ?_
          refine AS_37 dX11_said_65 (by omega) ?_
          refine L_a0 dX11_said_66 ?_
          refine GW_36_0 fX11_7 dX11_said_67 ?_
          refine J_bipush dX11_said_70 (by decide) ?_
          refine J_iconst dX11_said_72 ?_
          refine L_a0 dX11_said_73 ?_
          refine GW_36_0 fX11_7 dX11_said_74 ?_
          refine J_iconst dX11_said_77 ?_
          refine AR_37 dX11_said_78 (by omega) ?_
          refine J_eqi (b := T 37 3) (by show up _ _ _ 3 = _; exact up_n (by omega)) ?_
          refine J_imul dX11_said_79 ?_
          refine J_iadd dX11_said_80 ?_
          refine J_iconst dX11_said_81 ?_
          refine J_iadd dX11_said_82 ?_
          refine L_i2 dX11_said_83 ?_
          refine AS_37 dX11_said_84 (by omega) ?_
          refine L_a0 dX11_said_85 ?_
          refine GW_36_0 fX11_7 dX11_said_86 ?_
          refine J_iconst dX11_said_89 ?_
          refine E_dup2 dX11_said_90 rfl rfl ?_
          refine AR_37 dX11_said_91 (by omega) ?_
          refine J_eqi (b := T 37 3) (by show up (up _ _ _) _ _ 3 = _; rw [up_n (by omega), up_n (by omega)]) ?_
          refine J_iconst dX11_said_92 ?_
          refine J_iadd dX11_said_93 ?_
          refine AS_37 dX11_said_94 (by omega) ?_
          refine L_a0 dX11_said_95 ?_
          refine GW_36_0 fX11_7 dX11_said_96 ?_
          refine J_iconst dX11_said_99 ?_
          refine AR_37 dX11_said_100 (by omega) ?_
          refine J_eqi (b := T 37 3 + 1) rfl ?_
          exact R_i rfl dX11_said_101 (by split <;> first | rfl | omega | (split <;> first | rfl | omega)) (by split <;> first | rfl | omega | (split <;> first | rfl | omega))
        · refine J_bipush dX11_said_44 (by decide) ?_
          exact R_i rfl dX11_said_46 (by split <;> first | rfl | omega | (split <;> first | rfl | omega)) (by split <;> first | rfl | omega | (split <;> first | rfl | omega))
  · refine L_a0 dX11_said_5 ?_
    refine GW_36_0 fX11_7 dX11_said_6 ?_
    refine J_iconst dX11_said_9 ?_
    refine J_iconst dX11_said_10 ?_
    refine AS_37 dX11_said_11 (by omega) ?_
    refine J_iconst dX11_said_12 ?_
    exact R_i rfl dX11_said_13 (by split <;> first | rfl | omega | (split <;> first | rfl | omega)) (by split <;> first | rfl | omega | (split <;> first | rfl | omega))

set_option maxRecDepth 100000 in
theorem qX11_book {S T : Nat → Int → Int} {D : List mx_C} (hv : MV (T 37)) (hl : ML (T 37)) {i : Int} (h_i : -2147483648 ≤ i ∧ i < 2147483648) {q : Int} (h_q : -2147483648 ≤ q ∧ q < 2147483648) : SpF yX11_book cX11_book 3 (some .int) 2 [.ref 36, .int (jI i), .int (jI q)] (W5 S T D) (.int (jI (if i = -1 then T 37 6 else if (0 ≤ i ∧ i < T 37 6) ∧ (0 ≤ q ∧ q ≤ 3) then md_ln (T 37 (1638 + i)) q else -2))) (W5 S T D) := by
  have ha := hv.2
  refine Sp.of [.ref 36, .int (jI i), .int (jI q)] (by decide) (by simp) (Nat.le_of_ble_eq_true rfl) rfl (fun E => ?_)
  refine L_i1 dX11_book_0 ?_
  refine J_iconst dX11_book_1 ?_
  refine J_icmp_ne 13 dX11_book_2 rfl (by omega) (by omega) (fun c2 => ?_) (fun c2 => ?_)
  · refine L_i1 dX11_book_13 ?_
    refine J_iconst dX11_book_14 ?_
    refine L_a0 dX11_book_15 ?_
    refine GW_36_0 fX11_7 dX11_book_16 ?_
    refine J_bipush dX11_book_19 (by decide) ?_
    refine AB_37 dX11_book_21 (by omega) hv.1 (fun b21 => ?_)
    refine J_iconst dX11_book_22 ?_
    refine J_isub dX11_book_23 ?_
    refine C_s3F vX11_83 dX11_book_24 (qX11_isIn (by omega) (by omega) (by omega)) (Nat.le_of_ble_eq_true rfl) (by decide) ?_
    refine J_ifeqB 48 dX11_book_27 rfl (fun c27 => ?_) (fun c27 => ?_)
    · refine J_bipush dX11_book_48 (by decide) ?_
      exact R_i rfl dX11_book_50 rfl (by split <;> first | rfl | omega | (split <;> first | rfl | omega))
    · refine L_i2 dX11_book_30 ?_
      refine J_iconst dX11_book_31 ?_
      refine J_iconst dX11_book_32 ?_
      refine C_s3F vX11_83 dX11_book_33 (qX11_isIn (by omega) (by omega) (by omega)) (Nat.le_of_ble_eq_true rfl) (by decide) ?_
      refine J_ifeqB 48 dX11_book_36 rfl (fun c36 => ?_) (fun c36 => ?_)
      · refine J_bipush dX11_book_48 (by decide) ?_
        exact R_i rfl dX11_book_50 rfl (by split <;> first | rfl | omega | (split <;> first | rfl | omega))
      · refine L_a0 dX11_book_39 ?_
        refine L_i1 dX11_book_40 ?_
        refine L_i2 dX11_book_41 ?_
        refine C_v2F vX11_310 dX11_book_42 (qX11_lineOf hv hl (by omega) (by omega)) rfl rfl (Nat.le_of_ble_eq_true rfl) (by decide) ?_
        refine E_goto 50 dX11_book_45 rfl ?_
        exact R_i rfl dX11_book_50 rfl (by split <;> first | rfl | omega | (split <;> first | rfl | omega))
  · refine L_a0 dX11_book_5 ?_
    refine GW_36_0 fX11_7 dX11_book_6 ?_
    refine J_bipush dX11_book_9 (by decide) ?_
    refine AB_37 dX11_book_11 (by omega) hv.1 (fun b11 => ?_)
    exact R_i rfl dX11_book_12 rfl (by split <;> first | rfl | omega | (split <;> first | rfl | omega))

