/-! ===== the reference: turning, moving, length, leaving ===== -/
def md_tng (k : Int) (a : Int → Int) : Int → Int := if md_stands a k then up (up a (8 + k) (a 7 - 1 - a (16 + k))) (16 + k) (a 7 - 1 - a (8 + k)) else a
def md_mvg (b : Int) (k : Int) (a : Int → Int) : Int → Int := if md_stands a k then up (up a (8 + k) (a (8 + k) + b)) (16 + k) (a (16 + k) + b) else a
theorem MV_two {a : Int → Int} (hv : MV a) {k x z : Int} (hk : 0 ≤ k ∧ k ≤ 7) (hx : 0 ≤ x ∧ x < z ∧ z < a 7) : MV (up (up a (8 + k) x) (16 + k) z) := by
  have h7 := hv.2.2.2.2.2.2.2.2.1
  have e : ∀ q, ¬ q = 8 + k → ¬ q = 16 + k → (up (up a (8 + k) x) (16 + k) z) q = a q := fun q u v => by rw [up_n v, up_n u]
  have e0 := e 0 (by omega) (by omega)
  have e1 := e 1 (by omega) (by omega)
  have e2 := e 2 (by omega) (by omega)
  have e3 := e 3 (by omega) (by omega)
  have e4 := e 4 (by omega) (by omega)
  have e5 := e 5 (by omega) (by omega)
  have e6 := e 6 (by omega) (by omega)
  have e7 := e 7 (by omega) (by omega)
  refine ⟨Bd_up (Bd_up hv.1 (by omega)) (by omega), by rw [e0]; exact hv.2.1, by rw [e1, e0]; exact hv.2.2.1, by rw [e2]; exact hv.2.2.2.1, by rw [e3]; exact hv.2.2.2.2.1, by rw [e4]; exact hv.2.2.2.2.2.1, by rw [e5]; exact hv.2.2.2.2.2.2.1, by rw [e6]; exact hv.2.2.2.2.2.2.2.1, by rw [e7]; exact h7, fun n hn => ?_⟩
  have hb := hv.at hn
  by_cases hnk : n = k
  · subst hnk
    rw [e7, e (24 + n) (by omega) (by omega), up_s, up_n (k := 16 + n) (by omega), up_s]
    omega
  · rw [e7, e (24 + n) (by omega) (by omega), e (8 + n) (by omega) (by omega), e (16 + n) (by omega) (by omega)]
    exact hb
theorem md_tng_V {a : Int → Int} (hv : MV a) {k : Int} (hk : 0 ≤ k ∧ k ≤ 7) : MV (md_tng k a) := by
  unfold md_tng
  split
  · next h =>
    have ha := hv.at hk
    have h2 := h.2
    exact MV_two hv hk (by omega)
  · exact hv
def md_turn (a : Int → Int) : Int → Int := lpF md_tng 8 0 a
set_option maxRecDepth 100000 in
theorem lX11_turnNow {E : mx_E} {S T : Nat → Int → Int} {D : List mx_C} : ∀ (m : Nat) (k : Int) (a : Int → Int), MV a → k + m = 8 → 0 ≤ k → Ev E yX11_turnNow cX11_turnNow 2 none (kv E 3 (W5 S (upS T 37 (lpF md_tng m k a)) D)) 0 0 2 [.ref 36, .int (jI k)] [] (W5 S (upS T 37 (a)) D) := by
  intro m
  induction m with
  | zero =>
    intro k a hv hk hk0
    refine L_i1 dX11_turnNow_2 ?_
    refine J_bipush dX11_turnNow_3 (by decide) ?_
    refine J_icmp_ge 65 dX11_turnNow_5 rfl (by omega) (by omega) (fun c5 => ?_) (fun c5 => ?_)
    · exact R_v rfl dX11_turnNow_65 rfl
    · exfalso; omega
  | succ m ih =>
    intro k a hv hk hk0
    have hvk := md_tng_V hv (k := k) (by omega)
    have ha := hv.2
    refine L_i1 dX11_turnNow_2 ?_
    refine J_bipush dX11_turnNow_3 (by decide) ?_
    refine J_icmp_ge 65 dX11_turnNow_5 rfl (by omega) (by omega) (fun c5 => ?_) (fun c5 => ?_)
    · exfalso; omega
    · refine L_a0 dX11_turnNow_8 ?_
      refine L_i1 dX11_turnNow_9 ?_
      refine C_v1F vX11_91 dX11_turnNow_10 (qX11_standsV (T := upS T 37 a) hv (by omega)) rfl rfl (Nat.le_of_ble_eq_true rfl) (by decide) ?_
      refine J_ifeqB 59 dX11_turnNow_13 rfl (fun c13 => ?_) (fun c13 => ?_)
      · refine JI_1 dX11_turnNow_59 (by decide) rfl ?_
        refine E_goto 2 dX11_turnNow_62 rfl ?_
        first
          | (rw [lpF, show md_tng k a = a from if_neg c13]; exact ih (k + 1) a hv (by omega) (by omega))
          | (have e : md_tng k a = _ := if_pos c13; rw [e] at hvk; rw [lpF, e]; exact ih (k + 1) _ hvk (by omega) (by omega))
      · refine L_a0 dX11_turnNow_16 ?_
        refine L_i1 dX11_turnNow_17 ?_
        refine L_a0 dX11_turnNow_18 ?_
        refine GW_36_0 fX11_7 dX11_turnNow_19 ?_
        refine J_bipush dX11_turnNow_22 (by decide) ?_
        refine AB_37 dX11_turnNow_24 (by omega) hv.1 (fun b24 => ?_)
        refine J_iconst dX11_turnNow_25 ?_
        refine J_isub dX11_turnNow_26 ?_
        refine L_a0 dX11_turnNow_27 ?_
        refine GW_36_0 fX11_7 dX11_turnNow_28 ?_
        refine J_bipush dX11_turnNow_31 (by decide) ?_
        refine L_i1 dX11_turnNow_33 ?_
        refine J_iadd dX11_turnNow_34 ?_
        refine AB_37 dX11_turnNow_35 (by omega) hv.1 (fun b35 => ?_)
        refine J_isub dX11_turnNow_36 ?_
        refine L_a0 dX11_turnNow_37 ?_
        refine GW_36_0 fX11_7 dX11_turnNow_38 ?_
        refine J_bipush dX11_turnNow_41 (by decide) ?_
        refine AB_37 dX11_turnNow_43 (by omega) hv.1 (fun b43 => ?_)
        refine J_iconst dX11_turnNow_44 ?_
        refine J_isub dX11_turnNow_45 ?_
        refine L_a0 dX11_turnNow_46 ?_
        refine GW_36_0 fX11_7 dX11_turnNow_47 ?_
        refine J_bipush dX11_turnNow_50 (by decide) ?_
        refine L_i1 dX11_turnNow_52 ?_
        refine J_iadd dX11_turnNow_53 ?_
        refine AB_37 dX11_turnNow_54 (by omega) hv.1 (fun b54 => ?_)
        refine J_isub dX11_turnNow_55 ?_
        refine C_v3V vX11_75 dX11_turnNow_56 (qX11_layPlaces (by omega)) rfl rfl (Nat.le_of_ble_eq_true rfl) (by decide) ?_
        refine JI_1 dX11_turnNow_59 (by decide) rfl ?_
        refine E_goto 2 dX11_turnNow_62 rfl ?_
        first
          | (rw [lpF, show md_tng k a = a from if_neg c13]; exact ih (k + 1) a hv (by omega) (by omega))
          | (have e : md_tng k a = _ := if_pos c13; rw [e] at hvk; rw [lpF, e]; exact ih (k + 1) _ hvk (by omega) (by omega))

set_option maxRecDepth 100000 in
theorem qX11_turnNow {S T : Nat → Int → Int} {D : List mx_C} (hv : MV (T 37)) : SpV yX11_turnNow cX11_turnNow 2 none 3 [.ref 36] (W5 S T D) (W5 S (upS T 37 (md_turn (T 37))) D) := by
  refine Sp.of [.ref 36, .retAddr 0] (by decide) (by simp) (Nat.le_of_ble_eq_true rfl) rfl (fun E => ?_)
  refine J_iconst dX11_turnNow_0 ?_
  refine S_i1 dX11_turnNow_1 (by decide) rfl ?_
  exact lX11_turnNow (T := T) 8 0 (T 37) hv (by omega) (by omega)

theorem md_turn_V {a : Int → Int} (hv : MV a) : ∀ (m : Nat) (k : Int), k + m = 8 → 0 ≤ k → MV (lpF md_tng m k a) := by
  intro m
  induction m generalizing a with
  | zero => intro k _ _; exact hv
  | succ m ih => intro k h1 h2; rw [lpF]; exact ih (md_tng_V hv (by omega)) (k + 1) (by omega) (by omega)
theorem pow15 {b : Int} (h : 0 ≤ b ∧ b ≤ 15) : 1 ≤ (2 : Int) ^ b.toNat ∧ (2 : Int) ^ b.toNat ≤ 32768 := by
  have h1 : (2 : Nat) ^ b.toNat ≤ 2 ^ 15 := Nat.pow_le_pow_right (by decide) (by omega)
  have h2 : 1 ≤ (2 : Nat) ^ b.toNat := Nat.one_le_two_pow
  have e : (((2 : Nat) ^ b.toNat : Nat) : Int) = (2 : Int) ^ b.toNat := by norm_cast
  omega
abbrev md_cs (a : Int → Int) (b : Int) : Prop := (-15 ≤ b ∧ b ≤ 15) ∧ ¬ b = 0 ∧ ¬ md_taken a = 0 ∧ (if 0 < b then bdf (md_taken a * 2 ^ b.toNat) (bsh (a 7) - 1) = 0 else ban (md_taken a) (bsh (-b) - 1) = 0)
set_option maxRecDepth 100000 in
theorem qX11_canShift {S T : Nat → Int → Int} {D : List mx_C} (hv : MV (T 37)) {b : Int} (h_b : -2147483648 ≤ b ∧ b < 2147483648) : SpF yX11_canShift cX11_canShift 3 (some .boolean) 4 [.ref 36, .int (jI b)] (W5 S T D) (.int (jI (jb (md_cs (T 37) b)))) (W5 S T D) := by
  have ht := md_taken_B hv
  have h7 := bsh_pos (T 37 7)
  have hbp := bsh_pos (-b)
  have hm : 0 < b → b ≤ 15 → 0 ≤ md_taken (T 37) * 2 ^ b.toNat ∧ md_taken (T 37) * 2 ^ b.toNat ≤ 65535 * 32768 := fun u v => by
    have hp := pow15 (b := b) (by omega)
    exact ⟨Int.mul_nonneg (by omega) (by omega), Int.mul_le_mul (by omega) hp.2 (by omega) (by omega)⟩
  have hd1 := bdf_le (md_taken (T 37) * 2 ^ b.toNat) (bsh (T 37 7) - 1)
  have hd2 := bdf_nn (md_taken (T 37) * 2 ^ b.toNat) (bsh (T 37 7) - 1)
  have hd3 := ban_nn (md_taken (T 37)) (bsh (-b) - 1)
  have hd4 := ban_le' (md_taken (T 37)) (bsh (-b) - 1) (by omega)
  refine Sp.of [.ref 36, .int (jI b), .retAddr 0] (by decide) (by simp) (Nat.le_of_ble_eq_true rfl) rfl (fun E => ?_)
  refine L_a0 dX11_canShift_0 ?_
  refine C_v0F vX11_275 dX11_canShift_1 (qX11_taken hv) rfl rfl (Nat.le_of_ble_eq_true rfl) (by decide) ?_
  refine S_i2 dX11_canShift_4 (by decide) rfl ?_
  refine L_i1 dX11_canShift_5 ?_
  refine J_bipush dX11_canShift_6 (by decide) ?_
  refine J_bipush dX11_canShift_8 (by decide) ?_
  refine C_s3F vX11_83 dX11_canShift_10 (qX11_isIn (by omega) (by omega) (by omega)) (Nat.le_of_ble_eq_true rfl) (by decide) ?_
  refine J_ifeqB 59 dX11_canShift_13 rfl (fun c13 => ?_) (fun c13 => ?_)
  · refine J_iconst dX11_canShift_59 ?_
    exact R_z rfl dX11_canShift_60 (by decide) rfl (by first | exact (jb_f (fun h => by have h4 := h.2.2.2; rw [if_neg (by omega)] at h4; exact c52 h4)).symm | exact (jb_t ⟨by omega, by omega, by omega, by rw [if_neg (by omega)]; exact c52⟩).symm | exact (jb_f (by omega)).symm | exact (jb_f (fun h => c21_h h)).symm)
  · refine L_i1 dX11_canShift_16 ?_
    refine J_if_eq 59 dX11_canShift_17 rfl (by omega) (fun c17 => ?_) (fun c17 => ?_)
    · refine J_iconst dX11_canShift_59 ?_
      exact R_z rfl dX11_canShift_60 (by decide) rfl (by first | exact (jb_f (fun h => by have h4 := h.2.2.2; rw [if_neg (by omega)] at h4; exact c52 h4)).symm | exact (jb_t ⟨by omega, by omega, by omega, by rw [if_neg (by omega)]; exact c52⟩).symm | exact (jb_f (by omega)).symm | exact (jb_f (fun h => c21_h h)).symm)
    · refine L_i2 dX11_canShift_20 ?_
      refine J_if_eq 59 dX11_canShift_21 rfl (by omega) (fun c21 => ?_) (fun c21 => ?_)
      · refine J_iconst dX11_canShift_59 ?_
        exact R_z rfl dX11_canShift_60 (by decide) rfl (by first | exact (jb_f (fun h => by have h4 := h.2.2.2; rw [if_neg (by omega)] at h4; exact c52 h4)).symm | exact (jb_t ⟨by omega, by omega, by omega, by rw [if_neg (by omega)]; exact c52⟩).symm | exact (jb_f (by omega)).symm | exact (jb_f (fun h => c21_h h)).symm)
      · refine L_i1 dX11_canShift_24 ?_
        refine J_if_le 44 dX11_canShift_25 rfl (by omega) (fun c25 => ?_) (fun c25 => ?_)
        · refine L_i2 dX11_canShift_44 ?_
          refine J_iconst dX11_canShift_45 ?_
          refine L_i1 dX11_canShift_46 ?_
          refine J_ineg dX11_canShift_47 ?_
          refine J_1shl dX11_canShift_48 (by omega) ?_
          refine J_iconst dX11_canShift_49 ?_
          refine J_isub dX11_canShift_50 ?_
          refine J_iandG dX11_canShift_51 (by omega) (by omega) ?_
          refine J_if_ne 59 dX11_canShift_52 rfl (by omega) (fun c52 => ?_) (fun c52 => ?_)
          · refine J_iconst dX11_canShift_59 ?_
            exact R_z rfl dX11_canShift_60 (by decide) rfl (by first | exact (jb_f (fun h => by have h4 := h.2.2.2; rw [if_neg (by omega)] at h4; exact c52 h4)).symm | exact (jb_t ⟨by omega, by omega, by omega, by rw [if_neg (by omega)]; exact c52⟩).symm | exact (jb_f (by omega)).symm | exact (jb_f (fun h => c21_h h)).symm)
          · refine J_iconst dX11_canShift_55 ?_
            refine E_goto 60 dX11_canShift_56 rfl ?_
            exact R_z rfl dX11_canShift_60 (by decide) rfl (by first | exact (jb_f (fun h => by have h4 := h.2.2.2; rw [if_neg (by omega)] at h4; exact c52 h4)).symm | exact (jb_t ⟨by omega, by omega, by omega, by rw [if_neg (by omega)]; exact c52⟩).symm | exact (jb_f (by omega)).symm | exact (jb_f (fun h => c21_h h)).symm)
        · refine L_i2 dX11_canShift_28 ?_
          refine L_i1 dX11_canShift_29 ?_
          refine J_ishl dX11_canShift_30 (by omega) ?_
          refine L_a0 dX11_canShift_31 ?_
          refine C_v0F vX11_338 dX11_canShift_32 (qX11_everyPlace hv) rfl rfl (Nat.le_of_ble_eq_true rfl) (by decide) ?_
          refine J_iconst dX11_canShift_35 ?_
          refine J_inot dX11_canShift_36 ?_
          refine J_iandD dX11_canShift_37 (hm (by omega) (by omega)).1 (by omega) ?_
          have hm2 := hm (by omega) (by omega)
          have hd5 := hd1 hm2.1
          refine J_if_ne 59 dX11_canShift_38 rfl (by omega) (fun c38 => ?_) (fun c38 => ?_)
          · refine J_iconst dX11_canShift_59 ?_
            exact R_z rfl dX11_canShift_60 (by decide) rfl (jb_f (fun h => by have h4 := h.2.2.2; rw [if_pos (by omega)] at h4; exact c38 h4)).symm
          · refine E_goto 55 dX11_canShift_41 rfl ?_
            refine J_iconst dX11_canShift_55 ?_
            refine E_goto 60 dX11_canShift_56 rfl ?_
            exact R_z rfl dX11_canShift_60 (by decide) rfl (jb_t ⟨by omega, by omega, by omega, by rw [if_pos (by omega)]; exact c38⟩).symm

