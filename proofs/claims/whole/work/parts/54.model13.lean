/-! ===== the reference: joining ===== -/
/-- one less, as the machine has it -/
def wr1 (n : Int) : Int := if n = -2147483648 then 2147483647 else n - 1
theorem wr1_B {n : Int} (h : -2147483648 ≤ n ∧ n < 2147483648) : -2147483648 ≤ wr1 n ∧ wr1 n < 2147483648 := by unfold wr1; split <;> omega
theorem wr1_j (n : Int) : jI (n - 1) = jI (wr1 n) := by
  unfold wr1
  split
  · next h => rw [h]; decide
  · rfl
theorem wr1_v {n : Int} (h : 0 ≤ wr1 n ∧ wr1 n ≤ 7) : wr1 n = n - 1 := by
  unfold wr1 at h ⊢
  split
  · next e => rw [if_pos e] at h; omega
  · rfl
theorem wr1_e {n : Int} (h : ¬ n = -2147483648) : wr1 n = n - 1 := if_neg h
section WR
variable {E : mx_E} {y : MethodName} {cc : ByteArray} {nL : Nat} {ret : Option FieldType} {K : mx_Kd} {bc bs pc : Nat} {lv st : List Value} {hp : List mx_C}
theorem J_wr1 {n : Int} (k : Ev E y cc nL ret K bc bs pc lv (.int (jI (wr1 n)) :: st) hp) : Ev E y cc nL ret K bc bs pc lv (.int (jI (n - 1)) :: st) hp := by rw [wr1_j]; exact k
end WR
theorem qX11_betweenByF {S T : Nat → Int → Int} {D : List mx_C} (hi : MI T) {q k : Int} (h_q : -1 ≤ q ∧ q < T 37 0) (h_k : 0 ≤ k ∧ k ≤ 7) : SpI yX11_betweenBy cX11_betweenBy 3 (some .int) 8 [.ref 36, .int (jI q), .int (jI k)] (W5 S T D) (fun v hp' => v = md_btw (T 37) (T 39) q k ∧ ∃ T', hp' = W5 S T' D ∧ Fr [42, 43, 44] T T') := by
  have h0 := hi.1.2.1
  exact (qX11_betweenBy hi.1 hi.2.1 (n := T 37 0) (by omega) h_k hi.2.2).mono (fun r hp' h => by
    obtain ⟨v, hr, hv, g, V, B, e⟩ := h
    exact ⟨v, hr, hv, _, e, Fr_scr T g V B⟩)
theorem qX11_tiresOfF {S T : Nat → Int → Int} {D : List mx_C} (hi : MI T) {k : Int} (h_k : 0 ≤ k ∧ k ≤ 7) : SpI yX11_tiresOf cX11_tiresOf 2 (some .int) 8 [.ref 36, .int (jI k)] (W5 S T D) (fun v hp' => v = md_tir (T 37) (T 39) (T 37 1) k ∧ ∃ T', hp' = W5 S T' D ∧ Fr [42, 43, 44] T T') := by
  have h0 := hi.1.2
  exact (qX11_tiresOf hi.1 hi.2.1 (n := T 37 0) (by omega) h_k hi.2.2).mono (fun r hp' h => by
    obtain ⟨v, hr, hv, g, V, B, e⟩ := h
    exact ⟨v, hr, hv, _, e, Fr_scr T g V B⟩)
set_option maxRecDepth 100000 in
theorem qX11_secondAt {S T : Nat → Int → Int} {D : List mx_C} (hi : MI T) {k : Int} (h_k : -2147483648 ≤ k ∧ k < 2147483648) {p : Int} (h_p : -2147483648 ≤ p ∧ p < 2147483648) : SpI yX11_secondAt cX11_secondAt 4 (some .int) 9 [.ref 36, .int (jI k), .int (jI p)] (W5 S T D) (fun v hp' => v = md_sec (T 37) (T 39) k p ∧ ∃ T', hp' = W5 S T' D ∧ Fr [42, 43, 44] T T') := by
  have hv := hi.1
  have hl := hi.2.1
  have ha := hv.2
  refine Sp.of [.ref 36, .int (jI k), .int (jI p), .retAddr 0] (by decide) (by simp) (Nat.le_of_ble_eq_true rfl) rfl (fun E => ?_)
  refine L_i1 dX11_secondAt_0 ?_
  refine C_s1F vX11_87 dX11_secondAt_1 (qX11_isNumber (by omega)) (Nat.le_of_ble_eq_true rfl) (by decide) ?_
  refine J_ifeqB 25 dX11_secondAt_4 rfl (fun c4 => ?_) (fun c4 => ?_)
  · refine J_iconst dX11_secondAt_25 ?_
    exact RQ_i rfl dX11_secondAt_26 ⟨(by unfold md_sec; rw [if_neg (by omega)]), T, rfl, Fr.refl _ _⟩
  · refine L_a0 dX11_secondAt_7 ?_
    refine L_i1 dX11_secondAt_8 ?_
    refine C_v1F vX11_91 dX11_secondAt_9 (qX11_standsV hv (by omega)) rfl rfl (Nat.le_of_ble_eq_true rfl) (by decide) ?_
    refine J_ifneB 25 dX11_secondAt_12 rfl (fun c12 => ?_) (fun c12 => ?_)
    · refine J_iconst dX11_secondAt_25 ?_
      exact RQ_i rfl dX11_secondAt_26 ⟨(by unfold md_sec; rw [if_neg (by omega)]), T, rfl, Fr.refl _ _⟩
    · refine L_i2 dX11_secondAt_15 ?_
      refine J_iconst dX11_secondAt_16 ?_
      refine J_bipush dX11_secondAt_17 (by decide) ?_
      refine C_s3F vX11_83 dX11_secondAt_19 (qX11_isIn (by omega) (by omega) (by omega)) (Nat.le_of_ble_eq_true rfl) (by decide) ?_
      refine J_ifneB 27 dX11_secondAt_22 rfl (fun c22 => ?_) (fun c22 => ?_)
      · refine L_i2 dX11_secondAt_27 ?_
        refine L_a0 dX11_secondAt_28 ?_
        refine L_a0 dX11_secondAt_29 ?_
        refine GW_36_0 fX11_7 dX11_secondAt_30 ?_
        refine J_iconst dX11_secondAt_33 ?_
        refine AB_37 dX11_secondAt_34 (by omega) hv.1 (fun b34 => ?_)
        refine L_i1 dX11_secondAt_35 ?_
        refine C_v2I vX11_329 dX11_secondAt_36 (qX11_betweenByF hi (by omega) (by omega)) rfl rfl (Nat.le_of_ble_eq_true rfl) (by decide) (fun v36 hp36 hq36 => ?_)
        obtain ⟨rfl, T36, rfl, f36⟩ := hq36
        have e36 := f36 37 (by decide)
        have hi36 := hi.congr e36 (f36 39 (by decide))
        have hv36 := hi36.1
        have hbb := md_btw_B (a := T 37) (c := T 39) (q := T 37 1) (k := k) (by omega)
        refine J_iadd dX11_secondAt_39 ?_
        refine J_iconst dX11_secondAt_40 ?_
        refine J_iadd dX11_secondAt_41 ?_
        refine S_i3 dX11_secondAt_42 (by decide) rfl ?_
        refine L_i3 dX11_secondAt_43 ?_
        refine L_a0 dX11_secondAt_44 ?_
        refine GW_36_0 fX11_7 dX11_secondAt_45 ?_
        refine J_bipush dX11_secondAt_48 (by decide) ?_
        refine AB_37 dX11_secondAt_50 (by omega) hv36.1 (fun b50 => ?_)
        rw [e36] at b50
        rw [e36]
        refine J_icmp_ge 80 dX11_secondAt_51 rfl (by omega) (by omega) (fun c51 => ?_) (fun c51 => ?_)
        · refine J_iconst dX11_secondAt_80 ?_
          exact RQ_i rfl dX11_secondAt_81 ⟨by first | (unfold md_sec md_sc2; rw [if_pos (by omega), if_pos ⟨by omega, by assumption, by assumption⟩]) | (unfold md_sec md_sc2; rw [if_pos (by omega), if_neg (fun h => by have h1 := h.1; have h2 := h.2.1; have h3 := h.2.2; omega)]), _, rfl, f36⟩
        · refine L_a0 dX11_secondAt_54 ?_
          refine C_v0F vX11_275 dX11_secondAt_55 (qX11_taken hv36) rfl rfl (Nat.le_of_ble_eq_true rfl) (by decide) ?_
          rw [e36]
          have ht := md_taken_B hv
          refine L_i2 dX11_secondAt_58 ?_
          refine C_s2F vX11_251 dX11_secondAt_59 (qX11_has (by omega) (by omega)) (Nat.le_of_ble_eq_true rfl) (by decide) ?_
          refine J_ifneB 80 dX11_secondAt_62 rfl (fun c62 => ?_) (fun c62 => ?_)
          · refine J_iconst dX11_secondAt_80 ?_
            exact RQ_i rfl dX11_secondAt_81 ⟨by first | (unfold md_sec md_sc2; rw [if_pos (by omega), if_pos ⟨by omega, by assumption, by assumption⟩]) | (unfold md_sec md_sc2; rw [if_pos (by omega), if_neg (fun h => by have h1 := h.1; have h2 := h.2.1; have h3 := h.2.2; omega)]), _, rfl, f36⟩
          · refine L_a0 dX11_secondAt_65 ?_
            refine C_v0F vX11_275 dX11_secondAt_66 (qX11_taken hv36) rfl rfl (Nat.le_of_ble_eq_true rfl) (by decide) ?_
            rw [e36]
            refine L_i3 dX11_secondAt_69 ?_
            refine C_s2F vX11_251 dX11_secondAt_70 (qX11_has (by omega) (by omega)) (Nat.le_of_ble_eq_true rfl) (by decide) ?_
            refine J_ifneB 80 dX11_secondAt_73 rfl (fun c73 => ?_) (fun c73 => ?_)
            · refine J_iconst dX11_secondAt_80 ?_
              exact RQ_i rfl dX11_secondAt_81 ⟨by first | (unfold md_sec md_sc2; rw [if_pos (by omega), if_pos ⟨by omega, by assumption, by assumption⟩]) | (unfold md_sec md_sc2; rw [if_pos (by omega), if_neg (fun h => by have h1 := h.1; have h2 := h.2.1; have h3 := h.2.2; omega)]), _, rfl, f36⟩
            · refine L_i3 dX11_secondAt_76 ?_
              refine E_goto 81 dX11_secondAt_77 rfl ?_
              exact RQ_i rfl dX11_secondAt_81 ⟨by first | (unfold md_sec md_sc2; rw [if_pos (by omega), if_pos ⟨by omega, by assumption, by assumption⟩]) | (unfold md_sec md_sc2; rw [if_pos (by omega), if_neg (fun h => by have h1 := h.1; have h2 := h.2.1; have h3 := h.2.2; omega)]), _, rfl, f36⟩
      · refine J_iconst dX11_secondAt_25 ?_
        exact RQ_i rfl dX11_secondAt_26 ⟨(by unfold md_sec; rw [if_neg (by omega)]), T, rfl, Fr.refl _ _⟩

set_option maxRecDepth 100000 in
theorem qX11_joinNow {S T : Nat → Int → Int} {D : List mx_C} (hi : MI T) (hw : T 36 23 = 1) {k p : Int} (hs : ¬ md_sec (T 37) (T 39) k p = -1) : SpU yX11_joinNow cX11_joinNow 3 none 10 [.ref 36, .int (jI k), .int (jI p)] (W5 S T D) (fun hp' => ∃ T', hp' = W5 S T' D ∧ T' 37 = md_join (T 37) (T 39) k p ∧ Fr [37, 42, 43, 44] T T') := by
  have hv := hi.1
  have hl := hi.2.1
  have ha := hv.2
  have hb := md_sec_B hs
  refine Sp.of [.ref 36, .int (jI k), .int (jI p)] (by decide) (by simp) (Nat.le_of_ble_eq_true rfl) rfl (fun E => ?_)
  refine L_a0 dX11_joinNow_0 ?_
  refine L_i1 dX11_joinNow_1 ?_
  refine L_i2 dX11_joinNow_2 ?_
  refine L_a0 dX11_joinNow_3 ?_
  refine L_i1 dX11_joinNow_4 ?_
  refine L_i2 dX11_joinNow_5 ?_
  refine C_v2I vX11_332 dX11_joinNow_6 (qX11_secondAt hi (by omega) (by omega)) rfl rfl (Nat.le_of_ble_eq_true rfl) (by decide) (fun v6 hp6 hq6 => ?_)
  obtain ⟨rfl, T6, rfl, f6⟩ := hq6
  have e6 := f6 37 (by decide)
  have hi6 := hi.congr e6 (f6 39 (by decide))
  have hv6 := hi6.1
  refine C_v3V vX11_75 dX11_joinNow_9 (qX11_layPlaces (by omega)) rfl rfl (Nat.le_of_ble_eq_true rfl) (by decide) ?_
  rw [e6]
  refine L_a0 dX11_joinNow_12 ?_
  refine GW_36_0 fX11_7 dX11_joinNow_13 ?_
  refine J_bipush dX11_joinNow_16 (by decide) ?_
  refine L_i1 dX11_joinNow_18 ?_
  refine J_iadd dX11_joinNow_19 ?_
  refine J_iconst dX11_joinNow_20 ?_
  refine AS_37 dX11_joinNow_21 (by omega) ?_
  refine E_eq rfl rfl rfl (show _ = W5 S (upS T6 37 (up (up (up (T 37) (8 + k) p) (16 + k) (md_sec (T 37) (T 39) k p)) (24 + k) 0)) D from rfl) ?_
  refine L_a0 dX11_joinNow_22 ?_
  refine L_i1 dX11_joinNow_23 ?_
  refine J_iconst dX11_joinNow_24 ?_
  refine C_v2V vX11_335 dX11_joinNow_25 (qX11_write (T := upS T6 37 (up (up (up (T 37) (8 + k) p) (16 + k) (md_sec (T 37) (T 39) k p)) (24 + k) 0)) (MV_came hv hb.1 (by omega)) (by show T6 36 23 = 1; rw [f6 36 (by decide)]; exact hw) (by omega) (by omega)) rfl rfl (Nat.le_of_ble_eq_true rfl) (by decide) ?_
  exact RQ_v rfl dX11_joinNow_28 ⟨_, rfl, rfl, fun i hi => by
    rw [upS_n (fun e => hi (by rw [e]; decide)), upS_n (fun e => hi (by rw [e]; decide))]
    exact f6 i (fun h => hi (List.mem_cons_of_mem _ h))⟩

