/-! ===== the class: what happens in years ===== -/
theorem csp_C {f : Int → Int} {n p : Int} {lb : Option (List Int)} (h : ¬ csp f n p lb = -1) : (1 ≤ n ∧ n ≤ 8) ∧ ¬ rw_holds f n ∧ 0 ≤ p ∧ p < csp f n p lb ∧ csp f n p lb < f 0 := by
  unfold csp at h ⊢
  split
  · rename_i hh
    have := cbt_B (f := f) hh.1.1 lb
    exact ⟨hh.1.1, hh.1.2.1, by omega, by omega, by omega⟩
  · rename_i hh
    rw [if_neg hh] at h
    exact absurd rfl h
def chp (lb lt : Option (List Int)) (x : Int) (f : Int → Int) : Int → Int := if x % 6 = 0 ∨ x % 6 = 1 then (if csp f (1 + x / 6 % 8) (x % 16) lb = -1 then f else rw_enter f (1 + x / 6 % 8) (x % 16) (csp f (1 + x / 6 % 8) (x % 16) lb)) else if x % 6 = 2 then (if x % 4 = 0 ∧ rw_holds f (1 + x / 6 % 8) then rw_depart f (1 + x / 6 % 8) 1 else f) else if x % 6 = 3 then (if x % 4 = 1 then rw_turn f else f) else if f 1 < 9999 then cpd lt f else f
theorem RX_chp {lb lt : Option (List Int)} {x : Int} {f : Int → Int} (h : RX f) (hx : 0 ≤ x) : RX (chp lb lt x f) := by
  unfold chp
  split
  · split
    · exact h
    · next hc =>
      have hh := csp_C hc
      exact RX_enter h hh.1 ⟨hh.2.2.1, hh.2.2.2.1, hh.2.2.2.2⟩
  · split
    · split
      · next hc => exact RX_depart h (by omega) hc.2.2 (by omega)
      · exact h
    · split
      · split
        · exact RX_turn h
        · exact h
      · split
        · next hc => exact (RX_cpd h hc).1
        · exact h
theorem uX4_enter {S T : Nat → Int → Int} {D : List mx_C} (hv : RV (S 14)) {n p s : Int} (hn : 1 ≤ n ∧ n ≤ 8) (hnh : S 14 (5 + n) < 0) (hp0 : 0 ≤ p ∧ p ≤ 15) (hs0 : 0 ≤ s ∧ s ≤ 15) : SpU yX4_enter cX4_enter 4 none 2 [.ref 13, .int (jI n), .int (jI p), .int (jI s)] (W5 S T D) (fun hp' => ∃ S', hp' = W5 S' T D ∧ Fr [14] S S' ∧ S' 14 = rw_enter (S 14) n p s) := (qX4_enter hv hn hnh hp0 hs0).toU ⟨_, rfl, Fr_up _ _ (by decide), upS_s _ _ _⟩
theorem uX4_reverse {S T : Nat → Int → Int} {D : List mx_C} (hv : RV (S 14)) : SpU yX4_reverse cX4_reverse 4 none 3 [.ref 13] (W5 S T D) (fun hp' => ∃ S', hp' = W5 S' T D ∧ Fr [14] S S' ∧ S' 14 = rw_turn (S 14)) := (qX4_reverse hv).toU ⟨_, rfl, Fr_up _ _ (by decide), upS_s _ _ _⟩
theorem uX4_sow {S T : Nat → Int → Int} {D : List mx_C} {n : Int} : SpU yX4_sow cX4_sow 2 none 0 [.ref 13, .int (jI n)] (W5 S T D) (fun hp' => ∃ S', hp' = W5 S' T D ∧ Fr [14] S S' ∧ S' 14 = up (S 14) 2 n) := qX4_sow.toU ⟨_, rfl, Fr_up _ _ (by decide), upS_s _ _ _⟩
set_option maxRecDepth 100000 in
theorem qX10_happen {S T : Nat → Int → Int} {D : List mx_C} (hx : RX (S 14)) {lb lt : Option (List Int)} (hr : CR1 S D lb lt) {x : Int} (h_x : 0 ≤ x ∧ x < 31019) : SpU yX10_happen cX10_happen 5 none 5 [.ref 0, .int (jI x)] (W5 S T D) (fun hp' => ∃ S', hp' = W5 S' T D ∧ Fr [14, 35] S S' ∧ S' 14 = chp lb lt x (S 14)) := by
  have hv := hx.1
  have ha := hv.2
  refine Sp.of [.ref 0, .int (jI x), .retAddr 0, .retAddr 0, .retAddr 0] (by decide) (by simp) (Nat.le_of_ble_eq_true rfl) rfl (fun E => ?_)
  refine J_iconst dX10_happen_0 ?_
  refine L_i1 dX10_happen_1 ?_
  refine J_bipush dX10_happen_2 (by decide) ?_
  refine J_idivN dX10_happen_4 (by omega) (by omega) ?_
  refine J_bipush dX10_happen_5 (by decide) ?_
  refine J_iremN dX10_happen_7 (by omega) (by omega) ?_
  refine J_iadd dX10_happen_8 ?_
  refine S_i2 dX10_happen_9 (by decide) rfl ?_
  refine L_i1 dX10_happen_10 ?_
  refine J_bipush dX10_happen_11 (by decide) ?_
  refine J_iremN dX10_happen_13 (by omega) (by omega) ?_
  refine S_i3 dX10_happen_14 (by decide) rfl ?_
  refine L_i1 dX10_happen_15 ?_
  refine J_bipush dX10_happen_16 (by decide) ?_
  refine J_iremN dX10_happen_18 (by omega) (by omega) ?_
  refine J_tab4 48 48 76 105 122 dX10_happen_19 (by omega) rfl rfl rfl rfl rfl rfl (fun c19 => ?_) (fun c19 => ?_) (fun c19 => ?_) (fun c19 => ?_) (fun c19 => ?_)
  · refine L_a0 dX10_happen_48 ?_
    refine L_i2 dX10_happen_49 ?_
    refine L_i3 dX10_happen_50 ?_
    refine C_v2I vX10_117 dX10_happen_51 (qX10_secondPlace hv hx.2 hr (by omega) (by omega)) rfl rfl (Nat.le_of_ble_eq_true rfl) (by decide) (fun v51 hp51 hq51 => ?_)
    obtain ⟨v51, S51, rfl, hf51⟩ := hq51
    subst v51
    have e14 : S51 14 = S 14 := hf51 14 (by decide)
    have hf51b : Fr [14, 35] S S51 := hf51.mono (by simp)
    have hcW := csp_W (f := S 14) (n := 1 + x / 6 % 8) (p := x % 16) (lb := lb) (by omega)
    refine S_i4 dX10_happen_54 (by decide) rfl ?_
    refine L_i4 dX10_happen_56 ?_
    refine J_iconst dX10_happen_58 ?_
    refine J_icmp_eq 139 dX10_happen_59 rfl (by omega) (by omega) (fun c59 => ?_) (fun c59 => ?_)
    · exact RQ_v rfl dX10_happen_139 (by first | exact ⟨S70, rfl, hf70, by unfold chp; rw [if_pos (by omega), if_neg c59]; exact e70⟩ | exact ⟨S51, rfl, hf51b, by unfold chp; rw [if_pos (by omega), if_pos c59]; exact e14⟩ | exact ⟨S99, rfl, hf99.mono (by simp), by unfold chp; rw [if_neg (by omega), if_pos (by omega), if_pos ⟨by omega, c90⟩]; exact e99⟩ | exact ⟨S116, rfl, hf116.mono (by simp), by unfold chp; rw [if_neg (by omega), if_neg (by omega), if_pos (by omega), if_pos (by omega)]; exact e116⟩ | exact ⟨S136, rfl, hf136, by unfold chp; rw [if_neg (by omega), if_neg (by omega), if_neg (by omega), if_pos (by omega)]; exact e136⟩ | exact ⟨S, rfl, Fr.refl _ _, by unfold chp; rw [if_neg (by omega), if_pos (by omega), if_neg (fun hh => c90 hh.2)]⟩ | exact ⟨S, rfl, Fr.refl _ _, by unfold chp; rw [if_neg (by omega), if_pos (by omega), if_neg (by omega)]⟩ | exact ⟨S, rfl, Fr.refl _ _, by unfold chp; rw [if_neg (by omega), if_neg (by omega), if_pos (by omega), if_neg (by omega)]⟩ | exact ⟨S, rfl, Fr.refl _ _, by unfold chp; rw [if_neg (by omega), if_neg (by omega), if_neg (by omega), if_neg (by omega)]⟩)
    · have hcb := csp_B (f := S 14) (n := 1 + x / 6 % 8) (p := x % 16) (lb := lb) (by omega) c59
      refine L_a0 dX10_happen_62 ?_
      refine GW_0_3 fX10_32 dX10_happen_63 ?_
      refine L_i2 dX10_happen_66 ?_
      refine L_i3 dX10_happen_67 ?_
      refine L_i4 dX10_happen_68 ?_
      refine C_v3U vX10_121 dX10_happen_70 (uX4_enter (S := S51) (by rw [e14]; exact hv) (by omega) (by rw [e14]; omega) (by omega) (by omega)) rfl rfl (Nat.le_of_ble_eq_true rfl) (by decide) (fun hp70 hq70 => ?_)
      obtain ⟨S70, rfl, hf70, e70⟩ := hq70
      rw [e14] at e70
      have hf70 : Fr [14, 35] S S70 := hf51b.t hf70 (by simp)
      refine E_goto 139 dX10_happen_73 rfl ?_
      exact RQ_v rfl dX10_happen_139 (by first | exact ⟨S70, rfl, hf70, by unfold chp; rw [if_pos (by omega), if_neg c59]; exact e70⟩ | exact ⟨S51, rfl, hf51b, by unfold chp; rw [if_pos (by omega), if_pos c59]; exact e14⟩ | exact ⟨S99, rfl, hf99.mono (by simp), by unfold chp; rw [if_neg (by omega), if_pos (by omega), if_pos ⟨by omega, c90⟩]; exact e99⟩ | exact ⟨S116, rfl, hf116.mono (by simp), by unfold chp; rw [if_neg (by omega), if_neg (by omega), if_pos (by omega), if_pos (by omega)]; exact e116⟩ | exact ⟨S136, rfl, hf136, by unfold chp; rw [if_neg (by omega), if_neg (by omega), if_neg (by omega), if_pos (by omega)]; exact e136⟩ | exact ⟨S, rfl, Fr.refl _ _, by unfold chp; rw [if_neg (by omega), if_pos (by omega), if_neg (fun hh => c90 hh.2)]⟩ | exact ⟨S, rfl, Fr.refl _ _, by unfold chp; rw [if_neg (by omega), if_pos (by omega), if_neg (by omega)]⟩ | exact ⟨S, rfl, Fr.refl _ _, by unfold chp; rw [if_neg (by omega), if_neg (by omega), if_pos (by omega), if_neg (by omega)]⟩ | exact ⟨S, rfl, Fr.refl _ _, by unfold chp; rw [if_neg (by omega), if_neg (by omega), if_neg (by omega), if_neg (by omega)]⟩)
  · refine L_a0 dX10_happen_48 ?_
    refine L_i2 dX10_happen_49 ?_
    refine L_i3 dX10_happen_50 ?_
    refine C_v2I vX10_117 dX10_happen_51 (qX10_secondPlace hv hx.2 hr (by omega) (by omega)) rfl rfl (Nat.le_of_ble_eq_true rfl) (by decide) (fun v51 hp51 hq51 => ?_)
    obtain ⟨v51, S51, rfl, hf51⟩ := hq51
    subst v51
    have e14 : S51 14 = S 14 := hf51 14 (by decide)
    have hf51b : Fr [14, 35] S S51 := hf51.mono (by simp)
    have hcW := csp_W (f := S 14) (n := 1 + x / 6 % 8) (p := x % 16) (lb := lb) (by omega)
    refine S_i4 dX10_happen_54 (by decide) rfl ?_
    refine L_i4 dX10_happen_56 ?_
    refine J_iconst dX10_happen_58 ?_
    refine J_icmp_eq 139 dX10_happen_59 rfl (by omega) (by omega) (fun c59 => ?_) (fun c59 => ?_)
    · exact RQ_v rfl dX10_happen_139 (by first | exact ⟨S70, rfl, hf70, by unfold chp; rw [if_pos (by omega), if_neg c59]; exact e70⟩ | exact ⟨S51, rfl, hf51b, by unfold chp; rw [if_pos (by omega), if_pos c59]; exact e14⟩ | exact ⟨S99, rfl, hf99.mono (by simp), by unfold chp; rw [if_neg (by omega), if_pos (by omega), if_pos ⟨by omega, c90⟩]; exact e99⟩ | exact ⟨S116, rfl, hf116.mono (by simp), by unfold chp; rw [if_neg (by omega), if_neg (by omega), if_pos (by omega), if_pos (by omega)]; exact e116⟩ | exact ⟨S136, rfl, hf136, by unfold chp; rw [if_neg (by omega), if_neg (by omega), if_neg (by omega), if_pos (by omega)]; exact e136⟩ | exact ⟨S, rfl, Fr.refl _ _, by unfold chp; rw [if_neg (by omega), if_pos (by omega), if_neg (fun hh => c90 hh.2)]⟩ | exact ⟨S, rfl, Fr.refl _ _, by unfold chp; rw [if_neg (by omega), if_pos (by omega), if_neg (by omega)]⟩ | exact ⟨S, rfl, Fr.refl _ _, by unfold chp; rw [if_neg (by omega), if_neg (by omega), if_pos (by omega), if_neg (by omega)]⟩ | exact ⟨S, rfl, Fr.refl _ _, by unfold chp; rw [if_neg (by omega), if_neg (by omega), if_neg (by omega), if_neg (by omega)]⟩)
    · have hcb := csp_B (f := S 14) (n := 1 + x / 6 % 8) (p := x % 16) (lb := lb) (by omega) c59
      refine L_a0 dX10_happen_62 ?_
      refine GW_0_3 fX10_32 dX10_happen_63 ?_
      refine L_i2 dX10_happen_66 ?_
      refine L_i3 dX10_happen_67 ?_
      refine L_i4 dX10_happen_68 ?_
      refine C_v3U vX10_121 dX10_happen_70 (uX4_enter (S := S51) (by rw [e14]; exact hv) (by omega) (by rw [e14]; omega) (by omega) (by omega)) rfl rfl (Nat.le_of_ble_eq_true rfl) (by decide) (fun hp70 hq70 => ?_)
      obtain ⟨S70, rfl, hf70, e70⟩ := hq70
      rw [e14] at e70
      have hf70 : Fr [14, 35] S S70 := hf51b.t hf70 (by simp)
      refine E_goto 139 dX10_happen_73 rfl ?_
      exact RQ_v rfl dX10_happen_139 (by first | exact ⟨S70, rfl, hf70, by unfold chp; rw [if_pos (by omega), if_neg c59]; exact e70⟩ | exact ⟨S51, rfl, hf51b, by unfold chp; rw [if_pos (by omega), if_pos c59]; exact e14⟩ | exact ⟨S99, rfl, hf99.mono (by simp), by unfold chp; rw [if_neg (by omega), if_pos (by omega), if_pos ⟨by omega, c90⟩]; exact e99⟩ | exact ⟨S116, rfl, hf116.mono (by simp), by unfold chp; rw [if_neg (by omega), if_neg (by omega), if_pos (by omega), if_pos (by omega)]; exact e116⟩ | exact ⟨S136, rfl, hf136, by unfold chp; rw [if_neg (by omega), if_neg (by omega), if_neg (by omega), if_pos (by omega)]; exact e136⟩ | exact ⟨S, rfl, Fr.refl _ _, by unfold chp; rw [if_neg (by omega), if_pos (by omega), if_neg (fun hh => c90 hh.2)]⟩ | exact ⟨S, rfl, Fr.refl _ _, by unfold chp; rw [if_neg (by omega), if_pos (by omega), if_neg (by omega)]⟩ | exact ⟨S, rfl, Fr.refl _ _, by unfold chp; rw [if_neg (by omega), if_neg (by omega), if_pos (by omega), if_neg (by omega)]⟩ | exact ⟨S, rfl, Fr.refl _ _, by unfold chp; rw [if_neg (by omega), if_neg (by omega), if_neg (by omega), if_neg (by omega)]⟩)
  · refine L_i1 dX10_happen_76 ?_
    refine J_iconst dX10_happen_77 ?_
    refine J_iremN dX10_happen_78 (by omega) (by omega) ?_
    refine J_if_ne 139 dX10_happen_79 rfl (by omega) (fun c79 => ?_) (fun c79 => ?_)
    · exact RQ_v rfl dX10_happen_139 (by first | exact ⟨S70, rfl, hf70, by unfold chp; rw [if_pos (by omega), if_neg c59]; exact e70⟩ | exact ⟨S51, rfl, hf51b, by unfold chp; rw [if_pos (by omega), if_pos c59]; exact e14⟩ | exact ⟨S99, rfl, hf99.mono (by simp), by unfold chp; rw [if_neg (by omega), if_pos (by omega), if_pos ⟨by omega, c90⟩]; exact e99⟩ | exact ⟨S116, rfl, hf116.mono (by simp), by unfold chp; rw [if_neg (by omega), if_neg (by omega), if_pos (by omega), if_pos (by omega)]; exact e116⟩ | exact ⟨S136, rfl, hf136, by unfold chp; rw [if_neg (by omega), if_neg (by omega), if_neg (by omega), if_pos (by omega)]; exact e136⟩ | exact ⟨S, rfl, Fr.refl _ _, by unfold chp; rw [if_neg (by omega), if_pos (by omega), if_neg (fun hh => c90 hh.2)]⟩ | exact ⟨S, rfl, Fr.refl _ _, by unfold chp; rw [if_neg (by omega), if_pos (by omega), if_neg (by omega)]⟩ | exact ⟨S, rfl, Fr.refl _ _, by unfold chp; rw [if_neg (by omega), if_neg (by omega), if_pos (by omega), if_neg (by omega)]⟩ | exact ⟨S, rfl, Fr.refl _ _, by unfold chp; rw [if_neg (by omega), if_neg (by omega), if_neg (by omega), if_neg (by omega)]⟩)
    · refine L_a0 dX10_happen_82 ?_
      refine GW_0_3 fX10_32 dX10_happen_83 ?_
      refine L_i2 dX10_happen_86 ?_
      refine C_v1F vX10_125 dX10_happen_87 (qX4_holds hv.1 (by omega)) rfl rfl (Nat.le_of_ble_eq_true rfl) (by decide) ?_
      refine J_ifeqB 139 dX10_happen_90 rfl (fun c90 => ?_) (fun c90 => ?_)
      · exact RQ_v rfl dX10_happen_139 (by first | exact ⟨S70, rfl, hf70, by unfold chp; rw [if_pos (by omega), if_neg c59]; exact e70⟩ | exact ⟨S51, rfl, hf51b, by unfold chp; rw [if_pos (by omega), if_pos c59]; exact e14⟩ | exact ⟨S99, rfl, hf99.mono (by simp), by unfold chp; rw [if_neg (by omega), if_pos (by omega), if_pos ⟨by omega, c90⟩]; exact e99⟩ | exact ⟨S116, rfl, hf116.mono (by simp), by unfold chp; rw [if_neg (by omega), if_neg (by omega), if_pos (by omega), if_pos (by omega)]; exact e116⟩ | exact ⟨S136, rfl, hf136, by unfold chp; rw [if_neg (by omega), if_neg (by omega), if_neg (by omega), if_pos (by omega)]; exact e136⟩ | exact ⟨S, rfl, Fr.refl _ _, by unfold chp; rw [if_neg (by omega), if_pos (by omega), if_neg (fun hh => c90 hh.2)]⟩ | exact ⟨S, rfl, Fr.refl _ _, by unfold chp; rw [if_neg (by omega), if_pos (by omega), if_neg (by omega)]⟩ | exact ⟨S, rfl, Fr.refl _ _, by unfold chp; rw [if_neg (by omega), if_neg (by omega), if_pos (by omega), if_neg (by omega)]⟩ | exact ⟨S, rfl, Fr.refl _ _, by unfold chp; rw [if_neg (by omega), if_neg (by omega), if_neg (by omega), if_neg (by omega)]⟩)
      · refine L_a0 dX10_happen_93 ?_
        refine GW_0_3 fX10_32 dX10_happen_94 ?_
        refine L_i2 dX10_happen_97 ?_
        refine J_iconst dX10_happen_98 ?_
        refine C_v2U vX10_128 dX10_happen_99 (uX4_depart hv (by omega) c90.2 (by omega)) rfl rfl (Nat.le_of_ble_eq_true rfl) (by decide) (fun hp99 hq99 => ?_)
        obtain ⟨S99, rfl, hf99, e99⟩ := hq99
        refine E_goto 139 dX10_happen_102 rfl ?_
        exact RQ_v rfl dX10_happen_139 (by first | exact ⟨S70, rfl, hf70, by unfold chp; rw [if_pos (by omega), if_neg c59]; exact e70⟩ | exact ⟨S51, rfl, hf51b, by unfold chp; rw [if_pos (by omega), if_pos c59]; exact e14⟩ | exact ⟨S99, rfl, hf99.mono (by simp), by unfold chp; rw [if_neg (by omega), if_pos (by omega), if_pos ⟨by omega, c90⟩]; exact e99⟩ | exact ⟨S116, rfl, hf116.mono (by simp), by unfold chp; rw [if_neg (by omega), if_neg (by omega), if_pos (by omega), if_pos (by omega)]; exact e116⟩ | exact ⟨S136, rfl, hf136, by unfold chp; rw [if_neg (by omega), if_neg (by omega), if_neg (by omega), if_pos (by omega)]; exact e136⟩ | exact ⟨S, rfl, Fr.refl _ _, by unfold chp; rw [if_neg (by omega), if_pos (by omega), if_neg (fun hh => c90 hh.2)]⟩ | exact ⟨S, rfl, Fr.refl _ _, by unfold chp; rw [if_neg (by omega), if_pos (by omega), if_neg (by omega)]⟩ | exact ⟨S, rfl, Fr.refl _ _, by unfold chp; rw [if_neg (by omega), if_neg (by omega), if_pos (by omega), if_neg (by omega)]⟩ | exact ⟨S, rfl, Fr.refl _ _, by unfold chp; rw [if_neg (by omega), if_neg (by omega), if_neg (by omega), if_neg (by omega)]⟩)
  · refine L_i1 dX10_happen_105 ?_
    refine J_iconst dX10_happen_106 ?_
    refine J_iremN dX10_happen_107 (by omega) (by omega) ?_
    refine J_iconst dX10_happen_108 ?_
    refine J_icmp_ne 139 dX10_happen_109 rfl (by omega) (by omega) (fun c109 => ?_) (fun c109 => ?_)
    · exact RQ_v rfl dX10_happen_139 (by first | exact ⟨S70, rfl, hf70, by unfold chp; rw [if_pos (by omega), if_neg c59]; exact e70⟩ | exact ⟨S51, rfl, hf51b, by unfold chp; rw [if_pos (by omega), if_pos c59]; exact e14⟩ | exact ⟨S99, rfl, hf99.mono (by simp), by unfold chp; rw [if_neg (by omega), if_pos (by omega), if_pos ⟨by omega, c90⟩]; exact e99⟩ | exact ⟨S116, rfl, hf116.mono (by simp), by unfold chp; rw [if_neg (by omega), if_neg (by omega), if_pos (by omega), if_pos (by omega)]; exact e116⟩ | exact ⟨S136, rfl, hf136, by unfold chp; rw [if_neg (by omega), if_neg (by omega), if_neg (by omega), if_pos (by omega)]; exact e136⟩ | exact ⟨S, rfl, Fr.refl _ _, by unfold chp; rw [if_neg (by omega), if_pos (by omega), if_neg (fun hh => c90 hh.2)]⟩ | exact ⟨S, rfl, Fr.refl _ _, by unfold chp; rw [if_neg (by omega), if_pos (by omega), if_neg (by omega)]⟩ | exact ⟨S, rfl, Fr.refl _ _, by unfold chp; rw [if_neg (by omega), if_neg (by omega), if_pos (by omega), if_neg (by omega)]⟩ | exact ⟨S, rfl, Fr.refl _ _, by unfold chp; rw [if_neg (by omega), if_neg (by omega), if_neg (by omega), if_neg (by omega)]⟩)
    · refine L_a0 dX10_happen_112 ?_
      refine GW_0_3 fX10_32 dX10_happen_113 ?_
      refine C_v0U vX10_135 dX10_happen_116 (uX4_reverse hv) rfl rfl (Nat.le_of_ble_eq_true rfl) (by decide) (fun hp116 hq116 => ?_)
      obtain ⟨S116, rfl, hf116, e116⟩ := hq116
      refine E_goto 139 dX10_happen_119 rfl ?_
      exact RQ_v rfl dX10_happen_139 (by first | exact ⟨S70, rfl, hf70, by unfold chp; rw [if_pos (by omega), if_neg c59]; exact e70⟩ | exact ⟨S51, rfl, hf51b, by unfold chp; rw [if_pos (by omega), if_pos c59]; exact e14⟩ | exact ⟨S99, rfl, hf99.mono (by simp), by unfold chp; rw [if_neg (by omega), if_pos (by omega), if_pos ⟨by omega, c90⟩]; exact e99⟩ | exact ⟨S116, rfl, hf116.mono (by simp), by unfold chp; rw [if_neg (by omega), if_neg (by omega), if_pos (by omega), if_pos (by omega)]; exact e116⟩ | exact ⟨S136, rfl, hf136, by unfold chp; rw [if_neg (by omega), if_neg (by omega), if_neg (by omega), if_pos (by omega)]; exact e136⟩ | exact ⟨S, rfl, Fr.refl _ _, by unfold chp; rw [if_neg (by omega), if_pos (by omega), if_neg (fun hh => c90 hh.2)]⟩ | exact ⟨S, rfl, Fr.refl _ _, by unfold chp; rw [if_neg (by omega), if_pos (by omega), if_neg (by omega)]⟩ | exact ⟨S, rfl, Fr.refl _ _, by unfold chp; rw [if_neg (by omega), if_neg (by omega), if_pos (by omega), if_neg (by omega)]⟩ | exact ⟨S, rfl, Fr.refl _ _, by unfold chp; rw [if_neg (by omega), if_neg (by omega), if_neg (by omega), if_neg (by omega)]⟩)
  · refine L_a0 dX10_happen_122 ?_
    refine GW_0_3 fX10_32 dX10_happen_123 ?_
    refine C_v0F vX10_144 dX10_happen_126 (qX4_date) rfl rfl (Nat.le_of_ble_eq_true rfl) (by decide) ?_
    refine J_sipush dX10_happen_129 (by decide) ?_
    refine J_icmp_ge 139 dX10_happen_132 rfl (by omega) (by omega) (fun c132 => ?_) (fun c132 => ?_)
    · exact RQ_v rfl dX10_happen_139 (by first | exact ⟨S70, rfl, hf70, by unfold chp; rw [if_pos (by omega), if_neg c59]; exact e70⟩ | exact ⟨S51, rfl, hf51b, by unfold chp; rw [if_pos (by omega), if_pos c59]; exact e14⟩ | exact ⟨S99, rfl, hf99.mono (by simp), by unfold chp; rw [if_neg (by omega), if_pos (by omega), if_pos ⟨by omega, c90⟩]; exact e99⟩ | exact ⟨S116, rfl, hf116.mono (by simp), by unfold chp; rw [if_neg (by omega), if_neg (by omega), if_pos (by omega), if_pos (by omega)]; exact e116⟩ | exact ⟨S136, rfl, hf136, by unfold chp; rw [if_neg (by omega), if_neg (by omega), if_neg (by omega), if_pos (by omega)]; exact e136⟩ | exact ⟨S, rfl, Fr.refl _ _, by unfold chp; rw [if_neg (by omega), if_pos (by omega), if_neg (fun hh => c90 hh.2)]⟩ | exact ⟨S, rfl, Fr.refl _ _, by unfold chp; rw [if_neg (by omega), if_pos (by omega), if_neg (by omega)]⟩ | exact ⟨S, rfl, Fr.refl _ _, by unfold chp; rw [if_neg (by omega), if_neg (by omega), if_pos (by omega), if_neg (by omega)]⟩ | exact ⟨S, rfl, Fr.refl _ _, by unfold chp; rw [if_neg (by omega), if_neg (by omega), if_neg (by omega), if_neg (by omega)]⟩)
    · refine L_a0 dX10_happen_135 ?_
      refine C_v0U vX10_252 dX10_happen_136 (qX10_passDay hr hx) rfl rfl (Nat.le_of_ble_eq_true rfl) (by decide) (fun hp136 hq136 => ?_)
      obtain ⟨S136, rfl, hf136, e136⟩ := hq136
      exact RQ_v rfl dX10_happen_139 (by first | exact ⟨S70, rfl, hf70, by unfold chp; rw [if_pos (by omega), if_neg c59]; exact e70⟩ | exact ⟨S51, rfl, hf51b, by unfold chp; rw [if_pos (by omega), if_pos c59]; exact e14⟩ | exact ⟨S99, rfl, hf99.mono (by simp), by unfold chp; rw [if_neg (by omega), if_pos (by omega), if_pos ⟨by omega, c90⟩]; exact e99⟩ | exact ⟨S116, rfl, hf116.mono (by simp), by unfold chp; rw [if_neg (by omega), if_neg (by omega), if_pos (by omega), if_pos (by omega)]; exact e116⟩ | exact ⟨S136, rfl, hf136, by unfold chp; rw [if_neg (by omega), if_neg (by omega), if_neg (by omega), if_pos (by omega)]; exact e136⟩ | exact ⟨S, rfl, Fr.refl _ _, by unfold chp; rw [if_neg (by omega), if_pos (by omega), if_neg (fun hh => c90 hh.2)]⟩ | exact ⟨S, rfl, Fr.refl _ _, by unfold chp; rw [if_neg (by omega), if_pos (by omega), if_neg (by omega)]⟩ | exact ⟨S, rfl, Fr.refl _ _, by unfold chp; rw [if_neg (by omega), if_neg (by omega), if_pos (by omega), if_neg (by omega)]⟩ | exact ⟨S, rfl, Fr.refl _ _, by unfold chp; rw [if_neg (by omega), if_neg (by omega), if_neg (by omega), if_neg (by omega)]⟩)

def cyN (lb lt : Option (List Int)) : Nat → (Int → Int) → (Int → Int)
  | 0, f => f
  | m + 1, f => cyN lb lt m (chp lb lt (f 2) (up f 2 ((f 2 * 701 + 571).tmod 31019)))
def cyr (lb lt : Option (List Int)) (s n : Int) (f : Int → Int) : Int → Int := cyN lb lt n.toNat (up f 2 (s * 2 + 443))
set_option maxRecDepth 100000 in
theorem lX10_years {E : mx_E} {S T : Nat → Int → Int} {D : List mx_C} {lb lt : Option (List Int)} (hr : CR1 S D lb lt) {s n : Int} (h_n : n ≤ 40) {r : Int → Int} : ∀ (m : Nat) (i : Int) (S1 : Nat → Int → Int), i + m = n → 0 ≤ i → RX (S1 14) → Fr [14, 35] S S1 → cyN lb lt m (S1 14) = r → Ev E yX10_years cX10_years 4 (some .int) (kI E 6 (fun v hp' => v = r 1 ∧ ∃ S', hp' = W5 S' T D ∧ Fr [14, 35] S S' ∧ S' 14 = r)) 0 0 51 [.ref 0, .int (jI s), .int (jI n), .int (jI i)] [] (W5 S1 T D) := by
  intro m
  induction m with
  | zero =>
    intro i S1 him hi hx hf hres
    have hres : S1 14 = r := hres
    refine L_i3 dX10_years_51 ?_
    refine L_i2 dX10_years_52 ?_
    refine J_icmp_ge 73 dX10_years_53 rfl (by omega) (by omega) (fun c53 => ?_) (fun c53 => ?_)
    · refine L_a0 dX10_years_73 ?_
      refine GW_0_3 fX10_32 dX10_years_74 ?_
      refine C_v0F vX10_144 dX10_years_77 (qX4_date) rfl rfl (Nat.le_of_ble_eq_true rfl) (by decide) ?_
      exact RQ_i rfl dX10_years_80 ⟨by rw [hres], S1, rfl, hf, hres⟩
    · exfalso; omega
  | succ m ih =>
    intro i S1 him hi hx hf hres
    have ha := hx.1.2
    have hd := RX_draw hx
    refine L_i3 dX10_years_51 ?_
    refine L_i2 dX10_years_52 ?_
    refine J_icmp_ge 73 dX10_years_53 rfl (by omega) (by omega) (fun c53 => ?_) (fun c53 => ?_)
    · exfalso; omega
    · refine L_a0 dX10_years_56 ?_
      refine L_a0 dX10_years_57 ?_
      refine GW_0_3 fX10_32 dX10_years_58 ?_
      refine C_v0I vX10_167 dX10_years_61 (uX4_draw (by omega)) rfl rfl (Nat.le_of_ble_eq_true rfl) (by decide) (fun v61 hp61 hq61 => ?_)
      obtain ⟨v61, S61, rfl, hf61, e61⟩ := hq61
      subst v61
      have hf61 : Fr [14, 35] S S61 := hf.t hf61 (by simp)
      refine C_v1U vX10_170 dX10_years_64 (qX10_happen (S := S61) (by rw [e61]; exact hd) (hr.fr hf61 (by decide) (by decide)) (by omega)) rfl rfl (Nat.le_of_ble_eq_true rfl) (by decide) (fun hp64 hq64 => ?_)
      obtain ⟨S64, rfl, hf64, e64⟩ := hq64
      rw [e61] at e64
      refine JI_3 dX10_years_67 (by decide) rfl ?_
      refine E_goto 51 dX10_years_70 rfl ?_
      exact ih (i + 1) S64 (by omega) (by omega) (by rw [e64]; exact RX_chp hd (by omega)) (hf61.trans hf64) (by rw [e64]; exact hres)
def cyS (lb lt : Option (List Int)) (s n : Int) (S : Nat → Int → Int) : Nat → Int → Int := if (0 ≤ s ∧ s ≤ 9999) ∧ (1 ≤ n ∧ n ≤ 40) then upS (stK S) 14 (cyr lb lt s n (S 14)) else S
def cyV (lb lt : Option (List Int)) (s n : Int) (S : Nat → Int → Int) : Int := if (0 ≤ s ∧ s ≤ 9999) ∧ (1 ≤ n ∧ n ≤ 40) then cyr lb lt s n (S 14) 1 else -1
theorem qX10_yearsA {S T : Nat → Int → Int} {D : List mx_C} (hx : RX (S 14)) (hs : HSt S) {lb lt : Option (List Int)} (hr : CR1 S D lb lt) {s n : Int} (h_s : 0 ≤ s ∧ s ≤ 9999) (h_n : 1 ≤ n ∧ n ≤ 40) : SpI yX10_years cX10_years 4 (some .int) 6 [.ref 0, .int (jI s), .int (jI n)] (W5 S T D) (fun v hp' => v = cyr lb lt s n (S 14) 1 ∧ ∃ S', hp' = W5 S' T D ∧ Fr [14, 35] (stK S) S' ∧ S' 14 = cyr lb lt s n (S 14)) := by
  have hrK : CR1 (stK S) D lb lt := hr.fr (l := [17, 18]) (by unfold stK; exact (Fr_up _ _ (by decide)).trans (Fr_up _ _ (by decide))) (by decide) (by decide)
  refine Sp.of [.ref 0, .int (jI s), .int (jI n), .retAddr 0] (by decide) (by simp) (Nat.le_of_ble_eq_true rfl) rfl (fun E => ?_)
  refine L_i1 dX10_years_0 ?_
  refine J_if_lt 22 dX10_years_1 rfl (by omega) (fun c1 => ?_) (fun c1 => ?_)
  · exfalso; omega
  · refine L_i1 dX10_years_4 ?_
    refine J_sipush dX10_years_5 (by decide) ?_
    refine J_icmp_gt 22 dX10_years_8 rfl (by omega) (by omega) (fun c8 => ?_) (fun c8 => ?_)
    · exfalso; omega
    · refine L_i2 dX10_years_11 ?_
      refine J_iconst dX10_years_12 ?_
      refine J_icmp_lt 22 dX10_years_13 rfl (by omega) (by omega) (fun c13 => ?_) (fun c13 => ?_)
      · exfalso; omega
      · refine L_i2 dX10_years_16 ?_
        refine J_bipush dX10_years_17 (by decide) ?_
        refine J_icmp_le 24 dX10_years_19 rfl (by omega) (by omega) (fun c19 => ?_) (fun c19 => ?_)
        · refine L_a0 dX10_years_24 ?_
          refine GW_0_5 fX10_42 dX10_years_25 ?_
          refine L_a0 dX10_years_28 ?_
          refine GW_0_3 fX10_32 dX10_years_29 ?_
          refine C_v1V vX10_110 dX10_years_32 (qX8_keep hs.1 hs.2) rfl rfl (Nat.le_of_ble_eq_true rfl) (by decide) ?_
          refine L_a0 dX10_years_35 ?_
          refine GW_0_3 fX10_32 dX10_years_36 ?_
          refine L_i1 dX10_years_39 ?_
          refine J_iconst dX10_years_40 ?_
          refine J_imul dX10_years_41 ?_
          refine J_sipush dX10_years_42 (by decide) ?_
          refine J_iadd dX10_years_45 ?_
          refine C_v1U vX10_164 dX10_years_46 (uX4_sow (S := stK S)) rfl rfl (Nat.le_of_ble_eq_true rfl) (by decide) (fun hp46 hq46 => ?_)
          obtain ⟨S46, rfl, hf46, e46⟩ := hq46
          rw [stK_14] at e46
          refine J_iconst dX10_years_49 ?_
          refine S_i3 dX10_years_50 (by decide) rfl ?_
          exact lX10_years hrK (by omega) n.toNat 0 S46 (by omega) (by omega) (by rw [e46]; exact RX_up2 hx (by omega)) (hf46.mono (by simp)) (by rw [e46]; rfl)
        · exfalso; omega
theorem qX10_years {S T : Nat → Int → Int} {D : List mx_C} (hx : RX (S 14)) (hs : HSt S) {lb lt : Option (List Int)} (hr : CR1 S D lb lt) {s : Int} (h_s : -2147483648 ≤ s ∧ s < 2147483648) {n : Int} (h_n : -2147483648 ≤ n ∧ n < 2147483648) : SpI yX10_years cX10_years 4 (some .int) 6 [.ref 0, .int (jI s), .int (jI n)] (W5 S T D) (fun v hp' => v = cyV lb lt s n S ∧ ∃ S', hp' = W5 S' T D ∧ Fr [35] (cyS lb lt s n S) S') := by
  by_cases hc : (0 ≤ s ∧ s ≤ 9999) ∧ (1 ≤ n ∧ n ≤ 40)
  · refine Sp.mono (qX10_yearsA hx hs hr hc.1 hc.2) (fun r' hp' hq => ?_)
    obtain ⟨v, e1, e2, S', e3, e4, e5⟩ := hq
    exact ⟨v, e1, by unfold cyV; rw [if_pos hc]; exact e2, S', e3, by unfold cyS; rw [if_pos hc]; exact Fr_14u e4 e5⟩
  · refine Sp.of [.ref 0, .int (jI s), .int (jI n), .retAddr 0] (by decide) (by simp) (Nat.le_of_ble_eq_true rfl) rfl (fun E => ?_)
    refine L_i1 dX10_years_0 ?_
    refine J_if_lt 22 dX10_years_1 rfl (by omega) (fun c1 => ?_) (fun c1 => ?_)
    · refine J_iconst dX10_years_22 ?_
      exact RQ_i rfl dX10_years_23 ⟨(by unfold cyV; rw [if_neg hc]), S, rfl, by unfold cyS; rw [if_neg hc]; exact Fr.refl _ _⟩
    · refine L_i1 dX10_years_4 ?_
      refine J_sipush dX10_years_5 (by decide) ?_
      refine J_icmp_gt 22 dX10_years_8 rfl (by omega) (by omega) (fun c8 => ?_) (fun c8 => ?_)
      · refine J_iconst dX10_years_22 ?_
        exact RQ_i rfl dX10_years_23 ⟨(by unfold cyV; rw [if_neg hc]), S, rfl, by unfold cyS; rw [if_neg hc]; exact Fr.refl _ _⟩
      · refine L_i2 dX10_years_11 ?_
        refine J_iconst dX10_years_12 ?_
        refine J_icmp_lt 22 dX10_years_13 rfl (by omega) (by omega) (fun c13 => ?_) (fun c13 => ?_)
        · refine J_iconst dX10_years_22 ?_
          exact RQ_i rfl dX10_years_23 ⟨(by unfold cyV; rw [if_neg hc]), S, rfl, by unfold cyS; rw [if_neg hc]; exact Fr.refl _ _⟩
        · refine L_i2 dX10_years_16 ?_
          refine J_bipush dX10_years_17 (by decide) ?_
          refine J_icmp_le 24 dX10_years_19 rfl (by omega) (by omega) (fun c19 => ?_) (fun c19 => ?_)
          · exfalso; omega
          · refine J_iconst dX10_years_22 ?_
            exact RQ_i rfl dX10_years_23 ⟨(by unfold cyV; rw [if_neg hc]), S, rfl, by unfold cyS; rw [if_neg hc]; exact Fr.refl _ _⟩
