/-! ===== the class: what else is asked of rows ===== -/
theorem pcn_allN {n : Nat} (h : n ≤ 16) : pcn 16 (2 ^ n - 1) = n := pcn_all ⟨n, by omega⟩
theorem s_nat {s : Int} (h : 0 ≤ s) : s = ((s.toNat : Nat) : Int) := by omega
theorem bit_Z {s n : Int} (h : 0 ≤ s) : ban s (bsh (n - 1)) = 0 ↔ ¬ s.toNat.testBit (n - 1).toNat = true := by
  obtain ⟨k, hk⟩ : ∃ k : Nat, s = (k : Int) := ⟨s.toNat, by omega⟩
  subst hk
  rw [Int.toNat_natCast]
  exact bsh_bit
theorem cbn_B {a : Nat → Nat} (ha : ∀ k, k < 8 → 1 ≤ a k) {s fr k p : Nat} (hfr : fr < 65536) : cbn a s fr k p ≤ 10321920 := by
  unfold cbn
  split
  · exact cn_B ha (nd_lt hfr)
  · exact Nat.zero_le _
set_option maxRecDepth 100000 in
theorem qX10_often {S T : Nat → Int → Int} {D : List mx_C} (hv : RV (S 14)) (hl : RLn (S 14)) {lb lt : Option (List Int)} (hr : CR1 S D lb lt) (hJ : FJ S) (h7 : S 21 7 ≤ 99999) {s : Int} (h_s : -2147483648 ≤ s ∧ s < 2147483648) {g : Int} (h_g : -2147483648 ≤ g ∧ g < 2147483648) {n : Int} (h_n : -2147483648 ≤ n ∧ n < 2147483648) {p : Int} (h_p : -2147483648 ≤ p ∧ p < 2147483648) : SpL yX10_often cX10_often 7 (some .long) 55 [.ref 0, .int (jI s), .int (jI g), .int (jI n), .int (jI p)] (W5 S T D) (MQ0 S T D lb (fun a => if isRow s g ∧ (0 ≤ p ∧ p < 2 * pc s + g) ∧ (1 ≤ n ∧ n ≤ 8) ∧ s.toNat.testBit (n - 1).toNat = true then ((cbn (fa a) s.toNat (2 ^ (2 * pc s + g).toNat - 1) (n - 1).toNat p.toNat : Nat) : Int) + (if 0 ≤ p - a n ∧ p - a n < 16 then ((cbn (fa a) s.toNat (2 ^ (2 * pc s + g).toNat - 1) (n - 1).toNat (p - a n).toNat : Nat) : Int) else 0) else -1)) := by
  have hpb := pc_B s
  by_cases hrw : isRow s g
  · obtain ⟨sn, hsn⟩ : ∃ n : Nat, s = (n : Int) := ⟨s.toNat, by have := hrw.1; omega⟩
    have hs8 : sn < 256 := by have := hrw.1; omega
    have hg1 := hrw.2
    have hfr := all_lt (n := 2 * pc s + g) (by omega)
    refine Sp.of [.ref 0, .int (jI s), .int (jI g), .int (jI n), .int (jI p), .retAddr 0, .retAddr 0] (by decide) (by simp) (Nat.le_of_ble_eq_true rfl) rfl (fun E => ?_)
    refine L_i1 dX10_often_0 ?_
    refine L_i2 dX10_often_1 ?_
    refine C_s2F vX10_255 dX10_often_2 (qX10_rowPlaces h_s h_g) (Nat.le_of_ble_eq_true rfl) (by decide) ?_
    refine J_eqi (b := 2 * pc s + g) (if_pos hrw) ?_
    refine S_i5 dX10_often_5 (by decide) rfl ?_
    refine L_i4 dX10_often_7 ?_
    refine J_if_lt 35 dX10_often_9 rfl (by omega) (fun c9 => ?_) (fun c9 => ?_)
    · refine J_ldc2 (-1) dX10_often_35 kX10_258 (by decide) ?_
      exact RQ_l rfl dX10_often_38 (MQ0.no hJ (fun a => (if_neg (fun hh => by first | omega | exact c23 hh.2.2.1 | exact (bit_Z (by omega)).mp c32 hh.2.2.2)).symm))
    · refine L_i4 dX10_often_12 ?_
      refine L_i5 dX10_often_14 ?_
      refine J_icmp_ge 35 dX10_often_16 rfl (by omega) (by omega) (fun c16 => ?_) (fun c16 => ?_)
      · refine J_ldc2 (-1) dX10_often_35 kX10_258 (by decide) ?_
        exact RQ_l rfl dX10_often_38 (MQ0.no hJ (fun a => (if_neg (fun hh => by first | omega | exact c23 hh.2.2.1 | exact (bit_Z (by omega)).mp c32 hh.2.2.2)).symm))
      · refine L_i3 dX10_often_19 ?_
        refine C_s1F vX10_180 dX10_often_20 (sX10_isNumber (by omega)) (Nat.le_of_ble_eq_true rfl) (by decide) ?_
        refine J_ifeqB 35 dX10_often_23 rfl (fun c23 => ?_) (fun c23 => ?_)
        · refine J_ldc2 (-1) dX10_often_35 kX10_258 (by decide) ?_
          exact RQ_l rfl dX10_often_38 (MQ0.no hJ (fun a => (if_neg (fun hh => by first | omega | exact c23 hh.2.2.1 | exact (bit_Z (by omega)).mp c32 hh.2.2.2)).symm))
        · refine L_i1 dX10_often_26 ?_
          refine L_i3 dX10_often_27 ?_
          refine C_s1F vX10_275 dX10_often_28 (sX10_bitOf (by omega)) (Nat.le_of_ble_eq_true rfl) (by decide) ?_
          refine J_iandG dX10_often_31 (by omega) (bsh_nn _) ?_
          have hb1 := ban_nn s (bsh (n - 1))
          have hb2 := ban_le' s (bsh (n - 1)) (by omega)
          refine J_if_ne 39 dX10_often_32 rfl (by omega) (fun c32 => ?_) (fun c32 => ?_)
          · refine L_a0 dX10_often_39 ?_
            refine C_v0U vX10_260 dX10_often_40 (qX10_measure hv hl hr hJ h7) rfl rfl (Nat.le_of_ble_eq_true rfl) (by decide) (fun hp40 hq40 => ?_)
            obtain ⟨S1, rfl, hG1, hF1, hN1, h71⟩ := hq40
            refine L_i5 dX10_often_43 ?_
            refine C_s1F vX10_263 dX10_often_45 (sX10_allOf (by omega)) (Nat.le_of_ble_eq_true rfl) (by decide) ?_
            refine J_eqi (b := ((2 ^ (2 * pc s + g).toNat - 1 : Nat) : Int)) (all_nat (by omega)) ?_
            refine S_i6 dX10_often_48 (by decide) rfl ?_
            refine L_a0 dX10_often_50 ?_
            refine GW_0_7 fX10_56 dX10_often_51 ?_
            refine L_i1 dX10_often_54 ?_
            refine L_i6 dX10_often_55 ?_
            refine L_i3 dX10_often_57 ?_
            refine L_i4 dX10_often_58 ?_
            refine C_v4I vX10_278 dX10_often_60 (qX0_countWithZ hG1 rfl hsn hs8 hfr (n := n) (by omega) (p := p) (by omega)) rfl rfl (Nat.le_of_ble_eq_true rfl) (by decide) (fun v60 hp60 hq60 => ?_)
            obtain ⟨e60, S2, rfl, hG2, hF2⟩ := hq60
            have hA1 := hG1.a n (by omega)
            refine L_a0 dX10_often_63 ?_
            refine GW_0_7 fX10_56 dX10_often_64 ?_
            refine L_i1 dX10_often_67 ?_
            refine L_i6 dX10_often_68 ?_
            refine L_i3 dX10_often_70 ?_
            refine L_i4 dX10_often_71 ?_
            refine L_a0 dX10_often_73 ?_
            refine GW_0_7 fX10_56 dX10_often_74 ?_
            refine L_i3 dX10_often_77 ?_
            refine C_v1F vX10_281 dX10_often_78 (qX0_apart hG2.a (by omega)) rfl rfl (Nat.le_of_ble_eq_true rfl) (by decide) ?_
            refine J_eqi (b := S1 22 n) (by rw [if_pos (by omega), hF2 22 (by decide)]) ?_
            refine J_isub dX10_often_81 ?_
            refine C_v4I vX10_278 dX10_often_82 (qX0_countWithZ (a := S1 22) hG2 (hF2 22 (by decide)) hsn hs8 hfr (n := n) (by omega) (p := p - S1 22 n) (by omega)) rfl rfl (Nat.le_of_ble_eq_true rfl) (by decide) (fun v82 hp82 hq82 => ?_)
            obtain ⟨e82, S3, rfl, hG3, hF3⟩ := hq82
            have hc1 := cbn_B (hG1.oA rfl) (s := sn) (k := (n - 1).toNat) (p := p.toNat) hfr
            have hc2 := cbn_B (hG1.oA rfl) (s := sn) (k := (n - 1).toNat) (p := (p - S1 22 n).toNat) hfr
            rw [if_pos (by omega)] at e60
            have hb82 : 0 ≤ v82 ∧ v82 ≤ 10321920 := by rw [e82]; split <;> omega
            refine J_iadd dX10_often_85 ?_
            refine J_i2l dX10_often_86 (by omega) ?_
            exact RQ_l rfl dX10_often_87 (MQ0.ye hF1 hN1 h71 hG3 (Fr67 (hF2.trans hF3)) (by rw [if_pos ⟨hrw, by omega, c23, Classical.not_not.mp (fun hh => c32 ((bit_Z (by omega)).mpr hh))⟩, show s.toNat = sn from by omega, e60, e82]))
          · refine J_ldc2 (-1) dX10_often_35 kX10_258 (by decide) ?_
            exact RQ_l rfl dX10_often_38 (MQ0.no hJ (fun a => (if_neg (fun hh => by first | omega | exact c23 hh.2.2.1 | exact (bit_Z (by omega)).mp c32 hh.2.2.2)).symm))
  · refine Sp.of [.ref 0, .int (jI s), .int (jI g), .int (jI n), .int (jI p), .retAddr 0, .retAddr 0] (by decide) (by simp) (Nat.le_of_ble_eq_true rfl) rfl (fun E => ?_)
    refine L_i1 dX10_often_0 ?_
    refine L_i2 dX10_often_1 ?_
    refine C_s2F vX10_255 dX10_often_2 (qX10_rowPlaces h_s h_g) (Nat.le_of_ble_eq_true rfl) (by decide) ?_
    refine J_eqi (b := -1) (if_neg hrw) ?_
    refine S_i5 dX10_often_5 (by decide) rfl ?_
    refine L_i4 dX10_often_7 ?_
    refine J_if_lt 35 dX10_often_9 rfl (by omega) (fun c9 => ?_) (fun c9 => ?_)
    · refine J_ldc2 (-1) dX10_often_35 kX10_258 (by decide) ?_
      exact RQ_l rfl dX10_often_38 (MQ0.no hJ (fun a => (if_neg (fun hh => hrw hh.1)).symm))
    · refine L_i4 dX10_often_12 ?_
      refine L_i5 dX10_often_14 ?_
      refine J_icmp_ge 35 dX10_often_16 rfl (by omega) (by omega) (fun c16 => ?_) (fun c16 => ?_)
      · refine J_ldc2 (-1) dX10_often_35 kX10_258 (by decide) ?_
        exact RQ_l rfl dX10_often_38 (MQ0.no hJ (fun a => (if_neg (fun hh => hrw hh.1)).symm))
      · exfalso; omega
def fwg (a : Int → Int) (s q : Int) : Option Int := if cn (fa a) s.toNat (2 ^ q.toNat - 1) = 0 then none else some (q - 2 * pc s)
def fwl (a : Int → Int) (s : Int) : Int := lpR (fwg a s) (17 - 2 * pc s).toNat (2 * pc s) (-1)
set_option maxRecDepth 100000 in
theorem lX10_fewest {E : mx_E} {S T S1 : Nat → Int → Int} {D : List mx_C} {lb : Option (List Int)} {s : Int} (h_s : 0 ≤ s ∧ s ≤ 255) (hF1 : Fr [21, 22, 23, 24, 35] S S1) (hN1 : ∀ n, 1 ≤ n ∧ n ≤ 8 → S1 22 n = cbt (S 14) n lb + 1) (h71 : S1 21 7 ≤ S 21 7 + 1) {F : (Int → Int) → Int} : ∀ (j : Nat) (k : Int) (S2 : Nat → Int → Int), k + j = 17 → 2 * pc s ≤ k → Fr [25, 26, 27] S1 S2 → FGo S2 → lpR (fwg (S1 22) s) j k (-1) = F (S1 22) → Ev E yX10_fewest cX10_fewest 4 (some .int) (kI E 88 (MQ0 S T D lb F)) 0 0 22 [.ref 0, .int (jI s), .int (jI (2 * pc s)), .int (jI k)] [] (W5 S2 T D) := by
  have hpb := pc_B s
  intro j
  induction j with
  | zero =>
    intro k S2 hkj hk hF2 hG2 hr
    refine L_i3 dX10_fewest_22 ?_
    refine J_bipush dX10_fewest_23 (by decide) ?_
    refine J_icmp_gt 53 dX10_fewest_25 rfl (by omega) (by omega) (fun c25 => ?_) (fun c25 => ?_)
    · refine J_iconst dX10_fewest_53 ?_
      exact RQ_i rfl dX10_fewest_54 (MQ0.ye hF1 hN1 h71 hG2 hF2 hr)
    · exfalso; omega
  | succ j ih =>
    intro k S2 hkj hk hF2 hG2 hr
    have hfr := all_lt (n := k) (by omega)
    have hfB := fb_B (S1 22) s.toNat (2 ^ k.toNat - 1)
    refine L_i3 dX10_fewest_22 ?_
    refine J_bipush dX10_fewest_23 (by decide) ?_
    refine J_icmp_gt 53 dX10_fewest_25 rfl (by omega) (by omega) (fun c25 => ?_) (fun c25 => ?_)
    · exfalso; omega
    · refine L_a0 dX10_fewest_28 ?_
      refine GW_0_7 fX10_56 dX10_fewest_29 ?_
      refine L_i1 dX10_fewest_32 ?_
      refine L_i3 dX10_fewest_33 ?_
      refine C_s1F vX10_263 dX10_fewest_34 (sX10_allOf (by omega)) (Nat.le_of_ble_eq_true rfl) (by decide) ?_
      refine J_eqi (b := ((2 ^ k.toNat - 1 : Nat) : Int)) (all_nat (by omega)) ?_
      refine C_v2I vX10_293 dX10_fewest_37 (qX0_fitsZ (a := S1 22) hG2 (hF2 22 (by decide)) (s := s.toNat) (by omega) (by omega) hfr) rfl rfl (Nat.le_of_ble_eq_true rfl) (by decide) (fun v37 hp37 hq37 => ?_)
      obtain ⟨rfl, S3, rfl, hG3, hF3⟩ := hq37
      refine J_if_eq 47 dX10_fewest_40 rfl (by omega) (fun c40 => ?_) (fun c40 => ?_)
      · refine JI_3 dX10_fewest_47 (by decide) rfl ?_
        refine E_goto 22 dX10_fewest_50 rfl ?_
        rw [lpR_no (show fwg (S1 22) s k = none from if_pos (fb_0.mp c40))] at hr
        exact ih (k + 1) S3 (by omega) (by omega) (hF2.trans (Fr67 hF3)) hG3 hr
      · refine L_i3 dX10_fewest_43 ?_
        refine L_i2 dX10_fewest_44 ?_
        refine J_isub dX10_fewest_45 ?_
        exact RQ_i rfl dX10_fewest_46 (MQ0.ye hF1 hN1 h71 hG3 (hF2.trans (Fr67 hF3)) (by rw [lpR_so (show fwg (S1 22) s k = some (k - 2 * pc s) from if_neg (fun hh => c40 (fb_0.mpr hh)))] at hr; exact hr))
set_option maxRecDepth 100000 in
theorem qX10_fewest {S T : Nat → Int → Int} {D : List mx_C} (hv : RV (S 14)) (hl : RLn (S 14)) {lb lt : Option (List Int)} (hr : CR1 S D lb lt) (hJ : FJ S) (h7 : S 21 7 ≤ 99999) {s : Int} (h_s : -2147483648 ≤ s ∧ s < 2147483648) : SpI yX10_fewest cX10_fewest 4 (some .int) 88 [.ref 0, .int (jI s)] (W5 S T D) (MQ0 S T D lb (fun a => if 0 ≤ s ∧ s ≤ 255 then fwl a s else -1)) := by
  refine Sp.of [.ref 0, .int (jI s), .retAddr 0, .retAddr 0] (by decide) (by simp) (Nat.le_of_ble_eq_true rfl) rfl (fun E => ?_)
  refine L_i1 dX10_fewest_0 ?_
  refine C_s1F vX10_287 dX10_fewest_1 (qX10_isSet h_s) (Nat.le_of_ble_eq_true rfl) (by decide) ?_
  refine J_ifneB 9 dX10_fewest_4 rfl (fun c4 => ?_) (fun c4 => ?_)
  · have hpb := pc_B s
    have hpm := pcn_mem (s := s.toNat) (by omega)
    have hml : (mem s.toNat).length ≤ 8 := memN_len s.toNat 8
    have epc : pc s = ((pcn 16 s.toNat : Nat) : Int) := rfl
    refine L_a0 dX10_fewest_9 ?_
    refine C_v0U vX10_260 dX10_fewest_10 (qX10_measure hv hl hr hJ h7) rfl rfl (Nat.le_of_ble_eq_true rfl) (by decide) (fun hp10 hq10 => ?_)
    obtain ⟨S1, rfl, hG1, hF1, hN1, h71⟩ := hq10
    refine J_iconst dX10_fewest_13 ?_
    refine L_i1 dX10_fewest_14 ?_
    refine C_s1F vX10_290 dX10_fewest_15 (sJ_bitCount (by omega)) (Nat.le_of_ble_eq_true rfl) (by decide) ?_
    refine J_imul dX10_fewest_18 ?_
    refine S_i2 dX10_fewest_19 (by decide) rfl ?_
    refine L_i2 dX10_fewest_20 ?_
    refine S_i3 dX10_fewest_21 (by decide) rfl ?_
    refine lX10_fewest (by omega) hF1 hN1 h71 (17 - 2 * pc s).toNat _ S1 (by omega) (by omega) (Fr.refl _ _) hG1 ?_
    rw [if_pos (by omega)]
    rfl
  · refine J_iconst dX10_fewest_7 ?_
    exact RQ_i rfl dX10_fewest_8 (MQ0.no hJ (fun a => (if_neg (by omega)).symm))
set_option maxRecDepth 100000 in
theorem qX10_rounds {S T : Nat → Int → Int} {D : List mx_C} (hv : RV (S 14)) (hl : RLn (S 14)) {lb lt : Option (List Int)} (hr : CR1 S D lb lt) (hJ : FJ S) (h7 : S 21 7 ≤ 99999) {s : Int} (h_s : -2147483648 ≤ s ∧ s < 2147483648) : SpL yX10_rounds cX10_rounds 2 (some .long) 12 [.ref 0, .int (jI s)] (W5 S T D) (MQ0 S T D lb (fun a => if 0 ≤ s ∧ s ≤ 255 then ((rnd a s.toNat : Nat) : Int) else -1)) := by
  refine Sp.of [.ref 0, .int (jI s)] (by decide) (by simp) (Nat.le_of_ble_eq_true rfl) rfl (fun E => ?_)
  refine L_i1 dX10_rounds_0 ?_
  refine C_s1F vX10_287 dX10_rounds_1 (qX10_isSet h_s) (Nat.le_of_ble_eq_true rfl) (by decide) ?_
  refine J_ifneB 11 dX10_rounds_4 rfl (fun c4 => ?_) (fun c4 => ?_)
  · obtain ⟨sn, hsn⟩ : ∃ n : Nat, s = (n : Int) := ⟨s.toNat, by omega⟩
    subst hsn
    have hml : (mem sn).length ≤ 8 := memN_len sn 8
    refine L_a0 dX10_rounds_11 ?_
    refine C_v0U vX10_260 dX10_rounds_12 (qX10_measure hv hl hr hJ h7) rfl rfl (Nat.le_of_ble_eq_true rfl) (by decide) (fun hp12 hq12 => ?_)
    obtain ⟨S1, rfl, hG1, hF1, hN1, h71⟩ := hq12
    refine L_a0 dX10_rounds_15 ?_
    refine GW_0_7 fX10_56 dX10_rounds_16 ?_
    refine L_i1 dX10_rounds_19 ?_
    refine C_v1I vX10_297 dX10_rounds_20 (qX0_countRound hG1 rfl (s := sn) (by omega)) rfl rfl (Nat.le_of_ble_eq_true rfl) (by decide) (fun v20 hp20 hq20 => ?_)
    obtain ⟨rfl, S2, rfl, hG2, hF2⟩ := hq20
    have hB : rnd (S1 22) sn ≤ 10321920 := by
      rcases Nat.eq_zero_or_pos (mem sn).length with h0 | h0
      · unfold rnd rn rsl; rw [List.length_eq_zero_iff.mp h0]; show (1 : Nat) ≤ 10321920; decide
      · exact rn_B ⟨by omega, by omega⟩ (by have : 2 ^ (2 * (mem sn).length) ≤ 2 ^ 16 := Nat.pow_le_pow_right (by decide) (by omega); omega)
    refine J_i2l dX10_rounds_23 (by omega) ?_
    exact RQ_l rfl dX10_rounds_24 (MQ0.ye hF1 hN1 h71 hG2 (Fr67 hF2) (by rw [if_pos (by omega), Int.toNat_natCast]))
  · refine J_ldc2 (-1) dX10_rounds_7 kX10_258 (by decide) ?_
    exact RQ_l rfl dX10_rounds_10 (MQ0.no hJ (fun a => (if_neg (by omega)).symm))
set_option maxRecDepth 100000 in
theorem qX10_threes {S T : Nat → Int → Int} {D : List mx_C} (hv : RV (S 14)) (hl : RLn (S 14)) {lb lt : Option (List Int)} (hr : CR1 S D lb lt) (hJ : FJ S) (h7 : S 21 7 ≤ 99999) {s : Int} (h_s : -2147483648 ≤ s ∧ s < 2147483648) : SpL yX10_threes cX10_threes 2 (some .long) 9 [.ref 0, .int (jI s)] (W5 S T D) (MQ0 S T D lb (fun a => if (0 ≤ s ∧ s ≤ 255) ∧ pc s ≤ 5 then ((tn (fa a) s.toNat (2 ^ (3 * pc s).toNat - 1) : Nat) : Int) else -1)) := by
  refine Sp.of [.ref 0, .int (jI s)] (by decide) (by simp) (Nat.le_of_ble_eq_true rfl) rfl (fun E => ?_)
  refine L_i1 dX10_threes_0 ?_
  refine C_s1F vX10_287 dX10_threes_1 (qX10_isSet h_s) (Nat.le_of_ble_eq_true rfl) (by decide) ?_
  refine J_ifeqB 15 dX10_threes_4 rfl (fun c4 => ?_) (fun c4 => ?_)
  · refine J_ldc2 (-1) dX10_threes_15 kX10_258 (by decide) ?_
    exact RQ_l rfl dX10_threes_18 (MQ0.no hJ (fun a => (if_neg (fun hh => by first | exact c4 hh.1 | omega)).symm))
  · have hpb := pc_B s
    refine L_i1 dX10_threes_7 ?_
    refine C_s1F vX10_290 dX10_threes_8 (sJ_bitCount (by omega)) (Nat.le_of_ble_eq_true rfl) (by decide) ?_
    refine J_iconst dX10_threes_11 ?_
    refine J_icmp_le 19 dX10_threes_12 rfl (by omega) (by omega) (fun c12 => ?_) (fun c12 => ?_)
    · obtain ⟨sn, hsn⟩ : ∃ n : Nat, s = (n : Int) := ⟨s.toNat, by omega⟩
      subst hsn
      have hml := pcn_mem (s := sn) (by omega)
      have epc : pc (sn : Int) = ((pcn 16 sn : Nat) : Int) := rfl
      have hfr := all_lt (n := 3 * pc (sn : Int)) (by omega)
      have hpr : pcn 16 (2 ^ (3 * pc (sn : Int)).toNat - 1) = 3 * (mem sn).length := by
        have h1 : pcn 16 (2 ^ (3 * pc (sn : Int)).toNat - 1) = (3 * pc (sn : Int)).toNat := pcn_allN (by omega)
        rw [h1]; omega
      refine L_a0 dX10_threes_19 ?_
      refine C_v0U vX10_260 dX10_threes_20 (qX10_measure hv hl hr hJ h7) rfl rfl (Nat.le_of_ble_eq_true rfl) (by decide) (fun hp20 hq20 => ?_)
      obtain ⟨S1, rfl, hG1, hF1, hN1, h71⟩ := hq20
      refine L_a0 dX10_threes_23 ?_
      refine GW_0_7 fX10_56 dX10_threes_24 ?_
      refine L_i1 dX10_threes_27 ?_
      refine J_iconst dX10_threes_28 ?_
      refine L_i1 dX10_threes_29 ?_
      refine C_s1F vX10_290 dX10_threes_30 (sJ_bitCount (by omega)) (Nat.le_of_ble_eq_true rfl) (by decide) ?_
      refine J_imul dX10_threes_33 ?_
      refine C_s1F vX10_263 dX10_threes_34 (sX10_allOf (by omega)) (Nat.le_of_ble_eq_true rfl) (by decide) ?_
      refine J_eqi (b := ((2 ^ (3 * pc (sn : Int)).toNat - 1 : Nat) : Int)) (all_nat (by omega)) ?_
      refine C_v2F vX10_300 dX10_threes_37 (THR_all 5 S1 T D (S1 22) hG1 rfl sn (2 ^ (3 * pc (sn : Int)).toNat - 1) (by omega) hfr hpr (by omega)) rfl rfl (Nat.le_of_ble_eq_true rfl) (by decide) ?_
      have hB := tn_B (hG1.oA rfl) (s := sn) hfr
      refine J_i2l dX10_threes_40 (by omega) ?_
      exact RQ_l rfl dX10_threes_41 (MQ0.ye hF1 hN1 h71 hG1 (Fr.refl _ _) (by rw [if_pos ⟨by omega, by omega⟩, Int.toNat_natCast]))
    · refine J_ldc2 (-1) dX10_threes_15 kX10_258 (by decide) ?_
      exact RQ_l rfl dX10_threes_18 (MQ0.no hJ (fun a => (if_neg (fun hh => by first | exact c4 hh.1 | omega)).symm))
def vcn (f : Int → Int) : Nat := (bdf (bsh (f 0) - 1) (f 4)).toNat
def jnn (f : Int → Int) (s : Int) : Nat := (bdf s (f 3)).toNat
theorem vcn_e (f : Int → Int) : bdf (bsh (f 0) - 1) (f 4) = ((vcn f : Nat) : Int) := by have := bdf_nn (bsh (f 0) - 1) (f 4); unfold vcn; omega
theorem jnn_e (f : Int → Int) (s : Int) : bdf s (f 3) = ((jnn f s : Nat) : Int) := by have := bdf_nn s (f 3); unfold jnn; omega
theorem vcn_lt {f : Int → Int} (hv : RV f) : vcn f < 65536 := by
  have h1 := bdf_le (bsh (f 0) - 1) (f 4) (by have := bsh_pos (f 0); omega)
  have h2 := all_lt (n := f 0) hv.2.1.2
  have h3 := all_nat (n := f 0) (by have := hv.2.1.1; omega)
  unfold vcn
  omega
theorem jnn_lt {f : Int → Int} {s : Int} (hs : 0 ≤ s ∧ s ≤ 255) : jnn f s < 256 := by
  have := bdf_le s (f 3) hs.1
  unfold jnn
  omega
set_option maxRecDepth 100000 in
theorem qX10_ways {S T : Nat → Int → Int} {D : List mx_C} (hv : RV (S 14)) (hl : RLn (S 14)) {lb lt : Option (List Int)} (hr : CR1 S D lb lt) (hJ : FJ S) (h7 : S 21 7 ≤ 99999) {s : Int} (h_s : -2147483648 ≤ s ∧ s < 2147483648) : SpL yX10_ways cX10_ways 2 (some .long) 54 [.ref 0, .int (jI s)] (W5 S T D) (MQ0 S T D lb (fun a => if 0 ≤ s ∧ s ≤ 255 then ((cn (fa a) (jnn (S 14) s) (vcn (S 14)) : Nat) : Int) else -1)) := by
  refine Sp.of [.ref 0, .int (jI s)] (by decide) (by simp) (Nat.le_of_ble_eq_true rfl) rfl (fun E => ?_)
  refine L_i1 dX10_ways_0 ?_
  refine C_s1F vX10_287 dX10_ways_1 (qX10_isSet h_s) (Nat.le_of_ble_eq_true rfl) (by decide) ?_
  refine J_ifneB 11 dX10_ways_4 rfl (fun c4 => ?_) (fun c4 => ?_)
  · have h3 := hv.2.2.2.2.1
    have hvl := vcn_lt hv
    have hjl := jnn_lt (f := S 14) (s := s) (by omega)
    refine L_a0 dX10_ways_11 ?_
    refine C_v0U vX10_260 dX10_ways_12 (qX10_measure hv hl hr hJ h7) rfl rfl (Nat.le_of_ble_eq_true rfl) (by decide) (fun hp12 hq12 => ?_)
    obtain ⟨S1, rfl, hG1, hF1, hN1, h71⟩ := hq12
    refine L_a0 dX10_ways_15 ?_
    refine GW_0_7 fX10_56 dX10_ways_16 ?_
    refine L_i1 dX10_ways_19 ?_
    refine L_a0 dX10_ways_20 ?_
    refine GW_0_3 fX10_32 dX10_ways_21 ?_
    refine C_v0F vX10_206 dX10_ways_24 (qX4_standing) rfl rfl (Nat.le_of_ble_eq_true rfl) (by decide) ?_
    refine J_eqi (b := S 14 3) (by rw [hF1 14 (by decide)]) ?_
    refine J_iconst dX10_ways_27 ?_
    refine J_inot dX10_ways_28 ?_
    refine J_iandD dX10_ways_29 (by omega) (by omega) ?_
    refine J_eqi (jnn_e (S 14) s) ?_
    refine L_a0 dX10_ways_30 ?_
    refine GW_0_3 fX10_32 dX10_ways_31 ?_
    refine C_v0F vX10_209 dX10_ways_34 (qX4_vacant (by rw [hF1 14 (by decide)]; exact hv)) rfl rfl (Nat.le_of_ble_eq_true rfl) (by decide) ?_
    refine J_eqi (b := ((vcn (S 14) : Nat) : Int)) (by rw [hF1 14 (by decide)]; exact vcn_e _) ?_
    refine C_v2I vX10_266 dX10_ways_37 (qX0_count hG1 rfl hjl hvl) rfl rfl (Nat.le_of_ble_eq_true rfl) (by decide) (fun v37 hp37 hq37 => ?_)
    obtain ⟨rfl, S2, rfl, hG2, hF2⟩ := hq37
    have hcB := cn_B (hG1.oA rfl) (s := jnn (S 14) s) hvl
    refine J_i2l dX10_ways_40 (by omega) ?_
    exact RQ_l rfl dX10_ways_41 (MQ0.ye hF1 hN1 h71 hG2 (Fr67 hF2) (by rw [if_pos (by omega)]))
  · refine J_ldc2 (-1) dX10_ways_7 kX10_258 (by decide) ?_
    exact RQ_l rfl dX10_ways_10 (MQ0.no hJ (fun a => (if_neg (by omega)).symm))
set_option maxRecDepth 100000 in
theorem qX10_forced {S T : Nat → Int → Int} {D : List mx_C} (hv : RV (S 14)) (hl : RLn (S 14)) {lb lt : Option (List Int)} (hr : CR1 S D lb lt) (hJ : FJ S) (h7 : S 21 7 ≤ 99999) {s : Int} (h_s : -2147483648 ≤ s ∧ s < 2147483648) : SpI yX10_forced cX10_forced 2 (some .int) 92 [.ref 0, .int (jI s)] (W5 S T D) (MQ0 S T D lb (fun a => if 0 ≤ s ∧ s ≤ 255 then stv a (jnn (S 14) s) (vcn (S 14)) else -1)) := by
  refine Sp.of [.ref 0, .int (jI s)] (by decide) (by simp) (Nat.le_of_ble_eq_true rfl) rfl (fun E => ?_)
  refine L_i1 dX10_forced_0 ?_
  refine C_s1F vX10_287 dX10_forced_1 (qX10_isSet h_s) (Nat.le_of_ble_eq_true rfl) (by decide) ?_
  refine J_ifneB 9 dX10_forced_4 rfl (fun c4 => ?_) (fun c4 => ?_)
  · have h3 := hv.2.2.2.2.1
    have hvl := vcn_lt hv
    have hjl := jnn_lt (f := S 14) (s := s) (by omega)
    refine L_a0 dX10_forced_9 ?_
    refine C_v0U vX10_260 dX10_forced_10 (qX10_measure hv hl hr hJ h7) rfl rfl (Nat.le_of_ble_eq_true rfl) (by decide) (fun hp10 hq10 => ?_)
    obtain ⟨S1, rfl, hG1, hF1, hN1, h71⟩ := hq10
    refine L_a0 dX10_forced_13 ?_
    refine GW_0_7 fX10_56 dX10_forced_14 ?_
    refine L_i1 dX10_forced_17 ?_
    refine L_a0 dX10_forced_18 ?_
    refine GW_0_3 fX10_32 dX10_forced_19 ?_
    refine C_v0F vX10_206 dX10_forced_22 (qX4_standing) rfl rfl (Nat.le_of_ble_eq_true rfl) (by decide) ?_
    refine J_eqi (b := S 14 3) (by rw [hF1 14 (by decide)]) ?_
    refine J_iconst dX10_forced_25 ?_
    refine J_inot dX10_forced_26 ?_
    refine J_iandD dX10_forced_27 (by omega) (by omega) ?_
    refine J_eqi (jnn_e (S 14) s) ?_
    refine L_a0 dX10_forced_28 ?_
    refine GW_0_3 fX10_32 dX10_forced_29 ?_
    refine C_v0F vX10_209 dX10_forced_32 (qX4_vacant (by rw [hF1 14 (by decide)]; exact hv)) rfl rfl (Nat.le_of_ble_eq_true rfl) (by decide) ?_
    refine J_eqi (b := ((vcn (S 14) : Nat) : Int)) (by rw [hF1 14 (by decide)]; exact vcn_e _) ?_
    refine C_v2I vX10_284 dX10_forced_35 (qX0_settled hG1 rfl hjl hvl) rfl rfl (Nat.le_of_ble_eq_true rfl) (by decide) (fun v35 hp35 hq35 => ?_)
    obtain ⟨rfl, S2, rfl, hG2, hF2⟩ := hq35
    exact RQ_i rfl dX10_forced_38 (MQ0.ye hF1 hN1 h71 hG2 (Fr67 hF2) (by rw [if_pos (by omega)]))
  · refine J_iconst dX10_forced_7 ?_
    exact RQ_i rfl dX10_forced_8 (MQ0.no hJ (fun a => (if_neg (by omega)).symm))
set_option maxRecDepth 100000 in
theorem qX10_fill {S T : Nat → Int → Int} {D : List mx_C} (hv : RV (S 14)) (hl : RLn (S 14)) {lb lt : Option (List Int)} (hr : CR1 S D lb lt) (hJ : FJ S) (h7 : S 21 7 ≤ 99999) {s : Int} (h_s : -2147483648 ≤ s ∧ s < 2147483648) {n : Int} (h_n : -2147483648 ≤ n ∧ n < 2147483648) : SpI yX10_fill cX10_fill 4 (some .int) 92 [.ref 0, .int (jI s), .int (jI n)] (W5 S T D) (MQ0 S T D lb (fun a => if (0 ≤ s ∧ s ≤ 255) ∧ (1 ≤ n ∧ n ≤ 8) ∧ ¬ cn (fa a) (jnn (S 14) s) (vcn (S 14)) = 0 then (if rw_holds (S 14) n then rw_first (S 14) n else lff a n 8 1 (jnn (S 14) s) (vcn (S 14))) else -1)) := by
  refine Sp.of [.ref 0, .int (jI s), .int (jI n), .retAddr 0] (by decide) (by simp) (Nat.le_of_ble_eq_true rfl) rfl (fun E => ?_)
  refine L_i1 dX10_fill_0 ?_
  refine C_s1F vX10_287 dX10_fill_1 (qX10_isSet h_s) (Nat.le_of_ble_eq_true rfl) (by decide) ?_
  refine J_ifeqB 14 dX10_fill_4 rfl (fun c4 => ?_) (fun c4 => ?_)
  · refine J_iconst dX10_fill_14 ?_
    exact RQ_i rfl dX10_fill_15 (MQ0.no hJ (fun a => (if_neg (fun hh => by first | exact c4 hh.1 | exact c11 hh.2.1)).symm))
  · refine L_i2 dX10_fill_7 ?_
    refine C_s1F vX10_180 dX10_fill_8 (sX10_isNumber (by omega)) (Nat.le_of_ble_eq_true rfl) (by decide) ?_
    refine J_ifneB 16 dX10_fill_11 rfl (fun c11 => ?_) (fun c11 => ?_)
    · have h3 := hv.2.2.2.2.1
      have hvl := vcn_lt hv
      have hjl := jnn_lt (f := S 14) (s := s) (by omega)
      refine L_a0 dX10_fill_16 ?_
      refine C_v0U vX10_260 dX10_fill_17 (qX10_measure hv hl hr hJ h7) rfl rfl (Nat.le_of_ble_eq_true rfl) (by decide) (fun hp17 hq17 => ?_)
      obtain ⟨S1, rfl, hG1, hF1, hN1, h71⟩ := hq17
      refine L_i1 dX10_fill_20 ?_
      refine L_a0 dX10_fill_21 ?_
      refine GW_0_3 fX10_32 dX10_fill_22 ?_
      refine C_v0F vX10_206 dX10_fill_25 (qX4_standing) rfl rfl (Nat.le_of_ble_eq_true rfl) (by decide) ?_
      refine J_eqi (b := S 14 3) (by rw [hF1 14 (by decide)]) ?_
      refine J_iconst dX10_fill_28 ?_
      refine J_inot dX10_fill_29 ?_
      refine J_iandD dX10_fill_30 (by omega) (by omega) ?_
      refine J_eqi (jnn_e (S 14) s) ?_
      refine S_i3 dX10_fill_31 (by decide) rfl ?_
      refine L_a0 dX10_fill_32 ?_
      refine GW_0_7 fX10_56 dX10_fill_33 ?_
      refine L_i3 dX10_fill_36 ?_
      refine L_a0 dX10_fill_37 ?_
      refine GW_0_3 fX10_32 dX10_fill_38 ?_
      refine C_v0F vX10_209 dX10_fill_41 (qX4_vacant (by rw [hF1 14 (by decide)]; exact hv)) rfl rfl (Nat.le_of_ble_eq_true rfl) (by decide) ?_
      refine J_eqi (b := ((vcn (S 14) : Nat) : Int)) (by rw [hF1 14 (by decide)]; exact vcn_e _) ?_
      refine C_v2I vX10_293 dX10_fill_44 (qX0_fits hG1 rfl hjl hvl) rfl rfl (Nat.le_of_ble_eq_true rfl) (by decide) (fun v44 hp44 hq44 => ?_)
      obtain ⟨rfl, S2, rfl, hG2, hF2⟩ := hq44
      have hfB := fb_B (S1 22) (jnn (S 14) s) (vcn (S 14))
      have e14b : S2 14 = S 14 := (hF2 14 (by decide)).trans (hF1 14 (by decide))
      have e22b : S2 22 = S1 22 := hF2 22 (by decide)
      refine J_if_ne 52 dX10_fill_47 rfl (by omega) (fun c47 => ?_) (fun c47 => ?_)
      · refine L_a0 dX10_fill_52 ?_
        refine GW_0_3 fX10_32 dX10_fill_53 ?_
        refine L_i2 dX10_fill_56 ?_
        refine C_v1F vX10_125 dX10_fill_57 (qX4_holds (by rw [e14b]; exact hv.1) (by omega)) rfl rfl (Nat.le_of_ble_eq_true rfl) (by decide) ?_
        refine J_ifeqB 74 dX10_fill_60 rfl (fun c60 => ?_) (fun c60 => ?_)
        · refine L_a0 dX10_fill_74 ?_
          refine GW_0_7 fX10_56 dX10_fill_75 ?_
          refine L_i3 dX10_fill_78 ?_
          refine L_a0 dX10_fill_79 ?_
          refine GW_0_3 fX10_32 dX10_fill_80 ?_
          refine C_v0F vX10_209 dX10_fill_83 (qX4_vacant (by rw [e14b]; exact hv)) rfl rfl (Nat.le_of_ble_eq_true rfl) (by decide) ?_
          refine J_eqi (b := ((vcn (S 14) : Nat) : Int)) (by rw [e14b]; exact vcn_e _) ?_
          refine L_i2 dX10_fill_86 ?_
          refine C_v3I vX10_303 dX10_fill_87 (qX0_lowestFirst hG2 e22b hjl hvl (nb := n) (by omega)) rfl rfl (Nat.le_of_ble_eq_true rfl) (by decide) (fun v87 hp87 hq87 => ?_)
          obtain ⟨rfl, S3, rfl, hG3, hF3⟩ := hq87
          exact RQ_i rfl dX10_fill_90 (by first | exact MQ0.ye hF1 hN1 h71 hG2 (Fr67 hF2) (by rw [e14b] at c60; rw [if_pos ⟨c4, c11, fun hh => c47 (fb_0.mpr hh)⟩, if_pos c60, e14b]) | exact MQ0.ye hF1 hN1 h71 hG3 (Fr67 (hF2.trans hF3)) (by rw [e14b] at c60; rw [if_pos ⟨c4, c11, fun hh => c47 (fb_0.mpr hh)⟩, if_neg c60]))
        · refine L_a0 dX10_fill_63 ?_
          refine GW_0_3 fX10_32 dX10_fill_64 ?_
          refine L_i2 dX10_fill_67 ?_
          refine C_v1F vX10_183 dX10_fill_68 (qX4_first (by rw [e14b]; exact hv.1) (by omega)) rfl rfl (Nat.le_of_ble_eq_true rfl) (by decide) ?_
          refine E_goto 90 dX10_fill_71 rfl ?_
          exact RQ_i rfl dX10_fill_90 (by first | exact MQ0.ye hF1 hN1 h71 hG2 (Fr67 hF2) (by rw [e14b] at c60; rw [if_pos ⟨c4, c11, fun hh => c47 (fb_0.mpr hh)⟩, if_pos c60, e14b]) | exact MQ0.ye hF1 hN1 h71 hG3 (Fr67 (hF2.trans hF3)) (by rw [e14b] at c60; rw [if_pos ⟨c4, c11, fun hh => c47 (fb_0.mpr hh)⟩, if_neg c60]))
      · refine J_iconst dX10_fill_50 ?_
        exact RQ_i rfl dX10_fill_51 (MQ0.ye hF1 hN1 h71 hG2 (Fr67 hF2) ((if_neg (fun hh => hh.2.2 (fb_0.mp c47))).symm))
    · refine J_iconst dX10_fill_14 ?_
      exact RQ_i rfl dX10_fill_15 (MQ0.no hJ (fun a => (if_neg (fun hh => by first | exact c4 hh.1 | exact c11 hh.2.1)).symm))
theorem lgo_B (a : Int → Int) (fr : Nat) : ∀ m : Nat, 0 ≤ lgo a fr m ∧ lgo a fr m < 256 := by
  have hR : ∀ (mn : Int) (j : Nat) (k : Int), 1 ≤ k → k + j ≤ 256 → 0 ≤ lpR (lgg a fr mn) j k 0 ∧ lpR (lgg a fr mn) j k 0 < 256 := by
    intro mn j
    induction j with
    | zero => intro k _ _; show (0 : Int) ≤ 0 ∧ (0 : Int) < 256; omega
    | succ j ih =>
      intro k h1 h2
      by_cases h : pc k = mn ∧ ¬ cn (fa a) k.toNat fr = 0
      · rw [lpR_so (show lgg a fr mn k = some k from if_pos h)]; omega
      · rw [lpR_no (show lgg a fr mn k = none from if_neg h)]; exact ih (k + 1) (by omega) (by omega)
  intro m
  induction m with
  | zero => show (0 : Int) ≤ 0 ∧ (0 : Int) < 256; omega
  | succ m ih =>
    rw [lgo]
    split
    · exact ih
    · exact hR _ 255 1 (by omega) (by omega)
set_option maxRecDepth 100000 in
theorem qX10_most {S T : Nat → Int → Int} {D : List mx_C} (hv : RV (S 14)) (hl : RLn (S 14)) {lb lt : Option (List Int)} (hr : CR1 S D lb lt) (hJ : FJ S) (h7 : S 21 7 ≤ 99999) {p : Int} (h_p : -2147483648 ≤ p ∧ p < 2147483648) {q : Int} (h_q : q = 0 ∨ q = 1) : SpI yX10_most cX10_most 4 (some .int) 89 [.ref 0, .int (jI p), .int (jI q)] (W5 S T D) (MQ0 S T D lb (fun a => if 1 ≤ p ∧ p ≤ 16 then (if q = 0 then lgo a (2 ^ p.toNat - 1) (pcn 16 (2 ^ p.toNat - 1) / 2) else pc (lgo a (2 ^ p.toNat - 1) (pcn 16 (2 ^ p.toNat - 1) / 2))) else -1)) := by
  refine Sp.of [.ref 0, .int (jI p), .int (jI q), .retAddr 0] (by decide) (by simp) (Nat.le_of_ble_eq_true rfl) rfl (fun E => ?_)
  refine L_i1 dX10_most_0 ?_
  refine J_iconst dX10_most_1 ?_
  refine J_icmp_lt 11 dX10_most_2 rfl (by omega) (by omega) (fun c2 => ?_) (fun c2 => ?_)
  · refine J_iconst dX10_most_11 ?_
    exact RQ_i rfl dX10_most_12 (MQ0.no hJ (fun a => (if_neg (by omega)).symm))
  · refine L_i1 dX10_most_5 ?_
    refine J_bipush dX10_most_6 (by decide) ?_
    refine J_icmp_le 13 dX10_most_8 rfl (by omega) (by omega) (fun c8 => ?_) (fun c8 => ?_)
    · have hfr := all_lt (n := p) (by omega)
      refine L_a0 dX10_most_13 ?_
      refine C_v0U vX10_260 dX10_most_14 (qX10_measure hv hl hr hJ h7) rfl rfl (Nat.le_of_ble_eq_true rfl) (by decide) (fun hp14 hq14 => ?_)
      obtain ⟨S1, rfl, hG1, hF1, hN1, h71⟩ := hq14
      refine L_a0 dX10_most_17 ?_
      refine GW_0_7 fX10_56 dX10_most_18 ?_
      refine L_i1 dX10_most_21 ?_
      refine C_s1F vX10_263 dX10_most_22 (sX10_allOf (by omega)) (Nat.le_of_ble_eq_true rfl) (by decide) ?_
      refine J_eqi (b := ((2 ^ p.toNat - 1 : Nat) : Int)) (all_nat (by omega)) ?_
      refine C_v1I vX10_318 dX10_most_25 (qX0_largest rfl hfr hG1) rfl rfl (Nat.le_of_ble_eq_true rfl) (by decide) (fun v25 hp25 hq25 => ?_)
      obtain ⟨rfl, S2, rfl, hG2, hF2⟩ := hq25
      have hlB := lgo_B (S1 22) (2 ^ p.toNat - 1) (pcn 16 (2 ^ p.toNat - 1) / 2)
      refine S_i3 dX10_most_28 (by decide) rfl ?_
      refine L_i2 dX10_most_29 ?_
      refine J_if_eq 40 dX10_most_30 rfl (by omega) (fun c30 => ?_) (fun c30 => ?_)
      · refine L_i3 dX10_most_40 ?_
        exact RQ_i rfl dX10_most_41 (MQ0.ye hF1 hN1 h71 hG2 (Fr67 hF2) (by rw [if_pos (by omega)]; first | (rw [if_pos (by omega)]; done) | (rw [if_neg (by omega)]; done)))
      · refine L_i3 dX10_most_33 ?_
        refine C_s1F vX10_290 dX10_most_34 (sJ_bitCount (by omega)) (Nat.le_of_ble_eq_true rfl) (by decide) ?_
        refine E_goto 41 dX10_most_37 rfl ?_
        exact RQ_i rfl dX10_most_41 (MQ0.ye hF1 hN1 h71 hG2 (Fr67 hF2) (by rw [if_pos (by omega)]; first | (rw [if_pos (by omega)]; done) | (rw [if_neg (by omega)]; done)))
    · refine J_iconst dX10_most_11 ?_
      exact RQ_i rfl dX10_most_12 (MQ0.no hJ (fun a => (if_neg (by omega)).symm))
set_option maxRecDepth 100000 in
theorem qX10_game {S T : Nat → Int → Int} {D : List mx_C} (hv : RV (S 14)) (hl : RLn (S 14)) {lb lt : Option (List Int)} (hr : CR1 S D lb lt) (hJ : FJ S) (h7 : S 21 7 ≤ 99999) {p : Int} (h_p : -2147483648 ≤ p ∧ p < 2147483648) {s : Int} (h_s : -2147483648 ≤ s ∧ s < 2147483648) : SpI yX10_game cX10_game 3 (some .int) 29 [.ref 0, .int (jI p), .int (jI s)] (W5 S T D) (MQ0 S T D lb (fun a => if isGm p s then gv a s.toNat (2 ^ p.toNat - 1) else -1)) := by
  refine Sp.of [.ref 0, .int (jI p), .int (jI s)] (by decide) (by simp) (Nat.le_of_ble_eq_true rfl) rfl (fun E => ?_)
  refine L_i1 dX10_game_0 ?_
  refine L_i2 dX10_game_1 ?_
  refine C_s2F vX10_321 dX10_game_2 (qX10_isGame h_p h_s) (Nat.le_of_ble_eq_true rfl) (by decide) ?_
  refine J_ifneB 10 dX10_game_5 rfl (fun c5 => ?_) (fun c5 => ?_)
  · obtain ⟨sn, hsn⟩ : ∃ n : Nat, s = (n : Int) := ⟨s.toNat, by have := c5.2.1; omega⟩
    subst hsn
    have hs8 : sn < 256 := by have := c5.2.1; omega
    have hp1 := c5.1
    have hfr := all_lt (n := p) (by omega)
    refine L_a0 dX10_game_10 ?_
    refine C_v0U vX10_260 dX10_game_11 (qX10_measure hv hl hr hJ h7) rfl rfl (Nat.le_of_ble_eq_true rfl) (by decide) (fun hp11 hq11 => ?_)
    obtain ⟨S1, rfl, hG1, hF1, hN1, h71⟩ := hq11
    refine L_a0 dX10_game_14 ?_
    refine GW_0_7 fX10_56 dX10_game_15 ?_
    refine L_i2 dX10_game_18 ?_
    refine L_i1 dX10_game_19 ?_
    refine C_s1F vX10_263 dX10_game_20 (sX10_allOf (by omega)) (Nat.le_of_ble_eq_true rfl) (by decide) ?_
    refine J_eqi (b := ((2 ^ p.toNat - 1 : Nat) : Int)) (all_nat (by omega)) ?_
    refine C_v2I vX10_324 dX10_game_23 (qX0_wins hG1 rfl hs8 hfr) rfl rfl (Nat.le_of_ble_eq_true rfl) (by decide) (fun v23 hp23 hq23 => ?_)
    obtain ⟨rfl, S2, rfl, hG2, hF2⟩ := hq23
    have hgB := gv_B (S1 22) sn (2 ^ p.toNat - 1)
    refine J_if_eq 33 dX10_game_26 rfl (by omega) (fun c26 => ?_) (fun c26 => ?_)
    · refine J_iconst dX10_game_33 ?_
      exact RQ_i rfl dX10_game_34 (MQ0.ye hF1 hN1 h71 hG2 (Fr67 hF2) (by rw [if_pos c5, Int.toNat_natCast]; omega))
    · refine J_iconst dX10_game_29 ?_
      refine E_goto 34 dX10_game_30 rfl ?_
      exact RQ_i rfl dX10_game_34 (MQ0.ye hF1 hN1 h71 hG2 (Fr67 hF2) (by rw [if_pos c5, Int.toNat_natCast]; omega))
  · refine J_iconst dX10_game_8 ?_
    exact RQ_i rfl dX10_game_9 (MQ0.no hJ (fun a => (if_neg c5).symm))
set_option maxRecDepth 100000 in
theorem qX10_play {S T : Nat → Int → Int} {D : List mx_C} (hv : RV (S 14)) (hl : RLn (S 14)) {lb lt : Option (List Int)} (hr : CR1 S D lb lt) (hJ : FJ S) (h7 : S 21 7 ≤ 99999) {p : Int} (h_p : -2147483648 ≤ p ∧ p < 2147483648) {s : Int} (h_s : -2147483648 ≤ s ∧ s < 2147483648) : SpI yX10_play cX10_play 3 (some .int) 31 [.ref 0, .int (jI p), .int (jI s)] (W5 S T D) (MQ0 S T D lb (fun a => if isGm p s then gwp a s.toNat (2 ^ p.toNat - 1) else -1)) := by
  refine Sp.of [.ref 0, .int (jI p), .int (jI s)] (by decide) (by simp) (Nat.le_of_ble_eq_true rfl) rfl (fun E => ?_)
  refine L_i1 dX10_play_0 ?_
  refine L_i2 dX10_play_1 ?_
  refine C_s2F vX10_321 dX10_play_2 (qX10_isGame h_p h_s) (Nat.le_of_ble_eq_true rfl) (by decide) ?_
  refine J_ifneB 10 dX10_play_5 rfl (fun c5 => ?_) (fun c5 => ?_)
  · obtain ⟨sn, hsn⟩ : ∃ n : Nat, s = (n : Int) := ⟨s.toNat, by have := c5.2.1; omega⟩
    subst hsn
    have hs8 : sn < 256 := by have := c5.2.1; omega
    have hp1 := c5.1
    have hfr := all_lt (n := p) (by omega)
    refine L_a0 dX10_play_10 ?_
    refine C_v0U vX10_260 dX10_play_11 (qX10_measure hv hl hr hJ h7) rfl rfl (Nat.le_of_ble_eq_true rfl) (by decide) (fun hp11 hq11 => ?_)
    obtain ⟨S1, rfl, hG1, hF1, hN1, h71⟩ := hq11
    refine L_a0 dX10_play_14 ?_
    refine GW_0_7 fX10_56 dX10_play_15 ?_
    refine L_i2 dX10_play_18 ?_
    refine L_i1 dX10_play_19 ?_
    refine C_s1F vX10_263 dX10_play_20 (sX10_allOf (by omega)) (Nat.le_of_ble_eq_true rfl) (by decide) ?_
    refine J_eqi (b := ((2 ^ p.toNat - 1 : Nat) : Int)) (all_nat (by omega)) ?_
    refine C_v2I vX10_327 dX10_play_23 (qX0_winningPlay hG1 rfl hs8 hfr) rfl rfl (Nat.le_of_ble_eq_true rfl) (by decide) (fun v23 hp23 hq23 => ?_)
    obtain ⟨rfl, S2, rfl, hG2, hF2⟩ := hq23
    exact RQ_i rfl dX10_play_26 (MQ0.ye hF1 hN1 h71 hG2 (Fr67 hF2) (by rw [if_pos c5, Int.toNat_natCast]))
  · refine J_iconst dX10_play_8 ?_
    exact RQ_i rfl dX10_play_9 (MQ0.no hJ (fun a => (if_neg c5).symm))
