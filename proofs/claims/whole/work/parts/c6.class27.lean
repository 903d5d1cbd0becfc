/-! ===== the class: who stays, odds ===== -/
def sti (a f : Int → Int) (s h mn q : Int) : Option Int := if bdf q h = 0 ∧ pc q = mn ∧ ¬ cn (fa a) (bdf s q).toNat (bdf (bsh (f 0) - 1) (rw_places f q)).toNat = 0 then some q else none
def sto (a f : Int → Int) (s h : Int) : Nat → Int
  | 0 => -1
  | m + 1 => if lpR (sti a f s h (m : Int)) (h + 1).toNat 0 (-1) = -1 then sto a f s h m else lpR (sti a f s h (m : Int)) (h + 1).toNat 0 (-1)
set_option maxRecDepth 100000 in
theorem lX10_stayI {E : mx_E} {S T S1 : Nat → Int → Int} {D : List mx_C} {lb : Option (List Int)} (hv : RV (S 14)) {s h : Int} (h_s : 0 ≤ s ∧ s ≤ 255) (h_h : 0 ≤ h ∧ h ≤ 255) (hF1 : Fr [21, 22, 23, 24, 35] S S1) (hN1 : ∀ n, 1 ≤ n ∧ n ≤ 8 → S1 22 n = cbt (S 14) n lb + 1) (h71 : S1 21 7 ≤ S 21 7 + 1) {F : (Int → Int) → Int} {mn : Int} (h_mn : 0 ≤ mn ∧ mn ≤ 16) : ∀ (j : Nat) (k : Int) (S2 : Nat → Int → Int), k + j = h + 1 → 0 ≤ k → Fr [25, 26, 27] S1 S2 → FGo S2 → ((¬ lpR (sti (S1 22) (S 14) s h mn) j k (-1) = -1 → lpR (sti (S1 22) (S 14) s h mn) j k (-1) = F (S1 22)) ∧ (lpR (sti (S1 22) (S 14) s h mn) j k (-1) = -1 → ∀ S3, Fr [25, 26, 27] S1 S3 → FGo S3 → Ev E yX10_stay cX10_stay 6 (some .int) (kI E 88 (MQ0 S T D lb F)) 0 0 111 [.ref 0, .int (jI s), .int (jI h), .int (jI (bsh (S 14 0) - 1)), .int (jI mn), .int (jI (h + 1))] [] (W5 S3 T D))) → Ev E yX10_stay cX10_stay 6 (some .int) (kI E 88 (MQ0 S T D lb F)) 0 0 48 [.ref 0, .int (jI s), .int (jI h), .int (jI (bsh (S 14 0) - 1)), .int (jI mn), .int (jI k)] [] (W5 S2 T D) := by
  intro j
  induction j with
  | zero =>
    intro k S2 hkj hk hF2 hG2 hr
    have hk2 : k = h + 1 := by omega
    subst hk2
    refine L_i5 dX10_stay_48 ?_
    refine L_i2 dX10_stay_50 ?_
    refine J_icmp_gt 111 dX10_stay_51 rfl (by omega) (by omega) (fun c51 => ?_) (fun c51 => ?_)
    · exact hr.2 rfl S2 hF2 hG2
    · exfalso; omega
  | succ j ih =>
    intro k S2 hkj hk hF2 hG2 hr
    have e14 : S2 14 = S 14 := (hF2 14 (by decide)).trans (hF1 14 (by decide))
    have e22 : S2 22 = S1 22 := hF2 22 (by decide)
    have hb1 := bdf_nn k h
    have hb2 := bdf_le k h hk
    have hpb := pc_B k
    have hpl := rw_places_B hv k
    have hal : 0 ≤ bsh (S 14 0) - 1 ∧ bsh (S 14 0) - 1 < 65536 := by
      have h1 := all_lt (n := S 14 0) hv.2.1.2
      have h2 := all_nat (n := S 14 0) (by have := hv.2.1.1; omega)
      omega
    have hc1 := bdf_nn s k
    have hc2 := bdf_le s k h_s.1
    have hd1 := bdf_nn (bsh (S 14 0) - 1) (rw_places (S 14) k)
    have hd2 := bdf_le (bsh (S 14 0) - 1) (rw_places (S 14) k) hal.1
    have hfB := fb_B (S1 22) (bdf s k).toNat (bdf (bsh (S 14 0) - 1) (rw_places (S 14) k)).toNat
    refine L_i5 dX10_stay_48 ?_
    refine L_i2 dX10_stay_50 ?_
    refine J_icmp_gt 111 dX10_stay_51 rfl (by omega) (by omega) (fun c51 => ?_) (fun c51 => ?_)
    · exfalso; omega
    · refine L_i5 dX10_stay_54 ?_
      refine L_i2 dX10_stay_56 ?_
      refine J_iconst dX10_stay_57 ?_
      refine J_inot dX10_stay_58 ?_
      refine J_iandD dX10_stay_59 (by omega) (by omega) ?_
      refine J_if_ne 105 dX10_stay_60 rfl (by omega) (fun c60 => ?_) (fun c60 => ?_)
      · refine JI_5 dX10_stay_105 (by decide) rfl ?_
        refine E_goto 48 dX10_stay_108 rfl ?_
        rw [lpR_no (show sti (S1 22) (S 14) s h mn k = none from if_neg (fun hh => c60 hh.1))] at hr
        exact ih (k + 1) S2 (by omega) (by omega) hF2 hG2 hr
      · refine L_i5 dX10_stay_63 ?_
        refine C_s1F vX10_290 dX10_stay_65 (sJ_bitCount (by omega)) (Nat.le_of_ble_eq_true rfl) (by decide) ?_
        refine L_i4 dX10_stay_68 ?_
        refine J_icmp_ne 105 dX10_stay_70 rfl (by omega) (by omega) (fun c70 => ?_) (fun c70 => ?_)
        · refine JI_5 dX10_stay_105 (by decide) rfl ?_
          refine E_goto 48 dX10_stay_108 rfl ?_
          rw [lpR_no (show sti (S1 22) (S 14) s h mn k = none from if_neg (fun hh => c70 hh.2.1))] at hr
          exact ih (k + 1) S2 (by omega) (by omega) hF2 hG2 hr
        · refine L_a0 dX10_stay_73 ?_
          refine GW_0_7 fX10_56 dX10_stay_74 ?_
          refine L_i1 dX10_stay_77 ?_
          refine L_i5 dX10_stay_78 ?_
          refine J_iconst dX10_stay_80 ?_
          refine J_inot dX10_stay_81 ?_
          refine J_iandD dX10_stay_82 (by omega) (by omega) ?_
          refine L_i3 dX10_stay_83 ?_
          refine L_a0 dX10_stay_84 ?_
          refine GW_0_3 fX10_32 dX10_stay_85 ?_
          refine L_i5 dX10_stay_88 ?_
          refine C_v1F vX10_307 dX10_stay_90 (qX4_placesOf (by rw [e14]; exact hv) (by omega)) rfl rfl (Nat.le_of_ble_eq_true rfl) (by decide) ?_
          refine J_eqi (b := rw_places (S 14) k) (by rw [e14]) ?_
          refine J_iconst dX10_stay_93 ?_
          refine J_inot dX10_stay_94 ?_
          refine J_iandD dX10_stay_95 (by omega) (by omega) ?_
          refine J_eqi (b := (((bdf (bsh (S 14 0) - 1) (rw_places (S 14) k)).toNat : Nat) : Int)) (by omega) ?_
          refine C_v2I vX10_293 dX10_stay_96 (qX0_fitsZ (s := (bdf s k).toNat) hG2 e22 (by omega) (by omega) (by omega)) rfl rfl (Nat.le_of_ble_eq_true rfl) (by decide) (fun v96 hp96 hq96 => ?_)
          obtain ⟨rfl, S3, rfl, hG3, hF3⟩ := hq96
          refine J_if_eq 105 dX10_stay_99 rfl (by omega) (fun c99 => ?_) (fun c99 => ?_)
          · refine JI_5 dX10_stay_105 (by decide) rfl ?_
            refine E_goto 48 dX10_stay_108 rfl ?_
            rw [lpR_no (show sti (S1 22) (S 14) s h mn k = none from if_neg (fun hh => hh.2.2 (fb_0.mp c99)))] at hr
            exact ih (k + 1) S3 (by omega) (by omega) (hF2.trans (Fr67 hF3)) hG3 hr
          · refine L_i5 dX10_stay_102 ?_
            exact RQ_i rfl dX10_stay_104 (by rw [lpR_so (show sti (S1 22) (S 14) s h mn k = some k from if_pos ⟨c60, c70, fun hh => c99 (fb_0.mpr hh)⟩)] at hr; exact MQ0.ye hF1 hN1 h71 hG3 (hF2.trans (Fr67 hF3)) (hr.1 (by omega)))
set_option maxRecDepth 100000 in
theorem lX10_stay {E : mx_E} {S T S1 : Nat → Int → Int} {D : List mx_C} {lb : Option (List Int)} (hv : RV (S 14)) {s h : Int} (h_s : 0 ≤ s ∧ s ≤ 255) (h_h : 0 ≤ h ∧ h ≤ 255) (hF1 : Fr [21, 22, 23, 24, 35] S S1) (hN1 : ∀ n, 1 ≤ n ∧ n ≤ 8 → S1 22 n = cbt (S 14) n lb + 1) (h71 : S1 21 7 ≤ S 21 7 + 1) {F : (Int → Int) → Int} : ∀ (j : Nat) (mn : Int) (S2 : Nat → Int → Int) (u : Value), u.category = 1 → mn + 1 = (j : Int) → mn ≤ 16 → Fr [25, 26, 27] S1 S2 → FGo S2 → sto (S1 22) (S 14) s h j = F (S1 22) → Ev E yX10_stay cX10_stay 6 (some .int) (kI E 88 (MQ0 S T D lb F)) 0 0 40 [.ref 0, .int (jI s), .int (jI h), .int (jI (bsh (S 14 0) - 1)), .int (jI mn), u] [] (W5 S2 T D) := by
  intro j
  induction j with
  | zero =>
    intro mn S2 u hu hmn h16 hF2 hG2 hr
    refine L_i4 dX10_stay_40 ?_
    refine J_if_lt 117 dX10_stay_42 rfl (by omega) (fun c42 => ?_) (fun c42 => ?_)
    · refine J_iconst dX10_stay_117 ?_
      exact RQ_i rfl dX10_stay_118 (MQ0.ye hF1 hN1 h71 hG2 hF2 hr)
    · exfalso; omega
  | succ j ih =>
    intro mn S2 u hu hmn h16 hF2 hG2 hr
    have hmn2 : (j : Int) = mn := by omega
    rw [sto, hmn2] at hr
    refine L_i4 dX10_stay_40 ?_
    refine J_if_lt 117 dX10_stay_42 rfl (by omega) (fun c42 => ?_) (fun c42 => ?_)
    · exfalso; omega
    · refine J_iconst dX10_stay_45 ?_
      refine S_i5 dX10_stay_46 (by decide) rfl ?_
      refine lX10_stayI hv h_s h_h hF1 hN1 h71 (by omega) (h + 1).toNat 0 S2 (by omega) (by omega) hF2 hG2 ⟨fun hz => by rw [if_neg hz] at hr; exact hr, fun hz S3 hF3 hG3 => ?_⟩
      refine JI_4 dX10_stay_111 (by decide) rfl ?_
      refine E_goto 40 dX10_stay_114 rfl ?_
      rw [if_pos hz] at hr
      exact ih (mn + -1) S3 _ rfl (by omega) (by omega) hF3 hG3 hr
set_option maxRecDepth 100000 in
theorem qX10_stay {S T : Nat → Int → Int} {D : List mx_C} (hv : RV (S 14)) (hl : RLn (S 14)) {lb lt : Option (List Int)} (hr : CR1 S D lb lt) (hJ : FJ S) (h7 : S 21 7 ≤ 99999) {s : Int} (h_s : -2147483648 ≤ s ∧ s < 2147483648) : SpI yX10_stay cX10_stay 6 (some .int) 88 [.ref 0, .int (jI s)] (W5 S T D) (MQ0 S T D lb (fun a => if 0 ≤ s ∧ s ≤ 255 then sto a (S 14) s (ban s (S 14 3)) (pc (ban s (S 14 3)) + 1).toNat else -1)) := by
  refine Sp.of [.ref 0, .int (jI s), .retAddr 0, .retAddr 0, .retAddr 0, .retAddr 0] (by decide) (by simp) (Nat.le_of_ble_eq_true rfl) rfl (fun E => ?_)
  refine L_i1 dX10_stay_0 ?_
  refine C_s1F vX10_287 dX10_stay_1 (qX10_isSet h_s) (Nat.le_of_ble_eq_true rfl) (by decide) ?_
  refine J_ifneB 9 dX10_stay_4 rfl (fun c4 => ?_) (fun c4 => ?_)
  · have h3 := hv.2.2.2.2.1
    have hb1 := ban_nn s (S 14 3)
    have hb2 := ban_le' s (S 14 3) (by omega)
    have hpb := pc_B (ban s (S 14 3))
    have h0 := hv.2.1
    refine L_a0 dX10_stay_9 ?_
    refine C_v0U vX10_260 dX10_stay_10 (qX10_measure hv hl hr hJ h7) rfl rfl (Nat.le_of_ble_eq_true rfl) (by decide) (fun hp10 hq10 => ?_)
    obtain ⟨S1, rfl, hG1, hF1, hN1, h71⟩ := hq10
    refine L_i1 dX10_stay_13 ?_
    refine L_a0 dX10_stay_14 ?_
    refine GW_0_3 fX10_32 dX10_stay_15 ?_
    refine C_v0F vX10_206 dX10_stay_18 (qX4_standing) rfl rfl (Nat.le_of_ble_eq_true rfl) (by decide) ?_
    refine J_eqi (b := S 14 3) (by rw [hF1 14 (by decide)]) ?_
    refine J_iandG dX10_stay_21 (by omega) (by omega) ?_
    refine S_i2 dX10_stay_22 (by decide) rfl ?_
    refine L_a0 dX10_stay_23 ?_
    refine GW_0_3 fX10_32 dX10_stay_24 ?_
    refine C_v0F vX10_103 dX10_stay_27 (qX4_places) rfl rfl (Nat.le_of_ble_eq_true rfl) (by decide) ?_
    refine J_eqi (b := S 14 0) (by rw [hF1 14 (by decide)]) ?_
    refine C_s1F vX10_263 dX10_stay_30 (sX10_allOf (by omega)) (Nat.le_of_ble_eq_true rfl) (by decide) ?_
    refine S_i3 dX10_stay_33 (by decide) rfl ?_
    refine L_i2 dX10_stay_34 ?_
    refine C_s1F vX10_290 dX10_stay_35 (sJ_bitCount (by omega)) (Nat.le_of_ble_eq_true rfl) (by decide) ?_
    refine S_i4 dX10_stay_38 (by decide) rfl ?_
    refine lX10_stay hv (by omega) (by omega) hF1 hN1 h71 (pc (ban s (S 14 3)) + 1).toNat _ S1 _ rfl (by omega) (by omega) (Fr.refl _ _) hG1 ?_
    rw [if_pos (by omega)]
  · refine J_iconst dX10_stay_7 ?_
    exact RQ_i rfl dX10_stay_8 (MQ0.no hJ (fun a => (if_neg (by omega)).symm))
def lpr (f : Nat → Nat) : List Nat → Nat
  | [] => 1
  | x :: l => f x * lpr f l
theorem lpr_append (f : Nat → Nat) : ∀ l r : List Nat, lpr f (l ++ r) = lpr f l * lpr f r := by
  intro l r
  induction l with
  | nil => rw [List.nil_append, lpr, Nat.one_mul]
  | cons x l ih => rw [List.cons_append, lpr, lpr, ih, Nat.mul_assoc]
theorem pls_cnt {d pl fr : Nat} (hfr : fr < 2 ^ pl) (hpl : pl ≤ 16) : lsm (fun m => if sbs m fr = true then 1 else 0) (pls d) ≤ pl - d := by
  rw [pls, lsm_map]
  have e : 16 = (pl - d) + (16 - (pl - d)) := by omega
  rw [e, List.range_add, lsm_append, lsm_map]
  have z : lsm (fun x => if sbs (pm d (pl - d + x)) fr = true then 1 else 0) (List.range (16 - (pl - d))) = 0 := by
    refine lsm_zero (fun x _ => if_neg (fun hh => ?_))
    have h1 := (sbs_pm.mp hh).2
    rw [Nat.testBit_lt_two_pow (Nat.lt_of_lt_of_le hfr (Nat.pow_le_pow_right (by decide) (by omega)))] at h1
    cases h1
  rw [z, Nat.add_zero]
  refine Nat.le_trans (lsm_le (g := fun _ => 1) (fun x _ => by split <;> omega)) ?_
  rw [lsm_len, List.length_range, Nat.mul_one]
  exact Nat.le_refl _
theorem wg_lpr {a : Nat → Nat} {pl : Nat} (hpl : pl ≤ 16) : ∀ (l : List Nat) (fr : Nat), fr < 2 ^ pl → wg (l.map (fun k => pls (a k))) fr ≤ lpr (fun k => pl - a k) l := by
  intro l
  induction l with
  | nil => intro fr _; exact Nat.le_refl _
  | cons x l ih =>
    intro fr hfr
    rw [List.map_cons, wg_cons, lpr]
    have h1 : ∀ m, m ∈ pls (a x) → (if sbs m fr = true then wg (l.map (fun k => pls (a k))) (nd fr m) else 0) ≤ lpr (fun k => pl - a k) l * (if sbs m fr = true then 1 else 0) := by
      intro m _
      by_cases h : sbs m fr = true
      · rw [if_pos h, if_pos h, Nat.mul_one]; exact ih _ (nd_lt hfr)
      · rw [if_neg h]; exact Nat.zero_le _
    refine Nat.le_trans (lsm_le h1) ?_
    rw [lsm_mul, Nat.mul_comm]
    exact Nat.mul_le_mul_right _ (pls_cnt hfr hpl)
theorem lpr_pos {f : Nat → Nat} : ∀ {l : List Nat}, lpr f l ≠ 0 → ∀ x, x ∈ l → f x ≠ 0 := by
  intro l
  induction l with
  | nil => intro _ x hx; cases hx
  | cons z l ih =>
    intro h x hx
    rw [lpr] at h
    rcases List.mem_cons.mp hx with rfl | hx
    · exact fun e => h (by rw [e, Nat.zero_mul])
    · exact ih (fun e => h (by rw [e, Nat.mul_zero])) x hx
theorem lpr_le {f : Nat → Nat} {c : Nat} (hc : ∀ x, f x ≤ c) : ∀ l : List Nat, lpr f l ≤ c ^ l.length := by
  intro l
  induction l with
  | nil => exact Nat.le_refl _
  | cons x l ih =>
    rw [lpr, List.length_cons, Nat.pow_succ, Nat.mul_comm]
    exact Nat.mul_le_mul ih (hc x)
/-- in how many ways first places are chosen -/
def prd (a : Nat → Nat) (s pl : Nat) : Nat := lpr (fun k => pl - a k) (mem s)
theorem chg_prd {a : Int → Int} {s pl : Nat} (h : ∀ k, k ∈ mem s → fa a k ≤ pl) (ha : ∀ n, 1 ≤ n ∧ n ≤ 8 → 0 ≤ a n) : ∀ m : Nat, m ≤ 8 → ∀ acc : Int, lpF (chg a s (pl : Int)) m 1 acc = acc * ((lpr (fun k => pl - fa a k) (memN s m) : Nat) : Int) := by
  have snoc : ∀ (m : Nat) (k : Int) (acc : Int), lpF (chg a s (pl : Int)) (m + 1) k acc = chg a s (pl : Int) (k + m) (lpF (chg a s (pl : Int)) m k acc) := by
    intro m
    induction m with
    | zero => intro k acc; show chg a s (pl : Int) k acc = chg a s (pl : Int) (k + 0) acc; rw [Int.add_zero]
    | succ m ih =>
      intro k acc
      rw [lpF, ih, ← lpF, show k + 1 + (m : Int) = k + ((m + 1 : Nat) : Int) from by omega]
  intro m
  induction m with
  | zero => intro _ acc; show acc = acc * 1; rw [Int.mul_one]
  | succ m ih =>
    intro hm acc
    rw [snoc, ih (by omega), memN, lpr_append]
    unfold chg
    rw [show (1 + (m : Int) - 1).toNat = m from by omega]
    by_cases hb : s.testBit m = true
    · rw [if_pos hb, if_pos hb, lpr, lpr, Nat.mul_one, Int.natCast_mul, Int.mul_assoc]
      have h1 := h m ((memN_mem 8 m).mpr ⟨by omega, hb⟩)
      have h2 := ha (1 + (m : Int)) (by omega)
      have e : (pl : Int) - a (1 + (m : Int)) = ((pl - fa a m : Nat) : Int) := by
        unfold fa at h1 ⊢
        rw [show (m : Int) + 1 = 1 + (m : Int) from by omega] at h1 ⊢
        omega
      rw [e]
    · rw [if_neg hb, if_neg hb, lpr, Nat.mul_one]
theorem chg_ok {S : Nat → Int → Int} {a : Int → Int} (hG : FGo S) (ha : S 22 = a) {s pl : Nat} (hpl : pl ≤ 16) (h : cn (fa a) s (2 ^ pl - 1) ≠ 0) : lpF (chg a s (pl : Int)) 8 1 1 = ((prd (fa a) s pl : Nat) : Int) ∧ cn (fa a) s (2 ^ pl - 1) ≤ prd (fa a) s pl ∧ prd (fa a) s pl ≤ 4294967296 := by
  have h1 : cn (fa a) s (2 ^ pl - 1) ≤ prd (fa a) s pl := wg_lpr hpl (mem s) _ (by have : 0 < 2 ^ pl := Nat.two_pow_pos pl; omega)
  have h2 : prd (fa a) s pl ≠ 0 := by omega
  have h3 := lpr_pos h2
  have h4 := chg_prd (a := a) (s := s) (pl := pl) (fun k hk => by have := h3 k hk; omega) (fun n hn => by have := (hG.a n hn).1; rw [ha] at this; exact this) 8 (by omega) 1
  rw [Int.one_mul] at h4
  refine ⟨h4, h1, ?_⟩
  have h5 := lpr_le (f := fun k => pl - fa a k) (c := 16) (fun x => by show pl - fa a x ≤ 16; omega) (mem s)
  exact Nat.le_trans h5 (Nat.le_trans (Nat.pow_le_pow_right (by decide) (memN_len s 8)) (by decide))
/-- the odds -/
def lkv (a : Int → Int) (s : Nat) (low : Int) : Int := if cn (fa a) s (2 ^ (2 * (mem s).length) - 1) = 0 then (if low = 0 then 0 else 1) else (if low = 0 then ((cn (fa a) s (2 ^ (2 * (mem s).length) - 1) : Nat) : Int) else ((prd (fa a) s (2 * (mem s).length) : Nat) : Int)) / (Nat.gcd (prd (fa a) s (2 * (mem s).length)) (cn (fa a) s (2 ^ (2 * (mem s).length) - 1)) : Int)
set_option maxRecDepth 100000 in
theorem qX10_likely {S T : Nat → Int → Int} {D : List mx_C} (hv : RV (S 14)) (hl : RLn (S 14)) {lb lt : Option (List Int)} (hr : CR1 S D lb lt) (hJ : FJ S) (h7 : S 21 7 ≤ 99999) {s : Int} (h_s : -2147483648 ≤ s ∧ s < 2147483648) {q : Int} (h_q : q = 0 ∨ q = 1) : SpL yX10_likely cX10_likely 10 (some .long) 54 [.ref 0, .int (jI s), .int (jI q)] (W5 S T D) (MQ0 S T D lb (fun a => if 0 ≤ s ∧ s ≤ 255 then lkv a s.toNat q else -1)) := by
  refine Sp.of [.ref 0, .int (jI s), .int (jI q), .retAddr 0, .retAddr 0, .retAddr 0, .retAddr 0, .retAddr 0, .retAddr 0, .retAddr 0] (by decide) (by simp) (Nat.le_of_ble_eq_true rfl) rfl (fun E => ?_)
  refine L_i1 dX10_likely_0 ?_
  refine C_s1F vX10_287 dX10_likely_1 (qX10_isSet h_s) (Nat.le_of_ble_eq_true rfl) (by decide) ?_
  refine J_ifneB 11 dX10_likely_4 rfl (fun c4 => ?_) (fun c4 => ?_)
  · obtain ⟨sn, hsn⟩ : ∃ n : Nat, s = (n : Int) := ⟨s.toNat, by omega⟩
    subst hsn
    have hs8 : sn < 256 := by omega
    have hml := pcn_mem hs8
    have hm8 : (mem sn).length ≤ 8 := memN_len sn 8
    have epc : pc (sn : Int) = (((mem sn).length : Nat) : Int) := by rw [← hml]; rfl
    have hfr : 2 ^ (2 * (mem sn).length) - 1 < 65536 := by have : 2 ^ (2 * (mem sn).length) ≤ 2 ^ 16 := Nat.pow_le_pow_right (by decide) (by omega); omega
    refine L_a0 dX10_likely_11 ?_
    refine C_v0U vX10_260 dX10_likely_12 (qX10_measure hv hl hr hJ h7) rfl rfl (Nat.le_of_ble_eq_true rfl) (by decide) (fun hp12 hq12 => ?_)
    obtain ⟨S1, rfl, hG1, hF1, hN1, h71⟩ := hq12
    refine J_iconst dX10_likely_15 ?_
    refine L_i1 dX10_likely_16 ?_
    refine C_s1F vX10_290 dX10_likely_17 (sJ_bitCount (by omega)) (Nat.le_of_ble_eq_true rfl) (by decide) ?_
    refine J_imul dX10_likely_20 ?_
    refine J_eqi (b := ((2 * (mem sn).length : Nat) : Int)) (by omega) ?_
    refine S_i3 dX10_likely_21 (by decide) rfl ?_
    refine L_a0 dX10_likely_22 ?_
    refine GW_0_7 fX10_56 dX10_likely_23 ?_
    refine L_i1 dX10_likely_26 ?_
    refine L_i3 dX10_likely_27 ?_
    refine C_s1F vX10_263 dX10_likely_28 (sX10_allOf (by omega)) (Nat.le_of_ble_eq_true rfl) (by decide) ?_
    refine J_eqi (b := ((2 ^ (2 * (mem sn).length) - 1 : Nat) : Int)) (by rw [all_nat (by omega), Int.toNat_natCast]) ?_
    refine C_v2I vX10_266 dX10_likely_31 (qX0_count hG1 rfl hs8 hfr) rfl rfl (Nat.le_of_ble_eq_true rfl) (by decide) (fun v31 hp31 hq31 => ?_)
    obtain ⟨rfl, S2, rfl, hG2, hF2⟩ := hq31
    have hcB := cn_B (hG1.oA rfl) (s := sn) hfr
    refine J_i2l dX10_likely_34 (by omega) ?_
    refine S_l4 dX10_likely_35 (by decide) rfl ?_
    refine L_l4 dX10_likely_37 ?_
    refine J_lconst 0 dX10_likely_39 (by decide) ?_
    refine JL_ne 54 dX10_likely_40 dX10_likely_41 rfl (by omega) (by omega) (fun c41 => ?_) (fun c41 => ?_)
    · have hco := chg_ok hG1 rfl (s := sn) (pl := 2 * (mem sn).length) (by omega) (by omega)
      have hgp : 0 < Nat.gcd (prd (fa (S1 22)) sn (2 * (mem sn).length)) (cn (fa (S1 22)) sn (2 ^ (2 * (mem sn).length) - 1)) := Nat.gcd_pos_of_pos_right _ (by omega)
      have hgl : Nat.gcd (prd (fa (S1 22)) sn (2 * (mem sn).length)) (cn (fa (S1 22)) sn (2 ^ (2 * (mem sn).length) - 1)) ≤ (cn (fa (S1 22)) sn (2 ^ (2 * (mem sn).length) - 1)) := Nat.gcd_le_right _ (by omega)
      refine L_a0 dX10_likely_54 ?_
      refine GW_0_7 fX10_56 dX10_likely_55 ?_
      refine L_i1 dX10_likely_58 ?_
      refine L_i3 dX10_likely_59 ?_
      refine C_v2F vX10_310 dX10_likely_60 (qX0_choices (a := S1 22) (pl := ((2 * (mem sn).length : Nat) : Int)) hG2.a (hF2 22 (by decide)) hs8 (by omega)) rfl rfl (Nat.le_of_ble_eq_true rfl) (by decide) ?_
      refine J_eql (b := (((prd (fa (S1 22)) sn (2 * (mem sn).length)) : Nat) : Int)) hco.1 ?_
      refine S_l6 dX10_likely_63 (by decide) rfl ?_
      refine L_l6 dX10_likely_65 ?_
      refine L_l4 dX10_likely_67 ?_
      refine C_s2F vX10_314 dX10_likely_69 (qX10_commonDivisor (p := (prd (fa (S1 22)) sn (2 * (mem sn).length))) (q := (cn (fa (S1 22)) sn (2 ^ (2 * (mem sn).length) - 1))) (by omega) hco.2.1) (Nat.le_of_ble_eq_true rfl) (by decide) ?_
      refine S_l8 dX10_likely_72 (by decide) rfl ?_
      refine L_l8 dX10_likely_74 ?_
      refine J_lconst 0 dX10_likely_76 (by decide) ?_
      refine JL_ne 87 dX10_likely_77 dX10_likely_78 rfl (by omega) (by omega) (fun c78 => ?_) (fun c78 => ?_)
      · refine L_i2 dX10_likely_87 ?_
        refine J_if_eq 96 dX10_likely_88 rfl (by omega) (fun c88 => ?_) (fun c88 => ?_)
        · refine L_l4 dX10_likely_96 ?_
          refine L_l8 dX10_likely_98 ?_
          refine J_ldivN dX10_likely_100 (by omega) (by omega) ?_
          exact RQ_l rfl dX10_likely_101 (MQ0.ye hF1 hN1 h71 hG2 (Fr67 hF2) (by rw [if_pos (by omega), Int.toNat_natCast]; unfold lkv; rw [if_neg (by omega)]; first | (rw [if_pos (by omega)]; done) | (rw [if_neg (by omega)]; done)))
        · refine L_l6 dX10_likely_91 ?_
          refine E_goto 98 dX10_likely_93 rfl ?_
          refine L_l8 dX10_likely_98 ?_
          refine J_ldivN dX10_likely_100 (by omega) (by omega) ?_
          exact RQ_l rfl dX10_likely_101 (MQ0.ye hF1 hN1 h71 hG2 (Fr67 hF2) (by rw [if_pos (by omega), Int.toNat_natCast]; unfold lkv; rw [if_neg (by omega)]; first | (rw [if_pos (by omega)]; done) | (rw [if_neg (by omega)]; done)))
      · exfalso; omega
    · refine L_i2 dX10_likely_44 ?_
      refine J_if_eq 52 dX10_likely_45 rfl (by omega) (fun c45 => ?_) (fun c45 => ?_)
      · refine J_lconst 0 dX10_likely_52 (by decide) ?_
        exact RQ_l rfl dX10_likely_53 (MQ0.ye hF1 hN1 h71 hG2 (Fr67 hF2) (by rw [if_pos (by omega), Int.toNat_natCast]; unfold lkv; rw [if_pos (by omega)]; first | (rw [if_pos (by omega)]; done) | (rw [if_neg (by omega)]; done)))
      · refine J_lconst 1 dX10_likely_48 (by decide) ?_
        refine E_goto 53 dX10_likely_49 rfl ?_
        exact RQ_l rfl dX10_likely_53 (MQ0.ye hF1 hN1 h71 hG2 (Fr67 hF2) (by rw [if_pos (by omega), Int.toNat_natCast]; unfold lkv; rw [if_pos (by omega)]; first | (rw [if_pos (by omega)]; done) | (rw [if_neg (by omega)]; done)))
  · refine J_ldc2 (-1) dX10_likely_7 kX10_258 (by decide) ?_
    exact RQ_l rfl dX10_likely_10 (MQ0.no hJ (fun a => (if_neg (by omega)).symm))
