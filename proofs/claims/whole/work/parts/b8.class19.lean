/-! ===== the class: whether all find place ===== -/
theorem FGo.oA {S : Nat → Int → Int} {a : Int → Int} (hG : FGo S) (ha : S 22 = a) : ∀ k, k < 8 → 1 ≤ fa a k := by have := hG.o; rw [ha] at this; exact this
def fb (a : Int → Int) (s fr : Nat) : Int := if cn (fa a) s fr = 0 then 0 else 1
theorem fb_B (a : Int → Int) (s fr : Nat) : fb a s fr = 0 ∨ fb a s fr = 1 := by unfold fb; split <;> omega
theorem fb_0 {a : Int → Int} {s fr : Nat} : fb a s fr = 0 ↔ cn (fa a) s fr = 0 := by unfold fb; split <;> simp_all
def fwv (a : Int → Int) (s fr : Nat) (n p : Int) : Int := if cbn (fa a) s fr (n - 1).toNat p.toNat = 0 then 0 else 1
theorem fwv_B (a : Int → Int) (s fr : Nat) (n p : Int) : fwv a s fr n p = 0 ∨ fwv a s fr n p = 1 := by unfold fwv; split <;> omega
theorem fwv_0 {a : Int → Int} {s fr : Nat} {n p : Int} : fwv a s fr n p = 0 ↔ cbn (fa a) s fr (n - 1).toNat p.toNat = 0 := by unfold fwv; split <;> simp_all
def FIT (d m : Nat) : Prop := ∀ (S T : Nat → Int → Int) (D : List mx_C) (a : Int → Int), FGo S → S 22 = a → ∀ (s fr : Nat), s < 256 → fr < 65536 → pcn 16 fr ≤ m → SpI yX0_fits cX0_fits 8 (some .boolean) d [.ref 21, .int (jI (s : Int)), .int (jI (fr : Int))] (W5 S T D) (CQo S T D (fb a s fr))
set_option maxRecDepth 100000 in
theorem qX0_countWith {S T : Nat → Int → Int} {D : List mx_C} {a : Int → Int} (hG : FGo S) (ha : S 22 = a) {s fr : Nat} (h_s : s < 256) (h_fr : fr < 65536) {n : Int} (h_n : 1 ≤ n ∧ n ≤ 8) {p : Int} (h_p : -2147483648 ≤ p ∧ p < 2147483648) : SpI yX0_countWith cX0_countWith 5 (some .int) 54 [.ref 21, .int (jI (s : Int)), .int (jI (fr : Int)), .int (jI n), .int (jI p)] (W5 S T D) (CQo S T D (if 0 ≤ p ∧ p < 16 then ((cbn (fa a) s fr (n - 1).toNat p.toNat : Nat) : Int) else 0)) := by
  have hA := hG.a n h_n
  rw [ha] at hA
  refine Sp.of [.ref 21, .int (jI (s : Int)), .int (jI (fr : Int)), .int (jI n), .int (jI p)] (by decide) (by simp) (Nat.le_of_ble_eq_true rfl) rfl (fun E => ?_)
  refine L_i3 dX0_countWith_0 ?_
  refine C_s1F vX0_39 dX0_countWith_1 (sX10_isNumber (by omega)) (Nat.le_of_ble_eq_true rfl) (by decide) ?_
  refine J_ifeqB 30 dX0_countWith_4 rfl (fun c4 => ?_) (fun c4 => ?_)
  · exfalso; exact c4 h_n
  · refine L_i4 dX0_countWith_7 ?_
    refine J_if_lt 30 dX0_countWith_9 rfl (by omega) (fun c9 => ?_) (fun c9 => ?_)
    · refine J_iconst dX0_countWith_30 ?_
      exact RQ_i rfl dX0_countWith_31 ⟨(by first | (rw [if_neg (by omega)]; done) | (rw [if_pos (by omega), show cbn (fa a) s fr (n - 1).toNat p.toNat = 0 from if_neg (fun hh => c27 (by rw [ha]; exact (fsf_bit h_n.1 (by omega)).mpr hh))]; rfl)), S, rfl, hG, Fr.refl _ _⟩
    · refine L_i4 dX0_countWith_12 ?_
      refine J_bipush dX0_countWith_14 (by decide) ?_
      refine J_icmp_ge 30 dX0_countWith_16 rfl (by omega) (by omega) (fun c16 => ?_) (fun c16 => ?_)
      · refine J_iconst dX0_countWith_30 ?_
        exact RQ_i rfl dX0_countWith_31 ⟨(by first | (rw [if_neg (by omega)]; done) | (rw [if_pos (by omega), show cbn (fa a) s fr (n - 1).toNat p.toNat = 0 from if_neg (fun hh => c27 (by rw [ha]; exact (fsf_bit h_n.1 (by omega)).mpr hh))]; rfl)), S, rfl, hG, Fr.refl _ _⟩
      · refine L_a0 dX0_countWith_19 ?_
        refine L_i3 dX0_countWith_20 ?_
        refine L_i2 dX0_countWith_21 ?_
        refine L_i4 dX0_countWith_22 ?_
        refine C_v3F vX0_98 dX0_countWith_24 (qX0_isFirst hG.a h_n (by omega) (by omega)) rfl rfl (Nat.le_of_ble_eq_true rfl) (by decide) ?_
        refine J_ifneB 32 dX0_countWith_27 rfl (fun c27 => ?_) (fun c27 => ?_)
        · have h_p : 0 ≤ p ∧ p ≤ 15 := by omega
          refine L_a0 dX0_countWith_32 ?_
          refine L_i1 dX0_countWith_33 ?_
          refine L_i3 dX0_countWith_34 ?_
          refine C_s1F vX0_43 dX0_countWith_35 (sX10_bitOf (by omega)) (Nat.le_of_ble_eq_true rfl) (by decide) ?_
          refine J_iconst dX0_countWith_38 ?_
          refine J_inot dX0_countWith_39 ?_
          refine J_iandD dX0_countWith_40 (by omega) (bsh_nn _) ?_
          refine J_eqi (b := ((nd s (2 ^ (n - 1).toNat) : Nat) : Int)) rfl ?_
          refine L_i2 dX0_countWith_41 ?_
          refine L_a0 dX0_countWith_42 ?_
          refine L_i3 dX0_countWith_43 ?_
          refine L_i4 dX0_countWith_44 ?_
          refine C_v2F vX0_92 dX0_countWith_46 (qX0_pairOf hG.a h_n (by omega)) rfl rfl (Nat.le_of_ble_eq_true rfl) (by decide) ?_
          refine J_eqi (b := ((pm (fa a (n - 1).toNat) p.toNat : Nat) : Int)) (by rw [ha]; exact fpr_pm h_n.1 h_p.1 hA.1) ?_
          refine J_iconst dX0_countWith_49 ?_
          refine J_inot dX0_countWith_50 ?_
          refine J_iandD dX0_countWith_51 (by omega) (by omega) ?_
          refine J_eqi (b := ((nd fr (pm (fa a (n - 1).toNat) p.toNat) : Nat) : Int)) rfl ?_
          refine C_v2I vX0_95 dX0_countWith_52 (qX0_count hG ha (nd_lt h_s) (nd_lt h_fr)) rfl rfl (Nat.le_of_ble_eq_true rfl) (by decide) (fun v52 hp52 hq52 => ?_)
          obtain ⟨rfl, S52, rfl, hG52, hF52⟩ := hq52
          exact RQ_i rfl dX0_countWith_55 ⟨by rw [if_pos (by omega), show cbn (fa a) s fr (n - 1).toNat p.toNat = _ from if_pos (by rw [ha] at c27; exact (fsf_bit h_n.1 (by omega)).mp c27)], S52, rfl, hG52, hF52⟩
        · refine J_iconst dX0_countWith_30 ?_
          exact RQ_i rfl dX0_countWith_31 ⟨(by first | (rw [if_neg (by omega)]; done) | (rw [if_pos (by omega), show cbn (fa a) s fr (n - 1).toNat p.toNat = 0 from if_neg (fun hh => c27 (by rw [ha]; exact (fsf_bit h_n.1 (by omega)).mpr hh))]; rfl)), S, rfl, hG, Fr.refl _ _⟩
set_option maxRecDepth 100000 in
theorem qX0_fitsWith {d m : Nat} (hC : FIT d m) {S T : Nat → Int → Int} {D : List mx_C} {a : Int → Int} (hG : FGo S) (ha : S 22 = a) {s fr : Nat} (h_s : s < 256) (h_fr : fr < 65536) (hm : pcn 16 fr ≤ m + 2) {n : Int} (h_n : 1 ≤ n ∧ n ≤ 8) {p : Int} (h_p : 0 ≤ p ∧ p ≤ 15) : SpI yX0_fitsWith cX0_fitsWith 5 (some .boolean) (d + 2) [.ref 21, .int (jI (s : Int)), .int (jI (fr : Int)), .int (jI n), .int (jI p)] (W5 S T D) (CQo S T D (fwv a s fr n p)) := by
  have hA := hG.a n h_n
  rw [ha] at hA
  refine Sp.of [.ref 21, .int (jI (s : Int)), .int (jI (fr : Int)), .int (jI n), .int (jI p)] (by decide) (by simp) (Nat.le_of_ble_eq_true rfl) rfl (fun E => ?_)
  refine L_a0 dX0_fitsWith_0 ?_
  refine L_i3 dX0_fitsWith_1 ?_
  refine L_i2 dX0_fitsWith_2 ?_
  refine L_i4 dX0_fitsWith_3 ?_
  refine C_v3F vX0_98 dX0_fitsWith_5 (qX0_isFirst hG.a h_n (by omega) (by omega)) rfl rfl (Nat.le_of_ble_eq_true rfl) (by omega) ?_
  refine J_ifeqB 41 dX0_fitsWith_8 rfl (fun c8 => ?_) (fun c8 => ?_)
  · refine J_iconst dX0_fitsWith_41 ?_
    exact RQ_z rfl dX0_fitsWith_42 (by decide) (by first | exact ⟨((show fwv a s fr n p = 0 from fwv_0.mpr (if_neg (fun hh => c8 (by rw [ha]; exact (fsf_bit h_n.1 h_p.1).mpr hh)))).symm), S, rfl, hG, Fr.refl _ _⟩ | exact ⟨((show fwv a s fr n p = 0 from fwv_0.mpr (ecb.trans (fb_0.mp c34))).symm), S31, rfl, hG31, hF31⟩ | exact ⟨((show fwv a s fr n p = 1 from if_neg (fun hh => c34 (fb_0.mpr (ecb.symm.trans hh)))).symm), S31, rfl, hG31, hF31⟩)
  · rw [ha] at c8
    have hsb := (fsf_bit h_n.1 h_p.1).mp c8
    have ecb : cbn (fa a) s fr (n - 1).toNat p.toNat = cn (fa a) (nd s (2 ^ (n - 1).toNat)) (nd fr (pm (fa a (n - 1).toNat) p.toNat)) := if_pos hsb
    refine L_a0 dX0_fitsWith_11 ?_
    refine L_i1 dX0_fitsWith_12 ?_
    refine L_i3 dX0_fitsWith_13 ?_
    refine C_s1F vX0_43 dX0_fitsWith_14 (sX10_bitOf (by omega)) (Nat.le_of_ble_eq_true rfl) (by omega) ?_
    refine J_iconst dX0_fitsWith_17 ?_
    refine J_inot dX0_fitsWith_18 ?_
    refine J_iandD dX0_fitsWith_19 (by omega) (bsh_nn _) ?_
    refine J_eqi (b := ((nd s (2 ^ (n - 1).toNat) : Nat) : Int)) rfl ?_
    refine L_i2 dX0_fitsWith_20 ?_
    refine L_a0 dX0_fitsWith_21 ?_
    refine L_i3 dX0_fitsWith_22 ?_
    refine L_i4 dX0_fitsWith_23 ?_
    refine C_v2F vX0_92 dX0_fitsWith_25 (qX0_pairOf hG.a h_n (by omega)) rfl rfl (Nat.le_of_ble_eq_true rfl) (by omega) ?_
    refine J_eqi (b := ((pm (fa a (n - 1).toNat) p.toNat : Nat) : Int)) (by rw [ha]; exact fpr_pm h_n.1 h_p.1 hA.1) ?_
    refine J_iconst dX0_fitsWith_28 ?_
    refine J_inot dX0_fitsWith_29 ?_
    refine J_iandD dX0_fitsWith_30 (by omega) (by omega) ?_
    refine J_eqi (b := ((nd fr (pm (fa a (n - 1).toNat) p.toNat) : Nat) : Int)) rfl ?_
    refine C_v2I vX0_125 dX0_fitsWith_31 (hC S T D a hG ha _ _ (nd_lt h_s) (nd_lt h_fr) (by have := pcn_pm (hG.oA ha _ (by omega)) h_fr hsb; omega)) rfl rfl (Nat.le_of_ble_eq_true rfl) (by omega) (fun v31 hp31 hq31 => ?_)
    obtain ⟨rfl, S31, rfl, hG31, hF31⟩ := hq31
    have hb31 := fb_B a (nd s (2 ^ (n - 1).toNat)) (nd fr (pm (fa a (n - 1).toNat) p.toNat))
    refine J_if_eq 41 dX0_fitsWith_34 rfl (by omega) (fun c34 => ?_) (fun c34 => ?_)
    · refine J_iconst dX0_fitsWith_41 ?_
      exact RQ_z rfl dX0_fitsWith_42 (by decide) (by first | exact ⟨((show fwv a s fr n p = 0 from fwv_0.mpr (if_neg (fun hh => c8 (by rw [ha]; exact (fsf_bit h_n.1 h_p.1).mpr hh)))).symm), S, rfl, hG, Fr.refl _ _⟩ | exact ⟨((show fwv a s fr n p = 0 from fwv_0.mpr (ecb.trans (fb_0.mp c34))).symm), S31, rfl, hG31, hF31⟩ | exact ⟨((show fwv a s fr n p = 1 from if_neg (fun hh => c34 (fb_0.mpr (ecb.symm.trans hh)))).symm), S31, rfl, hG31, hF31⟩)
    · refine J_iconst dX0_fitsWith_37 ?_
      refine E_goto 42 dX0_fitsWith_38 rfl ?_
      exact RQ_z rfl dX0_fitsWith_42 (by decide) (by first | exact ⟨((show fwv a s fr n p = 0 from fwv_0.mpr (if_neg (fun hh => c8 (by rw [ha]; exact (fsf_bit h_n.1 h_p.1).mpr hh)))).symm), S, rfl, hG, Fr.refl _ _⟩ | exact ⟨((show fwv a s fr n p = 0 from fwv_0.mpr (ecb.trans (fb_0.mp c34))).symm), S31, rfl, hG31, hF31⟩ | exact ⟨((show fwv a s fr n p = 1 from if_neg (fun hh => c34 (fb_0.mpr (ecb.symm.trans hh)))).symm), S31, rfl, hG31, hF31⟩)
theorem lpR_no {α : Type} {g : Int → Option α} {m : Nat} {k : Int} {x : α} (h : g k = none) : lpR g (m + 1) k x = lpR g m (k + 1) x := by rw [lpR, h]
theorem lpR_so {α : Type} {g : Int → Option α} {m : Nat} {k : Int} {x r : α} (h : g k = some r) : lpR g (m + 1) k x = r := by rw [lpR, h]
def lfo (a : Int → Int) (s fr : Nat) (n : Int) : Int := lpR (fun p => if fwv a s fr n p = 0 then none else some p) 16 0 (-1)
theorem lfo_R (a : Int → Int) (s fr : Nat) (n : Int) : ∀ (m : Nat) (k : Int), 0 ≤ k → (lpR (fun p => if fwv a s fr n p = 0 then none else some p) m k (-1) = -1 ∧ ∀ p, k ≤ p ∧ p < k + m → fwv a s fr n p = 0) ∨ ((k ≤ lpR (fun p => if fwv a s fr n p = 0 then none else some p) m k (-1) ∧ lpR (fun p => if fwv a s fr n p = 0 then none else some p) m k (-1) < k + m) ∧ ¬ fwv a s fr n (lpR (fun p => if fwv a s fr n p = 0 then none else some p) m k (-1)) = 0 ∧ ∀ p, k ≤ p ∧ p < lpR (fun p => if fwv a s fr n p = 0 then none else some p) m k (-1) → fwv a s fr n p = 0) := by
  intro m
  induction m with
  | zero => intro k _; exact Or.inl ⟨rfl, fun p hp => by omega⟩
  | succ m ih =>
    intro k hk
    by_cases h : fwv a s fr n k = 0
    · rw [lpR_no (if_pos h)]
      rcases ih (k + 1) (by omega) with ⟨h1, h2⟩ | ⟨h1, h2, h3⟩
      · refine Or.inl ⟨h1, fun p hp => ?_⟩
        by_cases e : p = k
        · rw [e]; exact h
        · exact h2 p (by omega)
      · refine Or.inr ⟨by omega, h2, fun p hp => ?_⟩
        by_cases e : p = k
        · rw [e]; exact h
        · exact h3 p ⟨by omega, hp.2⟩
    · rw [lpR_so (if_neg h)]
      exact Or.inr ⟨by omega, h, fun p hp => by omega⟩
theorem lfo_B (a : Int → Int) (s fr : Nat) (n : Int) : -1 ≤ lfo a s fr n ∧ lfo a s fr n ≤ 15 := by
  rcases lfo_R a s fr n 16 0 (by omega) with h | h
  · unfold lfo; omega
  · unfold lfo; omega
theorem lfo_0 {a : Int → Int} {s fr : Nat} {n : Int} (hn : 1 ≤ n ∧ n ≤ 8) (hs : s.testBit (n - 1).toNat = true) : lfo a s fr n = -1 ↔ cn (fa a) s fr = 0 := by
  have e : cn (fa a) s fr = lsm (cbn (fa a) s fr (n - 1).toNat) (List.range 16) := cn_num (by omega) hs fr
  rcases lfo_R a s fr n 16 0 (by omega) with ⟨h1, h2⟩ | ⟨h1, h2, _⟩
  · refine ⟨fun _ => ?_, fun _ => h1⟩
    rw [e]
    refine lsm_zero (fun p hp => ?_)
    have hp := List.mem_range.mp hp
    have := fwv_0.mp (h2 (p : Int) (by omega))
    rwa [Int.toNat_natCast] at this
  · refine ⟨fun h => by unfold lfo at h; omega, fun h => ?_⟩
    rw [e] at h
    have h3 := lsm_mem (f := cbn (fa a) s fr (n - 1).toNat) (List.mem_range.mpr (show (lfo a s fr n).toNat < 16 by unfold lfo; omega))
    exact absurd (fwv_0.mpr (show cbn (fa a) s fr (n - 1).toNat (lfo a s fr n).toNat = 0 by omega)) h2
set_option maxRecDepth 100000 in
theorem lX0_lowestFirstOf {E : mx_E} {d m : Nat} (hC : FIT d m) {S T : Nat → Int → Int} {D : List mx_C} {a : Int → Int} (hG : FGo S) (ha : S 22 = a) {s fr : Nat} (h_s : s < 256) (h_fr : fr < 65536) (hm : pcn 16 fr ≤ m + 2) {n : Int} (h_n : 1 ≤ n ∧ n ≤ 8) {r : Int} : ∀ (j : Nat) (k : Int) (S1 : Nat → Int → Int), k + j = 16 → 0 ≤ k → Fr [25, 26] S S1 → FGo S1 → lpR (fun p => if fwv a s fr n p = 0 then none else some p) j k (-1) = r → Ev E yX0_lowestFirstOf cX0_lowestFirstOf 5 (some .int) (kI E (d + 3) (CQo S T D r)) 0 0 3 [.ref 21, .int (jI (s : Int)), .int (jI (fr : Int)), .int (jI n), .int (jI k)] [] (W5 S1 T D) := by
  intro j
  induction j with
  | zero =>
    intro k S1 hkj hk hF hG1 hr
    refine L_i4 dX0_lowestFirstOf_3 ?_
    refine J_bipush dX0_lowestFirstOf_5 (by decide) ?_
    refine J_icmp_ge 31 dX0_lowestFirstOf_7 rfl (by omega) (by omega) (fun c7 => ?_) (fun c7 => ?_)
    · refine J_iconst dX0_lowestFirstOf_31 ?_
      exact RQ_i rfl dX0_lowestFirstOf_32 ⟨hr, S1, rfl, hG1, hF⟩
    · exfalso; omega
  | succ j ih =>
    intro k S1 hkj hk hF hG1 hr
    have e22 : S1 22 = a := (hF 22 (by decide)).trans ha
    have hfb := fwv_B a s fr n k
    rw [lpR] at hr
    refine L_i4 dX0_lowestFirstOf_3 ?_
    refine J_bipush dX0_lowestFirstOf_5 (by decide) ?_
    refine J_icmp_ge 31 dX0_lowestFirstOf_7 rfl (by omega) (by omega) (fun c7 => ?_) (fun c7 => ?_)
    · exfalso; omega
    · refine L_a0 dX0_lowestFirstOf_10 ?_
      refine L_i1 dX0_lowestFirstOf_11 ?_
      refine L_i2 dX0_lowestFirstOf_12 ?_
      refine L_i3 dX0_lowestFirstOf_13 ?_
      refine L_i4 dX0_lowestFirstOf_14 ?_
      refine C_v4I vX0_121 dX0_lowestFirstOf_16 (qX0_fitsWith hC hG1 e22 h_s h_fr hm h_n (by omega)) rfl rfl (Nat.le_of_ble_eq_true rfl) (by omega) (fun v16 hp16 hq16 => ?_)
      obtain ⟨rfl, S2, rfl, hG2, hF2⟩ := hq16
      refine J_if_eq 25 dX0_lowestFirstOf_19 rfl (by omega) (fun c19 => ?_) (fun c19 => ?_)
      · refine JI_4 dX0_lowestFirstOf_25 (by decide) rfl ?_
        refine E_goto 3 dX0_lowestFirstOf_28 rfl ?_
        rw [if_pos c19] at hr
        exact ih (k + 1) S2 (by omega) (by omega) (hF.trans hF2) hG2 hr
      · refine L_i4 dX0_lowestFirstOf_22 ?_
        exact RQ_i rfl dX0_lowestFirstOf_24 ⟨by rw [if_neg c19] at hr; exact hr, S2, rfl, hG2, hF.trans hF2⟩
set_option maxRecDepth 100000 in
theorem qX0_lowestFirstOf {d m : Nat} (hC : FIT d m) {S T : Nat → Int → Int} {D : List mx_C} {a : Int → Int} (hG : FGo S) (ha : S 22 = a) {s fr : Nat} (h_s : s < 256) (h_fr : fr < 65536) (hm : pcn 16 fr ≤ m + 2) {n : Int} (h_n : 1 ≤ n ∧ n ≤ 8) : SpI yX0_lowestFirstOf cX0_lowestFirstOf 5 (some .int) (d + 3) [.ref 21, .int (jI (s : Int)), .int (jI (fr : Int)), .int (jI n)] (W5 S T D) (CQo S T D (lfo a s fr n)) := by
  refine Sp.of [.ref 21, .int (jI (s : Int)), .int (jI (fr : Int)), .int (jI n), .retAddr 0] (by decide) (by simp) (Nat.le_of_ble_eq_true rfl) rfl (fun E => ?_)
  refine J_iconst dX0_lowestFirstOf_0 ?_
  refine S_i4 dX0_lowestFirstOf_1 (by decide) rfl ?_
  exact lX0_lowestFirstOf hC hG ha h_s h_fr hm h_n 16 0 S (by omega) (by omega) (Fr.refl _ _) hG rfl
theorem alN_pos {a : Nat → Nat} {s k : Nat} (h : k ∈ mem s) : 0 < alN a s k := by
  unfold alN
  exact List.length_pos_iff.mpr (List.ne_nil_of_mem (List.mem_filter.mpr ⟨h, beq_iff_eq.mpr rfl⟩))
theorem cbp_eq {a : Nat → Nat} {s fr p k : Nat} : cbp a s fr p k = if spkS a s k = true then alN a s k * cbn a s fr k p else 0 := rfl
set_option maxRecDepth 100000 in
theorem lX0_fitsByPlace {E : mx_E} {d m : Nat} (hC : FIT d m) {S T : Nat → Int → Int} {D : List mx_C} {a : Int → Int} (hG : FGo S) (ha : S 22 = a) {s fr : Nat} (h_s : s < 256) (h_fr : fr < 65536) (hm : pcn 16 fr ≤ m + 1) {p : Nat} (h_p : p < 16) (hpb : fr.testBit p = true) (hcn : cn (fa a) s fr = cn (fa a) s (nd fr (2 ^ p)) + lsm (cbp (fa a) s fr p) (List.range 8)) : ∀ (j : Nat) (k : Int) (S1 : Nat → Int → Int), k + j = 9 → 1 ≤ k → Fr [25, 26] S S1 → FGo S1 → lsm (cbp (fa a) s fr p) (List.range (k - 1).toNat) = 0 → Ev E yX0_fitsByPlace cX0_fitsByPlace 5 (some .boolean) (kI E (d + 3) (CQo S T D (fb a s fr))) 0 0 8 [.ref 21, .int (jI (s : Int)), .int (jI (fr : Int)), .int (jI (p : Int)), .int (jI k)] [] (W5 S1 T D) := by
  intro j
  induction j with
  | zero =>
    intro k S1 hkj hk hF hG1 hx
    have e22 : S1 22 = a := (hF 22 (by decide)).trans ha
    have hk9 : k = 9 := by omega
    subst hk9
    have hfe : fb a s (nd fr (2 ^ p)) = fb a s fr := by have hx8 : lsm (cbp (fa a) s fr p) (List.range 8) = 0 := hx; unfold fb; rw [hcn, hx8]; rfl
    have hb54 := fb_B a s (nd fr (2 ^ p))
    refine L_i4 dX0_fitsByPlace_8 ?_
    refine J_bipush dX0_fitsByPlace_10 (by decide) ?_
    refine J_icmp_gt 45 dX0_fitsByPlace_12 rfl (by omega) (by omega) (fun c12 => ?_) (fun c12 => ?_)
    · refine L_a0 dX0_fitsByPlace_45 ?_
      refine L_i1 dX0_fitsByPlace_46 ?_
      refine L_i2 dX0_fitsByPlace_47 ?_
      refine J_iconst dX0_fitsByPlace_48 ?_
      refine L_i3 dX0_fitsByPlace_49 ?_
      refine J_1shl dX0_fitsByPlace_50 (by omega) ?_
      refine J_iconst dX0_fitsByPlace_51 ?_
      refine J_inot dX0_fitsByPlace_52 ?_
      refine J_iandD dX0_fitsByPlace_53 (by omega) (bsh_nn _) ?_
      refine J_eqi (b := ((nd fr (2 ^ p) : Nat) : Int)) (by unfold bdf bsh; rw [Int.toNat_natCast, Int.toNat_natCast, Int.toNat_natCast]) ?_
      refine C_v2I vX0_125 dX0_fitsByPlace_54 (hC S1 T D a hG1 e22 _ _ h_s (nd_lt h_fr) (by have := pcn_p h_fr hpb; omega)) rfl rfl (Nat.le_of_ble_eq_true rfl) (by omega) (fun v54 hp54 hq54 => ?_)
      obtain ⟨rfl, S54, rfl, hG54, hF54⟩ := hq54
      exact RQ_z rfl dX0_fitsByPlace_57 hb54 ⟨hfe, S54, rfl, hG54, hF.trans hF54⟩
    · exfalso; omega
  | succ j ih =>
    intro k S1 hkj hk hF hG1 hx
    have e22 : S1 22 = a := (hF 22 (by decide)).trans ha
    have hk8 : 1 ≤ k ∧ k ≤ 8 := by omega
    have hfb := fwv_B a s fr k (p : Int)
    have hnx := rs_next (cbp (fa a) s fr p) (k := k - 1) (by omega)
    rw [show k - 1 + 1 = k + 1 - 1 from by omega] at hnx
    refine L_i4 dX0_fitsByPlace_8 ?_
    refine J_bipush dX0_fitsByPlace_10 (by decide) ?_
    refine J_icmp_gt 45 dX0_fitsByPlace_12 rfl (by omega) (by omega) (fun c12 => ?_) (fun c12 => ?_)
    · exfalso; omega
    · refine L_a0 dX0_fitsByPlace_15 ?_
      refine L_i1 dX0_fitsByPlace_16 ?_
      refine L_i4 dX0_fitsByPlace_17 ?_
      refine C_v2F vX0_56 dX0_fitsByPlace_19 (qX0_speaks hG1.l (by omega) hk8) rfl rfl (Nat.le_of_ble_eq_true rfl) (by omega) ?_
      refine J_ifeqB 39 dX0_fitsByPlace_22 rfl (fun c22 => ?_) (fun c22 => ?_)
      · refine JI_4 dX0_fitsByPlace_39 (by decide) rfl ?_
        refine E_goto 8 dX0_fitsByPlace_42 rfl ?_
        exact ih (k + 1) S1 (by omega) (by omega) hF hG1 (by rw [hnx, hx, cbp_eq, if_neg (fun hh => c22 ((fsp_iffA hG1 e22 hk8).mpr hh))])
      · refine L_a0 dX0_fitsByPlace_25 ?_
        refine L_i1 dX0_fitsByPlace_26 ?_
        refine L_i2 dX0_fitsByPlace_27 ?_
        refine L_i4 dX0_fitsByPlace_28 ?_
        refine L_i3 dX0_fitsByPlace_30 ?_
        refine C_v4I vX0_121 dX0_fitsByPlace_31 (qX0_fitsWith hC hG1 e22 h_s h_fr (by omega) hk8 (by omega)) rfl rfl (Nat.le_of_ble_eq_true rfl) (by omega) (fun v31 hp31 hq31 => ?_)
        obtain ⟨rfl, S2, rfl, hG2, hF2⟩ := hq31
        refine J_if_eq 39 dX0_fitsByPlace_34 rfl (by omega) (fun c34 => ?_) (fun c34 => ?_)
        · refine JI_4 dX0_fitsByPlace_39 (by decide) rfl ?_
          refine E_goto 8 dX0_fitsByPlace_42 rfl ?_
          exact ih (k + 1) S2 (by omega) (by omega) (hF.trans hF2) hG2 (by rw [hnx, hx, cbp_eq, if_pos ((fsp_iffA hG1 e22 hk8).mp c22), show cbn (fa a) s fr (k - 1).toNat p = 0 from by have := fwv_0.mp c34; rwa [Int.toNat_natCast] at this]; rfl)
        · refine J_iconst dX0_fitsByPlace_37 ?_
          exact RQ_z rfl dX0_fitsByPlace_38 (by decide) ⟨by
      have hsp := (fsp_iffA hG1 e22 hk8).mp c22
      have h1 : cbn (fa a) s fr (k - 1).toNat p ≠ 0 := fun hh => c34 (fwv_0.mpr (by rw [Int.toNat_natCast]; exact hh))
      have h2 : cbp (fa a) s fr p (k - 1).toNat ≠ 0 := by
        rw [cbp_eq, if_pos hsp]
        exact Nat.mul_ne_zero (Nat.pos_iff_ne_zero.mp (alN_pos (spkS_mem (by omega) hsp))) h1
      have h3 := lsm_mem (f := cbp (fa a) s fr p) (List.mem_range.mpr (show (k - 1).toNat < 8 by omega))
      exact (if_neg (by omega)).symm, S2, rfl, hG2, hF.trans hF2⟩
set_option maxRecDepth 100000 in
theorem qX0_fitsByPlace {d m : Nat} (hC : FIT d m) {S T : Nat → Int → Int} {D : List mx_C} {a : Int → Int} (hG : FGo S) (ha : S 22 = a) {s fr : Nat} (h_s : s < 256) (h_fr : fr < 65536) (hm : pcn 16 fr ≤ m + 1) (h0 : fr ≠ 0) : SpI yX0_fitsByPlace cX0_fitsByPlace 5 (some .boolean) (d + 3) [.ref 21, .int (jI (s : Int)), .int (jI (fr : Int))] (W5 S T D) (CQo S T D (fb a s fr)) := by
  obtain ⟨p, h_p, hlow, hpb, hpl⟩ := low_ok h0 h_fr
  have hcn := cn_placeS (hG.oA ha) s h_fr hpb hpl
  refine Sp.of [.ref 21, .int (jI (s : Int)), .int (jI (fr : Int)), .retAddr 0, .retAddr 0] (by decide) (by simp) (Nat.le_of_ble_eq_true rfl) rfl (fun E => ?_)
  refine L_i2 dX0_fitsByPlace_0 ?_
  refine C_s1F vX0_51 dX0_fitsByPlace_1 (sJ_ntz (by omega)) (Nat.le_of_ble_eq_true rfl) (by omega) ?_
  refine J_eqi (b := (p : Int)) hlow ?_
  refine S_i3 dX0_fitsByPlace_4 (by decide) rfl ?_
  refine J_iconst dX0_fitsByPlace_5 ?_
  refine S_i4 dX0_fitsByPlace_6 (by decide) rfl ?_
  exact lX0_fitsByPlace hC hG ha h_s h_fr hm h_p hpb hcn 8 1 S (by omega) (by omega) (Fr.refl _ _) hG rfl
set_option maxRecDepth 100000 in
theorem qX0_fitsAnew {d m : Nat} (hC : FIT d m) {S T : Nat → Int → Int} {D : List mx_C} {a : Int → Int} (hG : FGo S) (ha : S 22 = a) {s fr : Nat} (h_s : s < 256) (h_fr : fr < 65536) (hm : pcn 16 fr ≤ m + 1) (h0 : s ≠ 0) : SpI yX0_fitsAnew cX0_fitsAnew 4 (some .boolean) (d + 4) [.ref 21, .int (jI (s : Int)), .int (jI (fr : Int))] (W5 S T D) (CQo S T D (fb a s fr)) := by
  have hsc := scarce_ok hG (mem_ne h_s h0) (fr : Int)
  generalize hr : (lpF (fsc (S 22) (S 24) (s : Int) (fr : Int)) 8 1 (0, 17)).1 = r at hsc
  rw [ha] at hsc
  have hr2 := (memN_mem 8 (r - 1).toNat).mp (spkS_mem (by omega) hsc.2)
  have hfb := fsf_B a r (fr := (fr : Int)) (by omega)
  have hlB := lfo_B a s fr r
  have hfB := fb_B a s fr
  refine Sp.of [.ref 21, .int (jI (s : Int)), .int (jI (fr : Int)), .retAddr 0] (by decide) (by simp) (Nat.le_of_ble_eq_true rfl) rfl (fun E => ?_)
  refine L_a0 dX0_fitsAnew_0 ?_
  refine L_i1 dX0_fitsAnew_1 ?_
  refine L_i2 dX0_fitsAnew_2 ?_
  refine C_v2F vX0_82 dX0_fitsAnew_3 (qX0_scarcest hG.a hG.l (by omega) (by omega)) rfl rfl (Nat.le_of_ble_eq_true rfl) (by omega) ?_
  refine J_eqi (b := r) hr ?_
  refine S_i3 dX0_fitsAnew_6 (by decide) rfl ?_
  refine L_i3 dX0_fitsAnew_7 ?_
  refine C_s1F vX0_39 dX0_fitsAnew_8 (sX10_isNumber (by omega)) (Nat.le_of_ble_eq_true rfl) (by omega) ?_
  refine J_ifneB 16 dX0_fitsAnew_11 rfl (fun c11 => ?_) (fun c11 => ?_)
  · refine L_a0 dX0_fitsAnew_16 ?_
    refine L_i3 dX0_fitsAnew_17 ?_
    refine L_i2 dX0_fitsAnew_18 ?_
    refine C_v2F vX0_47 dX0_fitsAnew_19 (qX0_firstsOf hG.a hsc.1 (by omega)) rfl rfl (Nat.le_of_ble_eq_true rfl) (by omega) ?_
    refine J_eqi (b := fsf a r (fr : Int)) (by rw [ha]) ?_
    refine C_s1F vX0_60 dX0_fitsAnew_22 (sJ_bitCount (by omega)) (Nat.le_of_ble_eq_true rfl) (by omega) ?_
    have hpb := pc_B (fsf a r (fr : Int))
    refine J_iconst dX0_fitsAnew_25 ?_
    refine J_icmp_gt 48 dX0_fitsAnew_26 rfl (by omega) (by omega) (fun c26 => ?_) (fun c26 => ?_)
    · refine L_a0 dX0_fitsAnew_48 ?_
      refine L_i1 dX0_fitsAnew_49 ?_
      refine L_i2 dX0_fitsAnew_50 ?_
      refine C_v2I vX0_118 dX0_fitsAnew_51 (qX0_fitsByPlace hC hG ha h_s h_fr (by omega) (fun e => by rw [show fsf a r ((fr : Nat) : Int) = 0 from by rw [e]; rw [e] at hfb; omega, pc_0] at c26; omega)) rfl rfl (Nat.le_of_ble_eq_true rfl) (by omega) (fun v51 hp51 hq51 => ?_)
      obtain ⟨rfl, S51, rfl, hG51, hF51⟩ := hq51
      exact RQ_z rfl dX0_fitsAnew_54 (by first | decide | exact hfB) (by first | exact ⟨rfl, S51, rfl, hG51, hF51⟩ | exact ⟨(fb_0.mpr ((lfo_0 hsc.1 hr2.2).mp c37)).symm, S33, rfl, hG33, hF33⟩ | exact ⟨(if_neg (fun hh => c37 ((lfo_0 hsc.1 hr2.2).mpr hh))).symm, S33, rfl, hG33, hF33⟩)
    · refine L_a0 dX0_fitsAnew_29 ?_
      refine L_i1 dX0_fitsAnew_30 ?_
      refine L_i2 dX0_fitsAnew_31 ?_
      refine L_i3 dX0_fitsAnew_32 ?_
      refine C_v3I vX0_115 dX0_fitsAnew_33 (qX0_lowestFirstOf hC hG ha h_s h_fr (by omega) hsc.1) rfl rfl (Nat.le_of_ble_eq_true rfl) (by omega) (fun v33 hp33 hq33 => ?_)
      obtain ⟨rfl, S33, rfl, hG33, hF33⟩ := hq33
      refine J_iconst dX0_fitsAnew_36 ?_
      refine J_icmp_eq 44 dX0_fitsAnew_37 rfl (by omega) (by omega) (fun c37 => ?_) (fun c37 => ?_)
      · refine J_iconst dX0_fitsAnew_44 ?_
        refine E_goto 54 dX0_fitsAnew_45 rfl ?_
        exact RQ_z rfl dX0_fitsAnew_54 (by first | decide | exact hfB) (by first | exact ⟨rfl, S51, rfl, hG51, hF51⟩ | exact ⟨(fb_0.mpr ((lfo_0 hsc.1 hr2.2).mp c37)).symm, S33, rfl, hG33, hF33⟩ | exact ⟨(if_neg (fun hh => c37 ((lfo_0 hsc.1 hr2.2).mpr hh))).symm, S33, rfl, hG33, hF33⟩)
      · refine J_iconst dX0_fitsAnew_40 ?_
        refine E_goto 54 dX0_fitsAnew_41 rfl ?_
        exact RQ_z rfl dX0_fitsAnew_54 (by first | decide | exact hfB) (by first | exact ⟨rfl, S51, rfl, hG51, hF51⟩ | exact ⟨(fb_0.mpr ((lfo_0 hsc.1 hr2.2).mp c37)).symm, S33, rfl, hG33, hF33⟩ | exact ⟨(if_neg (fun hh => c37 ((lfo_0 hsc.1 hr2.2).mpr hh))).symm, S33, rfl, hG33, hF33⟩)
  · exfalso; exact c11 hsc.1
theorem pc_zero {x : Int} (h : 0 ≤ x ∧ x < 65536) : pc x = 0 ↔ x = 0 := by
  constructor
  · intro hp
    rcases Nat.eq_zero_or_pos x.toNat with h1 | h1
    · omega
    · have := pcn_pos 16 x.toNat (by omega) h1
      unfold pc at hp
      omega
  · rintro rfl; exact pc_0
set_option maxRecDepth 100000 in
theorem qX0_fitsS {d m : Nat} (hC : m = 0 ∨ ∃ n, m = n + 1 ∧ FIT d n) (hd2 : 2 ≤ d) : FIT (d + 5) m := by
  intro S T D a hG ha s fr h_s h_fr hm
  have hpcB := pc_B (s : Int)
  have hpfB := pc_B (fr : Int)
  have epc : pc (s : Int) = ((pcn 16 s : Nat) : Int) := rfl
  have epf : pc (fr : Int) = ((pcn 16 fr : Nat) : Int) := rfl
  have hpm := pcn_mem h_s
  have hsl := slt_B (fky (S 21 7) 1 (s : Int) (fr : Int))
  have hkb := hG.kB hsl
  have hyb := fky_B hG.2.2.2 (q := 1) (s := (s : Int)) (fr := (fr : Int)) (by omega) (by omega) (by omega)
  have hfB := fb_B a s fr
  refine Sp.of [.ref 21, .int (jI (s : Int)), .int (jI (fr : Int)), .retAddr 0, .retAddr 0, .retAddr 0, .retAddr 0, .retAddr 0] (by decide) (by simp) (Nat.le_of_ble_eq_true rfl) rfl (fun E => ?_)
  refine L_i1 dX0_fits_0 ?_
  refine J_if_ne 6 dX0_fits_1 rfl (by omega) (fun c1 => ?_) (fun c1 => ?_)
  · refine L_i1 dX0_fits_6 ?_
    refine C_s1F vX0_60 dX0_fits_7 (sJ_bitCount (by omega)) (Nat.le_of_ble_eq_true rfl) (by omega) ?_
    refine S_i3 dX0_fits_10 (by decide) rfl ?_
    refine L_i3 dX0_fits_11 ?_
    refine J_iconst dX0_fits_12 ?_
    refine J_icmp_ne 38 dX0_fits_13 rfl (by omega) (by omega) (fun c13 => ?_) (fun c13 => ?_)
    · refine L_i2 dX0_fits_38 ?_
      refine C_s1F vX0_60 dX0_fits_39 (sJ_bitCount (by omega)) (Nat.le_of_ble_eq_true rfl) (by omega) ?_
      refine J_iconst dX0_fits_42 ?_
      refine L_i3 dX0_fits_43 ?_
      refine J_imul dX0_fits_44 ?_
      refine J_icmp_ge 50 dX0_fits_45 rfl (by omega) (by omega) (fun c45 => ?_) (fun c45 => ?_)
      · have hmpos : m ≠ 0 := fun e => by have := pcn_pos 16 s (by omega) (by omega); omega
        obtain ⟨m1, hm1, hC⟩ := hC.resolve_left hmpos
        refine L_a0 dX0_fits_50 ?_
        refine J_iconst dX0_fits_51 ?_
        refine L_i1 dX0_fits_52 ?_
        refine L_i2 dX0_fits_53 ?_
        refine C_v3F vX0_67 dX0_fits_54 (qX0_keyOf hG (by omega) h_s h_fr) rfl rfl (Nat.le_of_ble_eq_true rfl) (by omega) ?_
        refine S_l4 dX0_fits_57 (by decide) rfl ?_
        refine L_l4 dX0_fits_59 ?_
        refine C_s1F vX0_71 dX0_fits_61 qX0_slotOf (Nat.le_of_ble_eq_true rfl) (by omega) ?_
        refine S_i6 dX0_fits_64 (by decide) rfl ?_
        refine L_a0 dX0_fits_66 ?_
        refine GW_21_3 fX0_21 dX0_fits_67 ?_
        refine L_i6 dX0_fits_70 ?_
        refine AR_25 dX0_fits_72 (by omega) ?_
        refine L_l4 dX0_fits_73 ?_
        refine JL_ne 95 dX0_fits_75 dX0_fits_76 rfl (by omega) (by omega) (fun c76 => ?_) (fun c76 => ?_)
        · refine L_a0 dX0_fits_95 ?_
          refine L_i1 dX0_fits_96 ?_
          refine L_i2 dX0_fits_97 ?_
          refine C_v2I vX0_112 dX0_fits_98 (qX0_fitsAnew hC hG ha h_s h_fr (by omega) (by omega)) rfl rfl (Nat.le_of_ble_eq_true rfl) (by omega) (fun v98 hp98 hq98 => ?_)
          obtain ⟨rfl, S98, rfl, hG98, hF98⟩ := hq98
          refine S_i7 dX0_fits_101 (by decide) rfl ?_
          refine L_a0 dX0_fits_103 ?_
          refine L_i6 dX0_fits_104 ?_
          refine L_l4 dX0_fits_106 ?_
          refine L_i7 dX0_fits_108 ?_
          refine J_if_eq 117 dX0_fits_110 rfl (by omega) (fun c110 => ?_) (fun c110 => ?_)
          · refine J_iconst dX0_fits_117 ?_
            refine C_v3V vX0_78 dX0_fits_118 (qX0_remember hsl) rfl rfl (Nat.le_of_ble_eq_true rfl) (by omega) ?_
            refine L_i7 dX0_fits_121 ?_
            exact RQ_z rfl dX0_fits_123 (by first | decide | exact hfB) (by first | exact ⟨rfl, _, rfl, (by have h22 := (fr22 hF98); have hh := hG98.rem (sl := slt (fky (S 21 7) 1 (s : Int) (fr : Int))) (q := 1) (s := (s : Int)) (fr := (fr : Int)) (v := 0) (by omega) (by omega) (by omega) (by rw [h22.1, ha]; unfold fan; rw [if_neg (by decide), if_pos rfl, Int.toNat_natCast, Int.toNat_natCast]; exact (fb_0.mp c110).symm ▸ rfl); rw [h22.2.1] at hh; exact hh), hF98.trans (frm_Fr S98 _ _ _)⟩ | exact ⟨rfl, _, rfl, (by have h22 := (fr22 hF98); have hh := hG98.rem (sl := slt (fky (S 21 7) 1 (s : Int) (fr : Int))) (q := 1) (s := (s : Int)) (fr := (fr : Int)) (v := 1) (by omega) (by omega) (by omega) (by rw [h22.1, ha]; unfold fan; rw [if_neg (by decide), if_pos rfl, Int.toNat_natCast, Int.toNat_natCast]; exact (if_neg (fun hh => c110 (fb_0.mpr hh))).symm); rw [h22.2.1] at hh; exact hh), hF98.trans (frm_Fr S98 _ _ _)⟩)
          · refine J_iconst dX0_fits_113 ?_
            refine E_goto 118 dX0_fits_114 rfl ?_
            refine C_v3V vX0_78 dX0_fits_118 (qX0_remember hsl) rfl rfl (Nat.le_of_ble_eq_true rfl) (by omega) ?_
            refine L_i7 dX0_fits_121 ?_
            exact RQ_z rfl dX0_fits_123 (by first | decide | exact hfB) (by first | exact ⟨rfl, _, rfl, (by have h22 := (fr22 hF98); have hh := hG98.rem (sl := slt (fky (S 21 7) 1 (s : Int) (fr : Int))) (q := 1) (s := (s : Int)) (fr := (fr : Int)) (v := 0) (by omega) (by omega) (by omega) (by rw [h22.1, ha]; unfold fan; rw [if_neg (by decide), if_pos rfl, Int.toNat_natCast, Int.toNat_natCast]; exact (fb_0.mp c110).symm ▸ rfl); rw [h22.2.1] at hh; exact hh), hF98.trans (frm_Fr S98 _ _ _)⟩ | exact ⟨rfl, _, rfl, (by have h22 := (fr22 hF98); have hh := hG98.rem (sl := slt (fky (S 21 7) 1 (s : Int) (fr : Int))) (q := 1) (s := (s : Int)) (fr := (fr : Int)) (v := 1) (by omega) (by omega) (by omega) (by rw [h22.1, ha]; unfold fan; rw [if_neg (by decide), if_pos rfl, Int.toNat_natCast, Int.toNat_natCast]; exact (if_neg (fun hh => c110 (fb_0.mpr hh))).symm); rw [h22.2.1] at hh; exact hh), hF98.trans (frm_Fr S98 _ _ _)⟩)
        · have hit : S 26 (slt (fky (S 21 7) 1 (s : Int) (fr : Int))) = fb a s fr := by rw [hG.hit hsl (by omega) (by omega) (by omega) c76, ha]; unfold fan; rw [if_neg (by decide), if_pos rfl, Int.toNat_natCast, Int.toNat_natCast]; rfl
          refine L_a0 dX0_fits_79 ?_
          refine GW_21_4 fX0_25 dX0_fits_80 ?_
          refine L_i6 dX0_fits_83 ?_
          refine AR_26 dX0_fits_85 (by omega) ?_
          refine J_eqi (b := fb a s fr) hit ?_
          refine J_if_eq 93 dX0_fits_86 rfl (by omega) (fun c86 => ?_) (fun c86 => ?_)
          · refine J_iconst dX0_fits_93 ?_
            exact RQ_z rfl dX0_fits_94 (by first | decide | exact hfB) ⟨by omega, S, rfl, hG, Fr.refl _ _⟩
          · refine J_iconst dX0_fits_89 ?_
            refine E_goto 94 dX0_fits_90 rfl ?_
            exact RQ_z rfl dX0_fits_94 (by first | decide | exact hfB) ⟨by omega, S, rfl, hG, Fr.refl _ _⟩
      · refine J_iconst dX0_fits_48 ?_
        exact RQ_z rfl dX0_fits_49 (by first | decide | exact hfB) ⟨(fb_0.mpr (cn_few (hG.oA ha) h_fr (by omega))).symm, S, rfl, hG, Fr.refl _ _⟩
    · obtain ⟨k1, hk8, hlo, hone⟩ := cn_one (a := a) h_s h_fr (by omega)
      have hA1 := hG.a ((k1 : Int) + 1) (by omega)
      have hfb := fsf_B a ((k1 : Int) + 1) (fr := (fr : Int)) (by omega)
      have hpz := pc_zero (x := fsf a ((k1 : Int) + 1) (fr : Int)) (by omega)
      refine L_i2 dX0_fits_16 ?_
      refine L_i2 dX0_fits_17 ?_
      refine L_a0 dX0_fits_18 ?_
      refine GW_21_0 fX0_11 dX0_fits_19 ?_
      refine L_i1 dX0_fits_22 ?_
      refine C_s1F vX0_64 dX0_fits_23 (qX0_lowestOf (by omega)) (Nat.le_of_ble_eq_true rfl) (by omega) ?_
      refine J_eqi (b := (k1 : Int) + 1) (by rw [if_neg (by omega), hlo]) ?_
      refine AR_22 dX0_fits_26 (by omega) ?_
      refine J_iushrG dX0_fits_27 (by omega) (by omega) ?_
      refine J_iandG dX0_fits_28 (by omega) (ediv2_B (by omega) _).1 ?_
      refine J_eqi (b := fsf a ((k1 : Int) + 1) (fr : Int)) (by rw [ha]; rfl) ?_
      refine J_if_eq 36 dX0_fits_29 rfl (by omega) (fun c29 => ?_) (fun c29 => ?_)
      · refine J_iconst dX0_fits_36 ?_
        exact RQ_z rfl dX0_fits_37 (by first | decide | exact hfB) (by first | exact ⟨(fb_0.mpr (by have := hpz.mpr c29; omega)).symm, S, rfl, hG, Fr.refl _ _⟩ | exact ⟨(if_neg (fun hh => c29 (hpz.mp (by omega)))).symm, S, rfl, hG, Fr.refl _ _⟩)
      · refine J_iconst dX0_fits_32 ?_
        refine E_goto 37 dX0_fits_33 rfl ?_
        exact RQ_z rfl dX0_fits_37 (by first | decide | exact hfB) (by first | exact ⟨(fb_0.mpr (by have := hpz.mpr c29; omega)).symm, S, rfl, hG, Fr.refl _ _⟩ | exact ⟨(if_neg (fun hh => c29 (hpz.mp (by omega)))).symm, S, rfl, hG, Fr.refl _ _⟩)
  · refine J_iconst dX0_fits_4 ?_
    exact RQ_z rfl dX0_fits_5 (by first | decide | exact hfB) ⟨by rw [show s = 0 from by omega]; rfl, S, rfl, hG, Fr.refl _ _⟩
theorem FIT_all : ∀ m : Nat, FIT (5 * m + 7) m := by
  intro m
  induction m with
  | zero => exact qX0_fitsS (d := 2) (Or.inl rfl) (by omega)
  | succ m ih => exact qX0_fitsS (d := 5 * m + 7) (Or.inr ⟨m, rfl, ih⟩) (by omega)
theorem qX0_fits {S T : Nat → Int → Int} {D : List mx_C} {a : Int → Int} (hG : FGo S) (ha : S 22 = a) {s fr : Nat} (h_s : s < 256) (h_fr : fr < 65536) : SpI yX0_fits cX0_fits 8 (some .boolean) 87 [.ref 21, .int (jI (s : Int)), .int (jI (fr : Int))] (W5 S T D) (CQo S T D (fb a s fr)) := FIT_all 16 S T D a hG ha s fr h_s h_fr (pcn_le 16 fr)
