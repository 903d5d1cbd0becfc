/-! ===== the class: what is settled, the lowest way, the largest set ===== -/
theorem FIT16 : FIT 87 16 := FIT_all 16
theorem pc16 (fr : Nat) : pcn 16 fr ≤ 16 + 2 := Nat.le_trans (pcn_le 16 fr) (by decide)
/-- in how many first places one can stand -/
def stn (a : Int → Int) (s fr : Nat) (n : Int) (p : Nat) : Nat := if cbn (fa a) s fr (n - 1).toNat p = 0 then 0 else 1
theorem stn_fwv {a : Int → Int} {s fr : Nat} {n p : Int} : ((stn a s fr n p.toNat : Nat) : Int) = fwv a s fr n p := by unfold stn fwv; split <;> rfl
def istv (a : Int → Int) (s fr : Nat) (n : Int) : Int := if lsm (stn a s fr n) (List.range 16) = 1 then 1 else 0
theorem istv_p {a : Int → Int} {s fr : Nat} {n : Int} (h : lsm (stn a s fr n) (List.range 16) = 1) : 1 = istv a s fr n := (if_pos h).symm
theorem istv_n {a : Int → Int} {s fr : Nat} {n : Int} (h : ¬ lsm (stn a s fr n) (List.range 16) = 1) : 0 = istv a s fr n := (if_neg h).symm
theorem istv_B (a : Int → Int) (s fr : Nat) (n : Int) : istv a s fr n = 0 ∨ istv a s fr n = 1 := by
  by_cases h : lsm (stn a s fr n) (List.range 16) = 1
  · exact Or.inr (istv_p h).symm
  · exact Or.inl (istv_n h).symm
theorem lsm_split (f : Nat → Nat) {k n : Nat} (h : k ≤ n) : lsm f (List.range k) ≤ lsm f (List.range n) := by
  have e : n = k + (n - k) := by omega
  rw [e, List.range_add, lsm_append]
  exact Nat.le_add_right _ _
set_option maxRecDepth 100000 in
theorem lX0_isSettled {E : mx_E} {S T : Nat → Int → Int} {D : List mx_C} {a : Int → Int} (hG : FGo S) (ha : S 22 = a) {s fr : Nat} (h_s : s < 256) (h_fr : fr < 65536) {n : Int} (h_n : 1 ≤ n ∧ n ≤ 8) : ∀ (j : Nat) (k x : Int) (S1 : Nat → Int → Int), k + j = 16 → 0 ≤ k → Fr [25, 26] S S1 → FGo S1 → x = ((lsm (stn a s fr n) (List.range k.toNat) : Nat) : Int) → x ≤ 2 → Ev E yX0_isSettled cX0_isSettled 6 (some .boolean) (kI E 90 (CQo S T D (istv a s fr n))) 0 0 6 [.ref 21, .int (jI (s : Int)), .int (jI (fr : Int)), .int (jI n), .int (jI x), .int (jI k)] [] (W5 S1 T D) := by
  intro j
  induction j with
  | zero =>
    intro k x S1 hkj hk hF hG1 hx hx2
    have hk16 : k = 16 := by omega
    subst hk16
    have hx : x = ((lsm (stn a s fr n) (List.range 16) : Nat) : Int) := hx
    refine L_i5 dX0_isSettled_6 ?_
    refine J_bipush dX0_isSettled_8 (by decide) ?_
    refine J_icmp_ge 40 dX0_isSettled_10 rfl (by omega) (by omega) (fun c10 => ?_) (fun c10 => ?_)
    · refine L_i4 dX0_isSettled_40 ?_
      refine J_iconst dX0_isSettled_42 ?_
      refine J_icmp_ne 50 dX0_isSettled_43 rfl (by omega) (by omega) (fun c43 => ?_) (fun c43 => ?_)
      · refine J_iconst dX0_isSettled_50 ?_
        exact RQ_z rfl dX0_isSettled_51 (by decide) ⟨(by first | exact istv_p (by omega) | exact istv_n (by omega)), S1, rfl, hG1, hF⟩
      · refine J_iconst dX0_isSettled_46 ?_
        refine E_goto 51 dX0_isSettled_47 rfl ?_
        exact RQ_z rfl dX0_isSettled_51 (by decide) ⟨(by first | exact istv_p (by omega) | exact istv_n (by omega)), S1, rfl, hG1, hF⟩
    · exfalso; omega
  | succ j ih =>
    intro k x S1 hkj hk hF hG1 hx hx2
    have e22 : S1 22 = a := (hF 22 (by decide)).trans ha
    have hfb := fwv_B a s fr n k
    have hst := stn_fwv (a := a) (s := s) (fr := fr) (n := n) (p := k)
    have hle := lsm_split (stn a s fr n) (show k.toNat ≤ 16 by omega)
    have hnx := rs_next (stn a s fr n) hk
    refine L_i5 dX0_isSettled_6 ?_
    refine J_bipush dX0_isSettled_8 (by decide) ?_
    refine J_icmp_ge 40 dX0_isSettled_10 rfl (by omega) (by omega) (fun c10 => ?_) (fun c10 => ?_)
    · exfalso; omega
    · refine L_i4 dX0_isSettled_13 ?_
      refine J_iconst dX0_isSettled_15 ?_
      refine J_icmp_ge 40 dX0_isSettled_16 rfl (by omega) (by omega) (fun c16 => ?_) (fun c16 => ?_)
      · refine L_i4 dX0_isSettled_40 ?_
        refine J_iconst dX0_isSettled_42 ?_
        refine J_icmp_ne 50 dX0_isSettled_43 rfl (by omega) (by omega) (fun c43 => ?_) (fun c43 => ?_)
        · refine J_iconst dX0_isSettled_50 ?_
          exact RQ_z rfl dX0_isSettled_51 (by decide) ⟨(by first | exact istv_p (by omega) | exact istv_n (by omega)), S1, rfl, hG1, hF⟩
        · refine J_iconst dX0_isSettled_46 ?_
          refine E_goto 51 dX0_isSettled_47 rfl ?_
          exact RQ_z rfl dX0_isSettled_51 (by decide) ⟨(by first | exact istv_p (by omega) | exact istv_n (by omega)), S1, rfl, hG1, hF⟩
      · refine L_a0 dX0_isSettled_19 ?_
        refine L_i1 dX0_isSettled_20 ?_
        refine L_i2 dX0_isSettled_21 ?_
        refine L_i3 dX0_isSettled_22 ?_
        refine L_i5 dX0_isSettled_23 ?_
        refine C_v4I vX0_121 dX0_isSettled_25 (qX0_fitsWith FIT16 hG1 e22 h_s h_fr (pc16 fr) h_n (by omega)) rfl rfl (Nat.le_of_ble_eq_true rfl) (by omega) (fun v25 hp25 hq25 => ?_)
        obtain ⟨rfl, S2, rfl, hG2, hF2⟩ := hq25
        refine J_if_eq 34 dX0_isSettled_28 rfl (by omega) (fun c28 => ?_) (fun c28 => ?_)
        · refine JI_5 dX0_isSettled_34 (by decide) rfl ?_
          refine E_goto 6 dX0_isSettled_37 rfl ?_
          exact ih (k + 1) x S2 (by omega) (by omega) (hF.trans hF2) hG2 (by rw [hnx]; omega) hx2
        · refine JI_4 dX0_isSettled_31 (by decide) rfl ?_
          refine JI_5 dX0_isSettled_34 (by decide) rfl ?_
          refine E_goto 6 dX0_isSettled_37 rfl ?_
          exact ih (k + 1) (x + 1) S2 (by omega) (by omega) (hF.trans hF2) hG2 (by rw [hnx]; omega) (by omega)
set_option maxRecDepth 100000 in
theorem qX0_isSettled {S T : Nat → Int → Int} {D : List mx_C} {a : Int → Int} (hG : FGo S) (ha : S 22 = a) {s fr : Nat} (h_s : s < 256) (h_fr : fr < 65536) {n : Int} (h_n : 1 ≤ n ∧ n ≤ 8) : SpI yX0_isSettled cX0_isSettled 6 (some .boolean) 90 [.ref 21, .int (jI (s : Int)), .int (jI (fr : Int)), .int (jI n)] (W5 S T D) (CQo S T D (istv a s fr n)) := by
  refine Sp.of [.ref 21, .int (jI (s : Int)), .int (jI (fr : Int)), .int (jI n), .retAddr 0, .retAddr 0] (by decide) (by simp) (Nat.le_of_ble_eq_true rfl) rfl (fun E => ?_)
  refine J_iconst dX0_isSettled_0 ?_
  refine S_i4 dX0_isSettled_1 (by decide) rfl ?_
  refine J_iconst dX0_isSettled_3 ?_
  refine S_i5 dX0_isSettled_4 (by decide) rfl ?_
  exact lX0_isSettled hG ha h_s h_fr h_n 16 0 0 S (by omega) (by omega) (Fr.refl _ _) hG rfl (by omega)
def stg (a : Int → Int) (s fr : Nat) (n acc : Int) : Int := if s.testBit (n - 1).toNat = true ∧ istv a s fr n = 1 then bor acc (bsh (n - 1)) else acc
def stv (a : Int → Int) (s fr : Nat) : Int := if cn (fa a) s fr = 0 then -1 else lpF (stg a s fr) 8 1 0
set_option maxRecDepth 100000 in
theorem lX0_settled {E : mx_E} {S T : Nat → Int → Int} {D : List mx_C} {a : Int → Int} (hG : FGo S) (ha : S 22 = a) {s fr : Nat} (h_s : s < 256) (h_fr : fr < 65536) {r : Int} : ∀ (j : Nat) (k x : Int) (S1 : Nat → Int → Int), k + j = 9 → 1 ≤ k → Fr [25, 26] S S1 → FGo S1 → 0 ≤ x → lpF (stg a s fr) j k x = r → Ev E yX0_settled cX0_settled 5 (some .int) (kI E 91 (CQo S T D r)) 0 0 16 [.ref 21, .int (jI (s : Int)), .int (jI (fr : Int)), .int (jI x), .int (jI k)] [] (W5 S1 T D) := by
  intro j
  induction j with
  | zero =>
    intro k x S1 hkj hk hF hG1 hx hr
    have hr : x = r := hr
    refine L_i4 dX0_settled_16 ?_
    refine J_bipush dX0_settled_18 (by decide) ?_
    refine J_icmp_gt 58 dX0_settled_20 rfl (by omega) (by omega) (fun c20 => ?_) (fun c20 => ?_)
    · refine L_i3 dX0_settled_58 ?_
      exact RQ_i rfl dX0_settled_59 ⟨hr, S1, rfl, hG1, hF⟩
    · exfalso; omega
  | succ j ih =>
    intro k x S1 hkj hk hF hG1 hx hr
    have e22 : S1 22 = a := (hF 22 (by decide)).trans ha
    have hb1 := ban_nn (s : Int) (bsh (k - 1))
    have hb2 := ban_le' (s : Int) (bsh (k - 1)) (by omega)
    rw [lpF] at hr
    refine L_i4 dX0_settled_16 ?_
    refine J_bipush dX0_settled_18 (by decide) ?_
    refine J_icmp_gt 58 dX0_settled_20 rfl (by omega) (by omega) (fun c20 => ?_) (fun c20 => ?_)
    · exfalso; omega
    · refine L_i1 dX0_settled_23 ?_
      refine L_i4 dX0_settled_24 ?_
      refine C_s1F vX0_43 dX0_settled_26 (sX10_bitOf (by omega)) (Nat.le_of_ble_eq_true rfl) (by decide) ?_
      refine J_iandG dX0_settled_29 (by omega) (bsh_nn _) ?_
      refine J_if_eq 52 dX0_settled_30 rfl (by omega) (fun c30 => ?_) (fun c30 => ?_)
      · refine JI_4 dX0_settled_52 (by decide) rfl ?_
        refine E_goto 16 dX0_settled_55 rfl ?_
        rw [show stg a s fr k x = x from if_neg (fun hh => bsh_bit.mp c30 hh.1)] at hr
        exact ih (k + 1) x S1 (by omega) (by omega) hF hG1 hx hr
      · refine L_a0 dX0_settled_33 ?_
        refine L_i1 dX0_settled_34 ?_
        refine L_i2 dX0_settled_35 ?_
        refine L_i4 dX0_settled_36 ?_
        refine C_v3I vX0_128 dX0_settled_38 (qX0_isSettled hG1 e22 h_s h_fr (n := k) (by omega)) rfl rfl (Nat.le_of_ble_eq_true rfl) (by decide) (fun v38 hp38 hq38 => ?_)
        obtain ⟨rfl, S2, rfl, hG2, hF2⟩ := hq38
        have hib := istv_B a s fr k
        refine J_if_eq 52 dX0_settled_41 rfl (by omega) (fun c41 => ?_) (fun c41 => ?_)
        · refine JI_4 dX0_settled_52 (by decide) rfl ?_
          refine E_goto 16 dX0_settled_55 rfl ?_
          rw [show stg a s fr k x = x from if_neg (fun hh => by have := hh.2; omega)] at hr
          exact ih (k + 1) x S2 (by omega) (by omega) (hF.trans hF2) hG2 hx hr
        · refine L_i3 dX0_settled_44 ?_
          refine L_i4 dX0_settled_45 ?_
          refine C_s1F vX0_43 dX0_settled_47 (sX10_bitOf (by omega)) (Nat.le_of_ble_eq_true rfl) (by decide) ?_
          refine J_iorG dX0_settled_50 (by omega) (bsh_nn _) ?_
          refine S_i3 dX0_settled_51 (by decide) rfl ?_
          refine JI_4 dX0_settled_52 (by decide) rfl ?_
          refine E_goto 16 dX0_settled_55 rfl ?_
          rw [show stg a s fr k x = (bor x (bsh (k - 1))) from if_pos ⟨Classical.not_not.mp (fun hh => c30 (bsh_bit.mpr hh)), by omega⟩] at hr
          exact ih (k + 1) (bor x (bsh (k - 1))) S2 (by omega) (by omega) (hF.trans hF2) hG2 (bor_nn _ _) hr
set_option maxRecDepth 100000 in
theorem qX0_settled {S T : Nat → Int → Int} {D : List mx_C} {a : Int → Int} (hG : FGo S) (ha : S 22 = a) {s fr : Nat} (h_s : s < 256) (h_fr : fr < 65536) : SpI yX0_settled cX0_settled 5 (some .int) 91 [.ref 21, .int (jI (s : Int)), .int (jI (fr : Int))] (W5 S T D) (CQo S T D (stv a s fr)) := by
  have hfB := fb_B a s fr
  refine Sp.of [.ref 21, .int (jI (s : Int)), .int (jI (fr : Int)), .retAddr 0, .retAddr 0] (by decide) (by simp) (Nat.le_of_ble_eq_true rfl) rfl (fun E => ?_)
  refine L_a0 dX0_settled_0 ?_
  refine L_i1 dX0_settled_1 ?_
  refine L_i2 dX0_settled_2 ?_
  refine C_v2I vX0_125 dX0_settled_3 (qX0_fits hG ha h_s h_fr) rfl rfl (Nat.le_of_ble_eq_true rfl) (by decide) (fun v3 hp3 hq3 => ?_)
  obtain ⟨rfl, S3, rfl, hG3, hF3⟩ := hq3
  refine J_if_ne 11 dX0_settled_6 rfl (by omega) (fun c6 => ?_) (fun c6 => ?_)
  · refine J_iconst dX0_settled_11 ?_
    refine S_i3 dX0_settled_12 (by decide) rfl ?_
    refine J_iconst dX0_settled_13 ?_
    refine S_i4 dX0_settled_14 (by decide) rfl ?_
    exact lX0_settled hG ha h_s h_fr 8 1 0 S3 (by omega) (by omega) hF3 hG3 (by omega) (if_neg (fun hh => c6 (fb_0.mpr hh))).symm
  · refine J_iconst dX0_settled_9 ?_
    exact RQ_i rfl dX0_settled_10 ⟨(if_pos (fb_0.mp c6)).symm, S3, rfl, hG3, hF3⟩
def lff (a : Int → Int) (nb : Int) : Nat → Int → Nat → Nat → Int
  | 0, _, _, _ => -1
  | m + 1, n, s, fr => if s.testBit (n - 1).toNat = true then (if lfo a s fr n = -1 ∨ n = nb then lfo a s fr n else lff a nb m (n + 1) (nd s (2 ^ (n - 1).toNat)) (nd fr (pm (fa a (n - 1).toNat) (lfo a s fr n).toNat))) else lff a nb m (n + 1) s fr
set_option maxRecDepth 100000 in
theorem lX0_lowestFirst {E : mx_E} {S T : Nat → Int → Int} {D : List mx_C} {a : Int → Int} (ha : S 22 = a) {nb r : Int} (h_nb : -2147483648 ≤ nb ∧ nb < 2147483648) {u1 u2 : Value} (hu1 : u1.category = 1) (hu2 : u2.category = 1) : ∀ (j : Nat) (k : Int) (s fr : Nat) (S1 : Nat → Int → Int) (u7 : Value), u7.category = 1 → s < 256 → fr < 65536 → k + j = 9 → 1 ≤ k → Fr [25, 26] S S1 → FGo S1 → lff a nb j k s fr = r → Ev E yX0_lowestFirst cX0_lowestFirst 8 (some .int) (kI E 91 (CQo S T D r)) 0 0 9 [.ref 21, u1, u2, .int (jI nb), .int (jI (s : Int)), .int (jI (fr : Int)), .int (jI k), u7] [] (W5 S1 T D) := by
  intro j
  induction j with
  | zero =>
    intro k s fr S1 u7 hu7 h_s h_fr hkj hk hF hG1 hr
    refine L_i6 dX0_lowestFirst_9 ?_
    refine J_bipush dX0_lowestFirst_11 (by decide) ?_
    refine J_icmp_gt 87 dX0_lowestFirst_13 rfl (by omega) (by omega) (fun c13 => ?_) (fun c13 => ?_)
    · refine J_iconst dX0_lowestFirst_87 ?_
      exact RQ_i rfl dX0_lowestFirst_88 ⟨hr, S1, rfl, hG1, hF⟩
    · exfalso; omega
  | succ j ih =>
    intro k s fr S1 u7 hu7 h_s h_fr hkj hk hF hG1 hr
    have e22 : S1 22 = a := (hF 22 (by decide)).trans ha
    have hA := hG1.a k (by omega)
    rw [e22] at hA
    have hb1 := ban_nn (s : Int) (bsh (k - 1))
    have hb2 := ban_le' (s : Int) (bsh (k - 1)) (by omega)
    have hlB := lfo_B a s fr k
    rw [lff] at hr
    refine L_i6 dX0_lowestFirst_9 ?_
    refine J_bipush dX0_lowestFirst_11 (by decide) ?_
    refine J_icmp_gt 87 dX0_lowestFirst_13 rfl (by omega) (by omega) (fun c13 => ?_) (fun c13 => ?_)
    · exfalso; omega
    · refine L_i4 dX0_lowestFirst_16 ?_
      refine L_i6 dX0_lowestFirst_18 ?_
      refine C_s1F vX0_43 dX0_lowestFirst_20 (sX10_bitOf (by omega)) (Nat.le_of_ble_eq_true rfl) (by decide) ?_
      refine J_iandG dX0_lowestFirst_23 (by omega) (bsh_nn _) ?_
      refine J_if_eq 81 dX0_lowestFirst_24 rfl (by omega) (fun c24 => ?_) (fun c24 => ?_)
      · refine JI_6 dX0_lowestFirst_81 (by decide) rfl ?_
        refine E_goto 9 dX0_lowestFirst_84 rfl ?_
        rw [if_neg (bsh_bit.mp c24)] at hr
        exact ih (k + 1) s fr S1 _ hu7 h_s h_fr (by omega) (by omega) hF hG1 hr
      · refine L_a0 dX0_lowestFirst_27 ?_
        refine L_i4 dX0_lowestFirst_28 ?_
        refine L_i5 dX0_lowestFirst_30 ?_
        refine L_i6 dX0_lowestFirst_32 ?_
        refine C_v3I vX0_115 dX0_lowestFirst_34 (qX0_lowestFirstOf FIT16 hG1 e22 h_s h_fr (pc16 fr) (n := k) (by omega)) rfl rfl (Nat.le_of_ble_eq_true rfl) (by decide) (fun v34 hp34 hq34 => ?_)
        obtain ⟨rfl, S2, rfl, hG2, hF2⟩ := hq34
        have e22b : S2 22 = a := (hF2 22 (by decide)).trans e22
        refine S_i7 dX0_lowestFirst_37 (by decide) rfl ?_
        refine L_i7 dX0_lowestFirst_39 ?_
        refine J_iconst dX0_lowestFirst_41 ?_
        refine J_icmp_eq 51 dX0_lowestFirst_42 rfl (by omega) (by omega) (fun c42 => ?_) (fun c42 => ?_)
        · refine L_i7 dX0_lowestFirst_51 ?_
          exact RQ_i rfl dX0_lowestFirst_53 ⟨by rw [if_pos (Classical.not_not.mp (fun hh => c24 (bsh_bit.mpr hh))), if_pos (by omega)] at hr; exact hr, S2, rfl, hG2, hF.trans hF2⟩
        · refine L_i6 dX0_lowestFirst_45 ?_
          refine L_i3 dX0_lowestFirst_47 ?_
          refine J_icmp_ne 54 dX0_lowestFirst_48 rfl (by omega) (by omega) (fun c48 => ?_) (fun c48 => ?_)
          · refine L_i4 dX0_lowestFirst_54 ?_
            refine L_i6 dX0_lowestFirst_56 ?_
            refine C_s1F vX0_43 dX0_lowestFirst_58 (sX10_bitOf (by omega)) (Nat.le_of_ble_eq_true rfl) (by decide) ?_
            refine J_iconst dX0_lowestFirst_61 ?_
            refine J_inot dX0_lowestFirst_62 ?_
            refine J_iandD dX0_lowestFirst_63 (by omega) (bsh_nn _) ?_
            refine J_eqi (b := ((nd s (2 ^ (k - 1).toNat) : Nat) : Int)) rfl ?_
            refine S_i4 dX0_lowestFirst_64 (by decide) rfl ?_
            refine L_i5 dX0_lowestFirst_66 ?_
            refine L_a0 dX0_lowestFirst_68 ?_
            refine L_i6 dX0_lowestFirst_69 ?_
            refine L_i7 dX0_lowestFirst_71 ?_
            refine C_v2F vX0_92 dX0_lowestFirst_73 (qX0_pairOf hG2.a (by omega) (by omega)) rfl rfl (Nat.le_of_ble_eq_true rfl) (by decide) ?_
            refine J_eqi (b := ((pm (fa a (k - 1).toNat) (lfo a s fr k).toNat : Nat) : Int)) (by rw [e22b]; exact fpr_pm hk (by omega) hA.1) ?_
            refine J_iconst dX0_lowestFirst_76 ?_
            refine J_inot dX0_lowestFirst_77 ?_
            refine J_iandD dX0_lowestFirst_78 (by omega) (by omega) ?_
            refine J_eqi (b := ((nd fr (pm (fa a (k - 1).toNat) (lfo a s fr k).toNat) : Nat) : Int)) rfl ?_
            refine S_i5 dX0_lowestFirst_79 (by decide) rfl ?_
            refine JI_6 dX0_lowestFirst_81 (by decide) rfl ?_
            refine E_goto 9 dX0_lowestFirst_84 rfl ?_
            rw [if_pos (Classical.not_not.mp (fun hh => c24 (bsh_bit.mpr hh))), if_neg (by omega)] at hr
            exact ih (k + 1) _ _ S2 _ rfl (nd_lt h_s) (nd_lt h_fr) (by omega) (by omega) (hF.trans hF2) hG2 hr
          · refine L_i7 dX0_lowestFirst_51 ?_
            exact RQ_i rfl dX0_lowestFirst_53 ⟨by rw [if_pos (Classical.not_not.mp (fun hh => c24 (bsh_bit.mpr hh))), if_pos (by omega)] at hr; exact hr, S2, rfl, hG2, hF.trans hF2⟩
set_option maxRecDepth 100000 in
theorem qX0_lowestFirst {S T : Nat → Int → Int} {D : List mx_C} {a : Int → Int} (hG : FGo S) (ha : S 22 = a) {s fr : Nat} (h_s : s < 256) (h_fr : fr < 65536) {nb : Int} (h_nb : -2147483648 ≤ nb ∧ nb < 2147483648) : SpI yX0_lowestFirst cX0_lowestFirst 8 (some .int) 91 [.ref 21, .int (jI (s : Int)), .int (jI (fr : Int)), .int (jI nb)] (W5 S T D) (CQo S T D (lff a nb 8 1 s fr)) := by
  refine Sp.of [.ref 21, .int (jI (s : Int)), .int (jI (fr : Int)), .int (jI nb), .retAddr 0, .retAddr 0, .retAddr 0, .retAddr 0] (by decide) (by simp) (Nat.le_of_ble_eq_true rfl) rfl (fun E => ?_)
  refine L_i1 dX0_lowestFirst_0 ?_
  refine S_i4 dX0_lowestFirst_1 (by decide) rfl ?_
  refine L_i2 dX0_lowestFirst_3 ?_
  refine S_i5 dX0_lowestFirst_4 (by decide) rfl ?_
  refine J_iconst dX0_lowestFirst_6 ?_
  refine S_i6 dX0_lowestFirst_7 (by decide) rfl ?_
  exact lX0_lowestFirst ha h_nb rfl rfl 8 1 s fr S _ rfl h_s h_fr (by omega) (by omega) (Fr.refl _ _) hG rfl
def lgg (a : Int → Int) (fr : Nat) (mn s : Int) : Option Int := if pc s = mn ∧ ¬ cn (fa a) s.toNat fr = 0 then some s else none
def lgo (a : Int → Int) (fr : Nat) : Nat → Int
  | 0 => 0
  | m + 1 => if lpR (lgg a fr ((m : Int) + 1)) 255 1 0 = 0 then lgo a fr m else lpR (lgg a fr ((m : Int) + 1)) 255 1 0
set_option maxRecDepth 100000 in
theorem lX0_largestI {E : mx_E} {S T : Nat → Int → Int} {D : List mx_C} {a : Int → Int} (ha : S 22 = a) {fr : Nat} (h_fr : fr < 65536) {r mn : Int} (h_mn : 1 ≤ mn ∧ mn ≤ 16) : ∀ (j : Nat) (k : Int) (S1 : Nat → Int → Int), k + j = 256 → 1 ≤ k → Fr [25, 26] S S1 → FGo S1 → ((¬ lpR (lgg a fr mn) j k 0 = 0 → lpR (lgg a fr mn) j k 0 = r) ∧ (lpR (lgg a fr mn) j k 0 = 0 → ∀ S2, Fr [25, 26] S S2 → FGo S2 → Ev E yX0_largest cX0_largest 4 (some .int) (kI E 88 (CQo S T D r)) 0 0 45 [.ref 21, .int (jI (fr : Int)), .int (jI mn), .int (jI 256)] [] (W5 S2 T D))) → Ev E yX0_largest cX0_largest 4 (some .int) (kI E 88 (CQo S T D r)) 0 0 13 [.ref 21, .int (jI (fr : Int)), .int (jI mn), .int (jI k)] [] (W5 S1 T D) := by
  intro j
  induction j with
  | zero =>
    intro k S1 hkj hk hF hG1 hr
    have hk2 : k = 256 := by omega
    subst hk2
    refine L_i3 dX0_largest_13 ?_
    refine J_sipush dX0_largest_14 (by decide) ?_
    refine J_icmp_gt 45 dX0_largest_17 rfl (by omega) (by omega) (fun c17 => ?_) (fun c17 => ?_)
    · exact hr.2 rfl S1 hF hG1
    · exfalso; omega
  | succ j ih =>
    intro k S1 hkj hk hF hG1 hr
    have e22 : S1 22 = a := (hF 22 (by decide)).trans ha
    obtain ⟨s, hs⟩ : ∃ s : Nat, k = (s : Int) := ⟨k.toNat, by omega⟩
    have hpb := pc_B k
    have hfB := fb_B a s fr
    refine L_i3 dX0_largest_13 ?_
    refine J_sipush dX0_largest_14 (by decide) ?_
    refine J_icmp_gt 45 dX0_largest_17 rfl (by omega) (by omega) (fun c17 => ?_) (fun c17 => ?_)
    · exfalso; omega
    · refine L_i3 dX0_largest_20 ?_
      refine C_s1F vX0_60 dX0_largest_21 (sJ_bitCount (by omega)) (Nat.le_of_ble_eq_true rfl) (by decide) ?_
      refine L_i2 dX0_largest_24 ?_
      refine J_icmp_ne 39 dX0_largest_25 rfl (by omega) (by omega) (fun c25 => ?_) (fun c25 => ?_)
      · refine JI_3 dX0_largest_39 (by decide) rfl ?_
        refine E_goto 13 dX0_largest_42 rfl ?_
        rw [lpR_no (show lgg a fr mn k = none from if_neg (fun hh => c25 hh.1))] at hr
        exact ih (k + 1) S1 (by omega) (by omega) hF hG1 hr
      · refine L_a0 dX0_largest_28 ?_
        refine L_i3 dX0_largest_29 ?_
        refine L_i1 dX0_largest_30 ?_
        refine C_v2I vX0_125 dX0_largest_31 (hs ▸ qX0_fits hG1 e22 (s := s) (by omega) h_fr) rfl rfl (Nat.le_of_ble_eq_true rfl) (by decide) (fun v31 hp31 hq31 => ?_)
        obtain ⟨rfl, S2, rfl, hG2, hF2⟩ := hq31
        refine J_if_eq 39 dX0_largest_34 rfl (by omega) (fun c34 => ?_) (fun c34 => ?_)
        · refine JI_3 dX0_largest_39 (by decide) rfl ?_
          refine E_goto 13 dX0_largest_42 rfl ?_
          rw [lpR_no (show lgg a fr mn k = none from if_neg (fun hh => hh.2 (by rw [hs, Int.toNat_natCast]; exact fb_0.mp c34)))] at hr
          exact ih (k + 1) S2 (by omega) (by omega) (hF.trans hF2) hG2 hr
        · refine L_i3 dX0_largest_37 ?_
          exact RQ_i rfl dX0_largest_38 ⟨by rw [lpR_so (show lgg a fr mn k = some k from if_pos ⟨c25, by rw [hs, Int.toNat_natCast]; exact fun hh => c34 (fb_0.mpr hh)⟩)] at hr; exact hr.1 (by omega), S2, rfl, hG2, hF.trans hF2⟩
set_option maxRecDepth 100000 in
theorem lX0_largest {E : mx_E} {S T : Nat → Int → Int} {D : List mx_C} {a : Int → Int} (ha : S 22 = a) {fr : Nat} (h_fr : fr < 65536) {r : Int} : ∀ (j : Nat) (mn : Int) (S1 : Nat → Int → Int) (u : Value), u.category = 1 → mn = (j : Int) → mn ≤ 16 → Fr [25, 26] S S1 → FGo S1 → lgo a fr j = r → Ev E yX0_largest cX0_largest 4 (some .int) (kI E 88 (CQo S T D r)) 0 0 7 [.ref 21, .int (jI (fr : Int)), .int (jI mn), u] [] (W5 S1 T D) := by
  intro j
  induction j with
  | zero =>
    intro mn S1 u hu hmn h16 hF hG1 hr
    refine L_i2 dX0_largest_7 ?_
    refine J_if_le 51 dX0_largest_8 rfl (by omega) (fun c8 => ?_) (fun c8 => ?_)
    · refine J_iconst dX0_largest_51 ?_
      exact RQ_i rfl dX0_largest_52 ⟨hr, S1, rfl, hG1, hF⟩
    · exfalso; omega
  | succ j ih =>
    intro mn S1 u hu hmn h16 hF hG1 hr
    have hmn2 : (j : Int) + 1 = mn := by omega
    rw [lgo, hmn2] at hr
    refine L_i2 dX0_largest_7 ?_
    refine J_if_le 51 dX0_largest_8 rfl (by omega) (fun c8 => ?_) (fun c8 => ?_)
    · exfalso; omega
    · refine J_iconst dX0_largest_11 ?_
      refine S_i3 dX0_largest_12 (by decide) rfl ?_
      refine lX0_largestI ha h_fr (by omega) 255 1 S1 (by omega) (by omega) hF hG1 ⟨fun hz => by rw [if_neg hz] at hr; exact hr, fun hz S2 hF2 hG2 => ?_⟩
      refine JI_2 dX0_largest_45 (by decide) rfl ?_
      refine E_goto 7 dX0_largest_48 rfl ?_
      rw [if_pos hz] at hr
      exact ih (mn + -1) S2 _ rfl (by omega) (by omega) hF2 hG2 hr
set_option maxRecDepth 100000 in
theorem qX0_largest {S T : Nat → Int → Int} {D : List mx_C} {a : Int → Int} (ha : S 22 = a) {fr : Nat} (h_fr : fr < 65536) (hG : FGo S) : SpI yX0_largest cX0_largest 4 (some .int) 88 [.ref 21, .int (jI (fr : Int))] (W5 S T D) (CQo S T D (lgo a fr (pcn 16 fr / 2))) := by
  have hpb := pc_B (fr : Int)
  have epf : pc (fr : Int) = ((pcn 16 fr : Nat) : Int) := rfl
  refine Sp.of [.ref 21, .int (jI (fr : Int)), .retAddr 0, .retAddr 0] (by decide) (by simp) (Nat.le_of_ble_eq_true rfl) rfl (fun E => ?_)
  refine L_i1 dX0_largest_0 ?_
  refine C_s1F vX0_60 dX0_largest_1 (sJ_bitCount (by omega)) (Nat.le_of_ble_eq_true rfl) (by decide) ?_
  refine J_iconst dX0_largest_4 ?_
  refine J_idivN dX0_largest_5 (by omega) (by omega) ?_
  refine S_i2 dX0_largest_6 (by decide) rfl ?_
  exact lX0_largest ha h_fr (pcn 16 fr / 2) _ S _ rfl (by omega) (by omega) (Fr.refl _ _) hG rfl
