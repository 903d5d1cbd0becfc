/-! ===== the reference: whose law it was ===== -/
/-- what was said is in its ranges -/
def MS (a : Int → Int) : Prop := ∀ i, 0 ≤ i ∧ i < a 3 → (0 ≤ a (32 + 2 * i) ∧ a (32 + 2 * i) ≤ 7) ∧ (0 ≤ a (33 + 2 * i) ∧ a (33 + 2 * i) ≤ 14)
def md_whi (a c : Int → Int) (t i s : Int) : Int := if ¬ s = 0 ∧ md_btw a c t (a (32 + 2 * i)) = a (33 + 2 * i) then 1 else 0
def md_whg (a c : Int → Int) (t acc : Int) : Int := bor acc (if lpF (md_whi a c t) (a 3).toNat 0 1 = 0 then 0 else bsh t)
def md_whose (a c : Int → Int) : Int := lpF (md_whg a c) (a 0).toNat 0 0
theorem md_whi_01 {a c : Int → Int} {t : Int} : ∀ (m : Nat) (i s : Int), (0 ≤ s ∧ s ≤ 1) → (0 ≤ lpF (md_whi a c t) m i s ∧ lpF (md_whi a c t) m i s ≤ 1) := by
  intro m
  induction m with
  | zero => intro i s h; exact h
  | succ m ih =>
    intro i s h
    rw [lpF]
    refine ih _ _ ?_
    unfold md_whi
    split <;> omega
theorem md_whg_B {a c : Int → Int} {t acc : Int} (ht : t ≤ 3) (h : 0 ≤ acc ∧ acc < 16) : 0 ≤ md_whg a c t acc ∧ md_whg a c t acc < 16 := by
  refine ⟨bor_nn _ _, ?_⟩
  unfold md_whg
  refine bor_lt 4 (by omega) ?_
  split
  · decide
  · exact bsh_lt 4 (by omega) (by omega)
set_option maxRecDepth 100000 in
theorem lX11_whose1 {E : mx_E} {S T : Nat → Int → Int} {D : List mx_C} (hi : MI T) (hms : MS (T 37)) {acc t r : Int} {Q : Int → List mx_C → Prop} (h_t : 0 ≤ t ∧ t < T 37 0) (hk : ∀ (T2 : Nat → Int → Int) (u : Value), Fr [42, 43, 44] T T2 → u.category = 1 → Ev E yX11_whose cX11_whose 5 (some .int) (kI E 10 Q) 0 0 76 [.ref 36, .int (jI acc), .int (jI t), .int (jI r), u] [] (W5 S T2 D)) : ∀ (m : Nat) (i s x : Int) (T1 : Nat → Int → Int), i + m = T 37 3 → 0 ≤ i → (0 ≤ s ∧ s ≤ 1) → x = 32 + 2 * i → Fr [42, 43, 44] T T1 → lpF (md_whi (T 37) (T 39) t) m i s = r → Ev E yX11_whose cX11_whose 5 (some .int) (kI E 10 Q) 0 0 20 [.ref 36, .int (jI acc), .int (jI t), .int (jI s), .int (jI x)] [] (W5 S T1 D) := by
  intro m
  induction m with
  | zero =>
    intro i s x T1 him hi0 hs hx f1 hres
    have ha := hi.1.2
    have e37 := f1 37 (by decide)
    have hi1 := hi.congr e37 (f1 39 (by decide))
    have hv1 := hi1.1
    subst hx
    refine L_i4 dX11_whose_20 ?_
    refine J_bipush dX11_whose_22 (by decide) ?_
    refine J_iconst dX11_whose_24 ?_
    refine L_a0 dX11_whose_25 ?_
    refine GW_36_0 fX11_7 dX11_whose_26 ?_
    refine J_iconst dX11_whose_29 ?_
    refine AB_37 dX11_whose_30 (by omega) hv1.1 (fun b30 => ?_)
    rw [e37] at b30
    rw [e37]
    refine J_imul dX11_whose_31 ?_
    refine J_iadd dX11_whose_32 ?_
    refine J_icmp_ge 76 dX11_whose_33 rfl (by omega) (by omega) (fun c33 => ?_) (fun c33 => ?_)
    · subst hres
      exact hk T1 _ f1 rfl
    · exfalso; omega
  | succ m ih =>
    intro i s x T1 him hi0 hs hx f1 hres
    have ha := hi.1.2
    have hv := hi.1
    have e37 := f1 37 (by decide)
    have e39 := f1 39 (by decide)
    have hi1 := hi.congr e37 e39
    have hv1 := hi1.1
    have hms2 := hms i (by omega)
    subst hx
    refine L_i4 dX11_whose_20 ?_
    refine J_bipush dX11_whose_22 (by decide) ?_
    refine J_iconst dX11_whose_24 ?_
    refine L_a0 dX11_whose_25 ?_
    refine GW_36_0 fX11_7 dX11_whose_26 ?_
    refine J_iconst dX11_whose_29 ?_
    refine AB_37 dX11_whose_30 (by omega) hv1.1 (fun b30 => ?_)
    rw [e37] at b30
    rw [e37]
    refine J_imul dX11_whose_31 ?_
    refine J_iadd dX11_whose_32 ?_
    refine J_icmp_ge 76 dX11_whose_33 rfl (by omega) (by omega) (fun c33 => ?_) (fun c33 => ?_)
    · exfalso; omega
    · refine L_i3 dX11_whose_36 ?_
      refine J_if_eq 68 dX11_whose_37 rfl (by omega) (fun c37 => ?_) (fun c37 => ?_)
      · refine J_iconst dX11_whose_68 ?_
        refine S_i3 dX11_whose_69 (by decide) rfl ?_
        refine JI_4 dX11_whose_70 (by decide) rfl ?_
        refine E_goto 20 dX11_whose_73 rfl ?_
        exact ih (i + 1) 0 (32 + 2 * i + 2) T1 (by omega) (by omega) (by omega) (by omega) f1 (by rw [← hres, lpF, show md_whi (T 37) (T 39) t i s = 0 from if_neg (fun h => h.1 c37)])
      · refine L_a0 dX11_whose_40 ?_
        refine L_i2 dX11_whose_41 ?_
        refine L_a0 dX11_whose_42 ?_
        refine GW_36_0 fX11_7 dX11_whose_43 ?_
        refine L_i4 dX11_whose_46 ?_
        refine AB_37 dX11_whose_48 (by omega) hv1.1 (fun b48 => ?_)
        rw [e37] at b48
        rw [e37]
        refine C_v2I vX11_329 dX11_whose_49 (qX11_betweenByF hi1 (by rw [e37]; omega) (by omega)) rfl rfl (Nat.le_of_ble_eq_true rfl) (by decide) (fun v49 hp49 hq49 => ?_)
        obtain ⟨rfl, T49, rfl, f49⟩ := hq49
        have e49 := f49 37 (by decide)
        have hi49 := hi1.congr e49 (f49 39 (by decide))
        have hv49 := hi49.1
        have hbb := md_btw_B (a := T 37) (c := T 39) (q := t) (k := T 37 (32 + 2 * i)) (by omega)
        rw [e37, e39]
        refine L_a0 dX11_whose_52 ?_
        refine GW_36_0 fX11_7 dX11_whose_53 ?_
        refine L_i4 dX11_whose_56 ?_
        refine J_iconst dX11_whose_58 ?_
        refine J_iadd dX11_whose_59 ?_
        refine AB_37 dX11_whose_60 (by omega) hv49.1 (fun b60 => ?_)
        rw [e49, e37] at b60
        rw [e49, e37, show (32 : Int) + 2 * i + 1 = 33 + 2 * i by omega]
        refine J_icmp_ne 68 dX11_whose_61 rfl (by omega) (by omega) (fun c61 => ?_) (fun c61 => ?_)
        · refine J_iconst dX11_whose_68 ?_
          refine S_i3 dX11_whose_69 (by decide) rfl ?_
          refine JI_4 dX11_whose_70 (by decide) rfl ?_
          refine E_goto 20 dX11_whose_73 rfl ?_
          exact ih (i + 1) 0 (32 + 2 * i + 2) T49 (by omega) (by omega) (by omega) (by omega) (f1.trans f49) (by rw [← hres, lpF, show md_whi (T 37) (T 39) t i s = 0 from if_neg (fun h => c61 h.2)])
        · refine J_iconst dX11_whose_64 ?_
          refine E_goto 69 dX11_whose_65 rfl ?_
          refine S_i3 dX11_whose_69 (by decide) rfl ?_
          refine JI_4 dX11_whose_70 (by decide) rfl ?_
          refine E_goto 20 dX11_whose_73 rfl ?_
          exact ih (i + 1) 1 (32 + 2 * i + 2) T49 (by omega) (by omega) (by omega) (by omega) (f1.trans f49) (by rw [← hres, lpF, show md_whi (T 37) (T 39) t i s = 1 from if_pos ⟨c37, c61⟩])

set_option maxRecDepth 100000 in
theorem lX11_whose {E : mx_E} {S T : Nat → Int → Int} {D : List mx_C} (hi : MI T) (hms : MS (T 37)) {r : Int} : ∀ (m : Nat) (t acc : Int) (T1 : Nat → Int → Int) (u3 u4 : Value), u3.category = 1 → u4.category = 1 → t + m = T 37 0 → 0 ≤ t → (0 ≤ acc ∧ acc < 16) → Fr [42, 43, 44] T T1 → lpF (md_whg (T 37) (T 39)) m t acc = r → Ev E yX11_whose cX11_whose 5 (some .int) (kI E 10 (fun v hp' => v = r ∧ ∃ T', hp' = W5 S T' D ∧ Fr [42, 43, 44] T T')) 0 0 4 [.ref 36, .int (jI acc), .int (jI t), u3, u4] [] (W5 S T1 D) := by
  intro m
  induction m with
  | zero =>
    intro t acc T1 u3 u4 hu3 hu4 htm ht0 hac f1 hres
    have ha := hi.1.2
    have e37 := f1 37 (by decide)
    have hi1 := hi.congr e37 (f1 39 (by decide))
    have hv1 := hi1.1
    refine L_i2 dX11_whose_4 ?_
    refine L_a0 dX11_whose_5 ?_
    refine GW_36_0 fX11_7 dX11_whose_6 ?_
    refine J_iconst dX11_whose_9 ?_
    refine AB_37 dX11_whose_10 (by omega) hv1.1 (fun b10 => ?_)
    rw [e37] at b10
    rw [e37]
    refine J_icmp_ge 96 dX11_whose_11 rfl (by omega) (by omega) (fun c11 => ?_) (fun c11 => ?_)
    · refine L_i1 dX11_whose_96 ?_
      exact RQ_i rfl dX11_whose_97 ⟨hres, T1, rfl, f1⟩
    · exfalso; omega
  | succ m ih =>
    intro t acc T1 u3 u4 hu3 hu4 htm ht0 hac f1 hres
    have ha := hi.1.2
    have e37 := f1 37 (by decide)
    have hi1 := hi.congr e37 (f1 39 (by decide))
    have hv1 := hi1.1
    have hgb := md_whg_B (a := T 37) (c := T 39) (t := t) (by omega) hac
    have h01 := md_whi_01 (a := T 37) (c := T 39) (t := t) (T 37 3).toNat 0 1 (by omega)
    have hps := bsh_nn t
    rw [lpF] at hres
    refine L_i2 dX11_whose_4 ?_
    refine L_a0 dX11_whose_5 ?_
    refine GW_36_0 fX11_7 dX11_whose_6 ?_
    refine J_iconst dX11_whose_9 ?_
    refine AB_37 dX11_whose_10 (by omega) hv1.1 (fun b10 => ?_)
    rw [e37] at b10
    rw [e37]
    refine J_icmp_ge 96 dX11_whose_11 rfl (by omega) (by omega) (fun c11 => ?_) (fun c11 => ?_)
    · exfalso; omega
    · refine J_iconst dX11_whose_14 ?_
      refine S_i3 dX11_whose_15 (by decide) rfl ?_
      refine J_bipush dX11_whose_16 (by decide) ?_
      refine S_i4 dX11_whose_18 (by decide) (by rfl) ?_
      exact lX11_whose1 hi hms (acc := acc) (t := t) (r := lpF (md_whi (T 37) (T 39) t) (T 37 3).toNat 0 1) (by omega) (fun T2 u f2 hu => by
          refine L_i1 dX11_whose_76 ?_
          refine L_i3 dX11_whose_77 ?_
          refine J_if_eq 87 dX11_whose_78 rfl (by omega) (fun c78 => ?_) (fun c78 => ?_)
          · refine J_iconst dX11_whose_87 ?_
            refine J_iorG dX11_whose_88 (by omega) (by omega) ?_
            refine J_eqi (b := md_whg (T 37) (T 39) t acc) (by first | (unfold md_whg; rw [if_pos (by omega)]) | (unfold md_whg; rw [if_neg (by omega)])) ?_
            refine S_i1 dX11_whose_89 (by decide) rfl ?_
            refine JI_2 dX11_whose_90 (by decide) rfl ?_
            refine E_goto 4 dX11_whose_93 rfl ?_
            refine E_eq rfl rfl rfl rfl ?_
            exact ih (t + 1) (md_whg (T 37) (T 39) t acc) T2 _ _ rfl hu (by omega) (by omega) hgb f2 hres
          · refine J_iconst dX11_whose_81 ?_
            refine L_i2 dX11_whose_82 ?_
            refine J_1shl dX11_whose_83 (by omega) ?_
            refine E_goto 88 dX11_whose_84 rfl ?_
            refine J_iorG dX11_whose_88 (by omega) (by omega) ?_
            refine J_eqi (b := md_whg (T 37) (T 39) t acc) (by first | (unfold md_whg; rw [if_pos (by omega)]) | (unfold md_whg; rw [if_neg (by omega)])) ?_
            refine S_i1 dX11_whose_89 (by decide) rfl ?_
            refine JI_2 dX11_whose_90 (by decide) rfl ?_
            refine E_goto 4 dX11_whose_93 rfl ?_
            refine E_eq rfl rfl rfl rfl ?_
            exact ih (t + 1) (md_whg (T 37) (T 39) t acc) T2 _ _ rfl hu (by omega) (by omega) hgb f2 hres) (T 37 3).toNat 0 1 32 T1 (by omega) (by omega) (by omega) (by omega) f1 rfl

set_option maxRecDepth 100000 in
theorem qX11_whose {S T : Nat → Int → Int} {D : List mx_C} (hi : MI T) (hms : MS (T 37)) : SpI yX11_whose cX11_whose 5 (some .int) 10 [.ref 36] (W5 S T D) (fun v hp' => v = md_whose (T 37) (T 39) ∧ ∃ T', hp' = W5 S T' D ∧ Fr [42, 43, 44] T T') := by
  have ha := hi.1.2
  refine Sp.of [.ref 36, .retAddr 0, .retAddr 0, .retAddr 0, .retAddr 0] (by decide) (by simp) (Nat.le_of_ble_eq_true rfl) rfl (fun E => ?_)
  refine J_iconst dX11_whose_0 ?_
  refine S_i1 dX11_whose_1 (by decide) rfl ?_
  refine J_iconst dX11_whose_2 ?_
  refine S_i2 dX11_whose_3 (by decide) rfl ?_
  exact lX11_whose hi hms (T 37 0).toNat 0 0 T _ _ rfl rfl (by omega) (by omega) (by omega) (Fr.refl _ _) rfl

