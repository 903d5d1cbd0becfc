/-! ===== the class: the scanner cuts ===== -/
set_option maxRecDepth 100000 in
theorem lX6_takeWord {E : mx_E} {S T : Nat → Int → Int} {D : List mx_C} (h0 : 0 ≤ S 1 1 ∧ S 1 1 ≤ 300) (h_n : 0 ≤ S 4 3 ∧ S 4 3 ≤ 300) {p r : Nat} (hp : p ≤ 300) (hr3 : r ≤ 300) : ∀ (m : Nat) (c : Nat) (i : Int), i + m = 300 → 0 ≤ i → c + m ≤ 600 → p ≤ c → lte (cbF S) m c = r → Ev E yX6_takeWord cX6_takeWord 5 (some .int) (kf E 5 (.int (jI (r : Int))) (W5 (ntS S (wkp (cbF S) p (r - p) 111 0 3 0 1) (p : Int) 0) T D)) 0 0 5 [.ref 4, .ref 1, .int (jI (p : Int)), .int (jI (c : Int)), .int (jI i)] [] (W5 S T D) := by
  have hB := cbF_BZ h0
  intro m
  induction m with
  | zero =>
    intro c i him hi hc hpc hr
    have hr : c = r := hr
    subst hr
    refine L_i4 dX6_takeWord_5 ?_
    refine J_sipush dX6_takeWord_7 (by decide) ?_
    refine J_icmp_ge 33 dX6_takeWord_10 rfl (by omega) (by omega) (fun c10 => ?_) (fun c10 => ?_)
    · refine L_a0 dX6_takeWord_33 ?_
      refine L_a1 dX6_takeWord_34 ?_
      refine L_i2 dX6_takeWord_35 ?_
      refine L_i3 dX6_takeWord_36 ?_
      refine L_i2 dX6_takeWord_37 ?_
      refine J_isub dX6_takeWord_38 ?_
      refine J_eqi (b := ((c - p : Nat) : Int)) (by omega) ?_
      refine C_s3F vX6_73 dX6_takeWord_39 (qX6_wordKind h0 hp (sz := c - p) (by omega)) (Nat.le_of_ble_eq_true rfl) (by decide) ?_
      refine L_i2 dX6_takeWord_42 ?_
      refine J_iconst dX6_takeWord_43 ?_
      refine C_v3V vX6_40 dX6_takeWord_44 (qX6_note h_n) rfl rfl (Nat.le_of_ble_eq_true rfl) (by decide) ?_
      refine L_i3 dX6_takeWord_47 ?_
      exact R_i rfl dX6_takeWord_48 rfl rfl
    · exfalso; omega
  | succ m ih =>
    intro c i him hi hc hpc hr
    have hbB := bz_B hB c
    rw [lte] at hr
    refine L_i4 dX6_takeWord_5 ?_
    refine J_sipush dX6_takeWord_7 (by decide) ?_
    refine J_icmp_ge 33 dX6_takeWord_10 rfl (by omega) (by omega) (fun c10 => ?_) (fun c10 => ?_)
    · exfalso; omega
    · refine L_a1 dX6_takeWord_13 ?_
      refine L_i3 dX6_takeWord_14 ?_
      refine C_v1F vX6_44 dX6_takeWord_15 (qX9_byteN h0 (by omega)) rfl rfl (Nat.le_of_ble_eq_true rfl) (by decide) ?_
      refine C_s1F vX6_58 dX6_takeWord_18 (qX6_isLetter hbB) (Nat.le_of_ble_eq_true rfl) (by decide) ?_
      refine J_ifeqB 33 dX6_takeWord_21 rfl (fun c21 => ?_) (fun c21 => ?_)
      · rw [if_neg (fun hh => c21 (bz_L.mpr hh))] at hr
        subst hr
        refine L_a0 dX6_takeWord_33 ?_
        refine L_a1 dX6_takeWord_34 ?_
        refine L_i2 dX6_takeWord_35 ?_
        refine L_i3 dX6_takeWord_36 ?_
        refine L_i2 dX6_takeWord_37 ?_
        refine J_isub dX6_takeWord_38 ?_
        refine J_eqi (b := ((c - p : Nat) : Int)) (by omega) ?_
        refine C_s3F vX6_73 dX6_takeWord_39 (qX6_wordKind h0 hp (sz := c - p) (by omega)) (Nat.le_of_ble_eq_true rfl) (by decide) ?_
        refine L_i2 dX6_takeWord_42 ?_
        refine J_iconst dX6_takeWord_43 ?_
        refine C_v3V vX6_40 dX6_takeWord_44 (qX6_note h_n) rfl rfl (Nat.le_of_ble_eq_true rfl) (by decide) ?_
        refine L_i3 dX6_takeWord_47 ?_
        exact R_i rfl dX6_takeWord_48 rfl rfl
      · refine JI_3 dX6_takeWord_24 (by decide) rfl ?_
        refine JI_4 dX6_takeWord_27 (by decide) rfl ?_
        refine E_goto 5 dX6_takeWord_30 rfl ?_
        rw [if_pos (bz_L.mp c21)] at hr
        exact ih (c + 1) (i + 1) (by omega) (by omega) (by omega) (by omega) hr
set_option maxRecDepth 100000 in
theorem qX6_takeWord {S T : Nat → Int → Int} {D : List mx_C} (h0 : 0 ≤ S 1 1 ∧ S 1 1 ≤ 300) (h_n : 0 ≤ S 4 3 ∧ S 4 3 ≤ 300) {c : Nat} (hp : lxp (cbF S) c ≤ (S 1 1).toNat) : SpF yX6_takeWord cX6_takeWord 5 (some .int) 5 [.ref 4, .ref 1, .int (jI ((lxp (cbF S) c : Nat) : Int))] (W5 S T D) (.int (jI ((lte (cbF S) 301 (lxp (cbF S) c) : Nat) : Int))) (W5 (ntS S (kwl (lxl (cbF S) c)) ((lxp (cbF S) c : Nat) : Int) 0) T D) := by
  have hB := cbF_BZ h0
  have hl := lte_hi hB.n 301 _ hp
  rw [← wkp_kw hB c]
  have e := lte_fu hB 300 (lxp (cbF S) c) 1 (by have := hB.1; omega)
  refine Sp.of [.ref 4, .ref 1, .int (jI ((lxp (cbF S) c : Nat) : Int)), .retAddr 0, .retAddr 0] (by decide) (by simp) (Nat.le_of_ble_eq_true rfl) rfl (fun E => ?_)
  refine L_i2 dX6_takeWord_0 ?_
  refine S_i3 dX6_takeWord_1 (by decide) rfl ?_
  refine J_iconst dX6_takeWord_2 ?_
  refine S_i4 dX6_takeWord_3 (by decide) rfl ?_
  exact lX6_takeWord h0 h_n (by omega) (by omega) 300 _ 0 (by omega) (by omega) (by omega) (Nat.le_refl _) e.symm
def sgk (x : Int) : Int := if ixs x < 0 then 0 else 30 + ixs x
theorem sgk_F : ∀ x : Fin 256, (isD (x.val : Int) ∨ isL (x.val : Int)) ∨ (sgk (x.val : Int) = ksg (if isG (x.val : Int) then (x.val : Int) else 3) ∧ (sgk (x.val : Int) = 30 ↔ (x.val : Int) = 60) ∧ (sgk (x.val : Int) = 31 ↔ (x.val : Int) = 62)) := by decide +kernel
theorem sgk_ok {x : Int} (h : 0 ≤ x ∧ x ≤ 255) (hd : ¬ isD x) (hl : ¬ isL x) : sgk x = ksg (if isG x then x else 3) ∧ (sgk x = 30 ↔ x = 60) ∧ (sgk x = 31 ↔ x = 62) := by
  have h1 := sgk_F ⟨x.toNat, by omega⟩
  rw [show (((⟨x.toNat, by omega⟩ : Fin 256).val : Nat) : Int) = x from by show ((x.toNat : Nat) : Int) = x; omega] at h1
  rcases h1 with (h1 | h1) | h1
  · exact absurd h1 hd
  · exact absurd h1 hl
  · exact h1
/-- kind and end of a sign -/
abbrev sgE (B : Nat → Int) (p : Nat) : Prop := (B p = 60 ∨ B p = 62) ∧ B (p + 1) = 61
set_option maxRecDepth 100000 in
theorem qX6_takeSign {S T : Nat → Int → Int} {D : List mx_C} (h0 : 0 ≤ S 1 1 ∧ S 1 1 ≤ 300) (h_n : 0 ≤ S 4 3 ∧ S 4 3 ≤ 300) {c p : Nat} (hpe : lxp (cbF S) c = p) (hp : p < (S 1 1).toNat) (hd : ¬ isD (cbF S p)) (hl : ¬ isL (cbF S p)) : SpF yX6_takeSign cX6_takeSign 6 (some .int) 4 [.ref 4, .ref 1, .int (jI (p : Int))] (W5 S T D) (.int (jI ((lxe (cbF S) c : Nat) : Int))) (W5 (ntS S (kd (cbF S) c) (p : Int) 0) T D) := by
  have hB := cbF_BZ h0
  have hb1 := hB.2.2 p hp
  have hb2 := hB.b (p + 1)
  have hz1 : bz (cbF S) p = cbF S p := bz_pos hb1.1
  have hzB := bz_B hB p
  have hzC := bz_B hB (p + 1)
  have hz2 : bz (cbF S) (p + 1) = 61 ↔ cbF S (p + 1) = 61 := by unfold bz; split <;> omega
  have hix := ixs_B (bz (cbF S) p)
  have hsg := sgk_ok hb1 hd hl
  rw [← hz1] at hsg
  have hsg0 : sgk (bz (cbF S) p) = if ixs (bz (cbF S) p) < 0 then 0 else 30 + ixs (bz (cbF S) p) := rfl
  have hkd : (sgE (cbF S) p → kd (cbF S) c = (if cbF S p = 60 then 41 else 42) ∧ lxe (cbF S) c = p + 2) ∧ (¬ sgE (cbF S) p → kd (cbF S) c = sgk (bz (cbF S) p) ∧ lxe (cbF S) c = p + 1) := by
    have hlt : lxt (cbF S) c = if sgE (cbF S) p then (if cbF S p = 60 then 4 else 5) else if isG (cbF S p) then cbF S p else 3 := by
      unfold lxt sgE
      rw [hpe, if_neg (by omega), if_neg hd, if_neg hl]
    have hle : lxe (cbF S) c = if sgE (cbF S) p then p + 2 else p + 1 := by
      unfold lxe sgE
      rw [hpe, if_neg (by omega), if_neg hd, if_neg hl]
    refine ⟨fun hs => ?_, fun hs => ?_⟩
    · rw [if_pos hs] at hlt hle
      refine ⟨?_, hle⟩
      unfold kd
      by_cases h60 : cbF S p = 60
      · rw [if_pos h60] at hlt
        rw [if_pos h60, hlt, if_neg (by decide)]; decide
      · rw [if_neg h60] at hlt
        rw [if_neg h60, hlt, if_neg (by decide)]; decide
    · rw [if_neg hs] at hlt hle
      refine ⟨?_, hle⟩
      have hne : ¬ lxt (cbF S) c = 2 := by
        rw [hlt]
        by_cases hg : isG (cbF S p)
        · rw [if_pos hg]; omega
        · rw [if_neg hg]; decide
      unfold kd
      rw [if_neg hne, hlt, hsg.1, hz1]
  by_cases hs : sgE (cbF S) p
  · have hk := hkd.1 hs
    rw [hk.1, hk.2]
    have hs' := hs
    unfold sgE at hs'
    have h30 : sgk (bz (cbF S) p) = 30 ∨ sgk (bz (cbF S) p) = 31 := by
      rcases hs'.1 with h1 | h1
      · exact Or.inl (hsg.2.1.mpr (by omega))
      · exact Or.inr (hsg.2.2.mpr (by omega))
    have h3 := hsg.2.1
    refine Sp.of [.ref 4, .ref 1, .int (jI (p : Int)), .retAddr 0, .retAddr 0, .retAddr 0] (by decide) (by simp) (Nat.le_of_ble_eq_true rfl) rfl (fun E => ?_)
    refine E_ldcS1 rfl dX6_takeSign_0 ?_
    refine L_a1 dX6_takeSign_2 ?_
    refine L_i2 dX6_takeSign_3 ?_
    refine C_v1F vX6_44 dX6_takeSign_4 (qX9_byteN h0 (by omega)) rfl rfl (Nat.le_of_ble_eq_true rfl) (by decide) ?_
    refine J_i2c dX6_takeSign_7 (by omega) ?_
    refine C_S 1 (by decide) (by decide) [.int (jI (bz (cbF S) p))] rfl vX6_91 dX6_takeSign_8 (sJ_indexOf (by omega)) rfl (Nat.le_of_ble_eq_true rfl) (by decide) _ rfl ?_
    refine S_i3 dX6_takeSign_11 (by decide) rfl ?_
    refine L_i3 dX6_takeSign_12 ?_
    refine J_if_ge 20 dX6_takeSign_13 rfl (by omega) (fun c13 => ?_) (fun c13 => ?_)
    · refine J_bipush dX6_takeSign_20 (by decide) ?_
      refine L_i3 dX6_takeSign_22 ?_
      refine J_iadd dX6_takeSign_23 ?_
      refine J_eqi (b := sgk (bz (cbF S) p)) (by rw [hsg0, if_neg (by omega)]) ?_
      refine S_i4 dX6_takeSign_24 (by decide) rfl ?_
      refine L_i4 dX6_takeSign_26 ?_
      refine J_bipush dX6_takeSign_28 (by decide) ?_
      refine J_icmp_eq 40 dX6_takeSign_30 rfl (by omega) (by omega) (fun c30 => ?_) (fun c30 => ?_)
      · refine L_a1 dX6_takeSign_40 ?_
        refine L_i2 dX6_takeSign_41 ?_
        refine J_iconst dX6_takeSign_42 ?_
        refine J_iadd dX6_takeSign_43 ?_
        refine J_eqi (b := ((p + 1 : Nat) : Int)) (by omega) ?_
        refine C_v1F vX6_44 dX6_takeSign_44 (qX9_byteN (p := p + 1) h0 (by omega)) rfl rfl (Nat.le_of_ble_eq_true rfl) (by decide) ?_
        refine J_bipush dX6_takeSign_47 (by decide) ?_
        refine J_icmp_ne 56 dX6_takeSign_49 rfl (by omega) (by omega) (fun c49 => ?_) (fun c49 => ?_)
        · exfalso; omega
        · refine J_iconst dX6_takeSign_52 ?_
          refine E_goto 57 dX6_takeSign_53 rfl ?_
          refine S_i5 dX6_takeSign_57 (by decide) rfl ?_
          refine L_i5 dX6_takeSign_59 ?_
          refine J_if_eq 80 dX6_takeSign_61 rfl (by omega) (fun c61 => ?_) (fun c61 => ?_)
          · exfalso; omega
          · refine L_i4 dX6_takeSign_64 ?_
            refine J_bipush dX6_takeSign_66 (by decide) ?_
            refine J_icmp_ne 76 dX6_takeSign_68 rfl (by omega) (by omega) (fun c68 => ?_) (fun c68 => ?_)
            · refine J_bipush dX6_takeSign_76 (by decide) ?_
              refine S_i4 dX6_takeSign_78 (by decide) rfl ?_
              refine L_a0 dX6_takeSign_80 ?_
              refine L_i4 dX6_takeSign_81 ?_
              refine L_i2 dX6_takeSign_83 ?_
              refine J_iconst dX6_takeSign_84 ?_
              refine C_v3V vX6_40 dX6_takeSign_85 (qX6_note h_n) rfl rfl (Nat.le_of_ble_eq_true rfl) (by decide) ?_
              refine L_i5 dX6_takeSign_88 ?_
              refine J_if_eq 99 dX6_takeSign_90 rfl (by omega) (fun c90 => ?_) (fun c90 => ?_)
              · exfalso; omega
              · refine L_i2 dX6_takeSign_93 ?_
                refine J_iconst dX6_takeSign_94 ?_
                refine J_iadd dX6_takeSign_95 ?_
                refine E_goto 102 dX6_takeSign_96 rfl ?_
                exact R_i rfl dX6_takeSign_102 (by first | (exfalso; omega) | (rw [if_pos (by omega)]; done) | (rw [if_neg (by omega)]; done)) (by omega)
            · refine J_bipush dX6_takeSign_71 (by decide) ?_
              refine E_goto 78 dX6_takeSign_73 rfl ?_
              refine S_i4 dX6_takeSign_78 (by decide) rfl ?_
              refine L_a0 dX6_takeSign_80 ?_
              refine L_i4 dX6_takeSign_81 ?_
              refine L_i2 dX6_takeSign_83 ?_
              refine J_iconst dX6_takeSign_84 ?_
              refine C_v3V vX6_40 dX6_takeSign_85 (qX6_note h_n) rfl rfl (Nat.le_of_ble_eq_true rfl) (by decide) ?_
              refine L_i5 dX6_takeSign_88 ?_
              refine J_if_eq 99 dX6_takeSign_90 rfl (by omega) (fun c90 => ?_) (fun c90 => ?_)
              · exfalso; omega
              · refine L_i2 dX6_takeSign_93 ?_
                refine J_iconst dX6_takeSign_94 ?_
                refine J_iadd dX6_takeSign_95 ?_
                refine E_goto 102 dX6_takeSign_96 rfl ?_
                exact R_i rfl dX6_takeSign_102 (by first | (exfalso; omega) | (rw [if_pos (by omega)]; done) | (rw [if_neg (by omega)]; done)) (by omega)
      · refine L_i4 dX6_takeSign_33 ?_
        refine J_bipush dX6_takeSign_35 (by decide) ?_
        refine J_icmp_ne 56 dX6_takeSign_37 rfl (by omega) (by omega) (fun c37 => ?_) (fun c37 => ?_)
        · exfalso; omega
        · refine L_a1 dX6_takeSign_40 ?_
          refine L_i2 dX6_takeSign_41 ?_
          refine J_iconst dX6_takeSign_42 ?_
          refine J_iadd dX6_takeSign_43 ?_
          refine J_eqi (b := ((p + 1 : Nat) : Int)) (by omega) ?_
          refine C_v1F vX6_44 dX6_takeSign_44 (qX9_byteN (p := p + 1) h0 (by omega)) rfl rfl (Nat.le_of_ble_eq_true rfl) (by decide) ?_
          refine J_bipush dX6_takeSign_47 (by decide) ?_
          refine J_icmp_ne 56 dX6_takeSign_49 rfl (by omega) (by omega) (fun c49 => ?_) (fun c49 => ?_)
          · exfalso; omega
          · refine J_iconst dX6_takeSign_52 ?_
            refine E_goto 57 dX6_takeSign_53 rfl ?_
            refine S_i5 dX6_takeSign_57 (by decide) rfl ?_
            refine L_i5 dX6_takeSign_59 ?_
            refine J_if_eq 80 dX6_takeSign_61 rfl (by omega) (fun c61 => ?_) (fun c61 => ?_)
            · exfalso; omega
            · refine L_i4 dX6_takeSign_64 ?_
              refine J_bipush dX6_takeSign_66 (by decide) ?_
              refine J_icmp_ne 76 dX6_takeSign_68 rfl (by omega) (by omega) (fun c68 => ?_) (fun c68 => ?_)
              · refine J_bipush dX6_takeSign_76 (by decide) ?_
                refine S_i4 dX6_takeSign_78 (by decide) rfl ?_
                refine L_a0 dX6_takeSign_80 ?_
                refine L_i4 dX6_takeSign_81 ?_
                refine L_i2 dX6_takeSign_83 ?_
                refine J_iconst dX6_takeSign_84 ?_
                refine C_v3V vX6_40 dX6_takeSign_85 (qX6_note h_n) rfl rfl (Nat.le_of_ble_eq_true rfl) (by decide) ?_
                refine L_i5 dX6_takeSign_88 ?_
                refine J_if_eq 99 dX6_takeSign_90 rfl (by omega) (fun c90 => ?_) (fun c90 => ?_)
                · exfalso; omega
                · refine L_i2 dX6_takeSign_93 ?_
                  refine J_iconst dX6_takeSign_94 ?_
                  refine J_iadd dX6_takeSign_95 ?_
                  refine E_goto 102 dX6_takeSign_96 rfl ?_
                  exact R_i rfl dX6_takeSign_102 (by first | (exfalso; omega) | (rw [if_pos (by omega)]; done) | (rw [if_neg (by omega)]; done)) (by omega)
              · refine J_bipush dX6_takeSign_71 (by decide) ?_
                refine E_goto 78 dX6_takeSign_73 rfl ?_
                refine S_i4 dX6_takeSign_78 (by decide) rfl ?_
                refine L_a0 dX6_takeSign_80 ?_
                refine L_i4 dX6_takeSign_81 ?_
                refine L_i2 dX6_takeSign_83 ?_
                refine J_iconst dX6_takeSign_84 ?_
                refine C_v3V vX6_40 dX6_takeSign_85 (qX6_note h_n) rfl rfl (Nat.le_of_ble_eq_true rfl) (by decide) ?_
                refine L_i5 dX6_takeSign_88 ?_
                refine J_if_eq 99 dX6_takeSign_90 rfl (by omega) (fun c90 => ?_) (fun c90 => ?_)
                · exfalso; omega
                · refine L_i2 dX6_takeSign_93 ?_
                  refine J_iconst dX6_takeSign_94 ?_
                  refine J_iadd dX6_takeSign_95 ?_
                  refine E_goto 102 dX6_takeSign_96 rfl ?_
                  exact R_i rfl dX6_takeSign_102 (by first | (exfalso; omega) | (rw [if_pos (by omega)]; done) | (rw [if_neg (by omega)]; done)) (by omega)
    · exfalso; omega
  · have hk := hkd.2 hs
    rw [hk.1, hk.2]
    have hns : (sgk (bz (cbF S) p) = 30 ∨ sgk (bz (cbF S) p) = 31) → ¬ bz (cbF S) (p + 1) = 61 := fun h1 h2 => hs ⟨by rcases h1 with h1 | h1; exact Or.inl (by have := hsg.2.1.mp h1; omega); exact Or.inr (by have := hsg.2.2.mp h1; omega), hz2.mp h2⟩
    refine Sp.of [.ref 4, .ref 1, .int (jI (p : Int)), .retAddr 0, .retAddr 0, .retAddr 0] (by decide) (by simp) (Nat.le_of_ble_eq_true rfl) rfl (fun E => ?_)
    refine E_ldcS1 rfl dX6_takeSign_0 ?_
    refine L_a1 dX6_takeSign_2 ?_
    refine L_i2 dX6_takeSign_3 ?_
    refine C_v1F vX6_44 dX6_takeSign_4 (qX9_byteN h0 (by omega)) rfl rfl (Nat.le_of_ble_eq_true rfl) (by decide) ?_
    refine J_i2c dX6_takeSign_7 (by omega) ?_
    refine C_S 1 (by decide) (by decide) [.int (jI (bz (cbF S) p))] rfl vX6_91 dX6_takeSign_8 (sJ_indexOf (by omega)) rfl (Nat.le_of_ble_eq_true rfl) (by decide) _ rfl ?_
    refine S_i3 dX6_takeSign_11 (by decide) rfl ?_
    refine L_i3 dX6_takeSign_12 ?_
    refine J_if_ge 20 dX6_takeSign_13 rfl (by omega) (fun c13 => ?_) (fun c13 => ?_)
    · refine J_bipush dX6_takeSign_20 (by decide) ?_
      refine L_i3 dX6_takeSign_22 ?_
      refine J_iadd dX6_takeSign_23 ?_
      refine J_eqi (b := sgk (bz (cbF S) p)) (by rw [hsg0, if_neg (by omega)]) ?_
      refine S_i4 dX6_takeSign_24 (by decide) rfl ?_
      refine L_i4 dX6_takeSign_26 ?_
      refine J_bipush dX6_takeSign_28 (by decide) ?_
      refine J_icmp_eq 40 dX6_takeSign_30 rfl (by omega) (by omega) (fun c30 => ?_) (fun c30 => ?_)
      · refine L_a1 dX6_takeSign_40 ?_
        refine L_i2 dX6_takeSign_41 ?_
        refine J_iconst dX6_takeSign_42 ?_
        refine J_iadd dX6_takeSign_43 ?_
        refine J_eqi (b := ((p + 1 : Nat) : Int)) (by omega) ?_
        refine C_v1F vX6_44 dX6_takeSign_44 (qX9_byteN (p := p + 1) h0 (by omega)) rfl rfl (Nat.le_of_ble_eq_true rfl) (by decide) ?_
        refine J_bipush dX6_takeSign_47 (by decide) ?_
        refine J_icmp_ne 56 dX6_takeSign_49 rfl (by omega) (by omega) (fun c49 => ?_) (fun c49 => ?_)
        · refine J_iconst dX6_takeSign_56 ?_
          refine S_i5 dX6_takeSign_57 (by decide) rfl ?_
          refine L_i5 dX6_takeSign_59 ?_
          refine J_if_eq 80 dX6_takeSign_61 rfl (by omega) (fun c61 => ?_) (fun c61 => ?_)
          · refine L_a0 dX6_takeSign_80 ?_
            refine L_i4 dX6_takeSign_81 ?_
            refine L_i2 dX6_takeSign_83 ?_
            refine J_iconst dX6_takeSign_84 ?_
            refine C_v3V vX6_40 dX6_takeSign_85 (qX6_note h_n) rfl rfl (Nat.le_of_ble_eq_true rfl) (by decide) ?_
            refine L_i5 dX6_takeSign_88 ?_
            refine J_if_eq 99 dX6_takeSign_90 rfl (by omega) (fun c90 => ?_) (fun c90 => ?_)
            · refine L_i2 dX6_takeSign_99 ?_
              refine J_iconst dX6_takeSign_100 ?_
              refine J_iadd dX6_takeSign_101 ?_
              exact R_i rfl dX6_takeSign_102 (by first | rfl | (rw [hsg0, if_pos (by omega)])) (by omega)
            · exfalso; omega
          · exfalso; omega
        · exfalso; exact hns (by omega) (by omega)
      · refine L_i4 dX6_takeSign_33 ?_
        refine J_bipush dX6_takeSign_35 (by decide) ?_
        refine J_icmp_ne 56 dX6_takeSign_37 rfl (by omega) (by omega) (fun c37 => ?_) (fun c37 => ?_)
        · refine J_iconst dX6_takeSign_56 ?_
          refine S_i5 dX6_takeSign_57 (by decide) rfl ?_
          refine L_i5 dX6_takeSign_59 ?_
          refine J_if_eq 80 dX6_takeSign_61 rfl (by omega) (fun c61 => ?_) (fun c61 => ?_)
          · refine L_a0 dX6_takeSign_80 ?_
            refine L_i4 dX6_takeSign_81 ?_
            refine L_i2 dX6_takeSign_83 ?_
            refine J_iconst dX6_takeSign_84 ?_
            refine C_v3V vX6_40 dX6_takeSign_85 (qX6_note h_n) rfl rfl (Nat.le_of_ble_eq_true rfl) (by decide) ?_
            refine L_i5 dX6_takeSign_88 ?_
            refine J_if_eq 99 dX6_takeSign_90 rfl (by omega) (fun c90 => ?_) (fun c90 => ?_)
            · refine L_i2 dX6_takeSign_99 ?_
              refine J_iconst dX6_takeSign_100 ?_
              refine J_iadd dX6_takeSign_101 ?_
              exact R_i rfl dX6_takeSign_102 (by first | rfl | (rw [hsg0, if_pos (by omega)])) (by omega)
            · exfalso; omega
          · exfalso; omega
        · refine L_a1 dX6_takeSign_40 ?_
          refine L_i2 dX6_takeSign_41 ?_
          refine J_iconst dX6_takeSign_42 ?_
          refine J_iadd dX6_takeSign_43 ?_
          refine J_eqi (b := ((p + 1 : Nat) : Int)) (by omega) ?_
          refine C_v1F vX6_44 dX6_takeSign_44 (qX9_byteN (p := p + 1) h0 (by omega)) rfl rfl (Nat.le_of_ble_eq_true rfl) (by decide) ?_
          refine J_bipush dX6_takeSign_47 (by decide) ?_
          refine J_icmp_ne 56 dX6_takeSign_49 rfl (by omega) (by omega) (fun c49 => ?_) (fun c49 => ?_)
          · refine J_iconst dX6_takeSign_56 ?_
            refine S_i5 dX6_takeSign_57 (by decide) rfl ?_
            refine L_i5 dX6_takeSign_59 ?_
            refine J_if_eq 80 dX6_takeSign_61 rfl (by omega) (fun c61 => ?_) (fun c61 => ?_)
            · refine L_a0 dX6_takeSign_80 ?_
              refine L_i4 dX6_takeSign_81 ?_
              refine L_i2 dX6_takeSign_83 ?_
              refine J_iconst dX6_takeSign_84 ?_
              refine C_v3V vX6_40 dX6_takeSign_85 (qX6_note h_n) rfl rfl (Nat.le_of_ble_eq_true rfl) (by decide) ?_
              refine L_i5 dX6_takeSign_88 ?_
              refine J_if_eq 99 dX6_takeSign_90 rfl (by omega) (fun c90 => ?_) (fun c90 => ?_)
              · refine L_i2 dX6_takeSign_99 ?_
                refine J_iconst dX6_takeSign_100 ?_
                refine J_iadd dX6_takeSign_101 ?_
                exact R_i rfl dX6_takeSign_102 (by first | rfl | (rw [hsg0, if_pos (by omega)])) (by omega)
              · exfalso; omega
            · exfalso; omega
          · exfalso; exact hns (by omega) (by omega)
    · refine J_iconst dX6_takeSign_16 ?_
      refine E_goto 24 dX6_takeSign_17 rfl ?_
      refine S_i4 dX6_takeSign_24 (by decide) rfl ?_
      refine L_i4 dX6_takeSign_26 ?_
      refine J_bipush dX6_takeSign_28 (by decide) ?_
      refine J_icmp_eq 40 dX6_takeSign_30 rfl (by omega) (by omega) (fun c30 => ?_) (fun c30 => ?_)
      · refine L_a1 dX6_takeSign_40 ?_
        refine L_i2 dX6_takeSign_41 ?_
        refine J_iconst dX6_takeSign_42 ?_
        refine J_iadd dX6_takeSign_43 ?_
        refine J_eqi (b := ((p + 1 : Nat) : Int)) (by omega) ?_
        refine C_v1F vX6_44 dX6_takeSign_44 (qX9_byteN (p := p + 1) h0 (by omega)) rfl rfl (Nat.le_of_ble_eq_true rfl) (by decide) ?_
        refine J_bipush dX6_takeSign_47 (by decide) ?_
        refine J_icmp_ne 56 dX6_takeSign_49 rfl (by omega) (by omega) (fun c49 => ?_) (fun c49 => ?_)
        · refine J_iconst dX6_takeSign_56 ?_
          refine S_i5 dX6_takeSign_57 (by decide) rfl ?_
          refine L_i5 dX6_takeSign_59 ?_
          refine J_if_eq 80 dX6_takeSign_61 rfl (by omega) (fun c61 => ?_) (fun c61 => ?_)
          · refine L_a0 dX6_takeSign_80 ?_
            refine L_i4 dX6_takeSign_81 ?_
            refine L_i2 dX6_takeSign_83 ?_
            refine J_iconst dX6_takeSign_84 ?_
            refine C_v3V vX6_40 dX6_takeSign_85 (qX6_note h_n) rfl rfl (Nat.le_of_ble_eq_true rfl) (by decide) ?_
            refine L_i5 dX6_takeSign_88 ?_
            refine J_if_eq 99 dX6_takeSign_90 rfl (by omega) (fun c90 => ?_) (fun c90 => ?_)
            · refine L_i2 dX6_takeSign_99 ?_
              refine J_iconst dX6_takeSign_100 ?_
              refine J_iadd dX6_takeSign_101 ?_
              exact R_i rfl dX6_takeSign_102 (by first | rfl | (rw [hsg0, if_pos (by omega)])) (by omega)
            · exfalso; omega
          · exfalso; omega
        · exfalso; exact hns (by omega) (by omega)
      · refine L_i4 dX6_takeSign_33 ?_
        refine J_bipush dX6_takeSign_35 (by decide) ?_
        refine J_icmp_ne 56 dX6_takeSign_37 rfl (by omega) (by omega) (fun c37 => ?_) (fun c37 => ?_)
        · refine J_iconst dX6_takeSign_56 ?_
          refine S_i5 dX6_takeSign_57 (by decide) rfl ?_
          refine L_i5 dX6_takeSign_59 ?_
          refine J_if_eq 80 dX6_takeSign_61 rfl (by omega) (fun c61 => ?_) (fun c61 => ?_)
          · refine L_a0 dX6_takeSign_80 ?_
            refine L_i4 dX6_takeSign_81 ?_
            refine L_i2 dX6_takeSign_83 ?_
            refine J_iconst dX6_takeSign_84 ?_
            refine C_v3V vX6_40 dX6_takeSign_85 (qX6_note h_n) rfl rfl (Nat.le_of_ble_eq_true rfl) (by decide) ?_
            refine L_i5 dX6_takeSign_88 ?_
            refine J_if_eq 99 dX6_takeSign_90 rfl (by omega) (fun c90 => ?_) (fun c90 => ?_)
            · refine L_i2 dX6_takeSign_99 ?_
              refine J_iconst dX6_takeSign_100 ?_
              refine J_iadd dX6_takeSign_101 ?_
              exact R_i rfl dX6_takeSign_102 (by first | rfl | (rw [hsg0, if_pos (by omega)])) (by omega)
            · exfalso; omega
          · exfalso; omega
        · refine L_a1 dX6_takeSign_40 ?_
          refine L_i2 dX6_takeSign_41 ?_
          refine J_iconst dX6_takeSign_42 ?_
          refine J_iadd dX6_takeSign_43 ?_
          refine J_eqi (b := ((p + 1 : Nat) : Int)) (by omega) ?_
          refine C_v1F vX6_44 dX6_takeSign_44 (qX9_byteN (p := p + 1) h0 (by omega)) rfl rfl (Nat.le_of_ble_eq_true rfl) (by decide) ?_
          refine J_bipush dX6_takeSign_47 (by decide) ?_
          refine J_icmp_ne 56 dX6_takeSign_49 rfl (by omega) (by omega) (fun c49 => ?_) (fun c49 => ?_)
          · refine J_iconst dX6_takeSign_56 ?_
            refine S_i5 dX6_takeSign_57 (by decide) rfl ?_
            refine L_i5 dX6_takeSign_59 ?_
            refine J_if_eq 80 dX6_takeSign_61 rfl (by omega) (fun c61 => ?_) (fun c61 => ?_)
            · refine L_a0 dX6_takeSign_80 ?_
              refine L_i4 dX6_takeSign_81 ?_
              refine L_i2 dX6_takeSign_83 ?_
              refine J_iconst dX6_takeSign_84 ?_
              refine C_v3V vX6_40 dX6_takeSign_85 (qX6_note h_n) rfl rfl (Nat.le_of_ble_eq_true rfl) (by decide) ?_
              refine L_i5 dX6_takeSign_88 ?_
              refine J_if_eq 99 dX6_takeSign_90 rfl (by omega) (fun c90 => ?_) (fun c90 => ?_)
              · refine L_i2 dX6_takeSign_99 ?_
                refine J_iconst dX6_takeSign_100 ?_
                refine J_iadd dX6_takeSign_101 ?_
                exact R_i rfl dX6_takeSign_102 (by first | rfl | (rw [hsg0, if_pos (by omega)])) (by omega)
              · exfalso; omega
            · exfalso; omega
          · exfalso; exact hns (by omega) (by omega)
