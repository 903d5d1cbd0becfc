/-! ===== the reference: between, sorts, the state of a sum ===== -/
theorem ls_at (B : Nat → Int) : ∀ (m c i : Nat), i < (lsB B m c).length → isL (B (c + i)) ∧ (lsB B m c).getD i 0 = (B (c + i)).toNat := by
  intro m
  induction m with
  | zero => intro c i hh; exact absurd hh (Nat.not_lt_zero _)
  | succ m ih =>
    intro c i hh
    rw [lsB] at hh ⊢
    split at hh
    · rename_i hL
      rw [if_pos hL]
      cases i with
      | zero => exact ⟨hL, rfl⟩
      | succ i =>
        have := ih (c + 1) i (by rw [List.length_cons] at hh; omega)
        rw [show c + (i + 1) = c + 1 + i by omega]
        exact this
    · exact absurd hh (Nat.not_lt_zero _)
theorem lx2 {B : Nat → Int} {c : Nat} (hh : lxt B c = 2) : ¬ B (lxp B c) < 0 ∧ ¬ isD (B (lxp B c)) ∧ isL (B (lxp B c)) := by
  unfold lxt at hh
  by_cases h1 : B (lxp B c) < 0
  · rw [if_pos h1] at hh; omega
  · rw [if_neg h1] at hh
    by_cases h2 : isD (B (lxp B c))
    · rw [if_pos h2] at hh; omega
    · rw [if_neg h2] at hh
      by_cases h3 : isL (B (lxp B c))
      · exact ⟨h1, h2, h3⟩
      · rw [if_neg h3] at hh
        exfalso
        by_cases h4 : (B (lxp B c) = 60 ∨ B (lxp B c) = 62) ∧ B (lxp B c + 1) = 61
        · rw [if_pos h4] at hh; split at hh <;> omega
        · rw [if_neg h4] at hh; split at hh <;> omega
theorem lxe_2 {B : Nat → Int} {c : Nat} (hh : lxt B c = 2) : lxe B c = lxp B c + (lxl B c).length := by
  have h3 := lx2 hh
  unfold lxe
  rw [if_neg h3.1, if_neg h3.2.1, if_pos h3.2.2, lte_ls]
  rfl
theorem list7 {l : List Nat} (hh : l.length = 7) : l = [l.getD 0 0, l.getD 1 0, l.getD 2 0, l.getD 3 0, l.getD 4 0, l.getD 5 0, l.getD 6 0] := by
  match l, hh with
  | [_, _, _, _, _, _, _], _ => rfl
set_option maxRecDepth 100000 in
theorem qX11_isBetween {S T : Nat → Int → Int} {D : List mx_C} {B : Nat → Int} {c : Nat} (hct : CT B T c) (hB : ∀ k, B k ≤ 255) (hby : byF T = B) (htp : TP T) (hen : (lxe B c : Int) ≤ T 36 4) : SpF yX11_isBetween cX11_isBetween 1 (some .boolean) 3 [.ref 36] (W5 S T D) (.int (jI (jb (lxt B c = 2 ∧ (lxw B c : Int) = 27696098611389806)))) (W5 S T D) := by
  have ht := lxt_B hB c
  have hw := lxw_B hB c
  have hE := lxe_2 (B := B) (c := c)
  have hiff := lxw_iff (B := B) (c := c) (r := [98, 101, 116, 119, 101, 101, 110]) (v := 27696098611389806) (by decide) (by decide) (by decide)
  have h4 := htp.1
  refine Sp.of [.ref 36] (by decide) (by simp) (Nat.le_of_ble_eq_true rfl) rfl (fun E => ?_)
  refine L_a0 dX11_isBetween_0 ?_
  refine GW_36_9 fX11_114 dX11_isBetween_1 ?_
  refine J_eqi (b := lxt B c) hct.2.2.1 ?_
  refine J_iconst dX11_isBetween_4 ?_
  refine J_icmp_ne 129 dX11_isBetween_5 rfl (by omega) (by omega) (fun c5 => ?_) (fun c5 => ?_)
  · refine J_iconst dX11_isBetween_129 ?_
    exact R_z rfl dX11_isBetween_130 (by decide) rfl (by first | exact (jb_t ⟨c5, by have e : lxl B c = [98, 101, 116, 119, 101, 101, 110] := by { rw [h7, show (B (lxp B c + 0)).toNat = 98 by omega, show (B (lxp B c + 1)).toNat = 101 by omega, show (B (lxp B c + 2)).toNat = 116 by omega, show (B (lxp B c + 3)).toNat = 119 by omega, show (B (lxp B c + 4)).toNat = 101 by omega, show (B (lxp B c + 5)).toNat = 101 by omega, show (B (lxp B c + 6)).toNat = 110 by omega] }; have := hiff.mpr e; omega⟩).symm | (refine (jb_f (fun hh => ?_)).symm; exact absurd hh.1 (by assumption)) | (refine (jb_f (fun hh => ?_)).symm; have e := hE c5; have e2 := hiff.mp (by omega); rw [e2] at e; exact c19 (by rw [e]; show ((lxp B c + 7 : Nat) : Int) - (lxp B c : Int) = 7; omega)) | (refine (jb_f (fun hh => ?_)).symm; have e := (hiff.mp (by omega)).symm.trans h7; simp only [List.cons.injEq] at e; omega))
  · refine L_a0 dX11_isBetween_8 ?_
    refine GW_36_7 fX11_105 dX11_isBetween_9 ?_
    refine J_eqi (b := (lxe B c : Int)) hct.2.1 ?_
    refine L_a0 dX11_isBetween_12 ?_
    refine GW_36_8 fX11_111 dX11_isBetween_13 ?_
    refine J_eqi (b := (lxp B c : Int)) hct.1 ?_
    refine J_isub dX11_isBetween_16 ?_
    refine J_bipush dX11_isBetween_17 (by decide) ?_
    refine J_icmp_ne 129 dX11_isBetween_19 rfl (by omega) (by omega) (fun c19 => ?_) (fun c19 => ?_)
    · refine J_iconst dX11_isBetween_129 ?_
      exact R_z rfl dX11_isBetween_130 (by decide) rfl (by first | exact (jb_t ⟨c5, by have e : lxl B c = [98, 101, 116, 119, 101, 101, 110] := by { rw [h7, show (B (lxp B c + 0)).toNat = 98 by omega, show (B (lxp B c + 1)).toNat = 101 by omega, show (B (lxp B c + 2)).toNat = 116 by omega, show (B (lxp B c + 3)).toNat = 119 by omega, show (B (lxp B c + 4)).toNat = 101 by omega, show (B (lxp B c + 5)).toNat = 101 by omega, show (B (lxp B c + 6)).toNat = 110 by omega] }; have := hiff.mpr e; omega⟩).symm | (refine (jb_f (fun hh => ?_)).symm; exact absurd hh.1 (by assumption)) | (refine (jb_f (fun hh => ?_)).symm; have e := hE c5; have e2 := hiff.mp (by omega); rw [e2] at e; exact c19 (by rw [e]; show ((lxp B c + 7 : Nat) : Int) - (lxp B c : Int) = 7; omega)) | (refine (jb_f (fun hh => ?_)).symm; have e := (hiff.mp (by omega)).symm.trans h7; simp only [List.cons.injEq] at e; omega))
    · have hlen : (lxl B c).length = 7 := by have := hE c5; omega
      have hy : ∀ i : Nat, i < 7 → isL (B (lxp B c + i)) ∧ (lxl B c).getD i 0 = (B (lxp B c + i)).toNat := fun i hi => ls_at B 301 (lxp B c) i (by show i < (lxl B c).length; omega)
      have hy256 : ∀ i : Nat, i < 7 → (B (lxp B c + i)).toNat < 256 := fun i hi => by have := (hy i hi).1; omega
      have h7 := list7 hlen
      rw [(hy 0 (by omega)).2, (hy 1 (by omega)).2, (hy 2 (by omega)).2, (hy 3 (by omega)).2, (hy 4 (by omega)).2, (hy 5 (by omega)).2, (hy 6 (by omega)).2] at h7
      have q0 := hy256 0 (by omega)
      have q1 := hy256 1 (by omega)
      have q2 := hy256 2 (by omega)
      have q3 := hy256 3 (by omega)
      have q4 := hy256 4 (by omega)
      have q5 := hy256 5 (by omega)
      have q6 := hy256 6 (by omega)
      refine L_a0 dX11_isBetween_22 ?_
      refine L_a0 dX11_isBetween_23 ?_
      refine GW_36_8 fX11_111 dX11_isBetween_24 ?_
      refine J_eqi (b := ((lxp B c + 0 : Nat) : Int)) hct.1 ?_
      refine C_v1F vX11_108 dX11_isBetween_27 (qX11_byteAt (k := lxp B c + 0) htp (by omega)) rfl rfl (Nat.le_of_ble_eq_true rfl) (by decide) ?_
      refine J_eqi (b := ((((B (lxp B c + 0)).toNat) : Nat) : Int)) (by rw [hby]; have := hy 0 (by omega); omega) ?_
      refine L_a0 dX11_isBetween_30 ?_
      refine L_a0 dX11_isBetween_31 ?_
      refine GW_36_8 fX11_111 dX11_isBetween_32 ?_
      refine J_eqi (b := ((lxp B c + 0 : Nat) : Int)) hct.1 ?_
      refine J_iconst dX11_isBetween_35 ?_
      refine J_iadd dX11_isBetween_36 ?_
      refine J_eqi (b := ((lxp B c + 1 : Nat) : Int)) (by omega) ?_
      refine C_v1F vX11_108 dX11_isBetween_37 (qX11_byteAt (k := lxp B c + 1) htp (by omega)) rfl rfl (Nat.le_of_ble_eq_true rfl) (by decide) ?_
      refine J_eqi (b := ((((B (lxp B c + 1)).toNat) : Nat) : Int)) (by rw [hby]; have := hy 1 (by omega); omega) ?_
      refine L_a0 dX11_isBetween_40 ?_
      refine L_a0 dX11_isBetween_41 ?_
      refine GW_36_8 fX11_111 dX11_isBetween_42 ?_
      refine J_eqi (b := ((lxp B c + 0 : Nat) : Int)) hct.1 ?_
      refine J_iconst dX11_isBetween_45 ?_
      refine J_iadd dX11_isBetween_46 ?_
      refine J_eqi (b := ((lxp B c + 2 : Nat) : Int)) (by omega) ?_
      refine C_v1F vX11_108 dX11_isBetween_47 (qX11_byteAt (k := lxp B c + 2) htp (by omega)) rfl rfl (Nat.le_of_ble_eq_true rfl) (by decide) ?_
      refine J_eqi (b := ((((B (lxp B c + 2)).toNat) : Nat) : Int)) (by rw [hby]; have := hy 2 (by omega); omega) ?_
      refine L_a0 dX11_isBetween_50 ?_
      refine L_a0 dX11_isBetween_51 ?_
      refine GW_36_8 fX11_111 dX11_isBetween_52 ?_
      refine J_eqi (b := ((lxp B c + 0 : Nat) : Int)) hct.1 ?_
      refine J_iconst dX11_isBetween_55 ?_
      refine J_iadd dX11_isBetween_56 ?_
      refine J_eqi (b := ((lxp B c + 3 : Nat) : Int)) (by omega) ?_
      refine C_v1F vX11_108 dX11_isBetween_57 (qX11_byteAt (k := lxp B c + 3) htp (by omega)) rfl rfl (Nat.le_of_ble_eq_true rfl) (by decide) ?_
      refine J_eqi (b := ((((B (lxp B c + 3)).toNat) : Nat) : Int)) (by rw [hby]; have := hy 3 (by omega); omega) ?_
      refine C_s4F vX11_144 dX11_isBetween_60 (qX11_w4 (hy256 0 (by omega)) (hy256 1 (by omega)) (hy256 2 (by omega)) (hy256 3 (by omega))) (Nat.le_of_ble_eq_true rfl) (by decide) ?_
      refine J_bipush dX11_isBetween_63 (by decide) ?_
      refine J_bipush dX11_isBetween_65 (by decide) ?_
      refine J_bipush dX11_isBetween_67 (by decide) ?_
      refine J_bipush dX11_isBetween_69 (by decide) ?_
      refine C_s4F vX11_144 dX11_isBetween_71 (qX11_w4 (x := 98) (z := 101) (u := 116) (v := 119) (by decide) (by decide) (by decide) (by decide)) (Nat.le_of_ble_eq_true rfl) (by decide) ?_
      refine J_eql (b := 1650816119) (by decide) ?_
      refine JL_ne 129 dX11_isBetween_74 dX11_isBetween_75 rfl (by omega) (by omega) (fun c75 => ?_) (fun c75 => ?_)
      · refine J_iconst dX11_isBetween_129 ?_
        exact R_z rfl dX11_isBetween_130 (by decide) rfl (by first | exact (jb_t ⟨c5, by have e : lxl B c = [98, 101, 116, 119, 101, 101, 110] := by { rw [h7, show (B (lxp B c + 0)).toNat = 98 by omega, show (B (lxp B c + 1)).toNat = 101 by omega, show (B (lxp B c + 2)).toNat = 116 by omega, show (B (lxp B c + 3)).toNat = 119 by omega, show (B (lxp B c + 4)).toNat = 101 by omega, show (B (lxp B c + 5)).toNat = 101 by omega, show (B (lxp B c + 6)).toNat = 110 by omega] }; have := hiff.mpr e; omega⟩).symm | (refine (jb_f (fun hh => ?_)).symm; exact absurd hh.1 (by assumption)) | (refine (jb_f (fun hh => ?_)).symm; have e := hE c5; have e2 := hiff.mp (by omega); rw [e2] at e; exact c19 (by rw [e]; show ((lxp B c + 7 : Nat) : Int) - (lxp B c : Int) = 7; omega)) | (refine (jb_f (fun hh => ?_)).symm; have e := (hiff.mp (by omega)).symm.trans h7; simp only [List.cons.injEq] at e; omega))
      · refine L_a0 dX11_isBetween_78 ?_
        refine L_a0 dX11_isBetween_79 ?_
        refine GW_36_8 fX11_111 dX11_isBetween_80 ?_
        refine J_eqi (b := ((lxp B c + 0 : Nat) : Int)) hct.1 ?_
        refine J_iconst dX11_isBetween_83 ?_
        refine J_iadd dX11_isBetween_84 ?_
        refine J_eqi (b := ((lxp B c + 4 : Nat) : Int)) (by omega) ?_
        refine C_v1F vX11_108 dX11_isBetween_85 (qX11_byteAt (k := lxp B c + 4) htp (by omega)) rfl rfl (Nat.le_of_ble_eq_true rfl) (by decide) ?_
        refine J_eqi (b := ((((B (lxp B c + 4)).toNat) : Nat) : Int)) (by rw [hby]; have := hy 4 (by omega); omega) ?_
        refine L_a0 dX11_isBetween_88 ?_
        refine L_a0 dX11_isBetween_89 ?_
        refine GW_36_8 fX11_111 dX11_isBetween_90 ?_
        refine J_eqi (b := ((lxp B c + 0 : Nat) : Int)) hct.1 ?_
        refine J_iconst dX11_isBetween_93 ?_
        refine J_iadd dX11_isBetween_94 ?_
        refine J_eqi (b := ((lxp B c + 5 : Nat) : Int)) (by omega) ?_
        refine C_v1F vX11_108 dX11_isBetween_95 (qX11_byteAt (k := lxp B c + 5) htp (by omega)) rfl rfl (Nat.le_of_ble_eq_true rfl) (by decide) ?_
        refine J_eqi (b := ((((B (lxp B c + 5)).toNat) : Nat) : Int)) (by rw [hby]; have := hy 5 (by omega); omega) ?_
        refine L_a0 dX11_isBetween_98 ?_
        refine L_a0 dX11_isBetween_99 ?_
        refine GW_36_8 fX11_111 dX11_isBetween_100 ?_
        refine J_eqi (b := ((lxp B c + 0 : Nat) : Int)) hct.1 ?_
        refine J_bipush dX11_isBetween_103 (by decide) ?_
        refine J_iadd dX11_isBetween_105 ?_
        refine J_eqi (b := ((lxp B c + 6 : Nat) : Int)) (by omega) ?_
        refine C_v1F vX11_108 dX11_isBetween_106 (qX11_byteAt (k := lxp B c + 6) htp (by omega)) rfl rfl (Nat.le_of_ble_eq_true rfl) (by decide) ?_
        refine J_eqi (b := ((((B (lxp B c + 6)).toNat) : Nat) : Int)) (by rw [hby]; have := hy 6 (by omega); omega) ?_
        refine C_s3F vX11_140 dX11_isBetween_109 (qX11_w3 (hy256 4 (by omega)) (hy256 5 (by omega)) (hy256 6 (by omega))) (Nat.le_of_ble_eq_true rfl) (by decide) ?_
        refine J_bipush dX11_isBetween_112 (by decide) ?_
        refine J_bipush dX11_isBetween_114 (by decide) ?_
        refine J_bipush dX11_isBetween_116 (by decide) ?_
        refine C_s3F vX11_140 dX11_isBetween_118 (qX11_w3 (x := 101) (z := 101) (u := 110) (by decide) (by decide) (by decide)) (Nat.le_of_ble_eq_true rfl) (by decide) ?_
        refine J_eql (b := 6645102) (by decide) ?_
        refine JL_ne 129 dX11_isBetween_121 dX11_isBetween_122 rfl (by omega) (by omega) (fun c122 => ?_) (fun c122 => ?_)
        · refine J_iconst dX11_isBetween_129 ?_
          exact R_z rfl dX11_isBetween_130 (by decide) rfl (by first | exact (jb_t ⟨c5, by have e : lxl B c = [98, 101, 116, 119, 101, 101, 110] := by { rw [h7, show (B (lxp B c + 0)).toNat = 98 by omega, show (B (lxp B c + 1)).toNat = 101 by omega, show (B (lxp B c + 2)).toNat = 116 by omega, show (B (lxp B c + 3)).toNat = 119 by omega, show (B (lxp B c + 4)).toNat = 101 by omega, show (B (lxp B c + 5)).toNat = 101 by omega, show (B (lxp B c + 6)).toNat = 110 by omega] }; have := hiff.mpr e; omega⟩).symm | (refine (jb_f (fun hh => ?_)).symm; exact absurd hh.1 (by assumption)) | (refine (jb_f (fun hh => ?_)).symm; have e := hE c5; have e2 := hiff.mp (by omega); rw [e2] at e; exact c19 (by rw [e]; show ((lxp B c + 7 : Nat) : Int) - (lxp B c : Int) = 7; omega)) | (refine (jb_f (fun hh => ?_)).symm; have e := (hiff.mp (by omega)).symm.trans h7; simp only [List.cons.injEq] at e; omega))
        · refine J_iconst dX11_isBetween_125 ?_
          refine E_goto 130 dX11_isBetween_126 rfl ?_
          exact R_z rfl dX11_isBetween_130 (by decide) rfl (by first | exact (jb_t ⟨c5, by have e : lxl B c = [98, 101, 116, 119, 101, 101, 110] := by { rw [h7, show (B (lxp B c + 0)).toNat = 98 by omega, show (B (lxp B c + 1)).toNat = 101 by omega, show (B (lxp B c + 2)).toNat = 116 by omega, show (B (lxp B c + 3)).toNat = 119 by omega, show (B (lxp B c + 4)).toNat = 101 by omega, show (B (lxp B c + 5)).toNat = 101 by omega, show (B (lxp B c + 6)).toNat = 110 by omega] }; have := hiff.mpr e; omega⟩).symm | (refine (jb_f (fun hh => ?_)).symm; exact absurd hh.1 (by assumption)) | (refine (jb_f (fun hh => ?_)).symm; have e := hE c5; have e2 := hiff.mp (by omega); rw [e2] at e; exact c19 (by rw [e]; show ((lxp B c + 7 : Nat) : Int) - (lxp B c : Int) = 7; omega)) | (refine (jb_f (fun hh => ?_)).symm; have e := (hiff.mp (by omega)).symm.trans h7; simp only [List.cons.injEq] at e; omega))

set_option maxRecDepth 100000 in
theorem qX11_sortOf {S T : Nat → Int → Int} {D : List mx_C} {B : Nat → Int} {c : Nat} (hct : CT B T c) (hB : ∀ k, B k ≤ 255) (hby : byF T = B) (htp : TP T) (hen : (lxe B c : Int) ≤ T 36 4) : SpF yX11_sortOf cX11_sortOf 1 (some .int) 4 [.ref 36] (W5 S T D) (.int (jI (srR (lxt B c) (lxw B c)))) (W5 S T D) := by
  have ht := lxt_B hB c
  have hw := lxw_B hB c
  refine Sp.of [.ref 36] (by decide) (by simp) (Nat.le_of_ble_eq_true rfl) rfl (fun E => ?_)
  refine L_a0 dX11_sortOf_0 ?_
  refine C_v0F vX11_242 dX11_sortOf_1 (qX11_isBetween hct hB hby htp hen) rfl rfl (Nat.le_of_ble_eq_true rfl) (by decide) ?_
  refine J_ifeqB 9 dX11_sortOf_4 rfl (fun c4 => ?_) (fun c4 => ?_)
  · refine L_a0 dX11_sortOf_9 ?_
    refine J_bipush dX11_sortOf_10 (by decide) ?_
    refine J_bipush dX11_sortOf_12 (by decide) ?_
    refine J_bipush dX11_sortOf_14 (by decide) ?_
    refine J_bipush dX11_sortOf_16 (by decide) ?_
    refine J_bipush dX11_sortOf_18 (by decide) ?_
    refine C_s5F vX11_148 dX11_sortOf_20 (qX11_w5 (x := 116) (z := 105) (u := 114) (v := 101) (t := 115) (by decide) (by decide) (by decide) (by decide) (by decide)) (Nat.le_of_ble_eq_true rfl) (by decide) ?_
    refine J_eql (b := 499985311091) (by decide) ?_
    refine C_v1F vX11_203 dX11_sortOf_23 (qX11_isWord hct hB (by omega)) rfl rfl (Nat.le_of_ble_eq_true rfl) (by decide) ?_
    refine J_ifeqB 31 dX11_sortOf_26 rfl (fun c26 => ?_) (fun c26 => ?_)
    · refine L_a0 dX11_sortOf_31 ?_
      refine J_bipush dX11_sortOf_32 (by decide) ?_
      refine J_bipush dX11_sortOf_34 (by decide) ?_
      refine J_bipush dX11_sortOf_36 (by decide) ?_
      refine J_bipush dX11_sortOf_38 (by decide) ?_
      refine C_s4F vX11_144 dX11_sortOf_40 (qX11_w4 (x := 108) (z := 111) (u := 110) (v := 103) (by decide) (by decide) (by decide) (by decide)) (Nat.le_of_ble_eq_true rfl) (by decide) ?_
      refine J_eql (b := 1819242087) (by decide) ?_
      refine C_v1F vX11_203 dX11_sortOf_43 (qX11_isWord hct hB (by omega)) rfl rfl (Nat.le_of_ble_eq_true rfl) (by decide) ?_
      refine J_ifeqB 51 dX11_sortOf_46 rfl (fun c46 => ?_) (fun c46 => ?_)
      · refine L_a0 dX11_sortOf_51 ?_
        refine J_bipush dX11_sortOf_52 (by decide) ?_
        refine J_bipush dX11_sortOf_54 (by decide) ?_
        refine J_bipush dX11_sortOf_56 (by decide) ?_
        refine J_bipush dX11_sortOf_58 (by decide) ?_
        refine C_s4F vX11_144 dX11_sortOf_60 (qX11_w4 (x := 106) (z := 111) (u := 105) (v := 110) (by decide) (by decide) (by decide) (by decide)) (Nat.le_of_ble_eq_true rfl) (by decide) ?_
        refine J_eql (b := 1785686382) (by decide) ?_
        refine C_v1F vX11_203 dX11_sortOf_63 (qX11_isWord hct hB (by omega)) rfl rfl (Nat.le_of_ble_eq_true rfl) (by decide) ?_
        refine J_ifeqB 71 dX11_sortOf_66 rfl (fun c66 => ?_) (fun c66 => ?_)
        · refine L_a0 dX11_sortOf_71 ?_
          refine J_bipush dX11_sortOf_72 (by decide) ?_
          refine J_bipush dX11_sortOf_74 (by decide) ?_
          refine J_bipush dX11_sortOf_76 (by decide) ?_
          refine J_bipush dX11_sortOf_78 (by decide) ?_
          refine J_bipush dX11_sortOf_80 (by decide) ?_
          refine C_s5F vX11_148 dX11_sortOf_82 (qX11_w5 (x := 108) (z := 101) (u := 97) (v := 118) (t := 101) (by decide) (by decide) (by decide) (by decide) (by decide)) (Nat.le_of_ble_eq_true rfl) (by decide) ?_
          refine J_eql (b := 465557354085) (by decide) ?_
          refine C_v1F vX11_203 dX11_sortOf_85 (qX11_isWord hct hB (by omega)) rfl rfl (Nat.le_of_ble_eq_true rfl) (by decide) ?_
          refine J_ifeqB 93 dX11_sortOf_88 rfl (fun c88 => ?_) (fun c88 => ?_)
          · refine L_a0 dX11_sortOf_93 ?_
            refine J_bipush dX11_sortOf_94 (by decide) ?_
            refine J_bipush dX11_sortOf_96 (by decide) ?_
            refine J_bipush dX11_sortOf_98 (by decide) ?_
            refine J_bipush dX11_sortOf_100 (by decide) ?_
            refine C_s4F vX11_144 dX11_sortOf_102 (qX11_w4 (x := 116) (z := 117) (u := 114) (v := 110) (by decide) (by decide) (by decide) (by decide)) (Nat.le_of_ble_eq_true rfl) (by decide) ?_
            refine J_eql (b := 1953854062) (by decide) ?_
            refine C_v1F vX11_203 dX11_sortOf_105 (qX11_isWord hct hB (by omega)) rfl rfl (Nat.le_of_ble_eq_true rfl) (by decide) ?_
            refine J_ifeqB 115 dX11_sortOf_108 rfl (fun c108 => ?_) (fun c108 => ?_)
            · refine L_a0 dX11_sortOf_115 ?_
              refine J_bipush dX11_sortOf_116 (by decide) ?_
              refine J_bipush dX11_sortOf_118 (by decide) ?_
              refine J_bipush dX11_sortOf_120 (by decide) ?_
              refine C_s3F vX11_140 dX11_sortOf_122 (qX11_w3 (x := 100) (z := 97) (u := 121) (by decide) (by decide) (by decide)) (Nat.le_of_ble_eq_true rfl) (by decide) ?_
              refine J_eql (b := 6578553) (by decide) ?_
              refine C_v1F vX11_203 dX11_sortOf_125 (qX11_isWord hct hB (by omega)) rfl rfl (Nat.le_of_ble_eq_true rfl) (by decide) ?_
              refine J_ifeqB 136 dX11_sortOf_128 rfl (fun c128 => ?_) (fun c128 => ?_)
              · refine J_iconst dX11_sortOf_136 ?_
                exact R_i rfl dX11_sortOf_137 rfl (by unfold srR; repeat' split; all_goals omega)
              · refine J_bipush dX11_sortOf_131 (by decide) ?_
                refine E_goto 137 dX11_sortOf_133 rfl ?_
                exact R_i rfl dX11_sortOf_137 rfl (by unfold srR; repeat' split; all_goals omega)
            · refine J_iconst dX11_sortOf_111 ?_
              refine E_goto 137 dX11_sortOf_112 rfl ?_
              exact R_i rfl dX11_sortOf_137 rfl (by unfold srR; repeat' split; all_goals omega)
          · refine J_iconst dX11_sortOf_91 ?_
            exact R_i rfl dX11_sortOf_92 rfl (by unfold srR; repeat' split; all_goals omega)
        · refine J_iconst dX11_sortOf_69 ?_
          exact R_i rfl dX11_sortOf_70 rfl (by unfold srR; repeat' split; all_goals omega)
      · refine J_iconst dX11_sortOf_49 ?_
        exact R_i rfl dX11_sortOf_50 rfl (by unfold srR; repeat' split; all_goals omega)
    · refine J_iconst dX11_sortOf_29 ?_
      exact R_i rfl dX11_sortOf_30 rfl (by unfold srR; repeat' split; all_goals omega)
  · refine J_iconst dX11_sortOf_7 ?_
    exact R_i rfl dX11_sortOf_8 rfl (by unfold srR; repeat' split; all_goals omega)

