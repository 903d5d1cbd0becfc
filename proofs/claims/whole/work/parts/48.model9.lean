/-! ===== the reference: laws at work ===== -/
def clipI (v : Int) : Int := if 1000000 < v then 1000000 else if v < -1000000 then -1000000 else v
theorem clipI_B (v : Int) : -1000000 ≤ clipI v ∧ clipI v ≤ 1000000 := by
  unfold clipI
  split
  · omega
  · split <;> omega
def twoI (o x y : Int) : Int := if o = 6 then clipI (x + y) else if o = 7 then clipI (x - y) else if o = 8 then clipI (x * y) else if y = 0 then 0 else clipI (x.tdiv y)
theorem twoI_B (o x y : Int) : -1000000 ≤ twoI o x y ∧ twoI o x y ≤ 1000000 := by
  unfold twoI
  split
  · exact clipI_B _
  · split
    · exact clipI_B _
    · split
      · exact clipI_B _
      · split
        · decide
        · exact clipI_B _
theorem mul_B {x y : Int} (hx : -1000000 ≤ x ∧ x ≤ 1000000) (hy : -1000000 ≤ y ∧ y ≤ 1000000) : -1000000000000 ≤ x * y ∧ x * y ≤ 1000000000000 := by
  have h1 : 0 ≤ (1000000 - x) * (1000000 - y) := Int.mul_nonneg (by omega) (by omega)
  have h2 : 0 ≤ (1000000 + x) * (1000000 + y) := Int.mul_nonneg (by omega) (by omega)
  have h3 : 0 ≤ (1000000 - x) * (1000000 + y) := Int.mul_nonneg (by omega) (by omega)
  have h4 : 0 ≤ (1000000 + x) * (1000000 - y) := Int.mul_nonneg (by omega) (by omega)
  simp only [Int.sub_mul, Int.mul_sub, Int.add_mul, Int.mul_add] at h1 h2 h3 h4
  omega
theorem tdiv_B {x y : Int} (hx : -1000000 ≤ x ∧ x ≤ 1000000) : -1000000 ≤ x.tdiv y ∧ x.tdiv y ≤ 1000000 := by
  have h := Int.natAbs_tdiv_le_natAbs x y
  omega
abbrev askI (o x y : Int) : Prop := (o = 10 ∧ x < y) ∨ (o = 11 ∧ x ≤ y) ∨ (o = 12 ∧ y < x) ∨ (o = 13 ∧ y ≤ x) ∨ (o = 14 ∧ x = y) ∨ (o = 15 ∧ ¬ x = y)
def oneI (a : Int → Int) (o v : Int) : Int := if o = 5 then -v else if o = 2 then jb ((1 ≤ v ∧ v ≤ 8) ∧ md_stands a (v - 1)) else jb ((0 ≤ v ∧ v < a 7) ∧ ¬ md_taken a / 2 ^ v.toNat % 2 = 1)
theorem oneI_B {a : Int → Int} {o v : Int} (h : -1000000 ≤ v ∧ v ≤ 1000000) : -1000000 ≤ oneI a o v ∧ oneI a o v ≤ 1000000 := by
  unfold oneI
  split
  · omega
  · split
    · have := jb_B ((1 ≤ v ∧ v ≤ 8) ∧ md_stands a (v - 1)); omega
    · have := jb_B ((0 ≤ v ∧ v < a 7) ∧ ¬ md_taken a / 2 ^ v.toNat % 2 = 1); omega
abbrev joinI (o b c : Int) : Prop := (o = 21 ∧ ¬ b = 0 ∧ ¬ c = 0) ∨ (¬ o = 21 ∧ (¬ b = 0 ∨ ¬ c = 0))
set_option maxRecDepth 100000 in
theorem qX11_clip {hp : List mx_C} {v : Int} (h_v : -9000000000000000000 ≤ v ∧ v ≤ 9000000000000000000) : SpF yX11_clip cX11_clip 2 (some .long) 0 [.long (jL v)] hp (.long (jL (clipI v))) hp := by
  refine Sp.of [.long (jL v), .retAddr 0] (by decide) (by simp) (Nat.le_of_ble_eq_true rfl) rfl (fun E => ?_)
  refine L_l0 dX11_clip_0 ?_
  refine J_ldc2 (1000000) dX11_clip_1 kX11_265 (by decide) ?_
  refine JL_le 14 dX11_clip_4 dX11_clip_5 rfl (by omega) (by omega) (fun c5 => ?_) (fun c5 => ?_)
  · refine L_l0 dX11_clip_14 ?_
    refine J_ldc2 (-1000000) dX11_clip_15 kX11_267 (by decide) ?_
    refine JL_ge 28 dX11_clip_18 dX11_clip_19 rfl (by omega) (by omega) (fun c19 => ?_) (fun c19 => ?_)
    · refine L_l0 dX11_clip_28 ?_
      exact R_l rfl dX11_clip_29 rfl (by unfold clipI; split <;> first | omega | (split <;> omega))
    · refine J_ldc2 (-1000000) dX11_clip_22 kX11_267 (by decide) ?_
      refine E_goto 29 dX11_clip_25 rfl ?_
      exact R_l rfl dX11_clip_29 rfl (by unfold clipI; split <;> first | omega | (split <;> omega))
  · refine J_ldc2 (1000000) dX11_clip_8 kX11_265 (by decide) ?_
    refine E_goto 29 dX11_clip_11 rfl ?_
    exact R_l rfl dX11_clip_29 rfl (by unfold clipI; split <;> first | omega | (split <;> omega))

set_option maxRecDepth 100000 in
theorem qX11_two6 {hp : List mx_C} {x : Int} (h_x : -1000000 ≤ x ∧ x ≤ 1000000) {y : Int} (h_y : -1000000 ≤ y ∧ y ≤ 1000000) : SpF yX11_two cX11_two 5 (some .long) 1 [.int (jI 6), .long (jL x), .long (jL y)] hp (.long (jL (twoI 6 x y))) hp := by
  have hm := mul_B h_x h_y
  have hd := tdiv_B (y := y) h_x
  refine Sp.of [.int (jI 6), .long (jL x), .retAddr 0, .long (jL y), .retAddr 0] (by decide) (by simp) (Nat.le_of_ble_eq_true rfl) rfl (fun E => ?_)
  refine L_i0 dX11_two_0 ?_
  refine J_tableIn (off := 27) 28 dX11_two_1 (by decide) (by decide) rfl rfl ?_
  refine L_l1 dX11_two_28 ?_
  refine L_l3 dX11_two_29 ?_
  refine J_ladd dX11_two_30 ?_
  refine C_s1F vX11_269 dX11_two_31 (qX11_clip (by omega)) (Nat.le_of_ble_eq_true rfl) (by decide) ?_
  exact R_l rfl dX11_two_34 rfl (by unfold twoI; rw [if_pos rfl])

set_option maxRecDepth 100000 in
theorem qX11_two7 {hp : List mx_C} {x : Int} (h_x : -1000000 ≤ x ∧ x ≤ 1000000) {y : Int} (h_y : -1000000 ≤ y ∧ y ≤ 1000000) : SpF yX11_two cX11_two 5 (some .long) 1 [.int (jI 7), .long (jL x), .long (jL y)] hp (.long (jL (twoI 7 x y))) hp := by
  have hm := mul_B h_x h_y
  have hd := tdiv_B (y := y) h_x
  refine Sp.of [.int (jI 7), .long (jL x), .retAddr 0, .long (jL y), .retAddr 0] (by decide) (by simp) (Nat.le_of_ble_eq_true rfl) rfl (fun E => ?_)
  refine L_i0 dX11_two_0 ?_
  refine J_tableIn (off := 34) 35 dX11_two_1 (by decide) (by decide) rfl rfl ?_
  refine L_l1 dX11_two_35 ?_
  refine L_l3 dX11_two_36 ?_
  refine J_lsub dX11_two_37 ?_
  refine C_s1F vX11_269 dX11_two_38 (qX11_clip (by omega)) (Nat.le_of_ble_eq_true rfl) (by decide) ?_
  exact R_l rfl dX11_two_41 rfl (by unfold twoI; rw [if_neg (by decide), if_pos rfl])

set_option maxRecDepth 100000 in
theorem qX11_two8 {hp : List mx_C} {x : Int} (h_x : -1000000 ≤ x ∧ x ≤ 1000000) {y : Int} (h_y : -1000000 ≤ y ∧ y ≤ 1000000) : SpF yX11_two cX11_two 5 (some .long) 1 [.int (jI 8), .long (jL x), .long (jL y)] hp (.long (jL (twoI 8 x y))) hp := by
  have hm := mul_B h_x h_y
  have hd := tdiv_B (y := y) h_x
  refine Sp.of [.int (jI 8), .long (jL x), .retAddr 0, .long (jL y), .retAddr 0] (by decide) (by simp) (Nat.le_of_ble_eq_true rfl) rfl (fun E => ?_)
  refine L_i0 dX11_two_0 ?_
  refine J_tableIn (off := 41) 42 dX11_two_1 (by decide) (by decide) rfl rfl ?_
  refine L_l1 dX11_two_42 ?_
  refine L_l3 dX11_two_43 ?_
  refine J_lmul dX11_two_44 ?_
  refine C_s1F vX11_269 dX11_two_45 (qX11_clip (by omega)) (Nat.le_of_ble_eq_true rfl) (by decide) ?_
  exact R_l rfl dX11_two_48 rfl (by unfold twoI; rw [if_neg (by decide), if_neg (by decide), if_pos rfl])

set_option maxRecDepth 100000 in
theorem qX11_two9 {hp : List mx_C} {x : Int} (h_x : -1000000 ≤ x ∧ x ≤ 1000000) {y : Int} (h_y : -1000000 ≤ y ∧ y ≤ 1000000) : SpF yX11_two cX11_two 5 (some .long) 1 [.int (jI 9), .long (jL x), .long (jL y)] hp (.long (jL (twoI 9 x y))) hp := by
  have hm := mul_B h_x h_y
  have hd := tdiv_B (y := y) h_x
  refine Sp.of [.int (jI 9), .long (jL x), .retAddr 0, .long (jL y), .retAddr 0] (by decide) (by simp) (Nat.le_of_ble_eq_true rfl) rfl (fun E => ?_)
  refine L_i0 dX11_two_0 ?_
  refine J_tableOut 49 dX11_two_1 (by decide) (by decide) rfl ?_
  refine L_l3 dX11_two_49 ?_
  refine J_lconst 0 dX11_two_50 (by decide) ?_
  refine JL_ne 59 dX11_two_51 dX11_two_52 rfl (by omega) (by omega) (fun c52 => ?_) (fun c52 => ?_)
  · refine L_l1 dX11_two_59 ?_
    refine L_l3 dX11_two_60 ?_
    refine J_ldiv dX11_two_61 (by omega) (by omega) (by omega) ?_
    refine C_s1F vX11_269 dX11_two_62 (qX11_clip (by omega)) (Nat.le_of_ble_eq_true rfl) (by decide) ?_
    exact R_l rfl dX11_two_65 rfl (by unfold twoI; rw [if_neg (by decide), if_neg (by decide), if_neg (by decide)]; first | rw [if_pos (by omega)] | rw [if_neg (by omega)])
  · refine J_lconst 0 dX11_two_55 (by decide) ?_
    refine E_goto 65 dX11_two_56 rfl ?_
    exact R_l rfl dX11_two_65 rfl (by unfold twoI; rw [if_neg (by decide), if_neg (by decide), if_neg (by decide)]; first | rw [if_pos (by omega)] | rw [if_neg (by omega)])

set_option maxRecDepth 100000 in
theorem qX11_isAsked {hp : List mx_C} {o : Int} (h_o : 10 ≤ o ∧ o ≤ 15) {x : Int} (h_x : -1000000 ≤ x ∧ x ≤ 1000000) {y : Int} (h_y : -1000000 ≤ y ∧ y ≤ 1000000) : SpF yX11_isAsked cX11_isAsked 5 (some .boolean) 0 [.int (jI o), .long (jL x), .long (jL y)] hp (.int (jI (jb (askI o x y)))) hp := by
  refine Sp.of [.int (jI o), .long (jL x), .retAddr 0, .long (jL y), .retAddr 0] (by decide) (by simp) (Nat.le_of_ble_eq_true rfl) rfl (fun E => ?_)
  refine L_i0 dX11_isAsked_0 ?_
  refine J_bipush dX11_isAsked_1 (by decide) ?_
  refine J_icmp_ne 20 dX11_isAsked_3 rfl (by omega) (by omega) (fun c3 => ?_) (fun c3 => ?_)
  · refine L_i0 dX11_isAsked_20 ?_
    refine J_bipush dX11_isAsked_21 (by decide) ?_
    refine J_icmp_ne 40 dX11_isAsked_23 rfl (by omega) (by omega) (fun c23 => ?_) (fun c23 => ?_)
    · refine L_i0 dX11_isAsked_40 ?_
      refine J_bipush dX11_isAsked_41 (by decide) ?_
      refine J_icmp_ne 60 dX11_isAsked_43 rfl (by omega) (by omega) (fun c43 => ?_) (fun c43 => ?_)
      · refine L_i0 dX11_isAsked_60 ?_
        refine J_bipush dX11_isAsked_61 (by decide) ?_
        refine J_icmp_ne 80 dX11_isAsked_63 rfl (by omega) (by omega) (fun c63 => ?_) (fun c63 => ?_)
        · refine L_i0 dX11_isAsked_80 ?_
          refine J_bipush dX11_isAsked_81 (by decide) ?_
          refine J_icmp_ne 100 dX11_isAsked_83 rfl (by omega) (by omega) (fun c83 => ?_) (fun c83 => ?_)
          · refine L_l1 dX11_isAsked_100 ?_
            refine L_l3 dX11_isAsked_101 ?_
            refine JL_eq 110 dX11_isAsked_102 dX11_isAsked_103 rfl (by omega) (by omega) (fun c103 => ?_) (fun c103 => ?_)
            · refine J_iconst dX11_isAsked_110 ?_
              exact R_z rfl dX11_isAsked_111 (by decide) rfl (by first | exact (jb_t (by omega)).symm | exact (jb_f (by omega)).symm)
            · refine J_iconst dX11_isAsked_106 ?_
              refine E_goto 111 dX11_isAsked_107 rfl ?_
              exact R_z rfl dX11_isAsked_111 (by decide) rfl (by first | exact (jb_t (by omega)).symm | exact (jb_f (by omega)).symm)
          · refine L_l1 dX11_isAsked_86 ?_
            refine L_l3 dX11_isAsked_87 ?_
            refine JL_ne 96 dX11_isAsked_88 dX11_isAsked_89 rfl (by omega) (by omega) (fun c89 => ?_) (fun c89 => ?_)
            · refine J_iconst dX11_isAsked_96 ?_
              refine E_goto 111 dX11_isAsked_97 rfl ?_
              exact R_z rfl dX11_isAsked_111 (by decide) rfl (by first | exact (jb_t (by omega)).symm | exact (jb_f (by omega)).symm)
            · refine J_iconst dX11_isAsked_92 ?_
              refine E_goto 111 dX11_isAsked_93 rfl ?_
              exact R_z rfl dX11_isAsked_111 (by decide) rfl (by first | exact (jb_t (by omega)).symm | exact (jb_f (by omega)).symm)
        · refine L_l1 dX11_isAsked_66 ?_
          refine L_l3 dX11_isAsked_67 ?_
          refine JL_lt 76 dX11_isAsked_68 dX11_isAsked_69 rfl (by omega) (by omega) (fun c69 => ?_) (fun c69 => ?_)
          · refine J_iconst dX11_isAsked_76 ?_
            refine E_goto 111 dX11_isAsked_77 rfl ?_
            exact R_z rfl dX11_isAsked_111 (by decide) rfl (by first | exact (jb_t (by omega)).symm | exact (jb_f (by omega)).symm)
          · refine J_iconst dX11_isAsked_72 ?_
            refine E_goto 111 dX11_isAsked_73 rfl ?_
            exact R_z rfl dX11_isAsked_111 (by decide) rfl (by first | exact (jb_t (by omega)).symm | exact (jb_f (by omega)).symm)
      · refine L_l1 dX11_isAsked_46 ?_
        refine L_l3 dX11_isAsked_47 ?_
        refine JL_le 56 dX11_isAsked_48 dX11_isAsked_49 rfl (by omega) (by omega) (fun c49 => ?_) (fun c49 => ?_)
        · refine J_iconst dX11_isAsked_56 ?_
          refine E_goto 111 dX11_isAsked_57 rfl ?_
          exact R_z rfl dX11_isAsked_111 (by decide) rfl (by first | exact (jb_t (by omega)).symm | exact (jb_f (by omega)).symm)
        · refine J_iconst dX11_isAsked_52 ?_
          refine E_goto 111 dX11_isAsked_53 rfl ?_
          exact R_z rfl dX11_isAsked_111 (by decide) rfl (by first | exact (jb_t (by omega)).symm | exact (jb_f (by omega)).symm)
    · refine L_l1 dX11_isAsked_26 ?_
      refine L_l3 dX11_isAsked_27 ?_
      refine JL_gt 36 dX11_isAsked_28 dX11_isAsked_29 rfl (by omega) (by omega) (fun c29 => ?_) (fun c29 => ?_)
      · refine J_iconst dX11_isAsked_36 ?_
        refine E_goto 111 dX11_isAsked_37 rfl ?_
        exact R_z rfl dX11_isAsked_111 (by decide) rfl (by first | exact (jb_t (by omega)).symm | exact (jb_f (by omega)).symm)
      · refine J_iconst dX11_isAsked_32 ?_
        refine E_goto 111 dX11_isAsked_33 rfl ?_
        exact R_z rfl dX11_isAsked_111 (by decide) rfl (by first | exact (jb_t (by omega)).symm | exact (jb_f (by omega)).symm)
  · refine L_l1 dX11_isAsked_6 ?_
    refine L_l3 dX11_isAsked_7 ?_
    refine JL_ge 16 dX11_isAsked_8 dX11_isAsked_9 rfl (by omega) (by omega) (fun c9 => ?_) (fun c9 => ?_)
    · refine J_iconst dX11_isAsked_16 ?_
      refine E_goto 111 dX11_isAsked_17 rfl ?_
      exact R_z rfl dX11_isAsked_111 (by decide) rfl (by first | exact (jb_t (by omega)).symm | exact (jb_f (by omega)).symm)
    · refine J_iconst dX11_isAsked_12 ?_
      refine E_goto 111 dX11_isAsked_13 rfl ?_
      exact R_z rfl dX11_isAsked_111 (by decide) rfl (by first | exact (jb_t (by omega)).symm | exact (jb_f (by omega)).symm)

set_option maxRecDepth 100000 in
theorem qX11_ofOne {S T : Nat → Int → Int} {D : List mx_C} (hv : MV (T 37)) {o : Int} (h_o : o = 2 ∨ o = 4 ∨ o = 5) {x : Int} (h_x : -1000000 ≤ x ∧ x ≤ 1000000) : SpF yX11_ofOne cX11_ofOne 4 (some .long) 4 [.ref 36, .int (jI o), .long (jL x)] (W5 S T D) (.long (jL (oneI (T 37) o x))) (W5 S T D) := by
  have ha := hv.2
  have ht := md_taken_B hv
  refine Sp.of [.ref 36, .int (jI o), .long (jL x), .retAddr 0] (by decide) (by simp) (Nat.le_of_ble_eq_true rfl) rfl (fun E => ?_)
  refine L_i1 dX11_ofOne_0 ?_
  refine J_iconst dX11_ofOne_1 ?_
  refine J_icmp_ne 8 dX11_ofOne_2 rfl (by omega) (by omega) (fun c2 => ?_) (fun c2 => ?_)
  · refine L_i1 dX11_ofOne_8 ?_
    refine J_iconst dX11_ofOne_9 ?_
    refine J_icmp_ne 44 dX11_ofOne_10 rfl (by omega) (by omega) (fun c10 => ?_) (fun c10 => ?_)
    · refine L_l2 dX11_ofOne_44 ?_
      refine J_lconst 0 dX11_ofOne_45 (by decide) ?_
      refine JL_lt 79 dX11_ofOne_46 dX11_ofOne_47 rfl (by omega) (by omega) (fun c47 => ?_) (fun c47 => ?_)
      · refine J_lconst 0 dX11_ofOne_79 (by decide) ?_
        exact R_l rfl dX11_ofOne_80 rfl (by unfold oneI; first | rw [if_pos (by omega)] | (rw [if_neg (by omega), if_pos (by omega)]; first | exact (jb_t ⟨by omega, c35⟩).symm | exact (jb_f (fun h => c35 h.2)).symm | exact (jb_f (fun h => absurd h.1 (by omega))).symm) | (rw [if_neg (by omega), if_neg (by omega)]; first | exact (jb_f (fun h => absurd h.1 (by omega))).symm | exact (jb_t ⟨by omega, c72⟩).symm | exact (jb_f (fun h => h.2 c72)).symm))
      · refine L_l2 dX11_ofOne_50 ?_
        refine L_a0 dX11_ofOne_51 ?_
        refine GW_36_0 fX11_7 dX11_ofOne_52 ?_
        refine J_bipush dX11_ofOne_55 (by decide) ?_
        refine AB_37 dX11_ofOne_57 (by omega) hv.1 (fun b57 => ?_)
        refine J_i2l dX11_ofOne_58 (by omega) ?_
        refine JL_ge 79 dX11_ofOne_59 dX11_ofOne_60 rfl (by omega) (by omega) (fun c60 => ?_) (fun c60 => ?_)
        · refine J_lconst 0 dX11_ofOne_79 (by decide) ?_
          exact R_l rfl dX11_ofOne_80 rfl (by unfold oneI; first | rw [if_pos (by omega)] | (rw [if_neg (by omega), if_pos (by omega)]; first | exact (jb_t ⟨by omega, c35⟩).symm | exact (jb_f (fun h => c35 h.2)).symm | exact (jb_f (fun h => absurd h.1 (by omega))).symm) | (rw [if_neg (by omega), if_neg (by omega)]; first | exact (jb_f (fun h => absurd h.1 (by omega))).symm | exact (jb_t ⟨by omega, c72⟩).symm | exact (jb_f (fun h => h.2 c72)).symm))
        · refine L_a0 dX11_ofOne_63 ?_
          refine C_v0F vX11_275 dX11_ofOne_64 (qX11_taken hv) rfl rfl (Nat.le_of_ble_eq_true rfl) (by decide) ?_
          refine L_l2 dX11_ofOne_67 ?_
          refine J_l2i dX11_ofOne_68 (by omega) ?_
          refine C_s2F vX11_251 dX11_ofOne_69 (qX11_has (by omega) (by omega)) (Nat.le_of_ble_eq_true rfl) (by decide) ?_
          refine J_ifneB 79 dX11_ofOne_72 rfl (fun c72 => ?_) (fun c72 => ?_)
          · refine J_lconst 0 dX11_ofOne_79 (by decide) ?_
            exact R_l rfl dX11_ofOne_80 rfl (by unfold oneI; first | rw [if_pos (by omega)] | (rw [if_neg (by omega), if_pos (by omega)]; first | exact (jb_t ⟨by omega, c35⟩).symm | exact (jb_f (fun h => c35 h.2)).symm | exact (jb_f (fun h => absurd h.1 (by omega))).symm) | (rw [if_neg (by omega), if_neg (by omega)]; first | exact (jb_f (fun h => absurd h.1 (by omega))).symm | exact (jb_t ⟨by omega, c72⟩).symm | exact (jb_f (fun h => h.2 c72)).symm))
          · refine J_lconst 1 dX11_ofOne_75 (by decide) ?_
            refine E_goto 80 dX11_ofOne_76 rfl ?_
            exact R_l rfl dX11_ofOne_80 rfl (by unfold oneI; first | rw [if_pos (by omega)] | (rw [if_neg (by omega), if_pos (by omega)]; first | exact (jb_t ⟨by omega, c35⟩).symm | exact (jb_f (fun h => c35 h.2)).symm | exact (jb_f (fun h => absurd h.1 (by omega))).symm) | (rw [if_neg (by omega), if_neg (by omega)]; first | exact (jb_f (fun h => absurd h.1 (by omega))).symm | exact (jb_t ⟨by omega, c72⟩).symm | exact (jb_f (fun h => h.2 c72)).symm))
    · refine L_l2 dX11_ofOne_13 ?_
      refine J_lconst 1 dX11_ofOne_14 (by decide) ?_
      refine JL_lt 42 dX11_ofOne_15 dX11_ofOne_16 rfl (by omega) (by omega) (fun c16 => ?_) (fun c16 => ?_)
      · refine J_lconst 0 dX11_ofOne_42 (by decide) ?_
        exact R_l rfl dX11_ofOne_43 rfl (by unfold oneI; first | rw [if_pos (by omega)] | (rw [if_neg (by omega), if_pos (by omega)]; first | exact (jb_t ⟨by omega, c35⟩).symm | exact (jb_f (fun h => c35 h.2)).symm | exact (jb_f (fun h => absurd h.1 (by omega))).symm) | (rw [if_neg (by omega), if_neg (by omega)]; first | exact (jb_f (fun h => absurd h.1 (by omega))).symm | exact (jb_t ⟨by omega, c72⟩).symm | exact (jb_f (fun h => h.2 c72)).symm))
      · refine L_l2 dX11_ofOne_19 ?_
        refine J_ldc2 (8) dX11_ofOne_20 kX11_273 (by decide) ?_
        refine JL_gt 42 dX11_ofOne_23 dX11_ofOne_24 rfl (by omega) (by omega) (fun c24 => ?_) (fun c24 => ?_)
        · refine J_lconst 0 dX11_ofOne_42 (by decide) ?_
          exact R_l rfl dX11_ofOne_43 rfl (by unfold oneI; first | rw [if_pos (by omega)] | (rw [if_neg (by omega), if_pos (by omega)]; first | exact (jb_t ⟨by omega, c35⟩).symm | exact (jb_f (fun h => c35 h.2)).symm | exact (jb_f (fun h => absurd h.1 (by omega))).symm) | (rw [if_neg (by omega), if_neg (by omega)]; first | exact (jb_f (fun h => absurd h.1 (by omega))).symm | exact (jb_t ⟨by omega, c72⟩).symm | exact (jb_f (fun h => h.2 c72)).symm))
        · refine L_a0 dX11_ofOne_27 ?_
          refine L_l2 dX11_ofOne_28 ?_
          refine J_l2i dX11_ofOne_29 (by omega) ?_
          refine J_iconst dX11_ofOne_30 ?_
          refine J_isub dX11_ofOne_31 ?_
          refine C_v1F vX11_91 dX11_ofOne_32 (qX11_standsV hv (by omega)) rfl rfl (Nat.le_of_ble_eq_true rfl) (by decide) ?_
          refine J_ifeqB 42 dX11_ofOne_35 rfl (fun c35 => ?_) (fun c35 => ?_)
          · refine J_lconst 0 dX11_ofOne_42 (by decide) ?_
            exact R_l rfl dX11_ofOne_43 rfl (by unfold oneI; first | rw [if_pos (by omega)] | (rw [if_neg (by omega), if_pos (by omega)]; first | exact (jb_t ⟨by omega, c35⟩).symm | exact (jb_f (fun h => c35 h.2)).symm | exact (jb_f (fun h => absurd h.1 (by omega))).symm) | (rw [if_neg (by omega), if_neg (by omega)]; first | exact (jb_f (fun h => absurd h.1 (by omega))).symm | exact (jb_t ⟨by omega, c72⟩).symm | exact (jb_f (fun h => h.2 c72)).symm))
          · refine J_lconst 1 dX11_ofOne_38 (by decide) ?_
            refine E_goto 43 dX11_ofOne_39 rfl ?_
            exact R_l rfl dX11_ofOne_43 rfl (by unfold oneI; first | rw [if_pos (by omega)] | (rw [if_neg (by omega), if_pos (by omega)]; first | exact (jb_t ⟨by omega, c35⟩).symm | exact (jb_f (fun h => c35 h.2)).symm | exact (jb_f (fun h => absurd h.1 (by omega))).symm) | (rw [if_neg (by omega), if_neg (by omega)]; first | exact (jb_f (fun h => absurd h.1 (by omega))).symm | exact (jb_t ⟨by omega, c72⟩).symm | exact (jb_f (fun h => h.2 c72)).symm))
  · refine L_l2 dX11_ofOne_5 ?_
    refine J_lneg dX11_ofOne_6 ?_
    exact R_l rfl dX11_ofOne_7 rfl (by unfold oneI; first | rw [if_pos (by omega)] | (rw [if_neg (by omega), if_pos (by omega)]; first | exact (jb_t ⟨by omega, c35⟩).symm | exact (jb_f (fun h => c35 h.2)).symm | exact (jb_f (fun h => absurd h.1 (by omega))).symm) | (rw [if_neg (by omega), if_neg (by omega)]; first | exact (jb_f (fun h => absurd h.1 (by omega))).symm | exact (jb_t ⟨by omega, c72⟩).symm | exact (jb_f (fun h => h.2 c72)).symm))

set_option maxRecDepth 100000 in
theorem qX11_joined {hp : List mx_C} {o b c : Int} (h_o : o = 21 ∨ o = 22) (h_b : b = 0 ∨ b = 1) (h_c : c = 0 ∨ c = 1) : SpF yX11_joined cX11_joined 3 (some .boolean) 0 [.int (jI o), .int (jI b), .int (jI c)] hp (.int (jI (jb (joinI o b c)))) hp := by
  refine Sp.of [.int (jI o), .int (jI b), .int (jI c)] (by decide) (by simp) (Nat.le_of_ble_eq_true rfl) rfl (fun E => ?_)
  refine L_i0 dX11_joined_0 ?_
  refine J_bipush dX11_joined_1 (by decide) ?_
  refine J_icmp_ne 22 dX11_joined_3 rfl (by omega) (by omega) (fun c3 => ?_) (fun c3 => ?_)
  · refine L_i1 dX11_joined_22 ?_
    refine J_if_ne 30 dX11_joined_23 rfl (by omega) (fun c23 => ?_) (fun c23 => ?_)
    · refine J_iconst dX11_joined_30 ?_
      refine E_goto 35 dX11_joined_31 rfl ?_
      exact R_z rfl dX11_joined_35 (by decide) rfl (by first | exact (jb_t (by omega)).symm | exact (jb_f (by omega)).symm)
    · refine L_i2 dX11_joined_26 ?_
      refine J_if_eq 34 dX11_joined_27 rfl (by omega) (fun c27 => ?_) (fun c27 => ?_)
      · refine J_iconst dX11_joined_34 ?_
        exact R_z rfl dX11_joined_35 (by decide) rfl (by first | exact (jb_t (by omega)).symm | exact (jb_f (by omega)).symm)
      · refine J_iconst dX11_joined_30 ?_
        refine E_goto 35 dX11_joined_31 rfl ?_
        exact R_z rfl dX11_joined_35 (by decide) rfl (by first | exact (jb_t (by omega)).symm | exact (jb_f (by omega)).symm)
  · refine L_i1 dX11_joined_6 ?_
    refine J_if_eq 18 dX11_joined_7 rfl (by omega) (fun c7 => ?_) (fun c7 => ?_)
    · refine J_iconst dX11_joined_18 ?_
      refine E_goto 35 dX11_joined_19 rfl ?_
      exact R_z rfl dX11_joined_35 (by decide) rfl (by first | exact (jb_t (by omega)).symm | exact (jb_f (by omega)).symm)
    · refine L_i2 dX11_joined_10 ?_
      refine J_if_eq 18 dX11_joined_11 rfl (by omega) (fun c11 => ?_) (fun c11 => ?_)
      · refine J_iconst dX11_joined_18 ?_
        refine E_goto 35 dX11_joined_19 rfl ?_
        exact R_z rfl dX11_joined_35 (by decide) rfl (by first | exact (jb_t (by omega)).symm | exact (jb_f (by omega)).symm)
      · refine J_iconst dX11_joined_14 ?_
        refine E_goto 35 dX11_joined_15 rfl ?_
        exact R_z rfl dX11_joined_35 (by decide) rfl (by first | exact (jb_t (by omega)).symm | exact (jb_f (by omega)).symm)

