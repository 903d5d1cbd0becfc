/-! ===== the reference: scripts carried out, years ===== -/
theorem up_id (f : Int → Int) (k : Int) : f = up f k (f k) := by
  funext j
  unfold up
  split
  · next h => rw [h]
  · rfl
theorem Fr_mono5 {T T' : Nat → Int → Int} (h : Fr [37, 42, 43, 44] T T') : Fr [36, 37, 42, 43, 44] T T' := h.mono (fun i hi => List.mem_cons_of_mem _ hi)
theorem ply2 {c a : Int → Int} {x : Int} (h : c x = 2) : md_ply c a x = if md_lenOk a (c (x + 1)) then (1, up (md_keep a) 7 (c (x + 1))) else (0, a) := by unfold md_ply; rw [if_pos h]
theorem ply3 {c a : Int → Int} {x : Int} (h : c x = 3) : md_ply c a x = if md_sec a c (wr1 (c (x + 1))) (c (x + 2)) = -1 then (0, a) else (1, md_join (md_keep a) c (wr1 (c (x + 1))) (c (x + 2))) := by unfold md_ply; rw [if_neg (by omega), if_pos h]
theorem ply4 {c a : Int → Int} {x : Int} (h : c x = 4) : md_ply c a x = if md_stands a (wr1 (c (x + 1))) then (1, md_leave (md_keep a) (wr1 (c (x + 1))) 1) else (0, a) := by unfold md_ply; rw [if_neg (by omega), if_neg (by omega), if_pos h]
theorem ply5 {c a : Int → Int} {x : Int} (h : c x = 5) : md_ply c a x = if md_standing a = 0 then (0, a) else (1, md_turn (md_keep a)) := by unfold md_ply; rw [if_neg (by omega), if_neg (by omega), if_neg (by omega), if_pos h]
theorem ply6 {c a : Int → Int} {x : Int} (h : c x = 6) : md_ply c a x = ((md_aps c 1 (c (x + 1)).toNat (a, 0)).1, (md_aps c 1 (c (x + 1)).toNat (a, 0)).2.1) := by unfold md_ply; rw [if_neg (by omega), if_neg (by omega), if_neg (by omega), if_neg (by omega), if_pos h]
theorem ply0 {c a : Int → Int} {x : Int} (h : c x < 2 ∨ 6 < c x) : md_ply c a x = (1, a) := by unfold md_ply; rw [if_neg (by omega), if_neg (by omega), if_neg (by omega), if_neg (by omega), if_neg (by omega)]
set_option maxRecDepth 100000 in
theorem qX11_isPlayed {S T : Nat → Int → Int} {D : List mx_C} (hi : MI T) (hB : Bd (T 39)) (hw : T 36 23 = 1) {x : Int} (h_x : 0 ≤ x ∧ x < 2700) : SpI yX11_isPlayed cX11_isPlayed 4 (some .boolean) 12 [.ref 36, .int (jI x)] (W5 S T D) (fun v hp' => v = (md_ply (T 39) (T 37) x).1 ∧ ∃ T', hp' = W5 S T' D ∧ T' 37 = (md_ply (T 39) (T 37) x).2 ∧ ∃ z, T' 36 = up (T 36) 24 z ∧ Fr [36, 37, 42, 43, 44] T T') := by
  have hv := hi.1
  have hl := hi.2.1
  have ha := hv.2
  have hsr := md_sec_R (a := T 37) (c := T 39) (by omega) (wr1 (T 39 (x + 1))) (T 39 (x + 2))
  have h01 := md_aps_01 (T 39) 1 (T 39 (x + 1)).toNat (T 37, 0)
  have hjb := jb_B (md_lenOk (T 37) (T 39 (x + 1)))
  have hjs := jb_B (md_stands (T 37) (wr1 (T 39 (x + 1))))
  have hpc := pc_B (md_standing (md_turn (md_keep (T 37))))
  refine Sp.of [.ref 36, .int (jI x), .retAddr 0, .retAddr 0] (by decide) (by simp) (Nat.le_of_ble_eq_true rfl) rfl (fun E => ?_)
  refine L_a0 dX11_isPlayed_0 ?_
  refine GW_36_2 fX11_16 dX11_isPlayed_1 ?_
  refine L_i1 dX11_isPlayed_4 ?_
  refine J_iconst dX11_isPlayed_5 ?_
  refine J_iadd dX11_isPlayed_6 ?_
  refine AB_39 dX11_isPlayed_7 (by omega) hB (fun b7 => ?_)
  refine S_i2 dX11_isPlayed_8 (by decide) rfl ?_
  refine L_a0 dX11_isPlayed_9 ?_
  refine GW_36_2 fX11_16 dX11_isPlayed_10 ?_
  refine L_i1 dX11_isPlayed_13 ?_
  refine J_iconst dX11_isPlayed_14 ?_
  refine J_iadd dX11_isPlayed_15 ?_
  refine AB_39 dX11_isPlayed_16 (by omega) hB (fun b16 => ?_)
  refine S_i3 dX11_isPlayed_17 (by decide) rfl ?_
  refine L_a0 dX11_isPlayed_18 ?_
  refine GW_36_2 fX11_16 dX11_isPlayed_19 ?_
  refine L_i1 dX11_isPlayed_22 ?_
  refine AB_39 dX11_isPlayed_23 (by omega) hB (fun b23 => ?_)
  refine J_tab5 60 66 81 87 100 106 dX11_isPlayed_24 (by omega) rfl rfl rfl rfl rfl rfl rfl (fun c24 => ?_) (fun c24 => ?_) (fun c24 => ?_) (fun c24 => ?_) (fun c24 => ?_) (fun c24 => ?_)
  · refine L_a0 dX11_isPlayed_60 ?_
    refine L_i2 dX11_isPlayed_61 ?_
    refine C_v1F vX11_371 dX11_isPlayed_62 (qX11_length hv (by omega)) rfl rfl (Nat.le_of_ble_eq_true rfl) (by decide) ?_
    exact RQ_z rfl dX11_isPlayed_65 (by first | decide | omega | exact h01) (by
    rw [ply2 (by omega)]
    by_cases h : md_lenOk (T 37) (T 39 (x + 1))
    · rw [if_pos h, if_pos h, jb_t h]; exact ⟨rfl, _, rfl, rfl, _, up_id _ 24, Fr_up _ _ (by decide)⟩
    · rw [if_neg h, if_neg h, jb_f h]; exact ⟨rfl, _, rfl, rfl, _, up_id _ 24, Fr.refl _ _⟩)
  · refine L_a0 dX11_isPlayed_66 ?_
    refine L_i2 dX11_isPlayed_67 ?_
    refine L_i3 dX11_isPlayed_68 ?_
    refine C_v2I vX11_374 dX11_isPlayed_69 (qX11_join hi hw (by omega) (by omega)) rfl rfl (Nat.le_of_ble_eq_true rfl) (by decide) (fun v69 hp69 hq69 => ?_)
    obtain ⟨rfl, T69, rfl, g69, f69⟩ := hq69
    refine J_if_lt 79 dX11_isPlayed_72 rfl (by omega) (fun c72 => ?_) (fun c72 => ?_)
    · refine J_iconst dX11_isPlayed_79 ?_
      exact RQ_z rfl dX11_isPlayed_80 (by first | decide | omega | exact h01) (by
    rw [ply3 (by omega)]
    first
      | (rw [if_pos (by omega)] at g69; rw [if_pos (by omega)]; exact ⟨rfl, _, rfl, g69, T 36 24, by rw [f69 36 (by decide)]; exact up_id _ 24, Fr_mono5 f69⟩)
      | (rw [if_neg (by omega)] at g69; rw [if_neg (by omega)]; exact ⟨rfl, _, rfl, g69, T 36 24, by rw [f69 36 (by decide)]; exact up_id _ 24, Fr_mono5 f69⟩))
    · refine J_iconst dX11_isPlayed_75 ?_
      refine E_goto 80 dX11_isPlayed_76 rfl ?_
      exact RQ_z rfl dX11_isPlayed_80 (by first | decide | omega | exact h01) (by
    rw [ply3 (by omega)]
    first
      | (rw [if_pos (by omega)] at g69; rw [if_pos (by omega)]; exact ⟨rfl, _, rfl, g69, T 36 24, by rw [f69 36 (by decide)]; exact up_id _ 24, Fr_mono5 f69⟩)
      | (rw [if_neg (by omega)] at g69; rw [if_neg (by omega)]; exact ⟨rfl, _, rfl, g69, T 36 24, by rw [f69 36 (by decide)]; exact up_id _ 24, Fr_mono5 f69⟩))
  · refine L_a0 dX11_isPlayed_81 ?_
    refine L_i2 dX11_isPlayed_82 ?_
    refine C_v1F vX11_377 dX11_isPlayed_83 (qX11_leaveW hv hw (by omega)) rfl rfl (Nat.le_of_ble_eq_true rfl) (by decide) ?_
    exact RQ_z rfl dX11_isPlayed_86 (by first | decide | omega | exact h01) (by
    rw [ply4 (by omega)]
    by_cases h : md_stands (T 37) (wr1 (T 39 (x + 1)))
    · rw [if_pos h, if_pos h, jb_t h]; exact ⟨rfl, _, rfl, rfl, _, up_id _ 24, Fr_up _ _ (by decide)⟩
    · rw [if_neg h, if_neg h, jb_f h]; exact ⟨rfl, _, rfl, rfl, _, up_id _ 24, Fr.refl _ _⟩)
  · refine L_a0 dX11_isPlayed_87 ?_
    refine C_v0F vX11_380 dX11_isPlayed_88 (qX11_turn hv) rfl rfl (Nat.le_of_ble_eq_true rfl) (by decide) ?_
    have hti : (0 ≤ if md_standing (T 37) = 0 then (-1 : Int) else pc (md_standing (md_turn (md_keep (T 37))))) ↔ ¬ md_standing (T 37) = 0 := by split <;> omega
    have hti2 : -1 ≤ (if md_standing (T 37) = 0 then (-1 : Int) else pc (md_standing (md_turn (md_keep (T 37))))) ∧ (if md_standing (T 37) = 0 then (-1 : Int) else pc (md_standing (md_turn (md_keep (T 37))))) ≤ 16 := by split <;> omega
    refine J_if_lt 98 dX11_isPlayed_91 rfl (by omega) (fun c91 => ?_) (fun c91 => ?_)
    · refine J_iconst dX11_isPlayed_98 ?_
      exact RQ_z rfl dX11_isPlayed_99 (by first | decide | omega | exact h01) (by
    rw [ply5 (by omega)]
    by_cases h : md_standing (T 37) = 0
    · rw [if_pos h, if_pos h]; first | exact ⟨rfl, _, rfl, rfl, _, up_id _ 24, Fr.refl _ _⟩ | (exfalso; omega)
    · rw [if_neg h, if_neg h]; first | exact ⟨rfl, _, rfl, rfl, _, up_id _ 24, Fr_up _ _ (by decide)⟩ | (exfalso; omega))
    · refine J_iconst dX11_isPlayed_94 ?_
      refine E_goto 99 dX11_isPlayed_95 rfl ?_
      exact RQ_z rfl dX11_isPlayed_99 (by first | decide | omega | exact h01) (by
    rw [ply5 (by omega)]
    by_cases h : md_standing (T 37) = 0
    · rw [if_pos h, if_pos h]; first | exact ⟨rfl, _, rfl, rfl, _, up_id _ 24, Fr.refl _ _⟩ | (exfalso; omega)
    · rw [if_neg h, if_neg h]; first | exact ⟨rfl, _, rfl, rfl, _, up_id _ 24, Fr_up _ _ (by decide)⟩ | (exfalso; omega))
  · refine L_a0 dX11_isPlayed_100 ?_
    refine L_i2 dX11_isPlayed_101 ?_
    refine C_v1I vX11_368 dX11_isPlayed_102 (qX11_arePassed hi hw (by omega)) rfl rfl (Nat.le_of_ble_eq_true rfl) (by decide) (fun v102 hp102 hq102 => ?_)
    obtain ⟨rfl, T102, rfl, g102, o102, f102⟩ := hq102
    exact RQ_z rfl dX11_isPlayed_105 (by first | decide | omega | exact h01) (by rw [ply6 (by omega)]; exact ⟨rfl, _, rfl, g102, _, o102, f102⟩)
  · refine J_iconst dX11_isPlayed_106 ?_
    exact RQ_z rfl dX11_isPlayed_107 (by first | decide | omega | exact h01) (by rw [ply0 (by omega)]; exact ⟨rfl, _, rfl, rfl, _, up_id _ 24, Fr.refl _ _⟩)

theorem ply_01 (c a : Int → Int) (x : Int) : (md_ply c a x).1 = 0 ∨ (md_ply c a x).1 = 1 := by
  unfold md_ply
  split
  · split
    · exact Or.inr rfl
    · exact Or.inl rfl
  · split
    · split
      · exact Or.inl rfl
      · exact Or.inr rfl
    · split
      · split
        · exact Or.inr rfl
        · exact Or.inl rfl
      · split
        · split
          · exact Or.inl rfl
          · exact Or.inr rfl
        · split
          · exact md_aps_01 _ _ _ _
          · exact Or.inr rfl
/-- a script carried out from clause k on -/
def md_pld (c : Int → Int) (q : Int) : Nat → Int → (Int → Int) → Int × (Int → Int)
  | 0, _, a => (-1, a)
  | m + 1, k, a => if (md_ply c a (lwX q k)).1 = 0 then (k, (md_ply c a (lwX q k)).2) else md_pld c q m (k + 1) (md_ply c a (lwX q k)).2
theorem md_pld_P {c : Int → Int} {q : Int} : ∀ (m : Nat) (k : Int) (a : Int → Int), MV a → ML a → MV (md_pld c q m k a).2 ∧ ML (md_pld c q m k a).2 ∧ (md_pld c q m k a).2 0 = a 0 ∧ (md_pld c q m k a).2 1 = a 1 := by
  intro m
  induction m with
  | zero => intro k a hv hl; exact ⟨hv, hl, rfl, rfl⟩
  | succ m ih =>
    intro k a hv hl
    have h := md_ply_P (c := c) (x := lwX q k) hv hl
    rw [md_pld]
    split
    · exact h
    · have h' := ih (k + 1) _ h.1 h.2.1
      exact ⟨h'.1, h'.2.1, h'.2.2.1.trans h.2.2.1, h'.2.2.2.trans h.2.2.2⟩
set_option maxRecDepth 100000 in
theorem lX11_played {E : mx_E} {S T : Nat → Int → Int} {D : List mx_C} (hi : MI T) (hB : Bd (T 39)) (hw : T 36 23 = 1) {q : Int} (h_q : 0 ≤ q ∧ q < T 37 0) {r : Int × (Int → Int)} : ∀ (m : Nat) (k : Int) (T1 : Nat → Int → Int) (z : Int), k + m = T 39 (681 * q) → 0 ≤ k → MV (T1 37) → ML (T1 37) → T1 37 0 = T 37 0 → T1 36 23 = 1 → T1 36 = up (T 36) 24 z → Fr [36, 37, 42, 43, 44] T T1 → md_pld (T 39) q m k (T1 37) = r → Ev E yX11_played cX11_played 3 (some .int) (kI E 13 (fun v hp' => v = r.1 ∧ ∃ T', hp' = W5 S T' D ∧ T' 37 = r.2 ∧ ∃ z, T' 36 = up (T 36) 24 z ∧ Fr [36, 37, 42, 43, 44] T T')) 0 0 21 [.ref 36, .int (jI q), .int (jI k)] [] (W5 S T1 D) := by
  intro m
  induction m with
  | zero =>
    intro k T1 z hk hk0 hv1 hl1 h0 h23 h36 f1 hres
    have e39 := f1 39 (by decide)
    have hB1 : Bd (T1 39) := by rw [e39]; exact hB
    have htx := (hi.2.2 q (by omega)).1
    have hv := hi.1.2
    refine L_i2 dX11_played_21 ?_
    refine L_a0 dX11_played_22 ?_
    refine GW_36_2 fX11_16 dX11_played_23 ?_
    refine J_sipush dX11_played_26 (by decide) ?_
    refine L_i1 dX11_played_29 ?_
    refine J_imul dX11_played_30 ?_
    refine AB_39 dX11_played_31 (by omega) hB1 (fun b31 => ?_)
    rw [e39] at b31
    rw [e39]
    refine J_icmp_ge 61 dX11_played_32 rfl (by omega) (by omega) (fun c32 => ?_) (fun c32 => ?_)
    · refine J_iconst dX11_played_61 ?_
      exact RQ_i rfl dX11_played_62 ⟨by rw [← hres]; rfl, T1, rfl, by rw [← hres]; rfl, z, h36, f1⟩
    · exfalso; omega
  | succ m ih =>
    intro k T1 z hk hk0 hv1 hl1 h0 h23 h36 f1 hres
    have hi1 : MI T1 := ⟨hv1, hl1, by rw [f1 39 (by decide), h0]; exact hi.2.2⟩
    have e39 := f1 39 (by decide)
    have hB1 : Bd (T1 39) := by rw [e39]; exact hB
    have hp01 := ply_01 (T 39) (T1 37) (lwX q k)
    have hP := md_ply_P (c := T 39) (x := lwX q k) hv1 hl1
    have hxx : lwX q k = 681 * q + 1 + 3 * k := rfl
    rw [md_pld] at hres
    have htx := (hi.2.2 q (by omega)).1
    have hv := hi.1.2
    refine L_i2 dX11_played_21 ?_
    refine L_a0 dX11_played_22 ?_
    refine GW_36_2 fX11_16 dX11_played_23 ?_
    refine J_sipush dX11_played_26 (by decide) ?_
    refine L_i1 dX11_played_29 ?_
    refine J_imul dX11_played_30 ?_
    refine AB_39 dX11_played_31 (by omega) hB1 (fun b31 => ?_)
    rw [e39] at b31
    rw [e39]
    refine J_icmp_ge 61 dX11_played_32 rfl (by omega) (by omega) (fun c32 => ?_) (fun c32 => ?_)
    · exfalso; omega
    · refine L_a0 dX11_played_35 ?_
      refine J_sipush dX11_played_36 (by decide) ?_
      refine L_i1 dX11_played_39 ?_
      refine J_imul dX11_played_40 ?_
      refine J_iconst dX11_played_41 ?_
      refine J_iadd dX11_played_42 ?_
      refine J_iconst dX11_played_43 ?_
      refine L_i2 dX11_played_44 ?_
      refine J_imul dX11_played_45 ?_
      refine J_iadd dX11_played_46 ?_
      refine J_eqi (b := lwX q k) rfl ?_
      refine C_v1I vX11_383 dX11_played_47 (qX11_isPlayed hi1 hB1 h23 (by omega)) rfl rfl (Nat.le_of_ble_eq_true rfl) (by decide) (fun v47 hp47 hq47 => ?_)
      obtain ⟨rfl, T47, rfl, g47, z47, o47, f47⟩ := hq47
      rw [e39] at g47
      rw [e39]
      refine J_if_ne 55 dX11_played_50 rfl (by omega) (fun c50 => ?_) (fun c50 => ?_)
      · refine JI_2 dX11_played_55 (by decide) rfl ?_
        refine E_goto 21 dX11_played_58 rfl ?_
        rw [if_neg c50] at hres
        exact ih (k + 1) T47 z47 (by omega) (by omega) (by rw [g47]; exact hP.1) (by rw [g47]; exact hP.2.1) (by rw [g47, hP.2.2.1]; exact h0) (by rw [o47, up_n (by decide), h36, up_n (by decide)]; exact hw) (by rw [o47]; exact (congrArg (fun f => up f 24 _) h36).trans (up_up _ _ _ _)) (f1.trans f47) (by rw [g47]; exact hres)
      · refine L_i2 dX11_played_53 ?_
        exact RQ_i rfl dX11_played_54 ⟨by rw [← hres, if_pos (by omega)], T47, rfl, by rw [← hres, if_pos (by omega), g47], z47, by rw [o47]; exact (congrArg (fun f => up f 24 _) h36).trans (up_up _ _ _ _), f1.trans f47⟩

set_option maxRecDepth 100000 in
theorem qX11_played {S T : Nat → Int → Int} {D : List mx_C} (hi : MI T) (hB : Bd (T 39)) (hw : T 36 23 = 1) {q : Int} (h_q : -2147483648 ≤ q ∧ q < 2147483648) : SpI yX11_played cX11_played 3 (some .int) 13 [.ref 36, .int (jI q)] (W5 S T D) (fun v hp' => v = (if 0 ≤ q ∧ q ≤ T 37 0 - 1 then (md_pld (T 39) q (T 39 (681 * q)).toNat 0 (T 37)).1 else -2) ∧ ∃ T', hp' = W5 S T' D ∧ T' 37 = (if 0 ≤ q ∧ q ≤ T 37 0 - 1 then (md_pld (T 39) q (T 39 (681 * q)).toNat 0 (T 37)).2 else T 37) ∧ ∃ z, T' 36 = up (T 36) 24 z ∧ Fr [36, 37, 42, 43, 44] T T') := by
  have hv := hi.1
  have hl := hi.2.1
  have ha := hv.2
  refine Sp.of [.ref 36, .int (jI q), .retAddr 0] (by decide) (by simp) (Nat.le_of_ble_eq_true rfl) rfl (fun E => ?_)
  refine L_i1 dX11_played_0 ?_
  refine J_iconst dX11_played_1 ?_
  refine L_a0 dX11_played_2 ?_
  refine GW_36_0 fX11_7 dX11_played_3 ?_
  refine J_iconst dX11_played_6 ?_
  refine AB_37 dX11_played_7 (by omega) hv.1 (fun b7 => ?_)
  refine J_iconst dX11_played_8 ?_
  refine J_isub dX11_played_9 ?_
  refine C_s3F vX11_83 dX11_played_10 (qX11_isIn (by omega) (by omega) (by omega)) (Nat.le_of_ble_eq_true rfl) (by decide) ?_
  refine J_ifneB 19 dX11_played_13 rfl (fun c13 => ?_) (fun c13 => ?_)
  · refine J_iconst dX11_played_19 ?_
    refine S_i2 dX11_played_20 (by decide) rfl ?_
    have htx := (hi.2.2 q (by omega)).1
    rw [if_pos c13, if_pos c13]
    exact lX11_played hi hB hw (by omega) (r := md_pld (T 39) q (T 39 (681 * q)).toNat 0 (T 37)) (T 39 (681 * q)).toNat 0 T (T 36 24) (by omega) (by omega) hv hl rfl hw (up_id _ 24) (Fr.refl _ _) rfl
  · refine J_bipush dX11_played_16 (by decide) ?_
    exact RQ_i rfl dX11_played_18 ⟨by rw [if_neg c13], T, rfl, by rw [if_neg c13], _, up_id _ 24, Fr.refl _ _⟩

