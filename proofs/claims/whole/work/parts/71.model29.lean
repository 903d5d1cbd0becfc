/-! ===== the reference: fewest, kinds, stay, likely, most ===== -/
def md_few (a c : Int → Int) (s : Int) : Nat → Int → Int
  | 0, _ => -1
  | m + 1, g => if md_rw a c s g = [] then md_few a c s m (g + 1) else g
theorem md_rw_congr {a b c d : Int → Int} (h1 : a = b) (h2 : c = d) (s g : Int) : md_rw a c s g = md_rw b d s g := by rw [h1, h2]
set_option maxRecDepth 100000 in
theorem lX11_fewest {E : mx_E} {S T : Nat → Int → Int} {D : List mx_C} (hi : MI T) {s r : Int} (h_s : 0 ≤ s ∧ s ≤ 255) : ∀ (m : Nat) (g : Int) (T1 : Nat → Int → Int), g + m + 2 * pc s = 17 → 0 ≤ g → SF T T1 → md_few (T 37) (T 39) s m g = r → Ev E yX11_fewest cX11_fewest 3 (some .int) (kI E 12 (fun v hp' => v = r ∧ ∃ T', hp' = W5 S T' D ∧ SF T T')) 0 0 11 [.ref 36, .int (jI s), .int (jI g)] [] (W5 S T1 D) := by
  intro m
  induction m with
  | zero =>
    intro g T1 hg hg0 f1 hres
    have hpb := pc_B s
    refine L_i1 dX11_fewest_11 ?_
    refine L_i2 dX11_fewest_12 ?_
    refine C_s2F vX11_414 dX11_fewest_13 (qX11_longOf (by omega)) (Nat.le_of_ble_eq_true rfl) (by decide) ?_
    refine J_bipush dX11_fewest_16 (by decide) ?_
    refine J_icmp_gt 41 dX11_fewest_18 rfl (by omega) (by omega) (fun c18 => ?_) (fun c18 => ?_)
    · refine J_iconst dX11_fewest_41 ?_
      exact RQ_i rfl dX11_fewest_42 ⟨hres, T1, rfl, f1⟩
    · exfalso; omega
  | succ m ih =>
    intro g T1 hg hg0 f1 hres
    have hpb := pc_B s
    have hi1 := f1.mi hi
    have e37 := f1.1 37 (by decide)
    have e39 := f1.1 39 (by decide)
    rw [md_few] at hres
    refine L_i1 dX11_fewest_11 ?_
    refine L_i2 dX11_fewest_12 ?_
    refine C_s2F vX11_414 dX11_fewest_13 (qX11_longOf (by omega)) (Nat.le_of_ble_eq_true rfl) (by decide) ?_
    refine J_bipush dX11_fewest_16 (by decide) ?_
    refine J_icmp_gt 41 dX11_fewest_18 rfl (by omega) (by omega) (fun c18 => ?_) (fun c18 => ?_)
    · exfalso; omega
    · refine L_a0 dX11_fewest_21 ?_
      refine L_i1 dX11_fewest_22 ?_
      refine L_i2 dX11_fewest_23 ?_
      refine J_iconst dX11_fewest_24 ?_
      refine C_v3L vX11_427 dX11_fewest_25 (qX11_rowsOf hi1 ⟨by omega, by omega, by omega⟩ (by decide)) rfl rfl (Nat.le_of_ble_eq_true rfl) (by decide) (fun v25 hp25 hq25 => ?_)
      have hB := hq25.B (opL_PB (by omega) (by omega))
      obtain ⟨h1, T2, rfl, hF⟩ := hq25
      rw [e37, e39] at hB
      have hB2 : v25 = 0 ↔ md_rw (T 37) (T 39) s g = [] := hB.2.2
      refine J_lconst 0 dX11_fewest_28 (by decide) ?_
      refine JL_le 35 dX11_fewest_29 dX11_fewest_30 rfl (by omega) (by omega) (fun c30 => ?_) (fun c30 => ?_)
      · refine JI_2 dX11_fewest_35 (by decide) rfl ?_
        refine E_goto 11 dX11_fewest_38 rfl ?_
        rw [if_pos (hB2.mp (by omega))] at hres
        exact ih (g + 1) T2 (by omega) (by omega) (f1.trans hF.1) hres
      · refine L_i2 dX11_fewest_33 ?_
        exact RQ_i rfl dX11_fewest_34 ⟨by rw [← hres, if_neg (fun h => absurd (hB2.mpr h) (by omega))], T2, rfl, f1.trans hF.1⟩

set_option maxRecDepth 100000 in
theorem qX11_fewest {S T : Nat → Int → Int} {D : List mx_C} (hi : MI T) {s : Int} (h_s : -2147483648 ≤ s ∧ s < 2147483648) : SpI yX11_fewest cX11_fewest 3 (some .int) 12 [.ref 36, .int (jI s)] (W5 S T D) (fun v hp' => v = (if 0 ≤ s ∧ s ≤ 255 then md_few (T 37) (T 39) s (17 - 2 * pc s).toNat 0 else -1) ∧ ∃ T', hp' = W5 S T' D ∧ SF T T') := by
  refine Sp.of [.ref 36, .int (jI s), .retAddr 0] (by decide) (by simp) (Nat.le_of_ble_eq_true rfl) rfl (fun E => ?_)
  refine L_i1 dX11_fewest_0 ?_
  refine C_s1F vX11_411 dX11_fewest_1 (qX11_isSet (by omega)) (Nat.le_of_ble_eq_true rfl) (by decide) ?_
  refine J_ifneB 9 dX11_fewest_4 rfl (fun c4 => ?_) (fun c4 => ?_)
  · refine J_iconst dX11_fewest_9 ?_
    refine S_i2 dX11_fewest_10 (by decide) rfl ?_
    have hpb := pc_B s
    have hpm := pc_mem c4
    have hl8 := mem_len8 s.toNat
    rw [if_pos c4]
    exact lX11_fewest hi c4 (17 - 2 * pc s).toNat 0 T (by omega) (by omega) (SF.refl T) rfl
  · refine J_iconst dX11_fewest_7 ?_
    exact RQ_i rfl dX11_fewest_8 ⟨by rw [if_neg c4], T, rfl, SF.refl T⟩

/-- whether all of the set stand in the middle, from k on -/
def md_mir (st : Int → Int) (s pl : Int) : Nat → Int → Int → Int
  | 0, _, _ => 1
  | m + 1, k, full => if s / 2 ^ k.toNat % 2 = 1 then (if pl - 1 - st k < 0 ∨ (pl - 1 - st k) % 2 = 1 then 0 else if ban full (bor (bsh ((pl - 1 - st k) / 2)) (bsh ((pl - 1 - st k) / 2 + st k))) = 0 then md_mir st s pl m (k + 1) (bor full (bor (bsh ((pl - 1 - st k) / 2)) (bsh ((pl - 1 - st k) / 2 + st k)))) else 0) else md_mir st s pl m (k + 1) full
theorem md_mir_01 (st : Int → Int) (s pl : Int) : ∀ (m : Nat) (k full : Int), md_mir st s pl m k full = 0 ∨ md_mir st s pl m k full = 1 := by
  intro m
  induction m with
  | zero => intro k full; exact Or.inr rfl
  | succ m ih =>
    intro k full
    rw [md_mir]
    split
    · split
      · exact Or.inl rfl
      · split
        · exact ih _ _
        · exact Or.inl rfl
    · exact ih _ _
set_option maxRecDepth 100000 in
theorem lX11_isMirrored {E : mx_E} {S T : Nat → Int → Int} {D : List mx_C} {s pl r : Int} (h_s : 0 ≤ s ∧ s ≤ 255) (h_p : 0 ≤ pl ∧ pl ≤ 16) (h46 : ∀ k : Int, 0 ≤ k ∧ k < 8 → 1 ≤ T 46 k ∧ T 46 k ≤ 15) : ∀ (m : Nat) (k full : Int) (u5 u6 : Value), u5.category = 1 → u6.category = 1 → k + m = 8 → 0 ≤ k → (0 ≤ full ∧ full < 65536) → md_mir (T 46) s pl m k full = r → Ev E yX11_isMirrored cX11_isMirrored 7 (some .boolean) (kf E 1 (.int (jI r)) (W5 S T D)) 0 0 5 [.ref 36, .int (jI s), .int (jI pl), .int (jI full), .int (jI k), u5, u6] [] (W5 S T D) := by
  intro m
  induction m with
  | zero =>
    intro k full u5 u6 hu5 hu6 hk hk0 hfu hres
    refine L_i4 dX11_isMirrored_5 ?_
    refine J_bipush dX11_isMirrored_7 (by decide) ?_
    refine J_icmp_ge 95 dX11_isMirrored_9 rfl (by omega) (by omega) (fun c9 => ?_) (fun c9 => ?_)
    · refine J_iconst dX11_isMirrored_95 ?_
      exact R_z rfl dX11_isMirrored_96 (by decide) rfl (by rw [← hres]; rfl)
    · exfalso; omega
  | succ m ih =>
    intro k full u5 u6 hu5 hu6 hk hk0 hfu hres
    have hst := h46 k (by omega)
    refine L_i4 dX11_isMirrored_5 ?_
    refine J_bipush dX11_isMirrored_7 (by decide) ?_
    refine J_icmp_ge 95 dX11_isMirrored_9 rfl (by omega) (by omega) (fun c9 => ?_) (fun c9 => ?_)
    · exfalso; omega
    · refine L_i1 dX11_isMirrored_12 ?_
      refine L_i4 dX11_isMirrored_13 ?_
      refine C_s2F vX11_251 dX11_isMirrored_15 (qX11_has (by omega) (by omega)) (Nat.le_of_ble_eq_true rfl) (by decide) ?_
      refine J_ifneB 24 dX11_isMirrored_18 rfl (fun c18 => ?_) (fun c18 => ?_)
      · refine L_i2 dX11_isMirrored_24 ?_
        refine J_iconst dX11_isMirrored_25 ?_
        refine J_isub dX11_isMirrored_26 ?_
        refine L_a0 dX11_isMirrored_27 ?_
        refine GW_36_26 fX11_50 dX11_isMirrored_28 ?_
        refine L_i4 dX11_isMirrored_31 ?_
        refine AR_46 dX11_isMirrored_33 (by omega) ?_
        refine J_isub dX11_isMirrored_34 ?_
        refine S_i5 dX11_isMirrored_35 (by decide) rfl ?_
        refine L_i5 dX11_isMirrored_37 ?_
        refine J_if_lt 50 dX11_isMirrored_39 rfl (by omega) (fun c39 => ?_) (fun c39 => ?_)
        · refine J_iconst dX11_isMirrored_50 ?_
          exact R_z rfl dX11_isMirrored_51 (by decide) rfl (by rw [← hres, md_mir, if_pos c18, if_pos (by omega)])
        · refine L_i5 dX11_isMirrored_42 ?_
          refine J_iconst dX11_isMirrored_44 ?_
          refine J_iremN dX11_isMirrored_45 (by omega) (by omega) ?_
          refine J_iconst dX11_isMirrored_46 ?_
          refine J_icmp_ne 52 dX11_isMirrored_47 rfl (by omega) (by omega) (fun c47 => ?_) (fun c47 => ?_)
          · refine J_iconst dX11_isMirrored_52 ?_
            refine L_i5 dX11_isMirrored_53 ?_
            refine J_iconst dX11_isMirrored_55 ?_
            refine J_idivN dX11_isMirrored_56 (by omega) (by omega) ?_
            refine J_1shl dX11_isMirrored_57 (by omega) ?_
            refine J_iconst dX11_isMirrored_58 ?_
            refine L_i5 dX11_isMirrored_59 ?_
            refine J_iconst dX11_isMirrored_61 ?_
            refine J_idivN dX11_isMirrored_62 (by omega) (by omega) ?_
            refine L_a0 dX11_isMirrored_63 ?_
            refine GW_36_26 fX11_50 dX11_isMirrored_64 ?_
            refine L_i4 dX11_isMirrored_67 ?_
            refine AR_46 dX11_isMirrored_69 (by omega) ?_
            refine J_iadd dX11_isMirrored_70 ?_
            refine J_1shl dX11_isMirrored_71 (by omega) ?_
            refine J_iorG dX11_isMirrored_72 (bsh_nn _) (bsh_nn _) ?_
            have hat : 0 ≤ bor (bsh ((pl - 1 - T 46 k) / 2)) (bsh ((pl - 1 - T 46 k) / 2 + T 46 k)) ∧ bor (bsh ((pl - 1 - T 46 k) / 2)) (bsh ((pl - 1 - T 46 k) / 2 + T 46 k)) < 65536 := ⟨bor_nn _ _, bor_lt 16 (bsh_lt 16 (by omega) (by omega)) (bsh_lt 16 (by omega) (by omega))⟩
            refine S_i6 dX11_isMirrored_73 (by decide) rfl ?_
            refine L_i3 dX11_isMirrored_75 ?_
            refine L_i6 dX11_isMirrored_76 ?_
            refine J_iandG dX11_isMirrored_78 (by omega) (by omega) ?_
            have hbl := ban_le full (bor (bsh ((pl - 1 - T 46 k) / 2)) (bsh ((pl - 1 - T 46 k) / 2 + T 46 k))) (by omega)
            have hbn := ban_nn full (bor (bsh ((pl - 1 - T 46 k) / 2)) (bsh ((pl - 1 - T 46 k) / 2 + T 46 k)))
            refine J_if_eq 84 dX11_isMirrored_79 rfl (by omega) (fun c79 => ?_) (fun c79 => ?_)
            · refine L_i3 dX11_isMirrored_84 ?_
              refine L_i6 dX11_isMirrored_85 ?_
              refine J_iorG dX11_isMirrored_87 (by omega) (by omega) ?_
              refine S_i3 dX11_isMirrored_88 (by decide) rfl ?_
              refine JI_4 dX11_isMirrored_89 (by decide) rfl ?_
              refine E_goto 5 dX11_isMirrored_92 rfl ?_
              exact ih (k + 1) _ _ _ rfl rfl (by omega) (by omega) ⟨bor_nn _ _, bor_lt 16 (by omega) (by omega)⟩ (by rw [← hres, md_mir, if_pos c18, if_neg (by omega), if_pos (by omega)])
            · refine J_iconst dX11_isMirrored_82 ?_
              exact R_z rfl dX11_isMirrored_83 (by decide) rfl (by rw [← hres, md_mir, if_pos c18, if_neg (by omega), if_neg (by omega)])
          · refine J_iconst dX11_isMirrored_50 ?_
            exact R_z rfl dX11_isMirrored_51 (by decide) rfl (by rw [← hres, md_mir, if_pos c18, if_pos (by omega)])
      · refine E_goto 89 dX11_isMirrored_21 rfl ?_
        refine JI_4 dX11_isMirrored_89 (by decide) rfl ?_
        refine E_goto 5 dX11_isMirrored_92 rfl ?_
        exact ih (k + 1) full _ _ hu5 hu6 (by omega) (by omega) hfu (by rw [← hres, md_mir, if_neg c18])

set_option maxRecDepth 100000 in
theorem qX11_isMirrored {S T : Nat → Int → Int} {D : List mx_C} {s pl : Int} (h_s : 0 ≤ s ∧ s ≤ 255) (h_p : 0 ≤ pl ∧ pl ≤ 16) (h46 : ∀ k : Int, 0 ≤ k ∧ k < 8 → 1 ≤ T 46 k ∧ T 46 k ≤ 15) : SpF yX11_isMirrored cX11_isMirrored 7 (some .boolean) 1 [.ref 36, .int (jI s), .int (jI pl)] (W5 S T D) (.int (jI (md_mir (T 46) s pl 8 0 0))) (W5 S T D) := by
  refine Sp.of [.ref 36, .int (jI s), .int (jI pl), .retAddr 0, .retAddr 0, .retAddr 0, .retAddr 0] (by decide) (by simp) (Nat.le_of_ble_eq_true rfl) rfl (fun E => ?_)
  refine J_iconst dX11_isMirrored_0 ?_
  refine S_i3 dX11_isMirrored_1 (by decide) rfl ?_
  refine J_iconst dX11_isMirrored_2 ?_
  refine S_i4 dX11_isMirrored_3 (by decide) rfl ?_
  exact lX11_isMirrored h_s h_p h46 8 0 0 _ _ rfl rfl (by omega) (by omega) (by omega) rfl

def md_stI (a c : Int → Int) (k : Int) : Int := md_btw a c (a 1) k + 1
theorem md_mir_congr {f g : Int → Int} (h : ∀ k : Int, 0 ≤ k ∧ k < 8 → f k = g k) (s pl : Int) : ∀ (m : Nat) (k full : Int), k + m = 8 → 0 ≤ k → md_mir f s pl m k full = md_mir g s pl m k full := by
  intro m
  induction m with
  | zero => intro k full _ _; rfl
  | succ m ih =>
    intro k full h1 h2
    rw [md_mir, md_mir, h k (by omega), ih _ _ (by omega) (by omega), ih _ _ (by omega) (by omega)]
set_option maxRecDepth 100000 in
theorem qX11_kinds {S T : Nat → Int → Int} {D : List mx_C} (hi : MI T) {s : Int} (h_s : -2147483648 ≤ s ∧ s < 2147483648) {g : Int} (h_g : -2147483648 ≤ g ∧ g < 2147483648) : SpL yX11_kinds cX11_kinds 5 (some .long) 12 [.ref 36, .int (jI s), .int (jI g)] (W5 S T D) (fun v hp' => v = (if isRow s g then (((md_rw (T 37) (T 39) s g).length : Int) + md_mir (md_stI (T 37) (T 39)) s (2 * pc s + g) 8 0 0) / 2 else -1) ∧ ∃ T', hp' = W5 S T' D ∧ SF T T') := by
  have hpb := pc_B s
  have h01 := md_mir_01 (md_stI (T 37) (T 39)) s (2 * pc s + g) 8 0 0
  refine Sp.of [.ref 36, .int (jI s), .int (jI g), .retAddr 0, .retAddr 0] (by decide) (by simp) (Nat.le_of_ble_eq_true rfl) rfl (fun E => ?_)
  refine L_i1 dX11_kinds_0 ?_
  refine L_i2 dX11_kinds_1 ?_
  refine C_s2F vX11_424 dX11_kinds_2 (qX11_isRowOf (by omega) (by omega)) (Nat.le_of_ble_eq_true rfl) (by decide) ?_
  refine J_ifneB 12 dX11_kinds_5 rfl (fun c5 => ?_) (fun c5 => ?_)
  · refine L_a0 dX11_kinds_12 ?_
    refine L_i1 dX11_kinds_13 ?_
    refine L_i2 dX11_kinds_14 ?_
    refine J_iconst dX11_kinds_15 ?_
    refine C_v3L vX11_427 dX11_kinds_16 (qX11_rowsOf hi (by omega) (by decide)) rfl rfl (Nat.le_of_ble_eq_true rfl) (by decide) (fun v16 hp16 hq16 => ?_)
    have hB := hq16.B (opL_PB (by omega) (by omega))
    obtain ⟨h1, T2, rfl, hF⟩ := hq16
    rw [if_pos rfl] at h1
    have hmc : md_mir (T2 46) s (2 * pc s + g) 8 0 0 = md_mir (md_stI (T 37) (T 39)) s (2 * pc s + g) 8 0 0 := md_mir_congr hF.2.1 _ _ 8 0 0 (by omega) (by omega)
    refine S_l3 dX11_kinds_19 (by decide) rfl ?_
    refine L_l3 dX11_kinds_20 ?_
    refine L_a0 dX11_kinds_21 ?_
    refine L_i1 dX11_kinds_22 ?_
    refine L_i1 dX11_kinds_23 ?_
    refine L_i2 dX11_kinds_24 ?_
    refine C_s2F vX11_414 dX11_kinds_25 (qX11_longOf (by omega)) (Nat.le_of_ble_eq_true rfl) (by decide) ?_
    refine C_v2F vX11_436 dX11_kinds_28 (qX11_isMirrored (T := T2) (by omega) (by omega) (fun k hk => by have := md_btw_B (a := T 37) (c := T 39) (q := T 37 1) (k := k) (by omega); have h2 := hF.2.1 k hk; omega)) rfl rfl (Nat.le_of_ble_eq_true rfl) (by decide) ?_
    rw [hmc]
    refine J_if_eq 38 dX11_kinds_31 rfl (by omega) (fun c31 => ?_) (fun c31 => ?_)
    · refine J_lconst 0 dX11_kinds_38 (by decide) ?_
      refine J_ladd dX11_kinds_39 ?_
      refine J_ldc2 (2) dX11_kinds_40 kX11_439 (by decide) ?_
      refine J_ldivN dX11_kinds_43 (by omega) (by omega) ?_
      exact RQ_l rfl dX11_kinds_44 (by refine ⟨?_, T2, rfl, hF.1⟩; rw [if_pos c5]; unfold md_rw; rw [← h1]; first | (rw [show md_mir (md_stI (T 37) (T 39)) s (2 * pc s + g) 8 0 0 = 1 by omega]) | (rw [show md_mir (md_stI (T 37) (T 39)) s (2 * pc s + g) 8 0 0 = 0 by omega]))
    · refine J_lconst 1 dX11_kinds_34 (by decide) ?_
      refine E_goto 39 dX11_kinds_35 rfl ?_
      refine J_ladd dX11_kinds_39 ?_
      refine J_ldc2 (2) dX11_kinds_40 kX11_439 (by decide) ?_
      refine J_ldivN dX11_kinds_43 (by omega) (by omega) ?_
      exact RQ_l rfl dX11_kinds_44 (by refine ⟨?_, T2, rfl, hF.1⟩; rw [if_pos c5]; unfold md_rw; rw [← h1]; first | (rw [show md_mir (md_stI (T 37) (T 39)) s (2 * pc s + g) 8 0 0 = 1 by omega]) | (rw [show md_mir (md_stI (T 37) (T 39)) s (2 * pc s + g) 8 0 0 = 0 by omega]))
  · refine J_ldc2 (-1) dX11_kinds_8 kX11_431 (by decide) ?_
    exact RQ_l rfl dX11_kinds_11 ⟨by rw [if_neg c5], T, rfl, SF.refl T⟩

