/-! ===== the reference: join, can, days ===== -/
theorem MI.keep {T : Nat → Int → Int} (h : MI T) : MI (upS T 37 (md_keep (T 37))) := h.row rfl rfl (md_keep_V h.1) (md_keep_L h.1 h.2.1) (md_keep_at h.1.2.2.2.1 (by omega) (by omega))
theorem md_sec_keep {a c : Int → Int} (hv : MV a) (k p : Int) : md_sec (md_keep a) c k p = md_sec a c k p := md_sec_congr (AgR_keep hv.2.2.2.1) (md_keep_at hv.2.2.2.1 (by omega) (by omega)) (by rw [md_keep_at hv.2.2.2.1 (by omega) (by omega)]; exact hv.2.2.2.2.2.2.2.1)
set_option maxRecDepth 100000 in
theorem qX11_join {S T : Nat → Int → Int} {D : List mx_C} (hi : MI T) (hw : T 36 23 = 1) {n : Int} (h_n : -2147483648 ≤ n ∧ n < 2147483648) {p : Int} (h_p : -2147483648 ≤ p ∧ p < 2147483648) : SpI yX11_join cX11_join 4 (some .int) 11 [.ref 36, .int (jI n), .int (jI p)] (W5 S T D) (fun v hp' => v = md_sec (T 37) (T 39) (wr1 n) p ∧ ∃ T', hp' = W5 S T' D ∧ T' 37 = (if md_sec (T 37) (T 39) (wr1 n) p = -1 then T 37 else md_join (md_keep (T 37)) (T 39) (wr1 n) p) ∧ Fr [37, 42, 43, 44] T T') := by
  have hv := hi.1
  have hl := hi.2.1
  have ha := hv.2
  have hwr := wr1_B h_n
  have hsr := md_sec_R (a := T 37) (c := T 39) (by omega) (wr1 n) p
  refine Sp.of [.ref 36, .int (jI n), .int (jI p), .retAddr 0] (by decide) (by simp) (Nat.le_of_ble_eq_true rfl) rfl (fun E => ?_)
  refine L_a0 dX11_join_0 ?_
  refine L_i1 dX11_join_1 ?_
  refine J_iconst dX11_join_2 ?_
  refine J_isub dX11_join_3 ?_
  refine J_wr1 ?_
  refine L_i2 dX11_join_4 ?_
  refine C_v2I vX11_332 dX11_join_5 (qX11_secondAt hi (by omega) (by omega)) rfl rfl (Nat.le_of_ble_eq_true rfl) (by decide) (fun v5 hp5 hq5 => ?_)
  obtain ⟨rfl, T5, rfl, f5⟩ := hq5
  have e5 := f5 37 (by decide)
  have hi5 := hi.congr e5 (f5 39 (by decide))
  have hv5 := hi5.1
  refine S_i3 dX11_join_8 (by decide) rfl ?_
  refine L_i3 dX11_join_9 ?_
  refine J_iconst dX11_join_10 ?_
  refine J_icmp_ne 16 dX11_join_11 rfl (by omega) (by omega) (fun c11 => ?_) (fun c11 => ?_)
  · refine L_a0 dX11_join_16 ?_
    refine C_v0V vX11_353 dX11_join_17 (qX11_keep hv5.2.2.2.1) rfl rfl (Nat.le_of_ble_eq_true rfl) (by decide) ?_
    refine L_a0 dX11_join_20 ?_
    refine L_i1 dX11_join_21 ?_
    refine J_iconst dX11_join_22 ?_
    refine J_isub dX11_join_23 ?_
    refine J_wr1 ?_
    have hs2 : ¬ md_sec (md_keep (T5 37)) (T5 39) (wr1 n) p = -1 := by rw [md_sec_keep hv5, e5, f5 39 (by decide)]; exact c11
    refine L_i2 dX11_join_24 ?_
    refine C_v2U vX11_356 dX11_join_25 (qX11_joinNow (T := upS T5 37 (md_keep (T5 37))) hi5.keep (by show T5 36 23 = 1; rw [f5 36 (by decide)]; exact hw) hs2) rfl rfl (Nat.le_of_ble_eq_true rfl) (by decide) (fun hp25 hq25 => ?_)
    obtain ⟨T25, rfl, g25, f25⟩ := hq25
    refine L_i3 dX11_join_28 ?_
    exact RQ_i rfl dX11_join_29 ⟨rfl, T25, rfl, by rw [if_neg c11, g25, upS_s, show upS T5 37 (md_keep (T5 37)) 39 = T 39 from f5 39 (by decide), e5], fun i h => (f25 i h).trans ((upS_n (fun e => h (by rw [e]; decide))).trans (f5 i (fun h2 => h (List.mem_cons_of_mem _ h2))))⟩
  · refine J_iconst dX11_join_14 ?_
    exact RQ_i rfl dX11_join_15 ⟨(by rw [show md_sec (T 37) (T 39) (wr1 n) p = -1 by omega]), T5, rfl, by rw [if_pos (by omega)]; exact e5, f5.mono (by decide)⟩

def md_cang (a c : Int → Int) (k p acc : Int) : Int := bor acc (if md_sec a c k p = -1 then 0 else bsh p)
theorem md_cang_B {a c : Int → Int} {k p acc : Int} (hp : p ≤ 15) (h : 0 ≤ acc ∧ acc < 65536) : 0 ≤ md_cang a c k p acc ∧ md_cang a c k p acc < 65536 := by
  refine ⟨bor_nn _ _, ?_⟩
  unfold md_cang
  refine bor_lt 16 (by omega) ?_
  split
  · decide
  · exact bsh_lt 16 (by omega) (by omega)
set_option maxRecDepth 100000 in
theorem lX11_can {E : mx_E} {S T : Nat → Int → Int} {D : List mx_C} (hi : MI T) {n : Int} (h_n : -2147483648 ≤ n ∧ n < 2147483648) (hn : 0 ≤ wr1 n ∧ wr1 n ≤ 7) {r : Int} : ∀ (m : Nat) (p acc : Int) (T1 : Nat → Int → Int), p + m = 16 → 0 ≤ p → (0 ≤ acc ∧ acc < 65536) → Fr [42, 43, 44] T T1 → lpF (md_cang (T 37) (T 39) (wr1 n)) m p acc = r → Ev E yX11_can cX11_can 4 (some .int) (kI E 10 (fun v hp' => v = r ∧ ∃ T', hp' = W5 S T' D ∧ Fr [42, 43, 44] T T')) 0 0 15 [.ref 36, .int (jI n), .int (jI acc), .int (jI p)] [] (W5 S T1 D) := by
  intro m
  induction m with
  | zero =>
    intro p acc T1 hp hp0 hac f1 hres
    refine L_i3 dX11_can_15 ?_
    refine J_bipush dX11_can_16 (by decide) ?_
    refine J_icmp_ge 49 dX11_can_18 rfl (by omega) (by omega) (fun c18 => ?_) (fun c18 => ?_)
    · refine L_i2 dX11_can_49 ?_
      exact RQ_i rfl dX11_can_50 ⟨hres, T1, rfl, f1⟩
    · exfalso; omega
  | succ m ih =>
    intro p acc T1 hp hp0 hac f1 hres
    have hv := hi.1
    have hl := hi.2.1
    have ha := hv.2
    have e1 := f1 37 (by decide)
    have e39 := f1 39 (by decide)
    have hi1 := hi.congr e1 e39
    have hwr := wr1_B h_n
    have hsr := md_sec_R (a := T 37) (c := T 39) (by omega) (wr1 n) p
    have hps := bsh_nn p
    rw [lpF] at hres
    refine L_i3 dX11_can_15 ?_
    refine J_bipush dX11_can_16 (by decide) ?_
    refine J_icmp_ge 49 dX11_can_18 rfl (by omega) (by omega) (fun c18 => ?_) (fun c18 => ?_)
    · exfalso; omega
    · refine L_i2 dX11_can_21 ?_
      refine L_a0 dX11_can_22 ?_
      refine L_i1 dX11_can_23 ?_
      refine J_iconst dX11_can_24 ?_
      refine J_isub dX11_can_25 ?_
      refine J_wr1 ?_
      refine L_i3 dX11_can_26 ?_
      refine C_v2I vX11_332 dX11_can_27 (qX11_secondAt hi1 (by omega) (by omega)) rfl rfl (Nat.le_of_ble_eq_true rfl) (by decide) (fun v27 hp27 hq27 => ?_)
      obtain ⟨rfl, T27, rfl, f27⟩ := hq27
      rw [e1, e39]
      refine J_iconst dX11_can_30 ?_
      refine J_icmp_eq 40 dX11_can_31 rfl (by omega) (by omega) (fun c31 => ?_) (fun c31 => ?_)
      · refine J_iconst dX11_can_40 ?_
        refine J_iorG dX11_can_41 (by omega) (by omega) ?_
        refine J_eqi (b := md_cang (T 37) (T 39) (wr1 n) p acc) (by first | (unfold md_cang; rw [if_pos (by omega)]) | (unfold md_cang; rw [if_neg (by omega)])) ?_
        refine S_i2 dX11_can_42 (by decide) rfl ?_
        refine JI_3 dX11_can_43 (by decide) rfl ?_
        refine E_goto 15 dX11_can_46 rfl ?_
        have hgb := md_cang_B (a := T 37) (c := T 39) (k := wr1 n) (p := p) (by omega) hac
        exact ih (p + 1) _ T27 (by omega) (by omega) hgb (f1.trans f27) hres
      · refine J_iconst dX11_can_34 ?_
        refine L_i3 dX11_can_35 ?_
        refine J_1shl dX11_can_36 (by omega) ?_
        refine E_goto 41 dX11_can_37 rfl ?_
        refine J_iorG dX11_can_41 (by omega) (by omega) ?_
        refine J_eqi (b := md_cang (T 37) (T 39) (wr1 n) p acc) (by first | (unfold md_cang; rw [if_pos (by omega)]) | (unfold md_cang; rw [if_neg (by omega)])) ?_
        refine S_i2 dX11_can_42 (by decide) rfl ?_
        refine JI_3 dX11_can_43 (by decide) rfl ?_
        refine E_goto 15 dX11_can_46 rfl ?_
        have hgb := md_cang_B (a := T 37) (c := T 39) (k := wr1 n) (p := p) (by omega) hac
        exact ih (p + 1) _ T27 (by omega) (by omega) hgb (f1.trans f27) hres

set_option maxRecDepth 100000 in
theorem qX11_can {S T : Nat → Int → Int} {D : List mx_C} (hi : MI T) {n : Int} (h_n : -2147483648 ≤ n ∧ n < 2147483648) : SpI yX11_can cX11_can 4 (some .int) 10 [.ref 36, .int (jI n)] (W5 S T D) (fun v hp' => v = (if 0 ≤ wr1 n ∧ wr1 n ≤ 7 then lpF (md_cang (T 37) (T 39) (wr1 n)) 16 0 0 else -1) ∧ ∃ T', hp' = W5 S T' D ∧ Fr [42, 43, 44] T T') := by
  have hwr := wr1_B h_n
  refine Sp.of [.ref 36, .int (jI n), .retAddr 0, .retAddr 0] (by decide) (by simp) (Nat.le_of_ble_eq_true rfl) rfl (fun E => ?_)
  refine L_i1 dX11_can_0 ?_
  refine J_iconst dX11_can_1 ?_
  refine J_isub dX11_can_2 ?_
  refine J_wr1 ?_
  refine C_s1F vX11_87 dX11_can_3 (qX11_isNumber (by omega)) (Nat.le_of_ble_eq_true rfl) (by decide) ?_
  refine J_ifneB 11 dX11_can_6 rfl (fun c6 => ?_) (fun c6 => ?_)
  · refine J_iconst dX11_can_11 ?_
    refine S_i2 dX11_can_12 (by decide) rfl ?_
    refine J_iconst dX11_can_13 ?_
    refine S_i3 dX11_can_14 (by decide) rfl ?_
    rw [if_pos c6]
    exact lX11_can hi h_n c6 16 0 0 T (by omega) (by omega) (by omega) (Fr.refl _ _) rfl
  · refine J_iconst dX11_can_9 ?_
    exact RQ_i rfl dX11_can_10 ⟨by rw [if_neg c6], T, rfl, Fr.refl _ _⟩

