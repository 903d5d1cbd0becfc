/-! ===== the class: a day passes ===== -/
theorem SpV.toU {z : MethodName} {b : ByteArray} {m : Nat} {rt : Option FieldType} {d : Nat} {av : List Value} {hp hp1 : List mx_C} {Q : List mx_C → Prop} (h : SpV z b m rt d av hp hp1) (hQ : Q hp1) : SpU z b m rt d av hp Q := Sp.mono h (fun _ _ e => ⟨e.1, e.2 ▸ hQ⟩)
theorem SpF.toI {z : MethodName} {b : ByteArray} {m : Nat} {rt : Option FieldType} {d : Nat} {av : List Value} {hp hp1 : List mx_C} {v : Int} {Q : Int → List mx_C → Prop} (h : SpF z b m rt d av hp (.int (jI v)) hp1) (hQ : Q v hp1) : SpI z b m rt d av hp Q := Sp.mono h (fun _ _ e => ⟨v, e.1, e.2 ▸ hQ⟩)
theorem Fr.t {l l' : List Nat} {S S1 S2 : Nat → Int → Int} (h1 : Fr l S S1) (h2 : Fr l' S1 S2) (h : ∀ i, i ∈ l' → i ∈ l) : Fr l S S2 := h1.trans (h2.mono h)
theorem CR1.fr {S S1 : Nat → Int → Int} {D : List mx_C} {lb lt : Option (List Int)} (h : CR1 S D lb lt) {l : List Nat} (hf : Fr l S S1) (h0 : 0 ∉ l) (h12 : 12 ∉ l) : CR1 S1 D lb lt := by
  unfold CR1 at h ⊢
  rw [hf 0 h0, hf 12 h12]
  exact h
theorem rw_age_lo {f : Int → Int} {n q : Int} (hn : 1 ≤ n) (h : q < 22) : rw_age f n q = f q := by
  unfold rw_age
  split
  · rw [up_n (by omega)]
  · rfl
def cgA (f : Int → Int) (n : Int) : Int → Int := up (rw_age f n) 2 ((f 2 * 701 + 571).tmod 31019)
def cpd1 (lt : Option (List Int)) (n : Int) (f : Int → Int) : Int → Int := if rw_holds f n then (if f 2 % 10 < cti (cgA f n) n lt then rw_depart (cgA f n) n 2 else cgA f n) else f
def cpdE (lt : Option (List Int)) (m : Nat) (k : Int) (f : Int → Int) : Int → Int := up (lpF (cpd1 lt) m k f) 1 (lpF (cpd1 lt) m k f 1 + 1)
def cpd (lt : Option (List Int)) (f : Int → Int) : Int → Int := cpdE lt 8 1 f
theorem RX_cgA {f : Int → Int} {n : Int} (h : RX f) (hn : 1 ≤ n ∧ n ≤ 8) : RX (cgA f n) := by
  have h1 := RX_draw (RX_age h hn)
  rw [rw_age_lo hn.1 (by omega)] at h1
  exact h1
theorem cgA_lo {f : Int → Int} {n q : Int} (hn : 1 ≤ n) (h : q < 22) (h2 : ¬ q = 2) : cgA f n q = f q := by
  unfold cgA
  rw [up_n h2, rw_age_lo hn h]
theorem rw_depart_1 {f : Int → Int} {n kd : Int} (hn : 1 ≤ n ∧ n ≤ 8) (h5 : 0 ≤ f 5) : rw_depart f n kd 1 = f 1 := by
  unfold rw_depart rw_dep
  rw [up_n (by omega), up_n (by omega), up_n (by omega), up_n (by omega), up_n (by omega), rw_write_lo h5 (by omega) (by omega)]
theorem RX_cpd1 {lt : Option (List Int)} {f : Int → Int} {n : Int} (h : RX f) (hn : 1 ≤ n ∧ n ≤ 8) : RX (cpd1 lt n f) ∧ cpd1 lt n f 1 = f 1 := by
  have hg := RX_cgA h hn
  have hg1 := hg.1.2
  unfold cpd1
  split
  · next hh =>
    split
    · exact ⟨RX_depart hg hn (by rw [cgA_lo hn.1 (by omega) (by omega)]; exact hh.2) (by omega), by rw [rw_depart_1 hn (by omega), cgA_lo hn.1 (by omega) (by omega)]⟩
    · exact ⟨hg, cgA_lo hn.1 (by omega) (by omega)⟩
  · exact ⟨h, rfl⟩
theorem RX_cpdL {lt : Option (List Int)} : ∀ (m : Nat) (k : Int) (f : Int → Int), 1 ≤ k → k + m ≤ 9 → RX f → RX (lpF (cpd1 lt) m k f) ∧ lpF (cpd1 lt) m k f 1 = f 1 := by
  intro m
  induction m with
  | zero => intro k f _ _ h; exact ⟨h, rfl⟩
  | succ m ih =>
    intro k f h1 h2 h
    have h3 := RX_cpd1 (lt := lt) h (n := k) (by omega)
    have h4 := ih (k + 1) (cpd1 lt k f) (by omega) (by omega) h3.1
    exact ⟨h4.1, h4.2.trans h3.2⟩
theorem RX_cpd {lt : Option (List Int)} {f : Int → Int} (h : RX f) (h1 : f 1 < 9999) : RX (cpd lt f) ∧ cpd lt f 1 = f 1 + 1 := by
  have h2 := RX_cpdL (lt := lt) 8 1 f (by omega) (by omega) h
  refine ⟨RX_dawn h2.1 (by rw [h2.2]; exact h1), ?_⟩
  unfold cpd cpdE
  rw [up_s, h2.2]
theorem uX4_age {S T : Nat → Int → Int} {D : List mx_C} (hf : Bd (S 14)) {n : Int} (hn : 1 ≤ n ∧ n ≤ 8) : SpU yX4_age cX4_age 2 none 1 [.ref 13, .int (jI n)] (W5 S T D) (fun hp' => ∃ S', hp' = W5 S' T D ∧ Fr [14] S S' ∧ S' 14 = rw_age (S 14) n) := (qX4_age hf hn).toU ⟨_, rfl, Fr_up _ _ (by decide), upS_s _ _ _⟩
theorem uX4_dawn {S T : Nat → Int → Int} {D : List mx_C} : SpU yX4_dawn cX4_dawn 1 none 0 [.ref 13] (W5 S T D) (fun hp' => ∃ S', hp' = W5 S' T D ∧ Fr [14] S S' ∧ S' 14 = up (S 14) 1 (S 14 1 + 1)) := qX4_dawn.toU ⟨_, rfl, Fr_up _ _ (by decide), upS_s _ _ _⟩
theorem uX4_depart {S T : Nat → Int → Int} {D : List mx_C} (hv : RV (S 14)) {n kd : Int} (hn : 1 ≤ n ∧ n ≤ 8) (hh : 0 ≤ S 14 (5 + n)) (hk : 0 ≤ kd ∧ kd ≤ 2) : SpU yX4_depart cX4_depart 3 none 2 [.ref 13, .int (jI n), .int (jI kd)] (W5 S T D) (fun hp' => ∃ S', hp' = W5 S' T D ∧ Fr [14] S S' ∧ S' 14 = rw_depart (S 14) n kd) := (qX4_depart hv hn hh hk).toU ⟨_, rfl, Fr_up _ _ (by decide), upS_s _ _ _⟩
theorem uX4_draw {S T : Nat → Int → Int} {D : List mx_C} (hr : 0 ≤ S 14 2 ∧ S 14 2 < 31019) : SpI yX4_draw cX4_draw 2 (some .int) 0 [.ref 13] (W5 S T D) (fun v hp' => v = S 14 2 ∧ ∃ S', hp' = W5 S' T D ∧ Fr [14] S S' ∧ S' 14 = up (S 14) 2 ((S 14 2 * 701 + 571).tmod 31019)) := (qX4_draw hr).toI ⟨rfl, _, rfl, Fr_up _ _ (by decide), upS_s _ _ _⟩
set_option maxRecDepth 100000 in
theorem lX10_passDay {E : mx_E} {S T : Nat → Int → Int} {D : List mx_C} {lb lt : Option (List Int)} (hr : CR1 S D lb lt) {r : Int → Int} : ∀ (m : Nat) (k : Int) (S1 : Nat → Int → Int), k + m = 9 → 1 ≤ k → RX (S1 14) → Fr [14, 35] S S1 → cpdE lt m k (S1 14) = r → Ev E yX10_passDay cX10_passDay 2 none (kU E 4 (fun hp' => ∃ S', hp' = W5 S' T D ∧ Fr [14, 35] S S' ∧ S' 14 = r)) 0 0 2 [.ref 0, .int (jI k)] [] (W5 S1 T D) := by
  intro m
  induction m with
  | zero =>
    intro k S1 hkm hk hx hf hr
    refine L_i1 dX10_passDay_2 ?_
    refine J_bipush dX10_passDay_3 (by decide) ?_
    refine J_icmp_gt 60 dX10_passDay_5 rfl (by omega) (by omega) (fun c5 => ?_) (fun c5 => ?_)
    · refine L_a0 dX10_passDay_60 ?_
      refine GW_0_3 fX10_32 dX10_passDay_61 ?_
      refine C_v0U vX10_379 dX10_passDay_64 uX4_dawn rfl rfl (Nat.le_of_ble_eq_true rfl) (by decide) (fun hp64 hq64 => ?_)
      obtain ⟨S64, rfl, hf64, e64⟩ := hq64
      exact RQ_v rfl dX10_passDay_67 ⟨S64, rfl, hf.t hf64 (by simp), by rw [e64]; exact hr⟩
    · exfalso; omega
  | succ m ih =>
    intro k S1 hkm hk hx hf hres
    have hv := hx.1
    have ha := hv.2
    have hres : cpdE lt m (k + 1) (cpd1 lt k (S1 14)) = r := hres
    have hgx := RX_cgA hx (n := k) (by omega)
    have hxx := (RX_cpd1 (lt := lt) hx (n := k) (by omega)).1
    refine L_i1 dX10_passDay_2 ?_
    refine J_bipush dX10_passDay_3 (by decide) ?_
    refine J_icmp_gt 60 dX10_passDay_5 rfl (by omega) (by omega) (fun c5 => ?_) (fun c5 => ?_)
    · exfalso; omega
    · refine L_a0 dX10_passDay_8 ?_
      refine GW_0_3 fX10_32 dX10_passDay_9 ?_
      refine L_i1 dX10_passDay_12 ?_
      refine C_v1F vX10_125 dX10_passDay_13 (qX4_holds hv.1 (by omega)) rfl rfl (Nat.le_of_ble_eq_true rfl) (by decide) ?_
      refine J_ifeqB 54 dX10_passDay_16 rfl (fun c16 => ?_) (fun c16 => ?_)
      · refine JI_1 dX10_passDay_54 (by decide) rfl ?_
        refine E_goto 2 dX10_passDay_57 rfl ?_
        have ec : S1 14 = cpd1 lt k (S1 14) := by unfold cpd1; rw [if_neg c16]
        exact ih (k + 1) S1 (by omega) (by omega) (by rw [ec]; exact hxx) hf (by rw [ec]; exact hres)
      · refine L_a0 dX10_passDay_19 ?_
        refine GW_0_3 fX10_32 dX10_passDay_20 ?_
        refine L_i1 dX10_passDay_23 ?_
        refine C_v1U vX10_376 dX10_passDay_24 (uX4_age hv.1 (by omega)) rfl rfl (Nat.le_of_ble_eq_true rfl) (by decide) (fun hp24 hq24 => ?_)
        obtain ⟨S24, rfl, hf24, e24⟩ := hq24
        have e24b : S24 14 2 = S1 14 2 := by rw [e24, rw_age_lo hk (by omega)]
        refine L_a0 dX10_passDay_27 ?_
        refine GW_0_3 fX10_32 dX10_passDay_28 ?_
        refine C_v0I vX10_167 dX10_passDay_31 (uX4_draw (by rw [e24b]; omega)) rfl rfl (Nat.le_of_ble_eq_true rfl) (by decide) (fun v31 hp31 hq31 => ?_)
        obtain ⟨v31, S31, rfl, hf31, e31⟩ := hq31
        rw [e24b] at v31 e31
        subst v31
        have e31 : S31 14 = cgA (S1 14) k := by rw [e31, e24]; rfl
        have hf31 : Fr [14, 35] S S31 := (hf.t hf24 (by simp)).t hf31 (by simp)
        refine J_bipush dX10_passDay_34 (by decide) ?_
        refine J_iremN dX10_passDay_36 (by omega) (by omega) ?_
        refine L_a0 dX10_passDay_37 ?_
        refine L_i1 dX10_passDay_38 ?_
        refine C_v1I vX10_197 dX10_passDay_39 (qX10_tiresOf (S := S31) (by rw [e31]; exact hgx.1) (by rw [e31]; exact hgx.2) (by omega) (hr.fr hf31 (by decide) (by decide))) rfl rfl (Nat.le_of_ble_eq_true rfl) (by decide) (fun v39 hp39 hq39 => ?_)
        obtain ⟨v39, S39, rfl, hf39⟩ := hq39
        rw [e31] at v39
        subst v39
        have e39 : S39 14 = cgA (S1 14) k := (hf39 14 (by decide)).trans e31
        have hf39 : Fr [14, 35] S S39 := hf31.t hf39 (by simp)
        have htB := cti_B (f := cgA (S1 14) k) (n := k) lt
        refine J_icmp_ge 54 dX10_passDay_42 rfl (by omega) (by omega) (fun c42 => ?_) (fun c42 => ?_)
        · refine JI_1 dX10_passDay_54 (by decide) rfl ?_
          refine E_goto 2 dX10_passDay_57 rfl ?_
          have ec : S39 14 = cpd1 lt k (S1 14) := by rw [e39]; unfold cpd1; rw [if_pos c16, if_neg (by omega)]
          exact ih (k + 1) S39 (by omega) (by omega) (by rw [ec]; exact hxx) hf39 (by rw [ec]; exact hres)
        · refine L_a0 dX10_passDay_45 ?_
          refine GW_0_3 fX10_32 dX10_passDay_46 ?_
          refine L_i1 dX10_passDay_49 ?_
          refine J_iconst dX10_passDay_50 ?_
          refine C_v2U vX10_128 dX10_passDay_51 (uX4_depart (by rw [e39]; exact hgx.1) (by omega) (by rw [e39, cgA_lo hk (by omega) (by omega)]; exact c16.2) (by omega)) rfl rfl (Nat.le_of_ble_eq_true rfl) (by decide) (fun hp51 hq51 => ?_)
          obtain ⟨S51, rfl, hf51, e51⟩ := hq51
          rw [e39] at e51
          refine JI_1 dX10_passDay_54 (by decide) rfl ?_
          refine E_goto 2 dX10_passDay_57 rfl ?_
          have ec : S51 14 = cpd1 lt k (S1 14) := by rw [e51]; unfold cpd1; rw [if_pos c16, if_pos (by omega)]
          exact ih (k + 1) S51 (by omega) (by omega) (by rw [ec]; exact hxx) (hf39.t hf51 (by simp)) (by rw [ec]; exact hres)
theorem qX10_passDay {S T : Nat → Int → Int} {D : List mx_C} {lb lt : Option (List Int)} (hr : CR1 S D lb lt) (hx : RX (S 14)) : SpU yX10_passDay cX10_passDay 2 none 4 [.ref 0] (W5 S T D) (fun hp' => ∃ S', hp' = W5 S' T D ∧ Fr [14, 35] S S' ∧ S' 14 = cpd lt (S 14)) := by
  refine Sp.of [.ref 0, .retAddr 0] (by decide) (by simp) (Nat.le_of_ble_eq_true rfl) rfl (fun E => ?_)
  refine J_iconst dX10_passDay_0 ?_
  refine S_i1 dX10_passDay_1 (by decide) rfl ?_
  exact lX10_passDay hr 8 1 S (by omega) (by omega) hx (Fr.refl _ _) rfl
