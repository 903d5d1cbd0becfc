/-! ===== the class: the scanner's tokens ===== -/
theorem cbF_c {S S1 : Nat → Int → Int} (h1 : S1 1 = S 1) (h2 : S1 2 = S 2) : cbF S1 = cbF S := by unfold cbF; rw [h1, h2]
def tkv (B : Nat → Int) (c : Nat) : Int := if kd B c = 2 then lxv B c else 0
/-- where the j-th token is looked for -/
def tkc (B : Nat → Int) : Nat → Nat
  | 0 => 0
  | j + 1 => lxe B (tkc B j)
theorem tkc_hi {B : Nat → Int} {N : Nat} (h : BZ B N) : ∀ j, tkc B j ≤ N := by
  intro j
  induction j with
  | zero => exact Nat.zero_le _
  | succ j ih => exact lxe_hi h.n ih
theorem tkc_lo {B : Nat → Int} : ∀ j, (∀ k, k < j → ¬ kd B (tkc B k) = 1) → j ≤ lxp B (tkc B j) := by
  intro j
  induction j with
  | zero => intro _; exact Nat.zero_le _
  | succ j ih =>
    intro h
    have h1 := ih (fun k hk => h k (by omega))
    have h2 := lx_next (h j (by omega))
    show j + 1 ≤ lxp B (lxe B (tkc B j))
    omega
theorem kd_end {B : Nat → Int} {N : Nat} (h : BZ B N) {c : Nat} (hc : c ≤ N) : kd B c = 1 ↔ lxp B c = N := by
  have h1 := lxp_hi h.n hc
  rw [kd_1]
  unfold lxt
  constructor
  · intro he
    by_cases h2 : B (lxp B c) < 0
    · rcases Nat.lt_or_ge (lxp B c) N with h3 | h3
      · have := h.2.2 _ h3; omega
      · omega
    · exfalso
      rw [if_neg h2] at he
      by_cases h3 : isD (B (lxp B c))
      · rw [if_pos h3] at he; omega
      · rw [if_neg h3] at he
        by_cases h4 : isL (B (lxp B c))
        · rw [if_pos h4] at he; omega
        · rw [if_neg h4] at he
          split at he
          · split at he <;> omega
          · split at he
            · rename_i hg; rcases hg with hg | hg | hg | hg | hg <;> omega
            · omega
  · intro he
    rw [if_pos (by rw [he, h.2.1 N (Nat.le_refl _)]; omega)]
/-- what the scanner holds -/
def SCT (B : Nat → Int) (n : Nat) (S : Nat → Int → Int) : Prop := n ≤ 300 ∧ S 4 3 = (n : Int) ∧ (∀ j : Nat, j ≤ n → S 5 j = kd B (tkc B j) ∧ S 6 j = ((lxp B (tkc B j) : Nat) : Int) ∧ (kd B (tkc B j) = 2 → S 7 j = lxv B (tkc B j))) ∧ (∀ j, j < n → ¬ kd B (tkc B j) = 1) ∧ kd B (tkc B n) = 1
theorem SCT.fr {B : Nat → Int} {n : Nat} {S S1 : Nat → Int → Int} (h : SCT B n S) (h3 : S1 4 3 = S 4 3) (h5 : S1 5 = S 5) (h6 : S1 6 = S 6) (h7 : S1 7 = S 7) : SCT B n S1 := by
  unfold SCT at h ⊢
  rw [h3, h5, h6, h7]
  exact h
set_option maxRecDepth 100000 in
theorem qX6_take {S T : Nat → Int → Int} {D : List mx_C} (h0 : 0 ≤ S 1 1 ∧ S 1 1 ≤ 300) (h_n : 0 ≤ S 4 3 ∧ S 4 3 ≤ 300) {c : Nat} (hp : lxp (cbF S) c < (S 1 1).toNat) : SpF yX6_take cX6_take 4 (some .int) 6 [.ref 4, .ref 1, .int (jI ((lxp (cbF S) c : Nat) : Int))] (W5 S T D) (.int (jI ((lxe (cbF S) c : Nat) : Int))) (W5 (ntS S (kd (cbF S) c) ((lxp (cbF S) c : Nat) : Int) (tkv (cbF S) c)) T D) := by
  have hB := cbF_BZ h0
  have hb1 := hB.2.2 _ hp
  have hz1 : bz (cbF S) (lxp (cbF S) c) = cbF S (lxp (cbF S) c) := bz_pos hb1.1
  have hzB := bz_B hB (lxp (cbF S) c)
  refine Sp.of [.ref 4, .ref 1, .int (jI ((lxp (cbF S) c : Nat) : Int)), .retAddr 0] (by decide) (by simp) (Nat.le_of_ble_eq_true rfl) rfl (fun E => ?_)
  refine L_a1 dX6_take_0 ?_
  refine L_i2 dX6_take_1 ?_
  refine C_v1F vX6_44 dX6_take_2 (qX9_byteN h0 (by omega)) rfl rfl (Nat.le_of_ble_eq_true rfl) (by decide) ?_
  refine S_i3 dX6_take_5 (by decide) rfl ?_
  refine L_i3 dX6_take_6 ?_
  refine C_s1F vX6_52 dX6_take_7 (qX6_isDigit hzB) (Nat.le_of_ble_eq_true rfl) (by decide) ?_
  refine J_ifeqB 20 dX6_take_10 rfl (fun c10 => ?_) (fun c10 => ?_)
  · refine L_i3 dX6_take_20 ?_
    refine C_s1F vX6_58 dX6_take_21 (qX6_isLetter hzB) (Nat.le_of_ble_eq_true rfl) (by decide) ?_
    refine J_ifeqB 34 dX6_take_24 rfl (fun c24 => ?_) (fun c24 => ?_)
    · rw [hz1] at c24 c10
      have hk2 : ¬ kd (cbF S) c = 2 := fun hh => by
        have := kd_2.mp hh
        unfold lxt at this
        rw [if_neg (by omega), if_neg c10, if_neg c24] at this
        split at this
        · split at this <;> omega
        · split at this
          · rename_i hg; rcases hg with hg | hg | hg | hg | hg <;> omega
          · omega
      rw [show tkv (cbF S) c = 0 from if_neg hk2]
      refine L_a0 dX6_take_34 ?_
      refine L_a1 dX6_take_35 ?_
      refine L_i2 dX6_take_36 ?_
      refine C_v2F vX6_64 dX6_take_37 (qX6_takeSign h0 h_n (c := c) rfl hp c10 c24) rfl rfl (Nat.le_of_ble_eq_true rfl) (by decide) ?_
      exact R_i rfl dX6_take_40 rfl rfl
    · rw [hz1] at c24 c10
      have hlt : lxt (cbF S) c = 2 := by unfold lxt; rw [if_neg (by omega), if_neg c10, if_pos c24]
      have hle : lxe (cbF S) c = lte (cbF S) 301 (lxp (cbF S) c) := by unfold lxe; rw [if_neg (by omega), if_neg c10, if_pos c24]
      have hk : kd (cbF S) c = kwl (lxl (cbF S) c) := if_pos hlt
      have hkc := kwl_cases (lxl (cbF S) c)
      rw [show tkv (cbF S) c = 0 from if_neg (by omega), hk, hle]
      refine L_a0 dX6_take_27 ?_
      refine L_a1 dX6_take_28 ?_
      refine L_i2 dX6_take_29 ?_
      refine C_v2F vX6_61 dX6_take_30 (qX6_takeWord h0 h_n (by omega)) rfl rfl (Nat.le_of_ble_eq_true rfl) (by decide) ?_
      exact R_i rfl dX6_take_33 rfl rfl
  · rw [hz1] at c10
    have hlt : lxt (cbF S) c = 1 := by unfold lxt; rw [if_neg (by omega), if_pos c10]
    have hle : lxe (cbF S) c = dge (cbF S) 301 (lxp (cbF S) c) := by unfold lxe; rw [if_neg (by omega), if_pos c10]
    have hk := kd_2.mpr hlt
    rw [hk, hle, show tkv (cbF S) c = min 10000 (dgv (cbF S) 301 (lxp (cbF S) c) 0) from if_pos hk]
    refine L_a0 dX6_take_13 ?_
    refine L_a1 dX6_take_14 ?_
    refine L_i2 dX6_take_15 ?_
    refine C_v2F vX6_55 dX6_take_16 (qX6_takeNumber h0 h_n (by omega)) rfl rfl (Nat.le_of_ble_eq_true rfl) (by decide) ?_
    exact R_i rfl dX6_take_19 rfl rfl
set_option maxRecDepth 100000 in
theorem lX6_cut {E : mx_E} {S T : Nat → Int → Int} {D : List mx_C} (h0 : 0 ≤ S 1 1 ∧ S 1 1 ≤ 300) : ∀ (m : Nat) (j : Nat) (S1 : Nat → Int → Int), j + m = 300 → Fr [4, 5, 6, 7] S S1 → S1 4 3 = (j : Int) → S1 4 4 = 0 → (∀ k : Nat, k < j → S1 5 k = kd (cbF S) (tkc (cbF S) k) ∧ S1 6 k = ((lxp (cbF S) (tkc (cbF S) k) : Nat) : Int) ∧ (kd (cbF S) (tkc (cbF S) k) = 2 → S1 7 k = lxv (cbF S) (tkc (cbF S) k))) → (∀ k, k < j → ¬ kd (cbF S) (tkc (cbF S) k) = 1) → Ev E yX6_cut cX6_cut 4 none (kU E 7 (fun hp' => ∃ (S' : Nat → Int → Int) (n : Nat), hp' = W5 S' T D ∧ Fr [4, 5, 6, 7] S S' ∧ SCT (cbF S) n S' ∧ S' 4 4 = 0)) 0 0 18 [.ref 4, .ref 1, .int (jI ((lxp (cbF S) (tkc (cbF S) j) : Nat) : Int)), .int (jI (j : Int))] [] (W5 S1 T D) := by
  have hB := cbF_BZ h0
  intro m j S1
  -- the end, from 50 on
  have hend : ∀ (j : Nat) (S1 : Nat → Int → Int), j ≤ 300 → Fr [4, 5, 6, 7] S S1 → S1 4 3 = (j : Int) → S1 4 4 = 0 → (∀ k : Nat, k < j → S1 5 k = kd (cbF S) (tkc (cbF S) k) ∧ S1 6 k = ((lxp (cbF S) (tkc (cbF S) k) : Nat) : Int) ∧ (kd (cbF S) (tkc (cbF S) k) = 2 → S1 7 k = lxv (cbF S) (tkc (cbF S) k))) → (∀ k, k < j → ¬ kd (cbF S) (tkc (cbF S) k) = 1) → lxp (cbF S) (tkc (cbF S) j) = (S 1 1).toNat → Ev E yX6_cut cX6_cut 4 none (kU E 7 (fun hp' => ∃ (S' : Nat → Int → Int) (n : Nat), hp' = W5 S' T D ∧ Fr [4, 5, 6, 7] S S' ∧ SCT (cbF S) n S' ∧ S' 4 4 = 0)) 0 0 50 [.ref 4, .ref 1, .int (jI ((lxp (cbF S) (tkc (cbF S) j) : Nat) : Int)), .int (jI (j : Int))] [] (W5 S1 T D) := by
    intro j S1 hj hF e3 e4 hT hK hend
    have e1 : S1 1 = S 1 := hF 1 (by decide)
    have hk1 := (kd_end hB (tkc_hi hB j)).mpr hend
    refine L_a0 dX6_cut_50 ?_
    refine J_iconst dX6_cut_51 ?_
    refine L_a1 dX6_cut_52 ?_
    refine GW_1_1 fX6_32 dX6_cut_53 ?_
    refine J_eqi (b := S 1 1) (by rw [e1]) ?_
    refine J_iconst dX6_cut_56 ?_
    refine C_v3V vX6_40 dX6_cut_57 (qX6_note (by omega)) rfl rfl (Nat.le_of_ble_eq_true rfl) (by decide) ?_
    refine L_a0 dX6_cut_60 ?_
    refine E_dup dX6_cut_61 rfl ?_
    refine GW_4_3 fX6_21 dX6_cut_62 ?_
    refine J_iconst dX6_cut_65 ?_
    refine J_isub dX6_cut_66 ?_
    refine PW_4_3 fX6_21 dX6_cut_67 ?_
    refine RQ_v rfl dX6_cut_70 ⟨_, j, rfl, (hF.trans (ntS_Fr S1 _ _ _)).trans (Fr_up _ _ (by decide)), ⟨hj, by rw [upS_s, up_s, ntS_4, up_s, e3]; omega, fun k hk => ?_, hK, hk1⟩, by rw [upS_s, up_n (by decide), ntS_4, up_n (by decide)]; exact e4⟩
    rw [upS_n (by decide), upS_n (by decide), upS_n (by decide), ntS_5, ntS_6, ntS_7, e3]
    by_cases h : k = j
    · subst h
      rw [up_s, up_s, hk1, hend]
      exact ⟨rfl, by omega, fun h => by omega⟩
    · rw [up_n (by omega), up_n (by omega), up_n (by omega)]
      exact hT k (by omega)
  revert j S1
  induction m with
  | zero =>
    intro j S1 hjm hF e3 e4 hT hK
    have h1 := tkc_lo j hK
    have h2 := lxp_hi hB.n (tkc_hi hB j)
    have h3 := hB.1
    refine L_i3 dX6_cut_18 ?_
    refine J_sipush dX6_cut_19 (by decide) ?_
    refine J_icmp_ge 50 dX6_cut_22 rfl (by omega) (by omega) (fun c22 => ?_) (fun c22 => ?_)
    · exact hend j S1 (by omega) hF e3 e4 hT hK (by omega)
    · exfalso; omega
  | succ m ih =>
    intro j S1 hjm hF e3 e4 hT hK
    have e1 : S1 1 = S 1 := hF 1 (by decide)
    have e2 : S1 2 = S 2 := hF 2 (by decide)
    have eB : cbF S1 = cbF S := by unfold cbF; rw [e1, e2]
    have h2 := lxp_hi hB.n (tkc_hi hB j)
    have h4 := lxe_hi hB.n (tkc_hi hB j)
    refine L_i3 dX6_cut_18 ?_
    refine J_sipush dX6_cut_19 (by decide) ?_
    refine J_icmp_ge 50 dX6_cut_22 rfl (by omega) (by omega) (fun c22 => ?_) (fun c22 => ?_)
    · exfalso; omega
    · refine L_i2 dX6_cut_25 ?_
      refine L_a1 dX6_cut_26 ?_
      refine GW_1_1 fX6_32 dX6_cut_27 ?_
      refine J_eqi (b := S 1 1) (by rw [e1]) ?_
      refine J_icmp_ge 50 dX6_cut_30 rfl (by omega) (by omega) (fun c30 => ?_) (fun c30 => ?_)
      · exact hend j S1 (by omega) hF e3 e4 hT hK (by omega)
      · have htake := qX6_take (S := S1) (T := T) (D := D) (c := tkc (cbF S) j) (by rw [e1]; exact h0) (by omega) (by rw [eB, e1]; omega)
        rw [eB] at htake
        have hFn := ntS_Fr S1 (kd (cbF S) (tkc (cbF S) j)) ((lxp (cbF S) (tkc (cbF S) j) : Nat) : Int) (tkv (cbF S) (tkc (cbF S) j))
        have e11 := (hFn 1 (by decide)).trans e1
        have e12 := (hFn 2 (by decide)).trans e2
        have eB2 : cbF (ntS S1 (kd (cbF S) (tkc (cbF S) j)) ((lxp (cbF S) (tkc (cbF S) j) : Nat) : Int) (tkv (cbF S) (tkc (cbF S) j))) = cbF S := cbF_c e11 e12
        have hkj : ¬ kd (cbF S) (tkc (cbF S) j) = 1 := fun hh => by have := (kd_end hB (tkc_hi hB j)).mp hh; omega
        refine L_a1 dX6_cut_33 ?_
        refine L_a0 dX6_cut_34 ?_
        refine L_a1 dX6_cut_35 ?_
        refine L_i2 dX6_cut_36 ?_
        refine C_v2F vX6_37 dX6_cut_37 htake rfl rfl (Nat.le_of_ble_eq_true rfl) (by decide) ?_
        refine C_s2F vX6_28 dX6_cut_40 (qX6_afterBlanks (S := ntS S1 (kd (cbF S) (tkc (cbF S) j)) ((lxp (cbF S) (tkc (cbF S) j) : Nat) : Int) (tkv (cbF S) (tkc (cbF S) j))) (by rw [e11]; exact h0) (by have := hB.1; omega)) (Nat.le_of_ble_eq_true rfl) (by decide) ?_
        refine J_eqi (b := ((lxp (cbF S) (tkc (cbF S) (j + 1)) : Nat) : Int)) (by rw [eB2]; rfl) ?_
        refine S_i2 dX6_cut_43 (by decide) rfl ?_
        refine JI_3 dX6_cut_44 (by decide) rfl ?_
        refine E_goto 18 dX6_cut_47 rfl ?_
        refine ih (j + 1) _ (by omega) (hF.trans hFn) (by rw [ntS_4, up_s, e3]; omega) (by rw [ntS_4, up_n (by decide)]; exact e4) (fun k hk => ?_) (fun k hk => ?_)
        · rw [ntS_5, ntS_6, ntS_7, e3]
          by_cases h : k = j
          · subst h
            rw [up_s, up_s, up_s]
            exact ⟨rfl, rfl, fun h => if_pos h⟩
          · rw [up_n (by omega), up_n (by omega), up_n (by omega)]
            exact hT k (by omega)
        · by_cases h : k = j
          · rw [h]; exact hkj
          · exact hK k (by omega)
set_option maxRecDepth 100000 in
theorem qX6_cut {S T : Nat → Int → Int} {D : List mx_C} (h0 : 0 ≤ S 1 1 ∧ S 1 1 ≤ 300) : SpU yX6_cut cX6_cut 4 none 7 [.ref 4, .ref 1] (W5 S T D) (fun hp' => ∃ (S' : Nat → Int → Int) (n : Nat), hp' = W5 S' T D ∧ Fr [4, 5, 6, 7] S S' ∧ SCT (cbF S) n S' ∧ S' 4 4 = 0) := by
  refine Sp.of [.ref 4, .ref 1, .retAddr 0, .retAddr 0] (by decide) (by simp) (Nat.le_of_ble_eq_true rfl) rfl (fun E => ?_)
  refine L_a0 dX6_cut_0 ?_
  refine J_iconst dX6_cut_1 ?_
  refine PW_4_4 fX6_25 dX6_cut_2 ?_
  refine L_a0 dX6_cut_5 ?_
  refine J_iconst dX6_cut_6 ?_
  refine PW_4_3 fX6_21 dX6_cut_7 ?_
  refine L_a1 dX6_cut_10 ?_
  refine J_iconst dX6_cut_11 ?_
  refine C_s2F vX6_28 dX6_cut_12 (qX6_afterBlanks (p := 0) (by rw [upS_n (by decide), upS_n (by decide)]; exact h0) (by omega)) (Nat.le_of_ble_eq_true rfl) (by decide) ?_
  refine J_eqi (b := ((lxp (cbF S) (tkc (cbF S) 0) : Nat) : Int)) (by
    have e : ∀ S1 : Nat → Int → Int, S1 1 = S 1 → S1 2 = S 2 → cbF S1 = cbF S := fun S1 h1 h2 => by unfold cbF; rw [h1, h2]
    rw [e _ (by rw [upS_n (by decide), upS_n (by decide)]) (by rw [upS_n (by decide), upS_n (by decide)])]
    rfl) ?_
  refine S_i2 dX6_cut_15 (by decide) rfl ?_
  refine J_iconst dX6_cut_16 ?_
  refine S_i3 dX6_cut_17 (by decide) rfl ?_
  refine lX6_cut h0 300 0 _ (by omega) ((Fr_up S _ (by decide)).trans (Fr_up _ _ (by decide))) (by rw [upS_s, up_s]; rfl) (by rw [upS_s, up_n (by decide), upS_s, up_s]) (fun k hk => by omega) (fun k hk => by omega)
set_option maxRecDepth 100000 in
theorem qX6_kind {S T : Nat → Int → Int} {D : List mx_C} {B : Nat → Int} {n i : Nat} (hs : SCT B n S) (hi : i ≤ n) (hw : S 4 4 = (i : Int)) : SpF yX6_kind cX6_kind 1 (some .int) 0 [.ref 4] (W5 S T D) (.int (jI (kd B (tkc B i)))) (W5 S T D) := by
  have h3 := hs.2.2.1 i hi
  have hn := hs.1
  refine Sp.of [.ref 4] (by decide) (by simp) (Nat.le_of_ble_eq_true rfl) rfl (fun E => ?_)
  refine L_a0 dX6_kind_0 ?_
  refine GW_4_4 fX6_25 dX6_kind_1 ?_
  refine J_if_lt 29 dX6_kind_4 rfl (by omega) (fun c4 => ?_) (fun c4 => ?_)
  · exfalso; omega
  · refine L_a0 dX6_kind_7 ?_
    refine GW_4_4 fX6_25 dX6_kind_8 ?_
    refine J_sipush dX6_kind_11 (by decide) ?_
    refine J_icmp_ge 29 dX6_kind_14 rfl (by omega) (by omega) (fun c14 => ?_) (fun c14 => ?_)
    · exfalso; omega
    · refine L_a0 dX6_kind_17 ?_
      refine GW_4_0 fX6_11 dX6_kind_18 ?_
      refine L_a0 dX6_kind_21 ?_
      refine GW_4_4 fX6_25 dX6_kind_22 ?_
      refine AR_5 dX6_kind_25 (by omega) ?_
      refine E_goto 30 dX6_kind_26 rfl ?_
      exact R_i rfl dX6_kind_30 rfl (by rw [hw]; exact h3.1)

set_option maxRecDepth 100000 in
theorem qX6_from {S T : Nat → Int → Int} {D : List mx_C} {B : Nat → Int} {n i : Nat} (hs : SCT B n S) (hi : i ≤ n) (hw : S 4 4 = (i : Int)) : SpF yX6_from cX6_from 1 (some .int) 0 [.ref 4] (W5 S T D) (.int (jI (((lxp B (tkc B i) : Nat) : Int)))) (W5 S T D) := by
  have h3 := hs.2.2.1 i hi
  have hn := hs.1
  refine Sp.of [.ref 4] (by decide) (by simp) (Nat.le_of_ble_eq_true rfl) rfl (fun E => ?_)
  refine L_a0 dX6_from_0 ?_
  refine GW_4_4 fX6_25 dX6_from_1 ?_
  refine J_if_lt 29 dX6_from_4 rfl (by omega) (fun c4 => ?_) (fun c4 => ?_)
  · exfalso; omega
  · refine L_a0 dX6_from_7 ?_
    refine GW_4_4 fX6_25 dX6_from_8 ?_
    refine J_sipush dX6_from_11 (by decide) ?_
    refine J_icmp_ge 29 dX6_from_14 rfl (by omega) (by omega) (fun c14 => ?_) (fun c14 => ?_)
    · exfalso; omega
    · refine L_a0 dX6_from_17 ?_
      refine GW_4_1 fX6_15 dX6_from_18 ?_
      refine L_a0 dX6_from_21 ?_
      refine GW_4_4 fX6_25 dX6_from_22 ?_
      refine AR_6 dX6_from_25 (by omega) ?_
      refine E_goto 30 dX6_from_26 rfl ?_
      exact R_i rfl dX6_from_30 rfl (by rw [hw]; exact h3.2.1)

set_option maxRecDepth 100000 in
theorem qX6_value {S T : Nat → Int → Int} {D : List mx_C} {B : Nat → Int} {n i : Nat} (hs : SCT B n S) (hi : i ≤ n) (hw : S 4 4 = (i : Int)) (h2 : kd B (tkc B i) = 2) : SpF yX6_value cX6_value 1 (some .int) 0 [.ref 4] (W5 S T D) (.int (jI (lxv B (tkc B i)))) (W5 S T D) := by
  have h3 := hs.2.2.1 i hi
  have hn := hs.1
  refine Sp.of [.ref 4] (by decide) (by simp) (Nat.le_of_ble_eq_true rfl) rfl (fun E => ?_)
  refine L_a0 dX6_value_0 ?_
  refine GW_4_4 fX6_25 dX6_value_1 ?_
  refine J_if_lt 29 dX6_value_4 rfl (by omega) (fun c4 => ?_) (fun c4 => ?_)
  · exfalso; omega
  · refine L_a0 dX6_value_7 ?_
    refine GW_4_4 fX6_25 dX6_value_8 ?_
    refine J_sipush dX6_value_11 (by decide) ?_
    refine J_icmp_ge 29 dX6_value_14 rfl (by omega) (by omega) (fun c14 => ?_) (fun c14 => ?_)
    · exfalso; omega
    · refine L_a0 dX6_value_17 ?_
      refine GW_4_2 fX6_18 dX6_value_18 ?_
      refine L_a0 dX6_value_21 ?_
      refine GW_4_4 fX6_25 dX6_value_22 ?_
      refine AR_7 dX6_value_25 (by omega) ?_
      refine E_goto 30 dX6_value_26 rfl ?_
      exact R_i rfl dX6_value_30 rfl (by rw [hw]; exact h3.2.2 h2)

def adv (S : Nat → Int → Int) (i : Nat) : Nat → Int → Int := upS S 4 (up (S 4) 4 ((i + 1 : Nat) : Int))
theorem adv_ok {S : Nat → Int → Int} {B : Nat → Int} {n i : Nat} (hs : SCT B n S) : SCT B n (adv S i) ∧ adv S i 4 4 = ((i + 1 : Nat) : Int) ∧ Fr [4] S (adv S i) := by
  refine ⟨hs.fr ?_ ?_ ?_ ?_, ?_, Fr_up _ _ (by decide)⟩
  · unfold adv; rw [upS_s, up_n (by decide)]
  · exact upS_n (by decide)
  · exact upS_n (by decide)
  · exact upS_n (by decide)
  · unfold adv; rw [upS_s, up_s]
set_option maxRecDepth 100000 in
theorem qX6_advance {S T : Nat → Int → Int} {D : List mx_C} {B : Nat → Int} {n i : Nat} (hs : SCT B n S) (hi : i ≤ n) (hw : S 4 4 = (i : Int)) (h1 : ¬ kd B (tkc B i) = 1) : SpV yX6_advance cX6_advance 1 none 0 [.ref 4] (W5 S T D) (W5 (adv S i) T D) := by
  have hn := hs.1
  have h3 := hs.2.1
  have hlt : i < n := by
    rcases Nat.lt_or_ge i n with h | h
    · exact h
    · exact absurd (by rw [show i = n from by omega]; exact hs.2.2.2.2) h1
  refine Sp.of [.ref 4] (by decide) (by simp) (Nat.le_of_ble_eq_true rfl) rfl (fun E => ?_)
  refine L_a0 dX6_advance_0 ?_
  refine GW_4_4 fX6_25 dX6_advance_1 ?_
  refine L_a0 dX6_advance_4 ?_
  refine GW_4_3 fX6_21 dX6_advance_5 ?_
  refine J_icmp_ge 21 dX6_advance_8 rfl (by omega) (by omega) (fun c8 => ?_) (fun c8 => ?_)
  · exfalso; omega
  · refine L_a0 dX6_advance_11 ?_
    refine E_dup dX6_advance_12 rfl ?_
    refine GW_4_4 fX6_25 dX6_advance_13 ?_
    refine J_iconst dX6_advance_16 ?_
    refine J_iadd dX6_advance_17 ?_
    refine PW_4_4 fX6_25 dX6_advance_18 ?_
    exact R_v rfl dX6_advance_21 (by unfold adv; rw [hw]; rfl)

