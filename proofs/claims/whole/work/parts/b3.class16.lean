/-! ===== the class: the finder learns and settles ===== -/
def lrn (S : Nat → Int → Int) (n b : Int) : Nat → Int → Int := if (1 ≤ n ∧ n ≤ 8) ∧ ¬ S 22 n = b + 1 then upS (upS S 22 (up (S 22) n (b + 1))) 21 (up (upS S 22 (up (S 22) n (b + 1)) 21) 6 1) else S
set_option maxRecDepth 100000 in
theorem qX0_learn {S T : Nat → Int → Int} {D : List mx_C} (hA : FA S) {n b : Int} (h_n : 1 ≤ n ∧ n ≤ 8) (h_b : 0 ≤ b ∧ b ≤ 14) : SpV yX0_learn cX0_learn 3 none 1 [.ref 21, .int (jI n), .int (jI b)] (W5 S T D) (W5 (lrn S n b) T D) := by
  have hn := hA n h_n
  refine Sp.of [.ref 21, .int (jI n), .int (jI b)] (by decide) (by simp) (Nat.le_of_ble_eq_true rfl) rfl (fun E => ?_)
  refine L_i1 dX0_learn_0 ?_
  refine C_s1F vX0_39 dX0_learn_1 (sX10_isNumber (by omega)) (Nat.le_of_ble_eq_true rfl) (by decide) ?_
  refine J_ifeqB 33 dX0_learn_4 rfl (fun c4 => ?_) (fun c4 => ?_)
  · exact R_v rfl dX0_learn_33 (by unfold lrn; first | (rw [if_pos (by omega)]; done) | (rw [if_neg (by omega)]; done))
  · refine L_a0 dX0_learn_7 ?_
    refine GW_21_0 fX0_11 dX0_learn_8 ?_
    refine L_i1 dX0_learn_11 ?_
    refine AR_22 dX0_learn_12 (by omega) ?_
    refine L_i2 dX0_learn_13 ?_
    refine J_iconst dX0_learn_14 ?_
    refine J_iadd dX0_learn_15 ?_
    refine J_icmp_eq 33 dX0_learn_16 rfl (by omega) (by omega) (fun c16 => ?_) (fun c16 => ?_)
    · exact R_v rfl dX0_learn_33 (by unfold lrn; first | (rw [if_pos (by omega)]; done) | (rw [if_neg (by omega)]; done))
    · refine L_a0 dX0_learn_19 ?_
      refine GW_21_0 fX0_11 dX0_learn_20 ?_
      refine L_i1 dX0_learn_23 ?_
      refine L_i2 dX0_learn_24 ?_
      refine J_iconst dX0_learn_25 ?_
      refine J_iadd dX0_learn_26 ?_
      refine AS_22 dX0_learn_27 (by omega) ?_
      refine L_a0 dX0_learn_28 ?_
      refine J_iconst dX0_learn_29 ?_
      refine PW_21_6 fX0_31 (by decide) dX0_learn_30 ?_
      exact R_v rfl dX0_learn_33 (by unfold lrn; first | (rw [if_pos (by omega)]; done) | (rw [if_neg (by omega)]; done))

def akg (a : Int → Int) (k o acc : Int) : Int := if a o = a k then bor acc (bsh (o - 1)) else acc
def alk (a : Int → Int) (k : Int) : Int := lpF (akg a k) 8 1 0
theorem akg_B {a : Int → Int} {k : Int} : ∀ (m : Nat) (o acc : Int), 1 ≤ o → o + m ≤ 9 → (0 ≤ acc ∧ acc < 256) → 0 ≤ lpF (akg a k) m o acc ∧ lpF (akg a k) m o acc < 256 := by
  intro m
  induction m with
  | zero => intro o acc _ _ h; exact h
  | succ m ih =>
    intro o acc h1 h2 h
    refine ih (o + 1) _ (by omega) (by omega) ?_
    unfold akg
    split
    · exact ⟨bor_nn _ _, bor_lt 8 (by omega) (bsh_lt 8 (by omega) (by decide))⟩
    · exact h
theorem alk_B (a : Int → Int) (k : Int) : 0 ≤ alk a k ∧ alk a k < 256 := akg_B 8 1 0 (by omega) (by omega) (by omega)
set_option maxRecDepth 100000 in
theorem lX0_settleI {E : mx_E} {Q : List mx_C → Prop} {T : Nat → Int → Int} {D : List mx_C} {k : Int} (h_k : 1 ≤ k ∧ k ≤ 8) : ∀ (m : Nat) (o : Int) (S1 : Nat → Int → Int), o + m = 9 → 1 ≤ o → FA S1 → (0 ≤ S1 23 k ∧ S1 23 k < 256) → (∀ S2, Fr [23] S1 S2 → (∀ n, ¬ n = k → S2 23 n = S1 23 n) → S2 23 k = lpF (akg (S1 22) k) m o (S1 23 k) → Ev E yX0_settle cX0_settle 3 none (kU E 1 Q) 0 0 80 [.ref 21, .int (jI k), .int (jI 9)] [] (W5 S2 T D)) → Ev E yX0_settle cX0_settle 3 none (kU E 1 Q) 0 0 40 [.ref 21, .int (jI k), .int (jI o)] [] (W5 S1 T D) := by
  intro m
  induction m with
  | zero =>
    intro o S1 hom ho hA hb kk
    have ho9 : o = 9 := by omega
    subst ho9
    refine L_i2 dX0_settle_40 ?_
    refine J_bipush dX0_settle_41 (by decide) ?_
    refine J_icmp_gt 80 dX0_settle_43 rfl (by omega) (by omega) (fun c43 => ?_) (fun c43 => ?_)
    · exact kk S1 (Fr.refl _ _) (fun _ _ => rfl) rfl
    · exfalso; omega
  | succ m ih =>
    intro o S1 hom ho hA hb kk
    have ho2 := hA o (by omega)
    have hk2 := hA k h_k
    have hbb : 0 ≤ bor (S1 23 k) (bsh (o - 1)) ∧ bor (S1 23 k) (bsh (o - 1)) < 256 := ⟨bor_nn _ _, bor_lt 8 (by omega) (bsh_lt 8 (by omega) (by decide))⟩
    refine L_i2 dX0_settle_40 ?_
    refine J_bipush dX0_settle_41 (by decide) ?_
    refine J_icmp_gt 80 dX0_settle_43 rfl (by omega) (by omega) (fun c43 => ?_) (fun c43 => ?_)
    · exfalso; omega
    · refine L_a0 dX0_settle_46 ?_
      refine GW_21_0 fX0_11 dX0_settle_47 ?_
      refine L_i2 dX0_settle_50 ?_
      refine AR_22 dX0_settle_51 (by omega) ?_
      refine L_a0 dX0_settle_52 ?_
      refine GW_21_0 fX0_11 dX0_settle_53 ?_
      refine L_i1 dX0_settle_56 ?_
      refine AR_22 dX0_settle_57 (by omega) ?_
      refine J_icmp_ne 74 dX0_settle_58 rfl (by omega) (by omega) (fun c58 => ?_) (fun c58 => ?_)
      · refine JI_2 dX0_settle_74 (by decide) rfl ?_
        refine E_goto 40 dX0_settle_77 rfl ?_
        refine ih (o + 1) S1 (by omega) (by omega) hA hb (fun S2 h1 h2 h3 => kk S2 h1 h2 ?_)
        rw [h3, lpF, show akg (S1 22) k o (S1 23 k) = S1 23 k from if_neg (by omega)]
      · refine L_a0 dX0_settle_61 ?_
        refine GW_21_1 fX0_15 dX0_settle_62 ?_
        refine L_i1 dX0_settle_65 ?_
        refine E_dup2 dX0_settle_66 rfl rfl ?_
        refine AR_23 dX0_settle_67 (by omega) ?_
        refine L_i2 dX0_settle_68 ?_
        refine C_s1F vX0_43 dX0_settle_69 (sX10_bitOf (by omega)) (Nat.le_of_ble_eq_true rfl) (by decide) ?_
        refine J_iorG dX0_settle_72 (by omega) (bsh_nn _) ?_
        refine AS_23 dX0_settle_73 (by omega) ?_
        refine JI_2 dX0_settle_74 (by decide) rfl ?_
        refine E_goto 40 dX0_settle_77 rfl ?_
        have e22 : upS S1 23 (up (S1 23) k (bor (S1 23 k) (bsh (o - 1)))) 22 = S1 22 := upS_n (by decide)
        refine ih (o + 1) _ (by omega) (by omega) (by unfold FA; rw [e22]; exact hA) (by rw [upS_s, up_s]; exact hbb) (fun S2 h1 h2 h3 => kk S2 ((Fr_up S1 _ (by decide)).trans h1) (fun n hn => by rw [h2 n hn, upS_s, up_n hn]) ?_)
        rw [h3, e22, upS_s, up_s, lpF, show akg (S1 22) k o (S1 23 k) = bor (S1 23 k) (bsh (o - 1)) from if_pos (by omega)]
/-- alike, as the distances are -/
def FK (S : Nat → Int → Int) (hi : Int) : Prop := ∀ n, 1 ≤ n ∧ n < hi → S 23 n = alk (S 22) n ∧ S 24 n = ban (alk (S 22) n) (bsh (n - 1) - 1)
set_option maxRecDepth 100000 in
theorem lX0_settle {E : mx_E} {A T : Nat → Int → Int} {D : List mx_C} {Q : List mx_C → Prop} (hA : FA A) (hQ : ∀ S', Fr [23, 24] A S' → FK S' 9 → Q (W5 S' T D)) : ∀ (m : Nat) (k : Int) (S1 : Nat → Int → Int) (u : Value), u.category = 1 → k + m = 9 → 1 ≤ k → Fr [23, 24] A S1 → FK S1 k → Ev E yX0_settle cX0_settle 3 none (kU E 1 Q) 0 0 25 [.ref 21, .int (jI k), u] [] (W5 S1 T D) := by
  intro m
  induction m with
  | zero =>
    intro k S1 u hu hkm hk hf hK
    have hk9 : k = 9 := by omega
    subst hk9
    refine L_i1 dX0_settle_25 ?_
    refine J_bipush dX0_settle_26 (by decide) ?_
    refine J_icmp_gt 105 dX0_settle_28 rfl (by omega) (by omega) (fun c28 => ?_) (fun c28 => ?_)
    · exact RQ_v rfl dX0_settle_105 (hQ S1 hf hK)
    · exfalso; omega
  | succ m ih =>
    intro k S1 u hu hkm hk hf hK
    have e22 : S1 22 = A 22 := hf 22 (by decide)
    have hA1 : FA S1 := by unfold FA; rw [e22]; exact hA
    have e22b : upS S1 23 (up (S1 23) k 0) 22 = S1 22 := upS_n (by decide)
    have hal := alk_B (S1 22) k
    have hbp := bsh_pos (k - 1)
    refine L_i1 dX0_settle_25 ?_
    refine J_bipush dX0_settle_26 (by decide) ?_
    refine J_icmp_gt 105 dX0_settle_28 rfl (by omega) (by omega) (fun c28 => ?_) (fun c28 => ?_)
    · exfalso; omega
    · refine L_a0 dX0_settle_31 ?_
      refine GW_21_1 fX0_15 dX0_settle_32 ?_
      refine L_i1 dX0_settle_35 ?_
      refine J_iconst dX0_settle_36 ?_
      refine AS_23 dX0_settle_37 (by omega) ?_
      refine J_iconst dX0_settle_38 ?_
      refine S_i2 dX0_settle_39 (by decide) rfl ?_
      refine lX0_settleI (by omega) 8 1 _ (by omega) (by omega) (by unfold FA; rw [e22b]; exact hA1) (by rw [upS_s, up_s]; omega) (fun S2 h1 h2 h3 => ?_)
      rw [e22b, upS_s, up_s] at h3
      have h3 : S2 23 k = alk (S1 22) k := h3
      refine L_a0 dX0_settle_80 ?_
      refine GW_21_2 fX0_18 dX0_settle_81 ?_
      refine L_i1 dX0_settle_84 ?_
      refine L_a0 dX0_settle_85 ?_
      refine GW_21_1 fX0_15 dX0_settle_86 ?_
      refine L_i1 dX0_settle_89 ?_
      refine AR_23 dX0_settle_90 (by omega) ?_
      refine J_eqi (b := alk (S1 22) k) h3 ?_
      refine L_i1 dX0_settle_91 ?_
      refine C_s1F vX0_43 dX0_settle_92 (sX10_bitOf (by omega)) (Nat.le_of_ble_eq_true rfl) (by decide) ?_
      refine J_iconst dX0_settle_95 ?_
      refine J_isub dX0_settle_96 ?_
      refine J_iandG dX0_settle_97 (by omega) (by omega) ?_
      refine AS_24 dX0_settle_98 (by omega) ?_
      refine JI_1 dX0_settle_99 (by decide) rfl ?_
      refine E_goto 25 dX0_settle_102 rfl ?_
      have e2 : upS S2 24 (up (S2 24) k (ban (alk (S1 22) k) (bsh (k - 1) - 1))) 22 = S1 22 := (upS_n (by decide)).trans ((h1 22 (by decide)).trans e22b)
      refine ih (k + 1) _ _ rfl (by omega) (by omega) ((hf.t ((Fr_up (l := [23]) S1 _ (by decide)).trans h1) (by simp)).trans (Fr_up S2 _ (by decide))) (fun n hn => ?_)
      rw [e2]
      by_cases hnk : n = k
      · subst hnk
        refine ⟨?_, ?_⟩
        · rw [upS_n (by decide)]; exact h3
        · rw [upS_s, up_s]
      · have hKn := hK n (by omega)
        refine ⟨?_, ?_⟩
        · rw [upS_n (by decide), h2 n hnk, upS_s, up_n hnk]; exact hKn.1
        · rw [upS_s, up_n hnk, h1 24 (by decide), upS_n (by decide)]; exact hKn.2
set_option maxRecDepth 100000 in
theorem qX0_settle0 {S T : Nat → Int → Int} {D : List mx_C} (h6 : S 21 6 = 0) : SpV yX0_settle cX0_settle 3 none 0 [.ref 21] (W5 S T D) (W5 S T D) := by
  refine Sp.of [.ref 21, .retAddr 0, .retAddr 0] (by decide) (by simp) (Nat.le_of_ble_eq_true rfl) rfl (fun E => ?_)
  refine L_a0 dX0_settle_0 ?_
  refine GW_21_6 fX0_31 dX0_settle_1 ?_
  refine J_if_ne 8 dX0_settle_4 rfl (by omega) (fun c4 => ?_) (fun c4 => ?_)
  · exfalso; omega
  · exact R_v rfl dX0_settle_7 rfl

theorem qX0_settle1 {S T : Nat → Int → Int} {D : List mx_C} (hA : FA S) (h6 : S 21 6 = 1) : SpU yX0_settle cX0_settle 3 none 1 [.ref 21] (W5 S T D) (fun hp' => ∃ S', hp' = W5 S' T D ∧ Fr [21, 23, 24] S S' ∧ S' 21 = up (up (S 21) 6 0) 7 (S 21 7 + 1) ∧ FK S' 9) := by
  have eA : upS (upS S 21 (up (S 21) 6 0)) 21 (up (upS S 21 (up (S 21) 6 0) 21) 7 (upS S 21 (up (S 21) 6 0) 21 7 + 1)) = upS S 21 (up (up (S 21) 6 0) 7 (S 21 7 + 1)) := by
    rw [upS_upS, upS_s, up_n (by decide)]
  refine Sp.of [.ref 21, .retAddr 0, .retAddr 0] (by decide) (by simp) (Nat.le_of_ble_eq_true rfl) rfl (fun E => ?_)
  refine L_a0 dX0_settle_0 ?_
  refine GW_21_6 fX0_31 dX0_settle_1 ?_
  refine J_if_ne 8 dX0_settle_4 rfl (by omega) (fun c4 => ?_) (fun c4 => ?_)
  · refine L_a0 dX0_settle_8 ?_
    refine J_iconst dX0_settle_9 ?_
    refine PW_21_6 fX0_31 (by decide) dX0_settle_10 ?_
    refine L_a0 dX0_settle_13 ?_
    refine E_dup dX0_settle_14 rfl ?_
    refine GW_21_7 fX0_35 dX0_settle_15 ?_
    refine J_lconst 1 dX0_settle_18 (by decide) ?_
    refine J_ladd dX0_settle_19 ?_
    refine PW_21_7 fX0_35 dX0_settle_20 ?_
    refine J_iconst dX0_settle_23 ?_
    refine S_i1 dX0_settle_24 (by decide) rfl ?_
    rw [eA]
    refine lX0_settle (A := upS S 21 (up (up (S 21) 6 0) 7 (S 21 7 + 1))) (by unfold FA; rw [upS_n (by decide)]; exact hA) (fun S' h1 h2 => ⟨S', rfl, (Fr_up S _ (by decide)).t h1 (by simp), ?_, h2⟩) 8 1 _ _ rfl (by omega) (by omega) (Fr.refl _ _) (fun n hn => by omega)
    rw [h1 21 (by decide), upS_s]
  · exfalso; omega
/-- what the finder remembers -/
def fky (e q s fr : Int) : Int := ((e * 32 + q) * 256 + s) * 65536 + fr
def FE (ans : (Int → Int) → Int → Int → Int → Int) (S : Nat → Int → Int) : Prop := (S 21 6 = 0 ∨ S 21 6 = 1) ∧ 0 ≤ S 21 7 ∧ ∀ i, 0 ≤ i ∧ i < 4096 → S 25 i = 0 ∨ ∃ e q s fr, (0 ≤ q ∧ q < 32) ∧ (0 ≤ s ∧ s < 256) ∧ (0 ≤ fr ∧ fr < 65536) ∧ S 25 i = fky e q s fr ∧ 1 ≤ e ∧ e ≤ S 21 7 ∧ (e = S 21 7 → S 21 6 = 0 → S 26 i = ans (S 22) q s fr)
def FI (ans : (Int → Int) → Int → Int → Int → Int) (S : Nat → Int → Int) : Prop := FA S ∧ (S 21 6 = 0 → FK S 9) ∧ FE ans S
theorem FI.fr {ans : (Int → Int) → Int → Int → Int → Int} {S S1 : Nat → Int → Int} (h : FI ans S) {l : List Nat} (hf : Fr l S S1) (h21 : 21 ∉ l) (h22 : 22 ∉ l) (h23 : 23 ∉ l) (h24 : 24 ∉ l) (h25 : 25 ∉ l) (h26 : 26 ∉ l) : FI ans S1 := by
  unfold FI FA FK FE at h ⊢
  rw [hf 21 h21, hf 22 h22, hf 23 h23, hf 24 h24, hf 25 h25, hf 26 h26]
  exact h
theorem FI_lrn {ans : (Int → Int) → Int → Int → Int → Int} {S : Nat → Int → Int} (h : FI ans S) {n b : Int} (hn : 1 ≤ n ∧ n ≤ 8) (hb : 0 ≤ b ∧ b ≤ 14) : FI ans (lrn S n b) ∧ Fr [21, 22] S (lrn S n b) ∧ (∀ k, ¬ k = n → lrn S n b 22 k = S 22 k) ∧ lrn S n b 22 n = b + 1 ∧ lrn S n b 21 7 = S 21 7 := by
  unfold lrn
  by_cases hc : (1 ≤ n ∧ n ≤ 8) ∧ ¬ S 22 n = b + 1
  · rw [if_pos hc]
    have e21 : upS (upS S 22 (up (S 22) n (b + 1))) 21 (up (upS S 22 (up (S 22) n (b + 1)) 21) 6 1) 21 = up (S 21) 6 1 := by rw [upS_s, upS_n (by decide)]
    have e22 : upS (upS S 22 (up (S 22) n (b + 1))) 21 (up (upS S 22 (up (S 22) n (b + 1)) 21) 6 1) 22 = up (S 22) n (b + 1) := by rw [upS_n (by decide), upS_s]
    have e25 : upS (upS S 22 (up (S 22) n (b + 1))) 21 (up (upS S 22 (up (S 22) n (b + 1)) 21) 6 1) 25 = S 25 := by rw [upS_n (by decide), upS_n (by decide)]
    have e7 : up (S 21) 6 1 7 = S 21 7 := up_n (by decide)
    refine ⟨⟨fun k hk => ?_, fun h6 => ?_, ?_⟩, (Fr_up S _ (by decide)).trans (Fr_up _ _ (by decide)), fun k hk => by rw [e22, up_n hk], by rw [e22, up_s], by rw [e21, e7]⟩
    · rw [e22]
      by_cases hq : k = n
      · rw [hq, up_s]; omega
      · rw [up_n hq]; exact h.1 k hk
    · rw [e21, up_s] at h6; omega
    · refine ⟨by rw [e21, up_s]; exact Or.inr rfl, by rw [e21, e7]; exact h.2.2.2.1, fun i hi => ?_⟩
      rw [e21, e7, e25, up_s]
      rcases h.2.2.2.2 i hi with h0 | ⟨e, q, s, fr, hq, hs, hfr, hk, he, he2, _⟩
      · exact Or.inl h0
      · exact Or.inr ⟨e, q, s, fr, hq, hs, hfr, hk, he, he2, fun _ hh => by omega⟩
  · rw [if_neg hc]
    exact ⟨h, Fr.refl _ _, fun _ _ => rfl, by omega, rfl⟩
theorem FI_stl {ans : (Int → Int) → Int → Int → Int → Int} {S S' : Nat → Int → Int} (h : FI ans S) (hf : Fr [21, 23, 24] S S') (e : S' 21 = up (up (S 21) 6 0) 7 (S 21 7 + 1)) (hK : FK S' 9) : FI ans S' := by
  have e7 : S' 21 7 = S 21 7 + 1 := by rw [e, up_s]
  have e6 : S' 21 6 = 0 := by rw [e, up_n (by decide), up_s]
  have h7 := h.2.2.2.1
  refine ⟨by unfold FA; rw [hf 22 (by decide)]; exact h.1, fun _ => hK, Or.inl e6, by omega, fun i hi => ?_⟩
  rw [hf 25 (by decide), e7]
  rcases h.2.2.2.2 i hi with h0 | ⟨e, q, s, fr, hq, hs, hfr, hk, he, he2, _⟩
  · exact Or.inl h0
  · exact Or.inr ⟨e, q, s, fr, hq, hs, hfr, hk, he, by omega, fun hh => by omega⟩
