/-! ===== the class: a text played ===== -/
def CSk (D : List mx_C) (i : Nat) (L : List (Int × Int × Int)) : Prop := ∃ b1 b2 b3 m1 m2 m3 : Nat, ∃ f1 f2 f3 : Int → Int, ∃ v4 v5 : Value, D[i]? = some (ob 7 [.int (jI (L.length : Int)), .ref (b1 + 54), .ref (b2 + 54), .ref (b3 + 54), v4, v5]) ∧ D[b1]? = some (ia m1 f1) ∧ D[b2]? = some (ia m2 f2) ∧ D[b3]? = some (ia m3 f3) ∧ (L.length ≤ m1 ∧ L.length ≤ m2 ∧ L.length ≤ m3) ∧ (m1 ≤ 300 ∧ m2 ≤ 300 ∧ m3 ≤ 300) ∧ ∀ j : Nat, j < L.length → f1 (j : Int) = (L.getD j (0, 0, 0)).1 ∧ f2 (j : Int) = (L.getD j (0, 0, 0)).2.1 ∧ f3 (j : Int) = (L.getD j (0, 0, 0)).2.2
/-- what a text's lines do, one behind the other: the place of the first that fails, and what is behind -/
def cpl (lb lt : Option (List Int)) : List (Int × Int × Int) → Int → (Nat → Int → Int) → Int × (Nat → Int → Int)
  | [], _, S => (-1, S)
  | c :: L, i, S => if ccv lb lt c.1 c.2.1 c.2.2 S = 0 then (i, ccS lb lt c.1 c.2.1 c.2.2 S) else cpl lb lt L (i + 1) (ccS lb lt c.1 c.2.1 c.2.2 S)
theorem ccv_01 (lb lt : Option (List Int)) (kd a b : Int) (S : Nat → Int → Int) : ccv lb lt kd a b S = 0 ∨ ccv lb lt kd a b S = 1 := by
  unfold ccv
  repeat' split
  all_goals first | exact jb_01 _ | exact Or.inr rfl
theorem ccv_fr {lb lt : Option (List Int)} {kd a b : Int} {A B : Nat → Int → Int} (h : Fr [35] A B) : ccv lb lt kd a b B = ccv lb lt kd a b A := by
  unfold ccv
  rw [h 14 (by decide)]
theorem ccS_fr {lb lt : Option (List Int)} {kd a b : Int} {A B : Nat → Int → Int} (h : Fr [35] A B) : Fr [35] (ccS lb lt kd a b A) (ccS lb lt kd a b B) := by
  have e14 : B 14 = A 14 := h 14 (by decide)
  unfold ccS cjo
  rw [stK_14, stK_14, e14]
  repeat' split
  all_goals first | exact h | exact Fr_upS (Fr_stK h) 14 _ | exact Fr_cpN _ h
theorem cpl_fr {lb lt : Option (List Int)} : ∀ (L : List (Int × Int × Int)) (i : Int) {A B : Nat → Int → Int}, Fr [35] A B → (cpl lb lt L i B).1 = (cpl lb lt L i A).1 ∧ Fr [35] (cpl lb lt L i A).2 (cpl lb lt L i B).2 := by
  intro L
  induction L with
  | nil => intro i A B h; exact ⟨rfl, h⟩
  | cons c L ih =>
    intro i A B h
    unfold cpl
    rw [ccv_fr h]
    split
    · exact ⟨rfl, ccS_fr h⟩
    · exact ih (i + 1) (ccS_fr h)
/-- what a text's lines need: numbers of a machine, and no days below none -/
abbrev CLn (c : Int × Int × Int) : Prop := (-2147483648 ≤ c.1 ∧ c.1 < 2147483648) ∧ (-2147483648 ≤ c.2.1 ∧ c.2.1 < 2147483648) ∧ (-2147483648 ≤ c.2.2 ∧ c.2.2 < 2147483648) ∧ (c.1 = 8 → 0 ≤ c.2.1)
/-- what stays, whatever a line does -/
def CKp (I : (Nat → Int → Int) → Prop) (D : List mx_C) (lb lt : Option (List Int)) : Prop := (∀ S, I S → RX (S 14) ∧ HSt S ∧ CR1 S D lb lt) ∧ (∀ S c, I S → CLn c → I (ccS lb lt c.1 c.2.1 c.2.2 S)) ∧ ∀ A B, I A → Fr [35] A B → I B
set_option maxRecDepth 100000 in
theorem lX10_played {E : mx_E} {T : Nat → Int → Int} {D : List mx_C} {I : (Nat → Int → Int) → Prop} {lb lt : Option (List Int)} (hI : CKp I D lb lt) {k N b1 b2 b3 m1 m2 m3 : Nat} {f1 f2 f3 : Int → Int} {v4 v5 : Value} (hDi : D[k]? = some (ob 7 [.int (jI (N : Int)), .ref (b1 + 54), .ref (b2 + 54), .ref (b3 + 54), v4, v5])) (h1 : D[b1]? = some (ia m1 f1)) (h2 : D[b2]? = some (ia m2 f2)) (h3 : D[b3]? = some (ia m3 f3)) (hm : N ≤ m1 ∧ N ≤ m2 ∧ N ≤ m3) (hM : m1 ≤ 300 ∧ m2 ≤ 300 ∧ m3 ≤ 300) {n r : Int} {A : Nat → Int → Int} : ∀ (L : List (Int × Int × Int)) (i : Nat) (S1 : Nat → Int → Int), i + L.length = N → (∀ j : Nat, j < L.length → f1 ((i : Int) + (j : Int)) = (L.getD j (0, 0, 0)).1 ∧ f2 ((i : Int) + (j : Int)) = (L.getD j (0, 0, 0)).2.1 ∧ f3 ((i : Int) + (j : Int)) = (L.getD j (0, 0, 0)).2.2) → (∀ c ∈ L, CLn c) → I S1 → (cpl lb lt L (i : Int) S1).1 = r → Fr [35] A (cpl lb lt L (i : Int) S1).2 → Ev E yX10_played cX10_played 4 (some .int) (kI E 7 (fun v hp' => v = r ∧ ∃ S', hp' = W5 S' T D ∧ Fr [35] A S')) 0 0 15 [.ref 0, .int (jI n), .ref (k + 54), .int (jI (i : Int))] [] (W5 S1 T D) := by
  intro L
  induction L with
  | nil =>
    intro i S1 him hff hc hi hres hA
    have him : i + 0 = N := him
    refine L_i3 dX10_played_15 ?_
    refine L_a2 dX10_played_16 ?_
    refine E_getf fX10_150 dX10_played_17 (by rw [W5_D]; exact hDi) rfl ?_
    refine J_icmp_ge 56 dX10_played_20 rfl (by omega) (by omega) (fun c20 => ?_) (fun c20 => ?_)
    · refine J_iconst dX10_played_56 ?_
      exact RQ_i rfl dX10_played_57 ⟨hres, S1, rfl, hA⟩
    · exfalso; omega
  | cons c L ih =>
    intro i S1 him hff hc hi hres hA
    rw [List.length_cons] at him
    have hg := hff 0 (by rw [List.length_cons]; omega)
    rw [show (i : Int) + ((0 : Nat) : Int) = (i : Int) by omega] at hg
    have hc1 : f1 (i : Int) = c.1 := hg.1
    have hc2 : f2 (i : Int) = c.2.1 := hg.2.1
    have hc3 : f3 (i : Int) = c.2.2 := hg.2.2
    have hff2 : ∀ j : Nat, j < L.length → f1 (((i + 1 : Nat) : Int) + (j : Int)) = (L.getD j (0, 0, 0)).1 ∧ f2 (((i + 1 : Nat) : Int) + (j : Int)) = (L.getD j (0, 0, 0)).2.1 ∧ f3 (((i + 1 : Nat) : Int) + (j : Int)) = (L.getD j (0, 0, 0)).2.2 := fun j hj => by
      have := hff (j + 1) (by rw [List.length_cons]; omega)
      rw [show ((i + 1 : Nat) : Int) + (j : Int) = (i : Int) + ((j + 1 : Nat) : Int) by omega]
      exact this
    have hcc := hc c List.mem_cons_self
    have hs := hI.1 S1 hi
    have h01 := ccv_01 lb lt c.1 c.2.1 c.2.2 S1
    unfold cpl at hres hA
    refine L_i3 dX10_played_15 ?_
    refine L_a2 dX10_played_16 ?_
    refine E_getf fX10_150 dX10_played_17 (by rw [W5_D]; exact hDi) rfl ?_
    refine J_icmp_ge 56 dX10_played_20 rfl (by omega) (by omega) (fun c20 => ?_) (fun c20 => ?_)
    · exfalso; omega
    · refine L_a0 dX10_played_23 ?_
      refine L_a2 dX10_played_24 ?_
      refine E_getf fX10_151 dX10_played_25 (by rw [W5_D]; exact hDi) rfl ?_
      refine L_i3 dX10_played_28 ?_
      refine J_iald dX10_played_29 (by rw [W5_D]; exact h1) (by omega) (by omega) ?_
      refine J_eqi (b := c.1) hc1 ?_
      refine L_a2 dX10_played_30 ?_
      refine E_getf fX10_154 dX10_played_31 (by rw [W5_D]; exact hDi) rfl ?_
      refine L_i3 dX10_played_34 ?_
      refine J_iald dX10_played_35 (by rw [W5_D]; exact h2) (by omega) (by omega) ?_
      refine J_eqi (b := c.2.1) hc2 ?_
      refine L_a2 dX10_played_36 ?_
      refine E_getf fX10_157 dX10_played_37 (by rw [W5_D]; exact hDi) rfl ?_
      refine L_i3 dX10_played_40 ?_
      refine J_iald dX10_played_41 (by rw [W5_D]; exact h3) (by omega) (by omega) ?_
      refine J_eqi (b := c.2.2) hc3 ?_
      refine C_v3I vX10_160 dX10_played_42 (qX10_carriedOut hs.1 hs.2.1 hs.2.2 hcc.1 hcc.2.1 hcc.2.2.1 hcc.2.2.2) rfl rfl (Nat.le_of_ble_eq_true rfl) (by decide) (fun v42 hp42 hq42 => ?_)
      obtain ⟨e42, S42, rfl, hf42⟩ := hq42
      subst e42
      refine J_if_ne 50 dX10_played_45 rfl (by omega) (fun c45 => ?_) (fun c45 => ?_)
      · refine JI_3 dX10_played_50 (by decide) rfl ?_
        refine E_goto 15 dX10_played_53 rfl ?_
        rw [if_neg (by omega)] at hres hA
        have hfr := cpl_fr (lb := lb) (lt := lt) L ((i : Int) + 1) hf42
        refine ih (i + 1) S42 (by omega) hff2 (fun x hx => hc x (List.mem_cons_of_mem _ hx)) (hI.2.2 _ _ (hI.2.1 S1 c hi hcc) hf42) ?_ ?_
        · exact hfr.1.trans hres
        · exact hA.trans hfr.2
      · refine L_i3 dX10_played_48 ?_
        exact RQ_i rfl dX10_played_49 ⟨(by rw [if_pos (by omega)] at hres; exact hres), S42, rfl, (by rw [if_pos (by omega)] at hA; exact hA.trans hf42)⟩
set_option maxRecDepth 100000 in
theorem qX10_playedN {S T : Nat → Int → Int} {D : List mx_C} {n : Int} (h_n : -2147483648 ≤ n ∧ n < 2147483648) (h0 : 0 ≤ S 0 10 ∧ S 0 10 ≤ 4) (hno : ¬ (0 ≤ n ∧ n < S 0 10)) : SpI yX10_played cX10_played 4 (some .int) 7 [.ref 0, .int (jI n)] (W5 S T D) (fun v hp' => v = -2 ∧ hp' = W5 S T D) := by
  refine Sp.of [.ref 0, .int (jI n), .retAddr 0, .retAddr 0] (by decide) (by simp) (Nat.le_of_ble_eq_true rfl) rfl (fun E => ?_)
  refine L_a0 dX10_played_0 ?_
  refine L_i1 dX10_played_1 ?_
  refine C_v1F vX10_99 dX10_played_2 (qX10_scriptOfN (by omega) h0 hno) rfl rfl (Nat.le_of_ble_eq_true rfl) (by decide) ?_
  refine S_n2 dX10_played_5 (by decide) rfl ?_
  refine L_n2 dX10_played_6 ?_
  refine E_ifnonnull_n dX10_played_7 ?_
  refine J_bipush dX10_played_10 (by decide) ?_
  exact RQ_i rfl dX10_played_12 ⟨rfl, rfl⟩

theorem qX10_played {S T : Nat → Int → Int} {D : List mx_C} {I : (Nat → Int → Int) → Prop} {lb lt : Option (List Int)} (hI : CKp I D lb lt) (hi : I S) {n : Int} {k : Nat} (h_n : 0 ≤ n ∧ n < S 0 10 ∧ S 0 10 ≤ 4) (ht : tx (S 12 n) = some (k + 54)) {L : List (Int × Int × Int)} (hk : CSk D k L) (hc : ∀ c ∈ L, CLn c) : SpI yX10_played cX10_played 4 (some .int) 7 [.ref 0, .int (jI n)] (W5 S T D) (fun v hp' => v = (cpl lb lt L 0 S).1 ∧ ∃ S', hp' = W5 S' T D ∧ Fr [35] (cpl lb lt L 0 S).2 S') := by
  obtain ⟨b1, b2, b3, m1, m2, m3, f1, f2, f3, v4, v5, hDi, h1, h2, h3, hm, hM, hff⟩ := hk
  refine Sp.of [.ref 0, .int (jI n), .retAddr 0, .retAddr 0] (by decide) (by simp) (Nat.le_of_ble_eq_true rfl) rfl (fun E => ?_)
  refine L_a0 dX10_played_0 ?_
  refine L_i1 dX10_played_1 ?_
  refine C_v1F vX10_99 dX10_played_2 (qX10_scriptOf (i := k + 54) h_n ht) rfl rfl (Nat.le_of_ble_eq_true rfl) (by decide) ?_
  refine S_a2 dX10_played_5 (by decide) rfl ?_
  refine L_a2 dX10_played_6 ?_
  refine E_ifnonnull_r 13 dX10_played_7 rfl ?_
  refine J_iconst dX10_played_13 ?_
  refine S_i3 dX10_played_14 (by decide) rfl ?_
  exact lX10_played hI hDi h1 h2 h3 hm hM L 0 S (Nat.zero_add _) (fun j hj => by rw [show ((0 : Nat) : Int) + (j : Int) = (j : Int) by omega]; exact hff j hj) hc hi rfl (Fr.refl _ _)
