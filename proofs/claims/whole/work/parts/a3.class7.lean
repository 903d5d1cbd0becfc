/-! ===== the class: the laws that rule, and what they rule ===== -/
abbrev okL (l : List Int) : Prop := ∀ f n, ∃ r rs, crn f n l [] = some (r :: rs)
def crv (f : Int → Int) (n : Int) (l : List Int) : Int := match crn f n l [] with | some (r :: _) => r | _ => 0
theorem crv_e {f : Int → Int} {n : Int} {l : List Int} (h : okL l) : ∃ rs, crn f n l [] = some (crv f n l :: rs) := by
  obtain ⟨r, rs, e⟩ := h f n
  refine ⟨rs, ?_⟩
  unfold crv
  rw [e]
def CLw (D : List mx_C) (v : Value) : Option (List Int) → Prop
  | none => v = .null
  | some l => ∃ a b : Nat, ∃ fc : Int → Int, v = .ref (a + 54) ∧ D[a]? = some (ob 2 [.ref (b + 54)]) ∧ D[b]? = some (ia l.length fc) ∧ l.length ≤ 300 ∧ (∀ j : Nat, j < l.length → fc (j : Int) = l.getD j 0) ∧ (∀ x ∈ l, 0 ≤ x ∧ x ≤ 10099) ∧ okL l
def CSc (D : List mx_C) (i : Nat) (lb lt : Option (List Int)) : Prop := ∃ v0 v1 v2 v3 v4 v5 : Value, D[i]? = some (ob 7 [v0, v1, v2, v3, v4, v5]) ∧ CLw D v4 lb ∧ CLw D v5 lt
def CRu (D : List mx_C) (v : Value) (lb lt : Option (List Int)) : Prop := (v = .null ∧ lb = none ∧ lt = none) ∨ ∃ i : Nat, v = .ref (i + 54) ∧ CSc D i lb lt
def cbt (f : Int → Int) (n : Int) : Option (List Int) → Int
  | none => n
  | some l => heldI (crv f n l) 0 14
def cti (f : Int → Int) (n : Int) : Option (List Int) → Int
  | none => 1
  | some l => heldI (crv f n l) 0 10
theorem cbt_B {f : Int → Int} {n : Int} (h : 1 ≤ n ∧ n ≤ 8) (o : Option (List Int)) : 0 ≤ cbt f n o ∧ cbt f n o ≤ 14 := by
  cases o with
  | none => show 0 ≤ n ∧ n ≤ 14; omega
  | some l => exact heldI_B (by omega)
theorem cti_B {f : Int → Int} {n : Int} (o : Option (List Int)) : 0 ≤ cti f n o ∧ cti f n o ≤ 10 := by
  cases o with
  | none => show (0 : Int) ≤ 1 ∧ (1 : Int) ≤ 10; omega
  | some l => exact heldI_B (by omega)
theorem crn_B {f : Int → Int} (hv : RV f) {n : Int} (hn : 1 ≤ n ∧ n ≤ 8) : ∀ (l st st' : List Int), (∀ x ∈ l, 0 ≤ x ∧ x ≤ 10099) → VBs st → crn f n l st = some st' → VBs st' := by
  intro l
  induction l with
  | nil => intro st st' _ h e; rw [← Option.some.inj e]; exact h
  | cons s l ih =>
    intro st st' hl h e
    have hs := hl s List.mem_cons_self
    rw [crn] at e
    obtain ⟨st1, e1, e2⟩ := Option.bind_eq_some_iff.mp e
    refine ih st1 st' (fun x hx => hl x (List.mem_cons_of_mem _ hx)) ?_ e2
    unfold cst1 at e1
    split at e1
    · rw [← Option.some.inj e1]; exact List.forall_mem_cons.mpr ⟨by omega, h⟩
    · split at e1
      · rw [← Option.some.inj e1]; exact List.forall_mem_cons.mpr ⟨cnm_B hv hn s, h⟩
      · split at e1
        · split at e1
          · rename_i zc zb za r _
            rw [← Option.some.inj e1]
            refine List.forall_mem_cons.mpr ⟨?_, fun x hx => h x (by simp [hx])⟩
            split
            · exact h _ (by simp)
            · exact h _ (by simp)
          · cases e1
        · split at e1
          · split at e1
            · rw [← Option.some.inj e1]
              exact List.forall_mem_cons.mpr ⟨cw1_B (h _ (by simp)), fun x hx => h x (by simp [hx])⟩
            · cases e1
          · split at e1
            · rw [← Option.some.inj e1]
              exact List.forall_mem_cons.mpr ⟨cw2_B (h _ (by simp)), fun x hx => h x (by simp [hx])⟩
            · cases e1
theorem crv_B {f : Int → Int} (hv : RV f) {n : Int} (hn : 1 ≤ n ∧ n ≤ 8) {l : List Int} (hl : ∀ x ∈ l, 0 ≤ x ∧ x ≤ 10099) (ho : okL l) : -1000000 ≤ crv f n l ∧ crv f n l ≤ 1000000 := by
  obtain ⟨rs, e⟩ := crv_e (f := f) (n := n) ho
  exact crn_B hv hn l [] _ hl (fun x hx => absurd hx (by simp)) e _ List.mem_cons_self
set_option maxRecDepth 100000 in
theorem qX10_betweenByA {S T : Nat → Int → Int} {D : List mx_C} {n : Int} (h_n : 1 ≤ n ∧ n ≤ 8) : SpI yX10_betweenBy cX10_betweenBy 3 (some .int) 3 [.ref 0, .null, .int (jI n)] (W5 S T D) (fun v hp' => v = cbt (S 14) n none ∧ ∃ S', hp' = W5 S' T D ∧ Fr [35] S S') := by
  refine Sp.of [.ref 0, .null, .int (jI n)] (by decide) (by simp) (Nat.le_of_ble_eq_true rfl) rfl (fun E => ?_)
  refine L_n1 dX10_betweenBy_0 ?_
  refine E_ifnull_n 11 dX10_betweenBy_1 rfl ?_
  refine L_i2 dX10_betweenBy_11 ?_
  exact RQ_i rfl dX10_betweenBy_12 ⟨rfl, S, rfl, Fr.refl _ _⟩

set_option maxRecDepth 100000 in
theorem qX10_betweenByB {S T : Nat → Int → Int} {D : List mx_C} {n : Int} (h_n : 1 ≤ n ∧ n ≤ 8){i : Nat} {v0 v1 v2 v3 v5 : Value} (hDi : D[i]? = some (ob 7 [v0, v1, v2, v3, .null, v5])) : SpI yX10_betweenBy cX10_betweenBy 3 (some .int) 3 [.ref 0, .ref (i + 54), .int (jI n)] (W5 S T D) (fun v hp' => v = cbt (S 14) n none ∧ ∃ S', hp' = W5 S' T D ∧ Fr [35] S S') := by
  refine Sp.of [.ref 0, .ref (i + 54), .int (jI n)] (by decide) (by simp) (Nat.le_of_ble_eq_true rfl) rfl (fun E => ?_)
  refine L_a1 dX10_betweenBy_0 ?_
  refine E_ifnull_r dX10_betweenBy_1 ?_
  refine L_a1 dX10_betweenBy_4 ?_
  refine E_getf fX10_348 dX10_betweenBy_5 (by rw [W5_D]; exact hDi) rfl ?_
  refine E_ifnonnull_n dX10_betweenBy_8 ?_
  refine L_i2 dX10_betweenBy_11 ?_
  exact RQ_i rfl dX10_betweenBy_12 ⟨rfl, S, rfl, Fr.refl _ _⟩

set_option maxRecDepth 100000 in
theorem qX10_betweenByC {S T : Nat → Int → Int} {D : List mx_C} (hv : RV (S 14)) (hl : RLn (S 14)) {n : Int} (h_n : 1 ≤ n ∧ n ≤ 8) {i : Nat} {v0 v1 v2 v3 v5 : Value} {a b : Nat} {fc : Int → Int} {l : List Int} (hDi : D[i]? = some (ob 7 [v0, v1, v2, v3, .ref (a + 54), v5])) (hDa : D[a]? = some (ob 2 [.ref (b + 54)])) (hDb : D[b]? = some (ia l.length fc)) (hm : l.length ≤ 300) (hfc : ∀ j : Nat, j < l.length → fc (j : Int) = l.getD j 0) (hlB : ∀ x ∈ l, 0 ≤ x ∧ x ≤ 10099) (ho : okL l) : SpI yX10_betweenBy cX10_betweenBy 3 (some .int) 3 [.ref 0, .ref (i + 54), .int (jI n)] (W5 S T D) (fun v hp' => v = cbt (S 14) n (some l) ∧ ∃ S', hp' = W5 S' T D ∧ Fr [35] S S') := by
  obtain ⟨rs, er⟩ := crv_e (f := S 14) (n := n) ho
  have hcB := crv_B hv h_n hlB ho
  refine Sp.of [.ref 0, .ref (i + 54), .int (jI n)] (by decide) (by simp) (Nat.le_of_ble_eq_true rfl) rfl (fun E => ?_)
  refine L_a1 dX10_betweenBy_0 ?_
  refine E_ifnull_r dX10_betweenBy_1 ?_
  refine L_a1 dX10_betweenBy_4 ?_
  refine E_getf fX10_348 dX10_betweenBy_5 (by rw [W5_D]; exact hDi) rfl ?_
  refine E_ifnonnull_r 13 dX10_betweenBy_8 rfl ?_
  refine L_a1 dX10_betweenBy_13 ?_
  refine E_getf fX10_348 dX10_betweenBy_14 (by rw [W5_D]; exact hDi) rfl ?_
  refine L_a0 dX10_betweenBy_17 ?_
  refine GW_0_3 fX10_32 dX10_betweenBy_18 ?_
  refine L_i2 dX10_betweenBy_21 ?_
  refine L_a0 dX10_betweenBy_22 ?_
  refine GW_0_9 fX10_67 dX10_betweenBy_23 ?_
  refine C_v3I vX10_352 dX10_betweenBy_26 (qX2_worth hv hl hDa hDb hm h_n hfc hlB er) (by rw [W5_D]; exact hDa) rfl (Nat.le_of_ble_eq_true rfl) (by decide) (fun v26 hp26 hq26 => ?_)
  obtain ⟨e26, S26, rfl, hf26⟩ := hq26
  subst e26
  refine J_i2l dX10_betweenBy_29 (by omega) ?_
  refine J_iconst dX10_betweenBy_30 ?_
  refine J_bipush dX10_betweenBy_31 (by decide) ?_
  refine C_s3F vX10_358 dX10_betweenBy_33 (qX10_within (by omega) (by omega) (by omega)) (Nat.le_of_ble_eq_true rfl) (by decide) ?_
  exact RQ_i rfl dX10_betweenBy_36 ⟨rfl, S26, rfl, hf26⟩

theorem qX10_betweenBy {S T : Nat → Int → Int} {D : List mx_C} (hv : RV (S 14)) (hl : RLn (S 14)) {n : Int} (h_n : 1 ≤ n ∧ n ≤ 8) {u : Value} {lb lt : Option (List Int)} (hu : CRu D u lb lt) : SpI yX10_betweenBy cX10_betweenBy 3 (some .int) 3 [.ref 0, u, .int (jI n)] (W5 S T D) (fun v hp' => v = cbt (S 14) n lb ∧ ∃ S', hp' = W5 S' T D ∧ Fr [35] S S') := by
  rcases hu with ⟨rfl, rfl, _⟩ | ⟨i, rfl, v0, v1, v2, v3, v4, v5, hDi, h4, h5⟩
  · exact qX10_betweenByA h_n
  · cases lb with
    | none =>
      have h4 : v4 = .null := h4
      subst h4
      exact qX10_betweenByB h_n hDi
    | some l =>
      obtain ⟨a, b, fc, rfl, hDa, hDb, hm, hfc, hlB, ho⟩ := h4
      exact qX10_betweenByC hv hl h_n hDi hDa hDb hm hfc hlB ho
def CR1 (S : Nat → Int → Int) (D : List mx_C) (lb lt : Option (List Int)) : Prop := (-2147483648 ≤ S 0 11 ∧ S 0 11 < 2147483648) ∧ (0 ≤ S 0 10 ∧ S 0 10 ≤ 4) ∧ ((¬ (0 ≤ S 0 11 ∧ S 0 11 < S 0 10) ∧ lb = none ∧ lt = none) ∨ ∃ i : Nat, (0 ≤ S 0 11 ∧ S 0 11 < S 0 10) ∧ tx (S 12 (S 0 11)) = some (i + 54) ∧ CSc D i lb lt)
theorem CR1.sp {S T : Nat → Int → Int} {D : List mx_C} {lb lt : Option (List Int)} (h : CR1 S D lb lt) : ∃ u : Value, CRu D u lb lt ∧ u.category = 1 ∧ (u = .null ∨ ∃ i, u = .ref i) ∧ SpF yX10_scriptOf cX10_scriptOf 2 (some (.object "Procession$Script")) 0 [.ref 0, .int (jI (S 0 11))] (W5 S T D) u (W5 S T D) := by
  obtain ⟨h1, h2, h3⟩ := h
  rcases h3 with ⟨h3, e1, e2⟩ | ⟨i, h3, ht, hc⟩
  · exact ⟨.null, Or.inl ⟨rfl, e1, e2⟩, rfl, Or.inl rfl, qX10_scriptOfN h1 h2 h3⟩
  · exact ⟨.ref (i + 54), Or.inr ⟨i, rfl, hc⟩, rfl, Or.inr ⟨_, rfl⟩, qX10_scriptOf (by omega) ht⟩
set_option maxRecDepth 100000 in
theorem qX10_tiresOfA {S T : Nat → Int → Int} {D : List mx_C} (hv : RV (S 14)) (hl : RLn (S 14)) {n : Int} (h_n : 1 ≤ n ∧ n ≤ 8) (hsc : SpF yX10_scriptOf cX10_scriptOf 2 (some (.object "Procession$Script")) 0 [.ref 0, .int (jI (S 0 11))] (W5 S T D) .null (W5 S T D)) : SpI yX10_tiresOf cX10_tiresOf 3 (some .int) 3 [.ref 0, .int (jI n)] (W5 S T D) (fun v hp' => v = cti (S 14) n none ∧ ∃ S', hp' = W5 S' T D ∧ Fr [35] S S') := by
  refine Sp.of [.ref 0, .int (jI n), .retAddr 0] (by decide) (by simp) (Nat.le_of_ble_eq_true rfl) rfl (fun E => ?_)
  refine L_a0 dX10_tiresOf_0 ?_
  refine L_a0 dX10_tiresOf_1 ?_
  refine GW_0_11 fX10_75 dX10_tiresOf_2 ?_
  refine C_v1F vX10_99 dX10_tiresOf_5 hsc rfl rfl (Nat.le_of_ble_eq_true rfl) (by decide) ?_
  refine S_n2 dX10_tiresOf_8 (by decide) rfl ?_
  refine L_n2 dX10_tiresOf_9 ?_
  refine E_ifnull_n 20 dX10_tiresOf_10 rfl ?_
  refine J_iconst dX10_tiresOf_20 ?_
  exact RQ_i rfl dX10_tiresOf_21 ⟨rfl, S, rfl, Fr.refl _ _⟩

set_option maxRecDepth 100000 in
theorem qX10_tiresOfB {S T : Nat → Int → Int} {D : List mx_C} (hv : RV (S 14)) (hl : RLn (S 14)) {n : Int} (h_n : 1 ≤ n ∧ n ≤ 8){i : Nat} {v0 v1 v2 v3 v4 : Value} (hDi : D[i]? = some (ob 7 [v0, v1, v2, v3, v4, .null])) (hsc : SpF yX10_scriptOf cX10_scriptOf 2 (some (.object "Procession$Script")) 0 [.ref 0, .int (jI (S 0 11))] (W5 S T D) (.ref (i + 54)) (W5 S T D)) : SpI yX10_tiresOf cX10_tiresOf 3 (some .int) 3 [.ref 0, .int (jI n)] (W5 S T D) (fun v hp' => v = cti (S 14) n none ∧ ∃ S', hp' = W5 S' T D ∧ Fr [35] S S') := by
  refine Sp.of [.ref 0, .int (jI n), .retAddr 0] (by decide) (by simp) (Nat.le_of_ble_eq_true rfl) rfl (fun E => ?_)
  refine L_a0 dX10_tiresOf_0 ?_
  refine L_a0 dX10_tiresOf_1 ?_
  refine GW_0_11 fX10_75 dX10_tiresOf_2 ?_
  refine C_v1F vX10_99 dX10_tiresOf_5 hsc rfl rfl (Nat.le_of_ble_eq_true rfl) (by decide) ?_
  refine S_a2 dX10_tiresOf_8 (by decide) rfl ?_
  refine L_a2 dX10_tiresOf_9 ?_
  refine E_ifnull_r dX10_tiresOf_10 ?_
  refine L_a2 dX10_tiresOf_13 ?_
  refine E_getf fX10_362 dX10_tiresOf_14 (by rw [W5_D]; exact hDi) rfl ?_
  refine E_ifnonnull_n dX10_tiresOf_17 ?_
  refine J_iconst dX10_tiresOf_20 ?_
  exact RQ_i rfl dX10_tiresOf_21 ⟨rfl, S, rfl, Fr.refl _ _⟩

set_option maxRecDepth 100000 in
theorem qX10_tiresOfC {S T : Nat → Int → Int} {D : List mx_C} (hv : RV (S 14)) (hl : RLn (S 14)) {n : Int} (h_n : 1 ≤ n ∧ n ≤ 8) {i : Nat} {v0 v1 v2 v3 v4 : Value} {a b : Nat} {fc : Int → Int} {l : List Int} (hDi : D[i]? = some (ob 7 [v0, v1, v2, v3, v4, .ref (a + 54)])) (hDa : D[a]? = some (ob 2 [.ref (b + 54)])) (hDb : D[b]? = some (ia l.length fc)) (hm : l.length ≤ 300) (hfc : ∀ j : Nat, j < l.length → fc (j : Int) = l.getD j 0) (hlB : ∀ x ∈ l, 0 ≤ x ∧ x ≤ 10099) (ho : okL l) (hsc : SpF yX10_scriptOf cX10_scriptOf 2 (some (.object "Procession$Script")) 0 [.ref 0, .int (jI (S 0 11))] (W5 S T D) (.ref (i + 54)) (W5 S T D)) : SpI yX10_tiresOf cX10_tiresOf 3 (some .int) 3 [.ref 0, .int (jI n)] (W5 S T D) (fun v hp' => v = cti (S 14) n (some l) ∧ ∃ S', hp' = W5 S' T D ∧ Fr [35] S S') := by
  obtain ⟨rs, er⟩ := crv_e (f := S 14) (n := n) ho
  have hcB := crv_B hv h_n hlB ho
  refine Sp.of [.ref 0, .int (jI n), .retAddr 0] (by decide) (by simp) (Nat.le_of_ble_eq_true rfl) rfl (fun E => ?_)
  refine L_a0 dX10_tiresOf_0 ?_
  refine L_a0 dX10_tiresOf_1 ?_
  refine GW_0_11 fX10_75 dX10_tiresOf_2 ?_
  refine C_v1F vX10_99 dX10_tiresOf_5 hsc rfl rfl (Nat.le_of_ble_eq_true rfl) (by decide) ?_
  refine S_a2 dX10_tiresOf_8 (by decide) rfl ?_
  refine L_a2 dX10_tiresOf_9 ?_
  refine E_ifnull_r dX10_tiresOf_10 ?_
  refine L_a2 dX10_tiresOf_13 ?_
  refine E_getf fX10_362 dX10_tiresOf_14 (by rw [W5_D]; exact hDi) rfl ?_
  refine E_ifnonnull_r 22 dX10_tiresOf_17 rfl ?_
  refine L_a2 dX10_tiresOf_22 ?_
  refine E_getf fX10_362 dX10_tiresOf_23 (by rw [W5_D]; exact hDi) rfl ?_
  refine L_a0 dX10_tiresOf_26 ?_
  refine GW_0_3 fX10_32 dX10_tiresOf_27 ?_
  refine L_i1 dX10_tiresOf_30 ?_
  refine L_a0 dX10_tiresOf_31 ?_
  refine GW_0_9 fX10_67 dX10_tiresOf_32 ?_
  refine C_v3I vX10_352 dX10_tiresOf_35 (qX2_worth hv hl hDa hDb hm h_n hfc hlB er) (by rw [W5_D]; exact hDa) rfl (Nat.le_of_ble_eq_true rfl) (by decide) (fun v35 hp35 hq35 => ?_)
  obtain ⟨e35, S35, rfl, hf35⟩ := hq35
  subst e35
  refine J_i2l dX10_tiresOf_38 (by omega) ?_
  refine J_iconst dX10_tiresOf_39 ?_
  refine J_bipush dX10_tiresOf_40 (by decide) ?_
  refine C_s3F vX10_358 dX10_tiresOf_42 (qX10_within (by omega) (by omega) (by omega)) (Nat.le_of_ble_eq_true rfl) (by decide) ?_
  exact RQ_i rfl dX10_tiresOf_45 ⟨rfl, S35, rfl, hf35⟩

theorem qX10_tiresOf {S T : Nat → Int → Int} {D : List mx_C} (hv : RV (S 14)) (hl : RLn (S 14)) {n : Int} (h_n : 1 ≤ n ∧ n ≤ 8) {lb lt : Option (List Int)} (hr : CR1 S D lb lt) : SpI yX10_tiresOf cX10_tiresOf 3 (some .int) 3 [.ref 0, .int (jI n)] (W5 S T D) (fun v hp' => v = cti (S 14) n lt ∧ ∃ S', hp' = W5 S' T D ∧ Fr [35] S S') := by
  obtain ⟨u, hu, _, _, hsc⟩ := hr.sp (T := T)
  rcases hu with ⟨rfl, _, rfl⟩ | ⟨i, rfl, v0, v1, v2, v3, v4, v5, hDi, h4, h5⟩
  · exact qX10_tiresOfA hv hl h_n hsc
  · cases lt with
    | none =>
      have h5 : v5 = .null := h5
      subst h5
      exact qX10_tiresOfB hv hl h_n hDi hsc
    | some l =>
      obtain ⟨a, b, fc, rfl, hDa, hDb, hm, hfc, hlB, ho⟩ := h5
      exact qX10_tiresOfC hv hl h_n hDi hDa hDb hm hfc hlB ho hsc
