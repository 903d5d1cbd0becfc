/-! ===== the class: a text read ===== -/
set_option maxRecDepth 100000 in
theorem sX7_init {hp : List mx_C} {b a1 a2 a3 m : Nat} {f1 f2 f3 : Int → Int} {v4 v5 : Value} (hb : hp[b]? = some (ob 7 [.int 0, .null, .null, .null, .null, .null])) (h1 : hp[a1]? = some (ia m f1)) (h2 : hp[a2]? = some (ia m f2)) (h3 : hp[a3]? = some (ia m f3)) (hm : m ≤ 1000) (hv4 : (∃ x, v4 = .ref x) ∨ v4 = .null) (hv5 : (∃ x, v5 = .ref x) ∨ v5 = .null) : Sp yX7_init cX7_init 6 none 1 0 0 [.ref b, .ref a1, .ref a2, .ref a3, v4, v5] hp (fun r hp' => r = none ∧ hp' = hp.set b (ob 7 [.int (jI (m : Int)), .ref a1, .ref a2, .ref a3, v4, v5])) := by
  rcases hv4 with ⟨x4, rfl⟩ | rfl
  · rcases hv5 with ⟨x5, rfl⟩ | rfl
    · refine Sp.of [.ref b, .ref a1, .ref a2, .ref a3, .ref x4, .ref x5] (by decide) (by simp) (Nat.le_of_ble_eq_true rfl) rfl (fun E => ?_)
      refine L_a0 dX7_init_0 ?_
      refine E_obj oX7_1 mx_obj1 mx_obj2 dX7_init_1 (Nat.le_of_ble_eq_true rfl) ⟨Nat.le_of_ble_eq_true rfl, Nat.le_of_ble_eq_true rfl⟩ ?_
      refine L_a0 dX7_init_4 ?_
      refine L_a1 dX7_init_5 ?_
      refine J_alen dX7_init_6 h1 ?_
      refine L_a2 dX7_init_7 ?_
      refine J_alen dX7_init_8 h2 ?_
      refine L_a3 dX7_init_9 ?_
      refine J_alen dX7_init_10 h3 ?_
      refine J_mmin vX7_7 mX7_7 dX7_init_11 (by omega) (by omega) (Nat.le_of_ble_eq_true rfl) ⟨Nat.le_of_ble_eq_true rfl, Nat.le_of_ble_eq_true rfl⟩ ?_
      rw [if_neg (show ¬ (m : Int) < (m : Int) by omega)]
      refine J_mmin vX7_7 mX7_7 dX7_init_14 (by omega) (by omega) (Nat.le_of_ble_eq_true rfl) ⟨Nat.le_of_ble_eq_true rfl, Nat.le_of_ble_eq_true rfl⟩ ?_
      rw [if_neg (show ¬ (m : Int) < (m : Int) by omega)]
      refine E_putF fX7_13 tX7_0 ⟨rfl, rfl⟩ dX7_init_17 hb (by decide) rfl rfl ?_
      refine L_a0 dX7_init_20 ?_
      refine L_a1 dX7_init_21 ?_
      refine E_putF fX7_19 tX7_1 ⟨rfl, rfl⟩ dX7_init_22 (mx_ss hb) (Nat.le_of_ble_eq_true rfl) rfl rfl ?_
      rw [List.set_set]
      refine L_a0 dX7_init_25 ?_
      refine L_a2 dX7_init_26 ?_
      refine E_putF fX7_23 tX7_2 ⟨rfl, rfl⟩ dX7_init_27 (mx_ss hb) (Nat.le_of_ble_eq_true rfl) rfl rfl ?_
      rw [List.set_set]
      refine L_a0 dX7_init_30 ?_
      refine L_a3 dX7_init_31 ?_
      refine E_putF fX7_26 tX7_3 ⟨rfl, rfl⟩ dX7_init_32 (mx_ss hb) (Nat.le_of_ble_eq_true rfl) rfl rfl ?_
      rw [List.set_set]
      refine L_a0 dX7_init_35 ?_
      refine E_aload dX7_init_36 rfl ?_
      refine E_putF fX7_29 tX7_4 ⟨rfl, rfl⟩ dX7_init_38 (mx_ss hb) (Nat.le_of_ble_eq_true rfl) rfl rfl ?_
      rw [List.set_set]
      refine L_a0 dX7_init_41 ?_
      refine E_aload dX7_init_42 rfl ?_
      refine E_putF fX7_33 tX7_5 ⟨rfl, rfl⟩ dX7_init_44 (mx_ss hb) (Nat.le_of_ble_eq_true rfl) rfl rfl ?_
      rw [List.set_set]
      exact E_vret rfl dX7_init_47 ⟨rfl, rfl⟩
    · refine Sp.of [.ref b, .ref a1, .ref a2, .ref a3, .ref x4, .null] (by decide) (by simp) (Nat.le_of_ble_eq_true rfl) rfl (fun E => ?_)
      refine L_a0 dX7_init_0 ?_
      refine E_obj oX7_1 mx_obj1 mx_obj2 dX7_init_1 (Nat.le_of_ble_eq_true rfl) ⟨Nat.le_of_ble_eq_true rfl, Nat.le_of_ble_eq_true rfl⟩ ?_
      refine L_a0 dX7_init_4 ?_
      refine L_a1 dX7_init_5 ?_
      refine J_alen dX7_init_6 h1 ?_
      refine L_a2 dX7_init_7 ?_
      refine J_alen dX7_init_8 h2 ?_
      refine L_a3 dX7_init_9 ?_
      refine J_alen dX7_init_10 h3 ?_
      refine J_mmin vX7_7 mX7_7 dX7_init_11 (by omega) (by omega) (Nat.le_of_ble_eq_true rfl) ⟨Nat.le_of_ble_eq_true rfl, Nat.le_of_ble_eq_true rfl⟩ ?_
      rw [if_neg (show ¬ (m : Int) < (m : Int) by omega)]
      refine J_mmin vX7_7 mX7_7 dX7_init_14 (by omega) (by omega) (Nat.le_of_ble_eq_true rfl) ⟨Nat.le_of_ble_eq_true rfl, Nat.le_of_ble_eq_true rfl⟩ ?_
      rw [if_neg (show ¬ (m : Int) < (m : Int) by omega)]
      refine E_putF fX7_13 tX7_0 ⟨rfl, rfl⟩ dX7_init_17 hb (by decide) rfl rfl ?_
      refine L_a0 dX7_init_20 ?_
      refine L_a1 dX7_init_21 ?_
      refine E_putF fX7_19 tX7_1 ⟨rfl, rfl⟩ dX7_init_22 (mx_ss hb) (Nat.le_of_ble_eq_true rfl) rfl rfl ?_
      rw [List.set_set]
      refine L_a0 dX7_init_25 ?_
      refine L_a2 dX7_init_26 ?_
      refine E_putF fX7_23 tX7_2 ⟨rfl, rfl⟩ dX7_init_27 (mx_ss hb) (Nat.le_of_ble_eq_true rfl) rfl rfl ?_
      rw [List.set_set]
      refine L_a0 dX7_init_30 ?_
      refine L_a3 dX7_init_31 ?_
      refine E_putF fX7_26 tX7_3 ⟨rfl, rfl⟩ dX7_init_32 (mx_ss hb) (Nat.le_of_ble_eq_true rfl) rfl rfl ?_
      rw [List.set_set]
      refine L_a0 dX7_init_35 ?_
      refine E_aload dX7_init_36 rfl ?_
      refine E_putF fX7_29 tX7_4 ⟨rfl, rfl⟩ dX7_init_38 (mx_ss hb) (Nat.le_of_ble_eq_true rfl) rfl rfl ?_
      rw [List.set_set]
      refine L_a0 dX7_init_41 ?_
      refine E_aloadN dX7_init_42 rfl ?_
      refine E_putF fX7_33 tX7_5 ⟨rfl, rfl⟩ dX7_init_44 (mx_ss hb) (Nat.le_of_ble_eq_true rfl) rfl rfl ?_
      rw [List.set_set]
      exact E_vret rfl dX7_init_47 ⟨rfl, rfl⟩
  · rcases hv5 with ⟨x5, rfl⟩ | rfl
    · refine Sp.of [.ref b, .ref a1, .ref a2, .ref a3, .null, .ref x5] (by decide) (by simp) (Nat.le_of_ble_eq_true rfl) rfl (fun E => ?_)
      refine L_a0 dX7_init_0 ?_
      refine E_obj oX7_1 mx_obj1 mx_obj2 dX7_init_1 (Nat.le_of_ble_eq_true rfl) ⟨Nat.le_of_ble_eq_true rfl, Nat.le_of_ble_eq_true rfl⟩ ?_
      refine L_a0 dX7_init_4 ?_
      refine L_a1 dX7_init_5 ?_
      refine J_alen dX7_init_6 h1 ?_
      refine L_a2 dX7_init_7 ?_
      refine J_alen dX7_init_8 h2 ?_
      refine L_a3 dX7_init_9 ?_
      refine J_alen dX7_init_10 h3 ?_
      refine J_mmin vX7_7 mX7_7 dX7_init_11 (by omega) (by omega) (Nat.le_of_ble_eq_true rfl) ⟨Nat.le_of_ble_eq_true rfl, Nat.le_of_ble_eq_true rfl⟩ ?_
      rw [if_neg (show ¬ (m : Int) < (m : Int) by omega)]
      refine J_mmin vX7_7 mX7_7 dX7_init_14 (by omega) (by omega) (Nat.le_of_ble_eq_true rfl) ⟨Nat.le_of_ble_eq_true rfl, Nat.le_of_ble_eq_true rfl⟩ ?_
      rw [if_neg (show ¬ (m : Int) < (m : Int) by omega)]
      refine E_putF fX7_13 tX7_0 ⟨rfl, rfl⟩ dX7_init_17 hb (by decide) rfl rfl ?_
      refine L_a0 dX7_init_20 ?_
      refine L_a1 dX7_init_21 ?_
      refine E_putF fX7_19 tX7_1 ⟨rfl, rfl⟩ dX7_init_22 (mx_ss hb) (Nat.le_of_ble_eq_true rfl) rfl rfl ?_
      rw [List.set_set]
      refine L_a0 dX7_init_25 ?_
      refine L_a2 dX7_init_26 ?_
      refine E_putF fX7_23 tX7_2 ⟨rfl, rfl⟩ dX7_init_27 (mx_ss hb) (Nat.le_of_ble_eq_true rfl) rfl rfl ?_
      rw [List.set_set]
      refine L_a0 dX7_init_30 ?_
      refine L_a3 dX7_init_31 ?_
      refine E_putF fX7_26 tX7_3 ⟨rfl, rfl⟩ dX7_init_32 (mx_ss hb) (Nat.le_of_ble_eq_true rfl) rfl rfl ?_
      rw [List.set_set]
      refine L_a0 dX7_init_35 ?_
      refine E_aloadN dX7_init_36 rfl ?_
      refine E_putF fX7_29 tX7_4 ⟨rfl, rfl⟩ dX7_init_38 (mx_ss hb) (Nat.le_of_ble_eq_true rfl) rfl rfl ?_
      rw [List.set_set]
      refine L_a0 dX7_init_41 ?_
      refine E_aload dX7_init_42 rfl ?_
      refine E_putF fX7_33 tX7_5 ⟨rfl, rfl⟩ dX7_init_44 (mx_ss hb) (Nat.le_of_ble_eq_true rfl) rfl rfl ?_
      rw [List.set_set]
      exact E_vret rfl dX7_init_47 ⟨rfl, rfl⟩
    · refine Sp.of [.ref b, .ref a1, .ref a2, .ref a3, .null, .null] (by decide) (by simp) (Nat.le_of_ble_eq_true rfl) rfl (fun E => ?_)
      refine L_a0 dX7_init_0 ?_
      refine E_obj oX7_1 mx_obj1 mx_obj2 dX7_init_1 (Nat.le_of_ble_eq_true rfl) ⟨Nat.le_of_ble_eq_true rfl, Nat.le_of_ble_eq_true rfl⟩ ?_
      refine L_a0 dX7_init_4 ?_
      refine L_a1 dX7_init_5 ?_
      refine J_alen dX7_init_6 h1 ?_
      refine L_a2 dX7_init_7 ?_
      refine J_alen dX7_init_8 h2 ?_
      refine L_a3 dX7_init_9 ?_
      refine J_alen dX7_init_10 h3 ?_
      refine J_mmin vX7_7 mX7_7 dX7_init_11 (by omega) (by omega) (Nat.le_of_ble_eq_true rfl) ⟨Nat.le_of_ble_eq_true rfl, Nat.le_of_ble_eq_true rfl⟩ ?_
      rw [if_neg (show ¬ (m : Int) < (m : Int) by omega)]
      refine J_mmin vX7_7 mX7_7 dX7_init_14 (by omega) (by omega) (Nat.le_of_ble_eq_true rfl) ⟨Nat.le_of_ble_eq_true rfl, Nat.le_of_ble_eq_true rfl⟩ ?_
      rw [if_neg (show ¬ (m : Int) < (m : Int) by omega)]
      refine E_putF fX7_13 tX7_0 ⟨rfl, rfl⟩ dX7_init_17 hb (by decide) rfl rfl ?_
      refine L_a0 dX7_init_20 ?_
      refine L_a1 dX7_init_21 ?_
      refine E_putF fX7_19 tX7_1 ⟨rfl, rfl⟩ dX7_init_22 (mx_ss hb) (Nat.le_of_ble_eq_true rfl) rfl rfl ?_
      rw [List.set_set]
      refine L_a0 dX7_init_25 ?_
      refine L_a2 dX7_init_26 ?_
      refine E_putF fX7_23 tX7_2 ⟨rfl, rfl⟩ dX7_init_27 (mx_ss hb) (Nat.le_of_ble_eq_true rfl) rfl rfl ?_
      rw [List.set_set]
      refine L_a0 dX7_init_30 ?_
      refine L_a3 dX7_init_31 ?_
      refine E_putF fX7_26 tX7_3 ⟨rfl, rfl⟩ dX7_init_32 (mx_ss hb) (Nat.le_of_ble_eq_true rfl) rfl rfl ?_
      rw [List.set_set]
      refine L_a0 dX7_init_35 ?_
      refine E_aloadN dX7_init_36 rfl ?_
      refine E_putF fX7_29 tX7_4 ⟨rfl, rfl⟩ dX7_init_38 (mx_ss hb) (Nat.le_of_ble_eq_true rfl) rfl rfl ?_
      rw [List.set_set]
      refine L_a0 dX7_init_41 ?_
      refine E_aloadN dX7_init_42 rfl ?_
      refine E_putF fX7_33 tX7_5 ⟨rfl, rfl⟩ dX7_init_44 (mx_ss hb) (Nat.le_of_ble_eq_true rfl) rfl rfl ?_
      rw [List.set_set]
      exact E_vret rfl dX7_init_47 ⟨rfl, rfl⟩
def CSv (D : List mx_C) (i : Nat) (L : List (Int × Int × Int)) (lb lt : Option (List Int)) : Prop := ∃ b1 b2 b3 : Nat, ∃ f1 f2 f3 : Int → Int, ∃ v4 v5 : Value, D[i]? = some (ob 7 [.int (jI (L.length : Int)), .ref (b1 + 54), .ref (b2 + 54), .ref (b3 + 54), v4, v5]) ∧ D[b1]? = some (ia L.length f1) ∧ D[b2]? = some (ia L.length f2) ∧ D[b3]? = some (ia L.length f3) ∧ L.length ≤ 24 ∧ (∀ j : Nat, j < L.length → f1 (j : Int) = (L.getD j (0, 0, 0)).1 ∧ f2 (j : Int) = (L.getD j (0, 0, 0)).2.1 ∧ f3 (j : Int) = (L.getD j (0, 0, 0)).2.2) ∧ CLv D v4 lb ∧ CLv D v5 lt
def cRd (B : Nat → Int) : Nat → RC → RC
  | 0, r => r
  | m + 1, r => if r.1 = 0 ∧ ¬ kd B r.2.1 = 1 then cRd B m (cCl B r) else r
def RdR (B : Nat → Int) (S T : Nat → Int → Int) (D : List mx_C) (r : RC) (r' : Option Value) (hp' : List mx_C) : Prop := ∃ (S' : Nat → Int → Int) (D' : List mx_C), hp' = W5 S' T (D ++ D') ∧ Fr [3, 4, 5, 6, 7, 8, 9, 10, 11] S S' ∧ (∀ j : Int, ¬ (5 ≤ j ∧ j ≤ 11) → S' 3 j = S 3 j) ∧ (0 ≤ S' 3 6 ∧ S' 3 6 ≤ 300) ∧ (0 ≤ r.1 ∧ r.1 ≤ 6) ∧ S' 3 10 = r.1 ∧ ((¬ r.1 = 0 ∧ r' = some .null ∧ S' 3 11 = ((lxp B r.2.1 : Nat) : Int)) ∨ (r.1 = 0 ∧ S' 3 11 = -1 ∧ ∃ i : Nat, r' = some (.ref (i + 54)) ∧ CSv (D ++ D') i r.2.2.1 r.2.2.2.1 r.2.2.2.2))
theorem CLv.rf {D : List mx_C} {v : Value} {o : Option (List Int)} (h : CLv D v o) : (∃ x, v = .ref x) ∨ v = .null := by
  cases o with
  | none => exact Or.inr h
  | some l => obtain ⟨a, b, fc, h1, -⟩ := h; exact Or.inl ⟨_, h1⟩
theorem W5_ge {S T : Nat → Int → Int} {D : List mx_C} {i : Nat} {c : mx_C} (h : D[i]? = some c) : (W5 S T D)[i + 54]? = some c := by rw [W5_D]; exact h
set_option maxRecDepth 100000 in
theorem eX3_read {E : mx_E} {B : Nat → Int} {n : Nat} {S1 S T : Nat → Int → Int} {D0 D' : List mx_C} {r : RC} (h : RL3 B n S1 S (D0 ++ D') r) (h11 : S1 3 11 = -1) {j : Int} {bc bs mc ms : Nat} (hbc : 4 ≤ bc) (hbs : 78 ≤ bs) (R : Option Value → List mx_C → Prop) (hR : ∀ r' hp', RdR B S1 T D0 r r' hp' → R r' hp') : Ev E yX3_read cX3_read 3 (some (.object "Procession$Script")) (mx_km E 73 mc ms R) bc bs 69 [.ref 3, .ref 1, .int (jI j)] [] (W5 S T (D0 ++ D')) := by
  obtain ⟨h1, h2, h3, h4, h5, h6, ⟨i, hi, hw, hc⟩, h8⟩ := id h
  have hF : Fr [3, 4, 5, 6, 7, 8, 9, 10, 11] S1 S := Fr.mono h1 (by simp)
  refine L_a0 dX3_read_69 ?_
  refine GW_3_10 fX3_48 dX3_read_70 ?_
  refine J_if_eq 89 dX3_read_73 rfl (by omega) (fun c73 => ?_) (fun c73 => ?_)
  · obtain ⟨z1, z2, z3, z4, z5⟩ := h8 (by omega)
    refine E_new nX3_68 dX3_read_89 rfl 3 72 (by omega) (by omega) ?_
    refine E_dup dX3_read_92 rfl ?_
    rw [W5_app, W5_len]
    refine L_a0 dX3_read_93 ?_
    refine GW_3_1 fX3_18 dX3_read_94 ?_
    refine L_a0 dX3_read_97 ?_
    refine GW_3_5 fX3_31 dX3_read_98 ?_
    rw [z1]
    refine E_calls [.ref 8, .int (jI ((r.2.2.1.length : Nat) : Int))] vX3_70 dX3_read_101 (sJ_copyOf (b := 8) (N := 24) (f := S 8) rfl z2 (by omega)) rfl (Nat.le_of_ble_eq_true rfl) ⟨Nat.le_of_ble_eq_true rfl, Nat.le_of_ble_eq_true rfl⟩ 2 48 (by omega) (by omega) _ rfl (fun r27 hp27 hq27 => ?_)
    obtain ⟨g1, rfl, rfl, hg1⟩ := hq27
    rw [W5_app, W5_len]
    refine L_a0 dX3_read_104 ?_
    refine GW_3_2 fX3_22 dX3_read_105 ?_
    refine L_a0 dX3_read_108 ?_
    refine GW_3_5 fX3_31 dX3_read_109 ?_
    rw [z1]
    refine E_calls [.ref 9, .int (jI ((r.2.2.1.length : Nat) : Int))] vX3_70 dX3_read_112 (sJ_copyOf (b := 9) (N := 24) (f := S 9) rfl z2 (by omega)) rfl (Nat.le_of_ble_eq_true rfl) ⟨Nat.le_of_ble_eq_true rfl, Nat.le_of_ble_eq_true rfl⟩ 1 24 (by omega) (by omega) _ rfl (fun r27 hp27 hq27 => ?_)
    obtain ⟨g2, rfl, rfl, hg2⟩ := hq27
    rw [W5_app, W5_len]
    refine L_a0 dX3_read_115 ?_
    refine GW_3_3 fX3_25 dX3_read_116 ?_
    refine L_a0 dX3_read_119 ?_
    refine GW_3_5 fX3_31 dX3_read_120 ?_
    rw [z1]
    refine E_calls [.ref 10, .int (jI ((r.2.2.1.length : Nat) : Int))] vX3_70 dX3_read_123 (sJ_copyOf (b := 10) (N := 24) (f := S 10) rfl z2 (by omega)) rfl (Nat.le_of_ble_eq_true rfl) ⟨Nat.le_of_ble_eq_true rfl, Nat.le_of_ble_eq_true rfl⟩ 0 0 (by omega) (by omega) _ rfl (fun r27 hp27 hq27 => ?_)
    obtain ⟨g3, rfl, rfl, hg3⟩ := hq27
    rw [W5_app, W5_len]
    refine L_a0 dX3_read_126 ?_
    refine GW_3_8 fX3_41 dX3_read_127 ?_
    refine L_a0 dX3_read_130 ?_
    refine GW_3_9 fX3_45 dX3_read_131 ?_
    generalize hv4 : va_rf (tx (S 3 8)) = v4 at z4 ⊢
    generalize hv5 : va_rf (tx (S 3 9)) = v5 at z5 ⊢
    generalize hDD : D0 ++ D' = DD at h z4 z5 ⊢
    simp only [List.length_append, List.length_singleton]
    have hset : ∀ c : mx_C, (W5 S T (DD ++ [ob 7 [.int 0, .null, .null, .null, .null, .null]] ++ [ia r.2.2.1.length g1] ++ [ia r.2.2.1.length g2] ++ [ia r.2.2.1.length g3])).set (DD.length + 54) c = W5 S T (DD ++ [c, ia r.2.2.1.length g1, ia r.2.2.1.length g2, ia r.2.2.1.length g3]) := fun c => by
      rw [List.append_assoc, List.append_assoc, List.append_assoc]
      show (wC S ++ (wM T ++ (DD ++ [ob 7 [.int 0, .null, .null, .null, .null, .null], ia r.2.2.1.length g1, ia r.2.2.1.length g2, ia r.2.2.1.length g3]))).set _ _ = _
      have e1 : (wC S).length = 36 := rfl
      have e2 : (wM T).length = 18 := rfl
      rw [List.set_append_right _ _ (by omega), List.set_append_right _ _ (by omega), List.set_append_right _ _ (by omega), e1, e2, show DD.length + 54 - 36 - 18 - DD.length = 0 from by omega]
      rfl
    have hg : ∀ (k : Nat) (c : mx_C), [ob 7 [.int 0, .null, .null, .null, .null, .null], ia r.2.2.1.length g1, ia r.2.2.1.length g2, ia r.2.2.1.length g3][k]? = some c → (W5 S T (DD ++ [ob 7 [.int 0, .null, .null, .null, .null, .null]] ++ [ia r.2.2.1.length g1] ++ [ia r.2.2.1.length g2] ++ [ia r.2.2.1.length g3]))[DD.length + k + 54]? = some c := fun k c hk => by
      rw [List.append_assoc, List.append_assoc, List.append_assoc]
      refine W5_ge ?_
      rw [List.getElem?_append_right (by omega), show DD.length + k - DD.length = k from by omega]
      exact hk
    refine E_calli (DD.length + 54) [.ref (DD.length + 1 + 54), .ref (DD.length + 1 + 1 + 54), .ref (DD.length + 1 + 1 + 1 + 54), v4, v5] vX3_76 dX3_read_134 (sX7_init (m := r.2.2.1.length) (hg 0 _ rfl) (hg 1 _ rfl) (hg 2 _ rfl) (hg 3 _ rfl) (by omega) z4.rf z5.rf) rfl (Nat.le_of_ble_eq_true rfl) ⟨Nat.le_of_ble_eq_true rfl, Nat.le_of_ble_eq_true rfl⟩ 0 0 (by omega) (by omega) _ rfl (fun r30 hp30 hq30 => ?_)
    obtain ⟨rfl, rfl⟩ := hq30
    rw [hset]
    refine E_aret (v := some (DD.length + 54)) rfl (Or.inl ⟨_, rfl⟩) dX3_read_137 (hR _ _ ⟨S, D' ++ [ob 7 [.int (jI ((r.2.2.1.length : Nat) : Int)), .ref (DD.length + 1 + 54), .ref (DD.length + 1 + 1 + 54), .ref (DD.length + 1 + 1 + 1 + 54), v4, v5], ia r.2.2.1.length g1, ia r.2.2.1.length g2, ia r.2.2.1.length g3], by rw [← List.append_assoc, hDD], hF, fun j hj => h2 j (by omega), h6, h4, h5, Or.inr ⟨by omega, by rw [h2 11 (by decide)]; exact h11, DD.length, rfl, ?_⟩⟩)
    rw [← List.append_assoc, hDD]
    refine ⟨DD.length + 1, DD.length + 1 + 1, DD.length + 1 + 1 + 1, g1, g2, g3, v4, v5, ?_, ?_, ?_, ?_, z2, fun j hj => ?_, z4.app, z5.app⟩
    · rw [List.getElem?_append_right (Nat.le_refl _), Nat.sub_self]; rfl
    · rw [List.getElem?_append_right (by omega), show DD.length + 1 - DD.length = 1 from by omega]; rfl
    · rw [List.getElem?_append_right (by omega), show DD.length + 1 + 1 - DD.length = 2 from by omega]; rfl
    · rw [List.getElem?_append_right (by omega), show DD.length + 1 + 1 + 1 - DD.length = 3 from by omega]; rfl
    · rw [hg1 j (by omega), hg2 j (by omega), hg3 j (by omega)]; exact z3 j hj
  · refine L_a0 dX3_read_76 ?_
    refine L_a0 dX3_read_77 ?_
    refine GW_3_0 fX3_12 dX3_read_78 ?_
    refine C_v0F vX3_65 dX3_read_81 (qX6_from h3 hi hw) rfl rfl (Nat.le_of_ble_eq_true rfl) (by decide) ?_
    refine PW_3_11 fX3_51 dX3_read_84 ?_
    refine E_null dX3_read_87 ?_
    have e3 : ∀ x, upS S 3 (up (S 3) 11 x) 3 = up (S 3) 11 x := fun x => upS_s _ _ _
    refine E_aret (v := none) rfl (Or.inl ⟨_, rfl⟩) dX3_read_88 (hR _ _ ⟨_, D', rfl, Fr.t hF (Fr_up (l := [3]) S _ (by decide)) (by simp), fun j hj => ?_, ?_, h4, ?_, Or.inl ⟨by omega, rfl, ?_⟩⟩)
    · rw [e3, up_n (by omega)]; exact h2 j (by omega)
    · rw [e3, up_n (by decide)]; exact h6
    · rw [e3, up_n (by decide)]; exact h5
    · rw [e3, up_s, hc]
set_option maxRecDepth 100000 in
theorem lX3_read {E : mx_E} {B : Nat → Int} {n : Nat} {S1 T : Nat → Int → Int} {D0 : List mx_C} (h11 : S1 3 11 = -1) {mc ms : Nat} (R : Option Value → List mx_C → Prop) : ∀ (m j : Nat), j + m = 25 → ∀ (S : Nat → Int → Int) (D' : List mx_C) (r : RC), RL3 B n S1 S (D0 ++ D') r → (∀ r' hp', RdR B S1 T D0 (cRd B m r) r' hp' → R r' hp') → Ev E yX3_read cX3_read 3 (some (.object "Procession$Script")) (mx_km E 73 mc ms R) (2 * m + 4) (301 * m + 78) 35 [.ref 3, .ref 1, .int (jI (j : Int))] [] (W5 S T (D0 ++ D')) := by
  intro m
  induction m with
  | zero =>
    intro j hj S D' r h hR
    refine L_i2 dX3_read_35 ?_
    refine J_bipush dX3_read_36 (by decide) ?_
    refine J_icmp_gt 69 dX3_read_38 rfl (by omega) (by omega) (fun c38 => ?_) (fun c38 => ?_)
    · exact eX3_read h h11 (by omega) (by omega) R hR
    · exfalso; omega
  | succ m ih =>
    intro j hj S D' r h hR
    obtain ⟨h1, h2, h3, h4, h5, h6, ⟨i, hi, hw, hc⟩, h8⟩ := id h
    have hkB := kd_B B r.2.1
    refine L_i2 dX3_read_35 ?_
    refine J_bipush dX3_read_36 (by decide) ?_
    refine J_icmp_gt 69 dX3_read_38 rfl (by omega) (by omega) (fun c38 => ?_) (fun c38 => ?_)
    · exfalso; omega
    refine L_a0 dX3_read_41 ?_
    refine GW_3_10 fX3_48 dX3_read_42 ?_
    refine J_if_ne 69 dX3_read_45 rfl (by omega) (fun c45 => ?_) (fun c45 => ?_)
    · exact eX3_read h h11 (by omega) (by omega) R (by rw [show cRd B (m + 1) r = r from if_neg (fun q => c45 (h5.trans q.1))] at hR; exact hR)
    refine L_a0 dX3_read_48 ?_
    refine GW_3_0 fX3_12 dX3_read_49 ?_
    refine C_v0F vX3_58 dX3_read_52 (qX6_kind h3 hi hw) rfl rfl (Nat.le_of_ble_eq_true rfl) (by decide) ?_
    refine J_eqi (b := kd B r.2.1) (by rw [hc]) ?_
    refine J_iconst dX3_read_55 ?_
    refine J_icmp_eq 69 dX3_read_56 rfl (by omega) (by omega) (fun c56 => ?_) (fun c56 => ?_)
    · exact eX3_read h h11 (by omega) (by omega) R (by rw [show cRd B (m + 1) r = r from if_neg (fun q => q.2 c56)] at hR; exact hR)
    refine L_a0 dX3_read_59 ?_
    refine E_callv 3 [] vX3_62 dX3_read_60 (qX3_readClause h (by omega)) rfl rfl rfl (Nat.le_of_ble_eq_true rfl) ⟨Nat.le_of_ble_eq_true rfl, Nat.le_of_ble_eq_true rfl⟩ (2 * m + 4) (301 * m + 78) (by omega) (by omega) _ rfl (fun r47 hp47 hq47 => ?_)
    obtain ⟨rfl, S2, D2, rfl, h9⟩ := hq47
    refine JI_2 dX3_read_63 (by decide) rfl ?_
    refine E_goto 35 dX3_read_66 rfl ?_
    rw [List.append_assoc] at h9 ⊢
    exact ih (j + 1) (by omega) S2 (D' ++ D2) (cCl B r) h9 (by rw [show cRd B (m + 1) r = cRd B m (cCl B r) from if_pos ⟨by omega, c56⟩] at hR; exact hR)
def rd0 (S : Nat → Int → Int) : Nat → Int → Int := upS S 3 (up (up (up (up (up (S 3) 10 0) 11 (-1)) 5 0) 8 (-1)) 9 (-1))
set_option maxRecDepth 100000 in
theorem qX3_read {S T : Nat → Int → Int} {D : List mx_C} (h0 : 0 ≤ S 1 1 ∧ S 1 1 ≤ 300) (h6 : 0 ≤ S 3 6 ∧ S 3 6 ≤ 300) : Sp yX3_read cX3_read 3 (some (.object "Procession$Script")) 73 54 7603 [.ref 3, .ref 1] (W5 S T D) (RdR (cbF S) S T D (cRd (cbF S) 25 (0, 0, [], none, none))) := by
  refine Sp.of [.ref 3, .ref 1, .retAddr 0] (by decide) (by simp) (Nat.le_of_ble_eq_true rfl) rfl (fun E => ?_)
  refine L_a0 dX3_read_0 ?_
  refine J_iconst dX3_read_1 ?_
  refine PW_3_10 fX3_48 dX3_read_2 ?_
  refine L_a0 dX3_read_5 ?_
  refine J_iconst dX3_read_6 ?_
  refine PW_3_11 fX3_51 dX3_read_7 ?_
  refine L_a0 dX3_read_10 ?_
  refine J_iconst dX3_read_11 ?_
  refine PW_3_5 fX3_31 dX3_read_12 ?_
  refine L_a0 dX3_read_15 ?_
  refine E_null dX3_read_16 ?_
  refine PWq_3_8 (x := -1) rfl fX3_41 dX3_read_17 ?_
  refine L_a0 dX3_read_20 ?_
  refine E_null dX3_read_21 ?_
  refine PWq_3_9 (x := -1) rfl fX3_45 dX3_read_22 ?_
  rw [show ∀ a b c d e : Int → Int, ∀ S, upS (upS (upS (upS (upS S 3 a) 3 b) 3 c) 3 d) 3 e = upS S 3 e from fun a b c d e S => by funext x; unfold upS; by_cases hx : x = 3; simp only [hx, if_true]; simp only [hx, if_false]]
  simp only [upS_s]
  show Ev _ _ _ _ _ _ _ _ _ _ _ (W5 (rd0 S) T D)
  have e3 : rd0 S 3 = up (up (up (up (up (S 3) 10 0) 11 (-1)) 5 0) 8 (-1)) 9 (-1) := upS_s _ _ _
  have eo : ∀ x : Nat, ¬ x = 3 → rd0 S x = S x := fun x hx => upS_n hx
  have eB : cbF (rd0 S) = cbF S := by unfold cbF; rw [eo 1 (by decide), eo 2 (by decide)]
  have hF0 : Fr [3, 4, 5, 6, 7, 8, 9, 10, 11] S (rd0 S) := Fr_up S _ (by decide)
  generalize hR0 : rd0 S = S0 at e3 eo eB hF0 ⊢
  refine L_a0 dX3_read_25 ?_
  refine GW_3_0 fX3_12 dX3_read_26 ?_
  refine L_a1 dX3_read_29 ?_
  refine C_v1U vX3_54 dX3_read_30 (qX6_cut (by rw [eo 1 (by decide)]; exact h0)) rfl rfl (Nat.le_of_ble_eq_true rfl) (by decide) (fun hp30 hq30 => ?_)
  obtain ⟨S1, n, rfl, f1, s1, w1⟩ := hq30
  rw [eB] at s1
  have a3 : S1 3 = up (up (up (up (up (S 3) 10 0) 11 (-1)) 5 0) 8 (-1)) 9 (-1) := (f1 3 (by decide)).trans e3
  refine J_iconst dX3_read_33 ?_
  refine S_i2 dX3_read_34 (by decide) rfl ?_
  have hr : RL3 (cbF S) n S1 S1 (D ++ []) (0, 0, [], none, none) := ⟨Fr.refl _ _, fun _ _ => rfl, s1, by show (0 : Int) ≤ 0 ∧ (0 : Int) ≤ 6; omega, by rw [a3, up_n (by decide), up_n (by decide), up_n (by decide), up_n (by decide), up_s], by rw [a3, up_n (by decide), up_n (by decide), up_n (by decide), up_n (by decide), up_n (by decide)]; exact h6, ⟨0, by omega, w1, rfl⟩, fun _ => ⟨by rw [a3, up_n (by decide), up_n (by decide), up_s]; rfl, by show (0 : Nat) ≤ 24; omega, fun j hj => absurd hj (Nat.not_lt_zero _), by rw [a3, up_n (by decide), up_s]; rfl, by rw [a3, up_s]; rfl⟩⟩
  have hgo := lX3_read (E := E) (T := T) (mc := 54) (ms := 7603) (show S1 3 11 = -1 by rw [a3, up_n (by decide), up_n (by decide), up_n (by decide), up_s]) (RdR (cbF S) S T D (cRd (cbF S) 25 (0, 0, [], none, none))) 25 0 rfl S1 [] (0, 0, [], none, none) hr (fun r' hp' q => by
    obtain ⟨S', D', q1, q2, q3, q4, q5, q6, q7⟩ := q
    refine ⟨S', D', q1, (hF0.trans (Fr.mono f1 (by simp))).trans q2, fun j hj => ?_, q4, q5, q6, q7⟩
    rw [q3 j hj, a3, up_n (by omega), up_n (by omega), up_n (by omega), up_n (by omega), up_n (by omega)])
  rw [List.append_nil] at hgo
  exact hgo
