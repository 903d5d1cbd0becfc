/-! ===== the class: the reader's clauses ===== -/
theorem W5_len (S T : Nat → Int → Int) (D : List mx_C) : (W5 S T D).length = D.length + 54 := by
  show (wC S ++ (wM T ++ D)).length = _
  rw [List.length_append, List.length_append]
  show 36 + (18 + D.length) = _
  omega
theorem W5_app (S T : Nat → Int → Int) (D E : List mx_C) : W5 S T D ++ E = W5 S T (D ++ E) := by
  show (wC S ++ (wM T ++ D)) ++ E = wC S ++ (wM T ++ (D ++ E))
  rw [List.append_assoc, List.append_assoc]
theorem tx_m1 : tx (-1) = none := rfl
theorem tx_nat (k : Nat) : tx (k : Int) = some k := by unfold tx; rw [if_neg (by omega), Int.toNat_natCast]
section PWQ
variable {E : mx_E} {y : MethodName} {cc : ByteArray} {nL : Nat} {ret : Option FieldType} {K : mx_Kd} {bc bs pc : Nat} {lv st : List Value} {S T : Nat → Int → Int} {D : List mx_C}
theorem PWq_3_8 {idx : Nat} {x : Int} {v : Value} (hv : v = va_rf (tx x)) (hf : mx_fl y.cls idx 3 8) (hd : decode cc pc = .ok (.putfield idx, 3)) (k : Ev E y cc nL ret K bc bs (pc + 3) lv (st) (W5 (upS S 3 (up (S 3) 8 x)) T D)) : Ev E y cc nL ret K bc bs (pc) lv (v :: .ref 3 :: st) (W5 S T D) := by
  subst hv
  exact E_putf hf tX3_8 hd rfl (Nat.le_of_ble_eq_true rfl) (by cases tx x <;> rfl) (by cases tx x <;> rfl) k
theorem PWq_3_9 {idx : Nat} {x : Int} {v : Value} (hv : v = va_rf (tx x)) (hf : mx_fl y.cls idx 3 9) (hd : decode cc pc = .ok (.putfield idx, 3)) (k : Ev E y cc nL ret K bc bs (pc + 3) lv (st) (W5 (upS S 3 (up (S 3) 9 x)) T D)) : Ev E y cc nL ret K bc bs (pc) lv (v :: .ref 3 :: st) (W5 S T D) := by
  subst hv
  exact E_putf hf tX3_9 hd rfl (Nat.le_of_ble_eq_true rfl) (by cases tx x <;> rfl) (by cases tx x <;> rfl) k
end PWQ
set_option maxRecDepth 100000 in
theorem sX2_init {hp : List mx_C} {b a : Nat} (hb : hp[b]? = some (ob 2 [.null])) : Sp yX2_init cX2_init 2 none 1 0 0 [.ref b, .ref a] hp (fun r hp' => r = none ∧ hp' = hp.set b (ob 2 [.ref a])) := by
  refine Sp.of [.ref b, .ref a] (by decide) (by simp) (Nat.le_of_ble_eq_true rfl) rfl (fun E => ?_)
  refine L_a0 dX2_init_0 ?_
  refine E_obj oX2_1 mx_obj1 mx_obj2 dX2_init_1 (Nat.le_of_ble_eq_true rfl) ⟨Nat.le_of_ble_eq_true rfl, Nat.le_of_ble_eq_true rfl⟩ ?_
  refine L_a0 dX2_init_4 ?_
  refine L_a1 dX2_init_5 ?_
  refine E_putF fX2_7 tX2_0 ⟨rfl, rfl⟩ dX2_init_6 hb (by decide) rfl rfl ?_
  exact E_vret rfl dX2_init_9 ⟨rfl, rfl⟩
/-- a law's text, as it lies there -/
def CLv (D : List mx_C) (v : Value) : Option (List Int) → Prop
  | none => v = .null
  | some l => ∃ a b : Nat, ∃ fc : Int → Int, v = .ref (a + 54) ∧ D[a]? = some (ob 2 [.ref (b + 54)]) ∧ D[b]? = some (ia l.length fc) ∧ l.length ≤ 300 ∧ ∀ j : Nat, j < l.length → fc (j : Int) = l.getD j 0
theorem CLv.app {D E : List mx_C} {v : Value} {o : Option (List Int)} (h : CLv D v o) : CLv (D ++ E) v o := by
  cases o with
  | none => exact h
  | some l =>
    obtain ⟨a, b, fc, h1, h2, h3, h4, h5⟩ := h
    exact ⟨a, b, fc, h1, by rw [List.getElem?_append_left (List.getElem?_eq_some_iff.mp h2).1]; exact h2, by rw [List.getElem?_append_left (List.getElem?_eq_some_iff.mp h3).1]; exact h3, h4, h5⟩
def cLw (B : Nat → Int) (k : Int) (c : Nat) : RR := tSu B (fam B k 8).1 (0, c, [])
/-- behind a law that was read: its ref, its text, if it has no fault -/
def LwR (B : Nat → Int) (n : Nat) (S T : Nat → Int → Int) (D : List mx_C) (k : Int) (c : Nat) (r' : Option Value) (hp' : List mx_C) : Prop := ∃ (S' : Nat → Int → Int) (D' : List mx_C), r' = some (.ref (D.length + 54)) ∧ hp' = W5 S' T (D ++ D') ∧ Fr [3, 4, 11] S S' ∧ (∀ j : Int, ¬ j = 6 → ¬ j = 7 → ¬ j = 10 → S' 3 j = S 3 j) ∧ SCT B n S' ∧ (0 ≤ (cLw B k c).1 ∧ (cLw B k c).1 ≤ 6) ∧ S' 3 10 = (cLw B k c).1 ∧ (0 ≤ S' 3 6 ∧ S' 3 6 ≤ 300) ∧ (∃ i : Nat, i ≤ n ∧ S' 4 4 = (i : Int) ∧ tkc B i = (cLw B k c).2.1) ∧ ((cLw B k c).1 = 0 → CLv (D ++ D') (.ref (D.length + 54)) (some (cLw B k c).2.2))
set_option maxRecDepth 100000 in
theorem qX3_readLaw {S T : Nat → Int → Int} {D : List mx_C} {B : Nat → Int} {n i : Nat} (hs : SCT B n S) (hi : i ≤ n) (hw : S 4 4 = (i : Int)) (hi1 : 1 ≤ i) (h10 : S 3 10 = 0) {k : Int} (hk : k = 3 ∨ k = 4) : Sp yX3_readLaw cX3_readLaw 2 (some (.object "Procession$Law")) 70 2 301 [.ref 3, .int (jI k)] (W5 S T D) (LwR B n S T D k (tkc B i)) := by
  have hr3 : RS3 B n (upS (upS S 3 (up (S 3) 7 k)) 3 (up ((upS S 3 (up (S 3) 7 k)) 3) 6 0)) (upS (upS S 3 (up (S 3) 7 k)) 3 (up ((upS S 3 (up (S 3) 7 k)) 3) 6 0)) 1 (0, tkc B i, []) := by
    refine ⟨Fr.refl _ _, fun _ _ _ => rfl, hs.fr (by rw [upS_n (by decide), upS_n (by decide)]) (by rw [upS_n (by decide), upS_n (by decide)]) (by rw [upS_n (by decide), upS_n (by decide)]) (by rw [upS_n (by decide), upS_n (by decide)]), by show (0 : Int) ≤ 0 ∧ (0 : Int) ≤ 6; omega, by rw [upS_s, up_n (by decide), upS_s, up_n (by decide)]; exact h10, by rw [upS_s, up_s]; omega, i, hi, by rw [upS_n (by decide), upS_n (by decide)]; exact hw, rfl, fun _ => ⟨⟨by rw [upS_s, up_s]; rfl, fun j hj => absurd hj (Nat.not_lt_zero _)⟩, by show ((0 : Nat) : Int) + 1 ≤ (i : Int); omega⟩⟩
  have hF1 : Fr [3, 4, 11] S (upS (upS S 3 (up (S 3) 7 k)) 3 (up ((upS S 3 (up (S 3) 7 k)) 3) 6 0)) := (Fr_up S _ (by decide)).trans (Fr_up _ _ (by decide))
  refine Sp.of [.ref 3, .int (jI k)] (by decide) (by simp) (Nat.le_of_ble_eq_true rfl) rfl (fun E => ?_)
  refine L_a0 dX3_readLaw_0 ?_
  refine L_i1 dX3_readLaw_1 ?_
  refine PW_3_7 fX3_38 dX3_readLaw_2 ?_
  refine L_a0 dX3_readLaw_5 ?_
  refine J_iconst dX3_readLaw_6 ?_
  refine PW_3_6 fX3_35 dX3_readLaw_7 ?_
  refine L_a0 dX3_readLaw_10 ?_
  refine J_iconst dX3_readLaw_11 ?_
  refine C_v1U vX3_103 dX3_readLaw_12 (qX3_readSum0 hk _ _ T D 1 (0, tkc B i, []) (by omega) (by rw [upS_s, up_n (by decide), upS_s, up_s]) hr3) rfl rfl (Nat.le_of_ble_eq_true rfl) (by decide) (fun hp12 hq12 => ?_)
  obtain ⟨S2, rfl, h2⟩ := hq12
  obtain ⟨g1, g2, g3, g4, g5, g6, i2, g7, g8, g9, g10⟩ := id h2
  obtain ⟨ks, hks⟩ : ∃ ks : Nat, S2 3 6 = (ks : Int) := ⟨(S2 3 6).toNat, by omega⟩
  refine E_new nX3_106 dX3_readLaw_15 rfl 1 300 (by omega) (by omega) ?_
  refine E_dup dX3_readLaw_18 rfl ?_
  rw [W5_app, W5_len]
  refine L_a0 dX3_readLaw_19 ?_
  refine GW_3_4 fX3_28 dX3_readLaw_20 ?_
  refine L_a0 dX3_readLaw_23 ?_
  refine GW_3_6 fX3_35 dX3_readLaw_24 ?_
  rw [hks]
  refine E_calls [.ref 11, .int (jI (ks : Int))] vX3_70 dX3_readLaw_27 (sJ_copyOf (b := 11) (N := 300) (f := S2 11) rfl (by omega) (by omega)) rfl (Nat.le_of_ble_eq_true rfl) ⟨Nat.le_of_ble_eq_true rfl, Nat.le_of_ble_eq_true rfl⟩ 0 (300 - ks) (by omega) (by omega) _ rfl (fun r27 hp27 hq27 => ?_)
  obtain ⟨g, rfl, rfl, hg⟩ := hq27
  rw [W5_app, W5_len, List.length_append]
  have hb : (W5 S2 T (D ++ [ob 2 [.null]] ++ [ia ks g]))[D.length + 54]? = some (ob 2 [.null]) := by
    rw [W5_D, List.append_assoc, List.getElem?_append_right (Nat.le_refl _), Nat.sub_self]
    rfl
  refine E_calli (D.length + 54) [.ref (D.length + [ob 2 [.null]].length + 54)] vX3_108 dX3_readLaw_30 (sX2_init hb) rfl (Nat.le_of_ble_eq_true rfl) ⟨Nat.le_of_ble_eq_true rfl, Nat.le_of_ble_eq_true rfl⟩ 0 (300 - ks) (by omega) (by omega) _ rfl (fun r30 hp30 hq30 => ?_)
  obtain ⟨rfl, rfl⟩ := hq30
  have hset : (W5 S2 T (D ++ [ob 2 [.null]] ++ [ia ks g])).set (D.length + 54) (ob 2 [.ref (D.length + [ob 2 [.null]].length + 54)]) = W5 S2 T (D ++ [ob 2 [.ref (D.length + 1 + 54)], ia ks g]) := by
    rw [List.append_assoc]
    show (wC S2 ++ (wM T ++ (D ++ [ob 2 [.null], ia ks g]))).set _ _ = _
    have e1 : (wC S2).length = 36 := rfl
    have e2 : (wM T).length = 18 := rfl
    rw [List.set_append_right _ _ (by omega), List.set_append_right _ _ (by omega), List.set_append_right _ _ (by omega), e1, e2, show D.length + 54 - 36 - 18 - D.length = 0 from by omega]
    rfl
  rw [hset]
  refine E_aret (v := some (D.length + 54)) rfl (Or.inl ⟨_, rfl⟩) dX3_readLaw_33 ⟨S2, [ob 2 [.ref (D.length + 1 + 54)], ia ks g], rfl, rfl, hF1.trans g1, fun j a b c => ?_, g3, g4, g5, g6, ⟨i2, g7, g8, g9⟩, fun hz => ?_⟩
  · rw [g2 j a c, upS_s, up_n a, upS_s, up_n b]
  · have h11 := (g10 hz).1
    have hl : (cLw B k (tkc B i)).2.2.length = ks := by have := h11.1; rw [hks] at this; exact (Int.ofNat_inj.mp this).symm
    refine ⟨D.length, D.length + 1, g, rfl, ?_, ?_, by rw [hl]; omega, fun j hj => ?_⟩
    · rw [List.getElem?_append_right (Nat.le_refl _), Nat.sub_self]; rfl
    · rw [List.getElem?_append_right (by omega), show D.length + 1 - D.length = 1 from by omega, hl]; rfl
    · rw [hg j (by omega)]
      exact h11.2 j hj
