/-! ===== the class: a text kept ===== -/
theorem tx_upd {f : Int → Int} {j : Int} {x n : Nat} (h : 0 ≤ j ∧ j < n) (hn : n < 2147483648) : va_up (fun q : Nat => tx (f (q : Int))) (jI j).toNatClampNeg (some x) = fun q : Nat => tx (up f j (x : Int) (q : Int)) := by
  funext q
  rw [jI_clamp h hn]
  unfold va_up up
  by_cases hq : q = j.toNat
  · rw [if_pos hq, if_pos (by omega), tx_nat]
  · rw [if_neg hq, if_neg (by omega)]
theorem AS_12 {E : mx_E} {y : MethodName} {cc : ByteArray} {nL : Nat} {ret : Option FieldType} {K : mx_Kd} {bc bs pc : Nat} {lv st : List Value} {S T : Nat → Int → Int} {D : List mx_C} {j : Int} {x : Nat} {fs : List Value} (hd : decode cc pc = .ok (.aastore, 1)) (hj : 0 ≤ j ∧ j < 4) (hv : (W5 S T D)[x]? = some (.inr (7, fs))) (k : Ev E y cc nL ret K bc bs (pc + 1) lv (st) (W5 (upS S 12 (up (S 12) j (x : Int))) T D)) : Ev E y cc nL ret K bc bs (pc) lv (.ref x :: .int (jI j) :: .ref 12 :: st) (W5 S T D) := by
  refine E_aast (n := 4) (f := fun q : Nat => tx (S 12 (q : Int))) hd rfl hv (jI_in hj (by decide)) ?_
  rw [tx_upd (n := 4) hj (by decide)]
  exact k
/-- what a text asked for leaves -/
def TxR (S T : Nat → Int → Int) (D : List mx_C) (r : RC) (v : Int) (hp' : List mx_C) : Prop := ∃ (S' : Nat → Int → Int) (D' : List mx_C), hp' = W5 S' T (D ++ D') ∧ ((4 ≤ S 0 10 ∧ v = -1 ∧ D' = [] ∧ S' = S) ∨ (S 0 10 < 4 ∧ Fr [0, 1, 3, 4, 5, 6, 7, 8, 9, 10, 11, 12] S S' ∧ S' 1 = up (S 1) 1 0 ∧ (0 ≤ S' 3 6 ∧ S' 3 6 ≤ 300) ∧ (0 ≤ r.1 ∧ r.1 ≤ 6) ∧ S' 3 10 = r.1 ∧ ((¬ r.1 = 0 ∧ v = -1 ∧ S' 0 = S 0 ∧ S' 12 = S 12 ∧ S' 3 11 = ((lxp (cbF S) r.2.1 : Nat) : Int)) ∨ (r.1 = 0 ∧ v = S 0 10 ∧ S' 0 = up (S 0) 10 (S 0 10 + 1) ∧ S' 3 11 = -1 ∧ ∃ i : Nat, S' 12 = up (S 12) (S 0 10) ((i + 54 : Nat) : Int) ∧ CSv (D ++ D') i r.2.2.1 r.2.2.2.1 r.2.2.2.2))))
set_option maxRecDepth 100000 in
theorem qX10_text {S T : Nat → Int → Int} {D : List mx_C} (h0 : 0 ≤ S 1 1 ∧ S 1 1 ≤ 300) (h6 : 0 ≤ S 3 6 ∧ S 3 6 ≤ 300) (hc : 0 ≤ S 0 10 ∧ S 0 10 ≤ 4) : Sp yX10_text cX10_text 2 (some .int) 74 54 7603 [.ref 0] (W5 S T D) (fun r' hp' => ∃ v, r' = some (.int (jI v)) ∧ TxR S T D (cRd (cbF S) 25 (0, 0, [], none, none)) v hp') := by
  refine Sp.of [.ref 0, .retAddr 0] (by decide) (by simp) (Nat.le_of_ble_eq_true rfl) rfl (fun E => ?_)
  refine L_a0 dX10_text_0 ?_
  refine GW_0_10 fX10_71 dX10_text_1 ?_
  refine J_iconst dX10_text_4 ?_
  refine J_icmp_lt 10 dX10_text_5 rfl (by omega) (by omega) (fun c5 => ?_) (fun c5 => ?_)
  · refine L_a0 dX10_text_10 ?_
    refine GW_0_1 fX10_19 dX10_text_11 ?_
    refine L_a0 dX10_text_14 ?_
    refine GW_0_0 fX10_10 dX10_text_15 ?_
    refine E_callv 3 [.ref 1] vX10_89 dX10_text_18 (qX3_read h0 h6) rfl rfl rfl (Nat.le_of_ble_eq_true rfl) ⟨Nat.le_of_ble_eq_true rfl, Nat.le_of_ble_eq_true rfl⟩ 0 0 (by omega) (by omega) _ rfl (fun r47 hp47 hq47 => ?_)
    generalize cRd (cbF S) 25 (0, 0, [], none, none) = r at hq47 ⊢
    obtain ⟨S', D', rfl, g1, g2, g3, g4, g5, g6⟩ := hq47
    rcases g6 with ⟨z0, rfl, z1⟩ | ⟨z0, z1, i, rfl, z2⟩
    · refine S_n1 dX10_text_21 (by decide) rfl ?_
      refine L_a0 dX10_text_22 ?_
      refine GW_0_0 fX10_10 dX10_text_23 ?_
      refine J_iconst dX10_text_26 ?_
      refine PW_1_1 fX10_86 dX10_text_27 ?_
      refine L_n1 dX10_text_30 ?_
      refine E_ifnonnull_n dX10_text_31 ?_
      refine J_iconst dX10_text_34 ?_
      have eo : ∀ x : Nat, ¬ x = 1 → upS S' 1 (up (S' 1) 1 0) x = S' x := fun x hx => upS_n hx
      refine E_iret rfl dX10_text_35 ⟨-1, rfl, _, D', rfl, Or.inr ⟨by omega, (Fr.mono g1 (by simp)).trans (Fr_up (l := [0, 1, 3, 4, 5, 6, 7, 8, 9, 10, 11, 12]) S' _ (by decide)), by rw [upS_s, g1 1 (by decide)], by rw [eo 3 (by decide)]; exact g3, g4, by rw [eo 3 (by decide)]; exact g5, Or.inl ⟨z0, rfl, by rw [eo 0 (by decide), g1 0 (by decide)], by rw [eo 12 (by decide), g1 12 (by decide)], by rw [eo 3 (by decide)]; exact z1⟩⟩⟩
    · refine S_a1 dX10_text_21 (by decide) rfl ?_
      refine L_a0 dX10_text_22 ?_
      refine GW_0_0 fX10_10 dX10_text_23 ?_
      refine J_iconst dX10_text_26 ?_
      refine PW_1_1 fX10_86 dX10_text_27 ?_
      have eo : ∀ x : Nat, ¬ x = 1 → upS S' 1 (up (S' 1) 1 0) x = S' x := fun x hx => upS_n hx
      have e1 : upS S' 1 (up (S' 1) 1 0) 1 = up (S 1) 1 0 := by rw [upS_s, g1 1 (by decide)]
      have hF : Fr [0, 1, 3, 4, 5, 6, 7, 8, 9, 10, 11, 12] S (upS S' 1 (up (S' 1) 1 0)) := (Fr.mono g1 (by simp)).trans (Fr_up S' _ (by decide))
      generalize upS S' 1 (up (S' 1) 1 0) = S2 at eo e1 hF ⊢
      have q0 : S2 0 = S 0 := by rw [eo 0 (by decide), g1 0 (by decide)]
      have q12 : S2 12 = S 12 := by rw [eo 12 (by decide), g1 12 (by decide)]
      refine L_a1 dX10_text_30 ?_
      refine E_ifnonnull_r 36 dX10_text_31 rfl ?_
      refine L_a0 dX10_text_36 ?_
      refine GW_0_2 fX10_25 dX10_text_37 ?_
      refine L_a0 dX10_text_40 ?_
      refine GW_0_10 fX10_71 dX10_text_41 ?_
      refine J_eqi (b := S 0 10) (by rw [q0]) ?_
      refine L_a1 dX10_text_44 ?_
      obtain ⟨b1, b2, b3, f1, f2, f3, v4, v5, y1, y2⟩ := id z2
      refine AS_12 dX10_text_45 (by omega) (W5_ge y1) ?_
      refine L_a0 dX10_text_46 ?_
      refine E_dup dX10_text_47 rfl ?_
      refine GW_0_10 fX10_71 dX10_text_48 ?_
      refine J_iconst dX10_text_51 ?_
      refine J_iadd dX10_text_52 ?_
      refine PW_0_10 fX10_71 dX10_text_53 ?_
      refine L_a0 dX10_text_56 ?_
      refine GW_0_10 fX10_71 dX10_text_57 ?_
      refine J_iconst dX10_text_60 ?_
      refine J_isub dX10_text_61 ?_
      have p0 : upS S2 12 (up (S2 12) (S 0 10) ((i + 54 : Nat) : Int)) 0 = S 0 := by rw [upS_n (by decide), q0]
      have p12 : upS S2 12 (up (S2 12) (S 0 10) ((i + 54 : Nat) : Int)) 12 = up (S 12) (S 0 10) ((i + 54 : Nat) : Int) := by rw [upS_s, q12]
      have po : ∀ x : Nat, ¬ x = 12 → upS S2 12 (up (S2 12) (S 0 10) ((i + 54 : Nat) : Int)) x = S2 x := fun x hx => upS_n hx
      have hF2 : Fr [0, 1, 3, 4, 5, 6, 7, 8, 9, 10, 11, 12] S (upS S2 12 (up (S2 12) (S 0 10) ((i + 54 : Nat) : Int))) := hF.trans (Fr_up S2 _ (by decide))
      generalize upS S2 12 (up (S2 12) (S 0 10) ((i + 54 : Nat) : Int)) = S3 at p0 p12 po hF2 ⊢
      rw [p0]
      have ko : ∀ x : Nat, ¬ x = 0 → upS S3 0 (up (S 0) 10 (S 0 10 + 1)) x = S3 x := fun x hx => upS_n hx
      refine E_iret rfl dX10_text_62 ⟨_, rfl, _, D', rfl, Or.inr ⟨by omega, hF2.trans (Fr_up S3 _ (by decide)), by rw [ko 1 (by decide), po 1 (by decide)]; exact e1, by rw [ko 3 (by decide), po 3 (by decide), eo 3 (by decide)]; exact g3, g4, by rw [ko 3 (by decide), po 3 (by decide), eo 3 (by decide)]; exact g5, Or.inr ⟨z0, ?_, upS_s _ _ _, by rw [ko 3 (by decide), po 3 (by decide), eo 3 (by decide)]; exact z1, i, by rw [ko 12 (by decide)]; exact p12, z2⟩⟩⟩
      rw [upS_s, up_s]; omega
  · refine J_iconst dX10_text_8 ?_
    exact E_iret rfl dX10_text_9 ⟨-1, rfl, S, [], by rw [List.append_nil], Or.inl ⟨by omega, rfl, rfl, rfl⟩⟩
