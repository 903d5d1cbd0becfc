/-! ===== THE LAW'S WALK: its loop ===== -/
theorem E_more {E : mx_E} {y : MethodName} {cc : ByteArray} {nL : Nat} {rt : Option FieldType} {K : mx_Kd} {bc bs bc0 bs0 pc : Nat} {lv st : List Value} {hp : List mx_C} (h1 : bc ≤ bc0) (h2 : bs ≤ bs0) (k : Ev E y cc nL rt K bc bs pc lv st hp) : Ev E y cc nL rt K bc0 bs0 pc lv st hp := by
  intro p l e s m args below meth c H locs cells slots ls X
  obtain ⟨x1, x2, x3, x4, x5, x6, x7⟩ := X
  exact k p l e s m args below meth c H locs cells slots ls ⟨x1, x2, x3, x4, x5, by omega, by omega⟩
theorem law_loop {E : mx_E} {L : Nat} {xs : Nat → Int32} (hL : L ≤ 3072) (m : Nat) : ∀ (n : Nat) (S T : Nat → Int → Int) (D : List mx_C), n + m = 512 → SIM n S T D → LEv E L xs (54 * m) (7603 * m) 18 (LV n) [] (W5 S T D) := by
  induction m with
  | zero =>
    intro n S T D hn h
    refine E_iload_n 3 dL_law_18 rfl rfl ?_
    refine E_aload_nX 0 dL_law_19 rfl rfl ?_
    refine L_len dL_law_20 ?_
    refine E_bipush (v := jI 6) dL_law_21 rfl ?_
    refine J_isub dL_law_23 ?_
    refine J_icmp_gt 1563 dL_law_24 rfl (by omega) (by omega) (fun _ => ?_) (fun e => by exfalso; omega)
    exact E_iconst (v := jI 1) dL_law_1563 rfl (L_ret dL_law_1564)
  | succ m ih =>
    intro n S T D hn h
    have back : ∀ S1 T1 D1, SIM (n + 1) S1 T1 D1 → LEv E L xs (54 * m) (7603 * m) 1557 (LV n) [] (W5 S1 T1 D1) := by
      intro S1 T1 D1 h1
      refine E_iinc dL_law_1557 rfl (by decide) rfl ?_
      refine E_goto 18 dL_law_1560 rfl ?_
      have e : jI (6 * (n : Int)) + Int32.ofInt 6 = jI (6 * ((n + 1 : Nat) : Int)) := by
        show jI (6 * (n : Int)) + jI 6 = _
        rw [jI_add]
        congr 1
      rw [e]
      exact ih (n + 1) S1 T1 D1 (by omega) h1
    refine E_iload_n 3 dL_law_18 rfl rfl ?_
    refine E_aload_nX 0 dL_law_19 rfl rfl ?_
    refine L_len dL_law_20 ?_
    refine E_bipush (v := jI 6) dL_law_21 rfl ?_
    refine J_isub dL_law_23 ?_
    refine J_icmp_gt 1563 dL_law_24 rfl (by omega) (by omega) (fun _ => ?_) (fun e => ?_)
    · exact E_iconst (v := jI 1) dL_law_1563 rfl (L_ret dL_law_1564)
    have hb : 54 * (m + 1) = 54 * m + 54 := by omega
    have hs : 7603 * (m + 1) = 7603 * m + 7603 := by omega
    rw [hb, hs]
    refine E_aload_nX 0 dL_law_27 rfl rfl ?_
    refine E_iload_n 3 dL_law_28 rfl rfl ?_
    refine L_ld (by omega) hL dL_law_29 ?_
    refine E_bipush (v := jI 63) dL_law_30 rfl ?_
    refine E_iand dL_law_32 ?_
    rw [jI_mask _ 6 (by decide) (show (63 : Int) = 2 ^ 6 - 1 by decide)]
    have hz : 0 ≤ xv xs (6 * (n : Int)) % 2 ^ 6 ∧ xv xs (6 * (n : Int)) % 2 ^ 6 < 64 := by omega
    refine J_tab50 248 311 334 347 370 393 416 449 472 485 508 531 554 587 600 633 656 679 712 735 758 792 835 888 942 975 998 1032 1056 1080 1104 1137 1160 1183 1233 1282 1315 1348 1381 1394 1407 1420 1433 1446 1459 1472 1485 1508 1521 1534 1557 dL_law_33 (by omega) rfl rfl rfl rfl rfl rfl rfl rfl rfl rfl rfl rfl rfl rfl rfl rfl rfl rfl rfl rfl rfl rfl rfl rfl rfl rfl rfl rfl rfl rfl rfl rfl rfl rfl rfl rfl rfl rfl rfl rfl rfl rfl rfl rfl rfl rfl rfl rfl rfl rfl rfl rfl (fun _ => cs_0 h (by omega) (by omega) hL back) (fun _ => cs_1 h (by omega) (by omega) hL back) (fun _ => cs_2 h (by omega) (by omega) hL back) (fun _ => cs_3 h (by omega) (by omega) hL back) (fun _ => cs_4 h (by omega) (by omega) hL back) (fun _ => cs_5 h (by omega) (by omega) hL back) (fun _ => cs_6 h (by omega) (by omega) hL back) (fun _ => cs_7 h (by omega) (by omega) hL back) (fun _ => cs_8 h (by omega) (by omega) hL back) (fun _ => cs_9 h (by omega) (by omega) hL back) (fun _ => cs_10 h (by omega) (by omega) hL back) (fun _ => cs_11 h (by omega) (by omega) hL back) (fun _ => cs_12 h (by omega) (by omega) hL back) (fun _ => cs_13 h (by omega) (by omega) hL back) (fun _ => cs_14 h (by omega) (by omega) hL back) (fun _ => cs_15 h (by omega) (by omega) hL back) (fun _ => cs_16 h (by omega) (by omega) hL back) (fun _ => cs_17 h (by omega) (by omega) hL back) (fun _ => cs_18 h (by omega) (by omega) hL back) (fun _ => cs_19 h (by omega) (by omega) hL back) (fun _ => cs_20 h (by omega) (by omega) hL back) (fun _ => cs_21 h (by omega) (by omega) hL back) (fun _ => cs_22 h (by omega) (by omega) hL back) (fun _ => cs_23 h (by omega) (by omega) hL back) (fun _ => cs_24 h (by omega) (by omega) hL back) (fun _ => cs_25 h (by omega) (by omega) hL back) (fun _ => cs_26 h (by omega) (by omega) hL back) (fun _ => cs_27 h (by omega) (by omega) hL back) (fun _ => cs_28 h (by omega) (by omega) hL back) (fun _ => cs_29 h (by omega) (by omega) hL back) (fun _ => cs_30 h (by omega) (by omega) hL back) (fun _ => cs_31 h (by omega) (by omega) hL back) (fun _ => cs_32 h (by omega) (by omega) hL back) (fun _ => cs_33 h (by omega) (by omega) hL back) (fun _ => cs_34 h (by omega) (by omega) hL back) (fun _ => cs_35 h (by omega) (by omega) hL back) (fun _ => cs_36 h (by omega) (by omega) hL back) (fun _ => cs_37 h (by omega) (by omega) hL back) (fun _ => cs_38 h (by omega) (by omega) hL back) (fun _ => cs_39 h (by omega) (by omega) hL back) (fun _ => cs_40 h (by omega) (by omega) hL back) (fun _ => cs_41 h (by omega) (by omega) hL back) (fun _ => cs_42 h (by omega) (by omega) hL back) (fun _ => cs_43 h (by omega) (by omega) hL back) (fun _ => cs_44 h (by omega) (by omega) hL back) (fun _ => cs_45 h (by omega) (by omega) hL back) (fun _ => cs_46 h (by omega) (by omega) hL back) (fun _ => cs_47 h (by omega) (by omega) hL back) (fun _ => cs_48 h (by omega) (by omega) hL back) (fun _ => cs_49 h (by omega) (by omega) hL back) (fun _ => ?_)
    refine E_more (bc := 54 * m) (bs := 7603 * m) (by omega) (by omega) ?_
    exact back S T D h.up1
theorem law_ev {E : mx_E} {L : Nat} {xs : Nat → Int32} (hL : L ≤ 3072) : LEv E L xs 600000 7302250 0 [.float 9, .retAddr 0, .retAddr 0, .retAddr 0] [] [] := by
  refine E_new nL_7 dL_law_0 rfl 599999 7302238 (by omega) (by omega) ?_
  refine E_dup dL_law_3 rfl ?_
  refine E_calli 0 [] vL_9 dL_law_4 qX10_init rfl (by decide) ⟨Nat.le_of_ble_eq_true rfl, Nat.le_of_ble_eq_true rfl⟩ 599964 7288598 (by omega) (by omega) _ rfl ?_
  rintro r hp ⟨rfl, rfl⟩
  refine E_astore_n 1 dL_law_7 rfl (by decide) rfl ?_
  refine E_new nL_10 dL_law_8 rfl 599963 7288562 (by omega) (by omega) ?_
  refine E_dup dL_law_11 rfl ?_
  refine E_calli 36 [] vL_12 dL_law_12 qX11_init rfl (by decide) ⟨Nat.le_of_ble_eq_true rfl, Nat.le_of_ble_eq_true rfl⟩ 599946 7248401 (by omega) (by omega) _ rfl ?_
  rintro r hp ⟨rfl, rfl⟩
  refine E_astore_n 2 dL_law_15 rfl (by decide) rfl ?_
  refine E_iconst (v := jI 0) dL_law_16 rfl ?_
  refine E_istore_n 3 dL_law_17 rfl (by decide) rfl ?_
  refine E_more (bc := 54 * 512) (bs := 7603 * 512) (by omega) (by omega) ?_
  exact law_loop hL 512 0 iS iT [] rfl start_sim
