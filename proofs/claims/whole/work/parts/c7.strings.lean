/-! ===== the two strings, as they lie outside; copies of arrays ===== -/
def bst (i : Nat) (j : Int) : Int := ((mx_byt.getD i []).getD j.toNat 0).toInt
section ES
variable {E : mx_E} {y : MethodName} {cc : ByteArray} {nL : Nat} {ret : Option FieldType} {K : mx_Kd} {bc bs pc : Nat} {lv st : List Value} {hp : List mx_C}
theorem mx_fl_v (E : mx_E) {k : UInt32} {i : Nat} (h : k.toNat = i) : mx_v E (.float k) = .ref (E.2.2.2 i) := by rw [← h]; rfl
theorem E_ldcS0 (hy : y.cls = RX6) (hd : decode cc pc = .ok (.ldc 77, 2)) (k : Ev E y cc nL ret K bc bs (pc + 2) lv (.float 0 :: st) hp) : Ev E y cc nL ret K bc bs pc lv st hp := by
  intro p l e s m args below meth c H locs cells slots ls X
  obtain ⟨hx, hb, hfx, -⟩ := id X
  obtain ⟨hml, -, hown, hts, -, -, hst, -⟩ := id hfx
  rw [hy] at hown
  exact va_ldcS hx hb hown hst.2.2.1 hd (k _ _ _ _ _ _ _ _ _ _ _ _ _ _ X)
theorem E_ldcS1 (hy : y.cls = RX6) (hd : decode cc pc = .ok (.ldc 89, 2)) (k : Ev E y cc nL ret K bc bs (pc + 2) lv (.float 1 :: st) hp) : Ev E y cc nL ret K bc bs pc lv st hp := by
  intro p l e s m args below meth c H locs cells slots ls X
  obtain ⟨hx, hb, hfx, -⟩ := id X
  obtain ⟨hml, -, hown, hts, -, -, hst, -⟩ := id hfx
  rw [hy] at hown
  exact va_ldcS hx hb hown hst.2.2.2.1 hd (k _ _ _ _ _ _ _ _ _ _ _ _ _ _ X)
theorem E_getV {q q2 : UInt32} (i : Nat) (hi : i < 2) (hq : q.toNat = i) (hq2 : q2.toNat = i + 2) (hy : y.cls = RJ0) (hd : decode cc pc = .ok (.getfield 9, 3)) (k : Ev E y cc nL ret K bc bs (pc + 3) lv (.float q2 :: st) hp) : Ev E y cc nL ret K bc bs pc lv (.float q :: st) hp := by
  intro p l e s m args below meth c H locs cells slots ls X
  have h := k p l e s m args below meth c H locs cells slots ls X
  obtain ⟨hx, hb, hfx, ⟨hz, hP, hS⟩, -⟩ := id X
  obtain ⟨hml, -, hown, hts, -, -, hst, -⟩ := id hfx
  rw [hy] at hown
  rw [List.map_cons, mx_fl_v E hq2] at h
  rw [List.map_cons, mx_fl_v E hq]
  exact vk_getf hx hb (hst.2.2.2.2.1.1 i hi).2.2.1 hS hown (hts _ (mx_t9 3 rfl rfl)) (fun x h => h) hd h
theorem E_getC {q : UInt32} (i : Nat) (hi : i < 2) (hq : q.toNat = i) (hy : y.cls = RJ0) (hd : decode cc pc = .ok (.getfield 15, 3)) (k : Ev E y cc nL ret K bc bs (pc + 3) lv (.int (jI 0) :: st) hp) : Ev E y cc nL ret K bc bs pc lv (.float q :: st) hp := by
  intro p l e s m args below meth c H locs cells slots ls X
  have h := k p l e s m args below meth c H locs cells slots ls X
  obtain ⟨hx, hb, hfx, ⟨hz, hP, hS⟩, -⟩ := id X
  obtain ⟨hml, -, hown, hts, -, -, hst, -⟩ := id hfx
  rw [hy] at hown
  rw [List.map_cons, mx_fl_v E hq]
  exact vk_getf hx hb (hst.2.2.2.2.1.1 i hi).2.1 hS hown (hts _ (mx_t9 4 rfl rfl)) (fun x h => h) hd h
theorem E_getCS (hy : y.cls = RJ0) (hd : decode cc pc = .ok (.getstatic 38, 3)) (k : Ev E y cc nL ret K bc bs (pc + 3) lv (.int (jI 1) :: st) hp) : Ev E y cc nL ret K bc bs pc lv st hp := by
  intro p l e s m args below meth c H locs cells slots ls X
  have h := k p l e s m args below meth c H locs cells slots ls X
  obtain ⟨hx, hb, hfx, ⟨hz, hP, hS⟩, -⟩ := id X
  obtain ⟨hml, -, hown, hts, -, -, hst, -⟩ := id hfx
  rw [hy] at hown
  exact va_gets hx hb hst.2.2.2.2.2.1 hS hown (hts _ (mx_t2 91 rfl rfl)) (fun x h => h) hd h
theorem E_getSI (hy : y.cls = RJ0) (hd : decode cc pc = .ok (.getstatic 1053, 3)) (k1 : Ev E y cc nL ret K bc bs (pc + 3) lv (.null :: st) hp) (k2 : Ev E y cc nL ret K bc bs (pc + 3) lv (.float 7 :: st) hp) : Ev E y cc nL ret K bc bs pc lv st hp := by
  intro p l e s m args below meth c H locs cells slots ls X
  have h1 := k1 p l e s m args below meth c H locs cells slots ls X
  have h2 := k2 p l e s m args below meth c H locs cells slots ls X
  obtain ⟨hx, hb, hfx, ⟨hz, hP, hS⟩, -⟩ := id X
  obtain ⟨hml, -, hown, hts, -, -, hst, -⟩ := id hfx
  rw [hy] at hown
  rcases hst.2.2.2.2.2.2.2 with hZ | hZ
  · exact va_gets hx hb hZ hS hown (hts _ (mx_t2 107 rfl rfl)) (fun x h => h) hd h1
  · exact va_gets hx hb hZ hS hown (hts _ (mx_t2 107 rfl rfl)) (fun x h => h) hd h2
theorem E_alenS {q : UInt32} {n : Int} (i : Nat) (hi : i < 2) (hq : q.toNat = i + 2) (hn : Int32.ofNat (mx_len.getD i 0) = jI n) (hd : decode cc pc = .ok (.arraylength, 1)) (k : Ev E y cc nL ret K bc bs (pc + 1) lv (.int (jI n) :: st) hp) : Ev E y cc nL ret K bc bs pc lv (.float q :: st) hp := by
  intro p l e s m args below meth c H locs cells slots ls X
  have h := k p l e s m args below meth c H locs cells slots ls X
  obtain ⟨hx, hb, hfx, ⟨hz, hP, hS⟩, -⟩ := id X
  obtain ⟨hml, -, hown, hts, -, -, hst, -⟩ := id hfx
  rw [List.map_cons, mx_fl_v E hq]
  exact va_tlen hx hb (hst.2.2.2.2.1.1 i hi).2.2.2 hS hn hd h
theorem E_baldS {q : UInt32} {j : Int} (i : Nat) (hi : i < 2) (hq : q.toNat = i + 2) (hj : 0 ≤ j ∧ j < ((mx_len.getD i 0 : Nat) : Int)) (hn : mx_len.getD i 0 < 2147483648) (hd : decode cc pc = .ok (.baload, 1)) (k : Ev E y cc nL ret K bc bs (pc + 1) lv (.int (jI (bst i j)) :: st) hp) : Ev E y cc nL ret K bc bs pc lv (.int (jI j) :: .float q :: st) hp := by
  intro p l e s m args below meth c H locs cells slots ls X
  have h := k p l e s m args below meth c H locs cells slots ls X
  obtain ⟨hx, hb, hfx, ⟨hz, hP, hS⟩, -⟩ := id X
  obtain ⟨hml, -, hown, hts, -, -, hst, -⟩ := id hfx
  rw [List.map_cons, List.map_cons, mx_fl_v E hq]
  refine va_tb hx hb (hst.2.2.2.2.1.1 i hi).2.2.2 hS (jI_in hj hn) ?_ hd h
  show Value.int _ = Value.int (jI (bst i j))
  unfold bst
  rw [jI_back, jI_clamp hj hn]
end ES
section EC2
variable {E : mx_E} {y : MethodName} {cc : ByteArray} {nL : Nat} {ret : Option FieldType} {bc bs pc : Nat} {lv st : List Value} {hp : List mx_C}
variable {z : MethodName} {bytes : ByteArray} {maxL n idx d' d mc ms : Nat} {rt : Option FieldType} {R : Option Value → List mx_C → Prop}
/-- a call of a string's own method -/
theorem C_S {q : UInt32} {v : Value} {hp1 : List mx_C} (i : Nat) (hi : i < 2) (hq : q.toNat = i) (As : List Value) (hz0 : z.cls = RJ0) (hw : mx_cv y.cls idx z bytes maxL rt n) (hd : decode cc pc = .ok (.invokevirtual idx, 3)) (hM : SpF z bytes maxL rt d' (.float q :: As) hp v hp1) (hn : As.length = n) (hcat : (st.map fun v => v.category).sum ≤ 8) (hR : d' < d) (st0 : List Value) (hst0 : st0 = As.reverse ++ .float q :: st)
    (k : Ev E y cc nL ret (mx_km E d mc ms R) bc bs (pc + 3) lv (v :: st) hp1) : Ev E y cc nL ret (mx_km E d mc ms R) bc bs pc lv st0 hp := by
  subst hst0
  intro p l e s m args below meth c H locs cells slots ls X
  obtain ⟨hx, hb, hfx, ⟨hz, hP, hS⟩, hL, hc, hs⟩ := X
  obtain ⟨hml, -, hown, hts, -, -, hst, -⟩ := id hfx
  obtain ⟨⟨w1, w2, w3, w4⟩, w5, w6, w7⟩ := hw
  have hmap : ((As.reverse ++ .float q :: st).map (mx_v E)) = (As.map (mx_v E)).reverse ++ .ref (E.2.2.2 i) :: st.map (mx_v E) := by
    rw [List.map_append, List.map_cons, mx_fl_v E hq, List.map_reverse]
  have hmap2 : (.float q :: As).map (mx_v E) = .ref (E.2.2.2 i) :: As.map (mx_v E) := by rw [List.map_cons, mx_fl_v E hq]
  have hsum : (((st.map (mx_v E)).map fun v => v.category)).sum ≤ 8 := by
    have h : ((st.map (mx_v E)).map fun v => v.category) = st.map fun v => v.category := by rw [List.map_map]; exact List.map_congr_left (fun v _ => mx_cat E v)
    rw [h]
    exact hcat
  have hrecv := vk_recv hst.2.2.2.2.1 hi hS
  have hrecv : ∃ cell : Cell, H[E.2.2.2 i]? = some cell ∧ cell.vm.isStatics = false ∧ s.vm.findClass z.cls = some cell.cls := by rw [hz0]; exact hrecv
  have hpre0 := mx_pre hst hz hP hS (.float q :: As)
  rw [hmap2] at hpre0
  have hpre : PreV s H z.cls (E.2.2.2 i) (va_Pc (.ref (E.2.2.2 i) :: As.map (mx_v E)) (mx_W E hp)) (As.map (mx_v E)) := ⟨mx_blind E _ hp, hrecv, hpre0⟩
  have hroom : (mx_rm d' 0 0).frames + 1 ≤ (mx_km E d mc ms R).1.frames ∧ 8 + (maxL + 11) + (mx_rm d' 0 0).locals ≤ (mx_km E d mc ms R).1.locals := ⟨hR, by show 8 + (maxL + 11) + 64 * d' ≤ 64 * d; omega⟩
  have hMl := hM E l
  rw [hmap2] at hMl
  rw [hmap]
  refine mx_after (R := fun r' hp' => r' = some v ∧ hp' = hp1) (rest := st.map (mx_v E)) (mc := 0) (ms := 0) (a := (Value.ref (E.2.2.2 i) :: As.map (mx_v E)).toArray) ?_ hS (fun r hp' H1 locs1 hr hz1 hP1 hS1 => ?_)
  · rcases w7 with w7 | ⟨host, w7⟩
    · exact va_runV (As := As.map (mx_v E)) (rest := st.map (mx_v E)) (n := n) ⟨hx, hb, hml, hown, hts⟩ hMl ⟨callB_of n hts (mx_good w1) rfl rfl rfl (hts _ w2) (hts _ w7) w3 hroom, hts _ w5, hts _ w6⟩ hpre rfl (by rw [List.length_map]; exact hn) hL.1 rfl (lv_room hsum) hd ⟨by omega, by omega⟩
    · exact va_runVN (As := As.map (mx_v E)) (rest := st.map (mx_v E)) (n := n) ⟨hx, hb, hml, hown, hts⟩ hMl ⟨va_cnB n hts (mx_good w1) rfl rfl rfl (hst.2.1 _ w7) (hts _ w2) w3 hroom, hts _ w5, hts _ w6⟩ hpre rfl (by rw [List.length_map]; exact hn) hL.1 rfl (lv_room hsum) hd ⟨by omega, by omega⟩
  · obtain ⟨rfl, rfl⟩ := hr
    exact k p l e s m args below meth c H1 locs1 (cells + 0) (slots + 0) ls ⟨hx, hb, hfx, ⟨hz1, hP1, hS1⟩, hL, by omega, by omega⟩
end EC2
/-! the strings' own methods -/
theorem sJ_coder {hp : List mx_C} {q : UInt32} (i : Nat) (hi : i < 2) (hq : q.toNat = i) : SpF yJ0_coder_7d493 cJ0_coder_7d493 1 (some .byte) 0 [.float q] hp (.int (jI 0)) hp := by
  refine Sp.of [.float q] (by decide) (by simp) (Nat.le_of_ble_eq_true rfl) rfl (fun E => ?_)
  refine E_getCS rfl dJ0_coder_7d493_0 ?_
  refine J_if_eq 13 dJ0_coder_7d493_3 rfl (by omega) (fun c3 => ?_) (fun c3 => ?_)
  · exfalso; omega
  · refine E_aload_nX 0 dJ0_coder_7d493_6 rfl rfl ?_
    refine E_getC i hi hq rfl dJ0_coder_7d493_7 ?_
    refine E_goto 14 dJ0_coder_7d493_10 rfl ?_
    exact E_zret rfl (by decide) dJ0_coder_7d493_14 ⟨rfl, rfl⟩
theorem sJ_isLatin1 {hp : List mx_C} {q : UInt32} (i : Nat) (hi : i < 2) (hq : q.toNat = i) : SpF yJ0_isLatin1_aae02 cJ0_isLatin1_aae02 1 (some .boolean) 0 [.float q] hp (.int (jI 1)) hp := by
  refine Sp.of [.float q] (by decide) (by simp) (Nat.le_of_ble_eq_true rfl) rfl (fun E => ?_)
  refine E_getCS rfl dJ0_isLatin1_aae02_0 ?_
  refine J_if_eq 17 dJ0_isLatin1_aae02_3 rfl (by omega) (fun c3 => ?_) (fun c3 => ?_)
  · exfalso; omega
  · refine E_aload_nX 0 dJ0_isLatin1_aae02_6 rfl rfl ?_
    refine E_getC i hi hq rfl dJ0_isLatin1_aae02_7 ?_
    refine J_if_ne 17 dJ0_isLatin1_aae02_10 rfl (by omega) (fun c10 => ?_) (fun c10 => ?_)
    · exfalso; omega
    · refine J_iconst dJ0_isLatin1_aae02_13 ?_
      refine E_goto 18 dJ0_isLatin1_aae02_14 rfl ?_
      exact R_z rfl dJ0_isLatin1_aae02_18 (by decide) rfl rfl
theorem sJ_length {hp : List mx_C} {q q2 : UInt32} {n : Int} (i : Nat) (hi : i < 2) (hq : q.toNat = i) (hq2 : q2.toNat = i + 2) (hn : Int32.ofNat (mx_len.getD i 0) = jI n) (hn2 : 0 ≤ n ∧ n < 1000) : SpF yJ0_length_8abf5 cJ0_length_8abf5 1 (some .int) 1 [.float q] hp (.int (jI n)) hp := by
  refine Sp.of [.float q] (by decide) (by simp) (Nat.le_of_ble_eq_true rfl) rfl (fun E => ?_)
  refine E_aload_nX 0 dJ0_length_8abf5_0 rfl rfl ?_
  refine E_getV i hi hq hq2 rfl dJ0_length_8abf5_1 ?_
  refine E_alenS i hi hq2 hn dJ0_length_8abf5_4 ?_
  refine E_aload_nX 0 dJ0_length_8abf5_5 rfl rfl ?_
  refine C_S i hi hq [] rfl vJ0_335 dJ0_length_8abf5_6 (sJ_coder i hi hq) rfl (Nat.le_of_ble_eq_true rfl) (by decide) _ rfl ?_
  refine J_ishr dJ0_length_8abf5_9 (by omega) (by omega) ?_
  exact R_i rfl dJ0_length_8abf5_10 rfl (by show n / 2 ^ (0 : Nat) = n; omega)
set_option maxRecDepth 100000 in
theorem sJ_chk3 {hp : List mx_C} {v : Value} (hv : v = .null ∨ v = .float 7) {j n : Int} (hj : 0 ≤ j ∧ j < n) (hn : n < 1000) : SpF yJ3_checkIndex_8e157 cJ3_checkIndex_8e157 3 (some .int) 0 [.int (jI j), .int (jI n), v] hp (.int (jI j)) hp := by
  rcases hv with rfl | rfl
  all_goals
    refine Sp.of _ (by decide) (by simp) (Nat.le_of_ble_eq_true rfl) rfl (fun E => ?_)
    refine L_i0 dJ3_checkIndex_8e157_0 ?_
    refine J_if_lt 9 dJ3_checkIndex_8e157_1 rfl (by omega) (fun c1 => ?_) (fun c1 => ?_)
    · exfalso; omega
    · refine L_i0 dJ3_checkIndex_8e157_4 ?_
      refine L_i1 dJ3_checkIndex_8e157_5 ?_
      refine J_icmp_lt 16 dJ3_checkIndex_8e157_6 rfl (by omega) (by omega) (fun c6 => ?_) (fun c6 => ?_)
      · refine L_i0 dJ3_checkIndex_8e157_16 ?_
        exact R_i rfl dJ3_checkIndex_8e157_17 rfl rfl
      · exfalso; omega
set_option maxRecDepth 100000 in
theorem sJ_chk {hp : List mx_C} {j n : Int} (hj : 0 ≤ j ∧ j < n) (hn : n < 1000) : SpV yJ0_checkIndex_df160 cJ0_checkIndex_df160 2 none 1 [.int (jI j), .int (jI n)] hp hp := by
  refine Sp.of [.int (jI j), .int (jI n)] (by decide) (by simp) (Nat.le_of_ble_eq_true rfl) rfl (fun E => ?_)
  refine L_i0 dJ0_checkIndex_df160_0 ?_
  refine L_i1 dJ0_checkIndex_df160_1 ?_
  refine E_getSI rfl dJ0_checkIndex_df160_2 ?_ ?_
  · refine C_s3F vJ0_1059 dJ0_checkIndex_df160_5 (sJ_chk3 (Or.inl rfl) hj hn) (Nat.le_of_ble_eq_true rfl) (by decide) ?_
    refine E_pop dJ0_checkIndex_df160_8 rfl ?_
    exact R_v rfl dJ0_checkIndex_df160_9 rfl
  · refine C_s3F vJ0_1059 dJ0_checkIndex_df160_5 (sJ_chk3 (Or.inr rfl) hj hn) (Nat.le_of_ble_eq_true rfl) (by decide) ?_
    refine E_pop dJ0_checkIndex_df160_8 rfl ?_
    exact R_v rfl dJ0_checkIndex_df160_9 rfl
theorem bst_B0 : ∀ j : Fin 111, 0 ≤ bst 0 (j.val : Int) ∧ bst 0 (j.val : Int) < 128 := by decide
theorem bst_B1 : ∀ j : Fin 11, 0 ≤ bst 1 (j.val : Int) ∧ bst 1 (j.val : Int) < 128 := by decide
theorem bst_0 {j : Int} (h : 0 ≤ j ∧ j < 111) : 0 ≤ bst 0 j ∧ bst 0 j < 128 := by
  have := bst_B0 ⟨j.toNat, by omega⟩
  rw [show (((⟨j.toNat, by omega⟩ : Fin 111).val : Nat) : Int) = j from by show ((j.toNat : Nat) : Int) = j; omega] at this
  exact this
theorem bst_1 {j : Int} (h : 0 ≤ j ∧ j < 11) : 0 ≤ bst 1 j ∧ bst 1 j < 128 := by
  have := bst_B1 ⟨j.toNat, by omega⟩
  rw [show (((⟨j.toNat, by omega⟩ : Fin 11).val : Nat) : Int) = j from by show ((j.toNat : Nat) : Int) = j; omega] at this
  exact this
theorem jI_c {a : Int} (h : 0 ≤ a ∧ a < 65536) : ((jI a).toUInt32 % 65536).toInt32 = jI a := by
  have h1 : (jI a).toUInt32.toNat = a.toNat := by
    show (Int32.ofInt a).toBitVec.toNat = _
    rw [Int32.toBitVec_ofInt, BitVec.toNat_ofInt]
    omega
  have h2 : (jI a).toUInt32 % 65536 = (jI a).toUInt32 := by
    apply UInt32.toNat_inj.mp
    rw [UInt32.toNat_mod, h1]
    show a.toNat % 65536 = a.toNat
    omega
  rw [h2]
  rfl
theorem J_i2c {E : mx_E} {y : MethodName} {cc : ByteArray} {nL : Nat} {ret : Option FieldType} {K : mx_Kd} {bc bs pc : Nat} {lv st : List Value} {hp : List mx_C} {a : Int} (hd : decode cc pc = .ok (.i2c, 1)) (ha : 0 ≤ a ∧ a < 65536) (k : Ev E y cc nL ret K bc bs (pc + 1) lv (.int (jI a) :: st) hp) : Ev E y cc nL ret K bc bs pc lv (.int (jI a) :: st) hp := E_i2c hd (by rw [jI_c ha]; exact k)
theorem nar_c {a : Int} (h : 0 ≤ a ∧ a < 65536) : narrow .char (.int (jI a)) = .int (jI a) := by
  have := jI_c h
  show Value.int _ = _
  first | exact congrArg Value.int this | (simp only [narrow]; exact congrArg Value.int this)
theorem sJ_charAt1 {hp : List mx_C} {j : Int} (hj : 0 ≤ j ∧ j < 111) : SpF yJ1_charAt_3b067 cJ1_charAt_3b067 2 (some .char) 2 [.float 2, .int (jI j)] hp (.int (jI (bst 0 j))) hp := by
  have hb := bst_0 hj
  refine Sp.of [.float 2, .int (jI j)] (by decide) (by simp) (Nat.le_of_ble_eq_true rfl) rfl (fun E => ?_)
  refine L_i1 dJ1_charAt_3b067_0 ?_
  refine E_aload_nX 0 dJ1_charAt_3b067_1 rfl rfl ?_
  refine E_alenS 0 (by decide) (by decide) (n := 111) (by decide) dJ1_charAt_3b067_2 ?_
  refine C_s2V vJ1_9 dJ1_charAt_3b067_3 (sJ_chk hj (by omega)) (Nat.le_of_ble_eq_true rfl) (by decide) ?_
  refine E_aload_nX 0 dJ1_charAt_3b067_6 rfl rfl ?_
  refine L_i1 dJ1_charAt_3b067_7 ?_
  refine E_baldS 0 (by decide) (by decide) hj (by decide) dJ1_charAt_3b067_8 ?_
  refine J_sipush dJ1_charAt_3b067_9 (by decide) ?_
  refine J_imask 8 (by decide) (by decide) dJ1_charAt_3b067_12 ?_
  refine J_eqi (b := bst 0 j) (by omega) ?_
  refine J_i2c dJ1_charAt_3b067_13 (by omega) ?_
  exact E_zret rfl (nar_c (by omega)) dJ1_charAt_3b067_14 ⟨rfl, rfl⟩
theorem sJ_charAt {hp : List mx_C} {j : Int} (hj : 0 ≤ j ∧ j < 111) : SpF yJ0_charAt_5068e cJ0_charAt_5068e 2 (some .char) 3 [.float 0, .int (jI j)] hp (.int (jI (bst 0 j))) hp := by
  have hb := bst_0 hj
  refine Sp.of [.float 0, .int (jI j)] (by decide) (by simp) (Nat.le_of_ble_eq_true rfl) rfl (fun E => ?_)
  refine E_aload_nX 0 dJ0_charAt_5068e_0 rfl rfl ?_
  refine C_S 0 (by decide) (by decide) [] rfl vJ0_492 dJ0_charAt_5068e_1 (sJ_isLatin1 0 (by decide) (by decide)) rfl (Nat.le_of_ble_eq_true rfl) (by decide) _ rfl ?_
  refine J_if_eq 16 dJ0_charAt_5068e_4 rfl (by omega) (fun c4 => ?_) (fun c4 => ?_)
  · exfalso; omega
  · refine E_aload_nX 0 dJ0_charAt_5068e_7 rfl rfl ?_
    refine E_getV (q2 := 2) 0 (by decide) (by decide) (by decide) rfl dJ0_charAt_5068e_8 ?_
    refine L_i1 dJ0_charAt_5068e_11 ?_
    refine C_s2F vJ0_495 dJ0_charAt_5068e_12 (sJ_charAt1 hj) (Nat.le_of_ble_eq_true rfl) (by decide) ?_
    exact E_zret rfl (nar_c (by omega)) dJ0_charAt_5068e_15 ⟨rfl, rfl⟩
/-! which sign it is -/
def ixg (c j : Int) : Option Int := if bst 1 j = c then some j else none
def ixs (c : Int) : Int := lpR (ixg c) 11 0 (-1)
theorem jI_i2b {a : Int} (h : 0 ≤ a ∧ a < 256) : (jI a).toInt8.toInt32 = jI (if a < 128 then a else a - 256) := by
  apply Int32.toInt_inj.mp
  have e : (jI a).toInt8.toInt = a.bmod 256 := by
    rw [show (jI a).toInt8 = Int8.ofInt a from by
      apply Int8.toInt_inj.mp
      rw [Int32.toInt_toInt8, jI_toInt (by omega), Int8.toInt_ofInt]]
    exact Int8.toInt_ofInt ..
  rw [Int8.toInt_toInt32, e, jI_toInt (by split <;> omega)]
  unfold Int.bmod
  show (if a % 256 < (256 + 1) / 2 then a % 256 else a % 256 - 256) = _
  split <;> split <;> omega
theorem ixs_R (c : Int) : ∀ (m : Nat) (k : Int), 0 ≤ k → (lpR (ixg c) m k (-1) = -1) ∨ (k ≤ lpR (ixg c) m k (-1) ∧ lpR (ixg c) m k (-1) < k + m) := by
  intro m
  induction m with
  | zero => intro k _; exact Or.inl rfl
  | succ m ih =>
    intro k hk
    by_cases h : bst 1 k = c
    · rw [lpR_so (show ixg c k = some k from if_pos h)]; exact Or.inr (by omega)
    · rw [lpR_no (show ixg c k = none from if_neg h)]
      rcases ih (k + 1) (by omega) with h1 | h1
      · exact Or.inl h1
      · exact Or.inr (by omega)
theorem ixs_B (c : Int) : -1 ≤ ixs c ∧ ixs c ≤ 10 := by
  rcases ixs_R c 11 0 (by omega) with h | h
  · unfold ixs; omega
  · unfold ixs; omega
set_option maxRecDepth 100000 in
theorem lJ_indexOfChar {E : mx_E} {hp : List mx_C} {ch r : Int} (hc : 0 ≤ ch ∧ ch < 256) {u2 : Value} : ∀ (m : Nat) (k : Int), k + m = 11 → 0 ≤ k → lpR (ixg ch) m k (-1) = r → Ev E yJ1_indexOfChar_4cfef cJ1_indexOfChar_4cfef 6 (some .int) (kf E 0 (.int (jI r)) hp) 0 0 7 [.float 3, .int (jI ch), u2, .int (jI 11), .int (jI (if ch < 128 then ch else ch - 256)), .int (jI k)] [] hp := by
  intro m
  induction m with
  | zero =>
    intro k hkm hk hr
    refine L_i5 dJ1_indexOfChar_4cfef_7 ?_
    refine L_i3 dJ1_indexOfChar_4cfef_9 ?_
    refine J_icmp_ge 31 dJ1_indexOfChar_4cfef_10 rfl (by omega) (by omega) (fun c10 => ?_) (fun c10 => ?_)
    · refine J_iconst dJ1_indexOfChar_4cfef_31 ?_
      exact R_i rfl dJ1_indexOfChar_4cfef_32 rfl hr
    · exfalso; omega
  | succ m ih =>
    intro k hkm hk hr
    have hb := bst_1 (j := k) (by omega)
    refine L_i5 dJ1_indexOfChar_4cfef_7 ?_
    refine L_i3 dJ1_indexOfChar_4cfef_9 ?_
    refine J_icmp_ge 31 dJ1_indexOfChar_4cfef_10 rfl (by omega) (by omega) (fun c10 => ?_) (fun c10 => ?_)
    · exfalso; omega
    · refine E_aload_nX 0 dJ1_indexOfChar_4cfef_13 rfl rfl ?_
      refine L_i5 dJ1_indexOfChar_4cfef_14 ?_
      refine E_baldS 1 (by decide) (by decide) (j := k) ⟨hk, by show k < 11; omega⟩ (by decide) dJ1_indexOfChar_4cfef_16 ?_
      refine L_i4 dJ1_indexOfChar_4cfef_17 ?_
      refine J_icmp_ne 25 dJ1_indexOfChar_4cfef_19 rfl (by omega) (by split <;> omega) (fun c19 => ?_) (fun c19 => ?_)
      · refine JI_5 dJ1_indexOfChar_4cfef_25 (by decide) rfl ?_
        refine E_goto 7 dJ1_indexOfChar_4cfef_28 rfl ?_
        rw [lpR_no (show ixg ch k = none from if_neg (fun h => c19 (by rw [if_pos (by omega)]; exact h)))] at hr
        exact ih (k + 1) (by omega) (by omega) hr
      · refine L_i5 dJ1_indexOfChar_4cfef_22 ?_
        rw [lpR_so (show ixg ch k = some k from if_pos (by split at c19 <;> omega))] at hr
        exact R_i rfl dJ1_indexOfChar_4cfef_24 rfl hr
set_option maxRecDepth 100000 in
theorem sJ_indexOfChar {hp : List mx_C} {ch : Int} (hc : 0 ≤ ch ∧ ch < 256) : SpF yJ1_indexOfChar_4cfef cJ1_indexOfChar_4cfef 6 (some .int) 0 [.float 3, .int (jI ch), .int (jI 0), .int (jI 11)] hp (.int (jI (ixs ch))) hp := by
  refine Sp.of [.float 3, .int (jI ch), .int (jI 0), .int (jI 11), .retAddr 0, .retAddr 0] (by decide) (by simp) (Nat.le_of_ble_eq_true rfl) rfl (fun E => ?_)
  refine L_i1 dJ1_indexOfChar_4cfef_0 ?_
  refine E_i2b dJ1_indexOfChar_4cfef_1 ?_
  rw [jI_i2b hc]
  refine S_i4 dJ1_indexOfChar_4cfef_2 (by decide) rfl ?_
  refine L_i2 dJ1_indexOfChar_4cfef_4 ?_
  refine S_i5 dJ1_indexOfChar_4cfef_5 (by decide) rfl ?_
  exact lJ_indexOfChar hc 11 0 (by omega) (by omega) rfl
theorem sJ_canEncode {hp : List mx_C} {ch : Int} (hc : 0 ≤ ch ∧ ch < 256) : SpF yJ1_canEncode_9a6ad cJ1_canEncode_9a6ad 1 (some .boolean) 0 [.int (jI ch)] hp (.int (jI 1)) hp := by
  refine Sp.of [.int (jI ch)] (by decide) (by simp) (Nat.le_of_ble_eq_true rfl) rfl (fun E => ?_)
  refine L_i0 dJ1_canEncode_9a6ad_0 ?_
  refine J_if_lt 15 dJ1_canEncode_9a6ad_1 rfl (by omega) (fun c1 => ?_) (fun c1 => ?_)
  · exfalso; omega
  · refine L_i0 dJ1_canEncode_9a6ad_4 ?_
    refine J_sipush dJ1_canEncode_9a6ad_5 (by decide) ?_
    refine J_icmp_gt 15 dJ1_canEncode_9a6ad_8 rfl (by omega) (by omega) (fun c8 => ?_) (fun c8 => ?_)
    · exfalso; omega
    · refine J_iconst dJ1_canEncode_9a6ad_11 ?_
      refine E_goto 16 dJ1_canEncode_9a6ad_12 rfl ?_
      exact R_z rfl dJ1_canEncode_9a6ad_16 (by decide) rfl rfl
set_option maxRecDepth 100000 in
theorem sJ_indexOf4 {hp : List mx_C} {ch : Int} (hc : 0 ≤ ch ∧ ch < 256) : SpF yJ1_indexOf_4cfef cJ1_indexOf_4cfef 4 (some .int) 1 [.float 3, .int (jI ch), .int (jI 0), .int (jI 11)] hp (.int (jI (ixs ch))) hp := by
  refine Sp.of [.float 3, .int (jI ch), .int (jI 0), .int (jI 11)] (by decide) (by simp) (Nat.le_of_ble_eq_true rfl) rfl (fun E => ?_)
  refine L_i1 dJ1_indexOf_4cfef_0 ?_
  refine C_s1F vJ1_88 dJ1_indexOf_4cfef_1 (sJ_canEncode hc) (Nat.le_of_ble_eq_true rfl) (by decide) ?_
  refine J_if_ne 9 dJ1_indexOf_4cfef_4 rfl (by omega) (fun c4 => ?_) (fun c4 => ?_)
  · refine L_i2 dJ1_indexOf_4cfef_9 ?_
    refine J_iconst dJ1_indexOf_4cfef_10 ?_
    refine J_mmax vJ1_92 mJ1_92 dJ1_indexOf_4cfef_11 (by omega) (by omega) (Nat.le_of_ble_eq_true rfl) ⟨Nat.le_of_ble_eq_true rfl, Nat.le_of_ble_eq_true rfl⟩ ?_
    refine J_eqi (b := 0) (by decide) ?_
    refine S_i2 dJ1_indexOf_4cfef_14 (by decide) rfl ?_
    refine L_i3 dJ1_indexOf_4cfef_15 ?_
    refine E_aload_nX 0 dJ1_indexOf_4cfef_16 rfl rfl ?_
    refine E_alenS 1 (by decide) (by decide) (n := 11) (by decide) dJ1_indexOf_4cfef_17 ?_
    refine J_mmin vJ1_38 mJ1_38 dJ1_indexOf_4cfef_18 (by omega) (by omega) (Nat.le_of_ble_eq_true rfl) ⟨Nat.le_of_ble_eq_true rfl, Nat.le_of_ble_eq_true rfl⟩ ?_
    refine J_eqi (b := 11) (by decide) ?_
    refine S_i3 dJ1_indexOf_4cfef_21 (by decide) rfl ?_
    refine L_i2 dJ1_indexOf_4cfef_22 ?_
    refine L_i3 dJ1_indexOf_4cfef_23 ?_
    refine J_icmp_lt 29 dJ1_indexOf_4cfef_24 rfl (by omega) (by omega) (fun c24 => ?_) (fun c24 => ?_)
    · refine E_aload_nX 0 dJ1_indexOf_4cfef_29 rfl rfl ?_
      refine L_i1 dJ1_indexOf_4cfef_30 ?_
      refine L_i2 dJ1_indexOf_4cfef_31 ?_
      refine L_i3 dJ1_indexOf_4cfef_32 ?_
      refine C_s4F vJ1_95 dJ1_indexOf_4cfef_33 (sJ_indexOfChar hc) (Nat.le_of_ble_eq_true rfl) (by decide) ?_
      exact R_i rfl dJ1_indexOf_4cfef_36 rfl rfl
    · exfalso; omega
  · exfalso; omega
set_option maxRecDepth 100000 in
theorem sJ_indexOf2 {hp : List mx_C} {ch : Int} (hc : 0 ≤ ch ∧ ch < 256) : SpF yJ0_indexOf_7cf53 cJ0_indexOf_7cf53 3 (some .int) 2 [.float 1, .int (jI ch), .int (jI 0)] hp (.int (jI (ixs ch))) hp := by
  refine Sp.of [.float 1, .int (jI ch), .int (jI 0)] (by decide) (by simp) (Nat.le_of_ble_eq_true rfl) rfl (fun E => ?_)
  refine E_aload_nX 0 dJ0_indexOf_7cf53_0 rfl rfl ?_
  refine C_S 1 (by decide) (by decide) [] rfl vJ0_492 dJ0_indexOf_7cf53_1 (sJ_isLatin1 1 (by decide) (by decide)) rfl (Nat.le_of_ble_eq_true rfl) (by decide) _ rfl ?_
  refine J_if_eq 23 dJ0_indexOf_7cf53_4 rfl (by omega) (fun c4 => ?_) (fun c4 => ?_)
  · exfalso; omega
  · refine E_aload_nX 0 dJ0_indexOf_7cf53_7 rfl rfl ?_
    refine E_getV (q2 := 3) 1 (by decide) (by decide) (by decide) rfl dJ0_indexOf_7cf53_8 ?_
    refine L_i1 dJ0_indexOf_7cf53_11 ?_
    refine L_i2 dJ0_indexOf_7cf53_12 ?_
    refine E_aload_nX 0 dJ0_indexOf_7cf53_13 rfl rfl ?_
    refine C_S 1 (by decide) (by decide) [] rfl vJ0_505 dJ0_indexOf_7cf53_14 (sJ_length (q2 := 3) (n := 11) 1 (by decide) (by decide) (by decide) (by decide) (by decide)) rfl (Nat.le_of_ble_eq_true rfl) (by decide) _ rfl ?_
    refine C_s4F vJ0_637 dJ0_indexOf_7cf53_17 (sJ_indexOf4 hc) (Nat.le_of_ble_eq_true rfl) (by decide) ?_
    refine E_goto 36 dJ0_indexOf_7cf53_20 rfl ?_
    exact R_i rfl dJ0_indexOf_7cf53_36 rfl rfl
theorem sJ_indexOf {hp : List mx_C} {ch : Int} (hc : 0 ≤ ch ∧ ch < 256) : SpF yJ0_indexOf_0f7a4 cJ0_indexOf_0f7a4 2 (some .int) 3 [.float 1, .int (jI ch)] hp (.int (jI (ixs ch))) hp := by
  refine Sp.of [.float 1, .int (jI ch)] (by decide) (by simp) (Nat.le_of_ble_eq_true rfl) rfl (fun E => ?_)
  refine E_aload_nX 0 dJ0_indexOf_0f7a4_0 rfl rfl ?_
  refine L_i1 dJ0_indexOf_0f7a4_1 ?_
  refine J_iconst dJ0_indexOf_0f7a4_2 ?_
  refine C_S 1 (by decide) (by decide) [.int (jI ch), .int (jI 0)] rfl vJ0_633 dJ0_indexOf_0f7a4_3 (sJ_indexOf2 hc) rfl (Nat.le_of_ble_eq_true rfl) (by decide) _ rfl ?_
  exact R_i rfl dJ0_indexOf_0f7a4_6 rfl rfl
theorem sJ_words {hp : List mx_C} : SpF yJ0_length_8abf5 cJ0_length_8abf5 1 (some .int) 1 [.float 0] hp (.int (jI 111)) hp := sJ_length (q2 := 2) 0 (by decide) (by decide) (by decide) (by decide) (by decide)
