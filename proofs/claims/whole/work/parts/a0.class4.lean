/-! ===== the class: the tape ===== -/
/-- a byte as it is kept -/
def sb (z : Int) : Int := z.bmod 256
theorem sb_B (z : Int) : -128 ≤ sb z ∧ sb z < 128 := by
  have h1 := Int.le_bmod (x := z) (m := 256) (by decide)
  have h2 := Int.bmod_lt (x := z) (m := 256) (by decide)
  unfold sb
  omega
theorem sb_m (z : Int) : sb z % 256 = z % 256 := by
  unfold sb
  exact Int.bmod_emod
theorem sb_nar {x : Int} (h : -128 ≤ x ∧ x < 128) : vp_nar .byte (jI x) = jI x := by
  show (jI x).toInt8.toInt32 = jI x
  apply Int32.toInt_inj.mp
  rw [Int8.toInt_toInt32, Int32.toInt_toInt8, jI_toInt (by omega)]
  exact Int.bmod_eq_of_le (by omega) (by omega)
theorem ush_b {a : Int} {y : UInt32} (k : Nat) (hk : k ≤ 24) (hy : (y.toBitVec % 32).toNat = k) (h4 : k = 0 ∨ k = 8 ∨ k = 16 ∨ k = 24) : ((jI a).toUInt32 >>> y).toInt32.toInt8.toInt32 = jI (sb (a / 2 ^ k)) := by
  have e8 : ((jI a).toUInt32 >>> y).toInt32.toInt8 = Int8.ofInt (a / 2 ^ k) := by
    apply Int8.toBitVec.inj
    apply BitVec.eq_of_toNat_eq
    have l1 : ((jI a).toUInt32 >>> y).toInt32.toInt8.toBitVec = ((jI a).toUInt32 >>> y).toBitVec.setWidth 8 := by
      show BitVec.signExtend 8 ((jI a).toUInt32 >>> y).toBitVec = _
      exact BitVec.signExtend_eq_setWidth_of_le _ (by decide)
    have l2 : (Int8.ofInt (a / 2 ^ k)).toBitVec = BitVec.ofInt 8 (a / 2 ^ k) := rfl
    rw [l1, l2, BitVec.toNat_setWidth, BitVec.toNat_ofInt, UInt32.toBitVec_shiftRight, BitVec.ushiftRight_eq', BitVec.toNat_ushiftRight, hy]
    have l3 : (jI a).toUInt32.toBitVec.toNat = (a % 4294967296).toNat := jI_toNat a
    rw [l3, Nat.shiftRight_eq_div_pow]
    rcases h4 with rfl | rfl | rfl | rfl
    · show (a % 4294967296).toNat / 1 % 256 = (a / 1 % 256).toNat; omega
    · show (a % 4294967296).toNat / 256 % 256 = (a / 256 % 256).toNat; omega
    · show (a % 4294967296).toNat / 65536 % 256 = (a / 65536 % 256).toNat; omega
    · show (a % 4294967296).toNat / 16777216 % 256 = (a / 16777216 % 256).toNat; omega
  rw [e8]
  apply Int32.toInt_inj.mp
  have hb := sb_B (a / 2 ^ k)
  rw [Int8.toInt_toInt32, jI_toInt (by omega), Int8.toInt_ofInt]
  rfl
theorem J_ushb {E : mx_E} {y : MethodName} {cc : ByteArray} {nL : Nat} {ret : Option FieldType} {K : mx_Kd} {bc bs pc : Nat} {lv st : List Value} {hp : List mx_C} {a b : Int} (k : Nat) (hd1 : decode cc pc = .ok (.iushr, 1)) (hd2 : decode cc (pc + 1) = .ok (.i2b, 1)) (hb : b = (k : Int)) (h4 : k = 0 ∨ k = 8 ∨ k = 16 ∨ k = 24) (kk : Ev E y cc nL ret K bc bs (pc + 1 + 1) lv (.int (jI (sb (a / 2 ^ k))) :: st) hp) : Ev E y cc nL ret K bc bs pc lv (.int (jI b) :: .int (jI a) :: st) hp := by
  subst hb
  refine E_iushr hd1 (E_i2b hd2 ?_)
  have hy : ((((jI (k : Int)).toUInt32 &&& Int32.toUInt32 31).toBitVec % 32).toNat = k) := by
    rcases h4 with rfl | rfl | rfl | rfl <;> decide
  rw [ush_b k (by omega) hy h4]
  exact kk
def pt1 (S : Nat → Int → Int) (x : Int) : Nat → Int → Int := upS (upS S 2 (up (S 2) (S 1 1) x)) 1 (up (S 1) 1 (S 1 1 + 1))
def ptN (v : Int) : Nat → (Nat → Int → Int) → Nat → Int → Int
  | 0, S => S
  | m + 1, S => ptN v m (pt1 S (sb (v / 2 ^ (8 * m))))
theorem pt1_1 (S : Nat → Int → Int) (x : Int) : pt1 S x 1 1 = S 1 1 + 1 := by unfold pt1; rw [upS_s, up_s]
theorem ptN_1 (v : Int) : ∀ (m : Nat) (S : Nat → Int → Int), ptN v m S 1 1 = S 1 1 + m := by
  intro m
  induction m with
  | zero => intro S; show S 1 1 = S 1 1 + 0; omega
  | succ m ih => intro S; rw [ptN, ih, pt1_1]; omega
set_option maxRecDepth 100000 in
theorem qX9_hasRoom {S T : Nat → Int → Int} {D : List mx_C} (h0 : 0 ≤ S 1 1 ∧ S 1 1 ≤ 300) : SpF yX9_hasRoom cX9_hasRoom 2 (some .boolean) 0 [.ref 1, .int (jI 20)] (W5 S T D) (.int (jI (jb (S 1 1 + 20 ≤ 300)))) (W5 S T D) := by
  refine Sp.of [.ref 1, .int (jI 20)] (by decide) (by simp) (Nat.le_of_ble_eq_true rfl) rfl (fun E => ?_)
  refine L_a0 dX9_hasRoom_0 ?_
  refine GW_1_1 fX9_15 dX9_hasRoom_1 ?_
  refine L_i1 dX9_hasRoom_4 ?_
  refine J_iadd dX9_hasRoom_5 ?_
  refine J_sipush dX9_hasRoom_6 (by decide) ?_
  refine J_icmp_gt 16 dX9_hasRoom_9 rfl (by omega) (by omega) (fun c9 => ?_) (fun c9 => ?_)
  · refine J_iconst dX9_hasRoom_16 ?_
    exact R_z rfl dX9_hasRoom_17 (by decide) rfl (by first | exact (jb_t (by omega)).symm | exact (jb_f (by omega)).symm)
  · refine J_iconst dX9_hasRoom_12 ?_
    refine E_goto 17 dX9_hasRoom_13 rfl ?_
    exact R_z rfl dX9_hasRoom_17 (by decide) rfl (by first | exact (jb_t (by omega)).symm | exact (jb_f (by omega)).symm)

set_option maxRecDepth 100000 in
theorem qX9_byteAt {S T : Nat → Int → Int} {D : List mx_C} (h0 : 0 ≤ S 1 1 ∧ S 1 1 ≤ 300) {k : Int} (h_k : -2147483648 ≤ k ∧ k < 2147483648) : SpF yX9_byteAt cX9_byteAt 2 (some .int) 0 [.ref 1, .int (jI k)] (W5 S T D) (.int (jI (if 0 ≤ k ∧ k < S 1 1 then S 2 k % 256 else 0))) (W5 S T D) := by
  refine Sp.of [.ref 1, .int (jI k)] (by decide) (by simp) (Nat.le_of_ble_eq_true rfl) rfl (fun E => ?_)
  refine L_i1 dX9_byteAt_0 ?_
  refine J_if_lt 25 dX9_byteAt_1 rfl (by omega) (fun c1 => ?_) (fun c1 => ?_)
  · refine J_iconst dX9_byteAt_25 ?_
    exact R_i rfl dX9_byteAt_26 rfl (by first | rw [if_pos (by omega)] | rw [if_neg (by omega)])
  · refine L_i1 dX9_byteAt_4 ?_
    refine L_a0 dX9_byteAt_5 ?_
    refine GW_1_1 fX9_15 dX9_byteAt_6 ?_
    refine J_icmp_ge 25 dX9_byteAt_9 rfl (by omega) (by omega) (fun c9 => ?_) (fun c9 => ?_)
    · refine J_iconst dX9_byteAt_25 ?_
      exact R_i rfl dX9_byteAt_26 rfl (by first | rw [if_pos (by omega)] | rw [if_neg (by omega)])
    · refine L_a0 dX9_byteAt_12 ?_
      refine GW_1_0 fX9_9 dX9_byteAt_13 ?_
      refine L_i1 dX9_byteAt_16 ?_
      refine AR_2 dX9_byteAt_17 (by omega) ?_
      refine J_sipush dX9_byteAt_18 (by decide) ?_
      refine J_imask 8 (by decide) (by decide) dX9_byteAt_21 ?_
      refine J_eqi (b := S 2 k % 256) rfl ?_
      refine E_goto 26 dX9_byteAt_22 rfl ?_
      exact R_i rfl dX9_byteAt_26 rfl (by first | rw [if_pos (by omega)] | rw [if_neg (by omega)])

theorem lX9_put {E : mx_E} {S T : Nat → Int → Int} {D : List mx_C} {v : Int} (h_v : -2147483648 ≤ v ∧ v < 2147483648) {R : Nat → Int → Int} : ∀ (m : Nat) (S1 : Nat → Int → Int), m ≤ 4 → 0 ≤ S1 1 1 → S1 1 1 + m ≤ 300 → ptN v m S1 = R → Ev E yX9_put cX9_put 3 none (kv E 0 (W5 R T D)) 0 0 3 [.ref 1, .int (jI v), .int (jI (8 * (m : Int) - 8))] [] (W5 S1 T D) := by
  intro m
  induction m with
  | zero =>
    intro S1 hm h0 h1 hr
    refine L_i2 dX9_put_3 ?_
    refine J_if_lt 46 dX9_put_4 rfl (by omega) (fun c4 => ?_) (fun c4 => ?_)
    · exact R_v rfl dX9_put_46 (by rw [show S1 = R from hr])
    · exfalso; exact absurd c4 (by decide)
  | succ m ih =>
    intro S1 hm h0 h1 hr
    refine E_eq rfl (show _ = [.ref 1, .int (jI v), .int (jI (8 * (m : Int)))] from by rw [show 8 * ((m + 1 : Nat) : Int) - 8 = 8 * (m : Int) by omega]) rfl rfl ?_
    have hsb := sb_B (v / 2 ^ (8 * m))
    refine L_i2 dX9_put_3 ?_
    refine J_if_lt 46 dX9_put_4 rfl (by omega) (fun c4 => ?_) (fun c4 => ?_)
    · exfalso; omega
    · refine L_a0 dX9_put_7 ?_
      refine GW_1_1 fX9_15 dX9_put_8 ?_
      refine J_sipush dX9_put_11 (by decide) ?_
      refine J_icmp_ge 46 dX9_put_14 rfl (by omega) (by omega) (fun c14 => ?_) (fun c14 => ?_)
      · exfalso; omega
      · refine L_a0 dX9_put_17 ?_
        refine GW_1_0 fX9_9 dX9_put_18 ?_
        refine L_a0 dX9_put_21 ?_
        refine GW_1_1 fX9_15 dX9_put_22 ?_
        refine L_i1 dX9_put_25 ?_
        refine L_i2 dX9_put_26 ?_
        refine J_ushb (8 * m) dX9_put_27 dX9_put_28 (by omega) (by omega) ?_
        refine AS_2 dX9_put_29 (by omega) (sb_nar hsb) ?_
        refine L_a0 dX9_put_30 ?_
        refine E_dup dX9_put_31 rfl ?_
        refine GW_1_1 fX9_15 dX9_put_32 ?_
        refine J_eqi (b := S1 1 1) (congrFun (upS_n (by decide)) 1) ?_
        refine J_iconst dX9_put_35 ?_
        refine J_iadd dX9_put_36 ?_
        refine PW_1_1 fX9_15 dX9_put_37 ?_
        refine JI_2 dX9_put_40 (by decide) rfl ?_
        refine E_goto 3 dX9_put_43 rfl ?_
        refine E_eq rfl (show _ = [.ref 1, .int (jI v), .int (jI (8 * (m : Int) - 8))] from by rw [show 8 * (m : Int) + -8 = 8 * (m : Int) - 8 by omega]) rfl (show _ = W5 (pt1 S1 (sb (v / 2 ^ (8 * m)))) T D from by unfold pt1; rw [upS_n (by decide)]) ?_
        exact ih _ (by omega) (by rw [pt1_1]; omega) (by rw [pt1_1]; omega) (by rw [ptN] at hr; exact hr)
set_option maxRecDepth 100000 in
theorem qX9_put {S T : Nat → Int → Int} {D : List mx_C} {v : Int} (h_v : -2147483648 ≤ v ∧ v < 2147483648) (h0 : 0 ≤ S 1 1 ∧ S 1 1 ≤ 296) : SpV yX9_put cX9_put 3 none 0 [.ref 1, .int (jI v)] (W5 S T D) (W5 (ptN v 4 S) T D) := by
  refine Sp.of [.ref 1, .int (jI v), .retAddr 0] (by decide) (by simp) (Nat.le_of_ble_eq_true rfl) rfl (fun E => ?_)
  refine J_bipush dX9_put_0 (by decide) ?_
  refine S_i2 dX9_put_2 (by decide) rfl ?_
  exact lX9_put (S := S) h_v 4 S (by omega) (by omega) (by omega) rfl

def cl_feed (S : Nat → Int → Int) (a b c d e : Int) : Nat → Int → Int := ptN e 4 (ptN d 4 (ptN c 4 (ptN b 4 (ptN a 4 S))))
theorem cl_feed_1 (S : Nat → Int → Int) (a b c d e : Int) : cl_feed S a b c d e 1 1 = S 1 1 + 20 := by
  unfold cl_feed
  rw [ptN_1, ptN_1, ptN_1, ptN_1, ptN_1]
  omega
set_option maxRecDepth 100000 in
theorem qX10_feedN {S T : Nat → Int → Int} {D : List mx_C} {a b c d e : Int} (h0 : 0 ≤ S 1 1 ∧ S 1 1 ≤ 300) (h1 : 280 < S 1 1) : SpF yX10_feed cX10_feed 6 (some .int) 1 [.ref 0, .int (jI a), .int (jI b), .int (jI c), .int (jI d), .int (jI e)] (W5 S T D) (.int (jI (-1))) (W5 S T D) := by
  refine Sp.of [.ref 0, .int (jI a), .int (jI b), .int (jI c), .int (jI d), .int (jI e)] (by decide) (by simp) (Nat.le_of_ble_eq_true rfl) rfl (fun E => ?_)
  refine L_a0 dX10_feed_0 ?_
  refine GW_0_0 fX10_10 dX10_feed_1 ?_
  refine J_bipush dX10_feed_4 (by decide) ?_
  refine C_v1F vX10_78 dX10_feed_6 (qX9_hasRoom h0) rfl rfl (Nat.le_of_ble_eq_true rfl) (by decide) ?_
  refine J_ifneB 14 dX10_feed_9 rfl (fun c9 => ?_) (fun c9 => ?_)
  · exfalso; omega
  · refine J_iconst dX10_feed_12 ?_
    exact R_i rfl dX10_feed_13 rfl (by simp_all)

set_option maxRecDepth 100000 in
theorem qX10_feed {S T : Nat → Int → Int} {D : List mx_C} {a : Int} (h_a : -2147483648 ≤ a ∧ a < 2147483648) {b : Int} (h_b : -2147483648 ≤ b ∧ b < 2147483648) {c : Int} (h_c : -2147483648 ≤ c ∧ c < 2147483648) {d : Int} (h_d : -2147483648 ≤ d ∧ d < 2147483648) {e : Int} (h_e : -2147483648 ≤ e ∧ e < 2147483648) (h0 : 0 ≤ S 1 1 ∧ S 1 1 ≤ 280) : SpF yX10_feed cX10_feed 6 (some .int) 1 [.ref 0, .int (jI a), .int (jI b), .int (jI c), .int (jI d), .int (jI e)] (W5 S T D) (.int (jI (S 1 1 + 20))) (W5 (cl_feed S a b c d e) T D) := by
  refine Sp.of [.ref 0, .int (jI a), .int (jI b), .int (jI c), .int (jI d), .int (jI e)] (by decide) (by simp) (Nat.le_of_ble_eq_true rfl) rfl (fun E => ?_)
  refine L_a0 dX10_feed_0 ?_
  refine GW_0_0 fX10_10 dX10_feed_1 ?_
  refine J_bipush dX10_feed_4 (by decide) ?_
  refine C_v1F vX10_78 dX10_feed_6 (qX9_hasRoom (by omega)) rfl rfl (Nat.le_of_ble_eq_true rfl) (by decide) ?_
  refine J_ifneB 14 dX10_feed_9 rfl (fun c9 => ?_) (fun c9 => ?_)
  · refine L_a0 dX10_feed_14 ?_
    refine GW_0_0 fX10_10 dX10_feed_15 ?_
    refine L_i1 dX10_feed_18 ?_
    refine C_v1V vX10_82 dX10_feed_19 (qX9_put (by omega) (by omega)) rfl rfl (Nat.le_of_ble_eq_true rfl) (by decide) ?_
    refine L_a0 dX10_feed_22 ?_
    refine GW_0_0 fX10_10 dX10_feed_23 ?_
    refine L_i2 dX10_feed_26 ?_
    refine C_v1V vX10_82 dX10_feed_27 (qX9_put (by omega) (by rw [ptN_1]; omega)) rfl rfl (Nat.le_of_ble_eq_true rfl) (by decide) ?_
    refine L_a0 dX10_feed_30 ?_
    refine GW_0_0 fX10_10 dX10_feed_31 ?_
    refine L_i3 dX10_feed_34 ?_
    refine C_v1V vX10_82 dX10_feed_35 (qX9_put (by omega) (by rw [ptN_1, ptN_1]; omega)) rfl rfl (Nat.le_of_ble_eq_true rfl) (by decide) ?_
    refine L_a0 dX10_feed_38 ?_
    refine GW_0_0 fX10_10 dX10_feed_39 ?_
    refine L_i4 dX10_feed_42 ?_
    refine C_v1V vX10_82 dX10_feed_44 (qX9_put (by omega) (by rw [ptN_1, ptN_1, ptN_1]; omega)) rfl rfl (Nat.le_of_ble_eq_true rfl) (by decide) ?_
    refine L_a0 dX10_feed_47 ?_
    refine GW_0_0 fX10_10 dX10_feed_48 ?_
    refine L_i5 dX10_feed_51 ?_
    refine C_v1V vX10_82 dX10_feed_53 (qX9_put (by omega) (by rw [ptN_1, ptN_1, ptN_1, ptN_1]; omega)) rfl rfl (Nat.le_of_ble_eq_true rfl) (by decide) ?_
    refine L_a0 dX10_feed_56 ?_
    refine GW_0_0 fX10_10 dX10_feed_57 ?_
    refine GW_1_1 fX10_86 dX10_feed_60 ?_
    exact R_i rfl dX10_feed_63 rfl (by exact cl_feed_1 S a b c d e)
  · exfalso; omega

