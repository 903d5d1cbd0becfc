/-! ===== the class: the reader's sums ===== -/
def RDC (y : MethodName) (cc : ByteArray) (nL d : Nat) (o : Int) (B : Nat → Int) (n : Nat) (s0 : Int) (G : RR → RR) : Prop := ∀ (S0 S T : Nat → Int → Int) (D : List mx_C) (e : Int) (r : RR), 1 ≤ e → S0 3 7 = s0 → RS3 B n S0 S e r → SpU y cc nL none d [.ref 3, .int (jI o)] (W5 S T D) (RQ3 B n S0 T D e (G r))
theorem tLp_no {B : Nat → Int} {P : Int → Bool} {F : RR → RR} {m : Nat} {r : RR} (h : ¬ (r.1 = 0 ∧ P (kd B r.2.1) = true)) : tLp B P F m r = r := by
  cases m with
  | zero => rfl
  | succ m => exact if_neg h
theorem tLp_ye {B : Nat → Int} {P : Int → Bool} {F : RR → RR} {m : Nat} {r : RR} (h : r.1 = 0 ∧ P (kd B r.2.1) = true) : tLp B P F (m + 1) r = tLp B P F m (GE (kd B r.2.1) (F (0, lxe B r.2.1, r.2.2))) := if_pos h
set_option maxRecDepth 100000 in
theorem lX3_readProduct {E : mx_E} {d : Nat} {o : Int} {B : Nat → Int} {n : Nat} {s0 : Int} {F : RR → RR} (hF : RDC yX3_readOne cX3_readOne 3 d o B n s0 F) {S0 T : Nat → Int → Int} {D : List mx_C} {e : Int} (he : 1 ≤ e) (h7 : S0 3 7 = s0) {rr : RR} : ∀ (m : Nat) (r : RR) (S : Nat → Int → Int) (i : Int) (u3 : Value), u3.category = 1 → i + m = 300 → 0 ≤ i → RS3 B n S0 S e r → tLp B pTi F m r = rr → Ev E yX3_readProduct cX3_readProduct 4 none (kU E (d + 1) (RQ3 B n S0 T D e rr)) 0 0 7 [.ref 3, .int (jI o), .int (jI i), u3] [] (W5 S T D) := by
  intro m
  induction m with
  | zero =>
    intro r S i u3 hu him hi0 h hr
    have hr : r = rr := hr
    subst hr
    refine L_i2 dX3_readProduct_7 ?_
    refine J_sipush dX3_readProduct_8 (by decide) ?_
    refine J_icmp_ge 65 dX3_readProduct_11 rfl (by omega) (by omega) (fun c11 => ?_) (fun c11 => ?_)
    · exact RQ_v rfl dX3_readProduct_65 ⟨S, rfl, h⟩
    · exfalso; omega
  | succ m ih =>
    intro r S i u3 hu him hi0 h hr
    obtain ⟨i1, hi, hw, hc, hd⟩ := h.2.2.2.2.2.2
    have hs := h.2.2.1
    have hf := h.2.2.2.2.1
    have hb := h.2.2.2.1
    have hkB := kd_B B r.2.1
    refine L_i2 dX3_readProduct_7 ?_
    refine J_sipush dX3_readProduct_8 (by decide) ?_
    refine J_icmp_ge 65 dX3_readProduct_11 rfl (by omega) (by omega) (fun c11 => ?_) (fun c11 => ?_)
    · exfalso; omega
    · refine L_a0 dX3_readProduct_14 ?_
      refine GW_3_10 fX3_48 dX3_readProduct_15 ?_
      refine J_eqi (b := r.1) hf ?_
      refine J_if_ne 65 dX3_readProduct_18 rfl (by omega) (fun c18 => ?_) (fun c18 => ?_)
      · exact RQ_v rfl dX3_readProduct_65 (by first | exact ⟨S, rfl, by rw [tLp_no (fun hh => by have := hh.1; omega)] at hr; subst hr; exact h⟩ | exact ⟨S, rfl, by rw [tLp_no (fun hh => by have := of_decide_eq_true hh.2; omega)] at hr; subst hr; exact h⟩)
      · refine L_a0 dX3_readProduct_21 ?_
        refine GW_3_0 fX3_12 dX3_readProduct_22 ?_
        refine C_v0F vX3_58 dX3_readProduct_25 (qX6_kind hs hi hw) rfl rfl (Nat.le_of_ble_eq_true rfl) (by omega) ?_
        refine J_eqi (b := kd B r.2.1) (by rw [hc]) ?_
        refine S_i3 dX3_readProduct_28 (by decide) rfl ?_
        refine L_i3 dX3_readProduct_29 ?_
        refine J_bipush dX3_readProduct_30 (by decide) ?_
        refine J_icmp_eq 42 dX3_readProduct_32 rfl (by omega) (by omega) (fun c32 => ?_) (fun c32 => ?_)
        · refine L_a0 dX3_readProduct_42 ?_
          refine GW_3_0 fX3_12 dX3_readProduct_43 ?_
          refine C_v0V vX3_83 dX3_readProduct_46 (qX6_advance hs hi hw (by rw [hc]; omega)) rfl rfl (Nat.le_of_ble_eq_true rfl) (by omega) ?_
          refine L_a0 dX3_readProduct_49 ?_
          refine L_i1 dX3_readProduct_50 ?_
          refine C_v1U vX3_117 dX3_readProduct_51 (hF S0 _ T D (e + 1) (0, lxe B r.2.1, r.2.2) (by omega) h7 (h.go (by omega) hi hw (by omega))) rfl rfl (Nat.le_of_ble_eq_true rfl) (by omega) (fun hp51 hq51 => ?_)
          obtain ⟨S2, rfl, h2⟩ := hq51
          refine L_a0 dX3_readProduct_54 ?_
          refine L_i3 dX3_readProduct_55 ?_
          refine C_v1U vX3_114 dX3_readProduct_56 (qX3_emit (v := kd B r.2.1) h2 (by omega)) rfl rfl (Nat.le_of_ble_eq_true rfl) (by omega) (fun hp56 hq56 => ?_)
          obtain ⟨S3, rfl, h3⟩ := hq56
          refine JI_2 dX3_readProduct_59 (by decide) rfl ?_
          refine E_goto 7 dX3_readProduct_62 rfl ?_
          rw [tLp_ye ⟨by omega, decide_eq_true (by omega)⟩] at hr
          exact ih _ S3 (i + 1) _ rfl (by omega) (by omega) h3 hr
        · refine L_i3 dX3_readProduct_35 ?_
          refine J_bipush dX3_readProduct_36 (by decide) ?_
          refine J_icmp_eq 42 dX3_readProduct_38 rfl (by omega) (by omega) (fun c38 => ?_) (fun c38 => ?_)
          · refine L_a0 dX3_readProduct_42 ?_
            refine GW_3_0 fX3_12 dX3_readProduct_43 ?_
            refine C_v0V vX3_83 dX3_readProduct_46 (qX6_advance hs hi hw (by rw [hc]; omega)) rfl rfl (Nat.le_of_ble_eq_true rfl) (by omega) ?_
            refine L_a0 dX3_readProduct_49 ?_
            refine L_i1 dX3_readProduct_50 ?_
            refine C_v1U vX3_117 dX3_readProduct_51 (hF S0 _ T D (e + 1) (0, lxe B r.2.1, r.2.2) (by omega) h7 (h.go (by omega) hi hw (by omega))) rfl rfl (Nat.le_of_ble_eq_true rfl) (by omega) (fun hp51 hq51 => ?_)
            obtain ⟨S2, rfl, h2⟩ := hq51
            refine L_a0 dX3_readProduct_54 ?_
            refine L_i3 dX3_readProduct_55 ?_
            refine C_v1U vX3_114 dX3_readProduct_56 (qX3_emit (v := kd B r.2.1) h2 (by omega)) rfl rfl (Nat.le_of_ble_eq_true rfl) (by omega) (fun hp56 hq56 => ?_)
            obtain ⟨S3, rfl, h3⟩ := hq56
            refine JI_2 dX3_readProduct_59 (by decide) rfl ?_
            refine E_goto 7 dX3_readProduct_62 rfl ?_
            rw [tLp_ye ⟨by omega, decide_eq_true (by omega)⟩] at hr
            exact ih _ S3 (i + 1) _ rfl (by omega) (by omega) h3 hr
          · exact RQ_v rfl dX3_readProduct_41 ⟨S, rfl, by rw [tLp_no (fun hh => by have := of_decide_eq_true hh.2; omega)] at hr; subst hr; exact h⟩
set_option maxRecDepth 100000 in
theorem qX3_readProduct {d : Nat} {o : Int} {B : Nat → Int} {n : Nat} {s0 : Int} {F : RR → RR} (hF : RDC yX3_readOne cX3_readOne 3 d o B n s0 F) : RDC yX3_readProduct cX3_readProduct 4 (d + 1) o B n s0 (tPr B F) := by
  intro S0 S T D e r he h7 h
  refine Sp.of [.ref 3, .int (jI o), .retAddr 0, .retAddr 0] (by decide) (by simp) (Nat.le_of_ble_eq_true rfl) rfl (fun E => ?_)
  refine L_a0 dX3_readProduct_0 ?_
  refine L_i1 dX3_readProduct_1 ?_
  refine C_v1U vX3_117 dX3_readProduct_2 (hF S0 S T D e r he h7 h) rfl rfl (Nat.le_of_ble_eq_true rfl) (by omega) (fun hp2 hq2 => ?_)
  obtain ⟨S2, rfl, h2⟩ := hq2
  refine J_iconst dX3_readProduct_5 ?_
  refine S_i2 dX3_readProduct_6 (by decide) rfl ?_
  exact lX3_readProduct hF he h7 300 _ S2 0 _ rfl (by omega) (by omega) h2 rfl
set_option maxRecDepth 100000 in
theorem lX3_readSum {E : mx_E} {d : Nat} {o : Int} {B : Nat → Int} {n : Nat} {s0 : Int} {F : RR → RR} (hF : RDC yX3_readProduct cX3_readProduct 4 d o B n s0 F) {S0 T : Nat → Int → Int} {D : List mx_C} {e : Int} (he : 1 ≤ e) (h7 : S0 3 7 = s0) {rr : RR} : ∀ (m : Nat) (r : RR) (S : Nat → Int → Int) (i : Int) (u3 : Value), u3.category = 1 → i + m = 300 → 0 ≤ i → RS3 B n S0 S e r → tLp B pPl F m r = rr → Ev E yX3_readSum cX3_readSum 4 none (kU E (d + 1) (RQ3 B n S0 T D e rr)) 0 0 7 [.ref 3, .int (jI o), .int (jI i), u3] [] (W5 S T D) := by
  intro m
  induction m with
  | zero =>
    intro r S i u3 hu him hi0 h hr
    have hr : r = rr := hr
    subst hr
    refine L_i2 dX3_readSum_7 ?_
    refine J_sipush dX3_readSum_8 (by decide) ?_
    refine J_icmp_ge 65 dX3_readSum_11 rfl (by omega) (by omega) (fun c11 => ?_) (fun c11 => ?_)
    · exact RQ_v rfl dX3_readSum_65 ⟨S, rfl, h⟩
    · exfalso; omega
  | succ m ih =>
    intro r S i u3 hu him hi0 h hr
    obtain ⟨i1, hi, hw, hc, hd⟩ := h.2.2.2.2.2.2
    have hs := h.2.2.1
    have hf := h.2.2.2.2.1
    have hb := h.2.2.2.1
    have hkB := kd_B B r.2.1
    refine L_i2 dX3_readSum_7 ?_
    refine J_sipush dX3_readSum_8 (by decide) ?_
    refine J_icmp_ge 65 dX3_readSum_11 rfl (by omega) (by omega) (fun c11 => ?_) (fun c11 => ?_)
    · exfalso; omega
    · refine L_a0 dX3_readSum_14 ?_
      refine GW_3_10 fX3_48 dX3_readSum_15 ?_
      refine J_eqi (b := r.1) hf ?_
      refine J_if_ne 65 dX3_readSum_18 rfl (by omega) (fun c18 => ?_) (fun c18 => ?_)
      · exact RQ_v rfl dX3_readSum_65 (by first | exact ⟨S, rfl, by rw [tLp_no (fun hh => by have := hh.1; omega)] at hr; subst hr; exact h⟩ | exact ⟨S, rfl, by rw [tLp_no (fun hh => by have := of_decide_eq_true hh.2; omega)] at hr; subst hr; exact h⟩)
      · refine L_a0 dX3_readSum_21 ?_
        refine GW_3_0 fX3_12 dX3_readSum_22 ?_
        refine C_v0F vX3_58 dX3_readSum_25 (qX6_kind hs hi hw) rfl rfl (Nat.le_of_ble_eq_true rfl) (by omega) ?_
        refine J_eqi (b := kd B r.2.1) (by rw [hc]) ?_
        refine S_i3 dX3_readSum_28 (by decide) rfl ?_
        refine L_i3 dX3_readSum_29 ?_
        refine J_bipush dX3_readSum_30 (by decide) ?_
        refine J_icmp_eq 42 dX3_readSum_32 rfl (by omega) (by omega) (fun c32 => ?_) (fun c32 => ?_)
        · refine L_a0 dX3_readSum_42 ?_
          refine GW_3_0 fX3_12 dX3_readSum_43 ?_
          refine C_v0V vX3_83 dX3_readSum_46 (qX6_advance hs hi hw (by rw [hc]; omega)) rfl rfl (Nat.le_of_ble_eq_true rfl) (by omega) ?_
          refine L_a0 dX3_readSum_49 ?_
          refine L_i1 dX3_readSum_50 ?_
          refine C_v1U vX3_111 dX3_readSum_51 (hF S0 _ T D (e + 1) (0, lxe B r.2.1, r.2.2) (by omega) h7 (h.go (by omega) hi hw (by omega))) rfl rfl (Nat.le_of_ble_eq_true rfl) (by omega) (fun hp51 hq51 => ?_)
          obtain ⟨S2, rfl, h2⟩ := hq51
          refine L_a0 dX3_readSum_54 ?_
          refine L_i3 dX3_readSum_55 ?_
          refine C_v1U vX3_114 dX3_readSum_56 (qX3_emit (v := kd B r.2.1) h2 (by omega)) rfl rfl (Nat.le_of_ble_eq_true rfl) (by omega) (fun hp56 hq56 => ?_)
          obtain ⟨S3, rfl, h3⟩ := hq56
          refine JI_2 dX3_readSum_59 (by decide) rfl ?_
          refine E_goto 7 dX3_readSum_62 rfl ?_
          rw [tLp_ye ⟨by omega, decide_eq_true (by omega)⟩] at hr
          exact ih _ S3 (i + 1) _ rfl (by omega) (by omega) h3 hr
        · refine L_i3 dX3_readSum_35 ?_
          refine J_bipush dX3_readSum_36 (by decide) ?_
          refine J_icmp_eq 42 dX3_readSum_38 rfl (by omega) (by omega) (fun c38 => ?_) (fun c38 => ?_)
          · refine L_a0 dX3_readSum_42 ?_
            refine GW_3_0 fX3_12 dX3_readSum_43 ?_
            refine C_v0V vX3_83 dX3_readSum_46 (qX6_advance hs hi hw (by rw [hc]; omega)) rfl rfl (Nat.le_of_ble_eq_true rfl) (by omega) ?_
            refine L_a0 dX3_readSum_49 ?_
            refine L_i1 dX3_readSum_50 ?_
            refine C_v1U vX3_111 dX3_readSum_51 (hF S0 _ T D (e + 1) (0, lxe B r.2.1, r.2.2) (by omega) h7 (h.go (by omega) hi hw (by omega))) rfl rfl (Nat.le_of_ble_eq_true rfl) (by omega) (fun hp51 hq51 => ?_)
            obtain ⟨S2, rfl, h2⟩ := hq51
            refine L_a0 dX3_readSum_54 ?_
            refine L_i3 dX3_readSum_55 ?_
            refine C_v1U vX3_114 dX3_readSum_56 (qX3_emit (v := kd B r.2.1) h2 (by omega)) rfl rfl (Nat.le_of_ble_eq_true rfl) (by omega) (fun hp56 hq56 => ?_)
            obtain ⟨S3, rfl, h3⟩ := hq56
            refine JI_2 dX3_readSum_59 (by decide) rfl ?_
            refine E_goto 7 dX3_readSum_62 rfl ?_
            rw [tLp_ye ⟨by omega, decide_eq_true (by omega)⟩] at hr
            exact ih _ S3 (i + 1) _ rfl (by omega) (by omega) h3 hr
          · exact RQ_v rfl dX3_readSum_41 ⟨S, rfl, by rw [tLp_no (fun hh => by have := of_decide_eq_true hh.2; omega)] at hr; subst hr; exact h⟩
set_option maxRecDepth 100000 in
theorem qX3_readSum {d : Nat} {o : Int} {B : Nat → Int} {n : Nat} {s0 : Int} {F : RR → RR} (hF : RDC yX3_readProduct cX3_readProduct 4 d o B n s0 F) : RDC yX3_readSum cX3_readSum 4 (d + 1) o B n s0 (fun r => tLp B pPl F 300 (F r)) := by
  intro S0 S T D e r he h7 h
  refine Sp.of [.ref 3, .int (jI o), .retAddr 0, .retAddr 0] (by decide) (by simp) (Nat.le_of_ble_eq_true rfl) rfl (fun E => ?_)
  refine L_a0 dX3_readSum_0 ?_
  refine L_i1 dX3_readSum_1 ?_
  refine C_v1U vX3_111 dX3_readSum_2 (hF S0 S T D e r he h7 h) rfl rfl (Nat.le_of_ble_eq_true rfl) (by omega) (fun hp2 hq2 => ?_)
  obtain ⟨S2, rfl, h2⟩ := hq2
  refine J_iconst dX3_readSum_5 ?_
  refine S_i2 dX3_readSum_6 (by decide) rfl ?_
  exact lX3_readSum hF he h7 300 _ S2 0 _ rfl (by omega) (by omega) h2 rfl
set_option maxRecDepth 100000 in
theorem lX3_readBoth {E : mx_E} {d : Nat} {o : Int} {B : Nat → Int} {n : Nat} {s0 : Int} {F : RR → RR} (hF : RDC yX3_readAsk cX3_readAsk 2 d o B n s0 F) {S0 T : Nat → Int → Int} {D : List mx_C} {e : Int} (he : 1 ≤ e) (h7 : S0 3 7 = s0) {rr : RR} : ∀ (m : Nat) (r : RR) (S : Nat → Int → Int) (i : Int), i + m = 300 → 0 ≤ i → RS3 B n S0 S e r → tLp B pAn F m r = rr → Ev E yX3_readBoth cX3_readBoth 3 none (kU E (d + 1) (RQ3 B n S0 T D e rr)) 0 0 7 [.ref 3, .int (jI o), .int (jI i)] [] (W5 S T D) := by
  intro m
  induction m with
  | zero =>
    intro r S i him hi0 h hr
    have hr : r = rr := hr
    subst hr
    refine L_i2 dX3_readBoth_7 ?_
    refine J_sipush dX3_readBoth_8 (by decide) ?_
    refine J_icmp_ge 57 dX3_readBoth_11 rfl (by omega) (by omega) (fun c11 => ?_) (fun c11 => ?_)
    · exact RQ_v rfl dX3_readBoth_57 ⟨S, rfl, h⟩
    · exfalso; omega
  | succ m ih =>
    intro r S i him hi0 h hr
    obtain ⟨i1, hi, hw, hc, hd⟩ := h.2.2.2.2.2.2
    have hs := h.2.2.1
    have hf := h.2.2.2.2.1
    have hb := h.2.2.2.1
    have hkB := kd_B B r.2.1
    refine L_i2 dX3_readBoth_7 ?_
    refine J_sipush dX3_readBoth_8 (by decide) ?_
    refine J_icmp_ge 57 dX3_readBoth_11 rfl (by omega) (by omega) (fun c11 => ?_) (fun c11 => ?_)
    · exfalso; omega
    · refine L_a0 dX3_readBoth_14 ?_
      refine GW_3_10 fX3_48 dX3_readBoth_15 ?_
      refine J_eqi (b := r.1) hf ?_
      refine J_if_ne 57 dX3_readBoth_18 rfl (by omega) (fun c18 => ?_) (fun c18 => ?_)
      · exact RQ_v rfl dX3_readBoth_57 (by first | exact ⟨S, rfl, by rw [tLp_no (fun hh => by have := hh.1; omega)] at hr; subst hr; exact h⟩ | exact ⟨S, rfl, by rw [tLp_no (fun hh => by have := of_decide_eq_true hh.2; omega)] at hr; subst hr; exact h⟩)
      · refine L_a0 dX3_readBoth_21 ?_
        refine GW_3_0 fX3_12 dX3_readBoth_22 ?_
        refine C_v0F vX3_58 dX3_readBoth_25 (qX6_kind hs hi hw) rfl rfl (Nat.le_of_ble_eq_true rfl) (by omega) ?_
        refine J_eqi (b := kd B r.2.1) (by rw [hc]) ?_
        refine J_bipush dX3_readBoth_28 (by decide) ?_
        refine J_icmp_ne 57 dX3_readBoth_30 rfl (by omega) (by omega) (fun c30 => ?_) (fun c30 => ?_)
        · exact RQ_v rfl dX3_readBoth_57 (by first | exact ⟨S, rfl, by rw [tLp_no (fun hh => by have := hh.1; omega)] at hr; subst hr; exact h⟩ | exact ⟨S, rfl, by rw [tLp_no (fun hh => by have := of_decide_eq_true hh.2; omega)] at hr; subst hr; exact h⟩)
        · refine L_a0 dX3_readBoth_33 ?_
          refine GW_3_0 fX3_12 dX3_readBoth_34 ?_
          refine C_v0V vX3_83 dX3_readBoth_37 (qX6_advance hs hi hw (by rw [hc]; omega)) rfl rfl (Nat.le_of_ble_eq_true rfl) (by omega) ?_
          refine L_a0 dX3_readBoth_40 ?_
          refine L_i1 dX3_readBoth_41 ?_
          refine C_v1U vX3_137 dX3_readBoth_42 (hF S0 _ T D (e + 1) (0, lxe B r.2.1, r.2.2) (by omega) h7 (h.go (by omega) hi hw (by omega))) rfl rfl (Nat.le_of_ble_eq_true rfl) (by omega) (fun hp42 hq42 => ?_)
          obtain ⟨S2, rfl, h2⟩ := hq42
          refine L_a0 dX3_readBoth_45 ?_
          refine J_bipush dX3_readBoth_46 (by decide) ?_
          refine C_v1U vX3_114 dX3_readBoth_48 (show SpU yX3_emit cX3_emit 2 none 0 [.ref 3, .int (jI 22)] (W5 S2 T D) (RQ3 B n S0 T D e (GE (kd B r.2.1) (F (0, lxe B r.2.1, r.2.2)))) from by rw [show kd B r.2.1 = 22 from by omega]; exact qX3_emit h2 (by omega)) rfl rfl (Nat.le_of_ble_eq_true rfl) (by omega) (fun hp48 hq48 => ?_)
          obtain ⟨S3, rfl, h3⟩ := hq48
          refine JI_2 dX3_readBoth_51 (by decide) rfl ?_
          refine E_goto 7 dX3_readBoth_54 rfl ?_
          rw [tLp_ye ⟨by omega, decide_eq_true (by omega)⟩] at hr
          exact ih _ S3 (i + 1) (by omega) (by omega) h3 hr
set_option maxRecDepth 100000 in
theorem qX3_readBoth {d : Nat} {o : Int} {B : Nat → Int} {n : Nat} {s0 : Int} {F : RR → RR} (hF : RDC yX3_readAsk cX3_readAsk 2 d o B n s0 F) : RDC yX3_readBoth cX3_readBoth 3 (d + 1) o B n s0 (tBo B F) := by
  intro S0 S T D e r he h7 h
  refine Sp.of [.ref 3, .int (jI o), .retAddr 0] (by decide) (by simp) (Nat.le_of_ble_eq_true rfl) rfl (fun E => ?_)
  refine L_a0 dX3_readBoth_0 ?_
  refine L_i1 dX3_readBoth_1 ?_
  refine C_v1U vX3_137 dX3_readBoth_2 (hF S0 S T D e r he h7 h) rfl rfl (Nat.le_of_ble_eq_true rfl) (by omega) (fun hp2 hq2 => ?_)
  obtain ⟨S2, rfl, h2⟩ := hq2
  refine J_iconst dX3_readBoth_5 ?_
  refine S_i2 dX3_readBoth_6 (by decide) rfl ?_
  exact lX3_readBoth hF he h7 300 _ S2 0 (by omega) (by omega) h2 rfl
set_option maxRecDepth 100000 in
theorem lX3_readEither {E : mx_E} {d : Nat} {o : Int} {B : Nat → Int} {n : Nat} {s0 : Int} {F : RR → RR} (hF : RDC yX3_readBoth cX3_readBoth 3 d o B n s0 F) {S0 T : Nat → Int → Int} {D : List mx_C} {e : Int} (he : 1 ≤ e) (h7 : S0 3 7 = s0) {rr : RR} : ∀ (m : Nat) (r : RR) (S : Nat → Int → Int) (i : Int), i + m = 300 → 0 ≤ i → RS3 B n S0 S e r → tLp B pOr F m r = rr → Ev E yX3_readEither cX3_readEither 3 none (kU E (d + 1) (RQ3 B n S0 T D e rr)) 0 0 7 [.ref 3, .int (jI o), .int (jI i)] [] (W5 S T D) := by
  intro m
  induction m with
  | zero =>
    intro r S i him hi0 h hr
    have hr : r = rr := hr
    subst hr
    refine L_i2 dX3_readEither_7 ?_
    refine J_sipush dX3_readEither_8 (by decide) ?_
    refine J_icmp_ge 57 dX3_readEither_11 rfl (by omega) (by omega) (fun c11 => ?_) (fun c11 => ?_)
    · exact RQ_v rfl dX3_readEither_57 ⟨S, rfl, h⟩
    · exfalso; omega
  | succ m ih =>
    intro r S i him hi0 h hr
    obtain ⟨i1, hi, hw, hc, hd⟩ := h.2.2.2.2.2.2
    have hs := h.2.2.1
    have hf := h.2.2.2.2.1
    have hb := h.2.2.2.1
    have hkB := kd_B B r.2.1
    refine L_i2 dX3_readEither_7 ?_
    refine J_sipush dX3_readEither_8 (by decide) ?_
    refine J_icmp_ge 57 dX3_readEither_11 rfl (by omega) (by omega) (fun c11 => ?_) (fun c11 => ?_)
    · exfalso; omega
    · refine L_a0 dX3_readEither_14 ?_
      refine GW_3_10 fX3_48 dX3_readEither_15 ?_
      refine J_eqi (b := r.1) hf ?_
      refine J_if_ne 57 dX3_readEither_18 rfl (by omega) (fun c18 => ?_) (fun c18 => ?_)
      · exact RQ_v rfl dX3_readEither_57 (by first | exact ⟨S, rfl, by rw [tLp_no (fun hh => by have := hh.1; omega)] at hr; subst hr; exact h⟩ | exact ⟨S, rfl, by rw [tLp_no (fun hh => by have := of_decide_eq_true hh.2; omega)] at hr; subst hr; exact h⟩)
      · refine L_a0 dX3_readEither_21 ?_
        refine GW_3_0 fX3_12 dX3_readEither_22 ?_
        refine C_v0F vX3_58 dX3_readEither_25 (qX6_kind hs hi hw) rfl rfl (Nat.le_of_ble_eq_true rfl) (by omega) ?_
        refine J_eqi (b := kd B r.2.1) (by rw [hc]) ?_
        refine J_bipush dX3_readEither_28 (by decide) ?_
        refine J_icmp_ne 57 dX3_readEither_30 rfl (by omega) (by omega) (fun c30 => ?_) (fun c30 => ?_)
        · exact RQ_v rfl dX3_readEither_57 (by first | exact ⟨S, rfl, by rw [tLp_no (fun hh => by have := hh.1; omega)] at hr; subst hr; exact h⟩ | exact ⟨S, rfl, by rw [tLp_no (fun hh => by have := of_decide_eq_true hh.2; omega)] at hr; subst hr; exact h⟩)
        · refine L_a0 dX3_readEither_33 ?_
          refine GW_3_0 fX3_12 dX3_readEither_34 ?_
          refine C_v0V vX3_83 dX3_readEither_37 (qX6_advance hs hi hw (by rw [hc]; omega)) rfl rfl (Nat.le_of_ble_eq_true rfl) (by omega) ?_
          refine L_a0 dX3_readEither_40 ?_
          refine L_i1 dX3_readEither_41 ?_
          refine C_v1U vX3_134 dX3_readEither_42 (hF S0 _ T D (e + 1) (0, lxe B r.2.1, r.2.2) (by omega) h7 (h.go (by omega) hi hw (by omega))) rfl rfl (Nat.le_of_ble_eq_true rfl) (by omega) (fun hp42 hq42 => ?_)
          obtain ⟨S2, rfl, h2⟩ := hq42
          refine L_a0 dX3_readEither_45 ?_
          refine J_bipush dX3_readEither_46 (by decide) ?_
          refine C_v1U vX3_114 dX3_readEither_48 (show SpU yX3_emit cX3_emit 2 none 0 [.ref 3, .int (jI 21)] (W5 S2 T D) (RQ3 B n S0 T D e (GE (kd B r.2.1) (F (0, lxe B r.2.1, r.2.2)))) from by rw [show kd B r.2.1 = 21 from by omega]; exact qX3_emit h2 (by omega)) rfl rfl (Nat.le_of_ble_eq_true rfl) (by omega) (fun hp48 hq48 => ?_)
          obtain ⟨S3, rfl, h3⟩ := hq48
          refine JI_2 dX3_readEither_51 (by decide) rfl ?_
          refine E_goto 7 dX3_readEither_54 rfl ?_
          rw [tLp_ye ⟨by omega, decide_eq_true (by omega)⟩] at hr
          exact ih _ S3 (i + 1) (by omega) (by omega) h3 hr
set_option maxRecDepth 100000 in
theorem qX3_readEither {d : Nat} {o : Int} {B : Nat → Int} {n : Nat} {s0 : Int} {F : RR → RR} (hF : RDC yX3_readBoth cX3_readBoth 3 d o B n s0 F) : RDC yX3_readEither cX3_readEither 3 (d + 1) o B n s0 (fun r => tLp B pOr F 300 (F r)) := by
  intro S0 S T D e r he h7 h
  refine Sp.of [.ref 3, .int (jI o), .retAddr 0] (by decide) (by simp) (Nat.le_of_ble_eq_true rfl) rfl (fun E => ?_)
  refine L_a0 dX3_readEither_0 ?_
  refine L_i1 dX3_readEither_1 ?_
  refine C_v1U vX3_134 dX3_readEither_2 (hF S0 S T D e r he h7 h) rfl rfl (Nat.le_of_ble_eq_true rfl) (by omega) (fun hp2 hq2 => ?_)
  obtain ⟨S2, rfl, h2⟩ := hq2
  refine J_iconst dX3_readEither_5 ?_
  refine S_i2 dX3_readEither_6 (by decide) rfl ?_
  exact lX3_readEither hF he h7 300 _ S2 0 (by omega) (by omega) h2 rfl
theorem qX3_readSumO {d : Nat} {o : Int} {B : Nat → Int} {n : Nat} {s0 : Int} {F : RR → RR} (hF : RDC yX3_readOne cX3_readOne 3 d o B n s0 F) : RDC yX3_readSum cX3_readSum 4 (d + 2) o B n s0 (tSu B F) := qX3_readSum (qX3_readProduct hF)
theorem qX3_readEitherO {d : Nat} {o : Int} {B : Nat → Int} {n : Nat} {s0 : Int} {F : RR → RR} (hF : RDC yX3_readAsk cX3_readAsk 2 d o B n s0 F) : RDC yX3_readEither cX3_readEither 3 (d + 2) o B n s0 (tEi B F) := qX3_readEither (qX3_readBoth hF)
set_option maxRecDepth 100000 in
theorem qX3_readCompared {d : Nat} {o : Int} {B : Nat → Int} {n : Nat} {s0 : Int} {F : RR → RR} (hF : RDC yX3_readOne cX3_readOne 3 d o B n s0 F) : RDC yX3_readCompared cX3_readCompared 3 (d + 3) o B n s0 (tCm B F) := by
  intro S0 S T D e r he h7 h
  refine Sp.of [.ref 3, .int (jI o), .retAddr 0] (by decide) (by simp) (Nat.le_of_ble_eq_true rfl) rfl (fun E => ?_)
  refine L_a0 dX3_readCompared_0 ?_
  refine L_i1 dX3_readCompared_1 ?_
  refine C_v1U vX3_103 dX3_readCompared_2 (qX3_readSumO hF S0 S T D e r he h7 h) rfl rfl (Nat.le_of_ble_eq_true rfl) (by omega) (fun hp2 hq2 => ?_)
  obtain ⟨S2, rfl, h2⟩ := hq2
  obtain ⟨i2, hi2, hw2, hc2, hd2⟩ := h2.2.2.2.2.2.2
  have hs2 := h2.2.2.1
  have hf2 := h2.2.2.2.2.1
  have hb2 := h2.2.2.2.1
  have hkB2 := kd_B B (tSu B F r).2.1
  refine L_a0 dX3_readCompared_5 ?_
  refine GW_3_10 fX3_48 dX3_readCompared_6 ?_
  refine J_eqi (b := (tSu B F r).1) hf2 ?_
  refine J_if_eq 13 dX3_readCompared_9 rfl (by omega) (fun c9 => ?_) (fun c9 => ?_)
  · refine L_a0 dX3_readCompared_13 ?_
    refine GW_3_0 fX3_12 dX3_readCompared_14 ?_
    refine C_v0F vX3_58 dX3_readCompared_17 (qX6_kind hs2 hi2 hw2) rfl rfl (Nat.le_of_ble_eq_true rfl) (by omega) ?_
    refine J_eqi (b := kd B (tSu B F r).2.1) (by rw [hc2]) ?_
    refine S_i2 dX3_readCompared_20 (by decide) rfl ?_
    refine L_i2 dX3_readCompared_21 ?_
    refine C_s1F vX3_143 dX3_readCompared_22 (qX6_isRelation (by omega)) (Nat.le_of_ble_eq_true rfl) (by omega) ?_
    refine J_ifneB 34 dX3_readCompared_25 rfl (fun c25 => ?_) (fun c25 => ?_)
    · refine L_a0 dX3_readCompared_34 ?_
      refine GW_3_0 fX3_12 dX3_readCompared_35 ?_
      refine C_v0V vX3_83 dX3_readCompared_38 (qX6_advance hs2 hi2 hw2 (by rw [hc2]; omega)) rfl rfl (Nat.le_of_ble_eq_true rfl) (by omega) ?_
      refine L_a0 dX3_readCompared_41 ?_
      refine L_i1 dX3_readCompared_42 ?_
      refine C_v1U vX3_103 dX3_readCompared_43 (qX3_readSumO hF S0 _ T D (e + 1) (0, lxe B (tSu B F r).2.1, (tSu B F r).2.2) (by omega) h7 (h2.go (by omega) hi2 hw2 (by omega))) rfl rfl (Nat.le_of_ble_eq_true rfl) (by omega) (fun hp43 hq43 => ?_)
      obtain ⟨S3, rfl, h3⟩ := hq43
      refine L_a0 dX3_readCompared_46 ?_
      refine L_i2 dX3_readCompared_47 ?_
      refine C_v1U vX3_114 dX3_readCompared_48 (qX3_emit h3 (by omega)) rfl rfl (Nat.le_of_ble_eq_true rfl) (by omega) (fun hp48 hq48 => ?_)
      obtain ⟨S4, rfl, h4⟩ := hq48
      exact RQ_v rfl dX3_readCompared_51 ⟨S4, rfl, by unfold tCm; rw [if_pos (by omega), if_pos c25]; exact h4⟩
    · refine L_a0 dX3_readCompared_28 ?_
      refine J_iconst dX3_readCompared_29 ?_
      refine C_v1V vX3_79 dX3_readCompared_30 (qX3_refuse (by omega)) rfl rfl (Nat.le_of_ble_eq_true rfl) (by omega) ?_
      exact RQ_v rfl dX3_readCompared_33 ⟨_, rfl, by unfold tCm; rw [if_pos (by omega), if_neg c25]; exact h2.ref (by omega)⟩
  · exact RQ_v rfl dX3_readCompared_12 ⟨S2, rfl, by unfold tCm; rw [if_neg (by omega)]; exact h2⟩
set_option maxRecDepth 100000 in
theorem qX3_readAskN {d : Nat} {B : Nat → Int} {n : Nat} {s0 : Int} {F : RR → RR} (hF : RDC yX3_readOne cX3_readOne 3 d 8 B n s0 F) : RDC yX3_readAsk cX3_readAsk 2 (d + 4) 8 B n s0 (tAk B none F) := by
  intro S0 S T D e r he h7 h
  obtain ⟨i1, hi, hw, hc, hd⟩ := h.2.2.2.2.2.2
  have hs := h.2.2.1
  have hf := h.2.2.2.2.1
  have hb := h.2.2.2.1
  have hkB := kd_B B r.2.1
  refine Sp.of [.ref 3, .int (jI 8)] (by decide) (by simp) (Nat.le_of_ble_eq_true rfl) rfl (fun E => ?_)
  refine L_a0 dX3_readAsk_0 ?_
  refine GW_3_10 fX3_48 dX3_readAsk_1 ?_
  refine J_eqi (b := r.1) hf ?_
  refine J_if_eq 8 dX3_readAsk_4 rfl (by omega) (fun c4 => ?_) (fun c4 => ?_)
  · refine L_a0 dX3_readAsk_8 ?_
    refine GW_3_0 fX3_12 dX3_readAsk_9 ?_
    refine C_v0F vX3_58 dX3_readAsk_12 (qX6_kind hs hi hw) rfl rfl (Nat.le_of_ble_eq_true rfl) (by omega) ?_
    refine J_eqi (b := kd B r.2.1) (by rw [hc]) ?_
    refine J_bipush dX3_readAsk_15 (by decide) ?_
    refine J_icmp_eq 28 dX3_readAsk_17 rfl (by omega) (by omega) (fun c17 => ?_) (fun c17 => ?_)
    · refine L_i1 dX3_readAsk_28 ?_
      refine J_bipush dX3_readAsk_29 (by decide) ?_
      refine J_icmp_lt 42 dX3_readAsk_31 rfl (by omega) (by omega) (fun c31 => ?_) (fun c31 => ?_)
      · exfalso; omega
      · refine L_a0 dX3_readAsk_34 ?_
        refine J_iconst dX3_readAsk_35 ?_
        refine C_v1V vX3_79 dX3_readAsk_36 (qX3_refuse (by omega)) rfl rfl (Nat.le_of_ble_eq_true rfl) (by omega) ?_
        refine E_goto 62 dX3_readAsk_39 rfl ?_
        exact RQ_v rfl dX3_readAsk_62 (by first | exact ⟨S2, rfl, by unfold tAk; rw [if_pos (by omega), if_neg c17]; exact h2⟩ | exact ⟨_, rfl, by unfold tAk; rw [if_pos (by omega), if_pos c17]; exact h.ref (by omega)⟩ | exact ⟨S3, rfl, by unfold tAk; rw [if_pos (by omega), if_pos c17]; exact h3⟩)
    · refine L_a0 dX3_readAsk_20 ?_
      refine L_i1 dX3_readAsk_21 ?_
      refine C_v1U vX3_140 dX3_readAsk_22 (qX3_readCompared hF S0 S T D e r he h7 h) rfl rfl (Nat.le_of_ble_eq_true rfl) (by omega) (fun hp22 hq22 => ?_)
      obtain ⟨S2, rfl, h2⟩ := hq22
      refine E_goto 62 dX3_readAsk_25 rfl ?_
      exact RQ_v rfl dX3_readAsk_62 (by first | exact ⟨S2, rfl, by unfold tAk; rw [if_pos (by omega), if_neg c17]; exact h2⟩ | exact ⟨_, rfl, by unfold tAk; rw [if_pos (by omega), if_pos c17]; exact h.ref (by omega)⟩ | exact ⟨S3, rfl, by unfold tAk; rw [if_pos (by omega), if_pos c17]; exact h3⟩)
  · exact RQ_v rfl dX3_readAsk_7 ⟨S, rfl, by unfold tAk; rw [if_neg (by omega)]; exact h⟩
set_option maxRecDepth 100000 in
theorem qX3_readAskS {d : Nat} {d1 : Nat} {o : Int} {B : Nat → Int} {n : Nat} {s0 : Int} {F : RR → RR} {p : (RR → RR) × (RR → RR)} (hA : RDC yX3_readAsk cX3_readAsk 2 d1 (o + 1) B n s0 p.2) (ho : 0 ≤ o ∧ o ≤ 7) (hd1 : d1 + 1 ≤ d + 4) (hF : RDC yX3_readOne cX3_readOne 3 d o B n s0 F) : RDC yX3_readAsk cX3_readAsk 2 (d + 4) o B n s0 (tAk B (some p) F) := by
  intro S0 S T D e r he h7 h
  obtain ⟨i1, hi, hw, hc, hd⟩ := h.2.2.2.2.2.2
  have hs := h.2.2.1
  have hf := h.2.2.2.2.1
  have hb := h.2.2.2.1
  have hkB := kd_B B r.2.1
  refine Sp.of [.ref 3, .int (jI o)] (by decide) (by simp) (Nat.le_of_ble_eq_true rfl) rfl (fun E => ?_)
  refine L_a0 dX3_readAsk_0 ?_
  refine GW_3_10 fX3_48 dX3_readAsk_1 ?_
  refine J_eqi (b := r.1) hf ?_
  refine J_if_eq 8 dX3_readAsk_4 rfl (by omega) (fun c4 => ?_) (fun c4 => ?_)
  · refine L_a0 dX3_readAsk_8 ?_
    refine GW_3_0 fX3_12 dX3_readAsk_9 ?_
    refine C_v0F vX3_58 dX3_readAsk_12 (qX6_kind hs hi hw) rfl rfl (Nat.le_of_ble_eq_true rfl) (by omega) ?_
    refine J_eqi (b := kd B r.2.1) (by rw [hc]) ?_
    refine J_bipush dX3_readAsk_15 (by decide) ?_
    refine J_icmp_eq 28 dX3_readAsk_17 rfl (by omega) (by omega) (fun c17 => ?_) (fun c17 => ?_)
    · refine L_i1 dX3_readAsk_28 ?_
      refine J_bipush dX3_readAsk_29 (by decide) ?_
      refine J_icmp_lt 42 dX3_readAsk_31 rfl (by omega) (by omega) (fun c31 => ?_) (fun c31 => ?_)
      · refine L_a0 dX3_readAsk_42 ?_
        refine GW_3_0 fX3_12 dX3_readAsk_43 ?_
        refine C_v0V vX3_83 dX3_readAsk_46 (qX6_advance hs hi hw (by rw [hc]; omega)) rfl rfl (Nat.le_of_ble_eq_true rfl) (by omega) ?_
        refine L_a0 dX3_readAsk_49 ?_
        refine L_i1 dX3_readAsk_50 ?_
        refine J_iconst dX3_readAsk_51 ?_
        refine J_iadd dX3_readAsk_52 ?_
        refine C_v1U vX3_137 dX3_readAsk_53 (hA S0 _ T D (e + 1) (0, lxe B r.2.1, r.2.2) (by omega) h7 (h.go (by omega) hi hw (by omega))) rfl rfl (Nat.le_of_ble_eq_true rfl) (by omega) (fun hp53 hq53 => ?_)
        obtain ⟨S2, rfl, h2⟩ := hq53
        refine L_a0 dX3_readAsk_56 ?_
        refine J_bipush dX3_readAsk_57 (by decide) ?_
        refine C_v1U vX3_114 dX3_readAsk_59 (qX3_emit h2 (by omega)) rfl rfl (Nat.le_of_ble_eq_true rfl) (by omega) (fun hp59 hq59 => ?_)
        obtain ⟨S3, rfl, h3⟩ := hq59
        exact RQ_v rfl dX3_readAsk_62 (by first | exact ⟨S2, rfl, by unfold tAk; rw [if_pos (by omega), if_neg c17]; exact h2⟩ | exact ⟨_, rfl, by unfold tAk; rw [if_pos (by omega), if_pos c17]; exact h.ref (by omega)⟩ | exact ⟨S3, rfl, by unfold tAk; rw [if_pos (by omega), if_pos c17]; exact h3⟩)
      · exfalso; omega
    · refine L_a0 dX3_readAsk_20 ?_
      refine L_i1 dX3_readAsk_21 ?_
      refine C_v1U vX3_140 dX3_readAsk_22 (qX3_readCompared hF S0 S T D e r he h7 h) rfl rfl (Nat.le_of_ble_eq_true rfl) (by omega) (fun hp22 hq22 => ?_)
      obtain ⟨S2, rfl, h2⟩ := hq22
      refine E_goto 62 dX3_readAsk_25 rfl ?_
      exact RQ_v rfl dX3_readAsk_62 (by first | exact ⟨S2, rfl, by unfold tAk; rw [if_pos (by omega), if_neg c17]; exact h2⟩ | exact ⟨_, rfl, by unfold tAk; rw [if_pos (by omega), if_pos c17]; exact h.ref (by omega)⟩ | exact ⟨S3, rfl, by unfold tAk; rw [if_pos (by omega), if_pos c17]; exact h3⟩)
  · exact RQ_v rfl dX3_readAsk_7 ⟨S, rfl, by unfold tAk; rw [if_neg (by omega)]; exact h⟩
theorem lxv_B (B : Nat → Int) (c : Nat) : 0 ≤ lxv B c ∧ lxv B c ≤ 10000 := by have := lxn_B B c; unfold lxv; omega
/-- a number that is to lie between two -/
def GN (B : Nat → Int) (lo hi : Int) (r : RR) : RR := if r.1 = 0 then (if kd B r.2.1 = 2 then (if lo ≤ lxv B r.2.1 ∧ lxv B r.2.1 ≤ hi then (0, lxe B r.2.1, r.2.2) else (2, r.2.1, r.2.2)) else (1, r.2.1, r.2.2)) else r
set_option maxRecDepth 100000 in
theorem qX3_readNumber {S0 S T : Nat → Int → Int} {D : List mx_C} {B : Nat → Int} {n : Nat} {e : Int} {r : RR} (h : RS3 B n S0 S e r) {lo top : Int} (h_l : 0 ≤ lo ∧ lo ≤ 100) (h_t : 0 ≤ top ∧ top ≤ 9999) : SpI yX3_readNumber cX3_readNumber 4 (some .int) 1 [.ref 3, .int (jI lo), .int (jI top)] (W5 S T D) (fun v hp' => (∃ S', hp' = W5 S' T D ∧ RS3 B n S0 S' (if (GN B lo top r).1 = 0 then e + 1 else e) (GN B lo top r)) ∧ ((GN B lo top r).1 = 0 → v = lxv B r.2.1) ∧ (0 ≤ v ∧ v ≤ 10000)) := by
  obtain ⟨i1, hi, hw, hc, hd⟩ := h.2.2.2.2.2.2
  have hs := h.2.2.1
  have hf := h.2.2.2.2.1
  have hb := h.2.2.2.1
  have hkB := kd_B B r.2.1
  have hvB := lxv_B B r.2.1
  refine Sp.of [.ref 3, .int (jI lo), .int (jI top), .retAddr 0] (by decide) (by simp) (Nat.le_of_ble_eq_true rfl) rfl (fun E => ?_)
  refine L_a0 dX3_readNumber_0 ?_
  refine GW_3_10 fX3_48 dX3_readNumber_1 ?_
  refine J_eqi (b := r.1) hf ?_
  refine J_if_eq 9 dX3_readNumber_4 rfl (by omega) (fun c4 => ?_) (fun c4 => ?_)
  · refine L_a0 dX3_readNumber_9 ?_
    refine GW_3_0 fX3_12 dX3_readNumber_10 ?_
    refine C_v0F vX3_58 dX3_readNumber_13 (qX6_kind hs hi hw) rfl rfl (Nat.le_of_ble_eq_true rfl) (by decide) ?_
    refine J_eqi (b := kd B r.2.1) (by rw [hc]) ?_
    refine J_iconst dX3_readNumber_16 ?_
    refine J_icmp_eq 27 dX3_readNumber_17 rfl (by omega) (by omega) (fun c17 => ?_) (fun c17 => ?_)
    · refine L_a0 dX3_readNumber_27 ?_
      refine GW_3_0 fX3_12 dX3_readNumber_28 ?_
      refine C_v0F vX3_100 dX3_readNumber_31 (qX6_value hs hi hw (by rw [hc]; omega)) rfl rfl (Nat.le_of_ble_eq_true rfl) (by decide) ?_
      refine J_eqi (b := lxv B r.2.1) (by rw [hc]) ?_
      refine S_i3 dX3_readNumber_34 (by decide) rfl ?_
      refine L_i3 dX3_readNumber_35 ?_
      refine L_i1 dX3_readNumber_36 ?_
      refine J_icmp_lt 45 dX3_readNumber_37 rfl (by omega) (by omega) (fun c37 => ?_) (fun c37 => ?_)
      · refine L_a0 dX3_readNumber_45 ?_
        refine J_iconst dX3_readNumber_46 ?_
        refine C_v1V vX3_79 dX3_readNumber_47 (qX3_refuse (by omega)) rfl rfl (Nat.le_of_ble_eq_true rfl) (by decide) ?_
        refine E_goto 60 dX3_readNumber_50 rfl ?_
        refine L_i3 dX3_readNumber_60 ?_
        exact RQ_i rfl dX3_readNumber_61 (by first | (rw [show GN B lo top r = (2, r.2.1, r.2.2) from by unfold GN; rw [if_pos (by omega), if_pos c17, if_neg (by omega)]]; exact ⟨⟨_, rfl, by rw [if_neg (by show ¬ (2 : Int) = 0; decide)]; exact h.ref (by omega)⟩, fun hh => absurd hh (by show ¬ (2 : Int) = 0; decide), by omega⟩) | (rw [show GN B lo top r = (0, lxe B r.2.1, r.2.2) from by unfold GN; rw [if_pos (by omega), if_pos c17, if_pos (by omega)]]; exact ⟨⟨_, rfl, by rw [if_pos (by show (0 : Int) = 0; rfl)]; exact h.go (by omega) hi hw (by omega)⟩, fun _ => rfl, by omega⟩))
      · refine L_i3 dX3_readNumber_40 ?_
        refine L_i2 dX3_readNumber_41 ?_
        refine J_icmp_le 53 dX3_readNumber_42 rfl (by omega) (by omega) (fun c42 => ?_) (fun c42 => ?_)
        · refine L_a0 dX3_readNumber_53 ?_
          refine GW_3_0 fX3_12 dX3_readNumber_54 ?_
          refine C_v0V vX3_83 dX3_readNumber_57 (qX6_advance hs hi hw (by rw [hc]; omega)) rfl rfl (Nat.le_of_ble_eq_true rfl) (by decide) ?_
          refine L_i3 dX3_readNumber_60 ?_
          exact RQ_i rfl dX3_readNumber_61 (by first | (rw [show GN B lo top r = (2, r.2.1, r.2.2) from by unfold GN; rw [if_pos (by omega), if_pos c17, if_neg (by omega)]]; exact ⟨⟨_, rfl, by rw [if_neg (by show ¬ (2 : Int) = 0; decide)]; exact h.ref (by omega)⟩, fun hh => absurd hh (by show ¬ (2 : Int) = 0; decide), by omega⟩) | (rw [show GN B lo top r = (0, lxe B r.2.1, r.2.2) from by unfold GN; rw [if_pos (by omega), if_pos c17, if_pos (by omega)]]; exact ⟨⟨_, rfl, by rw [if_pos (by show (0 : Int) = 0; rfl)]; exact h.go (by omega) hi hw (by omega)⟩, fun _ => rfl, by omega⟩))
        · refine L_a0 dX3_readNumber_45 ?_
          refine J_iconst dX3_readNumber_46 ?_
          refine C_v1V vX3_79 dX3_readNumber_47 (qX3_refuse (by omega)) rfl rfl (Nat.le_of_ble_eq_true rfl) (by decide) ?_
          refine E_goto 60 dX3_readNumber_50 rfl ?_
          refine L_i3 dX3_readNumber_60 ?_
          exact RQ_i rfl dX3_readNumber_61 (by first | (rw [show GN B lo top r = (2, r.2.1, r.2.2) from by unfold GN; rw [if_pos (by omega), if_pos c17, if_neg (by omega)]]; exact ⟨⟨_, rfl, by rw [if_neg (by show ¬ (2 : Int) = 0; decide)]; exact h.ref (by omega)⟩, fun hh => absurd hh (by show ¬ (2 : Int) = 0; decide), by omega⟩) | (rw [show GN B lo top r = (0, lxe B r.2.1, r.2.2) from by unfold GN; rw [if_pos (by omega), if_pos c17, if_pos (by omega)]]; exact ⟨⟨_, rfl, by rw [if_pos (by show (0 : Int) = 0; rfl)]; exact h.go (by omega) hi hw (by omega)⟩, fun _ => rfl, by omega⟩))
    · refine L_a0 dX3_readNumber_20 ?_
      refine J_iconst dX3_readNumber_21 ?_
      refine C_v1V vX3_79 dX3_readNumber_22 (qX3_refuse (by omega)) rfl rfl (Nat.le_of_ble_eq_true rfl) (by decide) ?_
      refine J_iconst dX3_readNumber_25 ?_
      exact RQ_i rfl dX3_readNumber_26 (by rw [show GN B lo top r = (1, r.2.1, r.2.2) from by unfold GN; rw [if_pos (by omega), if_neg c17]]; exact ⟨⟨_, rfl, by rw [if_neg (by show ¬ (1 : Int) = 0; decide)]; exact h.ref (by omega)⟩, fun hh => absurd hh (by show ¬ (1 : Int) = 0; decide), by omega⟩)
  · refine J_iconst dX3_readNumber_7 ?_
    exact RQ_i rfl dX3_readNumber_8 (by rw [show GN B lo top r = r from if_neg (by omega)]; exact ⟨⟨S, rfl, by rw [if_neg (by omega)]; exact h⟩, fun hh => by omega, by omega⟩)
