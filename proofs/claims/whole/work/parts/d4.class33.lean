/-! ===== the class: the reader's ones, and the family ===== -/
set_option maxRecDepth 100000 in
theorem qX3_readOpenedN {S0 S T : Nat → Int → Int} {D : List mx_C} {B : Nat → Int} {n : Nat} {e : Int} {r : RR} (h : RS3 B n S0 S e r) (h0 : r.1 = 0) {k : Int} : SpU yX3_readOpened cX3_readOpened 3 none 1 [.ref 3, .int (jI k), .int (jI 8)] (W5 S T D) (RQ3 B n S0 T D e (3, r.2.1, r.2.2)) := by
  have hf := h.2.2.2.2.1
  refine Sp.of [.ref 3, .int (jI k), .int (jI 8)] (by decide) (by simp) (Nat.le_of_ble_eq_true rfl) rfl (fun E => ?_)
  refine L_i2 dX3_readOpened_0 ?_
  refine J_bipush dX3_readOpened_1 (by decide) ?_
  refine J_icmp_lt 12 dX3_readOpened_3 rfl (by omega) (by omega) (fun c3 => ?_) (fun c3 => ?_)
  · exfalso; omega
  · refine L_a0 dX3_readOpened_6 ?_
    refine J_iconst dX3_readOpened_7 ?_
    refine C_v1V vX3_79 dX3_readOpened_8 (qX3_refuse (by omega)) rfl rfl (Nat.le_of_ble_eq_true rfl) (by decide) ?_
    exact RQ_v rfl dX3_readOpened_11 ⟨_, rfl, h.ref (by omega)⟩
set_option maxRecDepth 100000 in
theorem qX3_readOpenedS {d : Nat} {o : Int} {B : Nat → Int} {n : Nat} {s0 : Int} {p : (RR → RR) × (RR → RR)} (ho : 0 ≤ o ∧ o ≤ 7) (hO : RDC yX3_readOne cX3_readOne 3 d (o + 1) B n s0 p.1) (hA : RDC yX3_readAsk cX3_readAsk 2 (d + 4) (o + 1) B n s0 p.2) {S0 S T : Nat → Int → Int} {D : List mx_C} {e : Int} {r : RR} (he : 1 ≤ e) (h7 : S0 3 7 = s0) (h : RS3 B n S0 S e r) (h0 : r.1 = 0) (hk : opK2 (kd B r.2.1)) : SpU yX3_readOpened cX3_readOpened 3 none (d + 7) [.ref 3, .int (jI (kd B r.2.1)), .int (jI o)] (W5 S T D) (RQ3 B n S0 T D e (tOp B p r)) := by
  obtain ⟨i1, hi, hw, hc, hd⟩ := h.2.2.2.2.2.2
  have hs := h.2.2.1
  have hf := h.2.2.2.2.1
  have hb := h.2.2.2.1
  have hkB := kd_B B r.2.1
  refine Sp.of [.ref 3, .int (jI (kd B r.2.1)), .int (jI o)] (by decide) (by simp) (Nat.le_of_ble_eq_true rfl) rfl (fun E => ?_)
  refine L_i2 dX3_readOpened_0 ?_
  refine J_bipush dX3_readOpened_1 (by decide) ?_
  refine J_icmp_lt 12 dX3_readOpened_3 rfl (by omega) (by omega) (fun c3 => ?_) (fun c3 => ?_)
  · refine L_a0 dX3_readOpened_12 ?_
    refine GW_3_0 fX3_12 dX3_readOpened_13 ?_
    refine C_v0V vX3_83 dX3_readOpened_16 (qX6_advance hs hi hw (by rw [hc]; omega)) rfl rfl (Nat.le_of_ble_eq_true rfl) (by omega) ?_
    refine L_i1 dX3_readOpened_19 ?_
    refine J_bipush dX3_readOpened_20 (by decide) ?_
    refine J_icmp_ne 41 dX3_readOpened_22 rfl (by omega) (by omega) (fun c22 => ?_) (fun c22 => ?_)
    · refine L_i1 dX3_readOpened_41 ?_
      refine J_bipush dX3_readOpened_42 (by decide) ?_
      refine J_icmp_ne 95 dX3_readOpened_44 rfl (by omega) (by omega) (fun c44 => ?_) (fun c44 => ?_)
      · refine L_a0 dX3_readOpened_95 ?_
        refine L_i2 dX3_readOpened_96 ?_
        refine J_iconst dX3_readOpened_97 ?_
        refine J_iadd dX3_readOpened_98 ?_
        refine C_v1U vX3_117 dX3_readOpened_99 (hO S0 _ T D (e + 1) (0, lxe B r.2.1, r.2.2) (by omega) h7 (h.go h0 hi hw (by omega))) rfl rfl (Nat.le_of_ble_eq_true rfl) (by omega) (fun hp99 hq99 => ?_)
        obtain ⟨S2, rfl, h2⟩ := hq99
        refine L_a0 dX3_readOpened_102 ?_
        refine L_i1 dX3_readOpened_103 ?_
        refine J_bipush dX3_readOpened_104 (by decide) ?_
        refine J_icmp_ne 114 dX3_readOpened_106 rfl (by omega) (by omega) (fun c106 => ?_) (fun c106 => ?_)
        · refine L_i1 dX3_readOpened_114 ?_
          refine C_v1U vX3_114 dX3_readOpened_115 (qX3_emit h2 (by omega)) rfl rfl (Nat.le_of_ble_eq_true rfl) (by omega) (fun hp115 hq115 => ?_)
          obtain ⟨S3, rfl, h3⟩ := hq115
          exact RQ_v rfl dX3_readOpened_118 (by first | exact ⟨S8, rfl, by unfold tOp; rw [if_neg (by omega), if_pos c44]; exact h8⟩ | exact ⟨S3, rfl, by unfold tOp; rw [if_pos c22]; exact h3.less (by omega)⟩ | exact ⟨S3, rfl, by unfold tOp; rw [if_neg (by omega), if_neg (by omega), if_pos c106]; exact h3⟩ | exact ⟨S3, rfl, by unfold tOp; rw [if_neg (by omega), if_neg (by omega), if_neg c106]; exact h3⟩)
        · refine J_bipush dX3_readOpened_109 (by decide) ?_
          refine E_goto 115 dX3_readOpened_111 rfl ?_
          refine C_v1U vX3_114 dX3_readOpened_115 (qX3_emit h2 (by omega)) rfl rfl (Nat.le_of_ble_eq_true rfl) (by omega) (fun hp115 hq115 => ?_)
          obtain ⟨S3, rfl, h3⟩ := hq115
          exact RQ_v rfl dX3_readOpened_118 (by first | exact ⟨S8, rfl, by unfold tOp; rw [if_neg (by omega), if_pos c44]; exact h8⟩ | exact ⟨S3, rfl, by unfold tOp; rw [if_pos c22]; exact h3.less (by omega)⟩ | exact ⟨S3, rfl, by unfold tOp; rw [if_neg (by omega), if_neg (by omega), if_pos c106]; exact h3⟩ | exact ⟨S3, rfl, by unfold tOp; rw [if_neg (by omega), if_neg (by omega), if_neg c106]; exact h3⟩)
      · refine L_a0 dX3_readOpened_47 ?_
        refine L_i2 dX3_readOpened_48 ?_
        refine J_iconst dX3_readOpened_49 ?_
        refine J_iadd dX3_readOpened_50 ?_
        refine C_v1U vX3_131 dX3_readOpened_51 (qX3_readEitherO hA S0 _ T D (e + 1) (0, lxe B r.2.1, r.2.2) (by omega) h7 (h.go h0 hi hw (by omega))) rfl rfl (Nat.le_of_ble_eq_true rfl) (by omega) (fun hp51 hq51 => ?_)
        obtain ⟨S2, rfl, h2⟩ := hq51
        refine L_a0 dX3_readOpened_54 ?_
        refine J_bipush dX3_readOpened_55 (by decide) ?_
        refine C_v1U vX3_89 dX3_readOpened_57 (qX3_expect h2 (by omega)) rfl rfl (Nat.le_of_ble_eq_true rfl) (by omega) (fun hp57 hq57 => ?_)
        obtain ⟨S3, rfl, h3⟩ := hq57
        refine L_a0 dX3_readOpened_60 ?_
        refine L_i2 dX3_readOpened_61 ?_
        refine J_iconst dX3_readOpened_62 ?_
        refine J_iadd dX3_readOpened_63 ?_
        refine C_v1U vX3_103 dX3_readOpened_64 (qX3_readSumO hO S0 _ T D (e + 1) _ (by omega) h7 h3) rfl rfl (Nat.le_of_ble_eq_true rfl) (by omega) (fun hp64 hq64 => ?_)
        obtain ⟨S4, rfl, h4⟩ := hq64
        refine L_a0 dX3_readOpened_67 ?_
        refine J_bipush dX3_readOpened_68 (by decide) ?_
        refine C_v1U vX3_89 dX3_readOpened_70 (qX3_expect h4 (by omega)) rfl rfl (Nat.le_of_ble_eq_true rfl) (by omega) (fun hp70 hq70 => ?_)
        obtain ⟨S5, rfl, h5⟩ := hq70
        refine L_a0 dX3_readOpened_73 ?_
        refine L_i2 dX3_readOpened_74 ?_
        refine J_iconst dX3_readOpened_75 ?_
        refine J_iadd dX3_readOpened_76 ?_
        refine C_v1U vX3_103 dX3_readOpened_77 (qX3_readSumO hO S0 _ T D (e + 1) _ (by omega) h7 h5) rfl rfl (Nat.le_of_ble_eq_true rfl) (by omega) (fun hp77 hq77 => ?_)
        obtain ⟨S6, rfl, h6⟩ := hq77
        refine L_a0 dX3_readOpened_80 ?_
        refine J_bipush dX3_readOpened_81 (by decide) ?_
        refine C_v1U vX3_89 dX3_readOpened_83 (qX3_expect h6 (by omega)) rfl rfl (Nat.le_of_ble_eq_true rfl) (by omega) (fun hp83 hq83 => ?_)
        obtain ⟨S7, rfl, h7b⟩ := hq83
        refine L_a0 dX3_readOpened_86 ?_
        refine J_bipush dX3_readOpened_87 (by decide) ?_
        refine C_v1U vX3_114 dX3_readOpened_89 (qX3_emit h7b (by omega)) rfl rfl (Nat.le_of_ble_eq_true rfl) (by omega) (fun hp89 hq89 => ?_)
        obtain ⟨S8, rfl, h8⟩ := hq89
        refine E_goto 118 dX3_readOpened_92 rfl ?_
        exact RQ_v rfl dX3_readOpened_118 (by first | exact ⟨S8, rfl, by unfold tOp; rw [if_neg (by omega), if_pos c44]; exact h8⟩ | exact ⟨S3, rfl, by unfold tOp; rw [if_pos c22]; exact h3.less (by omega)⟩ | exact ⟨S3, rfl, by unfold tOp; rw [if_neg (by omega), if_neg (by omega), if_pos c106]; exact h3⟩ | exact ⟨S3, rfl, by unfold tOp; rw [if_neg (by omega), if_neg (by omega), if_neg c106]; exact h3⟩)
    · refine L_a0 dX3_readOpened_25 ?_
      refine L_i2 dX3_readOpened_26 ?_
      refine J_iconst dX3_readOpened_27 ?_
      refine J_iadd dX3_readOpened_28 ?_
      refine C_v1U vX3_103 dX3_readOpened_29 (qX3_readSumO hO S0 _ T D (e + 1) (0, lxe B r.2.1, r.2.2) (by omega) h7 (h.go h0 hi hw (by omega))) rfl rfl (Nat.le_of_ble_eq_true rfl) (by omega) (fun hp29 hq29 => ?_)
      obtain ⟨S2, rfl, h2⟩ := hq29
      refine L_a0 dX3_readOpened_32 ?_
      refine J_bipush dX3_readOpened_33 (by decide) ?_
      refine C_v1U vX3_89 dX3_readOpened_35 (qX3_expect h2 (by omega)) rfl rfl (Nat.le_of_ble_eq_true rfl) (by omega) (fun hp35 hq35 => ?_)
      obtain ⟨S3, rfl, h3⟩ := hq35
      refine E_goto 118 dX3_readOpened_38 rfl ?_
      exact RQ_v rfl dX3_readOpened_118 (by first | exact ⟨S8, rfl, by unfold tOp; rw [if_neg (by omega), if_pos c44]; exact h8⟩ | exact ⟨S3, rfl, by unfold tOp; rw [if_pos c22]; exact h3.less (by omega)⟩ | exact ⟨S3, rfl, by unfold tOp; rw [if_neg (by omega), if_neg (by omega), if_pos c106]; exact h3⟩ | exact ⟨S3, rfl, by unfold tOp; rw [if_neg (by omega), if_neg (by omega), if_neg c106]; exact h3⟩)
  · exfalso; omega
set_option maxRecDepth 100000 in
theorem qX3_readOneN {B : Nat → Int} {n : Nat} {s0 : Int} (hs0 : s0 = 3 ∨ s0 = 4) : RDC yX3_readOne cX3_readOne 3 3 8 B n s0 (tOne B s0 none) := by
  intro S0 S T D e r he h7 h
  obtain ⟨i1, hi, hw, hc, hd⟩ := h.2.2.2.2.2.2
  have hs := h.2.2.1
  have hf := h.2.2.2.2.1
  have hb := h.2.2.2.1
  have hkB := kd_B B r.2.1
  have hvB := lxv_B B r.2.1
  refine Sp.of [.ref 3, .int (jI 8), .retAddr 0] (by decide) (by simp) (Nat.le_of_ble_eq_true rfl) rfl (fun E => ?_)
  refine L_a0 dX3_readOne_0 ?_
  refine GW_3_10 fX3_48 dX3_readOne_1 ?_
  refine J_eqi (b := r.1) hf ?_
  refine J_if_eq 8 dX3_readOne_4 rfl (by omega) (fun c4 => ?_) (fun c4 => ?_)
  · refine L_a0 dX3_readOne_8 ?_
    refine GW_3_0 fX3_12 dX3_readOne_9 ?_
    refine C_v0F vX3_58 dX3_readOne_12 (qX6_kind hs hi hw) rfl rfl (Nat.le_of_ble_eq_true rfl) (by omega) ?_
    refine J_eqi (b := kd B r.2.1) (by rw [hc]) ?_
    refine S_i2 dX3_readOne_15 (by decide) rfl ?_
    refine L_i2 dX3_readOne_16 ?_
    refine J_iconst dX3_readOne_17 ?_
    refine J_icmp_ne 39 dX3_readOne_18 rfl (by omega) (by omega) (fun c18 => ?_) (fun c18 => ?_)
    · refine L_i2 dX3_readOne_39 ?_
      refine C_s1F vX3_120 dX3_readOne_40 (qX6_isName (by omega)) (Nat.le_of_ble_eq_true rfl) (by omega) ?_
      refine J_ifeqB 54 dX3_readOne_43 rfl (fun c43 => ?_) (fun c43 => ?_)
      · refine L_i2 dX3_readOne_54 ?_
        refine J_bipush dX3_readOne_55 (by decide) ?_
        refine J_icmp_eq 84 dX3_readOne_57 rfl (by omega) (by omega) (fun c57 => ?_) (fun c57 => ?_)
        · refine L_a0 dX3_readOne_84 ?_
          refine L_i2 dX3_readOne_85 ?_
          refine L_i1 dX3_readOne_86 ?_
          refine C_v2U vX3_127 dX3_readOne_87 (qX3_readOpenedN h (by omega)) rfl rfl (Nat.le_of_ble_eq_true rfl) (by omega) (fun hp87 hq87 => ?_)
          obtain ⟨S2, rfl, h2⟩ := hq87
          refine E_goto 98 dX3_readOne_90 rfl ?_
          exact RQ_v rfl dX3_readOne_98 (by first
  | exact ⟨S3, rfl, by unfold tOne; rw [if_pos (show r.1 = 0 by omega), if_pos (by omega)]; by_cases hv9 : 9999 < lxv B r.2.1; rw [if_pos hv9]; rw [show GN B 0 9999 r = (2, r.2.1, r.2.2) from by unfold GN; rw [if_pos (by omega), if_pos (by omega), if_neg (by omega)]] at h3; exact h3; rw [if_neg hv9]; rw [show GN B 0 9999 r = (0, lxe B r.2.1, r.2.2) from by unfold GN; rw [if_pos (by omega), if_pos (by omega), if_pos (by omega)]] at h3 hq29b; rw [hq29b.1 rfl] at h3; exact h3⟩
  | exact ⟨S2, rfl, by unfold tOne; rw [if_pos (show r.1 = 0 by omega), if_neg (by omega), if_pos c43]; exact h2⟩
  | exact ⟨S2, rfl, by unfold tOne; rw [if_pos (show r.1 = 0 by omega), if_neg (by omega), if_neg c43, if_pos (by omega)]; exact h2⟩
  | exact ⟨_, rfl, by unfold tOne; rw [if_pos (show r.1 = 0 by omega), if_neg (by omega), if_neg c43, if_neg (by omega)]; exact h.ref (by omega)⟩)
        · refine L_i2 dX3_readOne_60 ?_
          refine J_bipush dX3_readOne_61 (by decide) ?_
          refine J_icmp_eq 84 dX3_readOne_63 rfl (by omega) (by omega) (fun c63 => ?_) (fun c63 => ?_)
          · refine L_a0 dX3_readOne_84 ?_
            refine L_i2 dX3_readOne_85 ?_
            refine L_i1 dX3_readOne_86 ?_
            refine C_v2U vX3_127 dX3_readOne_87 (qX3_readOpenedN h (by omega)) rfl rfl (Nat.le_of_ble_eq_true rfl) (by omega) (fun hp87 hq87 => ?_)
            obtain ⟨S2, rfl, h2⟩ := hq87
            refine E_goto 98 dX3_readOne_90 rfl ?_
            exact RQ_v rfl dX3_readOne_98 (by first
  | exact ⟨S3, rfl, by unfold tOne; rw [if_pos (show r.1 = 0 by omega), if_pos (by omega)]; by_cases hv9 : 9999 < lxv B r.2.1; rw [if_pos hv9]; rw [show GN B 0 9999 r = (2, r.2.1, r.2.2) from by unfold GN; rw [if_pos (by omega), if_pos (by omega), if_neg (by omega)]] at h3; exact h3; rw [if_neg hv9]; rw [show GN B 0 9999 r = (0, lxe B r.2.1, r.2.2) from by unfold GN; rw [if_pos (by omega), if_pos (by omega), if_pos (by omega)]] at h3 hq29b; rw [hq29b.1 rfl] at h3; exact h3⟩
  | exact ⟨S2, rfl, by unfold tOne; rw [if_pos (show r.1 = 0 by omega), if_neg (by omega), if_pos c43]; exact h2⟩
  | exact ⟨S2, rfl, by unfold tOne; rw [if_pos (show r.1 = 0 by omega), if_neg (by omega), if_neg c43, if_pos (by omega)]; exact h2⟩
  | exact ⟨_, rfl, by unfold tOne; rw [if_pos (show r.1 = 0 by omega), if_neg (by omega), if_neg c43, if_neg (by omega)]; exact h.ref (by omega)⟩)
          · refine L_i2 dX3_readOne_66 ?_
            refine J_bipush dX3_readOne_67 (by decide) ?_
            refine J_icmp_eq 84 dX3_readOne_69 rfl (by omega) (by omega) (fun c69 => ?_) (fun c69 => ?_)
            · refine L_a0 dX3_readOne_84 ?_
              refine L_i2 dX3_readOne_85 ?_
              refine L_i1 dX3_readOne_86 ?_
              refine C_v2U vX3_127 dX3_readOne_87 (qX3_readOpenedN h (by omega)) rfl rfl (Nat.le_of_ble_eq_true rfl) (by omega) (fun hp87 hq87 => ?_)
              obtain ⟨S2, rfl, h2⟩ := hq87
              refine E_goto 98 dX3_readOne_90 rfl ?_
              exact RQ_v rfl dX3_readOne_98 (by first
  | exact ⟨S3, rfl, by unfold tOne; rw [if_pos (show r.1 = 0 by omega), if_pos (by omega)]; by_cases hv9 : 9999 < lxv B r.2.1; rw [if_pos hv9]; rw [show GN B 0 9999 r = (2, r.2.1, r.2.2) from by unfold GN; rw [if_pos (by omega), if_pos (by omega), if_neg (by omega)]] at h3; exact h3; rw [if_neg hv9]; rw [show GN B 0 9999 r = (0, lxe B r.2.1, r.2.2) from by unfold GN; rw [if_pos (by omega), if_pos (by omega), if_pos (by omega)]] at h3 hq29b; rw [hq29b.1 rfl] at h3; exact h3⟩
  | exact ⟨S2, rfl, by unfold tOne; rw [if_pos (show r.1 = 0 by omega), if_neg (by omega), if_pos c43]; exact h2⟩
  | exact ⟨S2, rfl, by unfold tOne; rw [if_pos (show r.1 = 0 by omega), if_neg (by omega), if_neg c43, if_pos (by omega)]; exact h2⟩
  | exact ⟨_, rfl, by unfold tOne; rw [if_pos (show r.1 = 0 by omega), if_neg (by omega), if_neg c43, if_neg (by omega)]; exact h.ref (by omega)⟩)
            · refine L_i2 dX3_readOne_72 ?_
              refine J_bipush dX3_readOne_73 (by decide) ?_
              refine J_icmp_eq 84 dX3_readOne_75 rfl (by omega) (by omega) (fun c75 => ?_) (fun c75 => ?_)
              · refine L_a0 dX3_readOne_84 ?_
                refine L_i2 dX3_readOne_85 ?_
                refine L_i1 dX3_readOne_86 ?_
                refine C_v2U vX3_127 dX3_readOne_87 (qX3_readOpenedN h (by omega)) rfl rfl (Nat.le_of_ble_eq_true rfl) (by omega) (fun hp87 hq87 => ?_)
                obtain ⟨S2, rfl, h2⟩ := hq87
                refine E_goto 98 dX3_readOne_90 rfl ?_
                exact RQ_v rfl dX3_readOne_98 (by first
  | exact ⟨S3, rfl, by unfold tOne; rw [if_pos (show r.1 = 0 by omega), if_pos (by omega)]; by_cases hv9 : 9999 < lxv B r.2.1; rw [if_pos hv9]; rw [show GN B 0 9999 r = (2, r.2.1, r.2.2) from by unfold GN; rw [if_pos (by omega), if_pos (by omega), if_neg (by omega)]] at h3; exact h3; rw [if_neg hv9]; rw [show GN B 0 9999 r = (0, lxe B r.2.1, r.2.2) from by unfold GN; rw [if_pos (by omega), if_pos (by omega), if_pos (by omega)]] at h3 hq29b; rw [hq29b.1 rfl] at h3; exact h3⟩
  | exact ⟨S2, rfl, by unfold tOne; rw [if_pos (show r.1 = 0 by omega), if_neg (by omega), if_pos c43]; exact h2⟩
  | exact ⟨S2, rfl, by unfold tOne; rw [if_pos (show r.1 = 0 by omega), if_neg (by omega), if_neg c43, if_pos (by omega)]; exact h2⟩
  | exact ⟨_, rfl, by unfold tOne; rw [if_pos (show r.1 = 0 by omega), if_neg (by omega), if_neg c43, if_neg (by omega)]; exact h.ref (by omega)⟩)
              · refine L_i2 dX3_readOne_78 ?_
                refine J_bipush dX3_readOne_79 (by decide) ?_
                refine J_icmp_ne 93 dX3_readOne_81 rfl (by omega) (by omega) (fun c81 => ?_) (fun c81 => ?_)
                · refine L_a0 dX3_readOne_93 ?_
                  refine J_iconst dX3_readOne_94 ?_
                  refine C_v1V vX3_79 dX3_readOne_95 (qX3_refuse (by omega)) rfl rfl (Nat.le_of_ble_eq_true rfl) (by omega) ?_
                  exact RQ_v rfl dX3_readOne_98 (by first
  | exact ⟨S3, rfl, by unfold tOne; rw [if_pos (show r.1 = 0 by omega), if_pos (by omega)]; by_cases hv9 : 9999 < lxv B r.2.1; rw [if_pos hv9]; rw [show GN B 0 9999 r = (2, r.2.1, r.2.2) from by unfold GN; rw [if_pos (by omega), if_pos (by omega), if_neg (by omega)]] at h3; exact h3; rw [if_neg hv9]; rw [show GN B 0 9999 r = (0, lxe B r.2.1, r.2.2) from by unfold GN; rw [if_pos (by omega), if_pos (by omega), if_pos (by omega)]] at h3 hq29b; rw [hq29b.1 rfl] at h3; exact h3⟩
  | exact ⟨S2, rfl, by unfold tOne; rw [if_pos (show r.1 = 0 by omega), if_neg (by omega), if_pos c43]; exact h2⟩
  | exact ⟨S2, rfl, by unfold tOne; rw [if_pos (show r.1 = 0 by omega), if_neg (by omega), if_neg c43, if_pos (by omega)]; exact h2⟩
  | exact ⟨_, rfl, by unfold tOne; rw [if_pos (show r.1 = 0 by omega), if_neg (by omega), if_neg c43, if_neg (by omega)]; exact h.ref (by omega)⟩)
                · refine L_a0 dX3_readOne_84 ?_
                  refine L_i2 dX3_readOne_85 ?_
                  refine L_i1 dX3_readOne_86 ?_
                  refine C_v2U vX3_127 dX3_readOne_87 (qX3_readOpenedN h (by omega)) rfl rfl (Nat.le_of_ble_eq_true rfl) (by omega) (fun hp87 hq87 => ?_)
                  obtain ⟨S2, rfl, h2⟩ := hq87
                  refine E_goto 98 dX3_readOne_90 rfl ?_
                  exact RQ_v rfl dX3_readOne_98 (by first
  | exact ⟨S3, rfl, by unfold tOne; rw [if_pos (show r.1 = 0 by omega), if_pos (by omega)]; by_cases hv9 : 9999 < lxv B r.2.1; rw [if_pos hv9]; rw [show GN B 0 9999 r = (2, r.2.1, r.2.2) from by unfold GN; rw [if_pos (by omega), if_pos (by omega), if_neg (by omega)]] at h3; exact h3; rw [if_neg hv9]; rw [show GN B 0 9999 r = (0, lxe B r.2.1, r.2.2) from by unfold GN; rw [if_pos (by omega), if_pos (by omega), if_pos (by omega)]] at h3 hq29b; rw [hq29b.1 rfl] at h3; exact h3⟩
  | exact ⟨S2, rfl, by unfold tOne; rw [if_pos (show r.1 = 0 by omega), if_neg (by omega), if_pos c43]; exact h2⟩
  | exact ⟨S2, rfl, by unfold tOne; rw [if_pos (show r.1 = 0 by omega), if_neg (by omega), if_neg c43, if_pos (by omega)]; exact h2⟩
  | exact ⟨_, rfl, by unfold tOne; rw [if_pos (show r.1 = 0 by omega), if_neg (by omega), if_neg c43, if_neg (by omega)]; exact h.ref (by omega)⟩)
      · refine L_a0 dX3_readOne_46 ?_
        refine L_i2 dX3_readOne_47 ?_
        refine C_v1U vX3_124 dX3_readOne_48 (qX3_readName h he (by omega) h7 hs0 c43) rfl rfl (Nat.le_of_ble_eq_true rfl) (by omega) (fun hp48 hq48 => ?_)
        obtain ⟨S2, rfl, h2⟩ := hq48
        refine E_goto 98 dX3_readOne_51 rfl ?_
        exact RQ_v rfl dX3_readOne_98 (by first
  | exact ⟨S3, rfl, by unfold tOne; rw [if_pos (show r.1 = 0 by omega), if_pos (by omega)]; by_cases hv9 : 9999 < lxv B r.2.1; rw [if_pos hv9]; rw [show GN B 0 9999 r = (2, r.2.1, r.2.2) from by unfold GN; rw [if_pos (by omega), if_pos (by omega), if_neg (by omega)]] at h3; exact h3; rw [if_neg hv9]; rw [show GN B 0 9999 r = (0, lxe B r.2.1, r.2.2) from by unfold GN; rw [if_pos (by omega), if_pos (by omega), if_pos (by omega)]] at h3 hq29b; rw [hq29b.1 rfl] at h3; exact h3⟩
  | exact ⟨S2, rfl, by unfold tOne; rw [if_pos (show r.1 = 0 by omega), if_neg (by omega), if_pos c43]; exact h2⟩
  | exact ⟨S2, rfl, by unfold tOne; rw [if_pos (show r.1 = 0 by omega), if_neg (by omega), if_neg c43, if_pos (by omega)]; exact h2⟩
  | exact ⟨_, rfl, by unfold tOne; rw [if_pos (show r.1 = 0 by omega), if_neg (by omega), if_neg c43, if_neg (by omega)]; exact h.ref (by omega)⟩)
    · refine L_a0 dX3_readOne_21 ?_
      refine J_bipush dX3_readOne_22 (by decide) ?_
      refine L_a0 dX3_readOne_24 ?_
      refine J_iconst dX3_readOne_25 ?_
      refine J_sipush dX3_readOne_26 (by decide) ?_
      refine C_v2I vX3_96 dX3_readOne_29 (qX3_readNumber h (lo := 0) (top := 9999) (by omega) (by omega)) rfl rfl (Nat.le_of_ble_eq_true rfl) (by omega) (fun v29 hp29 hq29 => ?_)
      obtain ⟨⟨S2, rfl, h2⟩, hq29b⟩ := hq29
      refine J_iadd dX3_readOne_32 ?_
      refine C_v1U vX3_114 dX3_readOne_33 (qX3_emit (e := e) (show RS3 B n S0 S2 (e + 1) (GN B 0 9999 r) from by by_cases hg : (GN B 0 9999 r).1 = 0; rw [if_pos hg] at h2; exact h2; exact h2.bad hg) (by omega)) rfl rfl (Nat.le_of_ble_eq_true rfl) (by omega) (fun hp33 hq33 => ?_)
      obtain ⟨S3, rfl, h3⟩ := hq33
      refine E_goto 98 dX3_readOne_36 rfl ?_
      exact RQ_v rfl dX3_readOne_98 (by first
  | exact ⟨S3, rfl, by unfold tOne; rw [if_pos (show r.1 = 0 by omega), if_pos (by omega)]; by_cases hv9 : 9999 < lxv B r.2.1; rw [if_pos hv9]; rw [show GN B 0 9999 r = (2, r.2.1, r.2.2) from by unfold GN; rw [if_pos (by omega), if_pos (by omega), if_neg (by omega)]] at h3; exact h3; rw [if_neg hv9]; rw [show GN B 0 9999 r = (0, lxe B r.2.1, r.2.2) from by unfold GN; rw [if_pos (by omega), if_pos (by omega), if_pos (by omega)]] at h3 hq29b; rw [hq29b.1 rfl] at h3; exact h3⟩
  | exact ⟨S2, rfl, by unfold tOne; rw [if_pos (show r.1 = 0 by omega), if_neg (by omega), if_pos c43]; exact h2⟩
  | exact ⟨S2, rfl, by unfold tOne; rw [if_pos (show r.1 = 0 by omega), if_neg (by omega), if_neg c43, if_pos (by omega)]; exact h2⟩
  | exact ⟨_, rfl, by unfold tOne; rw [if_pos (show r.1 = 0 by omega), if_neg (by omega), if_neg c43, if_neg (by omega)]; exact h.ref (by omega)⟩)
  · exact RQ_v rfl dX3_readOne_7 ⟨S, rfl, by unfold tOne; rw [if_neg (by omega)]; exact h⟩
set_option maxRecDepth 100000 in
theorem qX3_readOneS {d : Nat} {o : Int} {B : Nat → Int} {n : Nat} {s0 : Int} (hs0 : s0 = 3 ∨ s0 = 4) {p : (RR → RR) × (RR → RR)} (ho : 0 ≤ o ∧ o ≤ 7) (hO : RDC yX3_readOne cX3_readOne 3 d (o + 1) B n s0 p.1) (hA : RDC yX3_readAsk cX3_readAsk 2 (d + 4) (o + 1) B n s0 p.2) : RDC yX3_readOne cX3_readOne 3 (d + 8) o B n s0 (tOne B s0 (some p)) := by
  intro S0 S T D e r he h7 h
  obtain ⟨i1, hi, hw, hc, hd⟩ := h.2.2.2.2.2.2
  have hs := h.2.2.1
  have hf := h.2.2.2.2.1
  have hb := h.2.2.2.1
  have hkB := kd_B B r.2.1
  have hvB := lxv_B B r.2.1
  refine Sp.of [.ref 3, .int (jI o), .retAddr 0] (by decide) (by simp) (Nat.le_of_ble_eq_true rfl) rfl (fun E => ?_)
  refine L_a0 dX3_readOne_0 ?_
  refine GW_3_10 fX3_48 dX3_readOne_1 ?_
  refine J_eqi (b := r.1) hf ?_
  refine J_if_eq 8 dX3_readOne_4 rfl (by omega) (fun c4 => ?_) (fun c4 => ?_)
  · refine L_a0 dX3_readOne_8 ?_
    refine GW_3_0 fX3_12 dX3_readOne_9 ?_
    refine C_v0F vX3_58 dX3_readOne_12 (qX6_kind hs hi hw) rfl rfl (Nat.le_of_ble_eq_true rfl) (by omega) ?_
    refine J_eqi (b := kd B r.2.1) (by rw [hc]) ?_
    refine S_i2 dX3_readOne_15 (by decide) rfl ?_
    refine L_i2 dX3_readOne_16 ?_
    refine J_iconst dX3_readOne_17 ?_
    refine J_icmp_ne 39 dX3_readOne_18 rfl (by omega) (by omega) (fun c18 => ?_) (fun c18 => ?_)
    · refine L_i2 dX3_readOne_39 ?_
      refine C_s1F vX3_120 dX3_readOne_40 (qX6_isName (by omega)) (Nat.le_of_ble_eq_true rfl) (by omega) ?_
      refine J_ifeqB 54 dX3_readOne_43 rfl (fun c43 => ?_) (fun c43 => ?_)
      · refine L_i2 dX3_readOne_54 ?_
        refine J_bipush dX3_readOne_55 (by decide) ?_
        refine J_icmp_eq 84 dX3_readOne_57 rfl (by omega) (by omega) (fun c57 => ?_) (fun c57 => ?_)
        · refine L_a0 dX3_readOne_84 ?_
          refine L_i2 dX3_readOne_85 ?_
          refine L_i1 dX3_readOne_86 ?_
          refine C_v2U vX3_127 dX3_readOne_87 (qX3_readOpenedS ho hO hA he h7 h (by omega) (by omega)) rfl rfl (Nat.le_of_ble_eq_true rfl) (by omega) (fun hp87 hq87 => ?_)
          obtain ⟨S2, rfl, h2⟩ := hq87
          refine E_goto 98 dX3_readOne_90 rfl ?_
          exact RQ_v rfl dX3_readOne_98 (by first
  | exact ⟨S3, rfl, by unfold tOne; rw [if_pos (show r.1 = 0 by omega), if_pos (by omega)]; by_cases hv9 : 9999 < lxv B r.2.1; rw [if_pos hv9]; rw [show GN B 0 9999 r = (2, r.2.1, r.2.2) from by unfold GN; rw [if_pos (by omega), if_pos (by omega), if_neg (by omega)]] at h3; exact h3; rw [if_neg hv9]; rw [show GN B 0 9999 r = (0, lxe B r.2.1, r.2.2) from by unfold GN; rw [if_pos (by omega), if_pos (by omega), if_pos (by omega)]] at h3 hq29b; rw [hq29b.1 rfl] at h3; exact h3⟩
  | exact ⟨S2, rfl, by unfold tOne; rw [if_pos (show r.1 = 0 by omega), if_neg (by omega), if_pos c43]; exact h2⟩
  | exact ⟨S2, rfl, by unfold tOne; rw [if_pos (show r.1 = 0 by omega), if_neg (by omega), if_neg c43, if_pos (by omega)]; exact h2⟩
  | exact ⟨_, rfl, by unfold tOne; rw [if_pos (show r.1 = 0 by omega), if_neg (by omega), if_neg c43, if_neg (by omega)]; exact h.ref (by omega)⟩)
        · refine L_i2 dX3_readOne_60 ?_
          refine J_bipush dX3_readOne_61 (by decide) ?_
          refine J_icmp_eq 84 dX3_readOne_63 rfl (by omega) (by omega) (fun c63 => ?_) (fun c63 => ?_)
          · refine L_a0 dX3_readOne_84 ?_
            refine L_i2 dX3_readOne_85 ?_
            refine L_i1 dX3_readOne_86 ?_
            refine C_v2U vX3_127 dX3_readOne_87 (qX3_readOpenedS ho hO hA he h7 h (by omega) (by omega)) rfl rfl (Nat.le_of_ble_eq_true rfl) (by omega) (fun hp87 hq87 => ?_)
            obtain ⟨S2, rfl, h2⟩ := hq87
            refine E_goto 98 dX3_readOne_90 rfl ?_
            exact RQ_v rfl dX3_readOne_98 (by first
  | exact ⟨S3, rfl, by unfold tOne; rw [if_pos (show r.1 = 0 by omega), if_pos (by omega)]; by_cases hv9 : 9999 < lxv B r.2.1; rw [if_pos hv9]; rw [show GN B 0 9999 r = (2, r.2.1, r.2.2) from by unfold GN; rw [if_pos (by omega), if_pos (by omega), if_neg (by omega)]] at h3; exact h3; rw [if_neg hv9]; rw [show GN B 0 9999 r = (0, lxe B r.2.1, r.2.2) from by unfold GN; rw [if_pos (by omega), if_pos (by omega), if_pos (by omega)]] at h3 hq29b; rw [hq29b.1 rfl] at h3; exact h3⟩
  | exact ⟨S2, rfl, by unfold tOne; rw [if_pos (show r.1 = 0 by omega), if_neg (by omega), if_pos c43]; exact h2⟩
  | exact ⟨S2, rfl, by unfold tOne; rw [if_pos (show r.1 = 0 by omega), if_neg (by omega), if_neg c43, if_pos (by omega)]; exact h2⟩
  | exact ⟨_, rfl, by unfold tOne; rw [if_pos (show r.1 = 0 by omega), if_neg (by omega), if_neg c43, if_neg (by omega)]; exact h.ref (by omega)⟩)
          · refine L_i2 dX3_readOne_66 ?_
            refine J_bipush dX3_readOne_67 (by decide) ?_
            refine J_icmp_eq 84 dX3_readOne_69 rfl (by omega) (by omega) (fun c69 => ?_) (fun c69 => ?_)
            · refine L_a0 dX3_readOne_84 ?_
              refine L_i2 dX3_readOne_85 ?_
              refine L_i1 dX3_readOne_86 ?_
              refine C_v2U vX3_127 dX3_readOne_87 (qX3_readOpenedS ho hO hA he h7 h (by omega) (by omega)) rfl rfl (Nat.le_of_ble_eq_true rfl) (by omega) (fun hp87 hq87 => ?_)
              obtain ⟨S2, rfl, h2⟩ := hq87
              refine E_goto 98 dX3_readOne_90 rfl ?_
              exact RQ_v rfl dX3_readOne_98 (by first
  | exact ⟨S3, rfl, by unfold tOne; rw [if_pos (show r.1 = 0 by omega), if_pos (by omega)]; by_cases hv9 : 9999 < lxv B r.2.1; rw [if_pos hv9]; rw [show GN B 0 9999 r = (2, r.2.1, r.2.2) from by unfold GN; rw [if_pos (by omega), if_pos (by omega), if_neg (by omega)]] at h3; exact h3; rw [if_neg hv9]; rw [show GN B 0 9999 r = (0, lxe B r.2.1, r.2.2) from by unfold GN; rw [if_pos (by omega), if_pos (by omega), if_pos (by omega)]] at h3 hq29b; rw [hq29b.1 rfl] at h3; exact h3⟩
  | exact ⟨S2, rfl, by unfold tOne; rw [if_pos (show r.1 = 0 by omega), if_neg (by omega), if_pos c43]; exact h2⟩
  | exact ⟨S2, rfl, by unfold tOne; rw [if_pos (show r.1 = 0 by omega), if_neg (by omega), if_neg c43, if_pos (by omega)]; exact h2⟩
  | exact ⟨_, rfl, by unfold tOne; rw [if_pos (show r.1 = 0 by omega), if_neg (by omega), if_neg c43, if_neg (by omega)]; exact h.ref (by omega)⟩)
            · refine L_i2 dX3_readOne_72 ?_
              refine J_bipush dX3_readOne_73 (by decide) ?_
              refine J_icmp_eq 84 dX3_readOne_75 rfl (by omega) (by omega) (fun c75 => ?_) (fun c75 => ?_)
              · refine L_a0 dX3_readOne_84 ?_
                refine L_i2 dX3_readOne_85 ?_
                refine L_i1 dX3_readOne_86 ?_
                refine C_v2U vX3_127 dX3_readOne_87 (qX3_readOpenedS ho hO hA he h7 h (by omega) (by omega)) rfl rfl (Nat.le_of_ble_eq_true rfl) (by omega) (fun hp87 hq87 => ?_)
                obtain ⟨S2, rfl, h2⟩ := hq87
                refine E_goto 98 dX3_readOne_90 rfl ?_
                exact RQ_v rfl dX3_readOne_98 (by first
  | exact ⟨S3, rfl, by unfold tOne; rw [if_pos (show r.1 = 0 by omega), if_pos (by omega)]; by_cases hv9 : 9999 < lxv B r.2.1; rw [if_pos hv9]; rw [show GN B 0 9999 r = (2, r.2.1, r.2.2) from by unfold GN; rw [if_pos (by omega), if_pos (by omega), if_neg (by omega)]] at h3; exact h3; rw [if_neg hv9]; rw [show GN B 0 9999 r = (0, lxe B r.2.1, r.2.2) from by unfold GN; rw [if_pos (by omega), if_pos (by omega), if_pos (by omega)]] at h3 hq29b; rw [hq29b.1 rfl] at h3; exact h3⟩
  | exact ⟨S2, rfl, by unfold tOne; rw [if_pos (show r.1 = 0 by omega), if_neg (by omega), if_pos c43]; exact h2⟩
  | exact ⟨S2, rfl, by unfold tOne; rw [if_pos (show r.1 = 0 by omega), if_neg (by omega), if_neg c43, if_pos (by omega)]; exact h2⟩
  | exact ⟨_, rfl, by unfold tOne; rw [if_pos (show r.1 = 0 by omega), if_neg (by omega), if_neg c43, if_neg (by omega)]; exact h.ref (by omega)⟩)
              · refine L_i2 dX3_readOne_78 ?_
                refine J_bipush dX3_readOne_79 (by decide) ?_
                refine J_icmp_ne 93 dX3_readOne_81 rfl (by omega) (by omega) (fun c81 => ?_) (fun c81 => ?_)
                · refine L_a0 dX3_readOne_93 ?_
                  refine J_iconst dX3_readOne_94 ?_
                  refine C_v1V vX3_79 dX3_readOne_95 (qX3_refuse (by omega)) rfl rfl (Nat.le_of_ble_eq_true rfl) (by omega) ?_
                  exact RQ_v rfl dX3_readOne_98 (by first
  | exact ⟨S3, rfl, by unfold tOne; rw [if_pos (show r.1 = 0 by omega), if_pos (by omega)]; by_cases hv9 : 9999 < lxv B r.2.1; rw [if_pos hv9]; rw [show GN B 0 9999 r = (2, r.2.1, r.2.2) from by unfold GN; rw [if_pos (by omega), if_pos (by omega), if_neg (by omega)]] at h3; exact h3; rw [if_neg hv9]; rw [show GN B 0 9999 r = (0, lxe B r.2.1, r.2.2) from by unfold GN; rw [if_pos (by omega), if_pos (by omega), if_pos (by omega)]] at h3 hq29b; rw [hq29b.1 rfl] at h3; exact h3⟩
  | exact ⟨S2, rfl, by unfold tOne; rw [if_pos (show r.1 = 0 by omega), if_neg (by omega), if_pos c43]; exact h2⟩
  | exact ⟨S2, rfl, by unfold tOne; rw [if_pos (show r.1 = 0 by omega), if_neg (by omega), if_neg c43, if_pos (by omega)]; exact h2⟩
  | exact ⟨_, rfl, by unfold tOne; rw [if_pos (show r.1 = 0 by omega), if_neg (by omega), if_neg c43, if_neg (by omega)]; exact h.ref (by omega)⟩)
                · refine L_a0 dX3_readOne_84 ?_
                  refine L_i2 dX3_readOne_85 ?_
                  refine L_i1 dX3_readOne_86 ?_
                  refine C_v2U vX3_127 dX3_readOne_87 (qX3_readOpenedS ho hO hA he h7 h (by omega) (by omega)) rfl rfl (Nat.le_of_ble_eq_true rfl) (by omega) (fun hp87 hq87 => ?_)
                  obtain ⟨S2, rfl, h2⟩ := hq87
                  refine E_goto 98 dX3_readOne_90 rfl ?_
                  exact RQ_v rfl dX3_readOne_98 (by first
  | exact ⟨S3, rfl, by unfold tOne; rw [if_pos (show r.1 = 0 by omega), if_pos (by omega)]; by_cases hv9 : 9999 < lxv B r.2.1; rw [if_pos hv9]; rw [show GN B 0 9999 r = (2, r.2.1, r.2.2) from by unfold GN; rw [if_pos (by omega), if_pos (by omega), if_neg (by omega)]] at h3; exact h3; rw [if_neg hv9]; rw [show GN B 0 9999 r = (0, lxe B r.2.1, r.2.2) from by unfold GN; rw [if_pos (by omega), if_pos (by omega), if_pos (by omega)]] at h3 hq29b; rw [hq29b.1 rfl] at h3; exact h3⟩
  | exact ⟨S2, rfl, by unfold tOne; rw [if_pos (show r.1 = 0 by omega), if_neg (by omega), if_pos c43]; exact h2⟩
  | exact ⟨S2, rfl, by unfold tOne; rw [if_pos (show r.1 = 0 by omega), if_neg (by omega), if_neg c43, if_pos (by omega)]; exact h2⟩
  | exact ⟨_, rfl, by unfold tOne; rw [if_pos (show r.1 = 0 by omega), if_neg (by omega), if_neg c43, if_neg (by omega)]; exact h.ref (by omega)⟩)
      · refine L_a0 dX3_readOne_46 ?_
        refine L_i2 dX3_readOne_47 ?_
        refine C_v1U vX3_124 dX3_readOne_48 (qX3_readName h he (by omega) h7 hs0 c43) rfl rfl (Nat.le_of_ble_eq_true rfl) (by omega) (fun hp48 hq48 => ?_)
        obtain ⟨S2, rfl, h2⟩ := hq48
        refine E_goto 98 dX3_readOne_51 rfl ?_
        exact RQ_v rfl dX3_readOne_98 (by first
  | exact ⟨S3, rfl, by unfold tOne; rw [if_pos (show r.1 = 0 by omega), if_pos (by omega)]; by_cases hv9 : 9999 < lxv B r.2.1; rw [if_pos hv9]; rw [show GN B 0 9999 r = (2, r.2.1, r.2.2) from by unfold GN; rw [if_pos (by omega), if_pos (by omega), if_neg (by omega)]] at h3; exact h3; rw [if_neg hv9]; rw [show GN B 0 9999 r = (0, lxe B r.2.1, r.2.2) from by unfold GN; rw [if_pos (by omega), if_pos (by omega), if_pos (by omega)]] at h3 hq29b; rw [hq29b.1 rfl] at h3; exact h3⟩
  | exact ⟨S2, rfl, by unfold tOne; rw [if_pos (show r.1 = 0 by omega), if_neg (by omega), if_pos c43]; exact h2⟩
  | exact ⟨S2, rfl, by unfold tOne; rw [if_pos (show r.1 = 0 by omega), if_neg (by omega), if_neg c43, if_pos (by omega)]; exact h2⟩
  | exact ⟨_, rfl, by unfold tOne; rw [if_pos (show r.1 = 0 by omega), if_neg (by omega), if_neg c43, if_neg (by omega)]; exact h.ref (by omega)⟩)
    · refine L_a0 dX3_readOne_21 ?_
      refine J_bipush dX3_readOne_22 (by decide) ?_
      refine L_a0 dX3_readOne_24 ?_
      refine J_iconst dX3_readOne_25 ?_
      refine J_sipush dX3_readOne_26 (by decide) ?_
      refine C_v2I vX3_96 dX3_readOne_29 (qX3_readNumber h (lo := 0) (top := 9999) (by omega) (by omega)) rfl rfl (Nat.le_of_ble_eq_true rfl) (by omega) (fun v29 hp29 hq29 => ?_)
      obtain ⟨⟨S2, rfl, h2⟩, hq29b⟩ := hq29
      refine J_iadd dX3_readOne_32 ?_
      refine C_v1U vX3_114 dX3_readOne_33 (qX3_emit (e := e) (show RS3 B n S0 S2 (e + 1) (GN B 0 9999 r) from by by_cases hg : (GN B 0 9999 r).1 = 0; rw [if_pos hg] at h2; exact h2; exact h2.bad hg) (by omega)) rfl rfl (Nat.le_of_ble_eq_true rfl) (by omega) (fun hp33 hq33 => ?_)
      obtain ⟨S3, rfl, h3⟩ := hq33
      refine E_goto 98 dX3_readOne_36 rfl ?_
      exact RQ_v rfl dX3_readOne_98 (by first
  | exact ⟨S3, rfl, by unfold tOne; rw [if_pos (show r.1 = 0 by omega), if_pos (by omega)]; by_cases hv9 : 9999 < lxv B r.2.1; rw [if_pos hv9]; rw [show GN B 0 9999 r = (2, r.2.1, r.2.2) from by unfold GN; rw [if_pos (by omega), if_pos (by omega), if_neg (by omega)]] at h3; exact h3; rw [if_neg hv9]; rw [show GN B 0 9999 r = (0, lxe B r.2.1, r.2.2) from by unfold GN; rw [if_pos (by omega), if_pos (by omega), if_pos (by omega)]] at h3 hq29b; rw [hq29b.1 rfl] at h3; exact h3⟩
  | exact ⟨S2, rfl, by unfold tOne; rw [if_pos (show r.1 = 0 by omega), if_neg (by omega), if_pos c43]; exact h2⟩
  | exact ⟨S2, rfl, by unfold tOne; rw [if_pos (show r.1 = 0 by omega), if_neg (by omega), if_neg c43, if_pos (by omega)]; exact h2⟩
  | exact ⟨_, rfl, by unfold tOne; rw [if_pos (show r.1 = 0 by omega), if_neg (by omega), if_neg c43, if_neg (by omega)]; exact h.ref (by omega)⟩)
  · exact RQ_v rfl dX3_readOne_7 ⟨S, rfl, by unfold tOne; rw [if_neg (by omega)]; exact h⟩
theorem FAM {B : Nat → Int} {n : Nat} {s0 : Int} (hs0 : s0 = 3 ∨ s0 = 4) : ∀ m : Nat, m ≤ 8 → RDC yX3_readOne cX3_readOne 3 (8 * m + 3) (8 - (m : Int)) B n s0 (fam B s0 m).1 ∧ RDC yX3_readAsk cX3_readAsk 2 (8 * m + 3 + 4) (8 - (m : Int)) B n s0 (fam B s0 m).2 := by
  intro m
  induction m with
  | zero =>
    intro _
    have h1 := qX3_readOneN (B := B) (n := n) hs0
    exact ⟨h1, qX3_readAskN h1⟩
  | succ m ih =>
    intro hm
    have h2 := ih (by omega)
    have eo : (8 - ((m + 1 : Nat) : Int)) + 1 = 8 - (m : Int) := by omega
    have hO : RDC yX3_readOne cX3_readOne 3 (8 * m + 3) ((8 - ((m + 1 : Nat) : Int)) + 1) B n s0 (fam B s0 m).1 := by rw [eo]; exact h2.1
    have hA : RDC yX3_readAsk cX3_readAsk 2 (8 * m + 3 + 4) ((8 - ((m + 1 : Nat) : Int)) + 1) B n s0 (fam B s0 m).2 := by rw [eo]; exact h2.2
    have h1 := qX3_readOneS hs0 (o := 8 - ((m + 1 : Nat) : Int)) (by omega) hO hA
    exact ⟨h1, qX3_readAskS hA (by omega) (by omega) h1⟩
theorem qX3_readSum0 {B : Nat → Int} {n : Nat} {s0 : Int} (hs0 : s0 = 3 ∨ s0 = 4) : RDC yX3_readSum cX3_readSum 4 69 0 B n s0 (tSu B (fam B s0 8).1) := qX3_readSumO (FAM hs0 8 (by omega)).1
