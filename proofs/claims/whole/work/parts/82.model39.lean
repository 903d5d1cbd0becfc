theorem nT_blank {E : mx_E} {S T : Nat → Int → Int} {D : List mx_C} {Q : List mx_C → Prop} (hp : TP T) {p : Nat} {u1 : Value} (hk : ∀ T1 : Nat → Int → Int, NX T T1 → T1 36 7 = (p : Int) → Ev E yX11_nextToken cX11_nextToken 2 none (kU E 1 Q) 0 0 39 [.ref 36, u1] [] (W5 S T1 D)) : ∀ (m c : Nat) (T1 : Nat → Int → Int), NX T T1 → T1 36 7 = (c : Int) → (T 36 4 < c + m ∧ c + m ≤ 1000) → skp (byF T) m c = p → Ev E yX11_nextToken cX11_nextToken 2 none (kU E 1 Q) 0 0 0 [.ref 36, u1] [] (W5 S T1 D) := by
  intro m
  induction m with
  | zero =>
    intro c T1 hN h7 hm hres
    have h4 := hp.1
    have hbb := byF_B hp c
    have hby : byF T1 c = byF T c := by rw [hN.by]
    have ho := byF_out (T := T) (k := c) (by omega)
    have hres : c = p := hres
    refine L_a0 dX11_nextToken_0 ?_
    refine L_a0 dX11_nextToken_1 ?_
    refine GW_36_7 fX11_105 dX11_nextToken_2 ?_
    refine J_eqi (b := (c : Int)) h7 ?_
    refine C_v1F vX11_108 dX11_nextToken_5 (qX11_byteAt (hN.tp hp) (by omega)) rfl rfl (Nat.le_of_ble_eq_true rfl) (by decide) ?_
    refine J_eqi (b := byF T c) hby ?_
    refine J_bipush dX11_nextToken_8 (by decide) ?_
    refine J_icmp_eq 26 dX11_nextToken_10 rfl (by omega) (by omega) (fun c10 => ?_) (fun c10 => ?_)
    · exfalso; omega
    · refine L_a0 dX11_nextToken_13 ?_
      refine L_a0 dX11_nextToken_14 ?_
      refine GW_36_7 fX11_105 dX11_nextToken_15 ?_
      refine J_eqi (b := (c : Int)) h7 ?_
      refine C_v1F vX11_108 dX11_nextToken_18 (qX11_byteAt (hN.tp hp) (by omega)) rfl rfl (Nat.le_of_ble_eq_true rfl) (by decide) ?_
      refine J_eqi (b := byF T c) hby ?_
      refine J_bipush dX11_nextToken_21 (by decide) ?_
      refine J_icmp_ne 39 dX11_nextToken_23 rfl (by omega) (by omega) (fun c23 => ?_) (fun c23 => ?_)
      · exact hk T1 hN (by rw [h7, hres])
      · exfalso; omega
  | succ m ih =>
    intro c T1 hN h7 hm hres
    have h4 := hp.1
    have hbb := byF_B hp c
    have hby : byF T1 c = byF T c := by rw [hN.by]
    refine L_a0 dX11_nextToken_0 ?_
    refine L_a0 dX11_nextToken_1 ?_
    refine GW_36_7 fX11_105 dX11_nextToken_2 ?_
    refine J_eqi (b := (c : Int)) h7 ?_
    refine C_v1F vX11_108 dX11_nextToken_5 (qX11_byteAt (hN.tp hp) (by omega)) rfl rfl (Nat.le_of_ble_eq_true rfl) (by decide) ?_
    refine J_eqi (b := byF T c) hby ?_
    refine J_bipush dX11_nextToken_8 (by decide) ?_
    refine J_icmp_eq 26 dX11_nextToken_10 rfl (by omega) (by omega) (fun c10 => ?_) (fun c10 => ?_)
    · refine L_a0 dX11_nextToken_26 ?_
      refine E_dup dX11_nextToken_27 rfl ?_
      refine GW_36_7 fX11_105 dX11_nextToken_28 ?_
      refine J_eqi (b := (c : Int)) h7 ?_
      refine J_iconst dX11_nextToken_31 ?_
      refine J_iadd dX11_nextToken_32 ?_
      refine PW_36_7 fX11_105 dX11_nextToken_33 ?_
      refine E_goto 0 dX11_nextToken_36 rfl ?_
      exact ih (c + 1) _ (hN.up (by omega) _) (by (try unfold upF); rw [uf_s]; rfl) (by omega) (by rw [skp, if_pos (Or.inl c10)] at hres; exact hres)
    · refine L_a0 dX11_nextToken_13 ?_
      refine L_a0 dX11_nextToken_14 ?_
      refine GW_36_7 fX11_105 dX11_nextToken_15 ?_
      refine J_eqi (b := (c : Int)) h7 ?_
      refine C_v1F vX11_108 dX11_nextToken_18 (qX11_byteAt (hN.tp hp) (by omega)) rfl rfl (Nat.le_of_ble_eq_true rfl) (by decide) ?_
      refine J_eqi (b := byF T c) hby ?_
      refine J_bipush dX11_nextToken_21 (by decide) ?_
      refine J_icmp_ne 39 dX11_nextToken_23 rfl (by omega) (by omega) (fun c23 => ?_) (fun c23 => ?_)
      · exact hk T1 hN (by rw [h7]; rw [skp, if_neg (by omega)] at hres; rw [hres])
      · refine L_a0 dX11_nextToken_26 ?_
        refine E_dup dX11_nextToken_27 rfl ?_
        refine GW_36_7 fX11_105 dX11_nextToken_28 ?_
        refine J_eqi (b := (c : Int)) h7 ?_
        refine J_iconst dX11_nextToken_31 ?_
        refine J_iadd dX11_nextToken_32 ?_
        refine PW_36_7 fX11_105 dX11_nextToken_33 ?_
        refine E_goto 0 dX11_nextToken_36 rfl ?_
        exact ih (c + 1) _ (hN.up (by omega) _) (by (try unfold upF); rw [uf_s]; rfl) (by omega) (by rw [skp, if_pos (Or.inr c23)] at hres; exact hres)
theorem nT_dig {E : mx_E} {S T : Nat → Int → Int} {D : List mx_C} {Q : List mx_C → Prop} (hp : TP T) {p e : Nat} {r x : Int} (hq : ∀ T1 : Nat → Int → Int, NX T T1 → T1 36 7 = (e : Int) → T1 36 10 = r → T1 36 8 = (p : Int) → T1 36 9 = 1 → Q (W5 S T1 D)) : ∀ (m c : Nat) (v : Int) (T1 : Nat → Int → Int), NX T T1 → T1 36 7 = (c : Int) → T1 36 10 = v → T1 36 8 = (p : Int) → T1 36 9 = 1 → (0 ≤ v ∧ v ≤ 1000000) → (T 36 4 < c + m ∧ c + m ≤ 1000) → dge (byF T) m c = e → dgv (byF T) m c v = r → Ev E yX11_nextToken cX11_nextToken 2 none (kU E 1 Q) 0 0 85 [.ref 36, .int (jI x)] [] (W5 S T1 D) := by
  intro m
  induction m with
  | zero =>
    intro c v T1 hN h7 h10 h8 h9 hv hm he hr
    have h4 := hp.1
    have hbb := byF_B hp c
    have hby : byF T1 c = byF T c := by rw [hN.by]
    have ho := byF_out (T := T) (k := c) (by omega)
    have he : c = e := he
    have hr : v = r := hr
    refine L_a0 dX11_nextToken_85 ?_
    refine L_a0 dX11_nextToken_86 ?_
    refine GW_36_7 fX11_105 dX11_nextToken_87 ?_
    refine J_eqi (b := (c : Int)) h7 ?_
    refine C_v1F vX11_108 dX11_nextToken_90 (qX11_byteAt (hN.tp hp) (by omega)) rfl rfl (Nat.le_of_ble_eq_true rfl) (by decide) ?_
    refine J_eqi (b := byF T c) hby ?_
    refine C_s1F vX11_117 dX11_nextToken_93 (qX11_isFigure (by omega)) (Nat.le_of_ble_eq_true rfl) (by decide) ?_
    refine J_ifeqB 310 dX11_nextToken_96 rfl (fun c96 => ?_) (fun c96 => ?_)
    · exact RQ_v rfl dX11_nextToken_310 (hq T1 hN (by rw [h7, he]) (by rw [h10, hr]) h8 h9)
    · exfalso; omega
  | succ m ih =>
    intro c v T1 hN h7 h10 h8 h9 hv hm he hr
    have h4 := hp.1
    have hbb := byF_B hp c
    have hby : byF T1 c = byF T c := by rw [hN.by]
    rw [dge] at he
    rw [dgv] at hr
    refine L_a0 dX11_nextToken_85 ?_
    refine L_a0 dX11_nextToken_86 ?_
    refine GW_36_7 fX11_105 dX11_nextToken_87 ?_
    refine J_eqi (b := (c : Int)) h7 ?_
    refine C_v1F vX11_108 dX11_nextToken_90 (qX11_byteAt (hN.tp hp) (by omega)) rfl rfl (Nat.le_of_ble_eq_true rfl) (by decide) ?_
    refine J_eqi (b := byF T c) hby ?_
    refine C_s1F vX11_117 dX11_nextToken_93 (qX11_isFigure (by omega)) (Nat.le_of_ble_eq_true rfl) (by decide) ?_
    refine J_ifeqB 310 dX11_nextToken_96 rfl (fun c96 => ?_) (fun c96 => ?_)
    · exact RQ_v rfl dX11_nextToken_310 (hq T1 hN (by rw [h7]; rw [if_neg c96] at he; rw [he]) (by rw [h10]; rw [if_neg c96] at hr; exact hr) h8 h9)
    · refine L_a0 dX11_nextToken_99 ?_
      refine L_a0 dX11_nextToken_100 ?_
      refine GW_36_10 fX11_120 dX11_nextToken_101 ?_
      refine J_eqi (b := v) h10 ?_
      refine J_ldc (99999) dX11_nextToken_104 kX11_123 (by decide) ?_
      refine J_icmp_le 116 dX11_nextToken_106 rfl (by omega) (by omega) (fun c106 => ?_) (fun c106 => ?_)
      · refine J_bipush dX11_nextToken_116 (by decide) ?_
        refine L_a0 dX11_nextToken_118 ?_
        refine GW_36_10 fX11_120 dX11_nextToken_119 ?_
        refine J_eqi (b := v) h10 ?_
        refine J_imul dX11_nextToken_122 ?_
        refine L_a0 dX11_nextToken_123 ?_
        refine L_a0 dX11_nextToken_124 ?_
        refine GW_36_7 fX11_105 dX11_nextToken_125 ?_
        refine J_eqi (b := (c : Int)) h7 ?_
        refine C_v1F vX11_108 dX11_nextToken_128 (qX11_byteAt (hN.tp hp) (by omega)) rfl rfl (Nat.le_of_ble_eq_true rfl) (by decide) ?_
        refine J_eqi (b := byF T c) hby ?_
        refine J_iadd dX11_nextToken_131 ?_
        refine J_bipush dX11_nextToken_132 (by decide) ?_
        refine J_isub dX11_nextToken_134 ?_
        refine PW_36_10 fX11_120 dX11_nextToken_135 ?_
        refine L_a0 dX11_nextToken_138 ?_
        refine E_dup dX11_nextToken_139 rfl ?_
        refine GW_36_7 fX11_105 dX11_nextToken_140 ?_
        refine J_eqi (b := (c : Int)) (by (try unfold upF); rw [uf_n (by decide)]; exact h7) ?_
        refine J_iconst dX11_nextToken_143 ?_
        refine J_iadd dX11_nextToken_144 ?_
        refine PW_36_7 fX11_105 dX11_nextToken_145 ?_
        refine E_goto 85 dX11_nextToken_148 rfl ?_
        rw [if_pos c96] at he
        rw [if_pos c96, if_neg (by omega)] at hr
        exact ih (c + 1) _ _ ((hN.up (by omega) _).up (by omega) _) (by (try unfold upF); rw [uf_s]; rfl) (by (try unfold upF); rw [uf_n (by decide), uf_s]) (by (try unfold upF); rw [uf_n (by decide), uf_n (by decide)]; exact h8) (by (try unfold upF); rw [uf_n (by decide), uf_n (by decide)]; exact h9) (by omega) (by omega) he hr
      · refine L_a0 dX11_nextToken_109 ?_
        refine GW_36_10 fX11_120 dX11_nextToken_110 ?_
        refine J_eqi (b := v) h10 ?_
        refine E_goto 135 dX11_nextToken_113 rfl ?_
        refine PW_36_10 fX11_120 dX11_nextToken_135 ?_
        refine L_a0 dX11_nextToken_138 ?_
        refine E_dup dX11_nextToken_139 rfl ?_
        refine GW_36_7 fX11_105 dX11_nextToken_140 ?_
        refine J_eqi (b := (c : Int)) (by (try unfold upF); rw [uf_n (by decide)]; exact h7) ?_
        refine J_iconst dX11_nextToken_143 ?_
        refine J_iadd dX11_nextToken_144 ?_
        refine PW_36_7 fX11_105 dX11_nextToken_145 ?_
        refine E_goto 85 dX11_nextToken_148 rfl ?_
        rw [if_pos c96] at he
        rw [if_pos c96, if_pos (by omega)] at hr
        exact ih (c + 1) _ _ ((hN.up (by omega) _).up (by omega) _) (by (try unfold upF); rw [uf_s]; rfl) (by (try unfold upF); rw [uf_n (by decide), uf_s]) (by (try unfold upF); rw [uf_n (by decide), uf_n (by decide)]; exact h8) (by (try unfold upF); rw [uf_n (by decide), uf_n (by decide)]; exact h9) (by omega) (by omega) he hr
theorem nT_let {E : mx_E} {S T : Nat → Int → Int} {D : List mx_C} {Q : List mx_C → Prop} (hp : TP T) {p e r : Nat} {x : Int} (hq : ∀ T1 : Nat → Int → Int, NX T T1 → T1 36 7 = (e : Int) → T1 36 11 = (r : Int) → T1 36 8 = (p : Int) → T1 36 9 = 2 → Q (W5 S T1 D)) : ∀ (m c v : Nat) (T1 : Nat → Int → Int), NX T T1 → T1 36 7 = (c : Int) → T1 36 11 = (v : Int) → T1 36 8 = (p : Int) → T1 36 9 = 2 → v < 2 ^ 61 → (T 36 4 < c + m ∧ c + m ≤ 1000) → lte (byF T) m c = e → ltw (byF T) m c v = r → Ev E yX11_nextToken cX11_nextToken 2 none (kU E 1 Q) 0 0 168 [.ref 36, .int (jI x)] [] (W5 S T1 D) := by
  intro m
  induction m with
  | zero =>
    intro c v T1 hN h7 h11 h8 h9 hv hm he hr
    have h4 := hp.1
    have hbb := byF_B hp c
    have hby : byF T1 c = byF T c := by rw [hN.by]
    have ho := byF_out (T := T) (k := c) (by omega)
    have he : c = e := he
    have hr : v = r := hr
    refine L_a0 dX11_nextToken_168 ?_
    refine L_a0 dX11_nextToken_169 ?_
    refine GW_36_7 fX11_105 dX11_nextToken_170 ?_
    refine J_eqi (b := (c : Int)) h7 ?_
    refine C_v1F vX11_108 dX11_nextToken_173 (qX11_byteAt (hN.tp hp) (by omega)) rfl rfl (Nat.le_of_ble_eq_true rfl) (by decide) ?_
    refine J_eqi (b := byF T c) hby ?_
    refine C_s1F vX11_124 dX11_nextToken_176 (qX11_isLetterByte (by omega)) (Nat.le_of_ble_eq_true rfl) (by decide) ?_
    refine J_ifeqB 310 dX11_nextToken_179 rfl (fun c179 => ?_) (fun c179 => ?_)
    · exact RQ_v rfl dX11_nextToken_310 (hq T1 hN (by rw [h7, he]) (by rw [h11, hr]) h8 h9)
    · exfalso; omega
  | succ m ih =>
    intro c v T1 hN h7 h11 h8 h9 hv hm he hr
    have h4 := hp.1
    have hbb := byF_B hp c
    have hby : byF T1 c = byF T c := by rw [hN.by]
    rw [lte] at he
    rw [ltw] at hr
    refine L_a0 dX11_nextToken_168 ?_
    refine L_a0 dX11_nextToken_169 ?_
    refine GW_36_7 fX11_105 dX11_nextToken_170 ?_
    refine J_eqi (b := (c : Int)) h7 ?_
    refine C_v1F vX11_108 dX11_nextToken_173 (qX11_byteAt (hN.tp hp) (by omega)) rfl rfl (Nat.le_of_ble_eq_true rfl) (by decide) ?_
    refine J_eqi (b := byF T c) hby ?_
    refine C_s1F vX11_124 dX11_nextToken_176 (qX11_isLetterByte (by omega)) (Nat.le_of_ble_eq_true rfl) (by decide) ?_
    refine J_ifeqB 310 dX11_nextToken_179 rfl (fun c179 => ?_) (fun c179 => ?_)
    · exact RQ_v rfl dX11_nextToken_310 (hq T1 hN (by rw [h7]; rw [if_neg c179] at he; rw [he]) (by rw [h11]; rw [if_neg c179] at hr; rw [hr]) h8 h9)
    · refine L_a0 dX11_nextToken_182 ?_
      refine L_a0 dX11_nextToken_183 ?_
      refine GW_36_11 fX11_127 dX11_nextToken_184 ?_
      refine J_eql (b := (v : Int)) h11 ?_
      refine J_bipush dX11_nextToken_187 (by decide) ?_
      refine J_lshr 48 dX11_nextToken_189 (by omega) (by decide) ?_
      refine J_lconst 0 dX11_nextToken_190 (by decide) ?_
      refine JL_eq 201 dX11_nextToken_191 dX11_nextToken_192 rfl (by omega) (by omega) (fun c192 => ?_) (fun c192 => ?_)
      · refine L_a0 dX11_nextToken_201 ?_
        refine GW_36_11 fX11_127 dX11_nextToken_202 ?_
        refine J_eql (b := (v : Int)) h11 ?_
        refine J_bipush dX11_nextToken_205 (by decide) ?_
        refine J_lshl 8 dX11_nextToken_207 (by decide) ?_
        refine L_a0 dX11_nextToken_208 ?_
        refine L_a0 dX11_nextToken_209 ?_
        refine GW_36_7 fX11_105 dX11_nextToken_210 ?_
        refine J_eqi (b := (c : Int)) h7 ?_
        refine C_v1F vX11_108 dX11_nextToken_213 (qX11_byteAt (hN.tp hp) (by omega)) rfl rfl (Nat.le_of_ble_eq_true rfl) (by decide) ?_
        refine J_eqi (b := byF T c) hby ?_
        refine J_eqi (b := (((byF T c).toNat : Nat) : Int)) (by omega) ?_
        refine J_i2l dX11_nextToken_216 (by omega) ?_
        refine J_lpack (by omega) dX11_nextToken_217 ?_
        refine PW_36_11 fX11_127 dX11_nextToken_218 ?_
        refine L_a0 dX11_nextToken_221 ?_
        refine E_dup dX11_nextToken_222 rfl ?_
        refine GW_36_7 fX11_105 dX11_nextToken_223 ?_
        refine J_eqi (b := (c : Int)) (by (try unfold upF); rw [uf_n (by decide)]; exact h7) ?_
        refine J_iconst dX11_nextToken_226 ?_
        refine J_iadd dX11_nextToken_227 ?_
        refine PW_36_7 fX11_105 dX11_nextToken_228 ?_
        refine E_goto 168 dX11_nextToken_231 rfl ?_
        rw [if_pos c179] at he
        rw [if_pos c179, if_pos (by omega)] at hr
        exact ih (c + 1) _ _ ((hN.up (by omega) _).up (by omega) _) (by (try unfold upF); rw [uf_s]; rfl) (by (try unfold upF); rw [uf_n (by decide), uf_s]) (by (try unfold upF); rw [uf_n (by decide), uf_n (by decide)]; exact h8) (by (try unfold upF); rw [uf_n (by decide), uf_n (by decide)]; exact h9) (by omega) (by omega) he hr
      · refine J_ldc2 (1152921504606846976) dX11_nextToken_195 kX11_131 (by decide) ?_
        refine E_goto 218 dX11_nextToken_198 rfl ?_
        refine PW_36_11 fX11_127 dX11_nextToken_218 ?_
        refine L_a0 dX11_nextToken_221 ?_
        refine E_dup dX11_nextToken_222 rfl ?_
        refine GW_36_7 fX11_105 dX11_nextToken_223 ?_
        refine J_eqi (b := (c : Int)) (by (try unfold upF); rw [uf_n (by decide)]; exact h7) ?_
        refine J_iconst dX11_nextToken_226 ?_
        refine J_iadd dX11_nextToken_227 ?_
        refine PW_36_7 fX11_105 dX11_nextToken_228 ?_
        refine E_goto 168 dX11_nextToken_231 rfl ?_
        rw [if_pos c179] at he
        rw [if_pos c179, if_neg (by omega)] at hr
        exact ih (c + 1) _ _ ((hN.up (by omega) _).up (by omega) _) (by (try unfold upF); rw [uf_s]; rfl) (by (try unfold upF); rw [uf_n (by decide), uf_s]; rfl) (by (try unfold upF); rw [uf_n (by decide), uf_n (by decide)]; exact h8) (by (try unfold upF); rw [uf_n (by decide), uf_n (by decide)]; exact h9) (by omega) (by omega) he hr
theorem nT_rest {E : mx_E} {S T : Nat → Int → Int} {D : List mx_C} {Q : List mx_C → Prop} (hp : TP T) {c : Nat} {u1 : Value} (hu1 : u1.category = 1) (hc : c ≤ 300) (hq : ∀ T1 : Nat → Int → Int, NX T T1 → CT (byF T) T1 c → Q (W5 S T1 D)) {T1 : Nat → Int → Int} (hN : NX T T1) (h7 : T1 36 7 = (lxp (byF T) c : Int)) (hp3 : lxp (byF T) c ≤ 300) : Ev E yX11_nextToken cX11_nextToken 2 none (kU E 1 Q) 0 0 39 [.ref 36, u1] [] (W5 S T1 D) := by
  have h4 := hp.1
  have hbb := byF_B hp (lxp (byF T) c)
  have hbb2 := byF_B hp (lxp (byF T) c + 1)
  refine L_a0 dX11_nextToken_39 ?_
  refine L_a0 dX11_nextToken_40 ?_
  refine GW_36_7 fX11_105 dX11_nextToken_41 ?_
  refine J_eqi (b := ((lxp (byF T) c) : Int)) h7 ?_
  refine PW_36_8 fX11_111 dX11_nextToken_44 ?_
  refine L_a0 dX11_nextToken_47 ?_
  refine L_a0 dX11_nextToken_48 ?_
  refine GW_36_7 fX11_105 dX11_nextToken_49 ?_
  refine J_eqi (b := (lxp (byF T) c : Int)) (by (try unfold upF); rw [uf_n (by decide)]; exact h7) ?_
  refine C_v1F vX11_108 dX11_nextToken_52 (qX11_byteAt (k := lxp (byF T) c) ((hN.up (j := 8) (by omega) _).tp hp) (by omega)) rfl rfl (Nat.le_of_ble_eq_true rfl) (by decide) ?_
  refine J_eqi (b := byF T (lxp (byF T) c)) (by rw [(hN.up (j := 8) (by omega) _).by]) ?_
  refine S_i1 dX11_nextToken_55 (by decide) rfl ?_
  refine L_i1 dX11_nextToken_56 ?_
  refine J_if_ge 68 dX11_nextToken_57 rfl (by omega) (fun c57 => ?_) (fun c57 => ?_)
  · refine L_i1 dX11_nextToken_68 ?_
    refine C_s1F vX11_117 dX11_nextToken_69 (qX11_isFigure (by omega)) (Nat.le_of_ble_eq_true rfl) (by decide) ?_
    refine J_ifeqB 151 dX11_nextToken_72 rfl (fun c72 => ?_) (fun c72 => ?_)
    · refine L_i1 dX11_nextToken_151 ?_
      refine C_s1F vX11_124 dX11_nextToken_152 (qX11_isLetterByte (by omega)) (Nat.le_of_ble_eq_true rfl) (by decide) ?_
      refine J_ifeqB 234 dX11_nextToken_155 rfl (fun c155 => ?_) (fun c155 => ?_)
      · refine L_a0 dX11_nextToken_234 ?_
        refine L_i1 dX11_nextToken_235 ?_
        refine C_s1F vX11_133 dX11_nextToken_236 (qX11_isSign (by omega)) (Nat.le_of_ble_eq_true rfl) (by decide) ?_
        refine J_ifeqB 246 dX11_nextToken_239 rfl (fun c239 => ?_) (fun c239 => ?_)
        · refine J_iconst dX11_nextToken_246 ?_
          refine PW_36_9 fX11_114 dX11_nextToken_247 ?_
          refine L_a0 dX11_nextToken_250 ?_
          refine E_dup dX11_nextToken_251 rfl ?_
          refine GW_36_7 fX11_105 dX11_nextToken_252 ?_
          refine J_eqi (b := (lxp (byF T) c : Int)) (by (try unfold upF); rw [uf_n (by decide), uf_n (by decide)]; exact h7) ?_
          refine J_iconst dX11_nextToken_255 ?_
          refine J_iadd dX11_nextToken_256 ?_
          refine PW_36_7 fX11_105 dX11_nextToken_257 ?_
          refine L_i1 dX11_nextToken_260 ?_
          refine J_bipush dX11_nextToken_261 (by decide) ?_
          refine J_icmp_eq 272 dX11_nextToken_263 rfl (by omega) (by omega) (fun c263 => ?_) (fun c263 => ?_)
          · refine L_a0 dX11_nextToken_272 ?_
            refine L_a0 dX11_nextToken_273 ?_
            refine GW_36_7 fX11_105 dX11_nextToken_274 ?_
            refine J_eqi (b := ((lxp (byF T) c + 1 : Nat) : Int)) (by (try unfold upF); rw [uf_s]; rfl) ?_
            refine C_v1F vX11_108 dX11_nextToken_277 (qX11_byteAt (k := lxp (byF T) c + 1) ((((hN.up (j := 8) (by omega) _).up (j := 9) (by omega) _).up (j := 7) (by omega) _).tp hp) (by omega)) rfl rfl (Nat.le_of_ble_eq_true rfl) (by decide) ?_
            refine J_eqi (b := byF T ((lxp (byF T) c) + 1)) (by rw [(((hN.up (j := 8) (by omega) _).up (j := 9) (by omega) _).up (j := 7) (by omega) _).by]) ?_
            refine J_bipush dX11_nextToken_280 (by decide) ?_
            refine J_icmp_ne 310 dX11_nextToken_282 rfl (by omega) (by omega) (fun c282 => ?_) (fun c282 => ?_)
            · exact RQ_v rfl dX11_nextToken_310 (by exfalso; omega)
            · refine L_a0 dX11_nextToken_285 ?_
              refine L_i1 dX11_nextToken_286 ?_
              refine J_bipush dX11_nextToken_287 (by decide) ?_
              refine J_icmp_ne 296 dX11_nextToken_289 rfl (by omega) (by omega) (fun c289 => ?_) (fun c289 => ?_)
              · refine J_iconst dX11_nextToken_296 ?_
                refine PW_36_9 fX11_114 dX11_nextToken_297 ?_
                refine L_a0 dX11_nextToken_300 ?_
                refine E_dup dX11_nextToken_301 rfl ?_
                refine GW_36_7 fX11_105 dX11_nextToken_302 ?_
                refine J_eqi (b := ((lxp (byF T) c + 1 : Nat) : Int)) (by (try unfold upF); rw [uf_n (by decide), uf_s]; rfl) ?_
                refine J_iconst dX11_nextToken_305 ?_
                refine J_iadd dX11_nextToken_306 ?_
                refine PW_36_7 fX11_105 dX11_nextToken_307 ?_
                exact RQ_v rfl dX11_nextToken_310 (by exfalso; omega)
              · refine J_iconst dX11_nextToken_292 ?_
                refine E_goto 297 dX11_nextToken_293 rfl ?_
                refine PW_36_9 fX11_114 dX11_nextToken_297 ?_
                refine L_a0 dX11_nextToken_300 ?_
                refine E_dup dX11_nextToken_301 rfl ?_
                refine GW_36_7 fX11_105 dX11_nextToken_302 ?_
                refine J_eqi (b := ((lxp (byF T) c + 1 : Nat) : Int)) (by (try unfold upF); rw [uf_n (by decide), uf_s]; rfl) ?_
                refine J_iconst dX11_nextToken_305 ?_
                refine J_iadd dX11_nextToken_306 ?_
                refine PW_36_7 fX11_105 dX11_nextToken_307 ?_
                exact RQ_v rfl dX11_nextToken_310 (by exfalso; omega)
          · refine L_i1 dX11_nextToken_266 ?_
            refine J_bipush dX11_nextToken_267 (by decide) ?_
            refine J_icmp_ne 310 dX11_nextToken_269 rfl (by omega) (by omega) (fun c269 => ?_) (fun c269 => ?_)
            · exact RQ_v rfl dX11_nextToken_310 (hq _ ((((hN.up (by omega) _).up (by omega) _).up (by omega) _)) ⟨by (try unfold upF); rw [uf_n (by decide), uf_n (by decide), uf_s], by (try unfold upF); rw [uf_s]; unfold lxe; rw [if_neg (by omega), if_neg c72, if_neg c155, if_neg (by omega)]; rfl, by (try unfold upF); rw [uf_n (by decide), uf_s]; unfold lxt; rw [if_neg (by omega), if_neg c72, if_neg c155, if_neg (by omega), if_neg (by assumption)], fun h => by exfalso; rw [show lxt (byF T) c = _ from by unfold lxt; rw [if_neg (by omega), if_neg c72, if_neg c155, if_neg (by omega), if_neg (by assumption)]] at h; omega, fun h => by exfalso; rw [show lxt (byF T) c = _ from by unfold lxt; rw [if_neg (by omega), if_neg c72, if_neg c155, if_neg (by omega), if_neg (by assumption)]] at h; omega⟩)
            · refine L_a0 dX11_nextToken_272 ?_
              refine L_a0 dX11_nextToken_273 ?_
              refine GW_36_7 fX11_105 dX11_nextToken_274 ?_
              refine J_eqi (b := ((lxp (byF T) c + 1 : Nat) : Int)) (by (try unfold upF); rw [uf_s]; rfl) ?_
              refine C_v1F vX11_108 dX11_nextToken_277 (qX11_byteAt (k := lxp (byF T) c + 1) ((((hN.up (j := 8) (by omega) _).up (j := 9) (by omega) _).up (j := 7) (by omega) _).tp hp) (by omega)) rfl rfl (Nat.le_of_ble_eq_true rfl) (by decide) ?_
              refine J_eqi (b := byF T ((lxp (byF T) c) + 1)) (by rw [(((hN.up (j := 8) (by omega) _).up (j := 9) (by omega) _).up (j := 7) (by omega) _).by]) ?_
              refine J_bipush dX11_nextToken_280 (by decide) ?_
              refine J_icmp_ne 310 dX11_nextToken_282 rfl (by omega) (by omega) (fun c282 => ?_) (fun c282 => ?_)
              · exact RQ_v rfl dX11_nextToken_310 (by exfalso; omega)
              · refine L_a0 dX11_nextToken_285 ?_
                refine L_i1 dX11_nextToken_286 ?_
                refine J_bipush dX11_nextToken_287 (by decide) ?_
                refine J_icmp_ne 296 dX11_nextToken_289 rfl (by omega) (by omega) (fun c289 => ?_) (fun c289 => ?_)
                · refine J_iconst dX11_nextToken_296 ?_
                  refine PW_36_9 fX11_114 dX11_nextToken_297 ?_
                  refine L_a0 dX11_nextToken_300 ?_
                  refine E_dup dX11_nextToken_301 rfl ?_
                  refine GW_36_7 fX11_105 dX11_nextToken_302 ?_
                  refine J_eqi (b := ((lxp (byF T) c + 1 : Nat) : Int)) (by (try unfold upF); rw [uf_n (by decide), uf_s]; rfl) ?_
                  refine J_iconst dX11_nextToken_305 ?_
                  refine J_iadd dX11_nextToken_306 ?_
                  refine PW_36_7 fX11_105 dX11_nextToken_307 ?_
                  exact RQ_v rfl dX11_nextToken_310 (by exfalso; omega)
                · refine J_iconst dX11_nextToken_292 ?_
                  refine E_goto 297 dX11_nextToken_293 rfl ?_
                  refine PW_36_9 fX11_114 dX11_nextToken_297 ?_
                  refine L_a0 dX11_nextToken_300 ?_
                  refine E_dup dX11_nextToken_301 rfl ?_
                  refine GW_36_7 fX11_105 dX11_nextToken_302 ?_
                  refine J_eqi (b := ((lxp (byF T) c + 1 : Nat) : Int)) (by (try unfold upF); rw [uf_n (by decide), uf_s]; rfl) ?_
                  refine J_iconst dX11_nextToken_305 ?_
                  refine J_iadd dX11_nextToken_306 ?_
                  refine PW_36_7 fX11_105 dX11_nextToken_307 ?_
                  exact RQ_v rfl dX11_nextToken_310 (by exfalso; omega)
        · refine L_i1 dX11_nextToken_242 ?_
          refine E_goto 247 dX11_nextToken_243 rfl ?_
          refine PW_36_9 fX11_114 dX11_nextToken_247 ?_
          refine L_a0 dX11_nextToken_250 ?_
          refine E_dup dX11_nextToken_251 rfl ?_
          refine GW_36_7 fX11_105 dX11_nextToken_252 ?_
          refine J_eqi (b := (lxp (byF T) c : Int)) (by (try unfold upF); rw [uf_n (by decide), uf_n (by decide)]; exact h7) ?_
          refine J_iconst dX11_nextToken_255 ?_
          refine J_iadd dX11_nextToken_256 ?_
          refine PW_36_7 fX11_105 dX11_nextToken_257 ?_
          refine L_i1 dX11_nextToken_260 ?_
          refine J_bipush dX11_nextToken_261 (by decide) ?_
          refine J_icmp_eq 272 dX11_nextToken_263 rfl (by omega) (by omega) (fun c263 => ?_) (fun c263 => ?_)
          · refine L_a0 dX11_nextToken_272 ?_
            refine L_a0 dX11_nextToken_273 ?_
            refine GW_36_7 fX11_105 dX11_nextToken_274 ?_
            refine J_eqi (b := ((lxp (byF T) c + 1 : Nat) : Int)) (by (try unfold upF); rw [uf_s]; rfl) ?_
            refine C_v1F vX11_108 dX11_nextToken_277 (qX11_byteAt (k := lxp (byF T) c + 1) ((((hN.up (j := 8) (by omega) _).up (j := 9) (by omega) _).up (j := 7) (by omega) _).tp hp) (by omega)) rfl rfl (Nat.le_of_ble_eq_true rfl) (by decide) ?_
            refine J_eqi (b := byF T ((lxp (byF T) c) + 1)) (by rw [(((hN.up (j := 8) (by omega) _).up (j := 9) (by omega) _).up (j := 7) (by omega) _).by]) ?_
            refine J_bipush dX11_nextToken_280 (by decide) ?_
            refine J_icmp_ne 310 dX11_nextToken_282 rfl (by omega) (by omega) (fun c282 => ?_) (fun c282 => ?_)
            · exact RQ_v rfl dX11_nextToken_310 (hq _ ((((hN.up (by omega) _).up (by omega) _).up (by omega) _)) ⟨by (try unfold upF); rw [uf_n (by decide), uf_n (by decide), uf_s], by (try unfold upF); rw [uf_s]; unfold lxe; rw [if_neg (by omega), if_neg c72, if_neg c155, if_neg (by omega)]; rfl, by (try unfold upF); rw [uf_n (by decide), uf_s]; unfold lxt; rw [if_neg (by omega), if_neg c72, if_neg c155, if_neg (by omega), if_pos (by assumption)], fun h => by exfalso; rw [show lxt (byF T) c = _ from by unfold lxt; rw [if_neg (by omega), if_neg c72, if_neg c155, if_neg (by omega), if_pos (by assumption)]] at h; omega, fun h => by exfalso; rw [show lxt (byF T) c = _ from by unfold lxt; rw [if_neg (by omega), if_neg c72, if_neg c155, if_neg (by omega), if_pos (by assumption)]] at h; omega⟩)
            · refine L_a0 dX11_nextToken_285 ?_
              refine L_i1 dX11_nextToken_286 ?_
              refine J_bipush dX11_nextToken_287 (by decide) ?_
              refine J_icmp_ne 296 dX11_nextToken_289 rfl (by omega) (by omega) (fun c289 => ?_) (fun c289 => ?_)
              · refine J_iconst dX11_nextToken_296 ?_
                refine PW_36_9 fX11_114 dX11_nextToken_297 ?_
                refine L_a0 dX11_nextToken_300 ?_
                refine E_dup dX11_nextToken_301 rfl ?_
                refine GW_36_7 fX11_105 dX11_nextToken_302 ?_
                refine J_eqi (b := ((lxp (byF T) c + 1 : Nat) : Int)) (by (try unfold upF); rw [uf_n (by decide), uf_s]; rfl) ?_
                refine J_iconst dX11_nextToken_305 ?_
                refine J_iadd dX11_nextToken_306 ?_
                refine PW_36_7 fX11_105 dX11_nextToken_307 ?_
                exact RQ_v rfl dX11_nextToken_310 (by exfalso; omega)
              · refine J_iconst dX11_nextToken_292 ?_
                refine E_goto 297 dX11_nextToken_293 rfl ?_
                refine PW_36_9 fX11_114 dX11_nextToken_297 ?_
                refine L_a0 dX11_nextToken_300 ?_
                refine E_dup dX11_nextToken_301 rfl ?_
                refine GW_36_7 fX11_105 dX11_nextToken_302 ?_
                refine J_eqi (b := ((lxp (byF T) c + 1 : Nat) : Int)) (by (try unfold upF); rw [uf_n (by decide), uf_s]; rfl) ?_
                refine J_iconst dX11_nextToken_305 ?_
                refine J_iadd dX11_nextToken_306 ?_
                refine PW_36_7 fX11_105 dX11_nextToken_307 ?_
                exact RQ_v rfl dX11_nextToken_310 (hq _ (((((hN.up (by omega) _).up (by omega) _).up (by omega) _).up (by omega) _).up (by omega) _) ⟨by (try unfold upF); rw [uf_n (by decide), uf_n (by decide), uf_n (by decide), uf_n (by decide), uf_s], by (try unfold upF); rw [uf_s]; unfold lxe; rw [if_neg (by omega), if_neg c72, if_neg c155, if_pos ⟨by omega, by omega⟩]; rfl, by (try unfold upF); rw [uf_n (by decide), uf_s]; unfold lxt; rw [if_neg (by omega), if_neg c72, if_neg c155, if_pos ⟨by omega, by omega⟩, if_pos (by omega)], fun h => by exfalso; rw [show lxt (byF T) c = _ from by unfold lxt; rw [if_neg (by omega), if_neg c72, if_neg c155, if_pos ⟨by omega, by omega⟩, if_pos (by omega)]] at h; omega, fun h => by exfalso; rw [show lxt (byF T) c = _ from by unfold lxt; rw [if_neg (by omega), if_neg c72, if_neg c155, if_pos ⟨by omega, by omega⟩, if_pos (by omega)]] at h; omega⟩)
          · refine L_i1 dX11_nextToken_266 ?_
            refine J_bipush dX11_nextToken_267 (by decide) ?_
            refine J_icmp_ne 310 dX11_nextToken_269 rfl (by omega) (by omega) (fun c269 => ?_) (fun c269 => ?_)
            · exact RQ_v rfl dX11_nextToken_310 (hq _ ((((hN.up (by omega) _).up (by omega) _).up (by omega) _)) ⟨by (try unfold upF); rw [uf_n (by decide), uf_n (by decide), uf_s], by (try unfold upF); rw [uf_s]; unfold lxe; rw [if_neg (by omega), if_neg c72, if_neg c155, if_neg (by omega)]; rfl, by (try unfold upF); rw [uf_n (by decide), uf_s]; unfold lxt; rw [if_neg (by omega), if_neg c72, if_neg c155, if_neg (by omega), if_pos (by assumption)], fun h => by exfalso; rw [show lxt (byF T) c = _ from by unfold lxt; rw [if_neg (by omega), if_neg c72, if_neg c155, if_neg (by omega), if_pos (by assumption)]] at h; omega, fun h => by exfalso; rw [show lxt (byF T) c = _ from by unfold lxt; rw [if_neg (by omega), if_neg c72, if_neg c155, if_neg (by omega), if_pos (by assumption)]] at h; omega⟩)
            · refine L_a0 dX11_nextToken_272 ?_
              refine L_a0 dX11_nextToken_273 ?_
              refine GW_36_7 fX11_105 dX11_nextToken_274 ?_
              refine J_eqi (b := ((lxp (byF T) c + 1 : Nat) : Int)) (by (try unfold upF); rw [uf_s]; rfl) ?_
              refine C_v1F vX11_108 dX11_nextToken_277 (qX11_byteAt (k := lxp (byF T) c + 1) ((((hN.up (j := 8) (by omega) _).up (j := 9) (by omega) _).up (j := 7) (by omega) _).tp hp) (by omega)) rfl rfl (Nat.le_of_ble_eq_true rfl) (by decide) ?_
              refine J_eqi (b := byF T ((lxp (byF T) c) + 1)) (by rw [(((hN.up (j := 8) (by omega) _).up (j := 9) (by omega) _).up (j := 7) (by omega) _).by]) ?_
              refine J_bipush dX11_nextToken_280 (by decide) ?_
              refine J_icmp_ne 310 dX11_nextToken_282 rfl (by omega) (by omega) (fun c282 => ?_) (fun c282 => ?_)
              · exact RQ_v rfl dX11_nextToken_310 (hq _ ((((hN.up (by omega) _).up (by omega) _).up (by omega) _)) ⟨by (try unfold upF); rw [uf_n (by decide), uf_n (by decide), uf_s], by (try unfold upF); rw [uf_s]; unfold lxe; rw [if_neg (by omega), if_neg c72, if_neg c155, if_neg (by omega)]; rfl, by (try unfold upF); rw [uf_n (by decide), uf_s]; unfold lxt; rw [if_neg (by omega), if_neg c72, if_neg c155, if_neg (by omega), if_pos (by assumption)], fun h => by exfalso; rw [show lxt (byF T) c = _ from by unfold lxt; rw [if_neg (by omega), if_neg c72, if_neg c155, if_neg (by omega), if_pos (by assumption)]] at h; omega, fun h => by exfalso; rw [show lxt (byF T) c = _ from by unfold lxt; rw [if_neg (by omega), if_neg c72, if_neg c155, if_neg (by omega), if_pos (by assumption)]] at h; omega⟩)
              · refine L_a0 dX11_nextToken_285 ?_
                refine L_i1 dX11_nextToken_286 ?_
                refine J_bipush dX11_nextToken_287 (by decide) ?_
                refine J_icmp_ne 296 dX11_nextToken_289 rfl (by omega) (by omega) (fun c289 => ?_) (fun c289 => ?_)
                · refine J_iconst dX11_nextToken_296 ?_
                  refine PW_36_9 fX11_114 dX11_nextToken_297 ?_
                  refine L_a0 dX11_nextToken_300 ?_
                  refine E_dup dX11_nextToken_301 rfl ?_
                  refine GW_36_7 fX11_105 dX11_nextToken_302 ?_
                  refine J_eqi (b := ((lxp (byF T) c + 1 : Nat) : Int)) (by (try unfold upF); rw [uf_n (by decide), uf_s]; rfl) ?_
                  refine J_iconst dX11_nextToken_305 ?_
                  refine J_iadd dX11_nextToken_306 ?_
                  refine PW_36_7 fX11_105 dX11_nextToken_307 ?_
                  exact RQ_v rfl dX11_nextToken_310 (hq _ (((((hN.up (by omega) _).up (by omega) _).up (by omega) _).up (by omega) _).up (by omega) _) ⟨by (try unfold upF); rw [uf_n (by decide), uf_n (by decide), uf_n (by decide), uf_n (by decide), uf_s], by (try unfold upF); rw [uf_s]; unfold lxe; rw [if_neg (by omega), if_neg c72, if_neg c155, if_pos ⟨by omega, by omega⟩]; rfl, by (try unfold upF); rw [uf_n (by decide), uf_s]; unfold lxt; rw [if_neg (by omega), if_neg c72, if_neg c155, if_pos ⟨by omega, by omega⟩, if_neg (by omega)], fun h => by exfalso; rw [show lxt (byF T) c = _ from by unfold lxt; rw [if_neg (by omega), if_neg c72, if_neg c155, if_pos ⟨by omega, by omega⟩, if_neg (by omega)]] at h; omega, fun h => by exfalso; rw [show lxt (byF T) c = _ from by unfold lxt; rw [if_neg (by omega), if_neg c72, if_neg c155, if_pos ⟨by omega, by omega⟩, if_neg (by omega)]] at h; omega⟩)
                · refine J_iconst dX11_nextToken_292 ?_
                  refine E_goto 297 dX11_nextToken_293 rfl ?_
                  refine PW_36_9 fX11_114 dX11_nextToken_297 ?_
                  refine L_a0 dX11_nextToken_300 ?_
                  refine E_dup dX11_nextToken_301 rfl ?_
                  refine GW_36_7 fX11_105 dX11_nextToken_302 ?_
                  refine J_eqi (b := ((lxp (byF T) c + 1 : Nat) : Int)) (by (try unfold upF); rw [uf_n (by decide), uf_s]; rfl) ?_
                  refine J_iconst dX11_nextToken_305 ?_
                  refine J_iadd dX11_nextToken_306 ?_
                  refine PW_36_7 fX11_105 dX11_nextToken_307 ?_
                  exact RQ_v rfl dX11_nextToken_310 (by exfalso; omega)
      · refine L_a0 dX11_nextToken_158 ?_
        refine J_iconst dX11_nextToken_159 ?_
        refine PW_36_9 fX11_114 dX11_nextToken_160 ?_
        refine L_a0 dX11_nextToken_163 ?_
        refine J_lconst 0 dX11_nextToken_164 (by decide) ?_
        refine PW_36_11 fX11_127 dX11_nextToken_165 ?_
        refine nT_let hp (p := lxp (byF T) c) (e := lte (byF T) 301 (lxp (byF T) c)) (r := ltw (byF T) 301 (lxp (byF T) c) 0) (fun T2 hN2 a1 a2 a3 a4 => hq T2 hN2 ⟨a3, ?_, ?_, fun h => ?_, fun _ => a2⟩) 301 (lxp (byF T) c) 0 _ (((hN.up (by omega) _).up (by omega) _).up (by omega) _) (by (try unfold upF); rw [uf_n (by decide), uf_n (by decide), uf_n (by decide)]; exact h7) (by (try unfold upF); rw [uf_s]; rfl) (by (try unfold upF); rw [uf_n (by decide), uf_n (by decide), uf_s]) (by (try unfold upF); rw [uf_n (by decide), uf_s]) (by decide) (by omega) rfl rfl
        · rw [a1]; unfold lxe; rw [if_neg (by omega), if_neg c72, if_pos c155]
        · rw [a4]; unfold lxt; rw [if_neg (by omega), if_neg c72, if_pos c155]
        · exfalso; unfold lxt at h; rw [if_neg (by omega), if_neg c72, if_pos c155] at h; exact absurd h (by decide)
    · refine L_a0 dX11_nextToken_75 ?_
      refine J_iconst dX11_nextToken_76 ?_
      refine PW_36_9 fX11_114 dX11_nextToken_77 ?_
      refine L_a0 dX11_nextToken_80 ?_
      refine J_iconst dX11_nextToken_81 ?_
      refine PW_36_10 fX11_120 dX11_nextToken_82 ?_
      refine nT_dig hp (p := lxp (byF T) c) (e := dge (byF T) 301 (lxp (byF T) c)) (r := dgv (byF T) 301 (lxp (byF T) c) 0) (fun T2 hN2 a1 a2 a3 a4 => hq T2 hN2 ⟨a3, ?_, ?_, fun _ => a2, fun h => ?_⟩) 301 (lxp (byF T) c) 0 _ (((hN.up (by omega) _).up (by omega) _).up (by omega) _) (by (try unfold upF); rw [uf_n (by decide), uf_n (by decide), uf_n (by decide)]; exact h7) (by (try unfold upF); rw [uf_s]) (by (try unfold upF); rw [uf_n (by decide), uf_n (by decide), uf_s]) (by (try unfold upF); rw [uf_n (by decide), uf_s]) (by omega) (by omega) rfl rfl
      · rw [a1]; unfold lxe; rw [if_neg (by omega), if_pos c72]
      · rw [a4]; unfold lxt; rw [if_neg (by omega), if_pos c72]
      · exfalso; unfold lxt at h; rw [if_neg (by omega), if_pos c72] at h; exact absurd h (by decide)
  · refine L_a0 dX11_nextToken_60 ?_
    refine J_iconst dX11_nextToken_61 ?_
    refine PW_36_9 fX11_114 dX11_nextToken_62 ?_
    refine E_goto 310 dX11_nextToken_65 rfl ?_
    exact RQ_v rfl dX11_nextToken_310 (hq _ ((hN.up (by omega) _).up (by omega) _) ⟨by (try unfold upF); rw [uf_n (by decide), uf_s], by (try unfold upF); rw [uf_n (by decide), uf_n (by decide), h7]; unfold lxe; rw [if_pos (by omega)], by (try unfold upF); rw [uf_s]; unfold lxt; rw [if_pos (by omega)], fun h => by exfalso; unfold lxt at h; rw [if_pos (by omega)] at h; exact absurd h (by decide), fun h => by exfalso; unfold lxt at h; rw [if_pos (by omega)] at h; exact absurd h (by decide)⟩)
theorem qX11_nextToken {S T : Nat → Int → Int} {D : List mx_C} (hp : TP T) {c : Nat} (h7 : T 36 7 = (c : Int)) (hc : (c : Int) ≤ T 36 4) : SpU yX11_nextToken cX11_nextToken 2 none 1 [.ref 36] (W5 S T D) (fun hp' => ∃ T', hp' = W5 S T' D ∧ NX T T' ∧ CT (byF T) T' c) := by
  refine Sp.of [.ref 36, .retAddr 0] (by decide) (by simp) (Nat.le_of_ble_eq_true rfl) rfl (fun E => ?_)
  have h4 := hp.1
  have hp3 := lxp_hi (byF_neg hp) (c := c) (by omega)
  exact nT_blank hp (p := lxp (byF T) c) (fun T1 hN h71 => nT_rest hp rfl (by omega) (fun T2 hN2 hct => ⟨T2, rfl, hN2, hct⟩) hN h71 (by omega)) 301 c T (NX.refl T) h7 (by omega) rfl
