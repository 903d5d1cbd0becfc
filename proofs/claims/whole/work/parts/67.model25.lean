/-! ===== the reference: all ways ===== -/
abbrev kL (E : mx_E) (d : Nat) (Q : Int → List mx_C → Prop) : mx_Kd := mx_km E d 0 0 (fun r' hp' => ∃ v, r' = some (.long (jL v)) ∧ Q v hp')
theorem RQ_l {E : mx_E} {y : MethodName} {cc : ByteArray} {nL : Nat} {ret : Option FieldType} {bc bs pc d : Nat} {lv : List Value} {hp : List mx_C} {Q : Int → List mx_C → Prop} {v : Int} (hr : ret = some .long) (hd : decode cc pc = .ok (.lreturn, 1)) (hq : Q v hp) : Ev E y cc nL ret (kL E d Q) bc bs pc lv [.long (jL v)] hp := E_lret hr hd ⟨v, rfl, hq⟩
set_option maxRecDepth 100000 in
theorem fS1 {E : mx_E} {S T : Nat → Int → Int} {D : List mx_C} {K : mx_Kd} {u0 al n : Int} {u : Nat} {i : Nat} (h8 : i < 8) (ht : T 50 i = -1) (k : Ev E yX11_fitted cX11_fitted 7 (some .long) K 0 0 87 [.ref 36, .int (jI u0), .int (jI al), .long (jL n), .retAddr 0, .int (jI (u : Int)), .int (jI (i : Int))] [] (W5 S (upF T 50 i 0) D)) : Ev E yX11_fitted cX11_fitted 7 (some .long) K 0 0 36 [.ref 36, .int (jI u0), .int (jI al), .long (jL n), .retAddr 0, .int (jI (u : Int)), .int (jI (i : Int))] [] (W5 S T D) := by
  refine L_i6 dX11_fitted_36 ?_
  refine J_if_lt 236 dX11_fitted_38 rfl (by omega) (fun c38 => ?_) (fun c38 => ?_)
  · exfalso; omega
  · refine L_a0 dX11_fitted_41 ?_
    refine GW_36_30 fX11_62 dX11_fitted_42 ?_
    refine L_i6 dX11_fitted_45 ?_
    refine AR_50 dX11_fitted_47 (by omega) ?_
    refine J_eqi (b := -1) ht ?_
    refine J_if_lt 76 dX11_fitted_48 rfl (by omega) (fun c48 => ?_) (fun c48 => ?_)
    · refine L_a0 dX11_fitted_76 ?_
      refine GW_36_30 fX11_62 dX11_fitted_77 ?_
      refine L_i6 dX11_fitted_80 ?_
      refine E_dup2 dX11_fitted_82 rfl rfl ?_
      refine AR_50 dX11_fitted_83 (by omega) ?_
      refine J_eqi (b := -1) ht ?_
      refine J_iconst dX11_fitted_84 ?_
      refine J_iadd dX11_fitted_85 ?_
      refine AS_50 dX11_fitted_86 (by omega) ?_
      exact k
    · exfalso; omega

set_option maxRecDepth 100000 in
theorem fS2 {E : mx_E} {S T : Nat → Int → Int} {D : List mx_C} {K : mx_Kd} {u0 al n : Int} {u m o : Nat} {i : Nat} (h8 : i < 8) (ho : o < 16) (ht : T 50 i = (o : Int)) (hm : T 48 (16 * (i : Int) + (o : Int)) = (m : Int)) (hd0 : m &&& u = 0) (k : Ev E yX11_fitted cX11_fitted 7 (some .long) K 0 0 87 [.ref 36, .int (jI u0), .int (jI al), .long (jL n), .retAddr 0, .int (jI (u : Int)), .int (jI (i : Int))] [] (W5 S (upF T 50 i ((o : Int) + 1)) D)) : Ev E yX11_fitted cX11_fitted 7 (some .long) K 0 0 36 [.ref 36, .int (jI u0), .int (jI al), .long (jL n), .retAddr 0, .int (jI ((u ||| m : Nat) : Int)), .int (jI (i : Int))] [] (W5 S T D) := by
  refine L_i6 dX11_fitted_36 ?_
  refine J_if_lt 236 dX11_fitted_38 rfl (by omega) (fun c38 => ?_) (fun c38 => ?_)
  · exfalso; omega
  · refine L_a0 dX11_fitted_41 ?_
    refine GW_36_30 fX11_62 dX11_fitted_42 ?_
    refine L_i6 dX11_fitted_45 ?_
    refine AR_50 dX11_fitted_47 (by omega) ?_
    refine J_eqi (b := (o : Int)) ht ?_
    refine J_if_lt 76 dX11_fitted_48 rfl (by omega) (fun c48 => ?_) (fun c48 => ?_)
    · exfalso; omega
    · refine L_i5 dX11_fitted_51 ?_
      refine L_a0 dX11_fitted_53 ?_
      refine GW_36_28 fX11_56 dX11_fitted_54 ?_
      refine J_bipush dX11_fitted_57 (by decide) ?_
      refine L_i6 dX11_fitted_59 ?_
      refine J_imul dX11_fitted_61 ?_
      refine L_a0 dX11_fitted_62 ?_
      refine GW_36_30 fX11_62 dX11_fitted_63 ?_
      refine L_i6 dX11_fitted_66 ?_
      refine AR_50 dX11_fitted_68 (by omega) ?_
      refine J_eqi (b := (o : Int)) ht ?_
      refine J_iadd dX11_fitted_69 ?_
      refine AR_48 dX11_fitted_70 (by omega) ?_
      refine J_eqi (b := (m : Int)) hm ?_
      refine J_iconst dX11_fitted_71 ?_
      refine J_inot dX11_fitted_72 ?_
      refine J_iandD dX11_fitted_73 (by omega) (by omega) ?_
      refine J_eqi (b := (u : Int)) (by rw [bdf_nat, nd_or hd0]) ?_
      refine S_i5 dX11_fitted_74 (by decide) rfl ?_
      refine L_a0 dX11_fitted_76 ?_
      refine GW_36_30 fX11_62 dX11_fitted_77 ?_
      refine L_i6 dX11_fitted_80 ?_
      refine E_dup2 dX11_fitted_82 rfl rfl ?_
      refine AR_50 dX11_fitted_83 (by omega) ?_
      refine J_eqi (b := (o : Int)) ht ?_
      refine J_iconst dX11_fitted_84 ?_
      refine J_iadd dX11_fitted_85 ?_
      refine AS_50 dX11_fitted_86 (by omega) ?_
      exact k

set_option maxRecDepth 100000 in
theorem fS3 {E : mx_E} {S T : Nat → Int → Int} {D : List mx_C} {K : mx_Kd} {u0 al n : Int} {u m o c : Nat} {i : Nat} (h8 : i < 8) (ho : o < 16) (hc : c ≤ 16) (ht : T 50 i = (o : Int)) (h49 : T 49 i = (c : Int)) (hoc : o < c) (hm : T 48 (16 * (i : Int) + (o : Int)) = (m : Int)) (hu : u < 65536) (hne : ¬ m &&& u = 0) (k : Ev E yX11_fitted cX11_fitted 7 (some .long) K 0 0 87 [.ref 36, .int (jI u0), .int (jI al), .long (jL n), .retAddr 0, .int (jI (u : Int)), .int (jI (i : Int))] [] (W5 S (upF T 50 i ((o : Int) + 1)) D)) : Ev E yX11_fitted cX11_fitted 7 (some .long) K 0 0 87 [.ref 36, .int (jI u0), .int (jI al), .long (jL n), .retAddr 0, .int (jI (u : Int)), .int (jI (i : Int))] [] (W5 S T D) := by
  have hle : m &&& u ≤ u := Nat.and_le_right
  refine L_a0 dX11_fitted_87 ?_
  refine GW_36_30 fX11_62 dX11_fitted_88 ?_
  refine L_i6 dX11_fitted_91 ?_
  refine AR_50 dX11_fitted_93 (by omega) ?_
  refine J_eqi (b := (o : Int)) ht ?_
  refine L_a0 dX11_fitted_94 ?_
  refine GW_36_29 fX11_59 dX11_fitted_95 ?_
  refine L_i6 dX11_fitted_98 ?_
  refine AR_49 dX11_fitted_100 (by omega) ?_
  refine J_eqi (b := (c : Int)) h49 ?_
  refine J_icmp_ge 142 dX11_fitted_101 rfl (by omega) (by omega) (fun c101 => ?_) (fun c101 => ?_)
  · exfalso; omega
  · refine L_a0 dX11_fitted_104 ?_
    refine GW_36_28 fX11_56 dX11_fitted_105 ?_
    refine J_bipush dX11_fitted_108 (by decide) ?_
    refine L_i6 dX11_fitted_110 ?_
    refine J_imul dX11_fitted_112 ?_
    refine L_a0 dX11_fitted_113 ?_
    refine GW_36_30 fX11_62 dX11_fitted_114 ?_
    refine L_i6 dX11_fitted_117 ?_
    refine AR_50 dX11_fitted_119 (by omega) ?_
    refine J_eqi (b := (o : Int)) ht ?_
    refine J_iadd dX11_fitted_120 ?_
    refine AR_48 dX11_fitted_121 (by omega) ?_
    refine J_eqi (b := (m : Int)) hm ?_
    refine L_i5 dX11_fitted_122 ?_
    refine J_iandG dX11_fitted_124 (by omega) (by omega) ?_
    refine J_eqi (b := ((m &&& u : Nat) : Int)) (ban_nat m u) ?_
    refine J_if_eq 142 dX11_fitted_125 rfl (by omega) (fun c125 => ?_) (fun c125 => ?_)
    · exfalso; omega
    · refine L_a0 dX11_fitted_128 ?_
      refine GW_36_30 fX11_62 dX11_fitted_129 ?_
      refine L_i6 dX11_fitted_132 ?_
      refine E_dup2 dX11_fitted_134 rfl rfl ?_
      refine AR_50 dX11_fitted_135 (by omega) ?_
      refine J_eqi (b := (o : Int)) ht ?_
      refine J_iconst dX11_fitted_136 ?_
      refine J_iadd dX11_fitted_137 ?_
      refine AS_50 dX11_fitted_138 (by omega) ?_
      refine E_goto 87 dX11_fitted_139 rfl ?_
      exact k

set_option maxRecDepth 100000 in
theorem fS4 {E : mx_E} {S T : Nat → Int → Int} {D : List mx_C} {K : mx_Kd} {u0 al n : Int} {u m o c : Nat} {i : Nat} (h8 : i < 8) (ho : o ≤ 16) (hc : c ≤ 16) (ht : T 50 i = (o : Int)) (h49 : T 49 i = (c : Int)) (hoc : o = c) (k : Ev E yX11_fitted cX11_fitted 7 (some .long) K 0 0 36 [.ref 36, .int (jI u0), .int (jI al), .long (jL n), .retAddr 0, .int (jI (u : Int)), .int (jI ((i : Int) - 1))] [] (W5 S (upF T 50 i (-1)) D)) : Ev E yX11_fitted cX11_fitted 7 (some .long) K 0 0 87 [.ref 36, .int (jI u0), .int (jI al), .long (jL n), .retAddr 0, .int (jI (u : Int)), .int (jI (i : Int))] [] (W5 S T D) := by
  refine L_a0 dX11_fitted_87 ?_
  refine GW_36_30 fX11_62 dX11_fitted_88 ?_
  refine L_i6 dX11_fitted_91 ?_
  refine AR_50 dX11_fitted_93 (by omega) ?_
  refine J_eqi (b := (o : Int)) ht ?_
  refine L_a0 dX11_fitted_94 ?_
  refine GW_36_29 fX11_59 dX11_fitted_95 ?_
  refine L_i6 dX11_fitted_98 ?_
  refine AR_49 dX11_fitted_100 (by omega) ?_
  refine J_eqi (b := (c : Int)) h49 ?_
  refine J_icmp_ge 142 dX11_fitted_101 rfl (by omega) (by omega) (fun c101 => ?_) (fun c101 => ?_)
  · refine L_a0 dX11_fitted_142 ?_
    refine GW_36_30 fX11_62 dX11_fitted_143 ?_
    refine L_i6 dX11_fitted_146 ?_
    refine AR_50 dX11_fitted_148 (by omega) ?_
    refine J_eqi (b := (o : Int)) ht ?_
    refine L_a0 dX11_fitted_149 ?_
    refine GW_36_29 fX11_59 dX11_fitted_150 ?_
    refine L_i6 dX11_fitted_153 ?_
    refine AR_49 dX11_fitted_155 (by omega) ?_
    refine J_eqi (b := (c : Int)) h49 ?_
    refine J_icmp_lt 173 dX11_fitted_156 rfl (by omega) (by omega) (fun c156 => ?_) (fun c156 => ?_)
    · exfalso; omega
    · refine L_a0 dX11_fitted_159 ?_
      refine GW_36_30 fX11_62 dX11_fitted_160 ?_
      refine L_i6 dX11_fitted_163 ?_
      refine J_iconst dX11_fitted_165 ?_
      refine AS_50 dX11_fitted_166 (by omega) ?_
      refine JI_6 dX11_fitted_167 (by decide) rfl ?_
      refine E_goto 36 dX11_fitted_170 rfl ?_
      exact k
  · exfalso; omega

set_option maxRecDepth 100000 in
theorem fS5 {E : mx_E} {S T : Nat → Int → Int} {D : List mx_C} {K : mx_Kd} {u0 al n : Int} {u m o c : Nat} {i : Nat} (h8 : i < 8) (ho : o < 16) (hc : c ≤ 16) (ht : T 50 i = (o : Int)) (h49 : T 49 i = (c : Int)) (hoc : o < c) (hm : T 48 (16 * (i : Int) + (o : Int)) = (m : Int)) {mm : Nat} (hmm : T 36 32 = (mm : Int)) (hm8 : mm ≤ 8) (hu : u < 65536) (hz : m &&& u = 0) (him : i + 1 < mm) (k : Ev E yX11_fitted cX11_fitted 7 (some .long) K 0 0 36 [.ref 36, .int (jI u0), .int (jI al), .long (jL n), .retAddr 0, .int (jI ((u ||| m : Nat) : Int)), .int (jI ((i : Int) + 1))] [] (W5 S (upF T 50 ((i : Int) + 1) (-1)) D)) : Ev E yX11_fitted cX11_fitted 7 (some .long) K 0 0 87 [.ref 36, .int (jI u0), .int (jI al), .long (jL n), .retAddr 0, .int (jI (u : Int)), .int (jI (i : Int))] [] (W5 S T D) := by
  refine L_a0 dX11_fitted_87 ?_
  refine GW_36_30 fX11_62 dX11_fitted_88 ?_
  refine L_i6 dX11_fitted_91 ?_
  refine AR_50 dX11_fitted_93 (by omega) ?_
  refine J_eqi (b := (o : Int)) ht ?_
  refine L_a0 dX11_fitted_94 ?_
  refine GW_36_29 fX11_59 dX11_fitted_95 ?_
  refine L_i6 dX11_fitted_98 ?_
  refine AR_49 dX11_fitted_100 (by omega) ?_
  refine J_eqi (b := (c : Int)) h49 ?_
  refine J_icmp_ge 142 dX11_fitted_101 rfl (by omega) (by omega) (fun c101 => ?_) (fun c101 => ?_)
  · exfalso; omega
  · refine L_a0 dX11_fitted_104 ?_
    refine GW_36_28 fX11_56 dX11_fitted_105 ?_
    refine J_bipush dX11_fitted_108 (by decide) ?_
    refine L_i6 dX11_fitted_110 ?_
    refine J_imul dX11_fitted_112 ?_
    refine L_a0 dX11_fitted_113 ?_
    refine GW_36_30 fX11_62 dX11_fitted_114 ?_
    refine L_i6 dX11_fitted_117 ?_
    refine AR_50 dX11_fitted_119 (by omega) ?_
    refine J_eqi (b := (o : Int)) ht ?_
    refine J_iadd dX11_fitted_120 ?_
    refine AR_48 dX11_fitted_121 (by omega) ?_
    refine J_eqi (b := (m : Int)) hm ?_
    refine L_i5 dX11_fitted_122 ?_
    refine J_iandG dX11_fitted_124 (by omega) (by omega) ?_
    refine J_eqi (b := ((m &&& u : Nat) : Int)) (ban_nat m u) ?_
    refine J_if_eq 142 dX11_fitted_125 rfl (by omega) (fun c125 => ?_) (fun c125 => ?_)
    · refine L_a0 dX11_fitted_142 ?_
      refine GW_36_30 fX11_62 dX11_fitted_143 ?_
      refine L_i6 dX11_fitted_146 ?_
      refine AR_50 dX11_fitted_148 (by omega) ?_
      refine J_eqi (b := (o : Int)) ht ?_
      refine L_a0 dX11_fitted_149 ?_
      refine GW_36_29 fX11_59 dX11_fitted_150 ?_
      refine L_i6 dX11_fitted_153 ?_
      refine AR_49 dX11_fitted_155 (by omega) ?_
      refine J_eqi (b := (c : Int)) h49 ?_
      refine J_icmp_lt 173 dX11_fitted_156 rfl (by omega) (by omega) (fun c156 => ?_) (fun c156 => ?_)
      · refine L_i5 dX11_fitted_173 ?_
        refine L_a0 dX11_fitted_175 ?_
        refine GW_36_28 fX11_56 dX11_fitted_176 ?_
        refine J_bipush dX11_fitted_179 (by decide) ?_
        refine L_i6 dX11_fitted_181 ?_
        refine J_imul dX11_fitted_183 ?_
        refine L_a0 dX11_fitted_184 ?_
        refine GW_36_30 fX11_62 dX11_fitted_185 ?_
        refine L_i6 dX11_fitted_188 ?_
        refine AR_50 dX11_fitted_190 (by omega) ?_
        refine J_eqi (b := (o : Int)) ht ?_
        refine J_iadd dX11_fitted_191 ?_
        refine AR_48 dX11_fitted_192 (by omega) ?_
        refine J_eqi (b := (m : Int)) hm ?_
        refine J_iorG dX11_fitted_193 (by omega) (by omega) ?_
        refine J_eqi (b := ((u ||| m : Nat) : Int)) (bor_nat u m) ?_
        refine S_i5 dX11_fitted_194 (by decide) rfl ?_
        refine L_i6 dX11_fitted_196 ?_
        refine L_a0 dX11_fitted_198 ?_
        refine GW_36_32 fX11_398 dX11_fitted_199 ?_
        refine J_eqi (b := (mm : Int)) hmm ?_
        refine J_iconst dX11_fitted_202 ?_
        refine J_isub dX11_fitted_203 ?_
        refine J_icmp_ge 221 dX11_fitted_204 rfl (by omega) (by omega) (fun c204 => ?_) (fun c204 => ?_)
        · exfalso; omega
        · refine JI_6 dX11_fitted_207 (by decide) rfl ?_
          refine L_a0 dX11_fitted_210 ?_
          refine GW_36_30 fX11_62 dX11_fitted_211 ?_
          refine L_i6 dX11_fitted_214 ?_
          refine J_iconst dX11_fitted_216 ?_
          refine AS_50 dX11_fitted_217 (by omega) ?_
          refine E_goto 36 dX11_fitted_218 rfl ?_
          exact k
      · exfalso; omega
    · exfalso; omega

set_option maxRecDepth 100000 in
theorem fS6 {E : mx_E} {S T : Nat → Int → Int} {D : List mx_C} {u0 al : Int} {Q : Int → List mx_C → Prop} {u m o c : Nat} {i : Nat} (h8 : i < 8) (ho : o < 16) (hc : c ≤ 16) (ht : T 50 i = (o : Int)) (h49 : T 49 i = (c : Int)) (hoc : o < c) (hm : T 48 (16 * (i : Int) + (o : Int)) = (m : Int)) {mm : Nat} (hmm : T 36 32 = (mm : Int)) (hm8 : mm ≤ 8) (hu : u < 65536) (hz : m &&& u = 0) (him : i + 1 = mm) {v : List Nat} {ws : List (List Nat)} (hal : al = 0 ∨ al = 1) (hw : ∀ i : Nat, i < mm → (0 ≤ T 50 i ∧ T 50 i < 16) ∧ T 48 (16 * (i : Int) + T 50 i) = ((v.getD i 0 : Nat) : Int)) (hwB : ∀ i : Nat, v.getD i 0 < 65536) (hsB : ∀ i : Nat, (ws.headD []).getD i 0 < 65536) (hnB : (ws.length : Int) < 4611686018427387904) (h33 : 0 ≤ T 36 33 ∧ T 36 33 < 256) (hkw : ∀ i : Nat, i < mm → KWj T ws i) (hret : al = 0 → ∀ T' : Nat → Int → Int, Fr [36, 51] T T' → (∀ j, ¬ j = 33 → T' 36 j = T 36 j) → (0 ≤ T' 36 33 ∧ T' 36 33 < 256) → (∀ j : Nat, j < mm → KWj T' (ws ++ [v]) j) → Q ((ws.length : Int) + 1) (W5 S T' D)) (k : al = 1 → ∀ T' : Nat → Int → Int, Fr [36, 51] T T' → (∀ j, ¬ j = 33 → T' 36 j = T 36 j) → (0 ≤ T' 36 33 ∧ T' 36 33 < 256) → (∀ j : Nat, j < mm → KWj T' (ws ++ [v]) j) → Ev E yX11_fitted cX11_fitted 7 (some .long) (kL E 2 Q) 0 0 36 [.ref 36, .int (jI u0), .int (jI al), .long (jL ((ws.length : Int) + 1)), .retAddr 0, .int (jI ((u ||| m : Nat) : Int)), .int (jI (i : Int))] [] (W5 S T' D)) : Ev E yX11_fitted cX11_fitted 7 (some .long) (kL E 2 Q) 0 0 87 [.ref 36, .int (jI u0), .int (jI al), .long (jL (ws.length : Int)), .retAddr 0, .int (jI (u : Int)), .int (jI (i : Int))] [] (W5 S T D) := by
  refine L_a0 dX11_fitted_87 ?_
  refine GW_36_30 fX11_62 dX11_fitted_88 ?_
  refine L_i6 dX11_fitted_91 ?_
  refine AR_50 dX11_fitted_93 (by omega) ?_
  refine J_eqi (b := (o : Int)) ht ?_
  refine L_a0 dX11_fitted_94 ?_
  refine GW_36_29 fX11_59 dX11_fitted_95 ?_
  refine L_i6 dX11_fitted_98 ?_
  refine AR_49 dX11_fitted_100 (by omega) ?_
  refine J_eqi (b := (c : Int)) h49 ?_
  refine J_icmp_ge 142 dX11_fitted_101 rfl (by omega) (by omega) (fun c101 => ?_) (fun c101 => ?_)
  · exfalso; omega
  · refine L_a0 dX11_fitted_104 ?_
    refine GW_36_28 fX11_56 dX11_fitted_105 ?_
    refine J_bipush dX11_fitted_108 (by decide) ?_
    refine L_i6 dX11_fitted_110 ?_
    refine J_imul dX11_fitted_112 ?_
    refine L_a0 dX11_fitted_113 ?_
    refine GW_36_30 fX11_62 dX11_fitted_114 ?_
    refine L_i6 dX11_fitted_117 ?_
    refine AR_50 dX11_fitted_119 (by omega) ?_
    refine J_eqi (b := (o : Int)) ht ?_
    refine J_iadd dX11_fitted_120 ?_
    refine AR_48 dX11_fitted_121 (by omega) ?_
    refine J_eqi (b := (m : Int)) hm ?_
    refine L_i5 dX11_fitted_122 ?_
    refine J_iandG dX11_fitted_124 (by omega) (by omega) ?_
    refine J_eqi (b := ((m &&& u : Nat) : Int)) (ban_nat m u) ?_
    refine J_if_eq 142 dX11_fitted_125 rfl (by omega) (fun c125 => ?_) (fun c125 => ?_)
    · refine L_a0 dX11_fitted_142 ?_
      refine GW_36_30 fX11_62 dX11_fitted_143 ?_
      refine L_i6 dX11_fitted_146 ?_
      refine AR_50 dX11_fitted_148 (by omega) ?_
      refine J_eqi (b := (o : Int)) ht ?_
      refine L_a0 dX11_fitted_149 ?_
      refine GW_36_29 fX11_59 dX11_fitted_150 ?_
      refine L_i6 dX11_fitted_153 ?_
      refine AR_49 dX11_fitted_155 (by omega) ?_
      refine J_eqi (b := (c : Int)) h49 ?_
      refine J_icmp_lt 173 dX11_fitted_156 rfl (by omega) (by omega) (fun c156 => ?_) (fun c156 => ?_)
      · refine L_i5 dX11_fitted_173 ?_
        refine L_a0 dX11_fitted_175 ?_
        refine GW_36_28 fX11_56 dX11_fitted_176 ?_
        refine J_bipush dX11_fitted_179 (by decide) ?_
        refine L_i6 dX11_fitted_181 ?_
        refine J_imul dX11_fitted_183 ?_
        refine L_a0 dX11_fitted_184 ?_
        refine GW_36_30 fX11_62 dX11_fitted_185 ?_
        refine L_i6 dX11_fitted_188 ?_
        refine AR_50 dX11_fitted_190 (by omega) ?_
        refine J_eqi (b := (o : Int)) ht ?_
        refine J_iadd dX11_fitted_191 ?_
        refine AR_48 dX11_fitted_192 (by omega) ?_
        refine J_eqi (b := (m : Int)) hm ?_
        refine J_iorG dX11_fitted_193 (by omega) (by omega) ?_
        refine J_eqi (b := ((u ||| m : Nat) : Int)) (bor_nat u m) ?_
        refine S_i5 dX11_fitted_194 (by decide) rfl ?_
        refine L_i6 dX11_fitted_196 ?_
        refine L_a0 dX11_fitted_198 ?_
        refine GW_36_32 fX11_398 dX11_fitted_199 ?_
        refine J_eqi (b := (mm : Int)) hmm ?_
        refine J_iconst dX11_fitted_202 ?_
        refine J_isub dX11_fitted_203 ?_
        refine J_icmp_ge 221 dX11_fitted_204 rfl (by omega) (by omega) (fun c204 => ?_) (fun c204 => ?_)
        · refine L_a0 dX11_fitted_221 ?_
          refine L_l3 dX11_fitted_222 ?_
          refine C_v1U vX11_407 dX11_fitted_223 (qX11_keepWay hmm hm8 hw hwB hsB rfl hnB h33 hkw) rfl rfl (Nat.le_of_ble_eq_true rfl) (by decide) (fun hp223 hq223 => ?_)
          obtain ⟨T223, rfl, f223, o223, a223, k223⟩ := hq223
          refine L_l3 dX11_fitted_226 ?_
          refine J_lconst 1 dX11_fitted_227 (by decide) ?_
          refine J_ladd dX11_fitted_228 ?_
          refine S_l3 dX11_fitted_229 (by decide) rfl ?_
          refine L_i2 dX11_fitted_230 ?_
          refine J_if_ne 36 dX11_fitted_231 rfl (by omega) (fun c231 => ?_) (fun c231 => ?_)
          · exact k (by omega) T223 f223 o223 a223 k223
          · refine L_l3 dX11_fitted_234 ?_
            exact RQ_l rfl dX11_fitted_235 (hret (by omega) T223 f223 o223 a223 k223)
        · exfalso; omega
      · exfalso; omega
    · exfalso; omega

