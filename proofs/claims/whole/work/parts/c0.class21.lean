/-! ===== the class: the round, threes, choices ===== -/
theorem pcn_rom {w pl p : Nat} (hw : w < pl) (h0 : w ≠ 0) (hp : p < pl) (hpl : pl ≤ 16) : pcn 16 (rom w pl p) = 2 := by
  have hq := mod_add hp hw
  have hq2 : (p + w) % pl < 16 ∧ (p + w) % pl ≠ p := by rw [hq]; split <;> omega
  unfold rom
  rw [pcn_or, pcn_pow 16 p (by omega), pcn_pow 16 _ hq2.1]
  apply bits_ext
  intro i
  rw [Nat.testBit_and, Bool.and_eq_true, Nat.zero_testBit, Nat.testBit_two_pow, Nat.testBit_two_pow, decide_eq_true_iff, decide_eq_true_iff]
  exact ⟨fun h => absurd (h.2.trans h.1.symm) hq2.2, fun h => absurd h (by decide)⟩
theorem rom_lt {w pl p : Nat} (hp : p < pl) (hpl : pl ≤ 16) : rom w pl p < 65536 := by
  have h1 : (p + w) % pl < 16 := Nat.lt_of_lt_of_le (Nat.mod_lt _ (by omega)) hpl
  unfold rom
  exact Nat.or_lt_two_pow (Nat.pow_lt_pow_right (by decide) (by omega) : 2 ^ p < 2 ^ 16) (Nat.pow_lt_pow_right (by decide) h1)
def RST (d m : Nat) : Prop := ∀ (S T : Nat → Int → Int) (D : List mx_C) (a : Int → Int), FGo S → S 22 = a → ∀ (pl s fr : Nat), 0 < pl → pl ≤ 16 → s < 256 → fr < 2 ^ pl → pcn 16 fr = 2 * (mem s).length → (mem s).length ≤ m → SpI yX0_countRest cX0_countRest 15 (some .int) d [.ref 21, .int (jI (s : Int)), .int (jI (fr : Int)), .int (jI (pl : Int))] (W5 S T D) (CQo S T D ((rn (fa a) pl s fr : Nat) : Int))
def rnp (a : Nat → Nat) (pl s fr p k : Nat) : Nat := if spkS a s k = true then alN a s k * rnc a pl s fr p k else 0
def rn1 (a : Nat → Nat) (pl s fr p k : Nat) : Nat := if a k % pl ≠ 0 ∧ sbs (rom (a k % pl) pl p) fr = true then rn a pl (nd s (2 ^ k)) (nd fr (rom (a k % pl) pl p)) else 0
def rn2 (a : Nat → Nat) (pl s fr p k : Nat) : Nat := if rom (pl - a k % pl) pl p ≠ rom (a k % pl) pl p ∧ sbs (rom (pl - a k % pl) pl p) fr = true then rn a pl (nd s (2 ^ k)) (nd fr (rom (pl - a k % pl) pl p)) else 0
theorem rnc_eq (a : Nat → Nat) (pl s fr p k : Nat) : rnc a pl s fr p k = rn1 a pl s fr p k + rn2 a pl s fr p k := rfl
theorem rom_w0 {pl p : Nat} : rom (pl - 0) pl p = rom 0 pl p := by unfold rom; rw [Nat.sub_zero, Nat.add_mod_right, Nat.add_zero]
theorem nmod1 (p w pl : Nat) : ((p : Int) + (w : Int)) % (pl : Int) = (((p + w) % pl : Nat) : Int) := by rw [Int.natCast_emod, Int.natCast_add]
theorem nmod2 (p w pl : Nat) (h : w ≤ pl) : ((p : Int) + (pl : Int) - (w : Int)) % (pl : Int) = (((p + (pl - w)) % pl : Nat) : Int) := by
  rw [show (p : Int) + (pl : Int) - (w : Int) = ((p + (pl - w) : Nat) : Int) from by omega, Int.natCast_emod]
theorem fa_mod {S : Nat → Int → Int} {a : Int → Int} (hG : FGo S) (ha : S 22 = a) {k : Int} (hk : 1 ≤ k ∧ k ≤ 8) (pl : Nat) : a k % (pl : Int) = ((fa a (k - 1).toNat % pl : Nat) : Int) := by
  have h1 := hG.a k hk
  rw [ha] at h1
  rw [fa_at a hk.1, Int.natCast_emod]
  congr 1
  omega
set_option maxRecDepth 100000 in
theorem lX0_countRest {E : mx_E} {d m : Nat} (hC : RST d m) (hd2 : 1 ≤ d) {S T : Nat → Int → Int} {D : List mx_C} {a : Int → Int} (hG : FGo S) (ha : S 22 = a) {pl s fr p : Nat} (hpl : 0 < pl) (hpl2 : pl ≤ 16) (h_s : s < 256) (h_fr : fr < 2 ^ pl) (h_fr2 : fr < 65536) (hpc : pcn 16 fr = 2 * (mem s).length) (hm : (mem s).length ≤ m + 1) (h_p : p < pl) (hsl : 0 ≤ slt (fky (S 21 7) (3 + (pl : Int)) (s : Int) (fr : Int)) ∧ slt (fky (S 21 7) (3 + (pl : Int)) (s : Int) (fr : Int)) < 4096) (hrn : rn (fa a) pl s fr = lsm (rnp (fa a) pl s fr p) (List.range 8)) : ∀ (j : Nat) (k x : Int) (S1 : Nat → Int → Int) (u10 u11 u12 u13 u14 : Value), u10.category = 1 → u11.category = 1 → u12.category = 1 → u13.category = 1 → u14.category = 1 → k + j = 9 → 1 ≤ k → Fr [25, 26] S S1 → FGo S1 → x = ((lsm (rnp (fa a) pl s fr p) (List.range (k - 1).toNat) : Nat) : Int) → Ev E yX0_countRest cX0_countRest 15 (some .int) (kI E (d + 1) (CQo S T D ((rn (fa a) pl s fr : Nat) : Int))) 0 0 61 [.ref 21, .int (jI (s : Int)), .int (jI (fr : Int)), .int (jI (pl : Int)), .long (jL (fky (S 21 7) (3 + (pl : Int)) (s : Int) (fr : Int))), .retAddr 0, .int (jI (slt (fky (S 21 7) (3 + (pl : Int)) (s : Int) (fr : Int)))), .int (jI (p : Int)), .int (jI x), .int (jI k), u10, u11, u12, u13, u14] [] (W5 S1 T D) := by
  intro j
  induction j with
  | zero =>
    intro k x S1 u10 u11 u12 u13 u14 hu10 hu11 hu12 hu13 hu14 hkj hk hF hG1 hx
    have hk9 : k = 9 := by omega
    subst hk9
    have hx : x = ((rn (fa a) pl s fr : Nat) : Int) := by rw [hrn]; exact hx
    have h22 := fr22 hF
    have hrem := hG1.rem (sl := slt (fky (S 21 7) (3 + (pl : Int)) (s : Int) (fr : Int))) (q := 3 + (pl : Int)) (s := (s : Int)) (fr := (fr : Int)) (v := x) (by omega) (by omega) (by omega) (by rw [h22.1, ha]; unfold fan; rw [if_neg (by omega), if_neg (by omega), if_neg (by omega), Int.toNat_natCast, Int.toNat_natCast, show (3 + (pl : Int) - 3).toNat = pl from by omega]; exact hx)
    rw [h22.2.1] at hrem
    refine L_i9 dX0_countRest_61 ?_
    refine J_bipush dX0_countRest_63 (by decide) ?_
    refine J_icmp_gt 227 dX0_countRest_65 rfl (by omega) (by omega) (fun c65 => ?_) (fun c65 => ?_)
    · refine L_a0 dX0_countRest_227 ?_
      refine L_i6 dX0_countRest_228 ?_
      refine L_l4 dX0_countRest_230 ?_
      refine L_i8 dX0_countRest_232 ?_
      refine C_v3V vX0_78 dX0_countRest_234 (qX0_remember hsl) rfl rfl (Nat.le_of_ble_eq_true rfl) (by omega) ?_
      refine L_i8 dX0_countRest_237 ?_
      exact RQ_i rfl dX0_countRest_239 ⟨hx, _, rfl, hrem, hF.trans (frm_Fr S1 _ _ _)⟩
    · exfalso; omega
  | succ j ih =>
    intro k x S1 u10 u11 u12 u13 u14 hu10 hu11 hu12 hu13 hu14 hkj hk hF hG1 hx
    have hk8 : 1 ≤ k ∧ k ≤ 8 := by omega
    have e22 : S1 22 = a := (hF 22 (by decide)).trans ha
    have hA := hG1.a k hk8
    rw [e22] at hA
    have hnx := rs_next (rnp (fa a) pl s fr p) (k := k - 1) (by omega)
    rw [show k - 1 + 1 = k + 1 - 1 from by omega] at hnx
    have hwm := fa_mod hG1 e22 hk8 pl
    have hwl : fa a (k - 1).toNat % pl < pl := Nat.mod_lt _ hpl
    have ho1 := rom_lt (w := fa a (k - 1).toNat % pl) h_p hpl2
    have ho2 := rom_lt (w := pl - fa a (k - 1).toNat % pl) h_p hpl2
    have hmo := nmod1 p (fa a (k - 1).toNat % pl) pl
    have hmb := nmod2 p (fa a (k - 1).toNat % pl) pl (by omega)
    have h201 : ∀ (S2 : Nat → Int → Int) (mv : Int), spkS (fa a) s (k - 1).toNat = true → Fr [25, 26] S S2 → FGo S2 → mv = (((rn1 (fa a) pl s fr p (k - 1).toNat) + (rn2 (fa a) pl s fr p (k - 1).toNat) : Nat) : Int) → Ev E yX0_countRest cX0_countRest 15 (some .int) (kI E (d + 1) (CQo S T D ((rn (fa a) pl s fr : Nat) : Int))) 0 0 201 [.ref 21, .int (jI (s : Int)), .int (jI (fr : Int)), .int (jI (pl : Int)), .long (jL (fky (S 21 7) (3 + (pl : Int)) (s : Int) (fr : Int))), .retAddr 0, .int (jI (slt (fky (S 21 7) (3 + (pl : Int)) (s : Int) (fr : Int)))), .int (jI (p : Int)), .int (jI x), .int (jI k), .int (jI (((fa a (k - 1).toNat % pl) : Nat) : Int)), .int (jI (((rom (fa a (k - 1).toNat % pl) pl p) : Nat) : Int)), .int (jI (((rom (pl - (fa a (k - 1).toNat % pl)) pl p) : Nat) : Int)), .int (jI (((nd s (2 ^ (k - 1).toNat)) : Nat) : Int)), .int (jI mv)] [] (W5 S2 T D) := by
      intro S2 mv hsp hF2 hG2 hmv
      have e222 : S2 22 = a := (hF2 22 (by decide)).trans ha
      have hL := hG2.l k hk8
      have hbl := ban_le (S2 23 k) (s : Int) (by omega)
      have hbn := ban_nn (S2 23 k) (s : Int)
      refine L_i8 dX0_countRest_201 ?_
      refine L_a0 dX0_countRest_203 ?_
      refine GW_21_1 fX0_15 dX0_countRest_204 ?_
      refine L_i9 dX0_countRest_207 ?_
      refine AR_23 dX0_countRest_209 (by omega) ?_
      refine L_i1 dX0_countRest_210 ?_
      refine J_iandG dX0_countRest_211 (by omega) (by omega) ?_
      refine C_s1F vX0_60 dX0_countRest_212 (sJ_bitCount (by omega)) (Nat.le_of_ble_eq_true rfl) (by omega) ?_
      refine J_eqi (b := ((alN (fa a) s (k - 1).toNat : Nat) : Int)) (aln_pcA hG2 e222 hk8 h_s) ?_
      refine L_i14 dX0_countRest_215 ?_
      refine J_imul dX0_countRest_217 ?_
      refine J_iadd dX0_countRest_218 ?_
      refine S_i8 dX0_countRest_219 (by decide) rfl ?_
      refine JI_9 dX0_countRest_221 (by decide) rfl ?_
      refine E_goto 61 dX0_countRest_224 rfl ?_
      exact ih (k + 1) _ S2 _ _ _ _ _ rfl rfl rfl rfl rfl (by omega) (by omega) hF2 hG2 (by rw [hnx, show rnp (fa a) pl s fr p (k - 1).toNat = _ from if_pos hsp, rnc_eq, hx, hmv]; simp only [Int.natCast_add, Int.natCast_mul])
    have h165 : ∀ (S2 : Nat → Int → Int) (mv : Int) (u14 : Value), u14.category = 1 → spkS (fa a) s (k - 1).toNat = true → Fr [25, 26] S S2 → FGo S2 → mv = (((rn1 (fa a) pl s fr p (k - 1).toNat) : Nat) : Int) → Ev E yX0_countRest cX0_countRest 15 (some .int) (kI E (d + 1) (CQo S T D ((rn (fa a) pl s fr : Nat) : Int))) 0 0 165 [.ref 21, .int (jI (s : Int)), .int (jI (fr : Int)), .int (jI (pl : Int)), .long (jL (fky (S 21 7) (3 + (pl : Int)) (s : Int) (fr : Int))), .retAddr 0, .int (jI (slt (fky (S 21 7) (3 + (pl : Int)) (s : Int) (fr : Int)))), .int (jI (p : Int)), .int (jI x), .int (jI k), .int (jI (((fa a (k - 1).toNat % pl) : Nat) : Int)), .int (jI (((rom (fa a (k - 1).toNat % pl) pl p) : Nat) : Int)), .int (jI (((rom (pl - (fa a (k - 1).toNat % pl)) pl p) : Nat) : Int)), .int (jI (((nd s (2 ^ (k - 1).toNat)) : Nat) : Int)), u14] [.int (jI mv)] (W5 S2 T D) := by
      intro S2 mv u14 hu14 hsp hF2 hG2 hmv
      have e222 : S2 22 = a := (hF2 22 (by decide)).trans ha
      have hbd := bdf_nn (((rom (pl - (fa a (k - 1).toNat % pl)) pl p) : Nat) : Int) (fr : Int)
      have hbe := bdf_le (((rom (pl - (fa a (k - 1).toNat % pl)) pl p) : Nat) : Int) (fr : Int) (by omega)
      have hmo := mem_out_len (spkS_mem (by omega) hsp)
      refine S_i14 dX0_countRest_165 (by decide) rfl ?_
      refine L_i12 dX0_countRest_167 ?_
      refine L_i11 dX0_countRest_169 ?_
      refine J_icmp_eq 201 dX0_countRest_171 rfl (by omega) (by omega) (fun c171 => ?_) (fun c171 => ?_)
      · exact h201 S2 _ hsp hF2 hG2 (by rw [hmv, show (rn2 (fa a) pl s fr p (k - 1).toNat) = 0 from if_neg (fun hh => hh.1 (by omega)), Nat.add_zero])
      · refine L_i12 dX0_countRest_174 ?_
        refine L_i2 dX0_countRest_176 ?_
        refine J_iconst dX0_countRest_177 ?_
        refine J_inot dX0_countRest_178 ?_
        refine J_iandD dX0_countRest_179 (by omega) (by omega) ?_
        refine J_if_ne 201 dX0_countRest_180 rfl (by omega) (fun c180 => ?_) (fun c180 => ?_)
        · exact h201 S2 _ hsp hF2 hG2 (by rw [hmv, show (rn2 (fa a) pl s fr p (k - 1).toNat) = 0 from if_neg (fun hh => c180 (bdf_sbs.mpr hh.2)), Nat.add_zero])
        · refine L_i14 dX0_countRest_183 ?_
          refine L_a0 dX0_countRest_185 ?_
          refine L_i13 dX0_countRest_186 ?_
          refine L_i2 dX0_countRest_188 ?_
          refine L_i12 dX0_countRest_189 ?_
          refine J_iconst dX0_countRest_191 ?_
          refine J_inot dX0_countRest_192 ?_
          refine J_iandD dX0_countRest_193 (by omega) (by omega) ?_
          refine J_eqi (b := ((nd fr (rom (pl - (fa a (k - 1).toNat % pl)) pl p) : Nat) : Int)) rfl ?_
          refine L_i3 dX0_countRest_194 ?_
          refine C_v3I vX0_105 dX0_countRest_195 (hC S2 T D a hG2 e222 pl (nd s (2 ^ (k - 1).toNat)) (nd fr (rom (pl - (fa a (k - 1).toNat % pl)) pl p)) hpl hpl2 (nd_lt h_s) (nd_lt h_fr) (by have hw0 : (fa a (k - 1).toNat % pl) ≠ 0 := (fun e => by rw [e] at c171; exact c171 (by rw [rom_w0])); have h1 := pcn_nd 16 (bdf_sbs.mp c180); rw [pcn_rom (by omega) (by omega) h_p hpl2] at h1; omega) (by omega)) rfl rfl (Nat.le_of_ble_eq_true rfl) (by omega) (fun v195 hp195 hq195 => ?_)
          obtain ⟨rfl, S3, rfl, hG3, hF3⟩ := hq195
          refine J_iadd dX0_countRest_198 ?_
          refine S_i14 dX0_countRest_199 (by decide) rfl ?_
          exact h201 S3 _ hsp (hF2.trans hF3) hG3 (by rw [hmv, show (rn2 (fa a) pl s fr p (k - 1).toNat) = _ from if_pos ⟨fun e => c171 (by rw [e]), bdf_sbs.mp c180⟩, Int.natCast_add])
    refine L_i9 dX0_countRest_61 ?_
    refine J_bipush dX0_countRest_63 (by decide) ?_
    refine J_icmp_gt 227 dX0_countRest_65 rfl (by omega) (by omega) (fun c65 => ?_) (fun c65 => ?_)
    · exfalso; omega
    · refine L_a0 dX0_countRest_68 ?_
      refine L_i1 dX0_countRest_69 ?_
      refine L_i9 dX0_countRest_70 ?_
      refine C_v2F vX0_56 dX0_countRest_72 (qX0_speaks hG1.l (by omega) hk8) rfl rfl (Nat.le_of_ble_eq_true rfl) (by omega) ?_
      refine J_ifeqB 221 dX0_countRest_75 rfl (fun c75 => ?_) (fun c75 => ?_)
      · refine JI_9 dX0_countRest_221 (by decide) rfl ?_
        refine E_goto 61 dX0_countRest_224 rfl ?_
        exact ih (k + 1) x S1 _ _ _ _ _ hu10 hu11 hu12 hu13 hu14 (by omega) (by omega) hF hG1 (by rw [hnx, show rnp (fa a) pl s fr p (k - 1).toNat = 0 from if_neg (fun hh => c75 ((fsp_iffA hG1 e22 hk8).mpr hh)), Nat.add_zero]; exact hx)
      · refine L_a0 dX0_countRest_78 ?_
        refine GW_21_0 fX0_11 dX0_countRest_79 ?_
        refine L_i9 dX0_countRest_82 ?_
        refine AR_22 dX0_countRest_84 (by omega) ?_
        refine J_eqi (b := a k) (by rw [e22]) ?_
        refine L_i3 dX0_countRest_85 ?_
        refine J_iremN dX0_countRest_86 (by omega) (by omega) ?_
        refine J_eqi (b := (((fa a (k - 1).toNat % pl) : Nat) : Int)) hwm ?_
        refine S_i10 dX0_countRest_87 (by decide) rfl ?_
        refine J_iconst dX0_countRest_89 ?_
        refine L_i7 dX0_countRest_90 ?_
        refine J_1shl dX0_countRest_92 (by omega) ?_
        refine J_iconst dX0_countRest_93 ?_
        refine L_i7 dX0_countRest_94 ?_
        refine L_i10 dX0_countRest_96 ?_
        refine J_iadd dX0_countRest_98 ?_
        refine L_i3 dX0_countRest_99 ?_
        refine J_iremN dX0_countRest_100 (by omega) (by omega) ?_
        refine J_eqi hmo ?_
        refine J_1shl dX0_countRest_101 (by have := Nat.mod_lt (p + (fa a (k - 1).toNat % pl)) hpl; omega) ?_
        refine J_iorG dX0_countRest_102 (bsh_nn _) (bsh_nn _) ?_
        refine J_eqi (b := (((rom (fa a (k - 1).toNat % pl) pl p) : Nat) : Int)) (by unfold bor bsh rom; rw [Int.toNat_natCast, Int.toNat_natCast, Int.toNat_natCast, Int.toNat_natCast]) ?_
        refine S_i11 dX0_countRest_103 (by decide) rfl ?_
        refine J_iconst dX0_countRest_105 ?_
        refine L_i7 dX0_countRest_106 ?_
        refine J_1shl dX0_countRest_108 (by omega) ?_
        refine J_iconst dX0_countRest_109 ?_
        refine L_i7 dX0_countRest_110 ?_
        refine L_i3 dX0_countRest_112 ?_
        refine J_iadd dX0_countRest_113 ?_
        refine L_i10 dX0_countRest_114 ?_
        refine J_isub dX0_countRest_116 ?_
        refine L_i3 dX0_countRest_117 ?_
        refine J_iremN dX0_countRest_118 (by omega) (by omega) ?_
        refine J_eqi hmb ?_
        refine J_1shl dX0_countRest_119 (by have := Nat.mod_lt (p + (pl - (fa a (k - 1).toNat % pl))) hpl; omega) ?_
        refine J_iorG dX0_countRest_120 (bsh_nn _) (bsh_nn _) ?_
        refine J_eqi (b := (((rom (pl - (fa a (k - 1).toNat % pl)) pl p) : Nat) : Int)) (by unfold bor bsh rom; rw [Int.toNat_natCast, Int.toNat_natCast, Int.toNat_natCast, Int.toNat_natCast]) ?_
        refine S_i12 dX0_countRest_121 (by decide) rfl ?_
        refine L_i1 dX0_countRest_123 ?_
        refine L_i9 dX0_countRest_124 ?_
        refine C_s1F vX0_43 dX0_countRest_126 (sX10_bitOf (by omega)) (Nat.le_of_ble_eq_true rfl) (by omega) ?_
        refine J_iconst dX0_countRest_129 ?_
        refine J_inot dX0_countRest_130 ?_
        refine J_iandD dX0_countRest_131 (by omega) (bsh_nn _) ?_
        refine J_eqi (b := (((nd s (2 ^ (k - 1).toNat)) : Nat) : Int)) rfl ?_
        refine S_i13 dX0_countRest_132 (by decide) rfl ?_
        refine L_i10 dX0_countRest_134 ?_
        refine J_if_eq 164 dX0_countRest_136 rfl (by omega) (fun c136 => ?_) (fun c136 => ?_)
        · refine J_iconst dX0_countRest_164 ?_
          exact h165 S1 _ _ hu14 ((fsp_iffA hG1 e22 hk8).mp c75) hF hG1 (by rw [show (rn1 (fa a) pl s fr p (k - 1).toNat) = 0 from if_neg (fun hh => hh.1 (by omega))]; rfl)
        · refine L_i11 dX0_countRest_139 ?_
          refine L_i2 dX0_countRest_141 ?_
          refine J_iconst dX0_countRest_142 ?_
          refine J_inot dX0_countRest_143 ?_
          refine J_iandD dX0_countRest_144 (by omega) (by omega) ?_
          have hbd := bdf_nn (((rom (fa a (k - 1).toNat % pl) pl p) : Nat) : Int) (fr : Int)
          have hbe := bdf_le (((rom (fa a (k - 1).toNat % pl) pl p) : Nat) : Int) (fr : Int) (by omega)
          refine J_if_ne 164 dX0_countRest_145 rfl (by omega) (fun c145 => ?_) (fun c145 => ?_)
          · refine J_iconst dX0_countRest_164 ?_
            exact h165 S1 _ _ hu14 ((fsp_iffA hG1 e22 hk8).mp c75) hF hG1 (by rw [show (rn1 (fa a) pl s fr p (k - 1).toNat) = 0 from if_neg (fun hh => c145 (bdf_sbs.mpr hh.2))]; rfl)
          · refine L_a0 dX0_countRest_148 ?_
            refine L_i13 dX0_countRest_149 ?_
            refine L_i2 dX0_countRest_151 ?_
            refine L_i11 dX0_countRest_152 ?_
            refine J_iconst dX0_countRest_154 ?_
            refine J_inot dX0_countRest_155 ?_
            refine J_iandD dX0_countRest_156 (by omega) (by omega) ?_
            refine J_eqi (b := ((nd fr (rom (fa a (k - 1).toNat % pl) pl p) : Nat) : Int)) rfl ?_
            refine L_i3 dX0_countRest_157 ?_
            refine C_v3I vX0_105 dX0_countRest_158 (hC S1 T D a hG1 e22 pl (nd s (2 ^ (k - 1).toNat)) (nd fr (rom (fa a (k - 1).toNat % pl) pl p)) hpl hpl2 (nd_lt h_s) (nd_lt h_fr) (by have h1 := pcn_nd 16 (bdf_sbs.mp c145); have h2 := mem_out_len (spkS_mem (by omega) ((fsp_iffA hG1 e22 hk8).mp c75)); rw [pcn_rom (by omega) (by omega) h_p hpl2] at h1; omega) (by have h2 := mem_out_len (spkS_mem (by omega) ((fsp_iffA hG1 e22 hk8).mp c75)); omega)) rfl rfl (Nat.le_of_ble_eq_true rfl) (by omega) (fun v158 hp158 hq158 => ?_)
            obtain ⟨rfl, S3, rfl, hG3, hF3⟩ := hq158
            refine E_goto 165 dX0_countRest_161 rfl ?_
            exact h165 S3 _ _ hu14 ((fsp_iffA hG1 e22 hk8).mp c75) (hF.trans hF3) hG3 (by rw [show (rn1 (fa a) pl s fr p (k - 1).toNat) = _ from if_pos ⟨fun e => c136 (by omega), bdf_sbs.mp c145⟩])
set_option maxRecDepth 100000 in
theorem qX0_countRestS {d m : Nat} (hC : m = 0 ∨ ∃ n, m = n + 1 ∧ RST d n) (hd2 : 1 ≤ d) : RST (d + 1) m := by
  intro S T D a hG ha pl s fr hpl hpl2 h_s h_fr hpc hm
  have h_fr2 : fr < 65536 := Nat.lt_of_lt_of_le h_fr (Nat.pow_le_pow_right (by decide) hpl2 : 2 ^ pl ≤ 2 ^ 16)
  have hsl := slt_B (fky (S 21 7) (3 + (pl : Int)) (s : Int) (fr : Int))
  have hkb := hG.kB hsl
  have hyb := fky_B hG.2.2.2 (q := 3 + (pl : Int)) (s := (s : Int)) (fr := (fr : Int)) (by omega) (by omega) (by omega)
  refine Sp.of [.ref 21, .int (jI (s : Int)), .int (jI (fr : Int)), .int (jI (pl : Int)), .retAddr 0, .retAddr 0, .retAddr 0, .retAddr 0, .retAddr 0, .retAddr 0, .retAddr 0, .retAddr 0, .retAddr 0, .retAddr 0, .retAddr 0] (by decide) (by simp) (Nat.le_of_ble_eq_true rfl) rfl (fun E => ?_)
  refine L_i1 dX0_countRest_0 ?_
  refine J_if_eq 8 dX0_countRest_1 rfl (by omega) (fun c1 => ?_) (fun c1 => ?_)
  · refine J_iconst dX0_countRest_8 ?_
    exact RQ_i rfl dX0_countRest_9 ⟨by rw [show s = 0 from by omega]; rfl, S, rfl, hG, Fr.refl _ _⟩
  · refine L_i3 dX0_countRest_4 ?_
    refine J_if_gt 10 dX0_countRest_5 rfl (by omega) (fun c5 => ?_) (fun c5 => ?_)
    · refine L_a0 dX0_countRest_10 ?_
      refine J_iconst dX0_countRest_11 ?_
      refine L_i3 dX0_countRest_12 ?_
      refine J_iadd dX0_countRest_13 ?_
      refine L_i1 dX0_countRest_14 ?_
      refine L_i2 dX0_countRest_15 ?_
      refine C_v3F vX0_67 dX0_countRest_16 (qX0_keyOf hG (by omega) h_s h_fr2) rfl rfl (Nat.le_of_ble_eq_true rfl) (by omega) ?_
      refine S_l4 dX0_countRest_19 (by decide) rfl ?_
      refine L_l4 dX0_countRest_21 ?_
      refine C_s1F vX0_71 dX0_countRest_23 qX0_slotOf (Nat.le_of_ble_eq_true rfl) (by omega) ?_
      refine S_i6 dX0_countRest_26 (by decide) rfl ?_
      refine L_a0 dX0_countRest_28 ?_
      refine GW_21_3 fX0_21 dX0_countRest_29 ?_
      refine L_i6 dX0_countRest_32 ?_
      refine AR_25 dX0_countRest_34 (by omega) ?_
      refine L_l4 dX0_countRest_35 ?_
      refine JL_ne 49 dX0_countRest_37 dX0_countRest_38 rfl (by omega) (by omega) (fun c38 => ?_) (fun c38 => ?_)
      · have hs0 : s ≠ 0 := by omega
        have hmp := pcn_pos 16 s (by omega) (by omega)
        rw [pcn_mem h_s] at hmp
        obtain ⟨m1, hm1, hC⟩ := hC.resolve_left (by omega)
        have hf0 : fr ≠ 0 := fun e => by rw [e, pcn_0] at hpc; omega
        obtain ⟨p, h_p, hlow, hpb, hpl3⟩ := low_ok hf0 h_fr2
        have hp_pl : p < pl := by
          rcases Nat.lt_or_ge p pl with h1 | h1
          · exact h1
          · rw [Nat.testBit_lt_two_pow (Nat.lt_of_lt_of_le h_fr (Nat.pow_le_pow_right (by decide) h1))] at hpb
            cases hpb
        refine L_i2 dX0_countRest_49 ?_
        refine C_s1F vX0_51 dX0_countRest_50 (sJ_ntz (by omega)) (Nat.le_of_ble_eq_true rfl) (by omega) ?_
        refine J_eqi (b := (p : Int)) hlow ?_
        refine S_i7 dX0_countRest_53 (by decide) rfl ?_
        refine J_iconst dX0_countRest_55 ?_
        refine S_i8 dX0_countRest_56 (by decide) rfl ?_
        refine J_iconst dX0_countRest_58 ?_
        refine S_i9 dX0_countRest_59 (by decide) rfl ?_
        exact lX0_countRest hC hd2 hG ha hpl hpl2 h_s h_fr h_fr2 hpc (by omega) hp_pl hsl (rn_placeS ⟨hpl, hpl2⟩ h_fr2 hpb hp_pl hpc) 8 1 0 S _ _ _ _ _ rfl rfl rfl rfl rfl (by omega) (by omega) (Fr.refl _ _) hG rfl
      · refine L_a0 dX0_countRest_41 ?_
        refine GW_21_4 fX0_25 dX0_countRest_42 ?_
        refine L_i6 dX0_countRest_45 ?_
        refine AR_26 dX0_countRest_47 (by omega) ?_
        exact RQ_i rfl dX0_countRest_48 ⟨by rw [hG.hit hsl (by omega) (by omega) (by omega) c38, ha]; unfold fan; rw [if_neg (by omega), if_neg (by omega), if_neg (by omega), Int.toNat_natCast, Int.toNat_natCast, show (3 + (pl : Int) - 3).toNat = pl from by omega], S, rfl, hG, Fr.refl _ _⟩
    · exfalso; omega
theorem RST_all : ∀ m : Nat, RST (m + 2) m := by
  intro m
  induction m with
  | zero => exact qX0_countRestS (d := 1) (Or.inl rfl) (by omega)
  | succ m ih => exact qX0_countRestS (d := m + 2) (Or.inr ⟨m, rfl, ih⟩) (by omega)
