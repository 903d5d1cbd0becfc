/-! ===== the class: rounds, threes, choices, the game ===== -/
theorem pcn_all : ∀ n : Fin 17, pcn 16 (2 ^ n.val - 1) = n.val := by decide
theorem low_mem {s : Nat} (hs : s < 256) (h0 : s ≠ 0) : ∃ k : Nat, k < 8 ∧ s.testBit k = true ∧ lowF (s : Int) 31 0 = (k : Int) := by
  obtain ⟨k, _, k2, k3, _⟩ := low_ok h0 (by omega)
  refine ⟨k, ?_, k3, k2⟩
  rcases Nat.lt_or_ge k 8 with h1 | h1
  · exact h1
  · rw [Nat.testBit_lt_two_pow (Nat.lt_of_lt_of_le hs (Nat.pow_le_pow_right (by decide) h1 : 2 ^ 8 ≤ 2 ^ k))] at k3
    cases k3
def rnd (a : Int → Int) (s : Nat) : Nat := rn (fa a) (2 * (mem s).length) s (2 ^ (2 * (mem s).length) - 1)
theorem rcn_if {w pl : Nat} (h0 : w ≠ 0) : rcn w pl = if 2 * w = pl then w else pl := by
  unfold rcn
  rw [if_neg h0]
  split
  · omega
  · rfl
set_option maxRecDepth 100000 in
theorem qX0_countRound {S T : Nat → Int → Int} {D : List mx_C} {a : Int → Int} (hG : FGo S) (ha : S 22 = a) {s : Nat} (h_s : s < 256) : SpI yX0_countRound cX0_countRound 6 (some .int) 11 [.ref 21, .int (jI (s : Int))] (W5 S T D) (CQo S T D ((rnd a s : Nat) : Int)) := by
  have hpm := pcn_mem h_s
  have hpb := pc_B (s : Int)
  have epc : pc (s : Int) = (((mem s).length : Nat) : Int) := by rw [← hpm]; rfl
  refine Sp.of [.ref 21, .int (jI (s : Int)), .retAddr 0, .retAddr 0, .retAddr 0, .retAddr 0] (by decide) (by simp) (Nat.le_of_ble_eq_true rfl) rfl (fun E => ?_)
  refine L_i1 dX0_countRound_0 ?_
  refine J_if_ne 6 dX0_countRound_1 rfl (by omega) (fun c1 => ?_) (fun c1 => ?_)
  · obtain ⟨k1, hk8, hks, hlo⟩ := low_mem h_s (by omega)
    have hlen : (mem s).length ≤ 8 := memN_len s 8
    have hmo := mem_out_len ((memN_mem 8 k1).mpr ⟨hk8, hks⟩)
    have hk9 : (1 : Int) ≤ (k1 : Int) + 1 ∧ (k1 : Int) + 1 ≤ 8 := by omega
    have hA := hG.a _ hk9
    rw [ha] at hA
    have hwm := fa_mod hG ha hk9 (2 * (mem s).length)
    rw [show ((k1 : Int) + 1 - 1).toNat = k1 from by omega] at hwm
    have hwl : (fa a k1 % (2 * (mem s).length)) < (2 * (mem s).length) := Nat.mod_lt _ (by omega)
    have hrd := rn_round (a := fa a) (pl := (2 * (mem s).length)) (show 0 < (2 * (mem s).length) by omega) hk8 hks
    have hpa : pcn 16 (2 ^ (2 * (mem s).length) - 1) = (2 * (mem s).length) := pcn_all ⟨(2 * (mem s).length), by omega⟩
    have hpw : ((2 ^ (2 * (mem s).length) : Nat) : Int) ≤ 65536 := by
      have : 2 ^ (2 * (mem s).length) ≤ 2 ^ 16 := Nat.pow_le_pow_right (by decide) (by omega)
      omega
    have hpw1 : 1 ≤ 2 ^ (2 * (mem s).length) := Nat.one_le_two_pow
    refine L_i1 dX0_countRound_6 ?_
    refine C_s1F vX0_64 dX0_countRound_7 (qX0_lowestOf (by omega)) (Nat.le_of_ble_eq_true rfl) (by decide) ?_
    refine J_eqi (b := (k1 : Int) + 1) (by rw [if_neg (by omega), hlo]) ?_
    refine S_i2 dX0_countRound_10 (by decide) rfl ?_
    refine J_iconst dX0_countRound_11 ?_
    refine L_i1 dX0_countRound_12 ?_
    refine C_s1F vX0_60 dX0_countRound_13 (sJ_bitCount (by omega)) (Nat.le_of_ble_eq_true rfl) (by decide) ?_
    refine J_imul dX0_countRound_16 ?_
    refine J_eqi (b := (((2 * (mem s).length) : Nat) : Int)) (by omega) ?_
    refine S_i3 dX0_countRound_17 (by decide) rfl ?_
    refine L_a0 dX0_countRound_18 ?_
    refine GW_21_0 fX0_11 dX0_countRound_19 ?_
    refine L_i2 dX0_countRound_22 ?_
    refine AR_22 dX0_countRound_23 (by omega) ?_
    refine J_eqi (b := a ((k1 : Int) + 1)) (by rw [ha]) ?_
    refine L_i3 dX0_countRound_24 ?_
    refine J_iremN dX0_countRound_25 (by omega) (by omega) ?_
    refine J_eqi (b := (((fa a k1 % (2 * (mem s).length)) : Nat) : Int)) hwm ?_
    refine S_i4 dX0_countRound_26 (by decide) rfl ?_
    refine L_i4 dX0_countRound_28 ?_
    refine J_if_ne 35 dX0_countRound_30 rfl (by omega) (fun c30 => ?_) (fun c30 => ?_)
    · refine J_iconst dX0_countRound_35 ?_
      refine L_i4 dX0_countRound_36 ?_
      refine J_imul dX0_countRound_38 ?_
      refine L_i3 dX0_countRound_39 ?_
      refine J_icmp_ne 48 dX0_countRound_40 rfl (by omega) (by omega) (fun c40 => ?_) (fun c40 => ?_)
      · refine L_i3 dX0_countRound_48 ?_
        have hpr : pcn 16 (nd (2 ^ (2 * (mem s).length) - 1) (rom (fa a k1 % (2 * (mem s).length)) (2 * (mem s).length) 0)) = 2 * (mem (nd s (2 ^ k1))).length := by
          have h1 : sbs (rom (fa a k1 % (2 * (mem s).length)) (2 * (mem s).length) 0) (2 ^ (2 * (mem s).length) - 1) = true := by
            rw [sbs_rom, Nat.testBit_two_pow_sub_one, Nat.testBit_two_pow_sub_one, decide_eq_true_iff, decide_eq_true_iff]
            exact ⟨by omega, Nat.mod_lt _ (by omega)⟩
          have h2 := pcn_nd 16 h1
          rw [pcn_rom hwl (by omega) (by omega) (by omega)] at h2
          rw [hpa] at h2
          omega
        have hres : (((2 * (mem s).length) : Nat) : Int) * ((rn (fa a) (2 * (mem s).length) (nd s (2 ^ k1)) (nd (2 ^ (2 * (mem s).length) - 1) (rom (fa a k1 % (2 * (mem s).length)) (2 * (mem s).length) 0)) : Nat) : Int) = ((rnd a s : Nat) : Int) := by
          rw [← Int.natCast_mul]
          refine congrArg Int.ofNat ?_
          unfold rnd
          rw [hrd, if_neg (by omega), rcn_if (by omega), if_neg (by omega)]
        refine S_i5 dX0_countRound_49 (by decide) rfl ?_
        refine L_i5 dX0_countRound_51 ?_
        refine L_a0 dX0_countRound_53 ?_
        refine L_i1 dX0_countRound_54 ?_
        refine L_i2 dX0_countRound_55 ?_
        refine C_s1F vX0_43 dX0_countRound_56 (sX10_bitOf (by omega)) (Nat.le_of_ble_eq_true rfl) (by decide) ?_
        refine J_eqi (b := bsh (k1 : Int)) (by rw [show (k1 : Int) + 1 - 1 = (k1 : Int) from by omega]) ?_
        refine J_iconst dX0_countRound_59 ?_
        refine J_inot dX0_countRound_60 ?_
        refine J_iandD dX0_countRound_61 (by omega) (bsh_nn _) ?_
        refine J_eqi (b := (((nd s (2 ^ k1)) : Nat) : Int)) (by unfold bdf bsh; rw [Int.toNat_natCast, Int.toNat_natCast, Int.toNat_natCast]) ?_
        refine L_i3 dX0_countRound_62 ?_
        refine C_s1F vX0_102 dX0_countRound_63 (sX10_allOf (by omega)) (Nat.le_of_ble_eq_true rfl) (by decide) ?_
        refine J_eqi (b := ((2 ^ (2 * (mem s).length) - 1 : Nat) : Int)) (by unfold bsh; rw [Int.toNat_natCast]; omega) ?_
        refine J_iconst dX0_countRound_66 ?_
        refine J_iconst dX0_countRound_67 ?_
        refine L_i4 dX0_countRound_68 ?_
        refine J_1shl dX0_countRound_70 (by omega) ?_
        refine J_iorG dX0_countRound_71 (by omega) (bsh_nn _) ?_
        refine J_eqi (b := ((rom (fa a k1 % (2 * (mem s).length)) (2 * (mem s).length) 0 : Nat) : Int)) (by unfold bor bsh rom; rw [Int.toNat_natCast, Int.toNat_natCast, Nat.zero_add, Nat.mod_eq_of_lt hwl]; rfl) ?_
        refine J_iconst dX0_countRound_72 ?_
        refine J_inot dX0_countRound_73 ?_
        refine J_iandD dX0_countRound_74 (by omega) (by omega) ?_
        refine J_eqi (b := (((nd (2 ^ (2 * (mem s).length) - 1) (rom (fa a k1 % (2 * (mem s).length)) (2 * (mem s).length) 0)) : Nat) : Int)) rfl ?_
        refine L_i3 dX0_countRound_75 ?_
        refine C_v3I vX0_105 dX0_countRound_76 (RST_all 8 S T D a hG ha (2 * (mem s).length) (nd s (2 ^ k1)) (nd (2 ^ (2 * (mem s).length) - 1) (rom (fa a k1 % (2 * (mem s).length)) (2 * (mem s).length) 0)) (by omega) (by omega) (nd_lt h_s) (nd_lt (by omega)) hpr (by omega)) rfl rfl (Nat.le_of_ble_eq_true rfl) (by decide) (fun v76 hp76 hq76 => ?_)
        obtain ⟨rfl, S76, rfl, hG76, hF76⟩ := hq76
        refine J_imul dX0_countRound_79 ?_
        exact RQ_i rfl dX0_countRound_80 ⟨hres, S76, rfl, hG76, hF76⟩
      · refine L_i4 dX0_countRound_43 ?_
        refine E_goto 49 dX0_countRound_45 rfl ?_
        have hpr : pcn 16 (nd (2 ^ (2 * (mem s).length) - 1) (rom (fa a k1 % (2 * (mem s).length)) (2 * (mem s).length) 0)) = 2 * (mem (nd s (2 ^ k1))).length := by
          have h1 : sbs (rom (fa a k1 % (2 * (mem s).length)) (2 * (mem s).length) 0) (2 ^ (2 * (mem s).length) - 1) = true := by
            rw [sbs_rom, Nat.testBit_two_pow_sub_one, Nat.testBit_two_pow_sub_one, decide_eq_true_iff, decide_eq_true_iff]
            exact ⟨by omega, Nat.mod_lt _ (by omega)⟩
          have h2 := pcn_nd 16 h1
          rw [pcn_rom hwl (by omega) (by omega) (by omega)] at h2
          rw [hpa] at h2
          omega
        have hres : (((fa a k1 % (2 * (mem s).length)) : Nat) : Int) * ((rn (fa a) (2 * (mem s).length) (nd s (2 ^ k1)) (nd (2 ^ (2 * (mem s).length) - 1) (rom (fa a k1 % (2 * (mem s).length)) (2 * (mem s).length) 0)) : Nat) : Int) = ((rnd a s : Nat) : Int) := by
          rw [← Int.natCast_mul]
          refine congrArg Int.ofNat ?_
          unfold rnd
          rw [hrd, if_neg (by omega), rcn_if (by omega), if_pos (by omega)]
        refine S_i5 dX0_countRound_49 (by decide) rfl ?_
        refine L_i5 dX0_countRound_51 ?_
        refine L_a0 dX0_countRound_53 ?_
        refine L_i1 dX0_countRound_54 ?_
        refine L_i2 dX0_countRound_55 ?_
        refine C_s1F vX0_43 dX0_countRound_56 (sX10_bitOf (by omega)) (Nat.le_of_ble_eq_true rfl) (by decide) ?_
        refine J_eqi (b := bsh (k1 : Int)) (by rw [show (k1 : Int) + 1 - 1 = (k1 : Int) from by omega]) ?_
        refine J_iconst dX0_countRound_59 ?_
        refine J_inot dX0_countRound_60 ?_
        refine J_iandD dX0_countRound_61 (by omega) (bsh_nn _) ?_
        refine J_eqi (b := (((nd s (2 ^ k1)) : Nat) : Int)) (by unfold bdf bsh; rw [Int.toNat_natCast, Int.toNat_natCast, Int.toNat_natCast]) ?_
        refine L_i3 dX0_countRound_62 ?_
        refine C_s1F vX0_102 dX0_countRound_63 (sX10_allOf (by omega)) (Nat.le_of_ble_eq_true rfl) (by decide) ?_
        refine J_eqi (b := ((2 ^ (2 * (mem s).length) - 1 : Nat) : Int)) (by unfold bsh; rw [Int.toNat_natCast]; omega) ?_
        refine J_iconst dX0_countRound_66 ?_
        refine J_iconst dX0_countRound_67 ?_
        refine L_i4 dX0_countRound_68 ?_
        refine J_1shl dX0_countRound_70 (by omega) ?_
        refine J_iorG dX0_countRound_71 (by omega) (bsh_nn _) ?_
        refine J_eqi (b := ((rom (fa a k1 % (2 * (mem s).length)) (2 * (mem s).length) 0 : Nat) : Int)) (by unfold bor bsh rom; rw [Int.toNat_natCast, Int.toNat_natCast, Nat.zero_add, Nat.mod_eq_of_lt hwl]; rfl) ?_
        refine J_iconst dX0_countRound_72 ?_
        refine J_inot dX0_countRound_73 ?_
        refine J_iandD dX0_countRound_74 (by omega) (by omega) ?_
        refine J_eqi (b := (((nd (2 ^ (2 * (mem s).length) - 1) (rom (fa a k1 % (2 * (mem s).length)) (2 * (mem s).length) 0)) : Nat) : Int)) rfl ?_
        refine L_i3 dX0_countRound_75 ?_
        refine C_v3I vX0_105 dX0_countRound_76 (RST_all 8 S T D a hG ha (2 * (mem s).length) (nd s (2 ^ k1)) (nd (2 ^ (2 * (mem s).length) - 1) (rom (fa a k1 % (2 * (mem s).length)) (2 * (mem s).length) 0)) (by omega) (by omega) (nd_lt h_s) (nd_lt (by omega)) hpr (by omega)) rfl rfl (Nat.le_of_ble_eq_true rfl) (by decide) (fun v76 hp76 hq76 => ?_)
        obtain ⟨rfl, S76, rfl, hG76, hF76⟩ := hq76
        refine J_imul dX0_countRound_79 ?_
        exact RQ_i rfl dX0_countRound_80 ⟨hres, S76, rfl, hG76, hF76⟩
    · refine J_iconst dX0_countRound_33 ?_
      exact RQ_i rfl dX0_countRound_34 ⟨by unfold rnd; rw [hrd, if_pos (by omega)]; rfl, S, rfl, hG, Fr.refl _ _⟩
  · refine J_iconst dX0_countRound_4 ?_
    exact RQ_i rfl dX0_countRound_5 ⟨by rw [show s = 0 from by omega]; rfl, S, rfl, hG, Fr.refl _ _⟩
def THR (d m : Nat) : Prop := ∀ (S T : Nat → Int → Int) (D : List mx_C) (a : Int → Int), FGo S → S 22 = a → ∀ (s fr : Nat), s < 256 → fr < 65536 → pcn 16 fr = 3 * (mem s).length → (mem s).length ≤ m → SpF yX0_countThrees cX0_countThrees 8 (some .int) d [.ref 21, .int (jI (s : Int)), .int (jI (fr : Int))] (W5 S T D) (.int (jI ((tn (fa a) s fr : Nat) : Int))) (W5 S T D)
def tnp (a : Nat → Nat) (s fr p k : Nat) : Nat := if spkS a s k = true then alN a s k * (if sbs (tm (a k) p) fr = true then tn a (nd s (2 ^ k)) (nd fr (tm (a k) p)) else 0) else 0
set_option maxRecDepth 100000 in
theorem lX0_countThrees {E : mx_E} {d m : Nat} (hC : THR d m) {S T : Nat → Int → Int} {D : List mx_C} {a : Int → Int} (hG : FGo S) (ha : S 22 = a) {s fr : Nat} (h_s : s < 256) (h_fr : fr < 65536) (hpc : pcn 16 fr = 3 * (mem s).length) (hm : (mem s).length ≤ m + 1) {p : Nat} (h_p : p < 16) (hpb : fr.testBit p = true) : ∀ (j : Nat) (k x : Int) (u6 u7 : Value), u6.category = 1 → u7.category = 1 → k + j = 9 → 1 ≤ k → x = ((lsm (tnp (fa a) s fr p) (List.range (k - 1).toNat) : Nat) : Int) → Ev E yX0_countThrees cX0_countThrees 8 (some .int) (kf E (d + 1) (.int (jI ((lsm (tnp (fa a) s fr p) (List.range 8) : Nat) : Int))) (W5 S T D)) 0 0 17 [.ref 21, .int (jI (s : Int)), .int (jI (fr : Int)), .int (jI (p : Int)), .int (jI x), .int (jI k), u6, u7] [] (W5 S T D) := by
  intro j
  induction j with
  | zero =>
    intro k x u6 u7 hu6 hu7 hkj hk hx
    have hk9 : k = 9 := by omega
    subst hk9
    refine L_i5 dX0_countThrees_17 ?_
    refine J_bipush dX0_countThrees_19 (by decide) ?_
    refine J_icmp_gt 120 dX0_countThrees_21 rfl (by omega) (by omega) (fun c21 => ?_) (fun c21 => ?_)
    · refine L_i4 dX0_countThrees_120 ?_
      exact R_i rfl dX0_countThrees_122 rfl hx
    · exfalso; omega
  | succ j ih =>
    intro k x u6 u7 hu6 hu7 hkj hk hx
    have hk8 : 1 ≤ k ∧ k ≤ 8 := by omega
    have hA := hG.a k hk8
    rw [ha] at hA
    have hL := hG.l k hk8
    have hfa := fa_at a hk8.1
    have hbl := ban_le (S 23 k) (s : Int) (by omega)
    have hbn := ban_nn (S 23 k) (s : Int)
    have hnx := rs_next (tnp (fa a) s fr p) (k := k - 1) (by omega)
    rw [show k - 1 + 1 = k + 1 - 1 from by omega] at hnx
    have hd1 := hG.oA ha (k - 1).toNat (by omega)
    have hno : ¬ (p : Int) + 2 * a k < 16 → ¬ sbs (tm (fa a (k - 1).toNat) p) fr = true := fun h hh => by
      have := bit_lt h_fr (sbs_iff.mp hh (p + 2 * fa a (k - 1).toNat) (tm_bit.mpr (Or.inr rfl)))
      omega
    refine L_i5 dX0_countThrees_17 ?_
    refine J_bipush dX0_countThrees_19 (by decide) ?_
    refine J_icmp_gt 120 dX0_countThrees_21 rfl (by omega) (by omega) (fun c21 => ?_) (fun c21 => ?_)
    · exfalso; omega
    · refine L_i3 dX0_countThrees_24 ?_
      refine J_iconst dX0_countThrees_25 ?_
      refine L_a0 dX0_countThrees_26 ?_
      refine GW_21_0 fX0_11 dX0_countThrees_27 ?_
      refine L_i5 dX0_countThrees_30 ?_
      refine AR_22 dX0_countThrees_32 (by omega) ?_
      refine J_eqi (b := a k) (by rw [ha]) ?_
      refine J_imul dX0_countThrees_33 ?_
      refine J_iadd dX0_countThrees_34 ?_
      refine S_i6 dX0_countThrees_35 (by decide) rfl ?_
      refine L_a0 dX0_countThrees_37 ?_
      refine L_i1 dX0_countThrees_38 ?_
      refine L_i5 dX0_countThrees_39 ?_
      refine C_v2F vX0_56 dX0_countThrees_41 (qX0_speaks hG.l (by omega) hk8) rfl rfl (Nat.le_of_ble_eq_true rfl) (by omega) ?_
      refine J_ifeqB 114 dX0_countThrees_44 rfl (fun c44 => ?_) (fun c44 => ?_)
      · refine JI_5 dX0_countThrees_114 (by decide) rfl ?_
        refine E_goto 17 dX0_countThrees_117 rfl ?_
        exact ih (k + 1) x _ _ rfl hu7 (by omega) (by omega) (by rw [hnx, show tnp (fa a) s fr p (k - 1).toNat = 0 from if_neg (fun hh => c44 ((fsp_iffA hG ha hk8).mpr hh)), hx]; rw [Nat.add_zero])
      · refine L_i6 dX0_countThrees_47 ?_
        refine J_bipush dX0_countThrees_49 (by decide) ?_
        refine J_icmp_ge 114 dX0_countThrees_51 rfl (by omega) (by omega) (fun c51 => ?_) (fun c51 => ?_)
        · refine JI_5 dX0_countThrees_114 (by decide) rfl ?_
          refine E_goto 17 dX0_countThrees_117 rfl ?_
          exact ih (k + 1) x _ _ rfl hu7 (by omega) (by omega) (by rw [hnx, show tnp (fa a) s fr p (k - 1).toNat = 0 from by unfold tnp; rw [if_pos ((fsp_iffA hG ha hk8).mp c44), if_neg (hno (by omega)), Nat.mul_zero], hx]; rw [Nat.add_zero])
        · refine L_a0 dX0_countThrees_54 ?_
          refine L_i5 dX0_countThrees_55 ?_
          refine L_i3 dX0_countThrees_57 ?_
          refine C_v2F vX0_92 dX0_countThrees_58 (qX0_pairOf hG.a hk8 (by omega)) rfl rfl (Nat.le_of_ble_eq_true rfl) (by omega) ?_
          refine J_eqi (b := ((pm (fa a (k - 1).toNat) p : Nat) : Int)) (by rw [ha]; exact fpr_pm (by omega) (by omega) hA.1) ?_
          refine J_iconst dX0_countThrees_61 ?_
          refine L_i6 dX0_countThrees_62 ?_
          refine J_1shl dX0_countThrees_64 (by omega) ?_
          refine J_iorG dX0_countThrees_65 (by omega) (bsh_nn _) ?_
          refine J_eqi (b := (((tm (fa a (k - 1).toNat) p) : Nat) : Int)) (by unfold bor bsh tm; rw [Int.toNat_natCast, Int.toNat_natCast, show ((p : Int) + 2 * a k).toNat = p + 2 * fa a (k - 1).toNat from by omega]) ?_
          have htl : (tm (fa a (k - 1).toNat) p) < 65536 := by
            unfold tm pm
            exact Nat.or_lt_two_pow (Nat.or_lt_two_pow (Nat.pow_lt_pow_right (by decide) (by omega) : 2 ^ p < 2 ^ 16) (Nat.pow_lt_pow_right (by decide) (by omega))) (Nat.pow_lt_pow_right (by decide) (by omega))
          have hbd := bdf_nn (((tm (fa a (k - 1).toNat) p) : Nat) : Int) (fr : Int)
          have hbe := bdf_le (((tm (fa a (k - 1).toNat) p) : Nat) : Int) (fr : Int) (by omega)
          refine S_i7 dX0_countThrees_66 (by decide) rfl ?_
          refine L_i7 dX0_countThrees_68 ?_
          refine L_i2 dX0_countThrees_70 ?_
          refine J_iconst dX0_countThrees_71 ?_
          refine J_inot dX0_countThrees_72 ?_
          refine J_iandD dX0_countThrees_73 (by omega) (by omega) ?_
          refine J_if_ne 114 dX0_countThrees_74 rfl (by omega) (fun c74 => ?_) (fun c74 => ?_)
          · refine JI_5 dX0_countThrees_114 (by decide) rfl ?_
            refine E_goto 17 dX0_countThrees_117 rfl ?_
            exact ih (k + 1) x _ _ rfl rfl (by omega) (by omega) (by rw [hnx, show tnp (fa a) s fr p (k - 1).toNat = 0 from by unfold tnp; rw [if_pos ((fsp_iffA hG ha hk8).mp c44), if_neg (fun hh => c74 (bdf_sbs.mpr hh)), Nat.mul_zero], hx]; rw [Nat.add_zero])
          · have hmo := mem_out_len (spkS_mem (by omega) ((fsp_iffA hG ha hk8).mp c44))
            have hpr : pcn 16 (nd fr (tm (fa a (k - 1).toNat) p)) = 3 * (mem (nd s (2 ^ (k - 1).toNat))).length := by
              have h2 := pcn_nd 16 (bdf_sbs.mp c74)
              rw [tm_pc hd1 htl] at h2
              omega
            refine L_i4 dX0_countThrees_77 ?_
            refine L_a0 dX0_countThrees_79 ?_
            refine GW_21_1 fX0_15 dX0_countThrees_80 ?_
            refine L_i5 dX0_countThrees_83 ?_
            refine AR_23 dX0_countThrees_85 (by omega) ?_
            refine L_i1 dX0_countThrees_86 ?_
            refine J_iandG dX0_countThrees_87 (by omega) (by omega) ?_
            refine C_s1F vX0_60 dX0_countThrees_88 (sJ_bitCount (by omega)) (Nat.le_of_ble_eq_true rfl) (by omega) ?_
            refine J_eqi (b := ((alN (fa a) s (k - 1).toNat : Nat) : Int)) (aln_pcA hG ha hk8 h_s) ?_
            refine L_a0 dX0_countThrees_91 ?_
            refine L_i1 dX0_countThrees_92 ?_
            refine L_i5 dX0_countThrees_93 ?_
            refine C_s1F vX0_43 dX0_countThrees_95 (sX10_bitOf (by omega)) (Nat.le_of_ble_eq_true rfl) (by omega) ?_
            refine J_iconst dX0_countThrees_98 ?_
            refine J_inot dX0_countThrees_99 ?_
            refine J_iandD dX0_countThrees_100 (by omega) (bsh_nn _) ?_
            refine J_eqi (b := ((nd s (2 ^ (k - 1).toNat) : Nat) : Int)) rfl ?_
            refine L_i2 dX0_countThrees_101 ?_
            refine L_i7 dX0_countThrees_102 ?_
            refine J_iconst dX0_countThrees_104 ?_
            refine J_inot dX0_countThrees_105 ?_
            refine J_iandD dX0_countThrees_106 (by omega) (by omega) ?_
            refine J_eqi (b := ((nd fr (tm (fa a (k - 1).toNat) p) : Nat) : Int)) rfl ?_
            refine C_v2F vX0_109 dX0_countThrees_107 (hC S T D a hG ha (nd s (2 ^ (k - 1).toNat)) (nd fr (tm (fa a (k - 1).toNat) p)) (nd_lt h_s) (nd_lt h_fr) hpr (by omega)) rfl rfl (Nat.le_of_ble_eq_true rfl) (by omega) ?_
            refine J_imul dX0_countThrees_110 ?_
            refine J_iadd dX0_countThrees_111 ?_
            refine S_i4 dX0_countThrees_112 (by decide) rfl ?_
            refine JI_5 dX0_countThrees_114 (by decide) rfl ?_
            refine E_goto 17 dX0_countThrees_117 rfl ?_
            exact ih (k + 1) _ _ _ rfl rfl (by omega) (by omega) (by rw [hnx, show tnp (fa a) s fr p (k - 1).toNat = _ from by unfold tnp; rw [if_pos ((fsp_iffA hG ha hk8).mp c44), if_pos (bdf_sbs.mp c74)], hx]; simp only [Int.natCast_add, Int.natCast_mul])
set_option maxRecDepth 100000 in
theorem qX0_countThreesS {d m : Nat} (hC : m = 0 ∨ ∃ n, m = n + 1 ∧ THR d n) (hd2 : 1 ≤ d) : THR (d + 1) m := by
  intro S T D a hG ha s fr h_s h_fr hpc hm
  refine Sp.of [.ref 21, .int (jI (s : Int)), .int (jI (fr : Int)), .retAddr 0, .retAddr 0, .retAddr 0, .retAddr 0, .retAddr 0] (by decide) (by simp) (Nat.le_of_ble_eq_true rfl) rfl (fun E => ?_)
  refine L_i1 dX0_countThrees_0 ?_
  refine J_if_ne 6 dX0_countThrees_1 rfl (by omega) (fun c1 => ?_) (fun c1 => ?_)
  · have hmp := pcn_pos 16 s (by omega) (by omega)
    rw [pcn_mem h_s] at hmp
    obtain ⟨m1, hm1, hC⟩ := hC.resolve_left (by omega)
    have hf0 : fr ≠ 0 := fun e => by rw [e, pcn_0] at hpc; omega
    obtain ⟨p, h_p, hlow, hpb, hpl3⟩ := low_ok hf0 h_fr
    refine L_i2 dX0_countThrees_6 ?_
    refine C_s1F vX0_51 dX0_countThrees_7 (sJ_ntz (by omega)) (Nat.le_of_ble_eq_true rfl) (by omega) ?_
    refine J_eqi (b := (p : Int)) hlow ?_
    refine S_i3 dX0_countThrees_10 (by decide) rfl ?_
    refine J_iconst dX0_countThrees_11 ?_
    refine S_i4 dX0_countThrees_12 (by decide) rfl ?_
    refine J_iconst dX0_countThrees_14 ?_
    refine S_i5 dX0_countThrees_15 (by decide) rfl ?_
    rw [tn_placeS (hG.oA ha) h_fr hpb hpl3 hpc]
    exact lX0_countThrees hC hG ha h_s h_fr hpc (by omega) h_p hpb 8 1 0 _ _ rfl rfl (by omega) (by omega) rfl
  · refine J_iconst dX0_countThrees_4 ?_
    exact R_i rfl dX0_countThrees_5 rfl (by rw [show s = 0 from by omega]; rfl)
theorem THR_all : ∀ m : Nat, THR (m + 2) m := by
  intro m
  induction m with
  | zero => exact qX0_countThreesS (d := 1) (Or.inl rfl) (by omega)
  | succ m ih => exact qX0_countThreesS (d := m + 2) (Or.inr ⟨m, rfl, ih⟩) (by omega)
def chg (a : Int → Int) (s : Nat) (pl n acc : Int) : Int := if s.testBit (n - 1).toNat = true then acc * (pl - a n) else acc
set_option maxRecDepth 100000 in
theorem lX0_choices {E : mx_E} {S T : Nat → Int → Int} {D : List mx_C} {a : Int → Int} (hA : FA S) (ha : S 22 = a) {s : Nat} (h_s : s < 256) {pl r : Int} (h_pl : 0 ≤ pl ∧ pl ≤ 16) : ∀ (j : Nat) (k x : Int), k + j = 9 → 1 ≤ k → lpF (chg a s pl) j k x = r → Ev E yX0_choices cX0_choices 6 (some .long) (kf E 1 (.long (jL r)) (W5 S T D)) 0 0 5 [.ref 21, .int (jI (s : Int)), .int (jI pl), .long (jL x), .retAddr 0, .int (jI k)] [] (W5 S T D) := by
  intro j
  induction j with
  | zero =>
    intro k x hkj hk hr
    have hr : x = r := hr
    refine L_i5 dX0_choices_5 ?_
    refine J_bipush dX0_choices_7 (by decide) ?_
    refine J_icmp_gt 41 dX0_choices_9 rfl (by omega) (by omega) (fun c9 => ?_) (fun c9 => ?_)
    · refine L_l3 dX0_choices_41 ?_
      exact R_l rfl dX0_choices_42 rfl hr
    · exfalso; omega
  | succ j ih =>
    intro k x hkj hk hr
    have hA1 := hA k (by omega)
    rw [ha] at hA1
    have hb1 := ban_nn (s : Int) (bsh (k - 1))
    have hb2 := ban_le' (s : Int) (bsh (k - 1)) (by omega)
    rw [lpF] at hr
    refine L_i5 dX0_choices_5 ?_
    refine J_bipush dX0_choices_7 (by decide) ?_
    refine J_icmp_gt 41 dX0_choices_9 rfl (by omega) (by omega) (fun c9 => ?_) (fun c9 => ?_)
    · exfalso; omega
    · refine L_i1 dX0_choices_12 ?_
      refine L_i5 dX0_choices_13 ?_
      refine C_s1F vX0_43 dX0_choices_15 (sX10_bitOf (by omega)) (Nat.le_of_ble_eq_true rfl) (by decide) ?_
      refine J_iandG dX0_choices_18 (by omega) (bsh_nn _) ?_
      refine J_if_eq 35 dX0_choices_19 rfl (by omega) (fun c19 => ?_) (fun c19 => ?_)
      · refine JI_5 dX0_choices_35 (by decide) rfl ?_
        refine E_goto 5 dX0_choices_38 rfl ?_
        rw [show chg a s pl k x = x from if_neg (bsh_bit.mp c19)] at hr
        exact ih (k + 1) x (by omega) (by omega) hr
      · refine L_l3 dX0_choices_22 ?_
        refine L_i2 dX0_choices_23 ?_
        refine L_a0 dX0_choices_24 ?_
        refine GW_21_0 fX0_11 dX0_choices_25 ?_
        refine L_i5 dX0_choices_28 ?_
        refine AR_22 dX0_choices_30 (by omega) ?_
        refine J_eqi (b := a k) (by rw [ha]) ?_
        refine J_isub dX0_choices_31 ?_
        refine J_i2l dX0_choices_32 (by omega) ?_
        refine J_lmul dX0_choices_33 ?_
        refine S_l3 dX0_choices_34 (by decide) rfl ?_
        refine JI_5 dX0_choices_35 (by decide) rfl ?_
        refine E_goto 5 dX0_choices_38 rfl ?_
        rw [show chg a s pl k x = x * (pl - a k) from if_pos (Classical.not_not.mp (fun hh => c19 (bsh_bit.mpr hh)))] at hr
        exact ih (k + 1) _ (by omega) (by omega) hr
set_option maxRecDepth 100000 in
theorem qX0_choices {S T : Nat → Int → Int} {D : List mx_C} {a : Int → Int} (hA : FA S) (ha : S 22 = a) {s : Nat} (h_s : s < 256) {pl : Int} (h_pl : 0 ≤ pl ∧ pl ≤ 16) : SpF yX0_choices cX0_choices 6 (some .long) 1 [.ref 21, .int (jI (s : Int)), .int (jI pl)] (W5 S T D) (.long (jL (lpF (chg a s pl) 8 1 1))) (W5 S T D) := by
  refine Sp.of [.ref 21, .int (jI (s : Int)), .int (jI pl), .retAddr 0, .retAddr 0, .retAddr 0] (by decide) (by simp) (Nat.le_of_ble_eq_true rfl) rfl (fun E => ?_)
  refine J_lconst 1 dX0_choices_0 (by decide) ?_
  refine S_l3 dX0_choices_1 (by decide) rfl ?_
  refine J_iconst dX0_choices_2 ?_
  refine S_i5 dX0_choices_3 (by decide) rfl ?_
  exact lX0_choices hA ha h_s h_pl 8 1 1 (by omega) (by omega) rfl

