/-! ===== the class: rows in their order ===== -/
def zf (k : Int) (f : Int → Int) : Int → Int := fun j => if 0 ≤ j ∧ j < k then 0 else f j
theorem zf_up {k : Int} (hk : 0 ≤ k) (f : Int → Int) : up (zf k f) k 0 = zf (k + 1) f := by
  funext j
  unfold up zf
  by_cases h : j = k
  · rw [if_pos h, if_pos (by omega)]
  · rw [if_neg h]
    by_cases h2 : 0 ≤ j ∧ j < k
    · rw [if_pos h2, if_pos (by omega)]
    · rw [if_neg h2, if_neg (by omega)]
theorem upS_id (S : Nat → Int → Int) (i : Nat) : upS S i (S i) = S := by
  funext k
  unfold upS
  split
  · next h => rw [h]
  · rfl
theorem ban_self (s : Nat) : ban (s : Int) (s : Int) = (s : Int) := by unfold ban; rw [Int.toNat_natCast, Nat.and_self]
theorem zf_0 (f : Int → Int) : zf 0 f = f := by
  funext j
  unfold zf
  rw [if_neg (by omega)]
set_option maxRecDepth 100000 in
theorem lJ7_fill {E : mx_E} {S T : Nat → Int → Int} {D : List mx_C} : ∀ (j : Nat) (k : Int), k + j = 16 → 0 ≤ k → Ev E yJ7_fill_53178 cJ7_fill_53178 4 none (kv E 1 (W5 (upS S 27 (zf 16 (S 27))) T D)) 0 0 5 [.ref 27, .int (jI 0), .int (jI k), .int (jI 16)] [] (W5 (upS S 27 (zf k (S 27))) T D) := by
  intro j
  induction j with
  | zero =>
    intro k hkj hk
    have hk16 : k = 16 := by omega
    subst hk16
    refine L_i2 dJ7_fill_53178_5 ?_
    refine L_i3 dJ7_fill_53178_6 ?_
    refine J_icmp_ge 20 dJ7_fill_53178_7 rfl (by omega) (by omega) (fun c7 => ?_) (fun c7 => ?_)
    · exact R_v rfl dJ7_fill_53178_20 rfl
    · exfalso; omega
  | succ j ih =>
    intro k hkj hk
    refine L_i2 dJ7_fill_53178_5 ?_
    refine L_i3 dJ7_fill_53178_6 ?_
    refine J_icmp_ge 20 dJ7_fill_53178_7 rfl (by omega) (by omega) (fun c7 => ?_) (fun c7 => ?_)
    · exfalso; omega
    · refine L_a0 dJ7_fill_53178_10 ?_
      refine L_i2 dJ7_fill_53178_11 ?_
      refine L_i1 dJ7_fill_53178_12 ?_
      refine AS_27 dJ7_fill_53178_13 (by omega) ?_
      refine JI_2 dJ7_fill_53178_14 (by decide) rfl ?_
      refine E_goto 5 dJ7_fill_53178_17 rfl ?_
      rw [upS_upS, upS_s, zf_up hk]
      exact ih (k + 1) (by omega) (by omega)
set_option maxRecDepth 100000 in
theorem qJ7_fill {S T : Nat → Int → Int} {D : List mx_C} : SpV yJ7_fill_53178 cJ7_fill_53178 4 none 1 [.ref 27, .int (jI 0)] (W5 S T D) (W5 (upS S 27 (zf 16 (S 27))) T D) := by
  have e0 : W5 S T D = W5 (upS S 27 (zf 0 (S 27))) T D := by rw [zf_0, upS_id]
  refine Sp.of [.ref 27, .int (jI 0), .retAddr 0, .retAddr 0] (by decide) (by simp) (Nat.le_of_ble_eq_true rfl) rfl (fun E => ?_)
  refine J_iconst dJ7_fill_53178_0 ?_
  refine S_i2 dJ7_fill_53178_1 (by decide) rfl ?_
  refine L_a0 dJ7_fill_53178_2 ?_
  refine AL_27 dJ7_fill_53178_3 ?_
  refine S_i3 dJ7_fill_53178_4 (by decide) rfl ?_
  rw [e0]
  exact lJ7_fill 16 0 (by omega) (by omega)
/-- where one is laid down -/
def lyg (a : Int → Int) (n p : Int) (f : Int → Int) : Int → Int := if p + a n < 16 then up (up f p n) (p + a n) n else f
set_option maxRecDepth 100000 in
theorem qX0_lay {S T : Nat → Int → Int} {D : List mx_C} {a : Int → Int} (hA : FA S) (ha : S 22 = a) {n : Int} (h_n : 1 ≤ n ∧ n ≤ 8) {p : Int} (h_p : 0 ≤ p ∧ p ≤ 15) : SpF yX0_lay cX0_lay 4 (some .int) 1 [.ref 21, .int (jI n), .int (jI p)] (W5 S T D) (.int (jI ((pm (fa a (n - 1).toNat) p.toNat : Nat) : Int))) (W5 (upS S 27 (lyg a n p (S 27))) T D) := by
  have hn := hA n h_n
  rw [ha] at hn
  have hA2 : ∀ g, FA (upS S 27 g) := fun g => by unfold FA; rw [upS_n (by decide)]; exact hA
  refine Sp.of [.ref 21, .int (jI n), .int (jI p), .retAddr 0] (by decide) (by simp) (Nat.le_of_ble_eq_true rfl) rfl (fun E => ?_)
  refine L_i2 dX0_lay_0 ?_
  refine L_a0 dX0_lay_1 ?_
  refine GW_21_0 fX0_11 dX0_lay_2 ?_
  refine L_i1 dX0_lay_5 ?_
  refine AR_22 dX0_lay_6 (by omega) ?_
  refine J_eqi (b := a n) (by rw [ha]) ?_
  refine J_iadd dX0_lay_7 ?_
  refine S_i3 dX0_lay_8 (by decide) rfl ?_
  refine L_i3 dX0_lay_9 ?_
  refine J_bipush dX0_lay_10 (by decide) ?_
  refine J_icmp_ge 29 dX0_lay_12 rfl (by omega) (by omega) (fun c12 => ?_) (fun c12 => ?_)
  · refine L_a0 dX0_lay_29 ?_
    refine L_i1 dX0_lay_30 ?_
    refine L_i2 dX0_lay_31 ?_
    refine C_v2F vX0_92 dX0_lay_32 (qX0_pairOf (by first | exact hA | (rw [upS_upS, upS_s]; exact hA2 _)) h_n (by omega)) rfl rfl (Nat.le_of_ble_eq_true rfl) (by decide) ?_
    refine J_eqi (b := ((pm (fa a (n - 1).toNat) p.toNat : Nat) : Int)) (by first | (rw [ha]; exact fpr_pm h_n.1 h_p.1 hn.1) | (rw [upS_n (show ¬ (22 : Nat) = 27 by decide), upS_n (show ¬ (22 : Nat) = 27 by decide), ha]; exact fpr_pm h_n.1 h_p.1 hn.1)) ?_
    exact R_i rfl dX0_lay_35 (by first | (unfold lyg; rw [if_neg (by omega), upS_id]; done) | (unfold lyg; rw [if_pos (by omega), upS_upS, upS_s]; done)) rfl
  · refine L_a0 dX0_lay_15 ?_
    refine GW_21_5 fX0_28 dX0_lay_16 ?_
    refine L_i2 dX0_lay_19 ?_
    refine L_i1 dX0_lay_20 ?_
    refine AS_27 dX0_lay_21 (by omega) ?_
    refine L_a0 dX0_lay_22 ?_
    refine GW_21_5 fX0_28 dX0_lay_23 ?_
    refine L_i3 dX0_lay_26 ?_
    refine L_i1 dX0_lay_27 ?_
    refine AS_27 dX0_lay_28 (by omega) ?_
    refine L_a0 dX0_lay_29 ?_
    refine L_i1 dX0_lay_30 ?_
    refine L_i2 dX0_lay_31 ?_
    refine C_v2F vX0_92 dX0_lay_32 (qX0_pairOf (by first | exact hA | (rw [upS_upS, upS_s]; exact hA2 _)) h_n (by omega)) rfl rfl (Nat.le_of_ble_eq_true rfl) (by decide) ?_
    refine J_eqi (b := ((pm (fa a (n - 1).toNat) p.toNat : Nat) : Int)) (by first | (rw [ha]; exact fpr_pm h_n.1 h_p.1 hn.1) | (rw [upS_n (show ¬ (22 : Nat) = 27 by decide), upS_n (show ¬ (22 : Nat) = 27 by decide), ha]; exact fpr_pm h_n.1 h_p.1 hn.1)) ?_
    exact R_i rfl dX0_lay_35 (by first | (unfold lyg; rw [if_neg (by omega), upS_id]; done) | (unfold lyg; rw [if_pos (by omega), upS_upS, upS_s]; done)) rfl

/-- who is chosen at a place, and how many are ahead yet -/
def whc (a : Nat → Nat) (s fr p : Nat) : Nat → Int → Int → Int → Int × Int
  | 0, n, _, r => (n, r)
  | j + 1, n, mn, r => if r < mn then (n, r) else whc a s fr p j (n + 1) (if s.testBit n.toNat = true then ((cbn a s fr n.toNat p : Nat) : Int) else 0) (r - mn)
def whl (a : Int → Int) : Nat → Nat → Nat → Nat → Int → (Int → Int) → Int → Int
  | 0, _, _, _, _, f => f
  | j + 1, p, s, fr, r, f => if f (p : Int) = 0 then
      (if (whc (fa a) s fr p 8 0 ((cn (fa a) s (nd fr (2 ^ p)) : Nat) : Int) r).1 = 0 then whl a j (p + 1) s (nd fr (2 ^ p)) (whc (fa a) s fr p 8 0 ((cn (fa a) s (nd fr (2 ^ p)) : Nat) : Int) r).2 f
       else whl a j (p + 1) (nd s (2 ^ ((whc (fa a) s fr p 8 0 ((cn (fa a) s (nd fr (2 ^ p)) : Nat) : Int) r).1 - 1).toNat)) (nd fr (pm (fa a ((whc (fa a) s fr p 8 0 ((cn (fa a) s (nd fr (2 ^ p)) : Nat) : Int) r).1 - 1).toNat) p)) (whc (fa a) s fr p 8 0 ((cn (fa a) s (nd fr (2 ^ p)) : Nat) : Int) r).2 (lyg a (whc (fa a) s fr p 8 0 ((cn (fa a) s (nd fr (2 ^ p)) : Nat) : Int) r).1 (p : Int) f))
    else whl a j (p + 1) s fr r f
theorem whc_B {a : Nat → Nat} {s fr p : Nat} : ∀ (j : Nat) (n mn r : Int), 0 ≤ n → 0 ≤ r → r < 2147483648 → 0 ≤ mn → (n ≤ (whc a s fr p j n mn r).1 ∧ (whc a s fr p j n mn r).1 ≤ n + j) ∧ (0 ≤ (whc a s fr p j n mn r).2 ∧ (whc a s fr p j n mn r).2 < 2147483648) := by
  intro j
  induction j with
  | zero => intro n mn r h1 h2 h3 _; show (n ≤ n ∧ n ≤ n + 0) ∧ (0 ≤ r ∧ r < 2147483648); omega
  | succ j ih =>
    intro n mn r h1 h2 h3 h4
    rw [whc]
    by_cases h : r < mn
    · rw [if_pos h]; show (n ≤ n ∧ n ≤ n + _) ∧ (0 ≤ r ∧ r < 2147483648); omega
    · rw [if_neg h]
      have := ih (n + 1) (if s.testBit n.toNat = true then ((cbn a s fr n.toNat p : Nat) : Int) else 0) (r - mn) (by omega) (by omega) (by omega) (by split <;> omega)
      omega
def CQ7 (S T : Nat → Int → Int) (D : List mx_C) (r : Int) (v : Int) (hp' : List mx_C) : Prop := v = r ∧ ∃ S', hp' = W5 S' T D ∧ FGo S' ∧ Fr [25, 26, 27] S S'
theorem Fr67 {S S1 : Nat → Int → Int} (h : Fr [25, 26] S S1) : Fr [25, 26, 27] S S1 := h.mono (fun i hi => by simp only [List.mem_cons, List.not_mem_nil, or_false] at hi ⊢; omega)
theorem FGo.u7 {S : Nat → Int → Int} (h : FGo S) (g : Int → Int) : FGo (upS S 27 g) := h.fr (Fr_up (l := [27]) S g (by decide)) (by decide) (by decide) (by decide) (by decide) (by decide) (by decide)
set_option maxRecDepth 100000 in
theorem lX0_whoInI {E : mx_E} {S T : Nat → Int → Int} {D : List mx_C} {a : Int → Int} (ha : S 22 = a) {u1 u2 u3 : Value} (hu1 : u1.category = 1) (hu2 : u2.category = 1) (hu3 : u3.category = 1) {pl r : Int} (h_pl : 0 ≤ pl ∧ pl ≤ 15) {s fr p : Nat} (h_s : s < 256) (h_fr : fr < 65536) (h_p : p < 16) {f : Int → Int} {rn rr : Int} (kk : ∀ (S2 : Nat → Int → Int) (u10 u11 : Value), u10.category = 1 → u11.category = 1 → Fr [25, 26, 27] S S2 → FGo S2 → S2 27 = f → Ev E yX0_whoIn cX0_whoIn 12 (some .int) (kI E 55 (CQ7 S T D r)) 0 0 143 [.ref 21, u1, u2, u3, .int (jI pl), .int (jI (s : Int)), .int (jI (fr : Int)), .int (jI rr), .int (jI (p : Int)), .int (jI rn), u10, u11] [] (W5 S2 T D)) : ∀ (j : Nat) (k n mn r0 : Int) (S1 : Nat → Int → Int), k + j = 8 → n = k → 0 ≤ k → (0 ≤ mn ∧ mn < 2147483648) → (0 ≤ r0 ∧ r0 < 2147483648) → Fr [25, 26, 27] S S1 → FGo S1 → S1 27 = f → whc (fa a) s fr p j n mn r0 = (rn, rr) → Ev E yX0_whoIn cX0_whoIn 12 (some .int) (kI E 55 (CQ7 S T D r)) 0 0 84 [.ref 21, u1, u2, u3, .int (jI pl), .int (jI (s : Int)), .int (jI (fr : Int)), .int (jI r0), .int (jI (p : Int)), .int (jI n), .int (jI mn), .int (jI k)] [] (W5 S1 T D) := by
  intro j
  induction j with
  | zero =>
    intro k n mn r0 S1 hkj hn hk hmn hr0 hF hG1 hf hr
    have hr1 : n = rn := congrArg Prod.fst hr
    have hr2 : r0 = rr := congrArg Prod.snd hr
    subst hr1 hr2
    refine L_i11 dX0_whoIn_84 ?_
    refine J_bipush dX0_whoIn_86 (by decide) ?_
    refine J_icmp_ge 143 dX0_whoIn_88 rfl (by omega) (by omega) (fun c88 => ?_) (fun c88 => ?_)
    · exact kk S1 _ _ rfl rfl hF hG1 hf
    · exfalso; omega
  | succ j ih =>
    intro k n mn r0 S1 hkj hn hk hmn hr0 hF hG1 hf hr
    have e22 : S1 22 = a := (hF 22 (by decide)).trans ha
    have hb1 := ban_nn (s : Int) (bsh (n + 1 - 1))
    have hb2 := ban_le' (s : Int) (bsh (n + 1 - 1)) (by omega)
    have hcB := cn_B (hG1.oA e22) (s := nd s (2 ^ n.toNat)) (fr := nd fr (pm (fa a n.toNat) p)) (nd_lt h_fr)
    have hcb : ((cbn (fa a) s fr n.toNat p : Nat) : Int) < 2147483648 := by unfold cbn; split <;> omega
    rw [whc] at hr
    refine L_i11 dX0_whoIn_84 ?_
    refine J_bipush dX0_whoIn_86 (by decide) ?_
    refine J_icmp_ge 143 dX0_whoIn_88 rfl (by omega) (by omega) (fun c88 => ?_) (fun c88 => ?_)
    · exfalso; omega
    · refine L_i7 dX0_whoIn_91 ?_
      refine L_i10 dX0_whoIn_93 ?_
      refine J_icmp_lt 143 dX0_whoIn_95 rfl (by omega) (by omega) (fun c95 => ?_) (fun c95 => ?_)
      · have hr1 : n = rn := by rw [if_pos c95] at hr; exact congrArg Prod.fst hr
        have hr2 : r0 = rr := by rw [if_pos c95] at hr; exact congrArg Prod.snd hr
        subst hr1 hr2
        exact kk S1 _ _ rfl rfl hF hG1 hf
      · refine L_i7 dX0_whoIn_98 ?_
        refine L_i10 dX0_whoIn_100 ?_
        refine J_isub dX0_whoIn_102 ?_
        refine S_i7 dX0_whoIn_103 (by decide) rfl ?_
        refine JI_9 dX0_whoIn_105 (by decide) rfl ?_
        refine L_i5 dX0_whoIn_108 ?_
        refine L_i9 dX0_whoIn_110 ?_
        refine C_s1F vX0_43 dX0_whoIn_112 (sX10_bitOf (by omega)) (Nat.le_of_ble_eq_true rfl) (by decide) ?_
        refine J_iandG dX0_whoIn_115 (by omega) (bsh_nn _) ?_
        refine J_if_eq 134 dX0_whoIn_116 rfl (by omega) (fun c116 => ?_) (fun c116 => ?_)
        · refine J_iconst dX0_whoIn_134 ?_
          refine S_i10 dX0_whoIn_135 (by decide) rfl ?_
          refine JI_11 dX0_whoIn_137 (by decide) rfl ?_
          refine E_goto 84 dX0_whoIn_140 rfl ?_
          rw [if_neg (by omega), if_neg (by rw [show n + 1 - 1 = n from by omega] at c116; exact bsh_bit.mp c116)] at hr
          exact ih (k + 1) (n + 1) 0 (r0 - mn) S1 (by omega) (by omega) (by omega) (by omega) (by omega) hF hG1 hf hr
        · refine L_a0 dX0_whoIn_119 ?_
          refine L_i5 dX0_whoIn_120 ?_
          refine L_i6 dX0_whoIn_122 ?_
          refine L_i9 dX0_whoIn_124 ?_
          refine L_i8 dX0_whoIn_126 ?_
          refine C_v4I vX0_137 dX0_whoIn_128 (qX0_countWith hG1 e22 h_s h_fr (n := n + 1) (by omega) (p := (p : Int)) (by omega)) rfl rfl (Nat.le_of_ble_eq_true rfl) (by decide) (fun v128 hp128 hq128 => ?_)
          obtain ⟨rfl, S2, rfl, hG2, hF2⟩ := hq128
          refine E_goto 135 dX0_whoIn_131 rfl ?_
          refine S_i10 dX0_whoIn_135 (by decide) rfl ?_
          refine JI_11 dX0_whoIn_137 (by decide) rfl ?_
          refine E_goto 84 dX0_whoIn_140 rfl ?_
          rw [if_neg (by omega), if_pos (by rw [show n + 1 - 1 = n from by omega] at c116; exact Classical.not_not.mp (fun hh => c116 (bsh_bit.mpr hh)))] at hr
          have ev : (if 0 ≤ (p : Int) ∧ (p : Int) < 16 then ((cbn (fa a) s fr (n + 1 - 1).toNat (p : Int).toNat : Nat) : Int) else 0) = ((cbn (fa a) s fr n.toNat p : Nat) : Int) := by rw [if_pos (by omega), Int.toNat_natCast, show n + 1 - 1 = n from by omega]
          rw [ev]
          exact ih (k + 1) (n + 1) _ (r0 - mn) S2 (by omega) (by omega) (by omega) (by omega) (by omega) (hF.trans (Fr67 hF2)) hG2 ((hF2 27 (by decide)).trans hf) hr
def Lok (f : Int → Int) : Prop := ∀ p, 0 ≤ p ∧ p < 16 → 0 ≤ f p ∧ f p ≤ 8
theorem Lok_lyg {f : Int → Int} (h : Lok f) {a : Int → Int} {n p : Int} (hn : 1 ≤ n ∧ n ≤ 8) : Lok (lyg a n p f) := by
  intro q hq
  unfold lyg
  have := h q hq
  split
  · unfold up; split
    · omega
    · split <;> omega
  · exact this
set_option maxRecDepth 100000 in
theorem lX0_whoIn {E : mx_E} {S T : Nat → Int → Int} {D : List mx_C} {a : Int → Int} (ha : S 22 = a) {u1 u2 u3 : Value} (hu1 : u1.category = 1) (hu2 : u2.category = 1) (hu3 : u3.category = 1) {pl r : Int} (h_pl : 0 ≤ pl ∧ pl ≤ 15) : ∀ (j : Nat) (p s fr : Nat) (r0 : Int) (S1 : Nat → Int → Int) (u9 u10 u11 : Value), u9.category = 1 → u10.category = 1 → u11.category = 1 → s < 256 → fr < 65536 → (p : Int) + j = pl + 1 → (0 ≤ r0 ∧ r0 < 2147483648) → Fr [25, 26, 27] S S1 → FGo S1 → Lok (S1 27) → whl a j p s fr r0 (S1 27) pl = r → Ev E yX0_whoIn cX0_whoIn 12 (some .int) (kI E 55 (CQ7 S T D r)) 0 0 44 [.ref 21, u1, u2, u3, .int (jI pl), .int (jI (s : Int)), .int (jI (fr : Int)), .int (jI r0), .int (jI (p : Int)), u9, u10, u11] [] (W5 S1 T D) := by
  intro j
  induction j with
  | zero =>
    intro p s fr r0 S1 u9 u10 u11 hu9 hu10 hu11 h_s h_fr hpj hr0 hF hG1 hL hr
    refine L_i8 dX0_whoIn_44 ?_
    refine L_i4 dX0_whoIn_46 ?_
    refine J_icmp_gt 198 dX0_whoIn_48 rfl (by omega) (by omega) (fun c48 => ?_) (fun c48 => ?_)
    · refine L_a0 dX0_whoIn_198 ?_
      refine GW_21_5 fX0_28 dX0_whoIn_199 ?_
      refine L_i4 dX0_whoIn_202 ?_
      refine AR_27 dX0_whoIn_204 (by omega) ?_
      exact RQ_i rfl dX0_whoIn_205 ⟨hr, S1, rfl, hG1, hF⟩
    · exfalso; omega
  | succ j ih =>
    intro p s fr r0 S1 u9 u10 u11 hu9 hu10 hu11 h_s h_fr hpj hr0 hF hG1 hL hr
    have e22 : S1 22 = a := (hF 22 (by decide)).trans ha
    have hLp := hL (p : Int) (by omega)
    have hcB := cn_B (hG1.oA e22) (s := s) (fr := nd fr (2 ^ p)) (nd_lt h_fr)
    have hwB := whc_B (a := fa a) (s := s) (fr := fr) (p := p) 8 0 ((cn (fa a) s (nd fr (2 ^ p)) : Nat) : Int) r0 (by omega) hr0.1 hr0.2 (by omega)
    rw [whl] at hr
    generalize hq : whc (fa a) s fr p 8 0 ((cn (fa a) s (nd fr (2 ^ p)) : Nat) : Int) r0 = q at hr hwB
    obtain ⟨wn, wr⟩ := q
    have hwB : (0 ≤ wn ∧ wn ≤ 0 + 8) ∧ (0 ≤ wr ∧ wr < 2147483648) := hwB
    refine L_i8 dX0_whoIn_44 ?_
    refine L_i4 dX0_whoIn_46 ?_
    refine J_icmp_gt 198 dX0_whoIn_48 rfl (by omega) (by omega) (fun c48 => ?_) (fun c48 => ?_)
    · exfalso; omega
    · refine L_a0 dX0_whoIn_51 ?_
      refine GW_21_5 fX0_28 dX0_whoIn_52 ?_
      refine L_i8 dX0_whoIn_55 ?_
      refine AR_27 dX0_whoIn_57 (by omega) ?_
      refine J_if_ne 192 dX0_whoIn_58 rfl (by omega) (fun c58 => ?_) (fun c58 => ?_)
      · refine JI_8 dX0_whoIn_192 (by decide) rfl ?_
        refine E_goto 44 dX0_whoIn_195 rfl ?_
        rw [if_neg c58] at hr
        exact ih (p + 1) s fr r0 S1 _ _ _ hu9 hu10 hu11 h_s h_fr (by omega) hr0 hF hG1 hL hr
      · refine J_iconst dX0_whoIn_61 ?_
        refine S_i9 dX0_whoIn_62 (by decide) rfl ?_
        refine L_a0 dX0_whoIn_64 ?_
        refine L_i5 dX0_whoIn_65 ?_
        refine L_i6 dX0_whoIn_67 ?_
        refine J_iconst dX0_whoIn_69 ?_
        refine L_i8 dX0_whoIn_70 ?_
        refine J_1shl dX0_whoIn_72 (by omega) ?_
        refine J_iconst dX0_whoIn_73 ?_
        refine J_inot dX0_whoIn_74 ?_
        refine J_iandD dX0_whoIn_75 (by omega) (bsh_nn _) ?_
        refine J_eqi (b := ((nd fr (2 ^ p) : Nat) : Int)) (by unfold bdf bsh; rw [Int.toNat_natCast, Int.toNat_natCast, Int.toNat_natCast]) ?_
        refine C_v2I vX0_95 dX0_whoIn_76 (qX0_count hG1 e22 h_s (nd_lt h_fr)) rfl rfl (Nat.le_of_ble_eq_true rfl) (by decide) (fun v76 hp76 hq76 => ?_)
        obtain ⟨rfl, S2, rfl, hG2, hF2⟩ := hq76
        refine S_i10 dX0_whoIn_79 (by decide) rfl ?_
        refine J_iconst dX0_whoIn_81 ?_
        refine S_i11 dX0_whoIn_82 (by decide) rfl ?_
        rw [if_pos c58] at hr
        refine lX0_whoInI ha hu1 hu2 hu3 h_pl h_s h_fr (by omega) (f := S1 27) (rn := wn) (rr := wr) (fun S3 u10 u11 hu10 hu11 hF3 hG3 hf3 => ?_) 8 0 0 _ r0 S2 (by omega) rfl (by omega) (by omega) hr0 (hF.trans (Fr67 hF2)) hG2 (hF2 27 (by decide)) hq
        have e223 : S3 22 = a := (hF3 22 (by decide)).trans ha
        refine L_i5 dX0_whoIn_143 ?_
        refine L_i9 dX0_whoIn_145 ?_
        refine J_if_ne 155 dX0_whoIn_147 rfl (by omega) (fun c147 => ?_) (fun c147 => ?_)
        · refine L_i9 dX0_whoIn_155 ?_
          refine C_s1F vX0_43 dX0_whoIn_157 (sX10_bitOf (by omega)) (Nat.le_of_ble_eq_true rfl) (by decide) ?_
          refine J_iconst dX0_whoIn_160 ?_
          refine J_inot dX0_whoIn_161 ?_
          refine J_iandD dX0_whoIn_162 (by omega) (by first | exact bsh_nn _ | omega) ?_
          first | refine J_eqi (b := ((nd s (2 ^ (wn - 1).toNat) : Nat) : Int)) rfl ?_ | refine J_eqi (b := (s : Int)) (ban_self s) ?_
          refine S_i5 dX0_whoIn_163 (by decide) rfl ?_
          refine L_i6 dX0_whoIn_165 ?_
          refine L_i9 dX0_whoIn_167 ?_
          refine J_if_ne 179 dX0_whoIn_169 rfl (by omega) (fun c169 => ?_) (fun c169 => ?_)
          · refine L_a0 dX0_whoIn_179 ?_
            refine L_i9 dX0_whoIn_180 ?_
            refine L_i8 dX0_whoIn_182 ?_
            refine C_v2F vX0_140 dX0_whoIn_184 (qX0_lay hG3.a e223 (n := wn) (by omega) (by omega)) rfl rfl (Nat.le_of_ble_eq_true rfl) (by decide) ?_
            refine J_eqi (b := ((pm (fa a (wn - 1).toNat) p : Nat) : Int)) (by rw [Int.toNat_natCast]) ?_
            refine J_iconst dX0_whoIn_187 ?_
            refine J_inot dX0_whoIn_188 ?_
            refine J_iandD dX0_whoIn_189 (by omega) (by first | exact bsh_nn _ | omega) ?_
            first | refine J_eqi (b := ((nd fr (pm (fa a (wn - 1).toNat) p) : Nat) : Int)) rfl ?_ | refine J_eqi (b := ((nd fr (2 ^ p) : Nat) : Int)) (by unfold bdf bsh; rw [Int.toNat_natCast, Int.toNat_natCast, Int.toNat_natCast]) ?_
            refine S_i6 dX0_whoIn_190 (by decide) rfl ?_
            refine JI_8 dX0_whoIn_192 (by decide) rfl ?_
            refine E_goto 44 dX0_whoIn_195 rfl ?_
            rw [if_neg c147] at hr
            have e27 : upS S3 27 (lyg a wn (p : Int) (S3 27)) 27 = lyg a wn (p : Int) (S1 27) := by rw [upS_s, hf3]
            exact ih (p + 1) _ _ wr _ _ _ _ rfl hu10 hu11 (nd_lt h_s) (nd_lt h_fr) (by omega) hwB.2 (hF3.trans (Fr_up _ _ (by decide))) (hG3.u7 _) (by rw [e27]; exact Lok_lyg hL (by omega)) (by rw [e27]; exact hr)
          · refine J_iconst dX0_whoIn_172 ?_
            refine L_i8 dX0_whoIn_173 ?_
            refine J_1shl dX0_whoIn_175 (by omega) ?_
            refine E_goto 187 dX0_whoIn_176 rfl ?_
            refine J_iconst dX0_whoIn_187 ?_
            refine J_inot dX0_whoIn_188 ?_
            refine J_iandD dX0_whoIn_189 (by omega) (by first | exact bsh_nn _ | omega) ?_
            first | refine J_eqi (b := ((nd fr (pm (fa a (wn - 1).toNat) p) : Nat) : Int)) rfl ?_ | refine J_eqi (b := ((nd fr (2 ^ p) : Nat) : Int)) (by unfold bdf bsh; rw [Int.toNat_natCast, Int.toNat_natCast, Int.toNat_natCast]) ?_
            refine S_i6 dX0_whoIn_190 (by decide) rfl ?_
            refine JI_8 dX0_whoIn_192 (by decide) rfl ?_
            refine E_goto 44 dX0_whoIn_195 rfl ?_
            exfalso; omega
        · refine L_i5 dX0_whoIn_150 ?_
          refine E_goto 162 dX0_whoIn_152 rfl ?_
          refine J_iandG dX0_whoIn_162 (by omega) (by first | exact bsh_nn _ | omega) ?_
          first | refine J_eqi (b := ((nd s (2 ^ (wn - 1).toNat) : Nat) : Int)) rfl ?_ | refine J_eqi (b := (s : Int)) (ban_self s) ?_
          refine S_i5 dX0_whoIn_163 (by decide) rfl ?_
          refine L_i6 dX0_whoIn_165 ?_
          refine L_i9 dX0_whoIn_167 ?_
          refine J_if_ne 179 dX0_whoIn_169 rfl (by omega) (fun c169 => ?_) (fun c169 => ?_)
          · refine L_a0 dX0_whoIn_179 ?_
            refine L_i9 dX0_whoIn_180 ?_
            refine L_i8 dX0_whoIn_182 ?_
            refine C_v2F vX0_140 dX0_whoIn_184 (qX0_lay hG3.a e223 (n := wn) (by omega) (by omega)) rfl rfl (Nat.le_of_ble_eq_true rfl) (by decide) ?_
            refine J_eqi (b := ((pm (fa a (wn - 1).toNat) p : Nat) : Int)) (by rw [Int.toNat_natCast]) ?_
            refine J_iconst dX0_whoIn_187 ?_
            refine J_inot dX0_whoIn_188 ?_
            refine J_iandD dX0_whoIn_189 (by omega) (by first | exact bsh_nn _ | omega) ?_
            first | refine J_eqi (b := ((nd fr (pm (fa a (wn - 1).toNat) p) : Nat) : Int)) rfl ?_ | refine J_eqi (b := ((nd fr (2 ^ p) : Nat) : Int)) (by unfold bdf bsh; rw [Int.toNat_natCast, Int.toNat_natCast, Int.toNat_natCast]) ?_
            refine S_i6 dX0_whoIn_190 (by decide) rfl ?_
            refine JI_8 dX0_whoIn_192 (by decide) rfl ?_
            refine E_goto 44 dX0_whoIn_195 rfl ?_
            exfalso; omega
          · refine J_iconst dX0_whoIn_172 ?_
            refine L_i8 dX0_whoIn_173 ?_
            refine J_1shl dX0_whoIn_175 (by omega) ?_
            refine E_goto 187 dX0_whoIn_176 rfl ?_
            refine J_iconst dX0_whoIn_187 ?_
            refine J_inot dX0_whoIn_188 ?_
            refine J_iandD dX0_whoIn_189 (by omega) (by first | exact bsh_nn _ | omega) ?_
            first | refine J_eqi (b := ((nd fr (pm (fa a (wn - 1).toNat) p) : Nat) : Int)) rfl ?_ | refine J_eqi (b := ((nd fr (2 ^ p) : Nat) : Int)) (by unfold bdf bsh; rw [Int.toNat_natCast, Int.toNat_natCast, Int.toNat_natCast]) ?_
            refine S_i6 dX0_whoIn_190 (by decide) rfl ?_
            refine JI_8 dX0_whoIn_192 (by decide) rfl ?_
            refine E_goto 44 dX0_whoIn_195 rfl ?_
            rw [if_pos c147] at hr
            exact ih (p + 1) s (nd fr (2 ^ p)) wr S3 _ _ _ rfl hu10 hu11 h_s (nd_lt h_fr) (by omega) hwB.2 hF3 hG3 (by rw [hf3]; exact hL) (by rw [hf3]; exact hr)
theorem whl_congr {a : Int → Int} : ∀ (j p s fr : Nat) (r : Int) (f g : Int → Int), p + j ≤ 16 → (∀ q, 0 ≤ q ∧ q < 16 → f q = g q) → ∀ q, 0 ≤ q ∧ q < 16 → whl a j p s fr r f q = whl a j p s fr r g q := by
  intro j
  induction j with
  | zero => intro p s fr r f g _ h q hq; exact h q hq
  | succ j ih =>
    intro p s fr r f g hp h q hq
    rw [whl, whl, h (p : Int) (by omega)]
    split
    · split
      · exact ih _ _ _ _ _ _ (by omega) h q hq
      · refine ih _ _ _ _ _ _ (by omega) (fun q hq => ?_) q hq
        unfold lyg
        split
        · unfold up; rw [h q hq]
        · exact h q hq
    · exact ih _ _ _ _ _ _ (by omega) h q hq
set_option maxRecDepth 100000 in
theorem qX0_whoIn {S T : Nat → Int → Int} {D : List mx_C} {a : Int → Int} (hG : FGo S) (ha : S 22 = a) {s fr : Nat} (h_s : s < 256) (h_fr : fr < 65536) {i pl : Int} (h_i : 0 ≤ i ∧ i < 2147483648) (h_pl : -2147483648 ≤ pl ∧ pl < 2147483648) : SpI yX0_whoIn cX0_whoIn 12 (some .int) 55 [.ref 21, .int (jI (s : Int)), .int (jI (fr : Int)), .int (jI i), .int (jI pl)] (W5 S T D) (CQ7 S T D (if (0 ≤ pl ∧ pl < 16) ∧ i < ((cn (fa a) s fr : Nat) : Int) then whl a (pl + 1).toNat 0 s fr i (fun _ => 0) pl else -1)) := by
  have hcB := cn_B (hG.oA ha) (s := s) (fr := fr) h_fr
  refine Sp.of [.ref 21, .int (jI (s : Int)), .int (jI (fr : Int)), .int (jI i), .int (jI pl), .retAddr 0, .retAddr 0, .retAddr 0, .retAddr 0, .retAddr 0, .retAddr 0, .retAddr 0] (by decide) (by simp) (Nat.le_of_ble_eq_true rfl) rfl (fun E => ?_)
  refine L_i4 dX0_whoIn_0 ?_
  refine J_if_lt 22 dX0_whoIn_2 rfl (by omega) (fun c2 => ?_) (fun c2 => ?_)
  · refine J_iconst dX0_whoIn_22 ?_
    exact RQ_i rfl dX0_whoIn_23 (by first | exact ⟨(if_neg (by omega)).symm, S, rfl, hG, Fr.refl _ _⟩ | exact ⟨(if_neg (by omega)).symm, S16, rfl, hG16, Fr67 hF16⟩)
  · refine L_i4 dX0_whoIn_5 ?_
    refine J_bipush dX0_whoIn_7 (by decide) ?_
    refine J_icmp_ge 22 dX0_whoIn_9 rfl (by omega) (by omega) (fun c9 => ?_) (fun c9 => ?_)
    · refine J_iconst dX0_whoIn_22 ?_
      exact RQ_i rfl dX0_whoIn_23 (by first | exact ⟨(if_neg (by omega)).symm, S, rfl, hG, Fr.refl _ _⟩ | exact ⟨(if_neg (by omega)).symm, S16, rfl, hG16, Fr67 hF16⟩)
    · refine L_i3 dX0_whoIn_12 ?_
      refine L_a0 dX0_whoIn_13 ?_
      refine L_i1 dX0_whoIn_14 ?_
      refine L_i2 dX0_whoIn_15 ?_
      refine C_v2I vX0_95 dX0_whoIn_16 (qX0_count hG ha h_s h_fr) rfl rfl (Nat.le_of_ble_eq_true rfl) (by decide) (fun v16 hp16 hq16 => ?_)
      obtain ⟨rfl, S16, rfl, hG16, hF16⟩ := hq16
      refine J_icmp_lt 24 dX0_whoIn_19 rfl (by omega) (by omega) (fun c19 => ?_) (fun c19 => ?_)
      · refine L_a0 dX0_whoIn_24 ?_
        refine GW_21_5 fX0_28 dX0_whoIn_25 ?_
        refine J_iconst dX0_whoIn_28 ?_
        refine C_s2V vX0_131 dX0_whoIn_29 qJ7_fill (Nat.le_of_ble_eq_true rfl) (by decide) ?_
        refine L_i1 dX0_whoIn_32 ?_
        refine S_i5 dX0_whoIn_33 (by decide) rfl ?_
        refine L_i2 dX0_whoIn_35 ?_
        refine S_i6 dX0_whoIn_36 (by decide) rfl ?_
        refine L_i3 dX0_whoIn_38 ?_
        refine S_i7 dX0_whoIn_39 (by decide) rfl ?_
        refine J_iconst dX0_whoIn_41 ?_
        refine S_i8 dX0_whoIn_42 (by decide) rfl ?_
        have e27 : upS S16 27 (zf 16 (S16 27)) 27 = zf 16 (S16 27) := upS_s _ _ _
        refine lX0_whoIn ha rfl rfl rfl (by omega) (pl + 1).toNat 0 s fr i _ _ _ _ rfl rfl rfl h_s h_fr (by omega) h_i ((Fr67 hF16).trans (Fr_up _ _ (by decide))) (hG16.u7 _) (by rw [e27]; intro q hq; unfold zf; rw [if_pos hq]; omega) ?_
        rw [if_pos ⟨by omega, by omega⟩, e27]
        exact whl_congr _ _ _ _ _ _ _ (by omega) (fun q hq => by unfold zf; rw [if_pos hq]) pl (by omega)
      · refine J_iconst dX0_whoIn_22 ?_
        exact RQ_i rfl dX0_whoIn_23 (by first | exact ⟨(if_neg (by omega)).symm, S, rfl, hG, Fr.refl _ _⟩ | exact ⟨(if_neg (by omega)).symm, S16, rfl, hG16, Fr67 hF16⟩)
