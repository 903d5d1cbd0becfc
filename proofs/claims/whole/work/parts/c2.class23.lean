/-! ===== the class: the game ===== -/
def gv (a : Int → Int) (s fr : Nat) : Int := if gw (fa a) s fr = true then 1 else 0
theorem gv_B (a : Int → Int) (s fr : Nat) : gv a s fr = 0 ∨ gv a s fr = 1 := by unfold gv; split <;> omega
theorem gv_0 {a : Int → Int} {s fr : Nat} : gv a s fr = 0 ↔ gw (fa a) s fr = false := by unfold gv; split <;> simp_all
def WIN (d m : Nat) : Prop := ∀ (S T : Nat → Int → Int) (D : List mx_C) (a : Int → Int), FGo S → S 22 = a → ∀ (s fr : Nat), s < 256 → fr < 65536 → (mem s).length ≤ m → SpI yX0_wins cX0_wins 7 (some .boolean) d [.ref 21, .int (jI (s : Int)), .int (jI (fr : Int))] (W5 S T D) (CQo S T D (gv a s fr))
def gfg (a : Int → Int) (s fr : Nat) (n p : Int) : Option Int := if gfB (fa a) s fr (n - 1).toNat p.toNat = true then some p else none
def gwf (a : Int → Int) (s fr : Nat) (n : Int) : Int := lpR (gfg a s fr n) 16 0 (-1)
theorem gfg_R (a : Int → Int) (s fr : Nat) (n : Int) : ∀ (m : Nat) (k : Int), 0 ≤ k → (lpR (gfg a s fr n) m k (-1) = -1 ∧ ∀ p, k ≤ p ∧ p < k + m → gfB (fa a) s fr (n - 1).toNat p.toNat = false) ∨ ((k ≤ lpR (gfg a s fr n) m k (-1) ∧ lpR (gfg a s fr n) m k (-1) < k + m) ∧ gfB (fa a) s fr (n - 1).toNat (lpR (gfg a s fr n) m k (-1)).toNat = true ∧ ∀ p, k ≤ p ∧ p < lpR (gfg a s fr n) m k (-1) → gfB (fa a) s fr (n - 1).toNat p.toNat = false) := by
  intro m
  induction m with
  | zero => intro k _; exact Or.inl ⟨rfl, fun p hp => by omega⟩
  | succ m ih =>
    intro k hk
    by_cases h : gfB (fa a) s fr (n - 1).toNat k.toNat = true
    · rw [lpR_so (show gfg a s fr n k = some k from if_pos h)]
      exact Or.inr ⟨by omega, h, fun p hp => by omega⟩
    · rw [lpR_no (show gfg a s fr n k = none from if_neg h)]
      rw [Bool.not_eq_true] at h
      rcases ih (k + 1) (by omega) with ⟨h1, h2⟩ | ⟨h1, h2, h3⟩
      · refine Or.inl ⟨h1, fun p hp => ?_⟩
        by_cases e : p = k
        · rw [e]; exact h
        · exact h2 p (by omega)
      · refine Or.inr ⟨by omega, h2, fun p hp => ?_⟩
        by_cases e : p = k
        · rw [e]; exact h
        · exact h3 p ⟨by omega, hp.2⟩
theorem gwf_B (a : Int → Int) (s fr : Nat) (n : Int) : -1 ≤ gwf a s fr n ∧ gwf a s fr n ≤ 15 := by
  rcases gfg_R a s fr n 16 0 (by omega) with h | h
  · unfold gwf; omega
  · unfold gwf; omega
theorem gwf_0 {a : Int → Int} {s fr : Nat} {n : Int} : gwf a s fr n = -1 ↔ ¬ ∃ p, p < 16 ∧ gfB (fa a) s fr (n - 1).toNat p = true := by
  rcases gfg_R a s fr n 16 0 (by omega) with ⟨h1, h2⟩ | ⟨h1, h2, _⟩
  · refine ⟨fun _ => ?_, fun _ => h1⟩
    rintro ⟨p, hp, h3⟩
    have := h2 (p : Int) (by omega)
    rw [Int.toNat_natCast, h3] at this
    cases this
  · refine ⟨fun h => by unfold gwf at h; omega, fun h => ?_⟩
    exact absurd ⟨(gwf a s fr n).toNat, by unfold gwf; omega, h2⟩ h
def gpg (a : Int → Int) (s fr : Nat) (n : Int) : Option Int := if spkS (fa a) s (n - 1).toNat = true ∧ ¬ gwf a s fr n = -1 then some (100 * n + gwf a s fr n) else none
def gwp (a : Int → Int) (s fr : Nat) : Int := lpR (gpg a s fr) 8 1 (-1)
theorem gpg_R (a : Int → Int) (s fr : Nat) : ∀ (m : Nat) (k : Int), 1 ≤ k → (lpR (gpg a s fr) m k (-1) = -1 ∧ ∀ n, k ≤ n ∧ n < k + m → gpg a s fr n = none) ∨ ((99 ≤ lpR (gpg a s fr) m k (-1) ∧ lpR (gpg a s fr) m k (-1) < 100 * (k + m)) ∧ ∃ n, k ≤ n ∧ n < k + m ∧ gpg a s fr n = some (lpR (gpg a s fr) m k (-1)) ∧ ∀ n', k ≤ n' ∧ n' < n → gpg a s fr n' = none) := by
  intro m
  induction m with
  | zero => intro k _; exact Or.inl ⟨rfl, fun p hp => by omega⟩
  | succ m ih =>
    intro k hk
    by_cases h : spkS (fa a) s (k - 1).toNat = true ∧ ¬ gwf a s fr k = -1
    · have hg : gpg a s fr k = some (100 * k + gwf a s fr k) := if_pos h
      have hB := gwf_B a s fr k
      rw [lpR_so hg]
      exact Or.inr ⟨by omega, k, by omega, by omega, hg, fun p hp => by omega⟩
    · have hg : gpg a s fr k = none := if_neg h
      rw [lpR_no hg]
      rcases ih (k + 1) (by omega) with ⟨h1, h2⟩ | ⟨h1, n, h2, h3, h4, h5⟩
      · refine Or.inl ⟨h1, fun p hp => ?_⟩
        by_cases e : p = k
        · rw [e]; exact hg
        · exact h2 p (by omega)
      · refine Or.inr ⟨by omega, n, by omega, by omega, h4, fun p hp => ?_⟩
        by_cases e : p = k
        · rw [e]; exact hg
        · exact h5 p ⟨by omega, hp.2⟩
theorem gwp_B (a : Int → Int) (s fr : Nat) : -1 ≤ gwp a s fr ∧ gwp a s fr < 1000 := by
  rcases gpg_R a s fr 8 1 (by omega) with h | h
  · unfold gwp; omega
  · unfold gwp; omega
theorem gwp_0 {a : Int → Int} {s fr : Nat} : gwp a s fr = -1 ↔ gw (fa a) s fr = false := by
  rw [← Bool.not_eq_true, gw_iff]
  rcases gpg_R a s fr 8 1 (by omega) with ⟨h1, h2⟩ | ⟨h1, n, h2, h3, h4, _⟩
  · refine ⟨fun _ => ?_, fun _ => h1⟩
    rintro ⟨k, hk, h3, h4⟩
    have h5 := h2 ((k : Int) + 1) (by omega)
    unfold gpg at h5
    rw [show ((k : Int) + 1 - 1).toNat = k from by omega] at h5
    rw [if_pos ⟨h3, fun hh => gwf_0.mp hh (by rw [show ((k : Int) + 1 - 1).toNat = k from by omega]; exact h4)⟩] at h5
    cases h5
  · refine ⟨fun h => by unfold gwp at h; omega, fun h => ?_⟩
    unfold gpg at h4
    split at h4
    · next hc =>
      refine absurd ⟨(n - 1).toNat, by omega, hc.1, ?_⟩ h
      exact Classical.not_not.mp (fun hh => hc.2 (gwf_0.mpr hh))
    · cases h4
set_option maxRecDepth 100000 in
theorem lX0_winningFirst {E : mx_E} {d m : Nat} (hC : WIN d m) {S T : Nat → Int → Int} {D : List mx_C} {a : Int → Int} (hG : FGo S) (ha : S 22 = a) {s fr : Nat} (h_s : s < 256) (h_fr : fr < 65536) (hm : (mem s).length ≤ m + 1) {n : Int} (h_n : 1 ≤ n ∧ n ≤ 8) (hns : s.testBit (n - 1).toNat = true) {r : Int} : ∀ (j : Nat) (k : Int) (S1 : Nat → Int → Int), k + j = 16 → 0 ≤ k → Fr [25, 26] S S1 → FGo S1 → lpR (gfg a s fr n) j k (-1) = r → Ev E yX0_winningFirst cX0_winningFirst 6 (some .int) (kI E (d + 1) (CQo S T D r)) 0 0 11 [.ref 21, .int (jI (s : Int)), .int (jI (fr : Int)), .int (jI n), .int (jI (fsf a n (fr : Int))), .int (jI k)] [] (W5 S1 T D) := by
  intro j
  induction j with
  | zero =>
    intro k S1 hkj hk hF hG1 hr
    refine L_i5 dX0_winningFirst_11 ?_
    refine J_bipush dX0_winningFirst_13 (by decide) ?_
    refine J_icmp_ge 63 dX0_winningFirst_15 rfl (by omega) (by omega) (fun c15 => ?_) (fun c15 => ?_)
    · refine J_iconst dX0_winningFirst_63 ?_
      exact RQ_i rfl dX0_winningFirst_64 ⟨hr, S1, rfl, hG1, hF⟩
    · exfalso; omega
  | succ j ih =>
    intro k S1 hkj hk hF hG1 hr
    have e22 : S1 22 = a := (hF 22 (by decide)).trans ha
    have hA := hG1.a n h_n
    rw [e22] at hA
    have hfb := fsf_B a n (fr := (fr : Int)) (by omega)
    have hdd := ediv2_B hfb.1 k.toNat
    have hgB := gv_B a (nd s (2 ^ (n - 1).toNat)) (nd fr (pm (fa a (n - 1).toNat) k.toNat))
    have hmo := mem_out_len ((memN_mem 8 (n - 1).toNat).mpr ⟨by omega, hns⟩)
    refine L_i5 dX0_winningFirst_11 ?_
    refine J_bipush dX0_winningFirst_13 (by decide) ?_
    refine J_icmp_ge 63 dX0_winningFirst_15 rfl (by omega) (by omega) (fun c15 => ?_) (fun c15 => ?_)
    · exfalso; omega
    · refine L_i4 dX0_winningFirst_18 ?_
      refine L_i5 dX0_winningFirst_20 ?_
      refine J_iushrG dX0_winningFirst_22 (by omega) (by omega) ?_
      refine J_iconst dX0_winningFirst_23 ?_
      refine J_imask 1 (by decide) (by decide) dX0_winningFirst_24 ?_
      refine J_if_eq 57 dX0_winningFirst_25 rfl (by omega) (fun c25 => ?_) (fun c25 => ?_)
      · refine JI_5 dX0_winningFirst_57 (by decide) rfl ?_
        refine E_goto 11 dX0_winningFirst_60 rfl ?_
        rw [lpR_no (show gfg a s fr n k = none from if_neg (fun hh => by unfold gfB at hh; rw [Bool.and_eq_true] at hh; have := (fsf_bit (a := a) h_n.1 hk).mpr hh.1; omega))] at hr
        exact ih (k + 1) S1 (by omega) (by omega) hF hG1 hr
      · refine L_a0 dX0_winningFirst_28 ?_
        refine L_i1 dX0_winningFirst_29 ?_
        refine L_i3 dX0_winningFirst_30 ?_
        refine C_s1F vX0_43 dX0_winningFirst_31 (sX10_bitOf (by omega)) (Nat.le_of_ble_eq_true rfl) (by omega) ?_
        refine J_iconst dX0_winningFirst_34 ?_
        refine J_inot dX0_winningFirst_35 ?_
        refine J_iandD dX0_winningFirst_36 (by omega) (bsh_nn _) ?_
        refine J_eqi (b := (((nd s (2 ^ (n - 1).toNat)) : Nat) : Int)) rfl ?_
        refine L_i2 dX0_winningFirst_37 ?_
        refine L_a0 dX0_winningFirst_38 ?_
        refine L_i3 dX0_winningFirst_39 ?_
        refine L_i5 dX0_winningFirst_40 ?_
        refine C_v2F vX0_92 dX0_winningFirst_42 (qX0_pairOf hG1.a h_n (by omega)) rfl rfl (Nat.le_of_ble_eq_true rfl) (by omega) ?_
        refine J_eqi (b := (((pm (fa a (n - 1).toNat) k.toNat) : Nat) : Int)) (by rw [e22]; exact fpr_pm h_n.1 hk hA.1) ?_
        refine J_iconst dX0_winningFirst_45 ?_
        refine J_inot dX0_winningFirst_46 ?_
        refine J_iandD dX0_winningFirst_47 (by omega) (by omega) ?_
        refine J_eqi (b := ((nd fr (pm (fa a (n - 1).toNat) k.toNat) : Nat) : Int)) rfl ?_
        refine C_v2I vX0_149 dX0_winningFirst_48 (hC S1 T D a hG1 e22 _ _ (nd_lt h_s) (nd_lt h_fr) (by omega)) rfl rfl (Nat.le_of_ble_eq_true rfl) (by omega) (fun v48 hp48 hq48 => ?_)
        obtain ⟨rfl, S2, rfl, hG2, hF2⟩ := hq48
        refine J_if_ne 57 dX0_winningFirst_51 rfl (by omega) (fun c51 => ?_) (fun c51 => ?_)
        · refine JI_5 dX0_winningFirst_57 (by decide) rfl ?_
          refine E_goto 11 dX0_winningFirst_60 rfl ?_
          rw [lpR_no (show gfg a s fr n k = none from if_neg (fun hh => by unfold gfB at hh; rw [Bool.and_eq_true, Bool.not_eq_true'] at hh; exact c51 (gv_0.mpr hh.2)))] at hr
          exact ih (k + 1) S2 (by omega) (by omega) (hF.trans hF2) hG2 hr
        · refine L_i5 dX0_winningFirst_54 ?_
          exact RQ_i rfl dX0_winningFirst_56 ⟨by rw [lpR_so (show gfg a s fr n k = some k from if_pos (by unfold gfB; rw [(fsf_bit h_n.1 hk).mp (by omega), gv_0.mp c51]; rfl))] at hr; exact hr, S2, rfl, hG2, hF.trans hF2⟩
set_option maxRecDepth 100000 in
theorem qX0_winningFirst {d m : Nat} (hC : WIN d m) {S T : Nat → Int → Int} {D : List mx_C} {a : Int → Int} (hG : FGo S) (ha : S 22 = a) {s fr : Nat} (h_s : s < 256) (h_fr : fr < 65536) (hm : (mem s).length ≤ m + 1) {n : Int} (h_n : 1 ≤ n ∧ n ≤ 8) (hns : s.testBit (n - 1).toNat = true) : SpI yX0_winningFirst cX0_winningFirst 6 (some .int) (d + 1) [.ref 21, .int (jI (s : Int)), .int (jI (fr : Int)), .int (jI n)] (W5 S T D) (CQo S T D (gwf a s fr n)) := by
  refine Sp.of [.ref 21, .int (jI (s : Int)), .int (jI (fr : Int)), .int (jI n), .retAddr 0, .retAddr 0] (by decide) (by simp) (Nat.le_of_ble_eq_true rfl) rfl (fun E => ?_)
  refine L_a0 dX0_winningFirst_0 ?_
  refine L_i3 dX0_winningFirst_1 ?_
  refine L_i2 dX0_winningFirst_2 ?_
  refine C_v2F vX0_47 dX0_winningFirst_3 (qX0_firstsOf hG.a h_n (by omega)) rfl rfl (Nat.le_of_ble_eq_true rfl) (by omega) ?_
  refine J_eqi (b := fsf a n (fr : Int)) (by rw [ha]) ?_
  refine S_i4 dX0_winningFirst_6 (by decide) rfl ?_
  refine J_iconst dX0_winningFirst_8 ?_
  refine S_i5 dX0_winningFirst_9 (by decide) rfl ?_
  exact lX0_winningFirst hC hG ha h_s h_fr hm h_n hns 16 0 S (by omega) (by omega) (Fr.refl _ _) hG rfl
set_option maxRecDepth 100000 in
theorem lX0_winningPlay {E : mx_E} {d m : Nat} (hC : WIN d m) {S T : Nat → Int → Int} {D : List mx_C} {a : Int → Int} (hG : FGo S) (ha : S 22 = a) {s fr : Nat} (h_s : s < 256) (h_fr : fr < 65536) (hm : (mem s).length ≤ m + 1) {r : Int} : ∀ (j : Nat) (k : Int) (S1 : Nat → Int → Int) (u4 : Value), u4.category = 1 → k + j = 9 → 1 ≤ k → Fr [25, 26] S S1 → FGo S1 → lpR (gpg a s fr) j k (-1) = r → Ev E yX0_winningPlay cX0_winningPlay 5 (some .int) (kI E (d + 2) (CQo S T D r)) 0 0 2 [.ref 21, .int (jI (s : Int)), .int (jI (fr : Int)), .int (jI k), u4] [] (W5 S1 T D) := by
  intro j
  induction j with
  | zero =>
    intro k S1 u4 hu4 hkj hk hF hG1 hr
    refine L_i3 dX0_winningPlay_2 ?_
    refine J_bipush dX0_winningPlay_3 (by decide) ?_
    refine J_icmp_gt 46 dX0_winningPlay_5 rfl (by omega) (by omega) (fun c5 => ?_) (fun c5 => ?_)
    · refine J_iconst dX0_winningPlay_46 ?_
      exact RQ_i rfl dX0_winningPlay_47 ⟨hr, S1, rfl, hG1, hF⟩
    · exfalso; omega
  | succ j ih =>
    intro k S1 u4 hu4 hkj hk hF hG1 hr
    have hk8 : 1 ≤ k ∧ k ≤ 8 := by omega
    have e22 : S1 22 = a := (hF 22 (by decide)).trans ha
    have hwB := gwf_B a s fr k
    refine L_i3 dX0_winningPlay_2 ?_
    refine J_bipush dX0_winningPlay_3 (by decide) ?_
    refine J_icmp_gt 46 dX0_winningPlay_5 rfl (by omega) (by omega) (fun c5 => ?_) (fun c5 => ?_)
    · exfalso; omega
    · refine L_a0 dX0_winningPlay_8 ?_
      refine L_i1 dX0_winningPlay_9 ?_
      refine L_i3 dX0_winningPlay_10 ?_
      refine C_v2F vX0_56 dX0_winningPlay_11 (qX0_speaks hG1.l (by omega) hk8) rfl rfl (Nat.le_of_ble_eq_true rfl) (by omega) ?_
      refine J_ifeqB 40 dX0_winningPlay_14 rfl (fun c14 => ?_) (fun c14 => ?_)
      · refine JI_3 dX0_winningPlay_40 (by decide) rfl ?_
        refine E_goto 2 dX0_winningPlay_43 rfl ?_
        rw [lpR_no (show gpg a s fr k = none from if_neg (fun hh => c14 ((fsp_iffA hG1 e22 hk8).mpr hh.1)))] at hr
        exact ih (k + 1) S1 _ hu4 (by omega) (by omega) hF hG1 hr
      · refine L_a0 dX0_winningPlay_17 ?_
        refine L_i1 dX0_winningPlay_18 ?_
        refine L_i2 dX0_winningPlay_19 ?_
        refine L_i3 dX0_winningPlay_20 ?_
        refine C_v3I vX0_146 dX0_winningPlay_21 (qX0_winningFirst hC hG1 e22 h_s h_fr hm hk8 ((memN_mem 8 _).mp (spkS_mem (by omega) ((fsp_iffA hG1 e22 hk8).mp c14))).2) rfl rfl (Nat.le_of_ble_eq_true rfl) (by omega) (fun v21 hp21 hq21 => ?_)
        obtain ⟨rfl, S2, rfl, hG2, hF2⟩ := hq21
        refine S_i4 dX0_winningPlay_24 (by decide) rfl ?_
        refine L_i4 dX0_winningPlay_26 ?_
        refine J_iconst dX0_winningPlay_28 ?_
        refine J_icmp_eq 40 dX0_winningPlay_29 rfl (by omega) (by omega) (fun c29 => ?_) (fun c29 => ?_)
        · refine JI_3 dX0_winningPlay_40 (by decide) rfl ?_
          refine E_goto 2 dX0_winningPlay_43 rfl ?_
          rw [lpR_no (show gpg a s fr k = none from if_neg (fun hh => hh.2 c29))] at hr
          exact ih (k + 1) S2 _ rfl (by omega) (by omega) (hF.trans hF2) hG2 hr
        · refine J_bipush dX0_winningPlay_32 (by decide) ?_
          refine L_i3 dX0_winningPlay_34 ?_
          refine J_imul dX0_winningPlay_35 ?_
          refine L_i4 dX0_winningPlay_36 ?_
          refine J_iadd dX0_winningPlay_38 ?_
          exact RQ_i rfl dX0_winningPlay_39 ⟨by rw [lpR_so (show gpg a s fr k = some (100 * k + gwf a s fr k) from if_pos ⟨(fsp_iffA hG1 e22 hk8).mp c14, c29⟩)] at hr; exact hr, S2, rfl, hG2, hF.trans hF2⟩
set_option maxRecDepth 100000 in
theorem qX0_winningPlayS {d m : Nat} (hC : WIN d m) {S T : Nat → Int → Int} {D : List mx_C} {a : Int → Int} (hG : FGo S) (ha : S 22 = a) {s fr : Nat} (h_s : s < 256) (h_fr : fr < 65536) (hm : (mem s).length ≤ m + 1) : SpI yX0_winningPlay cX0_winningPlay 5 (some .int) (d + 2) [.ref 21, .int (jI (s : Int)), .int (jI (fr : Int))] (W5 S T D) (CQo S T D (gwp a s fr)) := by
  refine Sp.of [.ref 21, .int (jI (s : Int)), .int (jI (fr : Int)), .retAddr 0, .retAddr 0] (by decide) (by simp) (Nat.le_of_ble_eq_true rfl) rfl (fun E => ?_)
  refine J_iconst dX0_winningPlay_0 ?_
  refine S_i3 dX0_winningPlay_1 (by decide) rfl ?_
  exact lX0_winningPlay hC hG ha h_s h_fr hm 8 1 S _ rfl (by omega) (by omega) (Fr.refl _ _) hG rfl
set_option maxRecDepth 100000 in
theorem qX0_winsS {d m : Nat} (hC : m = 0 ∨ ∃ n, m = n + 1 ∧ WIN d n) (hd2 : 1 ≤ d) : WIN (d + 3) m := by
  intro S T D a hG ha s fr h_s h_fr hm
  have hsl := slt_B (fky (S 21 7) 2 (s : Int) (fr : Int))
  have hkb := hG.kB hsl
  have hyb := fky_B hG.2.2.2 (q := 2) (s := (s : Int)) (fr := (fr : Int)) (by omega) (by omega) (by omega)
  have hgB := gv_B a s fr
  have hpB := gwp_B a s fr
  refine Sp.of [.ref 21, .int (jI (s : Int)), .int (jI (fr : Int)), .retAddr 0, .retAddr 0, .retAddr 0, .retAddr 0] (by decide) (by simp) (Nat.le_of_ble_eq_true rfl) rfl (fun E => ?_)
  refine L_i1 dX0_wins_0 ?_
  refine J_if_ne 6 dX0_wins_1 rfl (by omega) (fun c1 => ?_) (fun c1 => ?_)
  · refine L_a0 dX0_wins_6 ?_
    refine J_iconst dX0_wins_7 ?_
    refine L_i1 dX0_wins_8 ?_
    refine L_i2 dX0_wins_9 ?_
    refine C_v3F vX0_67 dX0_wins_10 (qX0_keyOf hG (by omega) h_s h_fr) rfl rfl (Nat.le_of_ble_eq_true rfl) (by omega) ?_
    refine S_l3 dX0_wins_13 (by decide) rfl ?_
    refine L_l3 dX0_wins_14 ?_
    refine C_s1F vX0_71 dX0_wins_15 qX0_slotOf (Nat.le_of_ble_eq_true rfl) (by omega) ?_
    refine S_i5 dX0_wins_18 (by decide) rfl ?_
    refine L_a0 dX0_wins_20 ?_
    refine GW_21_3 fX0_21 dX0_wins_21 ?_
    refine L_i5 dX0_wins_24 ?_
    refine AR_25 dX0_wins_26 (by omega) ?_
    refine L_l3 dX0_wins_27 ?_
    refine JL_ne 48 dX0_wins_28 dX0_wins_29 rfl (by omega) (by omega) (fun c29 => ?_) (fun c29 => ?_)
    · have hmp := pcn_pos 16 s (by omega) (by omega)
      rw [pcn_mem h_s] at hmp
      obtain ⟨m1, hm1, hC⟩ := hC.resolve_left (by omega)
      refine L_a0 dX0_wins_48 ?_
      refine L_i1 dX0_wins_49 ?_
      refine L_i2 dX0_wins_50 ?_
      refine C_v2I vX0_143 dX0_wins_51 (qX0_winningPlayS hC hG ha h_s h_fr (by omega)) rfl rfl (Nat.le_of_ble_eq_true rfl) (by omega) (fun v51 hp51 hq51 => ?_)
      obtain ⟨rfl, S51, rfl, hG51, hF51⟩ := hq51
      refine J_iconst dX0_wins_54 ?_
      refine J_icmp_eq 62 dX0_wins_55 rfl (by omega) (by omega) (fun c55 => ?_) (fun c55 => ?_)
      · refine J_iconst dX0_wins_62 ?_
        refine S_i6 dX0_wins_63 (by decide) rfl ?_
        refine L_a0 dX0_wins_65 ?_
        refine L_i5 dX0_wins_66 ?_
        refine L_l3 dX0_wins_68 ?_
        refine L_i6 dX0_wins_69 ?_
        refine J_if_eq 78 dX0_wins_71 rfl (by omega) (fun c71 => ?_) (fun c71 => ?_)
        · refine J_iconst dX0_wins_78 ?_
          refine C_v3V vX0_78 dX0_wins_79 (qX0_remember hsl) rfl rfl (Nat.le_of_ble_eq_true rfl) (by omega) ?_
          refine L_i6 dX0_wins_82 ?_
          exact RQ_z rfl dX0_wins_84 (by decide) (by first | (exfalso; omega) | exact ⟨((gv_0.mpr (gwp_0.mp c55)).symm), _, rfl, (by have h22 := (fr22 hF51); have hh := hG51.rem (sl := slt (fky (S 21 7) 2 (s : Int) (fr : Int))) (q := 2) (s := (s : Int)) (fr := (fr : Int)) (v := 0) (by omega) (by omega) (by omega) (by rw [h22.1, ha]; unfold fan; rw [if_neg (by decide), if_neg (by decide), if_pos rfl, Int.toNat_natCast, Int.toNat_natCast]; exact (by rw [gwp_0.mp c55]; rfl)); rw [h22.2.1] at hh; exact hh), hF51.trans (frm_Fr S51 _ _ _)⟩ | exact ⟨((show gv a s fr = 1 from (gv_B a s fr).resolve_left (fun hh => c55 (gwp_0.mpr (gv_0.mp hh)))).symm), _, rfl, (by have h22 := (fr22 hF51); have hh := hG51.rem (sl := slt (fky (S 21 7) 2 (s : Int) (fr : Int))) (q := 2) (s := (s : Int)) (fr := (fr : Int)) (v := 1) (by omega) (by omega) (by omega) (by rw [h22.1, ha]; unfold fan; rw [if_neg (by decide), if_neg (by decide), if_pos rfl, Int.toNat_natCast, Int.toNat_natCast]; exact (show gv a s fr = 1 from (gv_B a s fr).resolve_left (fun hh => c55 (gwp_0.mpr (gv_0.mp hh)))).symm); rw [h22.2.1] at hh; exact hh), hF51.trans (frm_Fr S51 _ _ _)⟩)
        · refine J_iconst dX0_wins_74 ?_
          refine E_goto 79 dX0_wins_75 rfl ?_
          refine C_v3V vX0_78 dX0_wins_79 (qX0_remember hsl) rfl rfl (Nat.le_of_ble_eq_true rfl) (by omega) ?_
          refine L_i6 dX0_wins_82 ?_
          exact RQ_z rfl dX0_wins_84 (by decide) (by first | (exfalso; omega) | exact ⟨((gv_0.mpr (gwp_0.mp c55)).symm), _, rfl, (by have h22 := (fr22 hF51); have hh := hG51.rem (sl := slt (fky (S 21 7) 2 (s : Int) (fr : Int))) (q := 2) (s := (s : Int)) (fr := (fr : Int)) (v := 0) (by omega) (by omega) (by omega) (by rw [h22.1, ha]; unfold fan; rw [if_neg (by decide), if_neg (by decide), if_pos rfl, Int.toNat_natCast, Int.toNat_natCast]; exact (by rw [gwp_0.mp c55]; rfl)); rw [h22.2.1] at hh; exact hh), hF51.trans (frm_Fr S51 _ _ _)⟩ | exact ⟨((show gv a s fr = 1 from (gv_B a s fr).resolve_left (fun hh => c55 (gwp_0.mpr (gv_0.mp hh)))).symm), _, rfl, (by have h22 := (fr22 hF51); have hh := hG51.rem (sl := slt (fky (S 21 7) 2 (s : Int) (fr : Int))) (q := 2) (s := (s : Int)) (fr := (fr : Int)) (v := 1) (by omega) (by omega) (by omega) (by rw [h22.1, ha]; unfold fan; rw [if_neg (by decide), if_neg (by decide), if_pos rfl, Int.toNat_natCast, Int.toNat_natCast]; exact (show gv a s fr = 1 from (gv_B a s fr).resolve_left (fun hh => c55 (gwp_0.mpr (gv_0.mp hh)))).symm); rw [h22.2.1] at hh; exact hh), hF51.trans (frm_Fr S51 _ _ _)⟩)
      · refine J_iconst dX0_wins_58 ?_
        refine E_goto 63 dX0_wins_59 rfl ?_
        refine S_i6 dX0_wins_63 (by decide) rfl ?_
        refine L_a0 dX0_wins_65 ?_
        refine L_i5 dX0_wins_66 ?_
        refine L_l3 dX0_wins_68 ?_
        refine L_i6 dX0_wins_69 ?_
        refine J_if_eq 78 dX0_wins_71 rfl (by omega) (fun c71 => ?_) (fun c71 => ?_)
        · refine J_iconst dX0_wins_78 ?_
          refine C_v3V vX0_78 dX0_wins_79 (qX0_remember hsl) rfl rfl (Nat.le_of_ble_eq_true rfl) (by omega) ?_
          refine L_i6 dX0_wins_82 ?_
          exact RQ_z rfl dX0_wins_84 (by decide) (by first | (exfalso; omega) | exact ⟨((gv_0.mpr (gwp_0.mp c55)).symm), _, rfl, (by have h22 := (fr22 hF51); have hh := hG51.rem (sl := slt (fky (S 21 7) 2 (s : Int) (fr : Int))) (q := 2) (s := (s : Int)) (fr := (fr : Int)) (v := 0) (by omega) (by omega) (by omega) (by rw [h22.1, ha]; unfold fan; rw [if_neg (by decide), if_neg (by decide), if_pos rfl, Int.toNat_natCast, Int.toNat_natCast]; exact (by rw [gwp_0.mp c55]; rfl)); rw [h22.2.1] at hh; exact hh), hF51.trans (frm_Fr S51 _ _ _)⟩ | exact ⟨((show gv a s fr = 1 from (gv_B a s fr).resolve_left (fun hh => c55 (gwp_0.mpr (gv_0.mp hh)))).symm), _, rfl, (by have h22 := (fr22 hF51); have hh := hG51.rem (sl := slt (fky (S 21 7) 2 (s : Int) (fr : Int))) (q := 2) (s := (s : Int)) (fr := (fr : Int)) (v := 1) (by omega) (by omega) (by omega) (by rw [h22.1, ha]; unfold fan; rw [if_neg (by decide), if_neg (by decide), if_pos rfl, Int.toNat_natCast, Int.toNat_natCast]; exact (show gv a s fr = 1 from (gv_B a s fr).resolve_left (fun hh => c55 (gwp_0.mpr (gv_0.mp hh)))).symm); rw [h22.2.1] at hh; exact hh), hF51.trans (frm_Fr S51 _ _ _)⟩)
        · refine J_iconst dX0_wins_74 ?_
          refine E_goto 79 dX0_wins_75 rfl ?_
          refine C_v3V vX0_78 dX0_wins_79 (qX0_remember hsl) rfl rfl (Nat.le_of_ble_eq_true rfl) (by omega) ?_
          refine L_i6 dX0_wins_82 ?_
          exact RQ_z rfl dX0_wins_84 (by decide) (by first | (exfalso; omega) | exact ⟨((gv_0.mpr (gwp_0.mp c55)).symm), _, rfl, (by have h22 := (fr22 hF51); have hh := hG51.rem (sl := slt (fky (S 21 7) 2 (s : Int) (fr : Int))) (q := 2) (s := (s : Int)) (fr := (fr : Int)) (v := 0) (by omega) (by omega) (by omega) (by rw [h22.1, ha]; unfold fan; rw [if_neg (by decide), if_neg (by decide), if_pos rfl, Int.toNat_natCast, Int.toNat_natCast]; exact (by rw [gwp_0.mp c55]; rfl)); rw [h22.2.1] at hh; exact hh), hF51.trans (frm_Fr S51 _ _ _)⟩ | exact ⟨((show gv a s fr = 1 from (gv_B a s fr).resolve_left (fun hh => c55 (gwp_0.mpr (gv_0.mp hh)))).symm), _, rfl, (by have h22 := (fr22 hF51); have hh := hG51.rem (sl := slt (fky (S 21 7) 2 (s : Int) (fr : Int))) (q := 2) (s := (s : Int)) (fr := (fr : Int)) (v := 1) (by omega) (by omega) (by omega) (by rw [h22.1, ha]; unfold fan; rw [if_neg (by decide), if_neg (by decide), if_pos rfl, Int.toNat_natCast, Int.toNat_natCast]; exact (show gv a s fr = 1 from (gv_B a s fr).resolve_left (fun hh => c55 (gwp_0.mpr (gv_0.mp hh)))).symm); rw [h22.2.1] at hh; exact hh), hF51.trans (frm_Fr S51 _ _ _)⟩)
    · have hit : S 26 (slt (fky (S 21 7) 2 (s : Int) (fr : Int))) = gv a s fr := by rw [hG.hit hsl (by omega) (by omega) (by omega) c29, ha]; unfold fan; rw [if_neg (by decide), if_neg (by decide), if_pos rfl, Int.toNat_natCast, Int.toNat_natCast]; rfl
      refine L_a0 dX0_wins_32 ?_
      refine GW_21_4 fX0_25 dX0_wins_33 ?_
      refine L_i5 dX0_wins_36 ?_
      refine AR_26 dX0_wins_38 (by omega) ?_
      refine J_eqi (b := gv a s fr) hit ?_
      refine J_if_eq 46 dX0_wins_39 rfl (by omega) (fun c39 => ?_) (fun c39 => ?_)
      · refine J_iconst dX0_wins_46 ?_
        exact RQ_z rfl dX0_wins_47 (by decide) ⟨by omega, S, rfl, hG, Fr.refl _ _⟩
      · refine J_iconst dX0_wins_42 ?_
        refine E_goto 47 dX0_wins_43 rfl ?_
        exact RQ_z rfl dX0_wins_47 (by decide) ⟨by omega, S, rfl, hG, Fr.refl _ _⟩
  · refine J_iconst dX0_wins_4 ?_
    exact RQ_z rfl dX0_wins_5 (by decide) ⟨by rw [show s = 0 from by omega]; rfl, S, rfl, hG, Fr.refl _ _⟩
theorem WIN_all : ∀ m : Nat, WIN (3 * m + 4) m := by
  intro m
  induction m with
  | zero => exact qX0_winsS (d := 1) (Or.inl rfl) (by omega)
  | succ m ih => exact qX0_winsS (d := 3 * m + 4) (Or.inr ⟨m, rfl, ih⟩) (by omega)
theorem qX0_wins {S T : Nat → Int → Int} {D : List mx_C} {a : Int → Int} (hG : FGo S) (ha : S 22 = a) {s fr : Nat} (h_s : s < 256) (h_fr : fr < 65536) : SpI yX0_wins cX0_wins 7 (some .boolean) 28 [.ref 21, .int (jI (s : Int)), .int (jI (fr : Int))] (W5 S T D) (CQo S T D (gv a s fr)) := WIN_all 8 S T D a hG ha s fr h_s h_fr (memN_len s 8)
theorem qX0_winningPlay {S T : Nat → Int → Int} {D : List mx_C} {a : Int → Int} (hG : FGo S) (ha : S 22 = a) {s fr : Nat} (h_s : s < 256) (h_fr : fr < 65536) : SpI yX0_winningPlay cX0_winningPlay 5 (some .int) 30 [.ref 21, .int (jI (s : Int)), .int (jI (fr : Int))] (W5 S T D) (CQo S T D (gwp a s fr)) := qX0_winningPlayS (WIN_all 8) hG ha h_s h_fr (Nat.le_trans (memN_len s 8) (by decide))
