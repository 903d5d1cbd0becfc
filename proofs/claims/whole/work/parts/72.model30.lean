/-! ===== the reference: stay, likely, most ===== -/
theorem bt_lpF {f : Int → Int} {i : Nat} : ∀ (m : Nat) (k acc : Int), bt (lpF (fun k acc => bor acc (f k)) m k acc) i ↔ bt acc i ∨ ∃ j : Int, k ≤ j ∧ j < k + m ∧ bt (f j) i := by
  intro m
  induction m with
  | zero =>
    intro k acc
    show bt acc i ↔ _
    constructor
    · exact Or.inl
    · rintro (h | ⟨j, h1, h2, _⟩)
      · exact h
      · omega
  | succ m ih =>
    intro k acc
    show bt (lpF _ m (k + 1) (bor acc (f k))) i ↔ _
    rw [ih, bt_bor]
    constructor
    · rintro ((h | h) | ⟨j, h1, h2, h3⟩)
      · exact Or.inl h
      · exact Or.inr ⟨k, by omega, by omega, h⟩
      · exact Or.inr ⟨j, by omega, by omega, h3⟩
    · rintro (h | ⟨j, h1, h2, h3⟩)
      · exact Or.inl (Or.inl h)
      · by_cases e : j = k
        · subst e; exact Or.inl (Or.inr h3)
        · exact Or.inr ⟨j, by omega, by omega, h3⟩
theorem bt_0 (i : Nat) : ¬ bt 0 i := by
  show ¬ (0 : Nat).testBit i = true
  rw [Nat.zero_testBit]
  exact Bool.false_ne_true
theorem bt_standing {a : Int → Int} {i : Nat} (hi : i < 8) : bt (md_standing a) i ↔ md_stands a i := by
  have h := bt_lpF (f := fun k => if md_stands a k then bsh k else 0) (i := i) 8 0 0
  have e : md_standing a = lpF (fun k acc => bor acc ((fun k => if md_stands a k then bsh k else 0) k)) 8 0 0 := rfl
  rw [e, h]
  constructor
  · rintro (h | ⟨j, h1, h2, h3⟩)
    · exact absurd h (bt_0 i)
    · by_cases hs : md_stands a j
      · rw [if_pos hs, bt_bsh h1] at h3
        rw [← h3]; exact hs
      · rw [if_neg hs] at h3
        exact absurd h3 (bt_0 i)
  · intro hs
    refine Or.inr ⟨(i : Int), by omega, by omega, ?_⟩
    rw [if_pos hs, bt_bsh (by omega)]
/-- those of a set that lies in another one -/
theorem bdf0 {s h : Int} {i : Nat} (e : bdf s h = 0) (hs : bt s i) : bt h i := by
  have := bt_bdf (a := s) (b := h) (i := i)
  rw [e] at this
  rcases Classical.em (bt h i) with hh | hh
  · exact hh
  · exact absurd (this.mpr ⟨hs, hh⟩) (bt_0 i)
def md_plg (a : Int → Int) (st k acc : Int) : Int := bor acc (if st / 2 ^ k.toNat % 2 = 1 then md_pl a k else 0)
/-- the places of those of a set (all of whom stand) -/
def md_pls (a : Int → Int) (st : Int) : Int := lpF (md_plg a st) 8 0 0
theorem md_plg_B {a : Int → Int} (hv : MV a) {st k acc : Int} (hk : 0 ≤ k ∧ k ≤ 7) (h : 0 ≤ acc ∧ acc < 65536) : 0 ≤ md_plg a st k acc ∧ md_plg a st k acc < 65536 := by
  refine ⟨bor_nn _ _, ?_⟩
  unfold md_plg
  refine bor_lt 16 (by omega) ?_
  split
  · exact (md_pl_B hv hk).2
  · decide
theorem md_pls_B {a : Int → Int} (hv : MV a) (st : Int) : 0 ≤ md_pls a st ∧ md_pls a st < 65536 := lpF_B (lo := 0) (hi := 8) (fun k acc hk h => md_plg_B hv (by omega) h) 8 0 0 (by omega) (by omega) (by omega)
/-- the ways in which the others find place beside those that stay -/
def md_cst (a c : Int → Int) (s st : Int) : List (List Nat) := wy (opL a c (bdf s st).toNat (a 7).toNat 2) (md_pls a st).toNat
set_option maxRecDepth 100000 in
theorem lX11_canStay {E : mx_E} {S T : Nat → Int → Int} {D : List mx_C} (hi : MI T) {s st : Int} (h_s : 0 ≤ s ∧ s ≤ 255) (h_t : 0 ≤ st ∧ st ≤ 255) (hsub : ∀ k : Int, 0 ≤ k ∧ k ≤ 7 → st / 2 ^ k.toNat % 2 = 1 → 0 ≤ T 37 (8 + k)) : ∀ (m : Nat) (k acc : Int), k + m = 8 → 0 ≤ k → (0 ≤ acc ∧ acc < 65536) → lpF (md_plg (T 37) st) m k acc = md_pls (T 37) st → Ev E yX11_canStay cX11_canStay 5 (some .boolean) (kI E 11 (fun v hp' => v = (if md_cst (T 37) (T 39) s st = [] then 0 else 1) ∧ ∃ T', hp' = W5 S T' D ∧ SF T T')) 0 0 5 [.ref 36, .int (jI s), .int (jI st), .int (jI acc), .int (jI k)] [] (W5 S T D) := by
  intro m
  induction m with
  | zero =>
    intro k acc hk hk0 hac hres
    have hv := hi.1
    have hl := hi.2.1
    have ha := hv.2
    have hal : (0 : Int) = 0 ∨ (0 : Int) = 1 := Or.inl rfl
    have hbd := bdf_le s st (by omega)
    have hbn := bdf_nn s st
    have hpb := md_pls_B hv st
    refine L_i4 dX11_canStay_5 ?_
    refine J_bipush dX11_canStay_7 (by decide) ?_
    refine J_icmp_ge 40 dX11_canStay_9 rfl (by omega) (by omega) (fun c9 => ?_) (fun c9 => ?_)
    · refine L_a0 dX11_canStay_40 ?_
      refine L_i1 dX11_canStay_41 ?_
      refine L_i2 dX11_canStay_42 ?_
      refine J_iconst dX11_canStay_43 ?_
      refine J_inot dX11_canStay_44 ?_
      refine J_iandD dX11_canStay_45 (by omega) (by omega) ?_
      refine L_a0 dX11_canStay_46 ?_
      refine GW_36_0 fX11_7 dX11_canStay_47 ?_
      refine J_bipush dX11_canStay_50 (by decide) ?_
      refine AB_37 dX11_canStay_52 (by omega) hv.1 (fun b52 => ?_)
      refine J_iconst dX11_canStay_53 ?_
      refine C_v3U vX11_417 dX11_canStay_54 (qX11_layOptions (e := 2) hi (by omega) (by omega) (by omega)) rfl rfl (Nat.le_of_ble_eq_true rfl) (by decide) (fun hp54 hq54 => ?_)
      obtain ⟨T54, rfl, hL54⟩ := hq54
      refine L_a0 dX11_canStay_57 ?_
      refine L_i3 dX11_canStay_58 ?_
      refine J_eqi (b := (((md_pls (T 37) st).toNat : Nat) : Int)) (by rw [← hres]; show acc = _; have : acc = md_pls (T 37) st := hres; omega) ?_
      refine J_iconst dX11_canStay_59 ?_
      refine C_v2L vX11_420 dX11_canStay_60 (qX11_fitted (T := T54) (u := (md_pls (T 37) st).toNat) (opL_PB (by omega) (by omega)) hL54.po hL54.mm (by omega) hal) rfl rfl (Nat.le_of_ble_eq_true rfl) (by decide) (fun v60 hp60 hq60 => ?_)
      have HS := SQ.of hL54 hq60
      have hB := HS.B (opL_PB (by omega) (by omega))
      obtain ⟨h1, T2, rfl, hF⟩ := HS
      refine J_lconst 0 dX11_canStay_63 (by decide) ?_
      refine JL_le 72 dX11_canStay_64 dX11_canStay_65 rfl (by omega) (by omega) (fun c65 => ?_) (fun c65 => ?_)
      · refine J_iconst dX11_canStay_72 ?_
        exact RQ_z rfl dX11_canStay_73 (by decide) ⟨by first | exact (if_neg (fun h => absurd (hB.2.2.mpr h) (by omega))).symm | exact (if_pos (hB.2.2.mp (by omega))).symm, T2, rfl, hF.1⟩
      · refine J_iconst dX11_canStay_68 ?_
        refine E_goto 73 dX11_canStay_69 rfl ?_
        exact RQ_z rfl dX11_canStay_73 (by decide) ⟨by first | exact (if_neg (fun h => absurd (hB.2.2.mpr h) (by omega))).symm | exact (if_pos (hB.2.2.mp (by omega))).symm, T2, rfl, hF.1⟩
    · exfalso; omega
  | succ m ih =>
    intro k acc hk hk0 hac hres
    have hv := hi.1
    have hl := hi.2.1
    have ha := hv.2
    refine L_i4 dX11_canStay_5 ?_
    refine J_bipush dX11_canStay_7 (by decide) ?_
    refine J_icmp_ge 40 dX11_canStay_9 rfl (by omega) (by omega) (fun c9 => ?_) (fun c9 => ?_)
    · exfalso; omega
    · refine L_i3 dX11_canStay_12 ?_
      refine L_i2 dX11_canStay_13 ?_
      refine L_i4 dX11_canStay_14 ?_
      refine C_s2F vX11_251 dX11_canStay_16 (qX11_has (by omega) (by omega)) (Nat.le_of_ble_eq_true rfl) (by decide) ?_
      refine J_ifeqB 31 dX11_canStay_19 rfl (fun c19 => ?_) (fun c19 => ?_)
      · refine J_iconst dX11_canStay_31 ?_
        refine J_iorG dX11_canStay_32 (by omega) (by first | exact (md_pl_B hv (by omega)).1 | omega) ?_
        refine J_eqi (b := md_plg (T 37) st k acc) (by unfold md_plg; first | rw [if_pos (by assumption)] | rw [if_neg (by assumption)]) ?_
        refine S_i3 dX11_canStay_33 (by decide) rfl ?_
        refine JI_4 dX11_canStay_34 (by decide) rfl ?_
        refine E_goto 5 dX11_canStay_37 rfl ?_
        exact ih (k + 1) _ (by omega) (by omega) (md_plg_B hv (by omega) hac) (by rw [← hres, lpF])
      · refine L_a0 dX11_canStay_22 ?_
        refine L_i4 dX11_canStay_23 ?_
        refine C_v1F vX11_94 dX11_canStay_25 (qX11_placesOf hv (by omega) (hsub k (by omega) c19)) rfl rfl (Nat.le_of_ble_eq_true rfl) (by decide) ?_
        refine E_goto 32 dX11_canStay_28 rfl ?_
        refine J_iorG dX11_canStay_32 (by omega) (by first | exact (md_pl_B hv (by omega)).1 | omega) ?_
        refine J_eqi (b := md_plg (T 37) st k acc) (by unfold md_plg; first | rw [if_pos (by assumption)] | rw [if_neg (by assumption)]) ?_
        refine S_i3 dX11_canStay_33 (by decide) rfl ?_
        refine JI_4 dX11_canStay_34 (by decide) rfl ?_
        refine E_goto 5 dX11_canStay_37 rfl ?_
        exact ih (k + 1) _ (by omega) (by omega) (md_plg_B hv (by omega) hac) (by rw [← hres, lpF])

set_option maxRecDepth 100000 in
theorem qX11_canStay {S T : Nat → Int → Int} {D : List mx_C} (hi : MI T) {s st : Int} (h_s : 0 ≤ s ∧ s ≤ 255) (h_t : 0 ≤ st ∧ st ≤ 255) (hsub : ∀ k : Int, 0 ≤ k ∧ k ≤ 7 → st / 2 ^ k.toNat % 2 = 1 → 0 ≤ T 37 (8 + k)) : SpI yX11_canStay cX11_canStay 5 (some .boolean) 11 [.ref 36, .int (jI s), .int (jI st)] (W5 S T D) (fun v hp' => v = (if md_cst (T 37) (T 39) s st = [] then 0 else 1) ∧ ∃ T', hp' = W5 S T' D ∧ SF T T') := by
  refine Sp.of [.ref 36, .int (jI s), .int (jI st), .retAddr 0, .retAddr 0] (by decide) (by simp) (Nat.le_of_ble_eq_true rfl) rfl (fun E => ?_)
  refine J_iconst dX11_canStay_0 ?_
  refine S_i3 dX11_canStay_1 (by decide) rfl ?_
  refine J_iconst dX11_canStay_2 ?_
  refine S_i4 dX11_canStay_3 (by decide) rfl ?_
  exact lX11_canStay hi h_s h_t hsub 8 0 0 (by omega) (by omega) (by omega) rfl

/-- who stays, of those from m - 1 down -/
def md_sty (a c : Int → Int) (s h : Int) : Nat → Int → Int
  | 0, b => b
  | m + 1, b => md_sty a c s h m (if bdf (m : Int) h = 0 ∧ (b = -1 ∨ pc b ≤ pc (m : Int)) ∧ ¬ md_cst a c s (m : Int) = [] then (m : Int) else b)
theorem md_cst_congr {a b c d : Int → Int} (h1 : a = b) (h2 : c = d) (s st : Int) : md_cst a c s st = md_cst b d s st := by rw [h1, h2]
set_option maxRecDepth 100000 in
theorem lX11_stay {E : mx_E} {S T : Nat → Int → Int} {D : List mx_C} (hi : MI T) {s h r : Int} (h_s : 0 ≤ s ∧ s ≤ 255) (h_h : h = ban s (md_standing (T 37))) : ∀ (m : Nat) (st best : Int) (T1 : Nat → Int → Int), st + 1 = m → (-1 ≤ best ∧ best ≤ 255) → st ≤ 255 → SF T T1 → md_sty (T 37) (T 39) s h m best = r → Ev E yX11_stay cX11_stay 4 (some .int) (kI E 12 (fun v hp' => v = r ∧ ∃ T', hp' = W5 S T' D ∧ SF T T')) 0 0 18 [.ref 36, .int (jI s), .int (jI best), .int (jI st)] [] (W5 S T1 D) := by
  intro m
  induction m with
  | zero =>
    intro st best T1 hst hbe hs2 f1 hres
    refine L_i3 dX11_stay_18 ?_
    refine J_if_lt 68 dX11_stay_19 rfl (by omega) (fun c19 => ?_) (fun c19 => ?_)
    · refine L_i2 dX11_stay_68 ?_
      exact RQ_i rfl dX11_stay_69 ⟨hres, T1, rfl, f1⟩
    · exfalso; omega
  | succ m ih =>
    intro st best T1 hst hbe hs2 f1 hres
    obtain rfl : st = (m : Int) := by omega
    have hi1 := f1.mi hi
    have hv1 := hi1.1
    have e37 := f1.1 37 (by decide)
    have e39 := f1.1 39 (by decide)
    rw [md_sty] at hres
    have hbd := bdf_le (m : Int) h (by omega)
    have hbn := bdf_nn (m : Int) h
    have hpm := pc_B (m : Int)
    have hpb := pc_B best
    have hsb := md_standing_B (T 37)
    have hhn : 0 ≤ h := by rw [h_h]; exact ban_nn _ _
    refine L_i3 dX11_stay_18 ?_
    refine J_if_lt 68 dX11_stay_19 rfl (by omega) (fun c19 => ?_) (fun c19 => ?_)
    · exfalso; omega
    · refine L_i3 dX11_stay_22 ?_
      refine L_i1 dX11_stay_23 ?_
      refine L_a0 dX11_stay_24 ?_
      refine C_v0F vX11_301 dX11_stay_25 (qX11_standingV hv1) rfl rfl (Nat.le_of_ble_eq_true rfl) (by decide) ?_
      refine J_eqi (b := md_standing (T 37)) (by rw [e37]) ?_
      refine J_iandG dX11_stay_28 (by omega) (by omega) ?_
      refine J_eqi (b := h) h_h.symm ?_
      refine J_iconst dX11_stay_29 ?_
      refine J_inot dX11_stay_30 ?_
      refine J_iandD dX11_stay_31 (by omega) (by omega) ?_
      refine J_if_ne 62 dX11_stay_32 rfl (by omega) (fun c32 => ?_) (fun c32 => ?_)
      · refine JI_3 dX11_stay_62 (by decide) rfl ?_
        refine E_goto 18 dX11_stay_65 rfl ?_
        exact ih _ _ _ (by omega) hbe (by omega) f1 (by rw [if_neg (fun h => c32 h.1)] at hres; exact hres)
      · refine L_i2 dX11_stay_35 ?_
        refine J_iconst dX11_stay_36 ?_
        refine J_icmp_eq 51 dX11_stay_37 rfl (by omega) (by omega) (fun c37 => ?_) (fun c37 => ?_)
        · refine L_a0 dX11_stay_51 ?_
          refine L_i1 dX11_stay_52 ?_
          refine L_i3 dX11_stay_53 ?_
          have hsub : ∀ k : Int, 0 ≤ k ∧ k ≤ 7 → (m : Int) / 2 ^ k.toNat % 2 = 1 → 0 ≤ T1 37 (8 + k) := fun k hk hb => by
            have q1 := bdf0 c32 ((bt_has (by omega)).mp hb)
            rw [h_h, bt_ban, bt_standing (by omega)] at q1
            have q2 := hv1.at hk
            have q3 := q1.2.2
            rw [show ((k.toNat : Nat) : Int) = k by omega, ← e37] at q3
            omega
          refine C_v2I vX11_457 dX11_stay_54 (qX11_canStay (s := s) (st := (m : Int)) hi1 h_s (by omega) hsub) rfl rfl (Nat.le_of_ble_eq_true rfl) (by decide) (fun v54 hp54 hq54 => ?_)
          obtain ⟨e54, T54, rfl, f54⟩ := hq54
          have hv54 : v54 = 0 ∨ v54 = 1 := by rw [e54]; split; exact Or.inl rfl; exact Or.inr rfl
          refine J_if_eq 62 dX11_stay_57 rfl (by omega) (fun c57 => ?_) (fun c57 => ?_)
          · refine JI_3 dX11_stay_62 (by decide) rfl ?_
            refine E_goto 18 dX11_stay_65 rfl ?_
            exact ih _ _ _ (by omega) hbe (by omega) (f1.trans f54) (by rw [if_neg (fun h => absurd (e54.trans (if_neg (fun hh => h.2.2 ((md_cst_congr e37 e39 s (m : Int)).symm.trans hh)))) (by omega))] at hres; exact hres)
          · refine L_i3 dX11_stay_60 ?_
            refine S_i2 dX11_stay_61 (by decide) rfl ?_
            refine JI_3 dX11_stay_62 (by decide) rfl ?_
            refine E_goto 18 dX11_stay_65 rfl ?_
            exact ih _ _ _ (by omega) (by omega) (by omega) (f1.trans f54) (by rw [if_pos ⟨c32, Or.inl c37, fun h => absurd (e54.trans (if_pos ((md_cst_congr e37 e39 s (m : Int)).trans h))) c57⟩] at hres; exact hres)
        · refine L_i3 dX11_stay_40 ?_
          refine C_s1F vX11_304 dX11_stay_41 (qX11_bits (by omega)) (Nat.le_of_ble_eq_true rfl) (by decide) ?_
          refine L_i2 dX11_stay_44 ?_
          refine C_s1F vX11_304 dX11_stay_45 (qX11_bits (by omega)) (Nat.le_of_ble_eq_true rfl) (by decide) ?_
          refine J_icmp_lt 62 dX11_stay_48 rfl (by omega) (by omega) (fun c48 => ?_) (fun c48 => ?_)
          · refine JI_3 dX11_stay_62 (by decide) rfl ?_
            refine E_goto 18 dX11_stay_65 rfl ?_
            exact ih _ _ _ (by omega) hbe (by omega) f1 (by rw [if_neg (fun h => by rcases h.2.1 with h1 | h1 <;> omega)] at hres; exact hres)
          · refine L_a0 dX11_stay_51 ?_
            refine L_i1 dX11_stay_52 ?_
            refine L_i3 dX11_stay_53 ?_
            have hsub : ∀ k : Int, 0 ≤ k ∧ k ≤ 7 → (m : Int) / 2 ^ k.toNat % 2 = 1 → 0 ≤ T1 37 (8 + k) := fun k hk hb => by
              have q1 := bdf0 c32 ((bt_has (by omega)).mp hb)
              rw [h_h, bt_ban, bt_standing (by omega)] at q1
              have q2 := hv1.at hk
              have q3 := q1.2.2
              rw [show ((k.toNat : Nat) : Int) = k by omega, ← e37] at q3
              omega
            refine C_v2I vX11_457 dX11_stay_54 (qX11_canStay (s := s) (st := (m : Int)) hi1 h_s (by omega) hsub) rfl rfl (Nat.le_of_ble_eq_true rfl) (by decide) (fun v54 hp54 hq54 => ?_)
            obtain ⟨e54, T54, rfl, f54⟩ := hq54
            have hv54 : v54 = 0 ∨ v54 = 1 := by rw [e54]; split; exact Or.inl rfl; exact Or.inr rfl
            refine J_if_eq 62 dX11_stay_57 rfl (by omega) (fun c57 => ?_) (fun c57 => ?_)
            · refine JI_3 dX11_stay_62 (by decide) rfl ?_
              refine E_goto 18 dX11_stay_65 rfl ?_
              exact ih _ _ _ (by omega) hbe (by omega) (f1.trans f54) (by rw [if_neg (fun h => absurd (e54.trans (if_neg (fun hh => h.2.2 ((md_cst_congr e37 e39 s (m : Int)).symm.trans hh)))) (by omega))] at hres; exact hres)
            · refine L_i3 dX11_stay_60 ?_
              refine S_i2 dX11_stay_61 (by decide) rfl ?_
              refine JI_3 dX11_stay_62 (by decide) rfl ?_
              refine E_goto 18 dX11_stay_65 rfl ?_
              exact ih _ _ _ (by omega) (by omega) (by omega) (f1.trans f54) (by rw [if_pos ⟨c32, Or.inr c48, fun h => absurd (e54.trans (if_pos ((md_cst_congr e37 e39 s (m : Int)).trans h))) c57⟩] at hres; exact hres)

set_option maxRecDepth 100000 in
theorem qX11_stay {S T : Nat → Int → Int} {D : List mx_C} (hi : MI T) {s : Int} (h_s : -2147483648 ≤ s ∧ s < 2147483648) : SpI yX11_stay cX11_stay 4 (some .int) 12 [.ref 36, .int (jI s)] (W5 S T D) (fun v hp' => v = (if 0 ≤ s ∧ s ≤ 255 then md_sty (T 37) (T 39) s (ban s (md_standing (T 37))) (ban s (md_standing (T 37)) + 1).toNat (-1) else -1) ∧ ∃ T', hp' = W5 S T' D ∧ SF T T') := by
  have hsb := md_standing_B (T 37)
  refine Sp.of [.ref 36, .int (jI s), .retAddr 0, .retAddr 0] (by decide) (by simp) (Nat.le_of_ble_eq_true rfl) rfl (fun E => ?_)
  refine L_i1 dX11_stay_0 ?_
  refine C_s1F vX11_411 dX11_stay_1 (qX11_isSet (by omega)) (Nat.le_of_ble_eq_true rfl) (by decide) ?_
  refine J_ifneB 9 dX11_stay_4 rfl (fun c4 => ?_) (fun c4 => ?_)
  · refine J_iconst dX11_stay_9 ?_
    refine S_i2 dX11_stay_10 (by decide) rfl ?_
    refine L_i1 dX11_stay_11 ?_
    refine L_a0 dX11_stay_12 ?_
    refine C_v0F vX11_301 dX11_stay_13 (qX11_standingV hi.1) rfl rfl (Nat.le_of_ble_eq_true rfl) (by decide) ?_
    refine J_iandG dX11_stay_16 (by omega) (by omega) ?_
    refine S_i3 dX11_stay_17 (by decide) rfl ?_
    have hbl := ban_le s (md_standing (T 37)) (by omega)
    have hbn := ban_nn s (md_standing (T 37))
    rw [if_pos c4]
    exact lX11_stay hi c4 rfl _ _ _ T (by omega) (by omega) (by omega) (SF.refl T) rfl
  · refine J_iconst dX11_stay_7 ?_
    exact RQ_i rfl dX11_stay_8 ⟨by rw [if_neg c4], T, rfl, SF.refl T⟩

theorem gcd_step {p q : Int} (hp : 0 ≤ p) (hq : 0 < q) : Nat.gcd q.toNat (p % q).toNat = Nat.gcd p.toNat q.toNat := by
  have : (p % q).toNat = p.toNat % q.toNat := by
    rw [Int.toNat_emod (by omega) (by omega)]
  rw [this, Nat.gcd_comm p.toNat q.toNat, Nat.gcd_rec q.toNat p.toNat, Nat.gcd_comm]
theorem lX11_divisor {E : mx_E} {hp : List mx_C} {x z r : Int} : ∀ (m : Nat) (p q : Int) (u8 u9 : Value), 0 ≤ q → q < m → (0 ≤ p ∧ p < 4611686018427387904) → q < 4611686018427387904 → (Nat.gcd p.toNat q.toNat : Int) = r → Ev E yX11_divisor cX11_divisor 10 (some .long) (kf E 0 (.long (jL r)) hp) 0 0 6 [.long (jL x), .retAddr 0, .long (jL z), .retAddr 0, .long (jL p), .retAddr 0, .long (jL q), .retAddr 0, u8, u9] [] hp := by
  intro m
  induction m with
  | zero =>
    intro p q u8 u9 h1 h2
    exact absurd h2 (by omega)
  | succ m ih =>
    intro p q u8 u9 hq0 hqm hp1 hq1 hres
    refine L_l6 dX11_divisor_6 ?_
    refine J_lconst 0 dX11_divisor_8 (by decide) ?_
    refine JL_eq 31 dX11_divisor_9 dX11_divisor_10 rfl (by omega) (by omega) (fun c10 => ?_) (fun c10 => ?_)
    · refine L_l4 dX11_divisor_31 ?_
      exact R_l rfl dX11_divisor_33 rfl (by rw [← hres, c10]; show p = ((Nat.gcd p.toNat 0 : Nat) : Int); rw [Nat.gcd_zero_right]; omega)
    · refine L_l4 dX11_divisor_13 ?_
      refine L_l6 dX11_divisor_15 ?_
      refine J_lremN dX11_divisor_17 (by omega) (by omega) ?_
      refine S_l8 dX11_divisor_18 (by decide) rfl ?_
      refine L_l6 dX11_divisor_20 ?_
      refine S_l4 dX11_divisor_22 (by decide) rfl ?_
      refine L_l8 dX11_divisor_24 ?_
      refine S_l6 dX11_divisor_26 (by decide) rfl ?_
      refine E_goto 6 dX11_divisor_28 rfl ?_
      have hm1 := Int.emod_lt_of_pos p (show 0 < q by omega)
      have hm0 := Int.emod_nonneg p (show q ≠ 0 by omega)
      exact ih q (p % q) _ _ (by omega) (by omega) (by omega) (by omega) (by rw [gcd_step (by omega) (by omega)]; exact hres)
set_option maxRecDepth 100000 in
theorem qX11_divisor {hp : List mx_C} {x z : Int} (h_x : 0 ≤ x ∧ x < 4611686018427387904) (h_z : 0 ≤ z ∧ z < 4611686018427387904) : SpF yX11_divisor cX11_divisor 10 (some .long) 0 [.long (jL x), .long (jL z)] hp (.long (jL (Nat.gcd x.toNat z.toNat : Int))) hp := by
  refine Sp.of [.long (jL x), .retAddr 0, .long (jL z), .retAddr 0, .retAddr 0, .retAddr 0, .retAddr 0, .retAddr 0, .retAddr 0, .retAddr 0] (by decide) (by simp) (Nat.le_of_ble_eq_true rfl) rfl (fun E => ?_)
  refine L_l0 dX11_divisor_0 ?_
  refine S_l4 dX11_divisor_1 (by decide) rfl ?_
  refine L_l2 dX11_divisor_3 ?_
  refine S_l6 dX11_divisor_4 (by decide) rfl ?_
  exact lX11_divisor (z.toNat + 1) x z _ _ (by omega) (by omega) (by omega) (by omega) rfl

def md_alg (L : List (List Nat)) (i acc : Int) : Int := acc * ((L.getD i.toNat []).length : Int)
/-- in how many ways each chooses by itself -/
def md_all (L : List (List Nat)) : Int := lpF (md_alg L) L.length 0 1
theorem alg_step {acc n : Int} {m : Nat} (h : 0 ≤ acc ∧ acc * 16 ^ (m + 1) ≤ 4294967296) (hn : 0 ≤ n ∧ n ≤ 16) : 0 ≤ acc * n ∧ acc * n * 16 ^ m ≤ 4294967296 := by
  refine ⟨Int.mul_nonneg h.1 hn.1, ?_⟩
  have h1 : acc * n * 16 ^ m ≤ acc * 16 * 16 ^ m := Int.mul_le_mul_of_nonneg_right (Int.mul_le_mul_of_nonneg_left hn.2 h.1) (Int.pow_nonneg (by decide))
  have h2 : acc * 16 * 16 ^ m = acc * 16 ^ (m + 1) := by rw [Int.pow_succ, Int.mul_assoc, Int.mul_comm 16 (16 ^ m)]
  omega
theorem alg_le {acc : Int} {m : Nat} (h : 0 ≤ acc ∧ acc * 16 ^ m ≤ 4294967296) : acc ≤ 4294967296 := by
  have h1 : (1 : Int) ≤ 16 ^ m := by
    have : (0 : Int) < 16 ^ m := Int.pow_pos (by decide)
    omega
  have h2 : acc * 1 ≤ acc * 16 ^ m := Int.mul_le_mul_of_nonneg_left h1 h.1
  omega
theorem gcd_B {x z : Int} (hx : 0 ≤ x) (hz : 1 ≤ z) : 1 ≤ (Nat.gcd x.toNat z.toNat : Int) ∧ (Nat.gcd x.toNat z.toNat : Int) ≤ z := by
  have h1 : 0 < Nat.gcd x.toNat z.toNat := Nat.gcd_pos_of_pos_right _ (by omega)
  have h2 : Nat.gcd x.toNat z.toNat ≤ z.toNat := Nat.le_of_dvd (by omega) (Nat.gcd_dvd_right _ _)
  omega
/-- the odds, low or high -/
def md_lik (up all low : Int) : Int := if all = 0 then (if low = 0 then 0 else 1) else (if low = 0 then up else all) / (Nat.gcd up.toNat all.toNat : Int)
set_option maxRecDepth 100000 in
theorem lX11_likely {E : mx_E} {S T : Nat → Int → Int} {D : List mx_C} {T2 : Nat → Int → Int} {L : List (List Nat)} {s low up : Int} (f2 : SF T T2) (hPB : PB L) (hPO : PO T2 L L.length) (hmm : T2 36 32 = (L.length : Int)) (h_u : 0 ≤ up ∧ up ≤ 4294967296) (h_l : low = 0 ∨ low = 1) : ∀ (m : Nat) (i acc : Int), i + m = L.length → 0 ≤ i → (0 ≤ acc ∧ acc * 16 ^ m ≤ 4294967296) → lpF (md_alg L) m i acc = md_all L → Ev E yX11_likely cX11_likely 8 (some .long) (kL E 12 (fun v hp' => v = md_lik up (md_all L) low ∧ ∃ T', hp' = W5 S T' D ∧ SF T T')) 0 0 25 [.ref 36, .int (jI s), .int (jI low), .long (jL up), .retAddr 0, .long (jL acc), .retAddr 0, .int (jI i)] [] (W5 S T2 D) := by
  intro m
  induction m with
  | zero =>
    intro i acc hi hi0 hac hres
    have hl8 := hPB.1
    have hle := alg_le hac
    have hm : acc = md_all L := hres
    refine L_i7 dX11_likely_25 ?_
    refine L_a0 dX11_likely_27 ?_
    refine GW_36_32 fX11_398 dX11_likely_28 ?_
    refine J_eqi (b := (L.length : Int)) hmm ?_
    refine J_icmp_ge 53 dX11_likely_31 rfl (by omega) (by omega) (fun c31 => ?_) (fun c31 => ?_)
    · refine L_l5 dX11_likely_53 ?_
      refine J_lconst 0 dX11_likely_55 (by decide) ?_
      refine JL_ne 70 dX11_likely_56 dX11_likely_57 rfl (by omega) (by omega) (fun c57 => ?_) (fun c57 => ?_)
      · refine L_i2 dX11_likely_70 ?_
        refine J_if_eq 79 dX11_likely_71 rfl (by omega) (fun c71 => ?_) (fun c71 => ?_)
        · refine L_l3 dX11_likely_79 ?_
          refine L_l3 dX11_likely_80 ?_
          refine L_l5 dX11_likely_81 ?_
          have hgc := gcd_B (x := up) (z := acc) (by omega) (by omega)
          refine C_s2F vX11_460 dX11_likely_83 (qX11_divisor (by omega) (by omega)) (Nat.le_of_ble_eq_true rfl) (by decide) ?_
          refine J_ldivN dX11_likely_86 (by omega) (by omega) ?_
          exact RQ_l rfl dX11_likely_87 ⟨by unfold md_lik; rw [← hm, if_neg c57]; first | rw [if_pos c71] | rw [if_neg c71], T2, rfl, f2⟩
        · refine L_l5 dX11_likely_74 ?_
          refine E_goto 80 dX11_likely_76 rfl ?_
          refine L_l3 dX11_likely_80 ?_
          refine L_l5 dX11_likely_81 ?_
          have hgc := gcd_B (x := up) (z := acc) (by omega) (by omega)
          refine C_s2F vX11_460 dX11_likely_83 (qX11_divisor (by omega) (by omega)) (Nat.le_of_ble_eq_true rfl) (by decide) ?_
          refine J_ldivN dX11_likely_86 (by omega) (by omega) ?_
          exact RQ_l rfl dX11_likely_87 ⟨by unfold md_lik; rw [← hm, if_neg c57]; first | rw [if_pos c71] | rw [if_neg c71], T2, rfl, f2⟩
      · refine L_i2 dX11_likely_60 ?_
        refine J_if_eq 68 dX11_likely_61 rfl (by omega) (fun c61 => ?_) (fun c61 => ?_)
        · refine J_lconst 0 dX11_likely_68 (by decide) ?_
          exact RQ_l rfl dX11_likely_69 ⟨by unfold md_lik; rw [← hm, if_pos c57]; first | rw [if_pos c61] | rw [if_neg c61], T2, rfl, f2⟩
        · refine J_lconst 1 dX11_likely_64 (by decide) ?_
          refine E_goto 69 dX11_likely_65 rfl ?_
          exact RQ_l rfl dX11_likely_69 ⟨by unfold md_lik; rw [← hm, if_pos c57]; first | rw [if_pos c61] | rw [if_neg c61], T2, rfl, f2⟩
    · exfalso; omega
  | succ m ih =>
    intro i acc hi hi0 hac hres
    have hl8 := hPB.1
    have hle := alg_le hac
    have hq := hPO i.toNat (by omega)
    rw [show ((i.toNat : Nat) : Int) = i by omega] at hq
    have hq2 := (hPB.2 i.toNat (by omega)).1
    refine L_i7 dX11_likely_25 ?_
    refine L_a0 dX11_likely_27 ?_
    refine GW_36_32 fX11_398 dX11_likely_28 ?_
    refine J_eqi (b := (L.length : Int)) hmm ?_
    refine J_icmp_ge 53 dX11_likely_31 rfl (by omega) (by omega) (fun c31 => ?_) (fun c31 => ?_)
    · exfalso; omega
    · refine L_l5 dX11_likely_34 ?_
      refine L_a0 dX11_likely_36 ?_
      refine GW_36_29 fX11_59 dX11_likely_37 ?_
      refine L_i7 dX11_likely_40 ?_
      refine AR_49 dX11_likely_42 (by omega) ?_
      refine J_eqi (b := ((L.getD i.toNat []).length : Int)) hq.1 ?_
      refine J_i2l dX11_likely_43 (by omega) ?_
      refine J_lmul dX11_likely_44 ?_
      refine S_l5 dX11_likely_45 (by decide) rfl ?_
      refine JI_7 dX11_likely_47 (by decide) rfl ?_
      refine E_goto 25 dX11_likely_50 rfl ?_
      exact ih (i + 1) _ (by omega) (by omega) (alg_step hac (by omega)) (by rw [← hres, lpF]; rfl)

theorem pow16 {n : Nat} (h : n ≤ 8) : (16 : Int) ^ n ≤ 4294967296 := by
  have h1 : (16 : Nat) ^ n ≤ 16 ^ 8 := Nat.pow_le_pow_right (by decide) h
  have h2 : ((16 ^ n : Nat) : Int) = (16 : Int) ^ n := by rw [Int.natCast_pow]; rfl
  rw [← h2]
  omega
set_option maxRecDepth 100000 in
theorem qX11_likely {S T : Nat → Int → Int} {D : List mx_C} (hi : MI T) {s : Int} (h_s : -2147483648 ≤ s ∧ s < 2147483648) {low : Int} (h_l : low = 0 ∨ low = 1) : SpL yX11_likely cX11_likely 8 (some .long) 12 [.ref 36, .int (jI s), .int (jI low)] (W5 S T D) (fun v hp' => v = (if 0 ≤ s ∧ s ≤ 255 then md_lik ((md_rw (T 37) (T 39) s 0).length : Int) (md_all (opL (T 37) (T 39) s.toNat (2 * pc s + 0).toNat 2)) low else -1) ∧ ∃ T', hp' = W5 S T' D ∧ SF T T') := by
  refine Sp.of [.ref 36, .int (jI s), .int (jI low), .retAddr 0, .retAddr 0, .retAddr 0, .retAddr 0, .retAddr 0] (by decide) (by simp) (Nat.le_of_ble_eq_true rfl) rfl (fun E => ?_)
  refine L_i1 dX11_likely_0 ?_
  refine C_s1F vX11_411 dX11_likely_1 (qX11_isSet (by omega)) (Nat.le_of_ble_eq_true rfl) (by decide) ?_
  refine J_ifneB 11 dX11_likely_4 rfl (fun c4 => ?_) (fun c4 => ?_)
  · refine L_a0 dX11_likely_11 ?_
    refine L_i1 dX11_likely_12 ?_
    refine J_iconst dX11_likely_13 ?_
    refine J_iconst dX11_likely_14 ?_
    refine C_v3L vX11_427 dX11_likely_15 (qX11_rowsOf hi ⟨c4, by omega, by have := pc_mem c4; have := mem_len8 s.toNat; omega⟩ (by decide)) rfl rfl (Nat.le_of_ble_eq_true rfl) (by decide) (fun v15 hp15 hq15 => ?_)
    have hpm := pc_mem c4
    have hm8 := mem_len8 s.toNat
    have hB := hq15.B (opL_PB (by omega) (by omega))
    obtain ⟨h1, T2, rfl, hF⟩ := hq15
    rw [if_pos rfl] at h1
    have hlen : T2 36 32 = ((opL (T 37) (T 39) s.toNat (2 * pc s + 0).toNat 2).length : Int) := by rw [opL_len]; exact hF.2.2.1
    refine S_l3 dX11_likely_18 (by decide) rfl ?_
    refine J_lconst 1 dX11_likely_19 (by decide) ?_
    refine S_l5 dX11_likely_20 (by decide) rfl ?_
    refine J_iconst dX11_likely_22 ?_
    refine S_i7 dX11_likely_23 (by decide) rfl ?_
    have hpb : PB (opL (T 37) (T 39) s.toNat (2 * pc s + 0).toNat 2) := opL_PB (by omega) (by omega)
    rw [if_pos c4]
    subst h1
    exact lX11_likely hF.1 hpb hF.2.2.2.2.2.2 hlen ⟨hB.1, hB.2.1⟩ h_l _ 0 1 (by omega) (by omega) ⟨by omega, by rw [Int.one_mul]; exact pow16 hpb.1⟩ rfl
  · refine J_ldc2 (-1) dX11_likely_7 kX11_431 (by decide) ?_
    exact RQ_l rfl dX11_likely_10 ⟨by rw [if_neg c4], T, rfl, SF.refl T⟩

/-- the lowest of the largest sets, from s on -/
def md_mst (a c : Int → Int) (pl : Int) : Nat → Int → Int → Int
  | 0, _, b => b
  | m + 1, s, b => md_mst a c pl m (s + 1) (if pc b < pc s ∧ 2 * pc s ≤ pl ∧ ¬ wy (opL a c s.toNat pl.toNat 2) 0 = [] then s else b)
set_option maxRecDepth 100000 in
theorem lX11_most {E : mx_E} {S T : Nat → Int → Int} {D : List mx_C} (hi : MI T) {pl low r : Int} (h_p : 1 ≤ pl ∧ pl ≤ 16) (h_l : low = 0 ∨ low = 1) : ∀ (m : Nat) (s best : Int) (T1 : Nat → Int → Int), s + m = 256 → 0 ≤ s → (0 ≤ best ∧ best ≤ 255) → SF T T1 → md_mst (T 37) (T 39) pl m s best = r → Ev E yX11_most cX11_most 5 (some .int) (kI E 12 (fun v hp' => v = (if low = 0 then r else pc r) ∧ ∃ T', hp' = W5 S T' D ∧ SF T T')) 0 0 17 [.ref 36, .int (jI pl), .int (jI low), .int (jI best), .int (jI s)] [] (W5 S T1 D) := by
  intro m
  induction m with
  | zero =>
    intro s best T1 hs hs0 hbe f1 hres
    refine L_i4 dX11_most_17 ?_
    refine J_sipush dX11_most_19 (by decide) ?_
    refine J_icmp_gt 67 dX11_most_22 rfl (by omega) (by omega) (fun c22 => ?_) (fun c22 => ?_)
    · refine L_i2 dX11_most_67 ?_
      refine J_if_eq 78 dX11_most_68 rfl (by omega) (fun c68 => ?_) (fun c68 => ?_)
      · refine L_i3 dX11_most_78 ?_
        exact RQ_i rfl dX11_most_79 ⟨by first | (rw [if_neg c68, show best = r from hres]) | (rw [if_pos c68, show best = r from hres]), T1, rfl, f1⟩
      · refine L_i3 dX11_most_71 ?_
        refine C_s1F vX11_304 dX11_most_72 (qX11_bits (by omega)) (Nat.le_of_ble_eq_true rfl) (by decide) ?_
        refine E_goto 79 dX11_most_75 rfl ?_
        exact RQ_i rfl dX11_most_79 ⟨by first | (rw [if_neg c68, show best = r from hres]) | (rw [if_pos c68, show best = r from hres]), T1, rfl, f1⟩
    · exfalso; omega
  | succ m ih =>
    intro s best T1 hs hs0 hbe f1 hres
    have hi1 := f1.mi hi
    have e37 := f1.1 37 (by decide)
    have e39 := f1.1 39 (by decide)
    have hpb := pc_B best
    have hps := pc_B s
    rw [md_mst] at hres
    refine L_i4 dX11_most_17 ?_
    refine J_sipush dX11_most_19 (by decide) ?_
    refine J_icmp_gt 67 dX11_most_22 rfl (by omega) (by omega) (fun c22 => ?_) (fun c22 => ?_)
    · exfalso; omega
    · refine L_i4 dX11_most_25 ?_
      refine C_s1F vX11_304 dX11_most_27 (qX11_bits (by omega)) (Nat.le_of_ble_eq_true rfl) (by decide) ?_
      refine L_i3 dX11_most_30 ?_
      refine C_s1F vX11_304 dX11_most_31 (qX11_bits (by omega)) (Nat.le_of_ble_eq_true rfl) (by decide) ?_
      refine J_icmp_le 61 dX11_most_34 rfl (by omega) (by omega) (fun c34 => ?_) (fun c34 => ?_)
      · refine JI_4 dX11_most_61 (by decide) rfl ?_
        refine E_goto 17 dX11_most_64 rfl ?_
        exact ih _ _ _ (by omega) (by omega) hbe f1 (by rw [if_neg (fun h => by omega)] at hres; exact hres)
      · refine J_iconst dX11_most_37 ?_
        refine L_i4 dX11_most_38 ?_
        refine C_s1F vX11_304 dX11_most_40 (qX11_bits (by omega)) (Nat.le_of_ble_eq_true rfl) (by decide) ?_
        refine J_imul dX11_most_43 ?_
        refine L_i1 dX11_most_44 ?_
        refine J_icmp_gt 61 dX11_most_45 rfl (by omega) (by omega) (fun c45 => ?_) (fun c45 => ?_)
        · refine JI_4 dX11_most_61 (by decide) rfl ?_
          refine E_goto 17 dX11_most_64 rfl ?_
          exact ih _ _ _ (by omega) (by omega) hbe f1 (by rw [if_neg (fun h => by omega)] at hres; exact hres)
        · refine L_a0 dX11_most_48 ?_
          refine L_i4 dX11_most_49 ?_
          refine L_i1 dX11_most_51 ?_
          refine C_v2I vX11_464 dX11_most_52 (qX11_doFit hi1 (by omega) (by omega)) rfl rfl (Nat.le_of_ble_eq_true rfl) (by decide) (fun v52 hp52 hq52 => ?_)
          obtain ⟨e52, T52, rfl, f52⟩ := hq52
          rw [e37, e39] at e52
          have hv52 : v52 = 0 ∨ v52 = 1 := by rw [e52]; split; exact Or.inl rfl; exact Or.inr rfl
          refine J_if_eq 61 dX11_most_55 rfl (by omega) (fun c55 => ?_) (fun c55 => ?_)
          · refine JI_4 dX11_most_61 (by decide) rfl ?_
            refine E_goto 17 dX11_most_64 rfl ?_
            exact ih _ _ _ (by omega) (by omega) hbe (f1.trans f52) (by rw [if_neg (fun h => absurd (e52.trans (if_neg h.2.2)) (by omega))] at hres; exact hres)
          · refine L_i4 dX11_most_58 ?_
            refine S_i3 dX11_most_60 (by decide) rfl ?_
            refine JI_4 dX11_most_61 (by decide) rfl ?_
            refine E_goto 17 dX11_most_64 rfl ?_
            exact ih _ _ _ (by omega) (by omega) (by omega) (f1.trans f52) (by rw [if_pos ⟨by omega, by omega, fun h => absurd (e52.trans (if_pos h)) c55⟩] at hres; exact hres)

set_option maxRecDepth 100000 in
theorem qX11_most {S T : Nat → Int → Int} {D : List mx_C} (hi : MI T) {pl : Int} (h_pl : -2147483648 ≤ pl ∧ pl < 2147483648) {low : Int} (h_l : low = 0 ∨ low = 1) : SpI yX11_most cX11_most 5 (some .int) 12 [.ref 36, .int (jI pl), .int (jI low)] (W5 S T D) (fun v hp' => v = (if 1 ≤ pl ∧ pl ≤ 16 then (if low = 0 then md_mst (T 37) (T 39) pl 256 0 0 else pc (md_mst (T 37) (T 39) pl 256 0 0)) else -1) ∧ ∃ T', hp' = W5 S T' D ∧ SF T T') := by
  refine Sp.of [.ref 36, .int (jI pl), .int (jI low), .retAddr 0, .retAddr 0] (by decide) (by simp) (Nat.le_of_ble_eq_true rfl) rfl (fun E => ?_)
  refine L_i1 dX11_most_0 ?_
  refine J_iconst dX11_most_1 ?_
  refine J_bipush dX11_most_2 (by decide) ?_
  refine C_s3F vX11_83 dX11_most_4 (qX11_isIn (by omega) (by omega) (by omega)) (Nat.le_of_ble_eq_true rfl) (by decide) ?_
  refine J_ifneB 12 dX11_most_7 rfl (fun c7 => ?_) (fun c7 => ?_)
  · refine J_iconst dX11_most_12 ?_
    refine S_i3 dX11_most_13 (by decide) rfl ?_
    refine J_iconst dX11_most_14 ?_
    refine S_i4 dX11_most_15 (by decide) rfl ?_
    rw [if_pos c7]
    exact lX11_most hi c7 h_l 256 0 0 T (by omega) (by omega) (by omega) (SF.refl T) rfl
  · refine J_iconst dX11_most_10 ?_
    exact RQ_i rfl dX11_most_11 ⟨by rw [if_neg c7], T, rfl, SF.refl T⟩

