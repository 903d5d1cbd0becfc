/-! ===== the reference: fill, often, rounds ===== -/
theorem wy_mem : ∀ (L : List (List Nat)) (u : Nat) (x : List Nat), x ∈ wy L u → x.length = L.length ∧ ∀ i : Nat, i < L.length → x.getD i 0 ∈ L.getD i [] := by
  intro L
  induction L with
  | nil =>
    intro u x hx
    have : x = [] := by simpa [wy] using hx
    subst this
    exact ⟨rfl, fun i hi => absurd hi (Nat.not_lt_zero _)⟩
  | cons os L ih =>
    intro u x hx
    rw [wy_cons, List.mem_flatMap] at hx
    obtain ⟨m, hm, hx⟩ := hx
    by_cases hz : m &&& u = 0
    · rw [wyf_yes hz, List.mem_map] at hx
      obtain ⟨y, hy, rfl⟩ := hx
      have := ih _ y hy
      refine ⟨by rw [List.length_cons, List.length_cons, this.1], fun i hi => ?_⟩
      cases i with
      | zero => exact hm
      | succ i => exact this.2 i (by rw [List.length_cons] at hi; omega)
    · rw [wyf_no hz] at hx
      exact absurd hx (by simp)
/-- where a number lies in a list -/
def ixo (k : Nat) : List Nat → Nat
  | [] => 0
  | x :: l => if x = k then 0 else ixo k l + 1
theorem ixo_spec {k : Nat} : ∀ {l : List Nat}, k ∈ l → ixo k l < l.length ∧ l.getD (ixo k l) 0 = k ∧ ∀ j : Nat, j < ixo k l → ¬ l.getD j 0 = k := by
  intro l
  induction l with
  | nil => intro h; exact absurd h (by simp)
  | cons x l ih =>
    intro h
    unfold ixo
    by_cases e : x = k
    · rw [if_pos e]
      exact ⟨by rw [List.length_cons]; omega, e, fun j hj => absurd hj (Nat.not_lt_zero _)⟩
    · rw [if_neg e]
      have h2 := ih (by rcases List.mem_cons.mp h with h | h; exact absurd h.symm e; exact h)
      refine ⟨by rw [List.length_cons]; omega, h2.2.1, fun j hj => ?_⟩
      cases j with
      | zero => exact e
      | succ j => exact h2.2.2 j (by omega)
theorem opm_bit (st e p : Nat) : (opm st e p).testBit p = true := by
  unfold opm
  rw [Nat.testBit_or, Nat.testBit_or, Nat.testBit_two_pow_self]
  rfl
theorem mem_of_bit {s : Int} {k : Int} (hk : 0 ≤ k ∧ k ≤ 7) (h : bt s k.toNat) : k.toNat ∈ mem s.toNat := (memN_mem 8 k.toNat).mpr ⟨by omega, h⟩
/-- where the lowest way lays a number -/
def md_fil (a c : Int → Int) (s k : Int) : Int := if md_stands a k then a (8 + k) else lowF ((((md_wy a c s).headD []).getD (ixo k.toNat (mem (bdf s (md_standing a)).toNat)) 0 : Nat) : Int) 31 0
set_option maxRecDepth 100000 in
theorem lX11_fill {E : mx_E} {S T : Nat → Int → Int} {D : List mx_C} {T2 : Nat → Int → Int} {sm : Nat} {L ws : List (List Nat)} {s n k : Int} {g : Nat} (hF : FD T T2 sm L ws) (hk : 0 ≤ k ∧ k ≤ 7) (hx : ixo k.toNat (mem sm) < (mem sm).length) (hx1 : (mem sm).getD (ixo k.toNat (mem sm)) 0 = k.toNat) (hx2 : ∀ j : Nat, j < ixo k.toNat (mem sm) → ¬ (mem sm).getD j 0 = k.toNat) (hne : ws ≠ []) (hg : (ws.headD []).getD (ixo k.toNat (mem sm)) 0 = g) (hgB : g < 65536) {b : Nat} (hb : b ≤ 15) (hgb : g.testBit b = true) : ∀ (m : Nat) (i : Int), i + m = ixo k.toNat (mem sm) → 0 ≤ i → Ev E yX11_fill cX11_fill 5 (some .int) (kI E 12 (fun v hp' => v = lowF (g : Int) 31 0 ∧ ∃ T', hp' = W5 S T' D ∧ SF T T')) 0 0 68 [.ref 36, .int (jI s), .int (jI n), .int (jI k), .int (jI i)] [] (W5 S T2 D) := by
  intro m
  induction m with
  | zero =>
    intro i him hi0
    have hl8 := mem_len8 sm
    obtain ⟨q, rfl⟩ : ∃ q : Nat, i = q := ⟨i.toNat, by omega⟩
    have h47 := hF.2.2.2.1 q (by omega)
    have hmk : (mem sm).getD q 0 < 8 := memN_lt (s := sm) 8 _ (getD_mem (d := 0) (show q < (mem sm).length by omega))
    refine L_a0 dX11_fill_68 ?_
    refine GW_36_27 fX11_53 dX11_fill_69 ?_
    refine L_i4 dX11_fill_72 ?_
    refine AR_47 dX11_fill_74 (by omega) ?_
    refine J_eqi (b := (((mem sm).getD q 0 : Nat) : Int)) h47 ?_
    refine L_i3 dX11_fill_75 ?_
    refine J_icmp_eq 85 dX11_fill_76 rfl (by omega) (by omega) (fun c76 => ?_) (fun c76 => ?_)
    · refine L_a0 dX11_fill_85 ?_
      refine GW_36_31 fX11_65 dX11_fill_86 ?_
      refine L_i4 dX11_fill_89 ?_
      refine AR_51 dX11_fill_91 (by omega) ?_
      refine J_eqi (b := (g : Int)) (by rw [show q = ixo k.toNat (mem sm) by omega, (hF.2.2.2.2.2.1 _ hx).2 hne, hg]) ?_
      refine C_s1F vX11_395 dX11_fill_92 (qX11_lowest (b := (b : Int)) (by omega) (by omega) ((bt_has (by omega)).mpr (by show g.testBit _ = true; rw [Int.toNat_natCast]; exact hgb))) (Nat.le_of_ble_eq_true rfl) (by decide) ?_
      exact RQ_i rfl dX11_fill_95 ⟨rfl, T2, rfl, hF.1⟩
    · exfalso; apply c76; rw [show q = ixo k.toNat (mem sm) by omega, hx1]; omega
  | succ m ih =>
    intro i him hi0
    have hl8 := mem_len8 sm
    obtain ⟨q, rfl⟩ : ∃ q : Nat, i = q := ⟨i.toNat, by omega⟩
    have h47 := hF.2.2.2.1 q (by omega)
    have hmk : (mem sm).getD q 0 < 8 := memN_lt (s := sm) 8 _ (getD_mem (d := 0) (show q < (mem sm).length by omega))
    refine L_a0 dX11_fill_68 ?_
    refine GW_36_27 fX11_53 dX11_fill_69 ?_
    refine L_i4 dX11_fill_72 ?_
    refine AR_47 dX11_fill_74 (by omega) ?_
    refine J_eqi (b := (((mem sm).getD q 0 : Nat) : Int)) h47 ?_
    refine L_i3 dX11_fill_75 ?_
    refine J_icmp_eq 85 dX11_fill_76 rfl (by omega) (by omega) (fun c76 => ?_) (fun c76 => ?_)
    · exfalso; exact hx2 q (by omega) (by omega)
    · refine JI_4 dX11_fill_79 (by decide) rfl ?_
      refine E_goto 68 dX11_fill_82 rfl ?_
      exact ih _ (by omega) (by omega)

set_option maxRecDepth 100000 in
theorem qX11_fill {S T : Nat → Int → Int} {D : List mx_C} (hi : MI T) {s : Int} (h_s : -2147483648 ≤ s ∧ s < 2147483648) {n : Int} (h_n : -2147483648 ≤ n ∧ n < 2147483648) : SpI yX11_fill cX11_fill 5 (some .int) 12 [.ref 36, .int (jI s), .int (jI n)] (W5 S T D) (fun v hp' => v = (if ((0 ≤ s ∧ s ≤ 255) ∧ (0 ≤ wr1 n ∧ wr1 n ≤ 7) ∧ (md_stands (T 37) (wr1 n) ∨ s / 2 ^ (wr1 n).toNat % 2 = 1)) ∧ ¬ md_wy (T 37) (T 39) s = [] then md_fil (T 37) (T 39) s (wr1 n) else -1) ∧ ∃ T', hp' = W5 S T' D ∧ SF T T') := by
  have hv := hi.1
  have hl := hi.2.1
  have ha := hv.2
  have hw1 := wr1_B h_n
  refine Sp.of [.ref 36, .int (jI s), .int (jI n), .retAddr 0, .retAddr 0] (by decide) (by simp) (Nat.le_of_ble_eq_true rfl) rfl (fun E => ?_)
  refine L_i2 dX11_fill_0 ?_
  refine J_iconst dX11_fill_1 ?_
  refine J_isub dX11_fill_2 ?_
  refine J_wr1 ?_
  refine S_i3 dX11_fill_3 (by decide) rfl ?_
  refine L_i1 dX11_fill_4 ?_
  refine C_s1F vX11_411 dX11_fill_5 (qX11_isSet (by omega)) (Nat.le_of_ble_eq_true rfl) (by decide) ?_
  refine J_ifeqB 45 dX11_fill_8 rfl (fun c8 => ?_) (fun c8 => ?_)
  · refine J_iconst dX11_fill_45 ?_
    exact RQ_i rfl dX11_fill_46 (by first | exact ⟨by rw [if_neg (fun h => h.2 (hB.2.2.mp (by assumption)))], T2, rfl, hF.1⟩ | exact ⟨by rw [if_neg (fun h => by have := h.1; omega)], T, rfl, SF.refl T⟩ | exact ⟨by rw [if_neg (fun h => absurd h.1.1 (by assumption))], T, rfl, SF.refl T⟩ | exact ⟨by rw [if_neg (fun h => absurd h.1.2.1 (by assumption))], T, rfl, SF.refl T⟩ | exact ⟨by rw [if_neg (fun h => by rcases h.1.2.2 with h | h <;> contradiction)], T, rfl, SF.refl T⟩)
  · refine L_i3 dX11_fill_11 ?_
    refine C_s1F vX11_87 dX11_fill_12 (qX11_isNumber (by omega)) (Nat.le_of_ble_eq_true rfl) (by decide) ?_
    refine J_ifeqB 45 dX11_fill_15 rfl (fun c15 => ?_) (fun c15 => ?_)
    · refine J_iconst dX11_fill_45 ?_
      exact RQ_i rfl dX11_fill_46 (by first | exact ⟨by rw [if_neg (fun h => h.2 (hB.2.2.mp (by assumption)))], T2, rfl, hF.1⟩ | exact ⟨by rw [if_neg (fun h => by have := h.1; omega)], T, rfl, SF.refl T⟩ | exact ⟨by rw [if_neg (fun h => absurd h.1.1 (by assumption))], T, rfl, SF.refl T⟩ | exact ⟨by rw [if_neg (fun h => absurd h.1.2.1 (by assumption))], T, rfl, SF.refl T⟩ | exact ⟨by rw [if_neg (fun h => by rcases h.1.2.2 with h | h <;> contradiction)], T, rfl, SF.refl T⟩)
    · refine L_a0 dX11_fill_18 ?_
      refine L_i3 dX11_fill_19 ?_
      refine C_v1F vX11_91 dX11_fill_20 (qX11_standsV (by assumption) (by omega)) rfl rfl (Nat.le_of_ble_eq_true rfl) (by decide) ?_
      refine J_ifneB 34 dX11_fill_23 rfl (fun c23 => ?_) (fun c23 => ?_)
      · refine L_a0 dX11_fill_34 ?_
        refine L_i1 dX11_fill_35 ?_
        refine J_iconst dX11_fill_36 ?_
        refine C_v2L vX11_454 dX11_fill_37 (qX11_waysOf hi (by omega) (by decide)) rfl rfl (Nat.le_of_ble_eq_true rfl) (by decide) (fun v37 hp37 hq37 => ?_)
        have hB := hq37.B (opL_PB (by omega) (by omega))
        obtain ⟨h1, T2, rfl, hF⟩ := hq37
        have e37 := hF.1.1 37 (by decide)
        have hv2 : MV (T2 37) := by rw [e37]; exact hv
        refine J_lconst 0 dX11_fill_40 (by decide) ?_
        refine JL_ne 47 dX11_fill_41 dX11_fill_42 rfl (by omega) (by omega) (fun c42 => ?_) (fun c42 => ?_)
        · refine L_a0 dX11_fill_47 ?_
          refine L_i3 dX11_fill_48 ?_
          refine C_v1F vX11_91 dX11_fill_49 (qX11_standsV (by assumption) (by omega)) rfl rfl (Nat.le_of_ble_eq_true rfl) (by decide) ?_
          refine J_ifeqB 65 dX11_fill_52 rfl (fun c52 => ?_) (fun c52 => ?_)
          · refine J_iconst dX11_fill_65 ?_
            refine S_i4 dX11_fill_66 (by decide) rfl ?_
            exact absurd (by rw [e37]; exact c23 : md_stands (T2 37) (wr1 n)) c52
          · refine L_a0 dX11_fill_55 ?_
            refine GW_36_0 fX11_7 dX11_fill_56 ?_
            refine J_bipush dX11_fill_59 (by decide) ?_
            refine L_i3 dX11_fill_61 ?_
            refine J_iadd dX11_fill_62 ?_
            refine AB_37 dX11_fill_63 (by omega) (by rw [e37]; exact hv.1) (fun b63 => ?_)
            exact RQ_i rfl dX11_fill_64 ⟨by rw [if_pos ⟨⟨by assumption, by assumption, by first | exact Or.inl (by assumption) | exact Or.inr (by assumption)⟩, fun h => absurd (hB.2.2.mpr h) (by assumption)⟩]; unfold md_fil; rw [if_pos (by rw [← e37]; assumption), e37], T2, rfl, hF.1⟩
        · refine J_iconst dX11_fill_45 ?_
          exact RQ_i rfl dX11_fill_46 (by first | exact ⟨by rw [if_neg (fun h => h.2 (hB.2.2.mp (by assumption)))], T2, rfl, hF.1⟩ | exact ⟨by rw [if_neg (fun h => by have := h.1; omega)], T, rfl, SF.refl T⟩ | exact ⟨by rw [if_neg (fun h => absurd h.1.1 (by assumption))], T, rfl, SF.refl T⟩ | exact ⟨by rw [if_neg (fun h => absurd h.1.2.1 (by assumption))], T, rfl, SF.refl T⟩ | exact ⟨by rw [if_neg (fun h => by rcases h.1.2.2 with h | h <;> contradiction)], T, rfl, SF.refl T⟩)
      · refine L_i1 dX11_fill_26 ?_
        refine L_i3 dX11_fill_27 ?_
        refine C_s2F vX11_251 dX11_fill_28 (qX11_has (by omega) (by omega)) (Nat.le_of_ble_eq_true rfl) (by decide) ?_
        refine J_ifeqB 45 dX11_fill_31 rfl (fun c31 => ?_) (fun c31 => ?_)
        · refine J_iconst dX11_fill_45 ?_
          exact RQ_i rfl dX11_fill_46 (by first | exact ⟨by rw [if_neg (fun h => h.2 (hB.2.2.mp (by assumption)))], T2, rfl, hF.1⟩ | exact ⟨by rw [if_neg (fun h => by have := h.1; omega)], T, rfl, SF.refl T⟩ | exact ⟨by rw [if_neg (fun h => absurd h.1.1 (by assumption))], T, rfl, SF.refl T⟩ | exact ⟨by rw [if_neg (fun h => absurd h.1.2.1 (by assumption))], T, rfl, SF.refl T⟩ | exact ⟨by rw [if_neg (fun h => by rcases h.1.2.2 with h | h <;> contradiction)], T, rfl, SF.refl T⟩)
        · refine L_a0 dX11_fill_34 ?_
          refine L_i1 dX11_fill_35 ?_
          refine J_iconst dX11_fill_36 ?_
          refine C_v2L vX11_454 dX11_fill_37 (qX11_waysOf hi (by omega) (by decide)) rfl rfl (Nat.le_of_ble_eq_true rfl) (by decide) (fun v37 hp37 hq37 => ?_)
          have hB := hq37.B (opL_PB (by omega) (by omega))
          obtain ⟨h1, T2, rfl, hF⟩ := hq37
          have e37 := hF.1.1 37 (by decide)
          have hv2 : MV (T2 37) := by rw [e37]; exact hv
          refine J_lconst 0 dX11_fill_40 (by decide) ?_
          refine JL_ne 47 dX11_fill_41 dX11_fill_42 rfl (by omega) (by omega) (fun c42 => ?_) (fun c42 => ?_)
          · refine L_a0 dX11_fill_47 ?_
            refine L_i3 dX11_fill_48 ?_
            refine C_v1F vX11_91 dX11_fill_49 (qX11_standsV (by assumption) (by omega)) rfl rfl (Nat.le_of_ble_eq_true rfl) (by decide) ?_
            refine J_ifeqB 65 dX11_fill_52 rfl (fun c52 => ?_) (fun c52 => ?_)
            · refine J_iconst dX11_fill_65 ?_
              refine S_i4 dX11_fill_66 (by decide) rfl ?_
              rw [if_pos ⟨⟨by assumption, by assumption, Or.inr (by assumption)⟩, fun h => absurd (hB.2.2.mpr h) (by assumption)⟩]
              have hnst : ¬ md_stands (T 37) (wr1 n) := by rw [← e37]; assumption
              unfold md_fil
              rw [if_neg hnst]
              have hwn : ¬ md_wy (T 37) (T 39) s = [] := fun h => absurd (hB.2.2.mpr h) (by assumption)
              have hin := mem_of_bit (s := bdf s (md_standing (T 37))) (k := wr1 n) (by assumption) (bt_bdf.mpr ⟨(bt_has (by omega)).mp (by assumption), fun h => hnst (by have := (bt_standing (a := T 37) (i := (wr1 n).toNat) (by omega)).mp h; rw [show (((wr1 n).toNat : Nat) : Int) = wr1 n by omega] at this; exact this)⟩)
              have hxs := ixo_spec hin
              rw [if_neg (by decide)] at hF
              have hhd : (md_wy (T 37) (T 39) s).headD [] ∈ md_wy (T 37) (T 39) s := by
                cases hw : md_wy (T 37) (T 39) s with
                | nil => exact absurd hw hwn
                | cons x l => exact List.mem_cons_self
              have hte : ((md_wy (T 37) (T 39) s).take 1).headD [] = (md_wy (T 37) (T 39) s).headD [] := by
                cases hw : md_wy (T 37) (T 39) s with
                | nil => rfl
                | cons x l => rfl
              have htn : (md_wy (T 37) (T 39) s).take 1 ≠ [] := by
                cases hw : md_wy (T 37) (T 39) s with
                | nil => exact absurd hw hwn
                | cons x l => exact fun h => by cases h
              have hPB := opL_PB (a := T 37) (c := T 39) (s := (bdf s (md_standing (T 37))).toNat) (pl := (T 37 7).toNat) (e := 2) (by omega) (by omega)
              have hol := opL_len (T 37) (T 39) (bdf s (md_standing (T 37))).toNat (T 37 7).toNat 2
              have hwm := (wy_mem _ _ _ hhd).2 (ixo (wr1 n).toNat (mem (bdf s (md_standing (T 37))).toNat)) (by omega)
              have hg6 := (hPB.2 _ (by omega)).2 _ hwm
              have hop := hwm
              unfold opL at hop
              rw [getD_map _ (d := 0) hxs.1] at hop
              unfold opl at hop
              rw [List.mem_map] at hop
              obtain ⟨b, hb1, hb2⟩ := hop
              rw [List.mem_range] at hb1
              exact lX11_fill hF (by assumption) hxs.1 hxs.2.1 hxs.2.2 htn (by rw [hte]) hg6 (b := b) (by omega) (by rw [← hb2]; exact opm_bit _ _ _) (ixo (wr1 n).toNat (mem (bdf s (md_standing (T 37))).toNat)) 0 (by omega) (by omega)
            · refine L_a0 dX11_fill_55 ?_
              refine GW_36_0 fX11_7 dX11_fill_56 ?_
              refine J_bipush dX11_fill_59 (by decide) ?_
              refine L_i3 dX11_fill_61 ?_
              refine J_iadd dX11_fill_62 ?_
              refine AB_37 dX11_fill_63 (by omega) (by rw [e37]; exact hv.1) (fun b63 => ?_)
              exact RQ_i rfl dX11_fill_64 ⟨by rw [if_pos ⟨⟨by assumption, by assumption, by first | exact Or.inl (by assumption) | exact Or.inr (by assumption)⟩, fun h => absurd (hB.2.2.mpr h) (by assumption)⟩]; unfold md_fil; rw [if_pos (by rw [← e37]; assumption), e37], T2, rfl, hF.1⟩
          · refine J_iconst dX11_fill_45 ?_
            exact RQ_i rfl dX11_fill_46 (by first | exact ⟨by rw [if_neg (fun h => h.2 (hB.2.2.mp (by assumption)))], T2, rfl, hF.1⟩ | exact ⟨by rw [if_neg (fun h => by have := h.1; omega)], T, rfl, SF.refl T⟩ | exact ⟨by rw [if_neg (fun h => absurd h.1.1 (by assumption))], T, rfl, SF.refl T⟩ | exact ⟨by rw [if_neg (fun h => absurd h.1.2.1 (by assumption))], T, rfl, SF.refl T⟩ | exact ⟨by rw [if_neg (fun h => by rcases h.1.2.2 with h | h <;> contradiction)], T, rfl, SF.refl T⟩)

/-- rounds: how many first places, the options of a number -/
def rcn (st pl : Nat) : Nat := if st = 0 then 0 else if 2 * st = pl then pl / 2 else pl
def rom (st pl p : Nat) : Nat := 2 ^ p ||| 2 ^ ((p + st) % pl)
def rol (st pl : Nat) : List Nat := (List.range (rcn st pl)).map (rom st pl)
def rouL (a c : Int → Int) (s : Nat) : List (List Nat) := (mem s).map (fun k => rol (md_st a c k % (2 * (mem s).length)) (2 * (mem s).length))
theorem rouL_len (a c : Int → Int) (s : Nat) : (rouL a c s).length = (mem s).length := by unfold rouL; rw [List.length_map]
theorem rcn_le (st pl : Nat) : rcn st pl ≤ pl := by unfold rcn; split; omega; split <;> omega
theorem rol_len (st pl : Nat) : (rol st pl).length = rcn st pl := by unfold rol; rw [List.length_map, List.length_range]
theorem rol_at {st pl o : Nat} (h : o < rcn st pl) : (rol st pl).getD o 0 = rom st pl o := by
  unfold rol
  rw [getD_map (rom st pl) (d := 0) (by rw [List.length_range]; exact h), List.getD_eq_getElem?_getD, List.getElem?_range h]
  rfl
theorem rouL_PB (a c : Int → Int) (s : Nat) : PB (rouL a c s) := by
  have hl := mem_len8 s
  refine ⟨by rw [rouL_len]; exact hl, fun i hi => ?_⟩
  rw [rouL_len] at hi
  unfold rouL
  rw [getD_map _ (d := 0) hi]
  have hr := rcn_le (md_st a c ((mem s).getD i 0) % (2 * (mem s).length)) (2 * (mem s).length)
  refine ⟨by rw [rol_len]; omega, fun m hm => ?_⟩
  unfold rol at hm
  rw [List.mem_map] at hm
  obtain ⟨p, hp2, rfl⟩ := hm
  rw [List.mem_range] at hp2
  have h1 := Nat.mod_lt (p + md_st a c ((mem s).getD i 0) % (2 * (mem s).length)) (show 2 * (mem s).length > 0 by omega)
  exact or_lt (n := 16) (Nat.pow_lt_pow_right (by decide) (by omega)) (Nat.pow_lt_pow_right (by decide) (by omega))
theorem rom_I (st pl p : Nat) : bor (bsh (p : Int)) (bsh (((p : Int) + (st : Int)) % (pl : Int))) = ((rom st pl p : Nat) : Int) := by
  rw [← Int.natCast_add, ← Int.natCast_emod, bsh_nat, bsh_nat, bor_nat]
  rfl
/-- as LO, of any options -/
def LG (T0 T : Nat → Int → Int) (s : Nat) (L : List (List Nat)) (n : Nat) : Prop := (∀ k : Int, 0 ≤ k ∧ k < 8 → T 46 k = md_btw (T0 37) (T0 39) (T0 37 1) k + 1) ∧ T 36 32 = ((mem s).length : Int) ∧ (∀ i : Nat, i < (mem s).length → T 47 i = (((mem s).getD i 0 : Nat) : Int)) ∧ (∀ j, ¬ j = 32 → T 36 j = T0 36 j) ∧ Fr [36, 42, 43, 44, 46, 47, 48, 49] T0 T ∧ PO T L n
theorem LG.up {T0 T T' : Nat → Int → Int} {s n n' : Nat} {L : List (List Nat)} (h : LG T0 T s L n) (f : Fr [48, 49] T T') (hp : PO T' L n') : LG T0 T' s L n' := by
  refine ⟨?_, ?_, ?_, ?_, h.2.2.2.2.1.trans (f.mono (by decide)), hp⟩
  · rw [f 46 (by decide)]; exact h.1
  · rw [f 36 (by decide)]; exact h.2.1
  · rw [f 47 (by decide)]; exact h.2.2.1
  · rw [f 36 (by decide)]; exact h.2.2.2.1
theorem LG.sf {T T1 : Nat → Int → Int} {s n : Nat} {L : List (List Nat)} (h : LG T T1 s L n) : SF T T1 := ⟨h.2.2.2.2.1.mono (by decide), fun j a _ => h.2.2.2.1 j a⟩
theorem FS.sf {T T1 : Nat → Int → Int} {L ws : List (List Nat)} {tr pre : List Nat} (h : FS T T1 L tr pre ws) : SF T T1 := ⟨h.1.mono (by decide), fun j _ b => h.2.1 j b⟩
set_option maxRecDepth 100000 in
theorem lX11_rounds1 {E : mx_E} {S T : Nat → Int → Int} {D : List mx_C} (hi : MI T) {s : Int} (h_s : 0 ≤ s ∧ s ≤ 255) {i st : Nat} (hin : i < (mem s.toNat).length) (hsB : st ≤ 15) (hst : md_st (T 37) (T 39) ((mem s.toNat).getD i 0) % (2 * (mem s.toNat).length) = st) (hk : ∀ (T2 : Nat → Int → Int) (p : Int), LG T T2 s.toNat (rouL (T 37) (T 39) s.toNat) (i + 1) → Ev E yX11_rounds cX11_rounds 6 (some .long) (kL E 11 (fun v hp' => v = ((wy (rouL (T 37) (T 39) s.toNat) 0).length : Int) ∧ ∃ T', hp' = W5 S T' D ∧ SF T T')) 0 0 125 [.ref 36, .int (jI s), .int (jI ((2 * (mem s.toNat).length : Nat) : Int)), .int (jI (i : Int)), .int (jI (st : Int)), .int (jI p)] [] (W5 S T2 D)) : ∀ (m : Nat) (p : Int) (T1 : Nat → Int → Int), p + m = (rcn st (2 * (mem s.toNat).length) : Int) → 0 ≤ p → LG T T1 s.toNat (rouL (T 37) (T 39) s.toNat) i → T1 49 i = (rcn st (2 * (mem s.toNat).length) : Int) → (∀ o : Nat, (o : Int) < p → T1 48 (16 * (i : Int) + (o : Int)) = ((rom st (2 * (mem s.toNat).length) o : Nat) : Int)) → Ev E yX11_rounds cX11_rounds 6 (some .long) (kL E 11 (fun v hp' => v = ((wy (rouL (T 37) (T 39) s.toNat) 0).length : Int) ∧ ∃ T', hp' = W5 S T' D ∧ SF T T')) 0 0 82 [.ref 36, .int (jI s), .int (jI ((2 * (mem s.toNat).length : Nat) : Int)), .int (jI (i : Int)), .int (jI (st : Int)), .int (jI p)] [] (W5 S T1 D) := by
  intro m
  induction m with
  | zero =>
    intro p T1 hp hp0 hL h49 h48
    have hl8 := mem_len8 s.toNat
    have hrc := rcn_le st (2 * (mem s.toNat).length)
    have hg : (rouL (T 37) (T 39) s.toNat).getD i [] = rol st (2 * (mem s.toNat).length) := by
      unfold rouL
      rw [getD_map _ (d := 0) hin, hst]
    refine L_i5 dX11_rounds_82 ?_
    refine L_a0 dX11_rounds_84 ?_
    refine GW_36_29 fX11_59 dX11_rounds_85 ?_
    refine L_i3 dX11_rounds_88 ?_
    refine AR_49 dX11_rounds_89 (by omega) ?_
    refine J_eqi (b := (rcn st (2 * (mem s.toNat).length) : Int)) h49 ?_
    refine J_icmp_ge 125 dX11_rounds_90 rfl (by omega) (by omega) (fun c90 => ?_) (fun c90 => ?_)
    · refine hk T1 _ (hL.up (Fr.refl _ _) (fun j hj => ?_))
      by_cases h : j = i
      · subst h
        rw [hg]
        refine ⟨by rw [rol_len, h49], fun o ho => ?_⟩
        rw [rol_len] at ho
        rw [rol_at ho]
        exact h48 o (by omega)
      · exact hL.2.2.2.2.2 j (by omega)
    · exfalso; omega
  | succ m ih =>
    intro p T1 hp hp0 hL h49 h48
    have hPB := rouL_PB (T 37) (T 39) s.toNat
    have hl8 := mem_len8 s.toNat
    have hrc := rcn_le st (2 * (mem s.toNat).length)
    have hg : (rouL (T 37) (T 39) s.toNat).getD i [] = rol st (2 * (mem s.toNat).length) := by
      unfold rouL
      rw [getD_map _ (d := 0) hin, hst]
    have hmo0 := Int.emod_nonneg (p + (st : Int)) (show ((2 * (mem s.toNat).length : Nat) : Int) ≠ 0 by omega)
    have hmo1 := Int.emod_lt_of_pos (p + (st : Int)) (show (0 : Int) < ((2 * (mem s.toNat).length : Nat) : Int) by omega)
    refine L_i5 dX11_rounds_82 ?_
    refine L_a0 dX11_rounds_84 ?_
    refine GW_36_29 fX11_59 dX11_rounds_85 ?_
    refine L_i3 dX11_rounds_88 ?_
    refine AR_49 dX11_rounds_89 (by omega) ?_
    refine J_eqi (b := (rcn st (2 * (mem s.toNat).length) : Int)) h49 ?_
    refine J_icmp_ge 125 dX11_rounds_90 rfl (by omega) (by omega) (fun c90 => ?_) (fun c90 => ?_)
    · exfalso; omega
    · refine L_a0 dX11_rounds_93 ?_
      refine GW_36_28 fX11_56 dX11_rounds_94 ?_
      refine J_bipush dX11_rounds_97 (by decide) ?_
      refine L_i3 dX11_rounds_99 ?_
      refine J_imul dX11_rounds_100 ?_
      refine L_i5 dX11_rounds_101 ?_
      refine J_iadd dX11_rounds_103 ?_
      refine J_iconst dX11_rounds_104 ?_
      refine L_i5 dX11_rounds_105 ?_
      refine J_1shl dX11_rounds_107 (by omega) ?_
      refine J_iconst dX11_rounds_108 ?_
      refine L_i5 dX11_rounds_109 ?_
      refine L_i4 dX11_rounds_111 ?_
      refine J_iadd dX11_rounds_113 ?_
      refine L_i2 dX11_rounds_114 ?_
      refine J_iremN dX11_rounds_115 (by omega) (by omega) ?_
      refine J_1shl dX11_rounds_116 (by omega) ?_
      refine J_iorG dX11_rounds_117 (bsh_nn _) (bsh_nn _) ?_
      refine AS_48 dX11_rounds_118 (by omega) ?_
      refine JI_5 dX11_rounds_119 (by decide) rfl ?_
      refine E_goto 82 dX11_rounds_122 rfl ?_
      refine ih (p + 1) _ (by omega) (by omega) (hL.up (Fr_up _ _ (by decide)) ?_) ?_ ?_
      · intro j hj
        have h1 := hL.2.2.2.2.2 j hj
        have h2 := (hPB.2 j (by rw [rouL_len]; omega)).1
        rw [upS_s, upS_n (by decide)]
        refine ⟨h1.1, fun o ho => ?_⟩
        rw [up_n (by omega)]
        exact h1.2 o ho
      · rw [upS_n (by decide)]; exact h49
      · intro o ho
        rw [upS_s]
        by_cases h : (o : Int) = p
        · rw [h, up_s]
          have := rom_I st (2 * (mem s.toNat).length) o
          rw [h] at this
          exact this
        · rw [up_n (by omega)]; exact h48 o (by omega)

set_option maxRecDepth 100000 in
theorem lX11_rounds {E : mx_E} {S T : Nat → Int → Int} {D : List mx_C} (hi : MI T) {s : Int} (h_s : 0 ≤ s ∧ s ≤ 255) : ∀ (m : Nat) (i : Int) (T1 : Nat → Int → Int) (u5 u6 : Value), u5.category = 1 → u6.category = 1 → i + m = (mem s.toNat).length → 0 ≤ i → LG T T1 s.toNat (rouL (T 37) (T 39) s.toNat) i.toNat → Ev E yX11_rounds cX11_rounds 6 (some .long) (kL E 11 (fun v hp' => v = ((wy (rouL (T 37) (T 39) s.toNat) 0).length : Int) ∧ ∃ T', hp' = W5 S T' D ∧ SF T T')) 0 0 25 [.ref 36, .int (jI s), .int (jI ((2 * (mem s.toNat).length : Nat) : Int)), .int (jI i), u5, u6] [] (W5 S T1 D) := by
  intro m
  induction m with
  | zero =>
    intro i T1 u5 u6 hu5 hu6 him hi0 hL
    have hl8 := mem_len8 s.toNat
    have hal : (1 : Int) = 0 ∨ (1 : Int) = 1 := Or.inr rfl
    have hPO : PO T1 (rouL (T 37) (T 39) s.toNat) (rouL (T 37) (T 39) s.toNat).length := by rw [rouL_len]; rw [show i.toNat = (mem s.toNat).length by omega] at hL; exact hL.2.2.2.2.2
    have hmm : T1 36 32 = ((rouL (T 37) (T 39) s.toNat).length : Int) := by rw [rouL_len]; exact hL.2.1
    refine L_i3 dX11_rounds_25 ?_
    refine L_a0 dX11_rounds_26 ?_
    refine GW_36_32 fX11_398 dX11_rounds_27 ?_
    refine J_eqi (b := ((mem s.toNat).length : Int)) hL.2.1 ?_
    refine J_icmp_ge 131 dX11_rounds_30 rfl (by omega) (by omega) (fun c30 => ?_) (fun c30 => ?_)
    · refine L_a0 dX11_rounds_131 ?_
      refine J_iconst dX11_rounds_132 ?_
      refine J_eqi (b := ((0 : Nat) : Int)) rfl ?_
      refine J_iconst dX11_rounds_133 ?_
      refine C_v2L vX11_420 dX11_rounds_134 (qX11_fitted (T := T1) (u := 0) (rouL_PB (T 37) (T 39) s.toNat) hPO hmm (by decide) hal) rfl rfl (Nat.le_of_ble_eq_true rfl) (by decide) (fun v134 hp134 hq134 => ?_)
      exact RQ_l rfl dX11_rounds_137 (by obtain ⟨h1, T2, e2, hF⟩ := hq134; exact ⟨by rw [h1, if_pos rfl], T2, e2, hL.sf.trans hF.sf⟩)
    · exfalso; omega
  | succ m ih =>
    intro i T1 u5 u6 hu5 hu6 him hi0 hL
    have hl8 := mem_len8 s.toNat
    obtain ⟨n, rfl⟩ : ∃ n : Nat, i = n := ⟨i.toNat, by omega⟩
    rw [Int.toNat_natCast] at hL
    have hin : n < (mem s.toNat).length := by omega
    have hmk : (mem s.toNat).getD n 0 < 8 := memN_lt (s := s.toNat) 8 _ (getD_mem (d := 0) hin)
    have h47 := hL.2.2.1 n hin
    have hsb := md_st_B (a := T 37) (c := T 39) hmk
    have h46 := hL.1 ((mem s.toNat).getD n 0 : Nat) (by omega)
    rw [md_st_I hmk] at h46
    have h32 := hL.2.1
    have hml := Nat.mod_le (md_st (T 37) (T 39) ((mem s.toNat).getD n 0)) (2 * (mem s.toNat).length)
    refine L_i3 dX11_rounds_25 ?_
    refine L_a0 dX11_rounds_26 ?_
    refine GW_36_32 fX11_398 dX11_rounds_27 ?_
    refine J_eqi (b := ((mem s.toNat).length : Int)) h32 ?_
    refine J_icmp_ge 131 dX11_rounds_30 rfl (by omega) (by omega) (fun c30 => ?_) (fun c30 => ?_)
    · exfalso; omega
    · refine L_a0 dX11_rounds_33 ?_
      refine GW_36_26 fX11_50 dX11_rounds_34 ?_
      refine L_a0 dX11_rounds_37 ?_
      refine GW_36_27 fX11_53 dX11_rounds_38 ?_
      refine L_i3 dX11_rounds_41 ?_
      refine AR_47 dX11_rounds_42 (by omega) ?_
      refine J_eqi (b := (((mem s.toNat).getD n 0 : Nat) : Int)) h47 ?_
      refine AR_46 dX11_rounds_43 (by omega) ?_
      refine J_eqi (b := ((md_st (T 37) (T 39) ((mem s.toNat).getD n 0) : Nat) : Int)) h46 ?_
      refine L_i2 dX11_rounds_44 ?_
      refine J_iremN dX11_rounds_45 (by omega) (by omega) ?_
      refine J_eqi (b := ((md_st (T 37) (T 39) ((mem s.toNat).getD n 0) % (2 * (mem s.toNat).length) : Nat) : Int)) (Int.natCast_emod _ _).symm ?_
      refine S_i4 dX11_rounds_46 (by decide) rfl ?_
      refine L_a0 dX11_rounds_48 ?_
      refine GW_36_29 fX11_59 dX11_rounds_49 ?_
      refine L_i3 dX11_rounds_52 ?_
      refine L_i4 dX11_rounds_53 ?_
      refine J_if_ne 62 dX11_rounds_55 rfl (by omega) (fun c55 => ?_) (fun c55 => ?_)
      · refine J_iconst dX11_rounds_62 ?_
        refine L_i4 dX11_rounds_63 ?_
        refine J_imul dX11_rounds_65 ?_
        refine L_i2 dX11_rounds_66 ?_
        refine J_icmp_ne 77 dX11_rounds_67 rfl (by omega) (by omega) (fun c67 => ?_) (fun c67 => ?_)
        · refine L_i2 dX11_rounds_77 ?_
          refine J_eqi (b := ((rcn (md_st (T 37) (T 39) ((mem s.toNat).getD n 0) % (2 * (mem s.toNat).length)) (2 * (mem s.toNat).length) : Nat) : Int)) (by unfold rcn; first | (rw [if_pos (by omega)] <;> omega) | (rw [if_neg (by omega), if_pos (by omega)] <;> omega) | (rw [if_neg (by omega), if_neg (by omega)] <;> omega)) ?_
          refine AS_49 dX11_rounds_78 (by omega) ?_
          refine J_iconst dX11_rounds_79 ?_
          refine S_i5 dX11_rounds_80 (by decide) rfl ?_
          exact lX11_rounds1 hi h_s (i := n) (st := md_st (T 37) (T 39) ((mem s.toNat).getD n 0) % (2 * (mem s.toNat).length)) hin (by omega) rfl (fun T2 p hL2 => by
            refine JI_3 dX11_rounds_125 (by decide) rfl ?_
            refine E_goto 25 dX11_rounds_128 rfl ?_
            exact ih ((n : Int) + 1) T2 _ _ rfl rfl (by omega) (by omega) (by rw [show ((n : Int) + 1).toNat = n + 1 by omega]; exact hL2)) (rcn (md_st (T 37) (T 39) ((mem s.toNat).getD n 0) % (2 * (mem s.toNat).length)) (2 * (mem s.toNat).length)) 0 _ (by omega) (by omega) (hL.up (Fr_up _ _ (by decide)) (fun j hj => by
              rw [upS_s, upS_n (by decide), up_n (by omega)]
              exact hL.2.2.2.2.2 j hj)) (by rw [upS_s, up_s]) (fun o ho => by omega)
        · refine L_a0 dX11_rounds_70 ?_
          refine GW_36_32 fX11_398 dX11_rounds_71 ?_
          refine J_eqi (b := ((mem s.toNat).length : Int)) h32 ?_
          refine E_goto 78 dX11_rounds_74 rfl ?_
          refine J_eqi (b := ((rcn (md_st (T 37) (T 39) ((mem s.toNat).getD n 0) % (2 * (mem s.toNat).length)) (2 * (mem s.toNat).length) : Nat) : Int)) (by unfold rcn; first | (rw [if_pos (by omega)] <;> omega) | (rw [if_neg (by omega), if_pos (by omega)] <;> omega) | (rw [if_neg (by omega), if_neg (by omega)] <;> omega)) ?_
          refine AS_49 dX11_rounds_78 (by omega) ?_
          refine J_iconst dX11_rounds_79 ?_
          refine S_i5 dX11_rounds_80 (by decide) rfl ?_
          exact lX11_rounds1 hi h_s (i := n) (st := md_st (T 37) (T 39) ((mem s.toNat).getD n 0) % (2 * (mem s.toNat).length)) hin (by omega) rfl (fun T2 p hL2 => by
            refine JI_3 dX11_rounds_125 (by decide) rfl ?_
            refine E_goto 25 dX11_rounds_128 rfl ?_
            exact ih ((n : Int) + 1) T2 _ _ rfl rfl (by omega) (by omega) (by rw [show ((n : Int) + 1).toNat = n + 1 by omega]; exact hL2)) (rcn (md_st (T 37) (T 39) ((mem s.toNat).getD n 0) % (2 * (mem s.toNat).length)) (2 * (mem s.toNat).length)) 0 _ (by omega) (by omega) (hL.up (Fr_up _ _ (by decide)) (fun j hj => by
              rw [upS_s, upS_n (by decide), up_n (by omega)]
              exact hL.2.2.2.2.2 j hj)) (by rw [upS_s, up_s]) (fun o ho => by omega)
      · refine J_iconst dX11_rounds_58 ?_
        refine E_goto 78 dX11_rounds_59 rfl ?_
        refine J_eqi (b := ((rcn (md_st (T 37) (T 39) ((mem s.toNat).getD n 0) % (2 * (mem s.toNat).length)) (2 * (mem s.toNat).length) : Nat) : Int)) (by unfold rcn; first | (rw [if_pos (by omega)] <;> omega) | (rw [if_neg (by omega), if_pos (by omega)] <;> omega) | (rw [if_neg (by omega), if_neg (by omega)] <;> omega)) ?_
        refine AS_49 dX11_rounds_78 (by omega) ?_
        refine J_iconst dX11_rounds_79 ?_
        refine S_i5 dX11_rounds_80 (by decide) rfl ?_
        exact lX11_rounds1 hi h_s (i := n) (st := md_st (T 37) (T 39) ((mem s.toNat).getD n 0) % (2 * (mem s.toNat).length)) hin (by omega) rfl (fun T2 p hL2 => by
          refine JI_3 dX11_rounds_125 (by decide) rfl ?_
          refine E_goto 25 dX11_rounds_128 rfl ?_
          exact ih ((n : Int) + 1) T2 _ _ rfl rfl (by omega) (by omega) (by rw [show ((n : Int) + 1).toNat = n + 1 by omega]; exact hL2)) (rcn (md_st (T 37) (T 39) ((mem s.toNat).getD n 0) % (2 * (mem s.toNat).length)) (2 * (mem s.toNat).length)) 0 _ (by omega) (by omega) (hL.up (Fr_up _ _ (by decide)) (fun j hj => by
            rw [upS_s, upS_n (by decide), up_n (by omega)]
            exact hL.2.2.2.2.2 j hj)) (by rw [upS_s, up_s]) (fun o ho => by omega)

set_option maxRecDepth 100000 in
theorem qX11_rounds {S T : Nat → Int → Int} {D : List mx_C} (hi : MI T) {s : Int} (h_s : -2147483648 ≤ s ∧ s < 2147483648) : SpL yX11_rounds cX11_rounds 6 (some .long) 11 [.ref 36, .int (jI s)] (W5 S T D) (fun v hp' => v = (if 0 ≤ s ∧ s ≤ 255 then ((wy (rouL (T 37) (T 39) s.toNat) 0).length : Int) else -1) ∧ ∃ T', hp' = W5 S T' D ∧ SF T T') := by
  refine Sp.of [.ref 36, .int (jI s), .retAddr 0, .retAddr 0, .retAddr 0, .retAddr 0] (by decide) (by simp) (Nat.le_of_ble_eq_true rfl) rfl (fun E => ?_)
  refine L_i1 dX11_rounds_0 ?_
  refine C_s1F vX11_411 dX11_rounds_1 (qX11_isSet (by omega)) (Nat.le_of_ble_eq_true rfl) (by decide) ?_
  refine J_ifneB 11 dX11_rounds_4 rfl (fun c4 => ?_) (fun c4 => ?_)
  · refine L_a0 dX11_rounds_11 ?_
    refine L_i1 dX11_rounds_12 ?_
    refine C_v1U vX11_401 dX11_rounds_13 (qX11_layMembers hi c4) rfl rfl (Nat.le_of_ble_eq_true rfl) (by decide) (fun hp13 hq13 => ?_)
    obtain ⟨T13, rfl, hm⟩ := hq13
    refine J_iconst dX11_rounds_16 ?_
    refine L_a0 dX11_rounds_17 ?_
    refine GW_36_32 fX11_398 dX11_rounds_18 ?_
    refine J_eqi (b := ((mem s.toNat).length : Int)) hm.2.1 ?_
    refine J_imul dX11_rounds_21 ?_
    refine J_eqi (b := ((2 * (mem s.toNat).length : Nat) : Int)) (by omega) ?_
    refine S_i2 dX11_rounds_22 (by decide) rfl ?_
    refine J_iconst dX11_rounds_23 ?_
    refine S_i3 dX11_rounds_24 (by decide) rfl ?_
    rw [if_pos c4]
    exact lX11_rounds hi c4 (mem s.toNat).length 0 T13 _ _ rfl rfl (by omega) (by omega) ⟨fun k hk => hm.1 k (by omega), hm.2.1, hm.2.2.1, hm.2.2.2.1, hm.2.2.2.2.mono (by decide), fun j hj => absurd hj (Nat.not_lt_zero _)⟩
  · refine J_ldc2 (-1) dX11_rounds_7 kX11_431 (by decide) ?_
    exact RQ_l rfl dX11_rounds_10 ⟨by rw [if_neg c4], T, rfl, SF.refl T⟩

