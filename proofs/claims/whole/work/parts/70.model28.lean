/-! ===== the reference: rows counted ===== -/
set_option maxRecDepth 100000 in
theorem pc_memF : ∀ s : Fin 256, pcn 16 s.val = (mem s.val).length := by decide
theorem pc_mem {s : Int} (h : 0 ≤ s ∧ s ≤ 255) : pc s = ((mem s.toNat).length : Int) := by
  have := pc_memF ⟨s.toNat, by omega⟩
  unfold pc
  rw [this]
/-- what a search may change -/
abbrev LSc : List Nat := [36, 42, 43, 44, 46, 47, 48, 49, 50, 51, 52, 53]
def SF (T T' : Nat → Int → Int) : Prop := Fr LSc T T' ∧ ∀ j, ¬ j = 32 → ¬ j = 33 → T' 36 j = T 36 j
theorem SF.refl (T : Nat → Int → Int) : SF T T := ⟨Fr.refl _ _, fun _ _ _ => rfl⟩
theorem SF.trans {T T1 T2 : Nat → Int → Int} (h1 : SF T T1) (h2 : SF T1 T2) : SF T T2 := ⟨h1.1.trans h2.1, fun j a b => (h2.2 j a b).trans (h1.2 j a b)⟩
theorem SF.of {l : List Nat} {T T' : Nat → Int → Int} (f : Fr l T T') (h : ∀ i, i ∈ l → i ∈ LSc) (h36 : 36 ∉ l) : SF T T' := ⟨f.mono h, fun j _ _ => by rw [f 36 h36]⟩
theorem SF.mi {T T' : Nat → Int → Int} (h : SF T T') (hi : MI T) : MI T' := hi.congr (h.1 37 (by decide)) (h.1 39 (by decide))
/-- members and options laid, ways found -/
def FD (T T' : Nat → Int → Int) (s : Nat) (L ws : List (List Nat)) : Prop := SF T T' ∧ (∀ k : Int, 0 ≤ k ∧ k < 8 → T' 46 k = md_btw (T 37) (T 39) (T 37 1) k + 1) ∧ T' 36 32 = ((mem s).length : Int) ∧ (∀ i : Nat, i < (mem s).length → T' 47 i = (((mem s).getD i 0 : Nat) : Int)) ∧ (0 ≤ T' 36 33 ∧ T' 36 33 < 256) ∧ (∀ j : Nat, j < (mem s).length → KWj T' ws j) ∧ PO T' L L.length
theorem opL_len (a c : Int → Int) (s pl e : Nat) : (opL a c s pl e).length = (mem s).length := by unfold opL; rw [List.length_map]
theorem LO.fd {T T1 T' : Nat → Int → Int} {s pl e : Nat} {ws : List (List Nat)} (h : LO T T1 s pl e (mem s).length) (hF : FS T1 T' (opL (T 37) (T 39) s pl e) [] [] ws) : FD T T' s (opL (T 37) (T 39) s pl e) ws := by
  refine ⟨⟨(h.2.2.2.2.1.mono (by decide)).trans (hF.1.mono (by decide)), fun j a b => (hF.2.1 j b).trans (h.2.2.2.1 j a)⟩, ?_, ?_, ?_, hF.2.2.1, ?_, ?_⟩
  · rw [hF.1 46 (by decide)]; exact h.1
  · rw [hF.2.1 32 (by decide)]; exact h.2.1
  · rw [hF.1 47 (by decide)]; exact h.2.2.1
  · rw [← opL_len (T 37) (T 39) s pl e]; exact hF.2.2.2.2.2.1
  · rw [opL_len]; exact h.2.2.2.2.2.congr (hF.1 48 (by decide)) (hF.1 49 (by decide))
theorem LO.sf {T T1 : Nat → Int → Int} {s pl e n : Nat} (h : LO T T1 s pl e n) : SF T T1 := ⟨h.2.2.2.2.1.mono (by decide), fun j a _ => h.2.2.2.1 j a⟩
theorem LO.po {T T1 : Nat → Int → Int} {s pl e : Nat} (h : LO T T1 s pl e (mem s).length) : PO T1 (opL (T 37) (T 39) s pl e) (opL (T 37) (T 39) s pl e).length := by rw [opL_len]; exact h.2.2.2.2.2
theorem LO.mm {T T1 : Nat → Int → Int} {s pl e n : Nat} (h : LO T T1 s pl e n) : T1 36 32 = ((opL (T 37) (T 39) s pl e).length : Int) := by rw [opL_len]; exact h.2.1
/-- what a search answers: how many ways, or whether there is one; its state -/
def SQ (S T : Nat → Int → Int) (D : List mx_C) (s : Nat) (L : List (List Nat)) (al : Int) (tot : List (List Nat)) (v : Int) (hp' : List mx_C) : Prop := v = (if al = 1 then (tot.length : Int) else if tot = [] then 0 else 1) ∧ ∃ T', hp' = W5 S T' D ∧ FD T T' s L (if al = 1 then tot else tot.take 1)
theorem SQ.of {S T T1 : Nat → Int → Int} {D : List mx_C} {s pl e : Nat} {al : Int} {tot : List (List Nat)} {v : Int} {hp' : List mx_C} (h : LO T T1 s pl e (mem s).length) (hq : FQ S T1 D (opL (T 37) (T 39) s pl e) al tot v hp') : SQ S T D s (opL (T 37) (T 39) s pl e) al tot v hp' := by
  obtain ⟨h1, T', e2, hF⟩ := hq
  exact ⟨h1, T', e2, h.fd hF⟩
theorem SQ.B {S T : Nat → Int → Int} {D : List mx_C} {s : Nat} {L : List (List Nat)} {al : Int} {u : Nat} {v : Int} {hp' : List mx_C} (h : SQ S T D s L al (wy L u) v hp') (hb : PB L) : 0 ≤ v ∧ v ≤ 4294967296 ∧ (v = 0 ↔ wy L u = []) := by
  have hw := wy_B hb u
  have h1 := h.1
  by_cases ha : al = 1
  · rw [if_pos ha] at h1
    refine ⟨by omega, by omega, ?_⟩
    rw [h1]
    constructor
    · intro hh; exact List.eq_nil_of_length_eq_zero (by omega)
    · intro hh; rw [hh]; rfl
  · rw [if_neg ha] at h1
    by_cases hn : wy L u = []
    · rw [if_pos hn] at h1; exact ⟨by omega, by omega, by simp [h1, hn]⟩
    · rw [if_neg hn] at h1; exact ⟨by omega, by omega, by simp [h1, hn]⟩
abbrev isRow (s g : Int) : Prop := (0 ≤ s ∧ s ≤ 255) ∧ (0 ≤ g ∧ g ≤ 16) ∧ 2 * pc s + g ≤ 16
set_option maxRecDepth 100000 in
theorem qX11_isSet {hp : List mx_C} {s : Int} (h_s : -2147483648 ≤ s ∧ s < 2147483648) : SpF yX11_isSet cX11_isSet 1 (some .boolean) 1 [.int (jI s)] hp (.int (jI (jb (0 ≤ s ∧ s ≤ 255)))) hp := by
  refine Sp.of [.int (jI s)] (by decide) (by simp) (Nat.le_of_ble_eq_true rfl) rfl (fun E => ?_)
  refine L_i0 dX11_isSet_0 ?_
  refine J_iconst dX11_isSet_1 ?_
  refine J_sipush dX11_isSet_2 (by decide) ?_
  refine C_s3F vX11_83 dX11_isSet_5 (qX11_isIn (by omega) (by omega) (by omega)) (Nat.le_of_ble_eq_true rfl) (by decide) ?_
  exact R_z rfl dX11_isSet_8 (by unfold jb; split; exact Or.inr rfl; exact Or.inl rfl) rfl rfl

set_option maxRecDepth 100000 in
theorem qX11_longOf {hp : List mx_C} {s g : Int} (h_s : 0 ≤ s ∧ s ≤ 255) : SpF yX11_longOf cX11_longOf 2 (some .int) 1 [.int (jI s), .int (jI g)] hp (.int (jI (2 * pc s + g))) hp := by
  refine Sp.of [.int (jI s), .int (jI g)] (by decide) (by simp) (Nat.le_of_ble_eq_true rfl) rfl (fun E => ?_)
  refine J_iconst dX11_longOf_0 ?_
  refine L_i0 dX11_longOf_1 ?_
  refine C_s1F vX11_304 dX11_longOf_2 (qX11_bits (by omega)) (Nat.le_of_ble_eq_true rfl) (by decide) ?_
  refine J_imul dX11_longOf_5 ?_
  refine L_i1 dX11_longOf_6 ?_
  refine J_iadd dX11_longOf_7 ?_
  exact R_i rfl dX11_longOf_8 rfl rfl

set_option maxRecDepth 100000 in
theorem qX11_isRowOf {hp : List mx_C} {s : Int} (h_s : -2147483648 ≤ s ∧ s < 2147483648) {g : Int} (h_g : -2147483648 ≤ g ∧ g < 2147483648) : SpF yX11_isRowOf cX11_isRowOf 2 (some .boolean) 2 [.int (jI s), .int (jI g)] hp (.int (jI (jb (isRow s g)))) hp := by
  have hpb := pc_B s
  refine Sp.of [.int (jI s), .int (jI g)] (by decide) (by simp) (Nat.le_of_ble_eq_true rfl) rfl (fun E => ?_)
  refine L_i0 dX11_isRowOf_0 ?_
  refine C_s1F vX11_411 dX11_isRowOf_1 (qX11_isSet (by omega)) (Nat.le_of_ble_eq_true rfl) (by decide) ?_
  refine J_ifeqB 31 dX11_isRowOf_4 rfl (fun c4 => ?_) (fun c4 => ?_)
  · refine J_iconst dX11_isRowOf_31 ?_
    exact R_z rfl dX11_isRowOf_32 (by decide) rfl (by first | exact (jb_t (by omega)).symm | exact (jb_f (by omega)).symm)
  · refine L_i1 dX11_isRowOf_7 ?_
    refine J_iconst dX11_isRowOf_8 ?_
    refine J_bipush dX11_isRowOf_9 (by decide) ?_
    refine C_s3F vX11_83 dX11_isRowOf_11 (qX11_isIn (by omega) (by omega) (by omega)) (Nat.le_of_ble_eq_true rfl) (by decide) ?_
    refine J_ifeqB 31 dX11_isRowOf_14 rfl (fun c14 => ?_) (fun c14 => ?_)
    · refine J_iconst dX11_isRowOf_31 ?_
      exact R_z rfl dX11_isRowOf_32 (by decide) rfl (by first | exact (jb_t (by omega)).symm | exact (jb_f (by omega)).symm)
    · refine L_i0 dX11_isRowOf_17 ?_
      refine L_i1 dX11_isRowOf_18 ?_
      refine C_s2F vX11_414 dX11_isRowOf_19 (qX11_longOf (by omega)) (Nat.le_of_ble_eq_true rfl) (by decide) ?_
      refine J_bipush dX11_isRowOf_22 (by decide) ?_
      refine J_icmp_gt 31 dX11_isRowOf_24 rfl (by omega) (by omega) (fun c24 => ?_) (fun c24 => ?_)
      · refine J_iconst dX11_isRowOf_31 ?_
        exact R_z rfl dX11_isRowOf_32 (by decide) rfl (by first | exact (jb_t (by omega)).symm | exact (jb_f (by omega)).symm)
      · refine J_iconst dX11_isRowOf_27 ?_
        refine E_goto 32 dX11_isRowOf_28 rfl ?_
        exact R_z rfl dX11_isRowOf_32 (by decide) rfl (by first | exact (jb_t (by omega)).symm | exact (jb_f (by omega)).symm)

set_option maxRecDepth 100000 in
theorem qX11_rowsOf {S T : Nat → Int → Int} {D : List mx_C} (hi : MI T) {s g al : Int} (hr : isRow s g) (hal : al = 0 ∨ al = 1) : SpL yX11_rowsOf cX11_rowsOf 4 (some .long) 11 [.ref 36, .int (jI s), .int (jI g), .int (jI al)] (W5 S T D) (SQ S T D s.toNat (opL (T 37) (T 39) s.toNat (2 * pc s + g).toNat 2) al (wy (opL (T 37) (T 39) s.toNat (2 * pc s + g).toNat 2) 0)) := by
  have hpb := pc_B s
  refine Sp.of [.ref 36, .int (jI s), .int (jI g), .int (jI al)] (by decide) (by simp) (Nat.le_of_ble_eq_true rfl) rfl (fun E => ?_)
  refine L_a0 dX11_rowsOf_0 ?_
  refine L_i1 dX11_rowsOf_1 ?_
  refine L_i1 dX11_rowsOf_2 ?_
  refine L_i2 dX11_rowsOf_3 ?_
  refine C_s2F vX11_414 dX11_rowsOf_4 (qX11_longOf (by omega)) (Nat.le_of_ble_eq_true rfl) (by decide) ?_
  refine J_iconst dX11_rowsOf_7 ?_
  refine C_v3U vX11_417 dX11_rowsOf_8 (qX11_layOptions (e := 2) hi (by omega) (by omega) (by omega)) rfl rfl (Nat.le_of_ble_eq_true rfl) (by decide) (fun hp8 hq8 => ?_)
  obtain ⟨T8, rfl, hL8⟩ := hq8
  refine L_a0 dX11_rowsOf_11 ?_
  refine J_iconst dX11_rowsOf_12 ?_
  refine L_i3 dX11_rowsOf_13 ?_
  refine C_v2L vX11_420 dX11_rowsOf_14 (qX11_fitted (T := T8) (u := 0) (opL_PB (by omega) (by omega)) hL8.po hL8.mm (by decide) hal) rfl rfl (Nat.le_of_ble_eq_true rfl) (by decide) (fun v14 hp14 hq14 => ?_)
  exact RQ_l rfl dX11_rowsOf_17 (SQ.of hL8 hq14)

/-- the rows of a set with so many gaps -/
def md_rw (a c : Int → Int) (s g : Int) : List (List Nat) := wy (opL a c s.toNat (2 * pc s + g).toNat 2) 0
set_option maxRecDepth 100000 in
theorem qX11_rows {S T : Nat → Int → Int} {D : List mx_C} (hi : MI T) {s : Int} (h_s : -2147483648 ≤ s ∧ s < 2147483648) {g : Int} (h_g : -2147483648 ≤ g ∧ g < 2147483648) : SpL yX11_rows cX11_rows 3 (some .long) 12 [.ref 36, .int (jI s), .int (jI g)] (W5 S T D) (fun v hp' => v = (if isRow s g then ((md_rw (T 37) (T 39) s g).length : Int) else -1) ∧ ∃ T', hp' = W5 S T' D ∧ SF T T') := by
  have hpb := pc_B s
  refine Sp.of [.ref 36, .int (jI s), .int (jI g)] (by decide) (by simp) (Nat.le_of_ble_eq_true rfl) rfl (fun E => ?_)
  refine L_i1 dX11_rows_0 ?_
  refine L_i2 dX11_rows_1 ?_
  refine C_s2F vX11_424 dX11_rows_2 (qX11_isRowOf (by omega) (by omega)) (Nat.le_of_ble_eq_true rfl) (by decide) ?_
  refine J_ifeqB 18 dX11_rows_5 rfl (fun c5 => ?_) (fun c5 => ?_)
  · refine J_ldc2 (-1) dX11_rows_18 kX11_431 (by decide) ?_
    exact RQ_l rfl dX11_rows_21 (by first | (obtain ⟨h1, T2, e2, hF⟩ := hq12; exact ⟨by rw [if_pos (by assumption), h1, if_pos rfl]; rfl, T2, e2, hF.1⟩) | exact ⟨by rw [if_neg (by assumption)], T, rfl, SF.refl T⟩)
  · refine L_a0 dX11_rows_8 ?_
    refine L_i1 dX11_rows_9 ?_
    refine L_i2 dX11_rows_10 ?_
    refine J_iconst dX11_rows_11 ?_
    refine C_v3L vX11_427 dX11_rows_12 (qX11_rowsOf hi (by omega) (by decide)) rfl rfl (Nat.le_of_ble_eq_true rfl) (by decide) (fun v12 hp12 hq12 => ?_)
    have hB12 := hq12.B (opL_PB (by omega) (by omega))
    refine E_goto 21 dX11_rows_15 rfl ?_
    exact RQ_l rfl dX11_rows_21 (by first | (obtain ⟨h1, T2, e2, hF⟩ := hq12; exact ⟨by rw [if_pos (by assumption), h1, if_pos rfl]; rfl, T2, e2, hF.1⟩) | exact ⟨by rw [if_neg (by assumption)], T, rfl, SF.refl T⟩)

def alP (ws : List (List Nat)) (i : Nat) : Bool := ws.all (fun x => x.getD i 0 == (ws.headD []).getD i 0)
theorem alP_iff {ws : List (List Nat)} {i : Nat} : alP ws i = true ↔ ∀ x ∈ ws, x.getD i 0 = (ws.headD []).getD i 0 := by
  unfold alP
  rw [List.all_eq_true]
  exact ⟨fun h x hx => by simpa using h x hx, fun h x hx => by simpa using h x hx⟩
def alg (s : Nat) (ws : List (List Nat)) (i acc : Int) : Int := bor acc (if alP ws i.toNat = true then bsh (((mem s).getD i.toNat 0 : Nat) : Int) else 0)
/-- the numbers whose places are the same in all ways -/
def aln (s : Nat) (ws : List (List Nat)) : Int := lpF (alg s ws) (mem s).length 0 0
theorem alg_B {s : Nat} {ws : List (List Nat)} {i acc : Int} (h0 : 0 ≤ i) (hi : i < (mem s).length) (h : 0 ≤ acc ∧ acc < 256) : 0 ≤ alg s ws i acc ∧ alg s ws i acc < 256 := by
  refine ⟨bor_nn _ _, ?_⟩
  unfold alg
  have hk : (mem s).getD i.toNat 0 < 8 := memN_lt (s := s) 8 _ (getD_mem (d := 0) (show i.toNat < (mem s).length by omega))
  refine bor_lt 8 (by omega) ?_
  split
  · exact bsh_lt 8 (by omega) (by omega)
  · decide
set_option maxRecDepth 100000 in
theorem lX11_alikeNumbers {E : mx_E} {S T : Nat → Int → Int} {D : List mx_C} {T0 : Nat → Int → Int} {s : Nat} {L ws : List (List Nat)} (hF : FD T0 T s L ws) : ∀ (m : Nat) (k acc : Int), k + m = (mem s).length → 0 ≤ k → (0 ≤ acc ∧ acc < 256) → lpF (alg s ws) m k acc = aln s ws → Ev E yX11_alikeNumbers cX11_alikeNumbers 3 (some .int) (kf E 1 (.int (jI (aln s ws))) (W5 S T D)) 0 0 4 [.ref 36, .int (jI acc), .int (jI k)] [] (W5 S T D) := by
  intro m
  induction m with
  | zero =>
    intro k acc hk hk0 hac hres
    have hl8 := mem_len8 s
    refine L_i2 dX11_alikeNumbers_4 ?_
    refine L_a0 dX11_alikeNumbers_5 ?_
    refine GW_36_32 fX11_398 dX11_alikeNumbers_6 ?_
    refine J_eqi (b := ((mem s).length : Int)) hF.2.2.1 ?_
    refine J_icmp_ge 44 dX11_alikeNumbers_9 rfl (by omega) (by omega) (fun c9 => ?_) (fun c9 => ?_)
    · refine L_i1 dX11_alikeNumbers_44 ?_
      exact R_i rfl dX11_alikeNumbers_45 rfl (by rw [← hres]; rfl)
    · exfalso; omega
  | succ m ih =>
    intro k acc hk hk0 hac hres
    have hl8 := mem_len8 s
    have hgb := alg_B (s := s) (ws := ws) (i := k) (acc := acc) (by omega) (by omega) hac
    have hal := hF.2.2.2.2.1
    have hkw := hF.2.2.2.2.2.1 k.toNat (by omega)
    have hbh := bt_has (s := T 36 33) (k := k) hal.1
    have h47 := hF.2.2.2.1 k.toNat (by omega)
    rw [show ((k.toNat : Nat) : Int) = k by omega] at h47
    have hmk : (mem s).getD k.toNat 0 < 8 := memN_lt (s := s) 8 _ (getD_mem (d := 0) (show k.toNat < (mem s).length by omega))
    refine L_i2 dX11_alikeNumbers_4 ?_
    refine L_a0 dX11_alikeNumbers_5 ?_
    refine GW_36_32 fX11_398 dX11_alikeNumbers_6 ?_
    refine J_eqi (b := ((mem s).length : Int)) hF.2.2.1 ?_
    refine J_icmp_ge 44 dX11_alikeNumbers_9 rfl (by omega) (by omega) (fun c9 => ?_) (fun c9 => ?_)
    · exfalso; omega
    · refine L_i1 dX11_alikeNumbers_12 ?_
      refine L_a0 dX11_alikeNumbers_13 ?_
      refine GW_36_33 fX11_404 dX11_alikeNumbers_14 ?_
      refine L_i2 dX11_alikeNumbers_17 ?_
      refine C_s2F vX11_251 dX11_alikeNumbers_18 (qX11_has (by omega) (by omega)) (Nat.le_of_ble_eq_true rfl) (by decide) ?_
      refine J_ifeqB 35 dX11_alikeNumbers_21 rfl (fun c21 => ?_) (fun c21 => ?_)
      · refine J_iconst dX11_alikeNumbers_35 ?_
        refine J_iorG dX11_alikeNumbers_36 (by omega) (by first | exact bsh_nn _ | omega) ?_
        refine J_eqi (b := alg s ws k acc) (by first | (unfold alg; rw [if_pos (alP_iff.mpr (hkw.1.mp (hbh.mp (by assumption))))]) | (unfold alg; rw [if_neg (fun h => absurd (hbh.mpr (hkw.1.mpr (alP_iff.mp h))) (by assumption))])) ?_
        refine S_i1 dX11_alikeNumbers_37 (by decide) rfl ?_
        refine JI_2 dX11_alikeNumbers_38 (by decide) rfl ?_
        refine E_goto 4 dX11_alikeNumbers_41 rfl ?_
        exact ih (k + 1) _ (by omega) (by omega) hgb (by rw [← hres, lpF])
      · refine J_iconst dX11_alikeNumbers_24 ?_
        refine L_a0 dX11_alikeNumbers_25 ?_
        refine GW_36_27 fX11_53 dX11_alikeNumbers_26 ?_
        refine L_i2 dX11_alikeNumbers_29 ?_
        refine AR_47 dX11_alikeNumbers_30 (by omega) ?_
        refine J_eqi (b := (((mem s).getD k.toNat 0 : Nat) : Int)) h47 ?_
        refine J_1shl dX11_alikeNumbers_31 (by omega) ?_
        refine E_goto 36 dX11_alikeNumbers_32 rfl ?_
        refine J_iorG dX11_alikeNumbers_36 (by omega) (by first | exact bsh_nn _ | omega) ?_
        refine J_eqi (b := alg s ws k acc) (by first | (unfold alg; rw [if_pos (alP_iff.mpr (hkw.1.mp (hbh.mp (by assumption))))]) | (unfold alg; rw [if_neg (fun h => absurd (hbh.mpr (hkw.1.mpr (alP_iff.mp h))) (by assumption))])) ?_
        refine S_i1 dX11_alikeNumbers_37 (by decide) rfl ?_
        refine JI_2 dX11_alikeNumbers_38 (by decide) rfl ?_
        refine E_goto 4 dX11_alikeNumbers_41 rfl ?_
        exact ih (k + 1) _ (by omega) (by omega) hgb (by rw [← hres, lpF])

set_option maxRecDepth 100000 in
theorem qX11_alikeNumbers {S T : Nat → Int → Int} {D : List mx_C} {T0 : Nat → Int → Int} {s : Nat} {L ws : List (List Nat)} (hF : FD T0 T s L ws) : SpF yX11_alikeNumbers cX11_alikeNumbers 3 (some .int) 1 [.ref 36] (W5 S T D) (.int (jI (aln s ws))) (W5 S T D) := by
  refine Sp.of [.ref 36, .retAddr 0, .retAddr 0] (by decide) (by simp) (Nat.le_of_ble_eq_true rfl) rfl (fun E => ?_)
  refine J_iconst dX11_alikeNumbers_0 ?_
  refine S_i1 dX11_alikeNumbers_1 (by decide) rfl ?_
  refine J_iconst dX11_alikeNumbers_2 ?_
  refine S_i2 dX11_alikeNumbers_3 (by decide) rfl ?_
  exact lX11_alikeNumbers hF (mem s).length 0 0 (by omega) (by omega) (by omega) rfl

set_option maxRecDepth 100000 in
theorem qX11_pinned {S T : Nat → Int → Int} {D : List mx_C} (hi : MI T) {s : Int} (h_s : -2147483648 ≤ s ∧ s < 2147483648) {g : Int} (h_g : -2147483648 ≤ g ∧ g < 2147483648) : SpI yX11_pinned cX11_pinned 3 (some .int) 12 [.ref 36, .int (jI s), .int (jI g)] (W5 S T D) (fun v hp' => v = (if isRow s g ∧ ¬ md_rw (T 37) (T 39) s g = [] then aln s.toNat (md_rw (T 37) (T 39) s g) else -1) ∧ ∃ T', hp' = W5 S T' D ∧ SF T T') := by
  have hpb := pc_B s
  refine Sp.of [.ref 36, .int (jI s), .int (jI g)] (by decide) (by simp) (Nat.le_of_ble_eq_true rfl) rfl (fun E => ?_)
  refine L_i1 dX11_pinned_0 ?_
  refine L_i2 dX11_pinned_1 ?_
  refine C_s2F vX11_424 dX11_pinned_2 (qX11_isRowOf (by omega) (by omega)) (Nat.le_of_ble_eq_true rfl) (by decide) ?_
  refine J_ifeqB 20 dX11_pinned_5 rfl (fun c5 => ?_) (fun c5 => ?_)
  · refine J_iconst dX11_pinned_20 ?_
    exact RQ_i rfl dX11_pinned_21 (by first | exact ⟨by rw [if_neg (fun h => h.2 (hB12.2.2.mp (by omega)))], T12, rfl, hF12.1⟩ | exact ⟨by rw [if_neg (fun h => absurd h.1 (by assumption))], T, rfl, SF.refl T⟩)
  · refine L_a0 dX11_pinned_8 ?_
    refine L_i1 dX11_pinned_9 ?_
    refine L_i2 dX11_pinned_10 ?_
    refine J_iconst dX11_pinned_11 ?_
    refine C_v3L vX11_427 dX11_pinned_12 (qX11_rowsOf hi (by omega) (by decide)) rfl rfl (Nat.le_of_ble_eq_true rfl) (by decide) (fun v12 hp12 hq12 => ?_)
    have hB12 := hq12.B (opL_PB (by omega) (by omega))
    obtain ⟨h1, T12, rfl, hF12⟩ := hq12
    rw [if_pos rfl] at hF12 h1
    refine J_lconst 0 dX11_pinned_15 (by decide) ?_
    refine JL_ne 22 dX11_pinned_16 dX11_pinned_17 rfl (by omega) (by omega) (fun c17 => ?_) (fun c17 => ?_)
    · refine L_a0 dX11_pinned_22 ?_
      refine C_v0F vX11_433 dX11_pinned_23 (qX11_alikeNumbers hF12) rfl rfl (Nat.le_of_ble_eq_true rfl) (by decide) ?_
      exact RQ_i rfl dX11_pinned_26 ⟨by rw [if_pos ⟨by assumption, fun h => absurd (hB12.2.2.mpr h) (by omega)⟩]; rfl, T12, rfl, hF12.1⟩
    · refine J_iconst dX11_pinned_20 ?_
      exact RQ_i rfl dX11_pinned_21 (by first | exact ⟨by rw [if_neg (fun h => h.2 (hB12.2.2.mp (by omega)))], T12, rfl, hF12.1⟩ | exact ⟨by rw [if_neg (fun h => absurd h.1 (by assumption))], T, rfl, SF.refl T⟩)

set_option maxRecDepth 100000 in
theorem qX11_threes {S T : Nat → Int → Int} {D : List mx_C} (hi : MI T) {s : Int} (h_s : -2147483648 ≤ s ∧ s < 2147483648) : SpL yX11_threes cX11_threes 2 (some .long) 11 [.ref 36, .int (jI s)] (W5 S T D) (fun v hp' => v = (if (0 ≤ s ∧ s ≤ 255) ∧ pc s ≤ 5 then ((wy (opL (T 37) (T 39) s.toNat (3 * pc s).toNat 3) 0).length : Int) else -1) ∧ ∃ T', hp' = W5 S T' D ∧ SF T T') := by
  have hpb := pc_B s
  have hal : (1 : Int) = 0 ∨ (1 : Int) = 1 := Or.inr rfl
  refine Sp.of [.ref 36, .int (jI s)] (by decide) (by simp) (Nat.le_of_ble_eq_true rfl) rfl (fun E => ?_)
  refine L_i1 dX11_threes_0 ?_
  refine C_s1F vX11_411 dX11_threes_1 (qX11_isSet (by omega)) (Nat.le_of_ble_eq_true rfl) (by decide) ?_
  refine J_ifeqB 15 dX11_threes_4 rfl (fun c4 => ?_) (fun c4 => ?_)
  · refine J_ldc2 (-1) dX11_threes_15 kX11_431 (by decide) ?_
    exact RQ_l rfl dX11_threes_18 ⟨by rw [if_neg (by omega)], T, rfl, SF.refl T⟩
  · refine L_i1 dX11_threes_7 ?_
    refine C_s1F vX11_304 dX11_threes_8 (qX11_bits (by omega)) (Nat.le_of_ble_eq_true rfl) (by decide) ?_
    refine J_iconst dX11_threes_11 ?_
    refine J_icmp_le 19 dX11_threes_12 rfl (by omega) (by omega) (fun c12 => ?_) (fun c12 => ?_)
    · refine L_a0 dX11_threes_19 ?_
      refine L_i1 dX11_threes_20 ?_
      refine J_iconst dX11_threes_21 ?_
      refine L_i1 dX11_threes_22 ?_
      refine C_s1F vX11_304 dX11_threes_23 (qX11_bits (by omega)) (Nat.le_of_ble_eq_true rfl) (by decide) ?_
      refine J_imul dX11_threes_26 ?_
      refine J_iconst dX11_threes_27 ?_
      refine C_v3U vX11_417 dX11_threes_28 (qX11_layOptions (e := 3) hi (by omega) (by omega) (by omega)) rfl rfl (Nat.le_of_ble_eq_true rfl) (by decide) (fun hp28 hq28 => ?_)
      obtain ⟨T28, rfl, hL28⟩ := hq28
      refine L_a0 dX11_threes_31 ?_
      refine J_iconst dX11_threes_32 ?_
      refine J_iconst dX11_threes_33 ?_
      refine C_v2L vX11_420 dX11_threes_34 (qX11_fitted (T := T28) (u := 0) (opL_PB (by omega) (by omega)) hL28.po hL28.mm (by decide) hal) rfl rfl (Nat.le_of_ble_eq_true rfl) (by decide) (fun v34 hp34 hq34 => ?_)
      exact RQ_l rfl dX11_threes_37 (by obtain ⟨h1, T2, e2, hF⟩ := SQ.of hL28 hq34; exact ⟨by rw [if_pos (by omega), h1, if_pos rfl]; rfl, T2, e2, hF.1⟩)
    · refine J_ldc2 (-1) dX11_threes_15 kX11_431 (by decide) ?_
      exact RQ_l rfl dX11_threes_18 ⟨by rw [if_neg (by omega)], T, rfl, SF.refl T⟩

/-- the ways in which those of a set that do not stand find place beside those that do -/
def md_wy (a c : Int → Int) (s : Int) : List (List Nat) := wy (opL a c (bdf s (md_standing a)).toNat (a 7).toNat 2) (md_taken a).toNat
set_option maxRecDepth 100000 in
theorem qX11_waysOf {S T : Nat → Int → Int} {D : List mx_C} (hi : MI T) {s al : Int} (h_s : 0 ≤ s ∧ s ≤ 255) (hal : al = 0 ∨ al = 1) : SpL yX11_waysOf cX11_waysOf 3 (some .long) 11 [.ref 36, .int (jI s), .int (jI al)] (W5 S T D) (SQ S T D (bdf s (md_standing (T 37))).toNat (opL (T 37) (T 39) (bdf s (md_standing (T 37))).toNat (T 37 7).toNat 2) al (md_wy (T 37) (T 39) s)) := by
  have hv := hi.1
  have hl := hi.2.1
  have ha := hv.2
  have hsb := md_standing_B (T 37)
  have htb := md_taken_B hv
  have hbd := bdf_le s (md_standing (T 37)) (by omega)
  have hbn := bdf_nn s (md_standing (T 37))
  refine Sp.of [.ref 36, .int (jI s), .int (jI al)] (by decide) (by simp) (Nat.le_of_ble_eq_true rfl) rfl (fun E => ?_)
  refine L_a0 dX11_waysOf_0 ?_
  refine L_i1 dX11_waysOf_1 ?_
  refine L_a0 dX11_waysOf_2 ?_
  refine C_v0F vX11_301 dX11_waysOf_3 (qX11_standingV hv) rfl rfl (Nat.le_of_ble_eq_true rfl) (by decide) ?_
  refine J_iconst dX11_waysOf_6 ?_
  refine J_inot dX11_waysOf_7 ?_
  refine J_iandD dX11_waysOf_8 (by omega) (by omega) ?_
  refine L_a0 dX11_waysOf_9 ?_
  refine GW_36_0 fX11_7 dX11_waysOf_10 ?_
  refine J_bipush dX11_waysOf_13 (by decide) ?_
  refine AB_37 dX11_waysOf_15 (by omega) hv.1 (fun b15 => ?_)
  refine J_iconst dX11_waysOf_16 ?_
  refine C_v3U vX11_417 dX11_waysOf_17 (qX11_layOptions (e := 2) hi (by omega) (by omega) (by omega)) rfl rfl (Nat.le_of_ble_eq_true rfl) (by decide) (fun hp17 hq17 => ?_)
  obtain ⟨T17, rfl, hL17⟩ := hq17
  refine L_a0 dX11_waysOf_20 ?_
  refine L_a0 dX11_waysOf_21 ?_
  refine C_v0F vX11_275 dX11_waysOf_22 (qX11_taken (hL17.sf.mi hi).1) rfl rfl (Nat.le_of_ble_eq_true rfl) (by decide) ?_
  refine J_eqi (b := (((md_taken (T 37)).toNat : Nat) : Int)) (by rw [hL17.sf.1 37 (by decide)]; omega) ?_
  refine L_i2 dX11_waysOf_25 ?_
  refine C_v2L vX11_420 dX11_waysOf_26 (qX11_fitted (T := T17) (u := (md_taken (T 37)).toNat) (opL_PB (by omega) (by omega)) hL17.po hL17.mm (by omega) hal) rfl rfl (Nat.le_of_ble_eq_true rfl) (by decide) (fun v26 hp26 hq26 => ?_)
  exact RQ_l rfl dX11_waysOf_29 (SQ.of hL17 hq26)

set_option maxRecDepth 100000 in
theorem qX11_ways {S T : Nat → Int → Int} {D : List mx_C} (hi : MI T) {s : Int} (h_s : -2147483648 ≤ s ∧ s < 2147483648) : SpL yX11_ways cX11_ways 2 (some .long) 12 [.ref 36, .int (jI s)] (W5 S T D) (fun v hp' => v = (if 0 ≤ s ∧ s ≤ 255 then ((md_wy (T 37) (T 39) s).length : Int) else -1) ∧ ∃ T', hp' = W5 S T' D ∧ SF T T') := by
  refine Sp.of [.ref 36, .int (jI s)] (by decide) (by simp) (Nat.le_of_ble_eq_true rfl) rfl (fun E => ?_)
  refine L_i1 dX11_ways_0 ?_
  refine C_s1F vX11_411 dX11_ways_1 (qX11_isSet (by omega)) (Nat.le_of_ble_eq_true rfl) (by decide) ?_
  refine J_ifeqB 16 dX11_ways_4 rfl (fun c4 => ?_) (fun c4 => ?_)
  · refine J_ldc2 (-1) dX11_ways_16 kX11_431 (by decide) ?_
    exact RQ_l rfl dX11_ways_19 (by first | (obtain ⟨h1, T2, e2, hF⟩ := hq10; exact ⟨by rw [if_pos (by assumption), h1, if_pos rfl], T2, e2, hF.1⟩) | exact ⟨by rw [if_neg (by assumption)], T, rfl, SF.refl T⟩)
  · refine L_a0 dX11_ways_7 ?_
    refine L_i1 dX11_ways_8 ?_
    refine J_iconst dX11_ways_9 ?_
    refine C_v2L vX11_454 dX11_ways_10 (qX11_waysOf hi (by omega) (by decide)) rfl rfl (Nat.le_of_ble_eq_true rfl) (by decide) (fun v10 hp10 hq10 => ?_)
    refine E_goto 19 dX11_ways_13 rfl ?_
    exact RQ_l rfl dX11_ways_19 (by first | (obtain ⟨h1, T2, e2, hF⟩ := hq10; exact ⟨by rw [if_pos (by assumption), h1, if_pos rfl], T2, e2, hF.1⟩) | exact ⟨by rw [if_neg (by assumption)], T, rfl, SF.refl T⟩)

set_option maxRecDepth 100000 in
theorem qX11_forced {S T : Nat → Int → Int} {D : List mx_C} (hi : MI T) {s : Int} (h_s : -2147483648 ≤ s ∧ s < 2147483648) : SpI yX11_forced cX11_forced 2 (some .int) 12 [.ref 36, .int (jI s)] (W5 S T D) (fun v hp' => v = (if (0 ≤ s ∧ s ≤ 255) ∧ ¬ md_wy (T 37) (T 39) s = [] then aln (bdf s (md_standing (T 37))).toNat (md_wy (T 37) (T 39) s) else -1) ∧ ∃ T', hp' = W5 S T' D ∧ SF T T') := by
  have hv := hi.1
  have hl := hi.2.1
  have ha := hv.2
  refine Sp.of [.ref 36, .int (jI s)] (by decide) (by simp) (Nat.le_of_ble_eq_true rfl) rfl (fun E => ?_)
  refine L_i1 dX11_forced_0 ?_
  refine C_s1F vX11_411 dX11_forced_1 (qX11_isSet (by omega)) (Nat.le_of_ble_eq_true rfl) (by decide) ?_
  refine J_ifeqB 25 dX11_forced_4 rfl (fun c4 => ?_) (fun c4 => ?_)
  · refine J_iconst dX11_forced_25 ?_
    exact RQ_i rfl dX11_forced_26 (by first | exact ⟨by rw [if_pos ⟨by assumption, fun h => absurd (hB10.2.2.mpr h) (by omega)⟩], T10, rfl, hF10.1⟩ | exact ⟨by rw [if_neg (fun h => h.2 (hB10.2.2.mp (by omega)))], T10, rfl, hF10.1⟩ | exact ⟨by rw [if_neg (fun h => absurd h.1 (by assumption))], T, rfl, SF.refl T⟩)
  · refine L_a0 dX11_forced_7 ?_
    refine L_i1 dX11_forced_8 ?_
    refine J_iconst dX11_forced_9 ?_
    refine C_v2L vX11_454 dX11_forced_10 (qX11_waysOf hi (by omega) (by decide)) rfl rfl (Nat.le_of_ble_eq_true rfl) (by decide) (fun v10 hp10 hq10 => ?_)
    have hB10 := hq10.B (opL_PB (by omega) (by omega))
    obtain ⟨h1, T10, rfl, hF10⟩ := hq10
    rw [if_pos rfl] at hF10 h1
    refine J_lconst 0 dX11_forced_13 (by decide) ?_
    refine JL_le 25 dX11_forced_14 dX11_forced_15 rfl (by omega) (by omega) (fun c15 => ?_) (fun c15 => ?_)
    · refine J_iconst dX11_forced_25 ?_
      exact RQ_i rfl dX11_forced_26 (by first | exact ⟨by rw [if_pos ⟨by assumption, fun h => absurd (hB10.2.2.mpr h) (by omega)⟩], T10, rfl, hF10.1⟩ | exact ⟨by rw [if_neg (fun h => h.2 (hB10.2.2.mp (by omega)))], T10, rfl, hF10.1⟩ | exact ⟨by rw [if_neg (fun h => absurd h.1 (by assumption))], T, rfl, SF.refl T⟩)
    · refine L_a0 dX11_forced_18 ?_
      refine C_v0F vX11_433 dX11_forced_19 (qX11_alikeNumbers hF10) rfl rfl (Nat.le_of_ble_eq_true rfl) (by decide) ?_
      refine E_goto 26 dX11_forced_22 rfl ?_
      exact RQ_i rfl dX11_forced_26 (by first | exact ⟨by rw [if_pos ⟨by assumption, fun h => absurd (hB10.2.2.mpr h) (by omega)⟩], T10, rfl, hF10.1⟩ | exact ⟨by rw [if_neg (fun h => h.2 (hB10.2.2.mp (by omega)))], T10, rfl, hF10.1⟩ | exact ⟨by rw [if_neg (fun h => absurd h.1 (by assumption))], T, rfl, SF.refl T⟩)

set_option maxRecDepth 100000 in
theorem qX11_doFit {S T : Nat → Int → Int} {D : List mx_C} (hi : MI T) {s pl : Int} (h_s : 0 ≤ s ∧ s ≤ 255) (h_p : 0 ≤ pl ∧ pl ≤ 16) : SpI yX11_doFit cX11_doFit 3 (some .boolean) 11 [.ref 36, .int (jI s), .int (jI pl)] (W5 S T D) (fun v hp' => v = (if wy (opL (T 37) (T 39) s.toNat pl.toNat 2) 0 = [] then 0 else 1) ∧ ∃ T', hp' = W5 S T' D ∧ SF T T') := by
  have hal : (0 : Int) = 0 ∨ (0 : Int) = 1 := Or.inl rfl
  refine Sp.of [.ref 36, .int (jI s), .int (jI pl)] (by decide) (by simp) (Nat.le_of_ble_eq_true rfl) rfl (fun E => ?_)
  refine L_a0 dX11_doFit_0 ?_
  refine L_i1 dX11_doFit_1 ?_
  refine L_i2 dX11_doFit_2 ?_
  refine J_iconst dX11_doFit_3 ?_
  refine C_v3U vX11_417 dX11_doFit_4 (qX11_layOptions (e := 2) hi (by omega) (by omega) (by omega)) rfl rfl (Nat.le_of_ble_eq_true rfl) (by decide) (fun hp4 hq4 => ?_)
  obtain ⟨T4, rfl, hL4⟩ := hq4
  refine L_a0 dX11_doFit_7 ?_
  refine J_iconst dX11_doFit_8 ?_
  refine J_iconst dX11_doFit_9 ?_
  refine C_v2L vX11_420 dX11_doFit_10 (qX11_fitted (T := T4) (u := 0) (opL_PB (by omega) (by omega)) hL4.po hL4.mm (by decide) hal) rfl rfl (Nat.le_of_ble_eq_true rfl) (by decide) (fun v10 hp10 hq10 => ?_)
  have HS := SQ.of hL4 hq10
  have hB := HS.B (opL_PB (by omega) (by omega))
  obtain ⟨h1, T2, rfl, hF⟩ := HS
  refine J_lconst 0 dX11_doFit_13 (by decide) ?_
  refine JL_le 22 dX11_doFit_14 dX11_doFit_15 rfl (by omega) (by omega) (fun c15 => ?_) (fun c15 => ?_)
  · refine J_iconst dX11_doFit_22 ?_
    exact RQ_z rfl dX11_doFit_23 (by decide) ⟨by first | exact (if_neg (fun h => absurd (hB.2.2.mpr h) (by omega))).symm | exact (if_pos (hB.2.2.mp (by omega))).symm, T2, rfl, hF.1⟩
  · refine J_iconst dX11_doFit_18 ?_
    refine E_goto 23 dX11_doFit_19 rfl ?_
    exact RQ_z rfl dX11_doFit_23 (by decide) ⟨by first | exact (if_neg (fun h => absurd (hB.2.2.mpr h) (by omega))).symm | exact (if_pos (hB.2.2.mp (by omega))).symm, T2, rfl, hF.1⟩

