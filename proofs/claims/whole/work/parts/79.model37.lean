/-! ===== the reference: rows in their order, the search ===== -/
theorem drop9 : ∀ c : Fin 9, (List.range 9).drop c.val = c.val :: (List.range 9).drop (c.val + 1) := by decide
theorem nuse_lt {c used : Nat} (hc : c ≤ 8) (h : used < 256) : nuse c used < 256 := by
  unfold nuse
  split
  · exact h
  · exact or_lt (n := 8) h (Nat.pow_lt_pow_right (by decide) (by omega))
theorem nful_lt {st : Nat → Nat} {p c full : Nat} (h : full < 65536) (hp : p + st (c - 1) < 16) : nful st p c full < 65536 := by
  unfold nful nmsk
  split
  · exact h
  · exact or_lt (n := 16) h (or_lt (Nat.pow_lt_pow_right (by decide) (by omega)) (Nat.pow_lt_pow_right (by decide) (by omega)))
theorem pkB_S {s : Nat} {st : Nat → Nat} {pl used full p c : Nat} {gaps : Int} (h : pkB s st pl used full p (c + 1) gaps = true) : used.testBit c = false ∧ p + st c < pl ∧ full.testBit (p + st c) = false := by
  unfold pkB at h
  rw [if_neg (by omega)] at h
  simp only [Bool.and_eq_true, Bool.not_eq_true', decide_eq_true_eq] at h
  exact ⟨h.1.1.2, h.1.2, h.2⟩
theorem pkB_0 {s : Nat} {st : Nat → Nat} {pl used full p : Nat} {gaps : Int} (h : pkB s st pl used full p 0 gaps = true) : 0 < gaps := by
  unfold pkB at h
  rw [if_pos rfl] at h
  exact of_decide_eq_true h
theorem two_and {p q full : Nat} (h1 : full.testBit p = false) (h2 : full.testBit q = false) : (2 ^ p ||| 2 ^ q) &&& full = 0 := by
  apply and_zero_of
  intro i ⟨ha, hb⟩
  rw [Nat.testBit_or, Nat.testBit_two_pow, Nat.testBit_two_pow, Bool.or_eq_true] at ha
  rcases ha with ha | ha
  · have : p = i := by simpa using ha
    subst this; rw [h1] at hb; exact absurd hb (by decide)
  · have : q = i := by simpa using ha
    subst this; rw [h2] at hb; exact absurd hb (by decide)
theorem pow_and' {u i : Nat} (h : u.testBit i = false) : 2 ^ i &&& u = 0 := by rw [Nat.and_comm]; exact pow_and h
theorem iL_main {E : mx_E} {S T2 : Nat → Int → Int} {D : List mx_C} {Q : Int → List mx_C → Prop} {s pl : Nat} {g0 n0 : Int} {st : Nat → Nat} (hs : s < 256) (hpl : pl ≤ 16) (h46 : ∀ k : Nat, k < 8 → T2 46 k = (st k : Int) ∧ 1 ≤ st k ∧ st k ≤ 15) : ∀ (n : Nat) (pre : List Int) (gaps : Int) (used full k : Nat) (T1 : Nat → Int → Int) (u : Value), pre.length + n = pl → u.category = 1 → (0 ≤ gaps ∧ gaps ≤ 100) → used < 256 → full < 65536 → k < 2147483648 → Laid (T1 52) pre → Fr [52] T2 T1 → (∀ (row : List Int) (T' : Nat → Int → Int), (rwl s pl st n gaps used full)[k]? = some row → Laid (T' 52) (pre ++ row) → Fr [52] T2 T' → Q 1 (W5 S T' D)) → ((rwl s pl st n gaps used full).length ≤ k → ∀ (T' : Nat → Int → Int) (u : Value), u.category = 1 → Laid (T' 52) pre → Fr [52] T2 T' → Ev E yX11_isLaid cX11_isLaid 11 (some .boolean) (kI E 10 Q) 0 0 81 [.ref 36, .int (jI (s : Int)), .int (jI g0), .int (jI n0), .int (jI (pl : Int)), .int (jI gaps), .int (jI (used : Int)), .int (jI (full : Int)), .int (jI (dcl pre)), .int (jI ((k - (rwl s pl st n gaps used full).length : Nat) : Int)), u] [] (W5 S T' D)) → Ev E yX11_isLaid cX11_isLaid 11 (some .boolean) (kI E 10 Q) 0 0 51 [.ref 36, .int (jI (s : Int)), .int (jI g0), .int (jI n0), .int (jI (pl : Int)), .int (jI gaps), .int (jI (used : Int)), .int (jI (full : Int)), .int (jI ((pre.length : Nat) : Int)), .int (jI (k : Int)), u] [] (W5 S T1 D) := by
  intro n
  induction n with
  | zero =>
    intro pre gaps used full k T1 u hn hu hg hus hfu hk hL f1 HQ HB
    rw [rwl] at HQ HB
    cases k with
    | zero => exact iL_end0 (st := st) (k := 0) hu hpl (by omega) (HQ [] T1 rfl (by rw [List.append_nil]; exact hL) f1)
    | succ k =>
      refine iL_end (st := st) hu hpl (by omega) hk hL.B ?_
      have h := HB (by show 1 ≤ k + 1; omega) T1 u hu hL f1
      rw [dcl_eq hL.1]
      exact h
  | succ n ihn =>
    intro pre gaps used full k T1 u hn hu hg hus hfu hk hL f1 HQ HB
    have hp : pl - (n + 1) = pre.length := by omega
    have h52 : T1 52 pre.length = -1 := hL.2 pre.length (Nat.le_refl _) (by omega)
    rw [rwl, hp] at HQ HB
    by_cases hb : full.testBit pre.length = true
    · rw [if_pos hb] at HQ HB
      refine iL_skip (st := st) hu hpl (by omega) hk hfu h52 hb (fun u2 hu2 => ?_)
      have hls := Laid.skip (f := T1 52) (pre := pre) (by omega)
      have h := ihn (pre ++ [-1]) gaps used full k T1 u2 (by rw [List.length_append]; show pre.length + 1 + n = pl; omega) hu2 hg hus hfu hk (hls.mpr hL) f1 (fun row T' hr hl' f' => HQ (-1 :: row) T' (by rw [List.getElem?_map, hr]; rfl) (by rw [List.append_assoc] at hl'; exact hl') f') (fun hle T' u3 hu3 hl' f' => by
        have h2 := HB (by rw [List.length_map]; exact hle) T' u3 hu3 ((Laid.skip (by omega)).mp hl') f'
        rw [List.length_map] at h2
        rw [dcl_snoc, if_pos rfl]
        exact h2)
      rw [List.length_append] at h
      exact h
    · rw [if_neg hb] at HQ HB
      have hbf : full.testBit pre.length = false := by simpa using hb
      have inner : ∀ (j c0 k : Nat) (T1 : Nat → Int → Int), c0 + j = 9 → k < 2147483648 → LaidX (T1 52) pre → Fr [52] T2 T1 → (∀ (row : List Int) (T' : Nat → Int → Int), (((List.range 9).drop c0).flatMap (fun c : Nat => if pkB s st pl used full pre.length c gaps = true then (rwl s pl st n (ngap c gaps) (nuse c used) (nful st pre.length c full)).map ((c : Int) :: ·) else []))[k]? = some row → Laid (T' 52) (pre ++ row) → Fr [52] T2 T' → Q 1 (W5 S T' D)) → ((((List.range 9).drop c0).flatMap (fun c : Nat => if pkB s st pl used full pre.length c gaps = true then (rwl s pl st n (ngap c gaps) (nuse c used) (nful st pre.length c full)).map ((c : Int) :: ·) else [])).length ≤ k → ∀ (T' : Nat → Int → Int) (u : Value), u.category = 1 → Laid (T' 52) pre → Fr [52] T2 T' → Ev E yX11_isLaid cX11_isLaid 11 (some .boolean) (kI E 10 Q) 0 0 81 [.ref 36, .int (jI (s : Int)), .int (jI g0), .int (jI n0), .int (jI (pl : Int)), .int (jI gaps), .int (jI (used : Int)), .int (jI (full : Int)), .int (jI (dcl pre)), .int (jI ((k - (((List.range 9).drop c0).flatMap (fun c : Nat => if pkB s st pl used full pre.length c gaps = true then (rwl s pl st n (ngap c gaps) (nuse c used) (nful st pre.length c full)).map ((c : Int) :: ·) else [])).length : Nat) : Int)), u] [] (W5 S T' D)) → Ev E yX11_isLaid cX11_isLaid 11 (some .boolean) (kI E 10 Q) 0 0 174 [.ref 36, .int (jI (s : Int)), .int (jI g0), .int (jI n0), .int (jI (pl : Int)), .int (jI gaps), .int (jI (used : Int)), .int (jI (full : Int)), .int (jI ((pre.length : Nat) : Int)), .int (jI (k : Int)), .int (jI (c0 : Int))] [] (W5 S T1 D) := by
        intro j
        induction j with
        | zero =>
          intro c0 k T1 hc hk hL f1 HQ HB
          obtain rfl : c0 = 9 := by omega
          have hlo := hL.out (by omega)
          have hdc := dcl_eq hlo.1
          refine iL_exh (st := st) hpl (by omega) hlo.B (dcd_B _ _) ?_
          have h := HB (by show 0 ≤ k; omega) (upF T1 52 pre.length (-1)) (.int (jI ((9 : Nat) : Int))) rfl (by show Laid (upS T1 52 _ 52) pre; rw [upS_s]; exact hlo) (f1.trans (Fr_up _ _ (by decide)))
          rw [hdc]
          exact h
        | succ j ihj =>
          intro c0 k T1 hc hk hL f1 HQ HB
          have hd9 := drop9 ⟨c0, by omega⟩
          have hd9 : (List.range 9).drop c0 = c0 :: (List.range 9).drop (c0 + 1) := hd9
          rw [hd9, List.flatMap_cons] at HQ HB
          have h46' : ∀ k : Nat, k < 8 → T1 46 k = (st k : Int) ∧ 1 ≤ st k ∧ st k ≤ 15 := by rw [f1 46 (by decide)]; exact h46
          by_cases hpk : pkB s st pl used full pre.length c0 gaps = true
          · rw [if_pos hpk] at HQ HB
            have HQ2 : ∀ (row : List Int) (T' : Nat → Int → Int), (rwl s pl st n (ngap c0 gaps) (nuse c0 used) (nful st pre.length c0 full))[k]? = some row → Laid (T' 52) (pre ++ [(c0 : Int)] ++ row) → Fr [52] T2 T' → Q 1 (W5 S T' D) := fun row T' hr hl' f' => HQ ((c0 : Int) :: row) T' (by
              have hlt : k < (rwl s pl st n (ngap c0 gaps) (nuse c0 used) (nful st pre.length c0 full)).length := (List.getElem?_eq_some_iff.mp hr).1
              rw [List.getElem?_append_left (by rw [List.length_map]; exact hlt), List.getElem?_map, hr]
              rfl) (by rw [List.append_assoc] at hl'; exact hl') f'
            have HNX : ∀ (T' : Nat → Int → Int), (rwl s pl st n (ngap c0 gaps) (nuse c0 used) (nful st pre.length c0 full)).length ≤ k → LaidX (T' 52) pre → Fr [52] T2 T' → Ev E yX11_isLaid cX11_isLaid 11 (some .boolean) (kI E 10 Q) 0 0 174 [.ref 36, .int (jI (s : Int)), .int (jI g0), .int (jI n0), .int (jI (pl : Int)), .int (jI gaps), .int (jI (used : Int)), .int (jI (full : Int)), .int (jI ((pre.length : Nat) : Int)), .int (jI ((k - (rwl s pl st n (ngap c0 gaps) (nuse c0 used) (nful st pre.length c0 full)).length : Nat) : Int)), .int (jI ((c0 + 1 : Nat) : Int))] [] (W5 S T' D) := by
              intro T' hle hl' f'
              refine ihj (c0 + 1) _ T' (by omega) (by omega) hl' f' (fun row T3 hr hl3 f3 => HQ row T3 ?_ hl3 f3) (fun hle2 T3 u3 hu3 hl3 f3 => ?_)
              · rw [List.getElem?_append_right (by rw [List.length_map]; exact hle), List.length_map]
                exact hr
              · have h := HB (by rw [List.length_append, List.length_map]; omega) T3 u3 hu3 hl3 f3
                rw [List.length_append, List.length_map, Nat.sub_add_eq] at h
                exact h
            cases c0 with
            | zero =>
              have hg0 := pkB_0 hpk
              refine iL_pick0 hpl (by omega) hs hus hfu hg h46' hpk ?_
              have h := ihn (pre ++ [((0 : Nat) : Int)]) (gaps - 1) used full k (upF T1 52 pre.length ((0 : Nat) : Int)) (.int (jI ((0 : Nat) : Int))) (by rw [List.length_append]; show pre.length + 1 + n = pl; omega) rfl (by omega) hus hfu hk (by show Laid (upS T1 52 _ 52) _; rw [upS_s]; exact hL.put (by omega)) (f1.trans (Fr_up _ _ (by decide))) HQ2 (fun hle T' u3 hu3 hl' f' => by
                have hp := hl'.pop
                rw [dcl_snoc, if_neg (by decide)]
                exact iL_undo0 (st := st) hu3 hpl (by omega) hp.2 (HNX T' hle hp.1 f'))
              rw [List.length_append] at h
              exact h
            | succ c =>
              have hps := pkB_S hpk
              have hsc := h46 c (by omega)
              refine iL_pickS (c := c) (by omega) hpl (by omega) hs hus hfu hg h46' (by omega) hpk ?_
              have h := ihn (pre ++ [((c + 1 : Nat) : Int)]) gaps (used ||| 2 ^ c) (full ||| (2 ^ pre.length ||| 2 ^ (pre.length + st c))) k (upF T1 52 pre.length ((c + 1 : Nat) : Int)) (.int (jI ((c + 1 : Nat) : Int))) (by rw [List.length_append]; show pre.length + 1 + n = pl; omega) rfl hg (nuse_lt (c := c + 1) (by omega) hus) (nful_lt (st := st) (p := pre.length) (c := c + 1) hfu (by show pre.length + st c < 16; omega)) hk (by show Laid (upS T1 52 _ 52) _; rw [upS_s]; exact hL.put (by omega)) (f1.trans (Fr_up _ _ (by decide))) HQ2 (fun hle T' u3 hu3 hl' f' => by
                have hp := hl'.pop
                rw [dcl_snoc, if_neg (by omega)]
                exact iL_undoS (c := c) hu3 (by omega) hpl (by omega) (by rw [f' 46 (by decide)]; exact h46) (by omega) hp.2 (pow_and' hps.1) (two_and hbf hps.2.2) (HNX T' hle hp.1 f'))
              rw [List.length_append] at h
              exact h
          · rw [if_neg hpk, List.nil_append] at HQ HB
            exact iL_no (by omega) hpl (by omega) hs hus hfu hg h46' (by simpa using hpk) (ihj (c0 + 1) k T1 (by omega) hk hL f1 HQ HB)
      exact iL_first (st := st) hu hpl (by omega) hk hfu h52 hbf (inner 9 0 k T1 (by omega) hk hL.x f1 HQ HB)
/-- all rows of a set with so many gaps, in their order -/
def md_rws (a c : Int → Int) (s g : Int) : List (List Int) := rwl s.toNat (2 * pc s + g).toNat (md_st a c) (2 * pc s + g).toNat g 0 0
set_option maxRecDepth 100000 in
theorem lX11_isLaid {E : mx_E} {S T : Nat → Int → Int} {D : List mx_C} (hi : MI T) {s g n : Int} (hr : isRow s g) (h_n : 0 ≤ n ∧ n < 2147483648) {T2 : Nat → Int → Int} (hm : LM T T2 s.toNat 8) : ∀ (m : Nat) (j : Int) (T1 : Nat → Int → Int), j + m = 16 → 0 ≤ j → Fr [52] T2 T1 → (∀ q : Nat, (q : Int) < j → T1 52 q = -1) → Ev E yX11_isLaid cX11_isLaid 11 (some .boolean) (kI E 10 (fun v hp' => ∃ T', hp' = W5 S T' D ∧ SF T T' ∧ (∀ k : Int, 0 ≤ k ∧ k < 8 → T' 46 k = md_btw (T 37) (T 39) (T 37 1) k + 1) ∧ ((v = 0 ∧ (md_rws (T 37) (T 39) s g)[n.toNat]? = none) ∨ (v = 1 ∧ ∃ row, (md_rws (T 37) (T 39) s g)[n.toNat]? = some row ∧ Laid (T' 52) row)))) 0 0 8 [.ref 36, .int (jI s), .int (jI g), .int (jI n), .int (jI j), .retAddr 0, .retAddr 0, .retAddr 0, .retAddr 0, .retAddr 0, .retAddr 0] [] (W5 S T1 D) := by
  intro m
  induction m with
  | zero =>
    intro j T1 hj hj0 f1 h52
    have hpb := pc_B s
    refine L_i4 dX11_isLaid_8 ?_
    refine J_bipush dX11_isLaid_10 (by decide) ?_
    refine J_icmp_ge 29 dX11_isLaid_12 rfl (by omega) (by omega) (fun c12 => ?_) (fun c12 => ?_)
    · refine L_i1 dX11_isLaid_29 ?_
      refine L_i2 dX11_isLaid_30 ?_
      refine C_s2F vX11_414 dX11_isLaid_31 (qX11_longOf (by omega)) (Nat.le_of_ble_eq_true rfl) (by decide) ?_
      refine S_i4 dX11_isLaid_34 (by decide) rfl ?_
      refine L_i2 dX11_isLaid_36 ?_
      refine S_i5 dX11_isLaid_37 (by decide) rfl ?_
      refine J_iconst dX11_isLaid_39 ?_
      refine S_i6 dX11_isLaid_40 (by decide) rfl ?_
      refine J_iconst dX11_isLaid_42 ?_
      refine S_i7 dX11_isLaid_43 (by decide) rfl ?_
      refine J_iconst dX11_isLaid_45 ?_
      refine S_i8 dX11_isLaid_46 (by decide) rfl ?_
      refine L_i3 dX11_isLaid_48 ?_
      refine S_i9 dX11_isLaid_49 (by decide) rfl ?_
      have hla : Laid (T1 52) [] := ⟨fun j hj => absurd hj (Nat.not_lt_zero _), fun j _ h2 => h52 j (by omega)⟩
      have h46 : ∀ k : Nat, k < 8 → T1 46 k = ((md_st (T 37) (T 39) k : Nat) : Int) ∧ 1 ≤ md_st (T 37) (T 39) k ∧ md_st (T 37) (T 39) k ≤ 15 := fun k hk => ⟨by rw [f1 46 (by decide), hm.1 k (by omega), md_st_I hk], md_st_B hk⟩
      refine E_eq rfl (show _ = [.ref 36, .int (jI ((s.toNat : Nat) : Int)), .int (jI g), .int (jI n), .int (jI (((2 * pc s + g).toNat : Nat) : Int)), .int (jI g), .int (jI ((0 : Nat) : Int)), .int (jI ((0 : Nat) : Int)), .int (jI ((([] : List Int).length : Nat) : Int)), .int (jI ((n.toNat : Nat) : Int)), .retAddr 0] from by rw [show ((s.toNat : Nat) : Int) = s by omega, show (((2 * pc s + g).toNat : Nat) : Int) = 2 * pc s + g by omega, show ((n.toNat : Nat) : Int) = n by omega]; rfl) rfl rfl ?_
      have hSF1 : SF T T2 := ⟨hm.2.2.2.2.mono (by decide), fun j a _ => hm.2.2.2.1 j a⟩
      have hsf : ∀ T' : Nat → Int → Int, Fr [52] T1 T' → SF T T' ∧ ∀ k : Int, 0 ≤ k ∧ k < 8 → T' 46 k = md_btw (T 37) (T 39) (T 37 1) k + 1 := fun T' f' => ⟨hSF1.trans (SF.of (f1.trans f') (by decide) (by decide)), fun k hk => by rw [f' 46 (by decide), f1 46 (by decide)]; exact hm.1 k (by omega)⟩
      refine iL_main (T2 := T1) (by omega) (by omega) h46 (2 * pc s + g).toNat [] g 0 0 n.toNat T1 _ (Nat.zero_add _) rfl (by omega) (by decide) (by decide) (by omega) hla (Fr.refl _ _) (fun row T' hr2 hl' f' => ⟨T', rfl, (hsf T' f').1, (hsf T' f').2, Or.inr ⟨rfl, row, hr2, hl'⟩⟩) (fun hle T' u hu hl' f' => ?_)
      refine L_i8 dX11_isLaid_81 ?_
      refine J_if_ge 88 dX11_isLaid_83 rfl (by decide) (fun c83 => ?_) (fun c83 => ?_)
      · exfalso; exact absurd c83 (by decide)
      · refine J_iconst dX11_isLaid_86 ?_
        exact RQ_z rfl dX11_isLaid_87 (by decide) ⟨T', rfl, (hsf T' f').1, (hsf T' f').2, Or.inl ⟨rfl, List.getElem?_eq_none hle⟩⟩
    · exfalso; omega
  | succ m ih =>
    intro j T1 hj hj0 f1 h52
    refine L_i4 dX11_isLaid_8 ?_
    refine J_bipush dX11_isLaid_10 (by decide) ?_
    refine J_icmp_ge 29 dX11_isLaid_12 rfl (by omega) (by omega) (fun c12 => ?_) (fun c12 => ?_)
    · exfalso; omega
    · refine L_a0 dX11_isLaid_15 ?_
      refine GW_36_34 fX11_68 dX11_isLaid_16 ?_
      refine L_i4 dX11_isLaid_19 ?_
      refine J_iconst dX11_isLaid_21 ?_
      refine AS_52 dX11_isLaid_22 (by omega) ?_
      refine JI_4 dX11_isLaid_23 (by decide) rfl ?_
      refine E_goto 8 dX11_isLaid_26 rfl ?_
      exact ih (j + 1) _ (by omega) (by omega) (f1.trans (Fr_up _ _ (by decide))) (fun q hq => by rw [upS_s]; by_cases e : (q : Int) = j; (rw [e, up_s]); (rw [up_n e]; exact h52 q (by omega)))

set_option maxRecDepth 100000 in
theorem qX11_isLaid {S T : Nat → Int → Int} {D : List mx_C} (hi : MI T) {s g n : Int} (hr : isRow s g) (h_n : 0 ≤ n ∧ n < 2147483648) : SpI yX11_isLaid cX11_isLaid 11 (some .boolean) 10 [.ref 36, .int (jI s), .int (jI g), .int (jI n)] (W5 S T D) (fun v hp' => ∃ T', hp' = W5 S T' D ∧ SF T T' ∧ (∀ k : Int, 0 ≤ k ∧ k < 8 → T' 46 k = md_btw (T 37) (T 39) (T 37 1) k + 1) ∧ ((v = 0 ∧ (md_rws (T 37) (T 39) s g)[n.toNat]? = none) ∨ (v = 1 ∧ ∃ row, (md_rws (T 37) (T 39) s g)[n.toNat]? = some row ∧ Laid (T' 52) row))) := by
  refine Sp.of [.ref 36, .int (jI s), .int (jI g), .int (jI n), .retAddr 0, .retAddr 0, .retAddr 0, .retAddr 0, .retAddr 0, .retAddr 0, .retAddr 0] (by decide) (by simp) (Nat.le_of_ble_eq_true rfl) rfl (fun E => ?_)
  refine L_a0 dX11_isLaid_0 ?_
  refine L_i1 dX11_isLaid_1 ?_
  refine C_v1U vX11_401 dX11_isLaid_2 (qX11_layMembers hi hr.1) rfl rfl (Nat.le_of_ble_eq_true rfl) (by decide) (fun hp2 hq2 => ?_)
  obtain ⟨T2, rfl, hm⟩ := hq2
  refine J_iconst dX11_isLaid_5 ?_
  refine S_i4 dX11_isLaid_6 (by decide) rfl ?_
  exact lX11_isLaid hi hr h_n hm 16 0 T2 (by omega) (by omega) (Fr.refl _ _) (fun q hq => by omega)

/-- who stands at a place by the picks -/
def rwF (f : Int → Int) (st : Nat → Nat) (pl : Int) : Nat → Int → Int
  | 0, _ => 0
  | m + 1, p => if 0 < f p ∧ (p = pl ∨ p + st (f p - 1).toNat = pl) then f p else rwF f st pl m (p + 1)
theorem rwF_congr {f g : Int → Int} {st : Nat → Nat} {pl : Int} : ∀ (m : Nat) (p : Int), (∀ j : Int, p ≤ j ∧ j < p + m → f j = g j) → rwF f st pl m p = rwF g st pl m p := by
  intro m
  induction m with
  | zero => intro p _; rfl
  | succ m ih => intro p h; rw [rwF, rwF, h p (by omega), ih (p + 1) (fun j hj => h j (by omega))]
/-- who stands at a place of a row -/
def md_rat (a c : Int → Int) (s g i pl : Int) : Int := match (md_rws a c s g)[i.toNat]? with
  | none => -1
  | some row => rwF (fun j => row.getD j.toNat (-1)) (md_st a c) pl (pl + 1).toNat 0
theorem rwl_len {s pl : Nat} {st : Nat → Nat} : ∀ (n : Nat) (gaps : Int) (used full : Nat) (row : List Int), row ∈ rwl s pl st n gaps used full → row.length = n := by
  intro n
  induction n with
  | zero => intro gaps used full row h; rw [rwl] at h; have : row = [] := by simpa using h
            subst this; rfl
  | succ n ih =>
    intro gaps used full row h
    rw [rwl] at h
    split at h
    · rw [List.mem_map] at h
      obtain ⟨x, hx, rfl⟩ := h
      rw [List.length_cons, ih _ _ _ _ hx]
    · rw [List.mem_flatMap] at h
      obtain ⟨c, _, h⟩ := h
      split at h
      · rw [List.mem_map] at h
        obtain ⟨x, hx, rfl⟩ := h
        rw [List.length_cons, ih _ _ _ _ hx]
      · exact absurd h (by simp)
set_option maxRecDepth 100000 in
theorem lX11_rowAt {E : mx_E} {S T : Nat → Int → Int} {D : List mx_C} {T2 : Nat → Int → Int} {s g i pl r : Int} {row : List Int} (f2 : SF T T2) (h46 : ∀ k : Int, 0 ≤ k ∧ k < 8 → T2 46 k = md_btw (T 37) (T 39) (T 37 1) k + 1) (hL : Laid (T2 52) row) (h_pl : 0 ≤ pl ∧ pl ≤ 15) : ∀ (m : Nat) (p : Int), p + m = pl + 1 → 0 ≤ p → rwF (T2 52) (md_st (T 37) (T 39)) pl m p = r → Ev E yX11_rowAt cX11_rowAt 6 (some .int) (kI E 11 (fun v hp' => v = r ∧ ∃ T', hp' = W5 S T' D ∧ SF T T')) 0 0 43 [.ref 36, .int (jI s), .int (jI g), .int (jI i), .int (jI pl), .int (jI p)] [] (W5 S T2 D) := by
  intro m
  induction m with
  | zero =>
    intro p hp hp0 hres
    refine L_i5 dX11_rowAt_43 ?_
    refine L_i4 dX11_rowAt_45 ?_
    refine J_icmp_gt 103 dX11_rowAt_47 rfl (by omega) (by omega) (fun c47 => ?_) (fun c47 => ?_)
    · refine J_iconst dX11_rowAt_103 ?_
      exact RQ_i rfl dX11_rowAt_104 ⟨hres, T2, rfl, f2⟩
    · exfalso; omega
  | succ m ih =>
    intro p hp hp0 hres
    have hb := hL.B p.toNat (by omega)
    rw [show ((p.toNat : Nat) : Int) = p by omega] at hb
    rw [rwF] at hres
    have hst : 0 < T2 52 p → T2 46 (T2 52 p - 1) = ((md_st (T 37) (T 39) (T2 52 p - 1).toNat : Nat) : Int) ∧ 1 ≤ md_st (T 37) (T 39) (T2 52 p - 1).toNat ∧ md_st (T 37) (T 39) (T2 52 p - 1).toNat ≤ 15 := fun h => by
      have h2 := h46 (T2 52 p - 1) (by omega)
      have h3 := md_st_I (a := T 37) (c := T 39) (k := (T2 52 p - 1).toNat) (by omega)
      rw [show (((T2 52 p - 1).toNat : Nat) : Int) = T2 52 p - 1 by omega] at h3
      exact ⟨by rw [h2, h3], md_st_B (by omega)⟩
    refine L_i5 dX11_rowAt_43 ?_
    refine L_i4 dX11_rowAt_45 ?_
    refine J_icmp_gt 103 dX11_rowAt_47 rfl (by omega) (by omega) (fun c47 => ?_) (fun c47 => ?_)
    · exfalso; omega
    · refine L_a0 dX11_rowAt_50 ?_
      refine GW_36_34 fX11_68 dX11_rowAt_51 ?_
      refine L_i5 dX11_rowAt_54 ?_
      refine AR_52 dX11_rowAt_56 (by omega) ?_
      refine J_if_le 97 dX11_rowAt_57 rfl (by omega) (fun c57 => ?_) (fun c57 => ?_)
      · refine JI_5 dX11_rowAt_97 (by decide) rfl ?_
        refine E_goto 43 dX11_rowAt_100 rfl ?_
        exact ih (p + 1) (by omega) (by omega) (by rw [if_neg (fun h => by omega)] at hres; exact hres)
      · refine L_i5 dX11_rowAt_60 ?_
        refine L_i4 dX11_rowAt_62 ?_
        refine J_icmp_eq 89 dX11_rowAt_64 rfl (by omega) (by omega) (fun c64 => ?_) (fun c64 => ?_)
        · refine L_a0 dX11_rowAt_89 ?_
          refine GW_36_34 fX11_68 dX11_rowAt_90 ?_
          refine L_i5 dX11_rowAt_93 ?_
          refine AR_52 dX11_rowAt_95 (by omega) ?_
          exact RQ_i rfl dX11_rowAt_96 ⟨by rw [if_pos ⟨by omega, by omega⟩] at hres; exact hres, T2, rfl, f2⟩
        · refine L_i5 dX11_rowAt_67 ?_
          refine L_a0 dX11_rowAt_69 ?_
          refine GW_36_26 fX11_50 dX11_rowAt_70 ?_
          refine L_a0 dX11_rowAt_73 ?_
          refine GW_36_34 fX11_68 dX11_rowAt_74 ?_
          refine L_i5 dX11_rowAt_77 ?_
          refine AR_52 dX11_rowAt_79 (by omega) ?_
          refine J_iconst dX11_rowAt_80 ?_
          refine J_isub dX11_rowAt_81 ?_
          have hst2 := hst (by omega)
          refine AR_46 dX11_rowAt_82 (by omega) ?_
          refine J_eqi (b := ((md_st (T 37) (T 39) (T2 52 p - 1).toNat : Nat) : Int)) (hst (by omega)).1 ?_
          refine J_iadd dX11_rowAt_83 ?_
          refine L_i4 dX11_rowAt_84 ?_
          refine J_icmp_ne 97 dX11_rowAt_86 rfl (by omega) (by omega) (fun c86 => ?_) (fun c86 => ?_)
          · refine JI_5 dX11_rowAt_97 (by decide) rfl ?_
            refine E_goto 43 dX11_rowAt_100 rfl ?_
            exact ih (p + 1) (by omega) (by omega) (by rw [if_neg (fun h => by omega)] at hres; exact hres)
          · refine L_a0 dX11_rowAt_89 ?_
            refine GW_36_34 fX11_68 dX11_rowAt_90 ?_
            refine L_i5 dX11_rowAt_93 ?_
            refine AR_52 dX11_rowAt_95 (by omega) ?_
            exact RQ_i rfl dX11_rowAt_96 ⟨by rw [if_pos ⟨by omega, by omega⟩] at hres; exact hres, T2, rfl, f2⟩

set_option maxRecDepth 100000 in
theorem qX11_rowAt {S T : Nat → Int → Int} {D : List mx_C} (hi : MI T) {s : Int} (h_s : -2147483648 ≤ s ∧ s < 2147483648) {g : Int} (h_g : -2147483648 ≤ g ∧ g < 2147483648) {i : Int} (h_i : -2147483648 ≤ i ∧ i < 2147483648) {pl : Int} (h_pl : -2147483648 ≤ pl ∧ pl < 2147483648) : SpI yX11_rowAt cX11_rowAt 6 (some .int) 11 [.ref 36, .int (jI s), .int (jI g), .int (jI i), .int (jI pl)] (W5 S T D) (fun v hp' => v = (if isRow s g ∧ 0 ≤ i ∧ (0 ≤ pl ∧ pl ≤ 2 * pc s + g - 1) then md_rat (T 37) (T 39) s g i pl else -1) ∧ ∃ T', hp' = W5 S T' D ∧ SF T T') := by
  have hpb := pc_B s
  refine Sp.of [.ref 36, .int (jI s), .int (jI g), .int (jI i), .int (jI pl), .retAddr 0] (by decide) (by simp) (Nat.le_of_ble_eq_true rfl) rfl (fun E => ?_)
  refine L_i1 dX11_rowAt_0 ?_
  refine L_i2 dX11_rowAt_1 ?_
  refine C_s2F vX11_424 dX11_rowAt_2 (qX11_isRowOf (by omega) (by omega)) (Nat.le_of_ble_eq_true rfl) (by decide) ?_
  refine J_ifeqB 38 dX11_rowAt_5 rfl (fun c5 => ?_) (fun c5 => ?_)
  · refine J_iconst dX11_rowAt_38 ?_
    exact RQ_i rfl dX11_rowAt_39 (by first | (refine ⟨?_, T32, rfl, f32⟩; rw [if_pos ⟨c5, c9, c25⟩]; rcases hv32 with h | h; (unfold md_rat; rw [h.2]); (exact absurd h.1 (by omega))) | exact ⟨by rw [if_neg (fun h => by omega)], T, rfl, SF.refl T⟩)
  · refine L_i3 dX11_rowAt_8 ?_
    refine J_if_lt 38 dX11_rowAt_9 rfl (by omega) (fun c9 => ?_) (fun c9 => ?_)
    · refine J_iconst dX11_rowAt_38 ?_
      exact RQ_i rfl dX11_rowAt_39 (by first | (refine ⟨?_, T32, rfl, f32⟩; rw [if_pos ⟨c5, c9, c25⟩]; rcases hv32 with h | h; (unfold md_rat; rw [h.2]); (exact absurd h.1 (by omega))) | exact ⟨by rw [if_neg (fun h => by omega)], T, rfl, SF.refl T⟩)
    · refine L_i4 dX11_rowAt_12 ?_
      refine J_iconst dX11_rowAt_14 ?_
      refine L_i1 dX11_rowAt_15 ?_
      refine L_i2 dX11_rowAt_16 ?_
      refine C_s2F vX11_414 dX11_rowAt_17 (qX11_longOf (by omega)) (Nat.le_of_ble_eq_true rfl) (by decide) ?_
      refine J_iconst dX11_rowAt_20 ?_
      refine J_isub dX11_rowAt_21 ?_
      refine C_s3F vX11_83 dX11_rowAt_22 (qX11_isIn (by omega) (by omega) (by omega)) (Nat.le_of_ble_eq_true rfl) (by decide) ?_
      refine J_ifeqB 38 dX11_rowAt_25 rfl (fun c25 => ?_) (fun c25 => ?_)
      · refine J_iconst dX11_rowAt_38 ?_
        exact RQ_i rfl dX11_rowAt_39 (by first | (refine ⟨?_, T32, rfl, f32⟩; rw [if_pos ⟨c5, c9, c25⟩]; rcases hv32 with h | h; (unfold md_rat; rw [h.2]); (exact absurd h.1 (by omega))) | exact ⟨by rw [if_neg (fun h => by omega)], T, rfl, SF.refl T⟩)
      · refine L_a0 dX11_rowAt_28 ?_
        refine L_i1 dX11_rowAt_29 ?_
        refine L_i2 dX11_rowAt_30 ?_
        refine L_i3 dX11_rowAt_31 ?_
        refine C_v3I vX11_451 dX11_rowAt_32 (qX11_isLaid hi c5 (by omega)) rfl rfl (Nat.le_of_ble_eq_true rfl) (by decide) (fun v32 hp32 hq32 => ?_)
        obtain ⟨T32, rfl, f32, h4632, hv32⟩ := hq32
        have hv01 : v32 = 0 ∨ v32 = 1 := by rcases hv32 with h | h; exact Or.inl h.1; exact Or.inr h.1
        refine J_if_ne 40 dX11_rowAt_35 rfl (by omega) (fun c35 => ?_) (fun c35 => ?_)
        · refine J_iconst dX11_rowAt_40 ?_
          refine S_i5 dX11_rowAt_41 (by decide) rfl ?_
          rw [if_pos ⟨c5, c9, c25⟩]
          obtain ⟨_, row, hr, hL⟩ : v32 = 1 ∧ ∃ row, (md_rws (T 37) (T 39) s g)[i.toNat]? = some row ∧ Laid (T32 52) row := by
            rcases hv32 with h | h
            · exact absurd h.1 c35
            · exact h
          refine lX11_rowAt f32 h4632 hL (by omega) (pl + 1).toNat 0 (by omega) (by omega) ?_
          unfold md_rat
          rw [hr]
          refine rwF_congr _ _ (fun j hj => ?_)
          have hlen := rwl_len _ _ _ _ _ (List.mem_of_getElem? hr)
          have h1 := hL.1 j.toNat (by omega)
          rw [show ((j.toNat : Nat) : Int) = j by omega] at h1
          rw [h1.1, List.getD_eq_getElem?_getD, List.getD_eq_getElem?_getD, List.getElem?_eq_getElem (by omega)]
          rfl
        · refine J_iconst dX11_rowAt_38 ?_
          exact RQ_i rfl dX11_rowAt_39 (by first | (refine ⟨?_, T32, rfl, f32⟩; rw [if_pos ⟨c5, c9, c25⟩]; rcases hv32 with h | h; (unfold md_rat; rw [h.2]); (exact absurd h.1 (by omega))) | exact ⟨by rw [if_neg (fun h => by omega)], T, rfl, SF.refl T⟩)

set_option maxRecDepth 100000 in
theorem qX11_row {S T : Nat → Int → Int} {D : List mx_C} (hi : MI T) {s : Int} (h_s : -2147483648 ≤ s ∧ s < 2147483648) {g : Int} (h_g : -2147483648 ≤ g ∧ g < 2147483648) {pl : Int} (h_pl : -2147483648 ≤ pl ∧ pl < 2147483648) : SpI yX11_row cX11_row 4 (some .int) 12 [.ref 36, .int (jI s), .int (jI g), .int (jI pl)] (W5 S T D) (fun v hp' => v = (if isRow s g ∧ (0 : Int) ≤ 0 ∧ (0 ≤ pl ∧ pl ≤ 2 * pc s + g - 1) then md_rat (T 37) (T 39) s g 0 pl else -1) ∧ ∃ T', hp' = W5 S T' D ∧ SF T T') := by
  refine Sp.of [.ref 36, .int (jI s), .int (jI g), .int (jI pl)] (by decide) (by simp) (Nat.le_of_ble_eq_true rfl) rfl (fun E => ?_)
  refine L_a0 dX11_row_0 ?_
  refine L_i1 dX11_row_1 ?_
  refine L_i2 dX11_row_2 ?_
  refine J_iconst dX11_row_3 ?_
  refine L_i3 dX11_row_4 ?_
  refine C_v4I vX11_448 dX11_row_5 (qX11_rowAt hi (by omega) (by omega) (by omega) (by omega)) rfl rfl (Nat.le_of_ble_eq_true rfl) (by decide) (fun v5 hp5 hq5 => ?_)
  exact RQ_i rfl dX11_row_8 hq5

