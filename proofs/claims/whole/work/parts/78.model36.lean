/-! ===== the reference: rows in their order, the search's steps ===== -/
def ngap (c : Nat) (gaps : Int) : Int := if c = 0 then gaps - 1 else gaps
def nuse (c used : Nat) : Nat := if c = 0 then used else used ||| 2 ^ (c - 1)
def nmsk (st : Nat → Nat) (p c : Nat) : Nat := 2 ^ p ||| 2 ^ (p + st (c - 1))
def nful (st : Nat → Nat) (p c full : Nat) : Nat := if c = 0 then full else full ||| nmsk st p c
/-- all rows from a place on, n places being left -/
def rwl (s pl : Nat) (st : Nat → Nat) : Nat → Int → Nat → Nat → List (List Int)
  | 0, _, _, _ => [[]]
  | n + 1, gaps, used, full => if full.testBit (pl - (n + 1)) = true then (rwl s pl st n gaps used full).map ((-1) :: ·) else (List.range 9).flatMap (fun c => if pkB s st pl used full (pl - (n + 1)) c gaps = true then (rwl s pl st n (ngap c gaps) (nuse c used) (nful st (pl - (n + 1)) c full)).map ((c : Int) :: ·) else [])
/-- picks laid, from below -/
def Laid (f : Int → Int) (pre : List Int) : Prop := (∀ j : Nat, j < pre.length → f j = pre.getD j 0 ∧ -1 ≤ f j ∧ f j ≤ 8) ∧ ∀ j : Nat, pre.length ≤ j → j < 16 → f j = -1
theorem Laid.B {f : Int → Int} {pre : List Int} (h : Laid f pre) : ∀ j : Nat, j < 16 → -1 ≤ f j ∧ f j ≤ 8 := by
  intro j hj
  rcases Nat.lt_or_ge j pre.length with h1 | h1
  · exact (h.1 j h1).2
  · rw [h.2 j h1 hj]; omega
theorem Laid.skip {f : Int → Int} {pre : List Int} (hl : pre.length < 16) : Laid f (pre ++ [-1]) ↔ Laid f pre := by
  constructor
  · intro h
    refine ⟨fun j hj => ?_, fun j h1 h2 => ?_⟩
    · have := h.1 j (by rw [List.length_append]; omega)
      rw [getD_append_l hj] at this
      exact this
    · by_cases e : j = pre.length
      · subst e
        have := h.1 pre.length (by rw [List.length_append]; show _ < _ + 1; omega)
        rw [getD_append_r] at this
        exact this.1
      · exact h.2 j (by rw [List.length_append]; show _ + 1 ≤ _; omega) h2
  · intro h
    refine ⟨fun j hj => ?_, fun j h1 h2 => ?_⟩
    · rw [List.length_append] at hj
      have hj : j < pre.length + 1 := hj
      by_cases e : j = pre.length
      · subst e
        rw [getD_append_r, h.2 pre.length (Nat.le_refl _) hl]
        exact ⟨rfl, by decide, by decide⟩
      · rw [getD_append_l (by omega)]
        exact h.1 j (by omega)
    · rw [List.length_append] at h1
      have h1 : pre.length + 1 ≤ j := h1
      exact h.2 j (by omega) h2
/-- all laid but what stands at the place itself -/
def LaidX (f : Int → Int) (pre : List Int) : Prop := (∀ j : Nat, j < pre.length → f j = pre.getD j 0 ∧ -1 ≤ f j ∧ f j ≤ 8) ∧ ∀ j : Nat, pre.length < j → j < 16 → f j = -1
theorem Laid.x {f : Int → Int} {pre : List Int} (h : Laid f pre) : LaidX f pre := ⟨h.1, fun j h1 h2 => h.2 j (by omega) h2⟩
theorem LaidX.put {f : Int → Int} {pre : List Int} (h : LaidX f pre) {c : Nat} (hc : c ≤ 8) : Laid (up f (pre.length : Nat) (c : Int)) (pre ++ [(c : Int)]) := by
  refine ⟨fun j hj => ?_, fun j h1 h2 => ?_⟩
  · rw [List.length_append] at hj
    have hj : j < pre.length + 1 := hj
    by_cases e : j = pre.length
    · subst e
      rw [getD_append_r, up_s]
      omega
    · rw [getD_append_l (by omega), up_n (by omega)]
      exact h.1 j (by omega)
  · rw [List.length_append] at h1
    have h1 : pre.length + 1 ≤ j := h1
    rw [up_n (by omega)]
    exact h.2 j (by omega) h2
theorem LaidX.out {f : Int → Int} {pre : List Int} (h : LaidX f pre) (hl : pre.length < 16) : Laid (up f (pre.length : Nat) (-1)) pre := by
  refine ⟨fun j hj => ?_, fun j h1 h2 => ?_⟩
  · rw [up_n (by omega)]
    exact h.1 j hj
  · by_cases e : j = pre.length
    · subst e; rw [up_s]
    · rw [up_n (by omega)]; exact h.2 j (by omega) h2
theorem Laid.pop {f : Int → Int} {pre : List Int} {c : Int} (h : Laid f (pre ++ [c])) : LaidX f pre ∧ f (pre.length : Nat) = c := by
  refine ⟨⟨fun j hj => ?_, fun j h1 h2 => ?_⟩, ?_⟩
  · have := h.1 j (by rw [List.length_append]; omega)
    rw [getD_append_l hj] at this
    exact this
  · exact h.2 j (by rw [List.length_append]; show _ + 1 ≤ _; omega) h2
  · have := h.1 pre.length (by rw [List.length_append]; show _ < _ + 1; omega)
    rw [getD_append_r] at this
    exact this.1
/-- where the last pick lies -/
def dcl (pre : List Int) : Int := dcd (fun j => pre.getD j.toNat 0) pre.length
theorem dcl_eq {f : Int → Int} {pre : List Int} (h : ∀ j : Nat, j < pre.length → f j = pre.getD j 0 ∧ -1 ≤ f j ∧ f j ≤ 8) : dcd f pre.length = dcl pre := dcd_congr _ (fun j hj => by rw [(h j hj).1]; rfl)
theorem dcl_snoc (pre : List Int) (c : Int) : dcl (pre ++ [c]) = if c = -1 then dcl pre else (pre.length : Int) := by
  unfold dcl
  rw [List.length_append]
  show dcd _ (pre.length + 1) = _
  rw [dcd]
  have e : (pre ++ [c]).getD ((pre.length : Nat) : Int).toNat 0 = c := by rw [Int.toNat_natCast]; exact getD_append_r _ _ _
  rw [e]
  by_cases h : c = -1
  · rw [if_pos h, if_pos h]
    exact dcd_congr _ (fun j hj => by show (pre ++ [c]).getD _ 0 = pre.getD _ 0; rw [getD_append_l (by omega)])
  · rw [if_neg h, if_neg h]
theorem dcl_B (pre : List Int) : -1 ≤ dcl pre ∧ dcl pre < pre.length := dcd_B _ _
set_option maxRecDepth 100000 in
theorem iL_skip {E : mx_E} {S T : Nat → Int → Int} {D : List mx_C} {Q : Int → List mx_C → Prop} {s pl used full p k : Nat} {g0 n0 gaps : Int} {st : Nat → Nat} {u : Value} (hu10 : u.category = 1) (hpl : pl ≤ 16) (hp : p < pl) (hk : k < 2147483648) (hf : full < 65536) (h52 : T 52 p = -1) (hb : full.testBit p = true) (kk : ∀ u : Value, u.category = 1 → Ev E yX11_isLaid cX11_isLaid 11 (some .boolean) (kI E 10 Q) 0 0 51 [.ref 36, .int (jI (s : Int)), .int (jI g0), .int (jI n0), .int (jI (pl : Int)), .int (jI gaps), .int (jI (used : Int)), .int (jI (full : Int)), .int (jI ((p + 1 : Nat) : Int)), .int (jI (k : Int)), u] [] (W5 S T D)) : Ev E yX11_isLaid cX11_isLaid 11 (some .boolean) (kI E 10 Q) 0 0 51 [.ref 36, .int (jI (s : Int)), .int (jI g0), .int (jI n0), .int (jI (pl : Int)), .int (jI gaps), .int (jI (used : Int)), .int (jI (full : Int)), .int (jI (p : Int)), .int (jI (k : Int)), u] [] (W5 S T D) := by
  have hb52 : -1 ≤ T 52 p ∧ T 52 p ≤ 8 := by omega
  refine L_i8 dX11_isLaid_51 ?_
  refine L_i4 dX11_isLaid_53 ?_
  refine J_icmp_lt 63 dX11_isLaid_55 rfl (by omega) (by omega) (fun c55 => ?_) (fun c55 => ?_)
  · refine L_i8 dX11_isLaid_63 ?_
    refine L_i4 dX11_isLaid_65 ?_
    refine J_icmp_ne 81 dX11_isLaid_67 rfl (by omega) (by omega) (fun c67 => ?_) (fun c67 => ?_)
    · refine L_i8 dX11_isLaid_81 ?_
      refine J_if_ge 88 dX11_isLaid_83 rfl (by omega) (fun c83 => ?_) (fun c83 => ?_)
      · refine L_a0 dX11_isLaid_88 ?_
        refine GW_36_34 fX11_68 dX11_isLaid_89 ?_
        refine L_i8 dX11_isLaid_92 ?_
        refine AR_52 dX11_isLaid_94 (by omega) ?_
        refine S_i10 dX11_isLaid_95 (by decide) rfl ?_
        refine L_i10 dX11_isLaid_97 ?_
        refine J_iconst dX11_isLaid_99 ?_
        refine J_icmp_ne 119 dX11_isLaid_100 rfl (by omega) (by omega) (fun c100 => ?_) (fun c100 => ?_)
        · exfalso; exact c100 h52
        · refine L_i7 dX11_isLaid_103 ?_
          refine L_i8 dX11_isLaid_105 ?_
          refine C_s2F vX11_251 dX11_isLaid_107 (qX11_has (by omega) (by omega)) (Nat.le_of_ble_eq_true rfl) (by decide) ?_
          refine J_ifeqB 119 dX11_isLaid_110 rfl (fun c110 => ?_) (fun c110 => ?_)
          · exfalso; exact c110 ((bt_has (s := (full : Int)) (k := (p : Int)) (by omega)).mpr hb)
          · refine JI_8 dX11_isLaid_113 (by decide) rfl ?_
            refine E_goto 51 dX11_isLaid_116 rfl ?_
            exact kk _ rfl
      · exfalso; omega
    · exfalso; omega
  · exfalso; omega
set_option maxRecDepth 100000 in
theorem iL_first {E : mx_E} {S T : Nat → Int → Int} {D : List mx_C} {Q : Int → List mx_C → Prop} {s pl used full p k : Nat} {g0 n0 gaps : Int} {st : Nat → Nat} {u : Value} (hu10 : u.category = 1) (hpl : pl ≤ 16) (hp : p < pl) (hk : k < 2147483648) (hf : full < 65536) (h52 : T 52 p = -1) (hb : full.testBit p = false) (kk : Ev E yX11_isLaid cX11_isLaid 11 (some .boolean) (kI E 10 Q) 0 0 174 [.ref 36, .int (jI (s : Int)), .int (jI g0), .int (jI n0), .int (jI (pl : Int)), .int (jI gaps), .int (jI (used : Int)), .int (jI (full : Int)), .int (jI (p : Int)), .int (jI (k : Int)), .int (jI ((0 : Nat) : Int))] [] (W5 S T D)) : Ev E yX11_isLaid cX11_isLaid 11 (some .boolean) (kI E 10 Q) 0 0 51 [.ref 36, .int (jI (s : Int)), .int (jI g0), .int (jI n0), .int (jI (pl : Int)), .int (jI gaps), .int (jI (used : Int)), .int (jI (full : Int)), .int (jI (p : Int)), .int (jI (k : Int)), u] [] (W5 S T D) := by
  refine L_i8 dX11_isLaid_51 ?_
  refine L_i4 dX11_isLaid_53 ?_
  refine J_icmp_lt 63 dX11_isLaid_55 rfl (by omega) (by omega) (fun c55 => ?_) (fun c55 => ?_)
  · refine L_i8 dX11_isLaid_63 ?_
    refine L_i4 dX11_isLaid_65 ?_
    refine J_icmp_ne 81 dX11_isLaid_67 rfl (by omega) (by omega) (fun c67 => ?_) (fun c67 => ?_)
    · refine L_i8 dX11_isLaid_81 ?_
      refine J_if_ge 88 dX11_isLaid_83 rfl (by omega) (fun c83 => ?_) (fun c83 => ?_)
      · refine L_a0 dX11_isLaid_88 ?_
        refine GW_36_34 fX11_68 dX11_isLaid_89 ?_
        refine L_i8 dX11_isLaid_92 ?_
        refine AR_52 dX11_isLaid_94 (by omega) ?_
        refine J_eqi (b := -1) h52 ?_
        refine S_i10 dX11_isLaid_95 (by decide) rfl ?_
        refine L_i10 dX11_isLaid_97 ?_
        refine J_iconst dX11_isLaid_99 ?_
        refine J_icmp_ne 119 dX11_isLaid_100 rfl (by omega) (by omega) (fun c100 => ?_) (fun c100 => ?_)
        · exfalso; exact c100 rfl
        · refine L_i7 dX11_isLaid_103 ?_
          refine L_i8 dX11_isLaid_105 ?_
          refine C_s2F vX11_251 dX11_isLaid_107 (qX11_has (by omega) (by omega)) (Nat.le_of_ble_eq_true rfl) (by decide) ?_
          refine J_ifeqB 119 dX11_isLaid_110 rfl (fun c110 => ?_) (fun c110 => ?_)
          · refine L_i10 dX11_isLaid_119 ?_
            refine J_if_ne 127 dX11_isLaid_121 rfl (by omega) (fun c121 => ?_) (fun c121 => ?_)
            · refine L_i10 dX11_isLaid_127 ?_
              refine J_if_le 171 dX11_isLaid_129 rfl (by omega) (fun c129 => ?_) (fun c129 => ?_)
              · refine JI_10 dX11_isLaid_171 (by decide) rfl ?_
                exact kk
              · exfalso; omega
            · exfalso; omega
          · exfalso; have h2 := (bt_has (s := (full : Int)) (k := (p : Int)) (by omega)).mp c110; rw [show bt (full : Int) ((p : Int)).toNat ↔ full.testBit p = true from Iff.rfl, hb] at h2; exact absurd h2 (by decide)
      · exfalso; omega
    · exfalso; omega
  · exfalso; omega
set_option maxRecDepth 100000 in
theorem iL_end0 {E : mx_E} {S T : Nat → Int → Int} {D : List mx_C} {Q : Int → List mx_C → Prop} {s pl used full p k : Nat} {g0 n0 gaps : Int} {st : Nat → Nat} {u : Value} (hu10 : u.category = 1) (hpl : pl ≤ 16) (hp : p = pl) (hq : Q 1 (W5 S T D)) : Ev E yX11_isLaid cX11_isLaid 11 (some .boolean) (kI E 10 Q) 0 0 51 [.ref 36, .int (jI (s : Int)), .int (jI g0), .int (jI n0), .int (jI (pl : Int)), .int (jI gaps), .int (jI (used : Int)), .int (jI (full : Int)), .int (jI (p : Int)), .int (jI ((0 : Nat) : Int)), u] [] (W5 S T D) := by
  refine L_i8 dX11_isLaid_51 ?_
  refine L_i4 dX11_isLaid_53 ?_
  refine J_icmp_lt 63 dX11_isLaid_55 rfl (by omega) (by omega) (fun c55 => ?_) (fun c55 => ?_)
  · exfalso; omega
  · refine L_i9 dX11_isLaid_58 ?_
    refine J_if_le 299 dX11_isLaid_60 rfl (by omega) (fun c60 => ?_) (fun c60 => ?_)
    · refine J_iconst dX11_isLaid_299 ?_
      exact RQ_z rfl dX11_isLaid_300 (by decide) hq
    · exfalso; exact absurd c60 (by decide)
set_option maxRecDepth 100000 in
theorem iL_end {E : mx_E} {S T : Nat → Int → Int} {D : List mx_C} {Q : Int → List mx_C → Prop} {s pl used full p k : Nat} {g0 n0 gaps : Int} {st : Nat → Nat} {u : Value} (hu10 : u.category = 1) (hpl : pl ≤ 16) (hp : p = pl) (hk : k + 1 < 2147483648) (hB : ∀ j : Nat, j < 16 → -1 ≤ T 52 j ∧ T 52 j ≤ 8) (kk : Ev E yX11_isLaid cX11_isLaid 11 (some .boolean) (kI E 10 Q) 0 0 81 [.ref 36, .int (jI (s : Int)), .int (jI g0), .int (jI n0), .int (jI (pl : Int)), .int (jI gaps), .int (jI (used : Int)), .int (jI (full : Int)), .int (jI (dcd (T 52) p)), .int (jI (k : Int)), u] [] (W5 S T D)) : Ev E yX11_isLaid cX11_isLaid 11 (some .boolean) (kI E 10 Q) 0 0 51 [.ref 36, .int (jI (s : Int)), .int (jI g0), .int (jI n0), .int (jI (pl : Int)), .int (jI gaps), .int (jI (used : Int)), .int (jI (full : Int)), .int (jI (p : Int)), .int (jI ((k + 1 : Nat) : Int)), u] [] (W5 S T D) := by
  refine L_i8 dX11_isLaid_51 ?_
  refine L_i4 dX11_isLaid_53 ?_
  refine J_icmp_lt 63 dX11_isLaid_55 rfl (by omega) (by omega) (fun c55 => ?_) (fun c55 => ?_)
  · exfalso; omega
  · refine L_i9 dX11_isLaid_58 ?_
    refine J_if_le 299 dX11_isLaid_60 rfl (by omega) (fun c60 => ?_) (fun c60 => ?_)
    · exfalso; omega
    · refine L_i8 dX11_isLaid_63 ?_
      refine L_i4 dX11_isLaid_65 ?_
      refine J_icmp_ne 81 dX11_isLaid_67 rfl (by omega) (by omega) (fun c67 => ?_) (fun c67 => ?_)
      · exfalso; omega
      · refine JI_9 dX11_isLaid_70 (by decide) rfl ?_
        refine L_a0 dX11_isLaid_73 ?_
        refine L_i8 dX11_isLaid_74 ?_
        refine C_v1F vX11_441 dX11_isLaid_76 (qX11_decidedAhead hB (by omega)) rfl rfl (Nat.le_of_ble_eq_true rfl) (by decide) ?_
        refine S_i8 dX11_isLaid_79 (by decide) rfl ?_
        refine E_eq rfl (show _ = [.ref 36, .int (jI (s : Int)), .int (jI g0), .int (jI n0), .int (jI (pl : Int)), .int (jI gaps), .int (jI (used : Int)), .int (jI (full : Int)), .int (jI (dcd (T 52) p)), .int (jI (k : Int)), u] from by rw [show (((k + 1 : Nat) : Int) + -1) = (k : Int) by omega]) rfl rfl ?_
        exact kk
set_option maxRecDepth 100000 in
theorem iL_exh {E : mx_E} {S T : Nat → Int → Int} {D : List mx_C} {Q : Int → List mx_C → Prop} {s pl used full p k : Nat} {g0 n0 gaps : Int} {st : Nat → Nat} (hpl : pl ≤ 16) (hp : p < pl) (hB : ∀ j : Nat, j < 16 → -1 ≤ up (T 52) p (-1) j ∧ up (T 52) p (-1) j ≤ 8) (hd0 : -1 ≤ dcd (up (T 52) p (-1)) p ∧ dcd (up (T 52) p (-1)) p < p) (kk : Ev E yX11_isLaid cX11_isLaid 11 (some .boolean) (kI E 10 Q) 0 0 81 [.ref 36, .int (jI (s : Int)), .int (jI g0), .int (jI n0), .int (jI (pl : Int)), .int (jI gaps), .int (jI (used : Int)), .int (jI (full : Int)), .int (jI (dcd (up (T 52) p (-1)) p)), .int (jI (k : Int)), .int (jI ((9 : Nat) : Int))] [] (W5 S (upF T 52 p (-1)) D)) : Ev E yX11_isLaid cX11_isLaid 11 (some .boolean) (kI E 10 Q) 0 0 174 [.ref 36, .int (jI (s : Int)), .int (jI g0), .int (jI n0), .int (jI (pl : Int)), .int (jI gaps), .int (jI (used : Int)), .int (jI (full : Int)), .int (jI (p : Int)), .int (jI (k : Int)), .int (jI ((9 : Nat) : Int))] [] (W5 S T D) := by
  refine L_i10 dX11_isLaid_174 ?_
  refine J_bipush dX11_isLaid_176 (by decide) ?_
  refine J_icmp_gt 207 dX11_isLaid_178 rfl (by omega) (by omega) (fun c178 => ?_) (fun c178 => ?_)
  · refine L_a0 dX11_isLaid_207 ?_
    refine GW_36_34 fX11_68 dX11_isLaid_208 ?_
    refine L_i8 dX11_isLaid_211 ?_
    refine L_i10 dX11_isLaid_213 ?_
    refine J_bipush dX11_isLaid_215 (by decide) ?_
    refine J_icmp_gt 225 dX11_isLaid_217 rfl (by omega) (by omega) (fun c217 => ?_) (fun c217 => ?_)
    · refine J_iconst dX11_isLaid_225 ?_
      refine AS_52 dX11_isLaid_226 (by omega) ?_
      refine L_i10 dX11_isLaid_227 ?_
      refine J_bipush dX11_isLaid_229 (by decide) ?_
      refine J_icmp_le 245 dX11_isLaid_231 rfl (by omega) (by omega) (fun c231 => ?_) (fun c231 => ?_)
      · exfalso; exact absurd c231 (by decide)
      · refine L_a0 dX11_isLaid_234 ?_
        refine L_i8 dX11_isLaid_235 ?_
        refine C_v1F vX11_441 dX11_isLaid_237 (qX11_decidedAhead (T := upF T 52 p (-1)) hB (by omega)) rfl rfl (Nat.le_of_ble_eq_true rfl) (by decide) ?_
        refine J_eqi (b := dcd (up (T 52) p (-1)) p) rfl ?_
        refine S_i8 dX11_isLaid_240 (by decide) rfl ?_
        refine E_goto 51 dX11_isLaid_242 rfl ?_
        refine L_i8 dX11_isLaid_51 ?_
        refine L_i4 dX11_isLaid_53 ?_
        refine J_icmp_lt 63 dX11_isLaid_55 rfl (by omega) (by omega) (fun c55 => ?_) (fun c55 => ?_)
        · refine L_i8 dX11_isLaid_63 ?_
          refine L_i4 dX11_isLaid_65 ?_
          refine J_icmp_ne 81 dX11_isLaid_67 rfl (by omega) (by omega) (fun c67 => ?_) (fun c67 => ?_)
          · exact kk
          · exfalso; omega
        · exfalso; omega
    · exfalso; exact absurd c217 (by decide)
  · exfalso; exact absurd c178 (by decide)
set_option maxRecDepth 100000 in
theorem iL_no {E : mx_E} {S T : Nat → Int → Int} {D : List mx_C} {Q : Int → List mx_C → Prop} {s pl used full p k : Nat} {g0 n0 gaps : Int} {st : Nat → Nat} {c : Nat} (hc : c ≤ 8) (hpl : pl ≤ 16) (hp : p < pl) (hs : s < 256) (hu : used < 256) (hf : full < 65536) (hg : 0 ≤ gaps ∧ gaps ≤ 100) (h46 : ∀ k : Nat, k < 8 → T 46 k = (st k : Int) ∧ 1 ≤ st k ∧ st k ≤ 15) (hb : pkB s st pl used full p c gaps = false) (kk : Ev E yX11_isLaid cX11_isLaid 11 (some .boolean) (kI E 10 Q) 0 0 174 [.ref 36, .int (jI (s : Int)), .int (jI g0), .int (jI n0), .int (jI (pl : Int)), .int (jI gaps), .int (jI (used : Int)), .int (jI (full : Int)), .int (jI (p : Int)), .int (jI (k : Int)), .int (jI ((c + 1 : Nat) : Int))] [] (W5 S T D)) : Ev E yX11_isLaid cX11_isLaid 11 (some .boolean) (kI E 10 Q) 0 0 174 [.ref 36, .int (jI (s : Int)), .int (jI g0), .int (jI n0), .int (jI (pl : Int)), .int (jI gaps), .int (jI (used : Int)), .int (jI (full : Int)), .int (jI (p : Int)), .int (jI (k : Int)), .int (jI (c : Int))] [] (W5 S T D) := by
  refine L_i10 dX11_isLaid_174 ?_
  refine J_bipush dX11_isLaid_176 (by decide) ?_
  refine J_icmp_gt 207 dX11_isLaid_178 rfl (by omega) (by omega) (fun c178 => ?_) (fun c178 => ?_)
  · exfalso; omega
  · refine L_a0 dX11_isLaid_181 ?_
    refine L_i1 dX11_isLaid_182 ?_
    refine L_i6 dX11_isLaid_183 ?_
    refine L_i7 dX11_isLaid_185 ?_
    refine L_i8 dX11_isLaid_187 ?_
    refine L_i10 dX11_isLaid_189 ?_
    refine L_i4 dX11_isLaid_191 ?_
    refine L_i5 dX11_isLaid_193 ?_
    refine C_v7F vX11_444 dX11_isLaid_195 (qX11_isPick (st := st) hs hu hf (by omega) (by omega) hpl hg h46) rfl rfl (Nat.le_of_ble_eq_true rfl) (by decide) ?_
    refine J_ifneB 207 dX11_isLaid_198 rfl (fun c198 => ?_) (fun c198 => ?_)
    · exfalso; rw [hb] at c198; exact absurd c198 (by decide)
    · refine JI_10 dX11_isLaid_201 (by decide) rfl ?_
      refine E_goto 174 dX11_isLaid_204 rfl ?_
      exact kk
set_option maxRecDepth 100000 in
theorem iL_pick0 {E : mx_E} {S T : Nat → Int → Int} {D : List mx_C} {Q : Int → List mx_C → Prop} {s pl used full p k : Nat} {g0 n0 gaps : Int} {st : Nat → Nat} (hpl : pl ≤ 16) (hp : p < pl) (hs : s < 256) (hu : used < 256) (hf : full < 65536) (hg : 0 ≤ gaps ∧ gaps ≤ 100) (h46 : ∀ k : Nat, k < 8 → T 46 k = (st k : Int) ∧ 1 ≤ st k ∧ st k ≤ 15) (hb : pkB s st pl used full p 0 gaps = true) (kk : Ev E yX11_isLaid cX11_isLaid 11 (some .boolean) (kI E 10 Q) 0 0 51 [.ref 36, .int (jI (s : Int)), .int (jI g0), .int (jI n0), .int (jI (pl : Int)), .int (jI (gaps - 1)), .int (jI (used : Int)), .int (jI (full : Int)), .int (jI ((p + 1 : Nat) : Int)), .int (jI (k : Int)), .int (jI ((0 : Nat) : Int))] [] (W5 S (upF T 52 p ((0 : Nat) : Int)) D)) : Ev E yX11_isLaid cX11_isLaid 11 (some .boolean) (kI E 10 Q) 0 0 174 [.ref 36, .int (jI (s : Int)), .int (jI g0), .int (jI n0), .int (jI (pl : Int)), .int (jI gaps), .int (jI (used : Int)), .int (jI (full : Int)), .int (jI (p : Int)), .int (jI (k : Int)), .int (jI ((0 : Nat) : Int))] [] (W5 S T D) := by
  refine L_i10 dX11_isLaid_174 ?_
  refine J_bipush dX11_isLaid_176 (by decide) ?_
  refine J_icmp_gt 207 dX11_isLaid_178 rfl (by omega) (by omega) (fun c178 => ?_) (fun c178 => ?_)
  · exfalso; exact absurd c178 (by decide)
  · refine L_a0 dX11_isLaid_181 ?_
    refine L_i1 dX11_isLaid_182 ?_
    refine L_i6 dX11_isLaid_183 ?_
    refine L_i7 dX11_isLaid_185 ?_
    refine L_i8 dX11_isLaid_187 ?_
    refine L_i10 dX11_isLaid_189 ?_
    refine L_i4 dX11_isLaid_191 ?_
    refine L_i5 dX11_isLaid_193 ?_
    refine C_v7F vX11_444 dX11_isLaid_195 (qX11_isPick (st := st) hs hu hf (by omega) (by omega) hpl hg h46) rfl rfl (Nat.le_of_ble_eq_true rfl) (by decide) ?_
    refine J_ifneB 207 dX11_isLaid_198 rfl (fun c198 => ?_) (fun c198 => ?_)
    · refine L_a0 dX11_isLaid_207 ?_
      refine GW_36_34 fX11_68 dX11_isLaid_208 ?_
      refine L_i8 dX11_isLaid_211 ?_
      refine L_i10 dX11_isLaid_213 ?_
      refine J_bipush dX11_isLaid_215 (by decide) ?_
      refine J_icmp_gt 225 dX11_isLaid_217 rfl (by omega) (by omega) (fun c217 => ?_) (fun c217 => ?_)
      · exfalso; exact absurd c217 (by decide)
      · refine L_i10 dX11_isLaid_220 ?_
        refine E_goto 226 dX11_isLaid_222 rfl ?_
        refine AS_52 dX11_isLaid_226 (by omega) ?_
        refine L_i10 dX11_isLaid_227 ?_
        refine J_bipush dX11_isLaid_229 (by decide) ?_
        refine J_icmp_le 245 dX11_isLaid_231 rfl (by omega) (by omega) (fun c231 => ?_) (fun c231 => ?_)
        · refine L_i10 dX11_isLaid_245 ?_
          refine J_if_ne 253 dX11_isLaid_247 rfl (by omega) (fun c247 => ?_) (fun c247 => ?_)
          · exfalso; exact c247 rfl
          · refine JI_5 dX11_isLaid_250 (by decide) rfl ?_
            refine L_i10 dX11_isLaid_253 ?_
            refine J_if_le 293 dX11_isLaid_255 rfl (by omega) (fun c255 => ?_) (fun c255 => ?_)
            · refine JI_8 dX11_isLaid_293 (by decide) rfl ?_
              refine E_goto 51 dX11_isLaid_296 rfl ?_
              exact kk
            · exfalso; exact absurd c255 (by decide)
        · exfalso; exact absurd c231 (by decide)
    · exfalso; exact c198 hb
set_option maxRecDepth 100000 in
theorem iL_pickS {E : mx_E} {S T : Nat → Int → Int} {D : List mx_C} {Q : Int → List mx_C → Prop} {s pl used full p k : Nat} {g0 n0 gaps : Int} {st : Nat → Nat} {c : Nat} (hc : c + 1 ≤ 8) (hpl : pl ≤ 16) (hp : p < pl) (hs : s < 256) (hu : used < 256) (hf : full < 65536) (hg : 0 ≤ gaps ∧ gaps ≤ 100) (h46 : ∀ k : Nat, k < 8 → T 46 k = (st k : Int) ∧ 1 ≤ st k ∧ st k ≤ 15) (hst : p + st c < 16) (hb : pkB s st pl used full p (c + 1) gaps = true) (kk : Ev E yX11_isLaid cX11_isLaid 11 (some .boolean) (kI E 10 Q) 0 0 51 [.ref 36, .int (jI (s : Int)), .int (jI g0), .int (jI n0), .int (jI (pl : Int)), .int (jI gaps), .int (jI ((used ||| 2 ^ c : Nat) : Int)), .int (jI ((full ||| (2 ^ p ||| 2 ^ (p + st c)) : Nat) : Int)), .int (jI ((p + 1 : Nat) : Int)), .int (jI (k : Int)), .int (jI ((c + 1 : Nat) : Int))] [] (W5 S (upF T 52 p ((c + 1 : Nat) : Int)) D)) : Ev E yX11_isLaid cX11_isLaid 11 (some .boolean) (kI E 10 Q) 0 0 174 [.ref 36, .int (jI (s : Int)), .int (jI g0), .int (jI n0), .int (jI (pl : Int)), .int (jI gaps), .int (jI (used : Int)), .int (jI (full : Int)), .int (jI (p : Int)), .int (jI (k : Int)), .int (jI ((c + 1 : Nat) : Int))] [] (W5 S T D) := by
  have hcs := h46 c (by omega)
  refine L_i10 dX11_isLaid_174 ?_
  refine J_bipush dX11_isLaid_176 (by decide) ?_
  refine J_icmp_gt 207 dX11_isLaid_178 rfl (by omega) (by omega) (fun c178 => ?_) (fun c178 => ?_)
  · exfalso; omega
  · refine L_a0 dX11_isLaid_181 ?_
    refine L_i1 dX11_isLaid_182 ?_
    refine L_i6 dX11_isLaid_183 ?_
    refine L_i7 dX11_isLaid_185 ?_
    refine L_i8 dX11_isLaid_187 ?_
    refine L_i10 dX11_isLaid_189 ?_
    refine L_i4 dX11_isLaid_191 ?_
    refine L_i5 dX11_isLaid_193 ?_
    refine C_v7F vX11_444 dX11_isLaid_195 (qX11_isPick (st := st) hs hu hf (by omega) (by omega) hpl hg h46) rfl rfl (Nat.le_of_ble_eq_true rfl) (by decide) ?_
    refine J_ifneB 207 dX11_isLaid_198 rfl (fun c198 => ?_) (fun c198 => ?_)
    · refine L_a0 dX11_isLaid_207 ?_
      refine GW_36_34 fX11_68 dX11_isLaid_208 ?_
      refine L_i8 dX11_isLaid_211 ?_
      refine L_i10 dX11_isLaid_213 ?_
      refine J_bipush dX11_isLaid_215 (by decide) ?_
      refine J_icmp_gt 225 dX11_isLaid_217 rfl (by omega) (by omega) (fun c217 => ?_) (fun c217 => ?_)
      · exfalso; omega
      · refine L_i10 dX11_isLaid_220 ?_
        refine E_goto 226 dX11_isLaid_222 rfl ?_
        refine AS_52 dX11_isLaid_226 (by omega) ?_
        refine L_i10 dX11_isLaid_227 ?_
        refine J_bipush dX11_isLaid_229 (by decide) ?_
        refine J_icmp_le 245 dX11_isLaid_231 rfl (by omega) (by omega) (fun c231 => ?_) (fun c231 => ?_)
        · refine L_i10 dX11_isLaid_245 ?_
          refine J_if_ne 253 dX11_isLaid_247 rfl (by omega) (fun c247 => ?_) (fun c247 => ?_)
          · refine L_i10 dX11_isLaid_253 ?_
            refine J_if_le 293 dX11_isLaid_255 rfl (by omega) (fun c255 => ?_) (fun c255 => ?_)
            · exfalso; omega
            · refine L_i6 dX11_isLaid_258 ?_
              refine J_iconst dX11_isLaid_260 ?_
              refine L_i10 dX11_isLaid_261 ?_
              refine J_iconst dX11_isLaid_263 ?_
              refine J_isub dX11_isLaid_264 ?_
              refine J_1shl dX11_isLaid_265 (by omega) ?_
              refine J_iorG dX11_isLaid_266 (by omega) (bsh_nn _) ?_
              refine J_eqi (b := ((used ||| 2 ^ c : Nat) : Int)) (by rw [show ((c + 1 : Nat) : Int) - 1 = (c : Int) by omega, bsh_nat, bor_nat]) ?_
              refine S_i6 dX11_isLaid_267 (by decide) rfl ?_
              refine L_i7 dX11_isLaid_269 ?_
              refine J_iconst dX11_isLaid_271 ?_
              refine L_i8 dX11_isLaid_272 ?_
              refine J_1shl dX11_isLaid_274 (by omega) ?_
              refine J_iconst dX11_isLaid_275 ?_
              refine L_i8 dX11_isLaid_276 ?_
              refine L_a0 dX11_isLaid_278 ?_
              refine GW_36_26 fX11_50 dX11_isLaid_279 ?_
              refine L_i10 dX11_isLaid_282 ?_
              refine J_iconst dX11_isLaid_284 ?_
              refine J_isub dX11_isLaid_285 ?_
              refine AR_46 dX11_isLaid_286 (by omega) ?_
              refine J_eqi (b := (st c : Int)) (by rw [show ((c + 1 : Nat) : Int) - 1 = (c : Int) by omega]; exact hcs.1) ?_
              refine J_iadd dX11_isLaid_287 ?_
              refine J_1shl dX11_isLaid_288 (by omega) ?_
              refine J_iorG dX11_isLaid_289 (bsh_nn _) (bsh_nn _) ?_
              refine J_iorG dX11_isLaid_290 (by omega) (bor_nn _ _) ?_
              refine J_eqi (b := ((full ||| (2 ^ p ||| 2 ^ (p + st c)) : Nat) : Int)) (by rw [← Int.natCast_add, bsh_nat, bsh_nat, bor_nat, bor_nat]) ?_
              refine S_i7 dX11_isLaid_291 (by decide) rfl ?_
              refine JI_8 dX11_isLaid_293 (by decide) rfl ?_
              refine E_goto 51 dX11_isLaid_296 rfl ?_
              exact kk
          · exfalso; omega
        · exfalso; omega
    · exfalso; exact c198 hb
set_option maxRecDepth 100000 in
theorem iL_undo0 {E : mx_E} {S T : Nat → Int → Int} {D : List mx_C} {Q : Int → List mx_C → Prop} {s pl used full p k : Nat} {g0 n0 gaps : Int} {st : Nat → Nat} {u : Value} (hu10 : u.category = 1) (hpl : pl ≤ 16) (hp : p < pl) (h52 : T 52 p = 0) (kk : Ev E yX11_isLaid cX11_isLaid 11 (some .boolean) (kI E 10 Q) 0 0 174 [.ref 36, .int (jI (s : Int)), .int (jI g0), .int (jI n0), .int (jI (pl : Int)), .int (jI gaps), .int (jI (used : Int)), .int (jI (full : Int)), .int (jI (p : Int)), .int (jI (k : Int)), .int (jI ((1 : Nat) : Int))] [] (W5 S T D)) : Ev E yX11_isLaid cX11_isLaid 11 (some .boolean) (kI E 10 Q) 0 0 81 [.ref 36, .int (jI (s : Int)), .int (jI g0), .int (jI n0), .int (jI (pl : Int)), .int (jI (gaps - 1)), .int (jI (used : Int)), .int (jI (full : Int)), .int (jI (p : Int)), .int (jI (k : Int)), u] [] (W5 S T D) := by
  refine L_i8 dX11_isLaid_81 ?_
  refine J_if_ge 88 dX11_isLaid_83 rfl (by omega) (fun c83 => ?_) (fun c83 => ?_)
  · refine L_a0 dX11_isLaid_88 ?_
    refine GW_36_34 fX11_68 dX11_isLaid_89 ?_
    refine L_i8 dX11_isLaid_92 ?_
    refine AR_52 dX11_isLaid_94 (by omega) ?_
    refine J_eqi (b := 0) h52 ?_
    refine S_i10 dX11_isLaid_95 (by decide) rfl ?_
    refine L_i10 dX11_isLaid_97 ?_
    refine J_iconst dX11_isLaid_99 ?_
    refine J_icmp_ne 119 dX11_isLaid_100 rfl (by omega) (by omega) (fun c100 => ?_) (fun c100 => ?_)
    · refine L_i10 dX11_isLaid_119 ?_
      refine J_if_ne 127 dX11_isLaid_121 rfl (by omega) (fun c121 => ?_) (fun c121 => ?_)
      · exfalso; exact c121 rfl
      · refine JI_5 dX11_isLaid_124 (by decide) rfl ?_
        refine L_i10 dX11_isLaid_127 ?_
        refine J_if_le 171 dX11_isLaid_129 rfl (by omega) (fun c129 => ?_) (fun c129 => ?_)
        · refine JI_10 dX11_isLaid_171 (by decide) rfl ?_
          refine E_eq rfl (show _ = [.ref 36, .int (jI (s : Int)), .int (jI g0), .int (jI n0), .int (jI (pl : Int)), .int (jI gaps), .int (jI (used : Int)), .int (jI (full : Int)), .int (jI (p : Int)), .int (jI (k : Int)), .int (jI ((1 : Nat) : Int))] from by rw [show gaps - 1 + 1 = gaps by omega]; rfl) rfl rfl ?_
          exact kk
        · exfalso; exact absurd c129 (by decide)
    · exfalso; exact absurd c100 (by decide)
  · exfalso; omega
set_option maxRecDepth 100000 in
theorem iL_undoS {E : mx_E} {S T : Nat → Int → Int} {D : List mx_C} {Q : Int → List mx_C → Prop} {s pl used full p k : Nat} {g0 n0 gaps : Int} {st : Nat → Nat} {c : Nat} {u : Value} (hu10 : u.category = 1) (hc : c + 1 ≤ 8) (hpl : pl ≤ 16) (hp : p < pl) (h46 : ∀ k : Nat, k < 8 → T 46 k = (st k : Int) ∧ 1 ≤ st k ∧ st k ≤ 15) (hst : p + st c < 16) (h52 : T 52 p = ((c + 1 : Nat) : Int)) (hu : 2 ^ c &&& used = 0) (hf : (2 ^ p ||| 2 ^ (p + st c)) &&& full = 0) (kk : Ev E yX11_isLaid cX11_isLaid 11 (some .boolean) (kI E 10 Q) 0 0 174 [.ref 36, .int (jI (s : Int)), .int (jI g0), .int (jI n0), .int (jI (pl : Int)), .int (jI gaps), .int (jI (used : Int)), .int (jI (full : Int)), .int (jI (p : Int)), .int (jI (k : Int)), .int (jI ((c + 1 + 1 : Nat) : Int))] [] (W5 S T D)) : Ev E yX11_isLaid cX11_isLaid 11 (some .boolean) (kI E 10 Q) 0 0 81 [.ref 36, .int (jI (s : Int)), .int (jI g0), .int (jI n0), .int (jI (pl : Int)), .int (jI gaps), .int (jI ((used ||| 2 ^ c : Nat) : Int)), .int (jI ((full ||| (2 ^ p ||| 2 ^ (p + st c)) : Nat) : Int)), .int (jI (p : Int)), .int (jI (k : Int)), u] [] (W5 S T D) := by
  have hcs := h46 c (by omega)
  refine L_i8 dX11_isLaid_81 ?_
  refine J_if_ge 88 dX11_isLaid_83 rfl (by omega) (fun c83 => ?_) (fun c83 => ?_)
  · refine L_a0 dX11_isLaid_88 ?_
    refine GW_36_34 fX11_68 dX11_isLaid_89 ?_
    refine L_i8 dX11_isLaid_92 ?_
    refine AR_52 dX11_isLaid_94 (by omega) ?_
    refine J_eqi (b := ((c + 1 : Nat) : Int)) h52 ?_
    refine S_i10 dX11_isLaid_95 (by decide) rfl ?_
    refine L_i10 dX11_isLaid_97 ?_
    refine J_iconst dX11_isLaid_99 ?_
    refine J_icmp_ne 119 dX11_isLaid_100 rfl (by omega) (by omega) (fun c100 => ?_) (fun c100 => ?_)
    · refine L_i10 dX11_isLaid_119 ?_
      refine J_if_ne 127 dX11_isLaid_121 rfl (by omega) (fun c121 => ?_) (fun c121 => ?_)
      · refine L_i10 dX11_isLaid_127 ?_
        refine J_if_le 171 dX11_isLaid_129 rfl (by omega) (fun c129 => ?_) (fun c129 => ?_)
        · exfalso; omega
        · refine L_i6 dX11_isLaid_132 ?_
          refine J_iconst dX11_isLaid_134 ?_
          refine L_i10 dX11_isLaid_135 ?_
          refine J_iconst dX11_isLaid_137 ?_
          refine J_isub dX11_isLaid_138 ?_
          refine J_1shl dX11_isLaid_139 (by omega) ?_
          refine J_iconst dX11_isLaid_140 ?_
          refine J_inot dX11_isLaid_141 ?_
          refine J_iandD dX11_isLaid_142 (by omega) (bsh_nn _) ?_
          refine J_eqi (b := (used : Int)) (by rw [show ((c + 1 : Nat) : Int) - 1 = (c : Int) by omega, bsh_nat, bdf_nat, nd_or hu]) ?_
          refine S_i6 dX11_isLaid_143 (by decide) rfl ?_
          refine L_i7 dX11_isLaid_145 ?_
          refine J_iconst dX11_isLaid_147 ?_
          refine L_i8 dX11_isLaid_148 ?_
          refine J_1shl dX11_isLaid_150 (by omega) ?_
          refine J_iconst dX11_isLaid_151 ?_
          refine L_i8 dX11_isLaid_152 ?_
          refine L_a0 dX11_isLaid_154 ?_
          refine GW_36_26 fX11_50 dX11_isLaid_155 ?_
          refine L_i10 dX11_isLaid_158 ?_
          refine J_iconst dX11_isLaid_160 ?_
          refine J_isub dX11_isLaid_161 ?_
          refine AR_46 dX11_isLaid_162 (by omega) ?_
          refine J_eqi (b := (st c : Int)) (by rw [show ((c + 1 : Nat) : Int) - 1 = (c : Int) by omega]; exact hcs.1) ?_
          refine J_iadd dX11_isLaid_163 ?_
          refine J_1shl dX11_isLaid_164 (by omega) ?_
          refine J_iorG dX11_isLaid_165 (bsh_nn _) (bsh_nn _) ?_
          refine J_iconst dX11_isLaid_166 ?_
          refine J_inot dX11_isLaid_167 ?_
          refine J_iandD dX11_isLaid_168 (by omega) (bor_nn _ _) ?_
          refine J_eqi (b := (full : Int)) (by rw [← Int.natCast_add, bsh_nat, bsh_nat, bor_nat, bdf_nat, nd_or hf]) ?_
          refine S_i7 dX11_isLaid_169 (by decide) rfl ?_
          refine JI_10 dX11_isLaid_171 (by decide) rfl ?_
          exact kk
      · exfalso; omega
    · exfalso; omega
  · exfalso; omega
