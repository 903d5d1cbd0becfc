/-! ===== the class: the scanner ===== -/
/-- the bytes of the class's tape -/
def cbF (S : Nat → Int → Int) : Nat → Int := fun k => if (k : Int) < S 1 1 then S 2 k % 256 else -1
def BZ (B : Nat → Int) (N : Nat) : Prop := N ≤ 300 ∧ (∀ j, N ≤ j → B j = -1) ∧ ∀ j, j < N → 0 ≤ B j ∧ B j ≤ 255
theorem cbF_BZ {S : Nat → Int → Int} (h0 : 0 ≤ S 1 1 ∧ S 1 1 ≤ 300) : BZ (cbF S) (S 1 1).toNat := by
  refine ⟨by omega, fun j hj => if_neg (by omega), fun j hj => ?_⟩
  unfold cbF
  rw [if_pos (by omega)]
  omega
theorem BZ.b {B : Nat → Int} {N : Nat} (h : BZ B N) (j : Nat) : -1 ≤ B j ∧ B j ≤ 255 := by
  rcases Nat.lt_or_ge j N with h1 | h1
  · have := h.2.2 j h1; omega
  · rw [h.2.1 j h1]; omega
theorem BZ.n {B : Nat → Int} {N : Nat} (h : BZ B N) : ∀ k, N ≤ k → B k < 0 := fun k hk => by rw [h.2.1 k hk]; omega
def bz (B : Nat → Int) (p : Nat) : Int := if B p < 0 then 0 else B p
theorem bz_B {B : Nat → Int} {N : Nat} (h : BZ B N) (p : Nat) : 0 ≤ bz B p ∧ bz B p ≤ 255 := by
  have := h.b p
  unfold bz
  split <;> omega
theorem bz_pos {B : Nat → Int} {p : Nat} (h : 0 ≤ B p) : bz B p = B p := if_neg (by omega)
theorem bz_K {B : Nat → Int} {p : Nat} : isK (bz B p) ↔ isK (B p) := by unfold bz; split <;> omega
theorem bz_D {B : Nat → Int} {p : Nat} : isD (bz B p) ↔ isD (B p) := by unfold bz; split <;> omega
theorem bz_L {B : Nat → Int} {p : Nat} : isL (bz B p) ↔ isL (B p) := by unfold bz; split <;> omega
theorem qX9_byteN {S T : Nat → Int → Int} {D : List mx_C} (h0 : 0 ≤ S 1 1 ∧ S 1 1 ≤ 300) {p : Nat} (hp : p ≤ 1000) : SpF yX9_byteAt cX9_byteAt 2 (some .int) 0 [.ref 1, .int (jI (p : Int))] (W5 S T D) (.int (jI (bz (cbF S) p))) (W5 S T D) := by
  have h := qX9_byteAt (S := S) (T := T) (D := D) h0 (k := (p : Int)) (by omega)
  have e : (if 0 ≤ (p : Int) ∧ (p : Int) < S 1 1 then S 2 (p : Int) % 256 else 0) = bz (cbF S) p := by
    unfold bz cbF
    by_cases hc : (p : Int) < S 1 1
    · rw [if_pos ⟨by omega, hc⟩, if_pos hc, if_neg (by omega)]
    · rw [if_neg (fun hh => hc hh.2), if_neg hc, if_pos (by omega)]
  rw [e] at h
  exact h
theorem skp_fu {B : Nat → Int} {N : Nat} (h : BZ B N) : ∀ (m c k : Nat), N ≤ c + m → skp B (m + k) c = skp B m c := by
  intro m
  induction m with
  | zero =>
    intro c k hc
    cases k with
    | zero => rfl
    | succ k =>
      have hn := h.2.1 c (by omega)
      rw [Nat.zero_add]
      show (if isK (B c) then skp B k (c + 1) else c) = c
      exact if_neg (by omega)
  | succ m ih =>
    intro c k hc
    rw [show m + 1 + k = m + k + 1 from by omega, skp, skp, ih (c + 1) k (by omega)]
theorem dge_fu {B : Nat → Int} {N : Nat} (h : BZ B N) : ∀ (m c k : Nat), N ≤ c + m → dge B (m + k) c = dge B m c := by
  intro m
  induction m with
  | zero =>
    intro c k hc
    cases k with
    | zero => rfl
    | succ k =>
      have hn := h.2.1 c (by omega)
      rw [Nat.zero_add]
      show (if isD (B c) then dge B k (c + 1) else c) = c
      exact if_neg (by omega)
  | succ m ih =>
    intro c k hc
    rw [show m + 1 + k = m + k + 1 from by omega, dge, dge, ih (c + 1) k (by omega)]
theorem dgv_fu {B : Nat → Int} {N : Nat} (h : BZ B N) : ∀ (m c k : Nat) (v : Int), N ≤ c + m → dgv B (m + k) c v = dgv B m c v := by
  intro m
  induction m with
  | zero =>
    intro c k v hc
    cases k with
    | zero => rfl
    | succ k =>
      have hn := h.2.1 c (by omega)
      rw [Nat.zero_add]
      show (if isD (B c) then dgv B k (c + 1) (if 99999 < v then v else 10 * v + B c - 48) else v) = v
      exact if_neg (by omega)
  | succ m ih =>
    intro c k v hc
    rw [show m + 1 + k = m + k + 1 from by omega, dgv, dgv, ih (c + 1) k _ (by omega)]
theorem lte_fu {B : Nat → Int} {N : Nat} (h : BZ B N) : ∀ (m c k : Nat), N ≤ c + m → lte B (m + k) c = lte B m c := by
  intro m
  induction m with
  | zero =>
    intro c k hc
    cases k with
    | zero => rfl
    | succ k =>
      have hn := h.2.1 c (by omega)
      rw [Nat.zero_add]
      show (if isL (B c) then lte B k (c + 1) else c) = c
      exact if_neg (by omega)
  | succ m ih =>
    intro c k hc
    rw [show m + 1 + k = m + k + 1 from by omega, lte, lte, ih (c + 1) k (by omega)]
def cdv (B : Nat → Int) : Nat → Nat → Int → Int
  | 0, _, v => v
  | m + 1, c, v => if isD (B c) then cdv B m (c + 1) (min 10000 (v * 10 + B c - 48)) else v
theorem cdv_dgv {B : Nat → Int} : ∀ (m c : Nat) (v x : Int), 0 ≤ v → x = min 10000 v → cdv B m c x = min 10000 (dgv B m c v) := by
  intro m
  induction m with
  | zero => intro c v x _ hx; exact hx
  | succ m ih =>
    intro c v x hv hx
    rw [cdv, dgv]
    by_cases h : isD (B c)
    · rw [if_pos h, if_pos h]
      refine ih (c + 1) _ _ (by split <;> omega) ?_
      subst hx
      split <;> omega
    · rw [if_neg h, if_neg h]
      exact hx
/-- the value of a number, as the class keeps it -/
def lxv (B : Nat → Int) (c : Nat) : Int := min 10000 (lxn B c)
set_option maxRecDepth 100000 in
theorem qX6_isBlank {hp : List mx_C} {x : Int} (h_x : 0 ≤ x ∧ x ≤ 255) : SpF yX6_isBlank cX6_isBlank 1 (some .boolean) 0 [.int (jI x)] hp (.int (jI (jb (isK x)))) hp := by
  refine Sp.of [.int (jI x)] (by decide) (by simp) (Nat.le_of_ble_eq_true rfl) rfl (fun E => ?_)
  refine L_i0 dX6_isBlank_0 ?_
  refine J_bipush dX6_isBlank_1 (by decide) ?_
  refine J_icmp_eq 12 dX6_isBlank_3 rfl (by omega) (by omega) (fun c3 => ?_) (fun c3 => ?_)
  · refine J_iconst dX6_isBlank_12 ?_
    refine E_goto 17 dX6_isBlank_13 rfl ?_
    exact R_z rfl dX6_isBlank_17 (by decide) rfl (by first | exact (jb_t (by omega)).symm | exact (jb_f (by omega)).symm)
  · refine L_i0 dX6_isBlank_6 ?_
    refine J_bipush dX6_isBlank_7 (by decide) ?_
    refine J_icmp_ne 16 dX6_isBlank_9 rfl (by omega) (by omega) (fun c9 => ?_) (fun c9 => ?_)
    · refine J_iconst dX6_isBlank_16 ?_
      exact R_z rfl dX6_isBlank_17 (by decide) rfl (by first | exact (jb_t (by omega)).symm | exact (jb_f (by omega)).symm)
    · refine J_iconst dX6_isBlank_12 ?_
      refine E_goto 17 dX6_isBlank_13 rfl ?_
      exact R_z rfl dX6_isBlank_17 (by decide) rfl (by first | exact (jb_t (by omega)).symm | exact (jb_f (by omega)).symm)

set_option maxRecDepth 100000 in
theorem qX6_isDigit {hp : List mx_C} {x : Int} (h_x : 0 ≤ x ∧ x ≤ 255) : SpF yX6_isDigit cX6_isDigit 1 (some .boolean) 0 [.int (jI x)] hp (.int (jI (jb (isD x)))) hp := by
  refine Sp.of [.int (jI x)] (by decide) (by simp) (Nat.le_of_ble_eq_true rfl) rfl (fun E => ?_)
  refine L_i0 dX6_isDigit_0 ?_
  refine J_bipush dX6_isDigit_1 (by decide) ?_
  refine J_icmp_lt 16 dX6_isDigit_3 rfl (by omega) (by omega) (fun c3 => ?_) (fun c3 => ?_)
  · refine J_iconst dX6_isDigit_16 ?_
    exact R_z rfl dX6_isDigit_17 (by decide) rfl (by first | exact (jb_t (by omega)).symm | exact (jb_f (by omega)).symm)
  · refine L_i0 dX6_isDigit_6 ?_
    refine J_bipush dX6_isDigit_7 (by decide) ?_
    refine J_icmp_gt 16 dX6_isDigit_9 rfl (by omega) (by omega) (fun c9 => ?_) (fun c9 => ?_)
    · refine J_iconst dX6_isDigit_16 ?_
      exact R_z rfl dX6_isDigit_17 (by decide) rfl (by first | exact (jb_t (by omega)).symm | exact (jb_f (by omega)).symm)
    · refine J_iconst dX6_isDigit_12 ?_
      refine E_goto 17 dX6_isDigit_13 rfl ?_
      exact R_z rfl dX6_isDigit_17 (by decide) rfl (by first | exact (jb_t (by omega)).symm | exact (jb_f (by omega)).symm)

set_option maxRecDepth 100000 in
theorem qX6_isLetter {hp : List mx_C} {x : Int} (h_x : 0 ≤ x ∧ x ≤ 255) : SpF yX6_isLetter cX6_isLetter 1 (some .boolean) 0 [.int (jI x)] hp (.int (jI (jb (isL x)))) hp := by
  refine Sp.of [.int (jI x)] (by decide) (by simp) (Nat.le_of_ble_eq_true rfl) rfl (fun E => ?_)
  refine L_i0 dX6_isLetter_0 ?_
  refine J_bipush dX6_isLetter_1 (by decide) ?_
  refine J_icmp_lt 12 dX6_isLetter_3 rfl (by omega) (by omega) (fun c3 => ?_) (fun c3 => ?_)
  · refine L_i0 dX6_isLetter_12 ?_
    refine J_bipush dX6_isLetter_13 (by decide) ?_
    refine J_icmp_lt 28 dX6_isLetter_15 rfl (by omega) (by omega) (fun c15 => ?_) (fun c15 => ?_)
    · refine J_iconst dX6_isLetter_28 ?_
      exact R_z rfl dX6_isLetter_29 (by decide) rfl (by first | exact (jb_t (by omega)).symm | exact (jb_f (by omega)).symm)
    · refine L_i0 dX6_isLetter_18 ?_
      refine J_bipush dX6_isLetter_19 (by decide) ?_
      refine J_icmp_gt 28 dX6_isLetter_21 rfl (by omega) (by omega) (fun c21 => ?_) (fun c21 => ?_)
      · refine J_iconst dX6_isLetter_28 ?_
        exact R_z rfl dX6_isLetter_29 (by decide) rfl (by first | exact (jb_t (by omega)).symm | exact (jb_f (by omega)).symm)
      · refine J_iconst dX6_isLetter_24 ?_
        refine E_goto 29 dX6_isLetter_25 rfl ?_
        exact R_z rfl dX6_isLetter_29 (by decide) rfl (by first | exact (jb_t (by omega)).symm | exact (jb_f (by omega)).symm)
  · refine L_i0 dX6_isLetter_6 ?_
    refine J_bipush dX6_isLetter_7 (by decide) ?_
    refine J_icmp_le 24 dX6_isLetter_9 rfl (by omega) (by omega) (fun c9 => ?_) (fun c9 => ?_)
    · refine J_iconst dX6_isLetter_24 ?_
      refine E_goto 29 dX6_isLetter_25 rfl ?_
      exact R_z rfl dX6_isLetter_29 (by decide) rfl (by first | exact (jb_t (by omega)).symm | exact (jb_f (by omega)).symm)
    · refine L_i0 dX6_isLetter_12 ?_
      refine J_bipush dX6_isLetter_13 (by decide) ?_
      refine J_icmp_lt 28 dX6_isLetter_15 rfl (by omega) (by omega) (fun c15 => ?_) (fun c15 => ?_)
      · refine J_iconst dX6_isLetter_28 ?_
        exact R_z rfl dX6_isLetter_29 (by decide) rfl (by first | exact (jb_t (by omega)).symm | exact (jb_f (by omega)).symm)
      · refine L_i0 dX6_isLetter_18 ?_
        refine J_bipush dX6_isLetter_19 (by decide) ?_
        refine J_icmp_gt 28 dX6_isLetter_21 rfl (by omega) (by omega) (fun c21 => ?_) (fun c21 => ?_)
        · refine J_iconst dX6_isLetter_28 ?_
          exact R_z rfl dX6_isLetter_29 (by decide) rfl (by first | exact (jb_t (by omega)).symm | exact (jb_f (by omega)).symm)
        · refine J_iconst dX6_isLetter_24 ?_
          refine E_goto 29 dX6_isLetter_25 rfl ?_
          exact R_z rfl dX6_isLetter_29 (by decide) rfl (by first | exact (jb_t (by omega)).symm | exact (jb_f (by omega)).symm)

set_option maxRecDepth 100000 in
theorem lX6_afterBlanks {E : mx_E} {S T : Nat → Int → Int} {D : List mx_C} (h0 : 0 ≤ S 1 1 ∧ S 1 1 ≤ 300) {z : Int} {r : Nat} : ∀ (m : Nat) (p : Nat) (i : Int), i + m = 300 → 0 ≤ i → p + m ≤ 600 → skp (cbF S) m p = r → Ev E yX6_afterBlanks cX6_afterBlanks 4 (some .int) (kf E 1 (.int (jI (r : Int))) (W5 S T D)) 0 0 4 [.ref 1, .int (jI z), .int (jI (p : Int)), .int (jI i)] [] (W5 S T D) := by
  have hB := cbF_BZ h0
  intro m
  induction m with
  | zero =>
    intro p i him hi hp hr
    have hr : p = r := hr
    refine L_i3 dX6_afterBlanks_4 ?_
    refine J_sipush dX6_afterBlanks_5 (by decide) ?_
    refine J_icmp_ge 31 dX6_afterBlanks_8 rfl (by omega) (by omega) (fun c8 => ?_) (fun c8 => ?_)
    · refine L_i2 dX6_afterBlanks_31 ?_
      exact R_i rfl dX6_afterBlanks_32 rfl (by rw [hr])
    · exfalso; omega
  | succ m ih =>
    intro p i him hi hp hr
    have hbB := bz_B hB p
    rw [skp] at hr
    refine L_i3 dX6_afterBlanks_4 ?_
    refine J_sipush dX6_afterBlanks_5 (by decide) ?_
    refine J_icmp_ge 31 dX6_afterBlanks_8 rfl (by omega) (by omega) (fun c8 => ?_) (fun c8 => ?_)
    · exfalso; omega
    · refine L_a0 dX6_afterBlanks_11 ?_
      refine L_i2 dX6_afterBlanks_12 ?_
      refine C_v1F vX6_44 dX6_afterBlanks_13 (qX9_byteN h0 (by omega)) rfl rfl (Nat.le_of_ble_eq_true rfl) (by decide) ?_
      refine C_s1F vX6_48 dX6_afterBlanks_16 (qX6_isBlank hbB) (Nat.le_of_ble_eq_true rfl) (by decide) ?_
      refine J_ifeqB 31 dX6_afterBlanks_19 rfl (fun c19 => ?_) (fun c19 => ?_)
      · refine L_i2 dX6_afterBlanks_31 ?_
        exact R_i rfl dX6_afterBlanks_32 rfl (by rw [if_neg (fun hh => c19 (bz_K.mpr hh))] at hr; rw [hr])
      · refine JI_2 dX6_afterBlanks_22 (by decide) rfl ?_
        refine JI_3 dX6_afterBlanks_25 (by decide) rfl ?_
        refine E_goto 4 dX6_afterBlanks_28 rfl ?_
        rw [if_pos (bz_K.mp c19)] at hr
        exact ih (p + 1) (i + 1) (by omega) (by omega) (by omega) hr
set_option maxRecDepth 100000 in
theorem qX6_afterBlanks {S T : Nat → Int → Int} {D : List mx_C} (h0 : 0 ≤ S 1 1 ∧ S 1 1 ≤ 300) {p : Nat} (hp : p ≤ 300) : SpF yX6_afterBlanks cX6_afterBlanks 4 (some .int) 1 [.ref 1, .int (jI (p : Int))] (W5 S T D) (.int (jI ((lxp (cbF S) p : Nat) : Int))) (W5 S T D) := by
  have e : lxp (cbF S) p = skp (cbF S) 300 p := skp_fu (cbF_BZ h0) 300 p 1 (by have := (cbF_BZ h0).1; omega)
  rw [e]
  refine Sp.of [.ref 1, .int (jI (p : Int)), .retAddr 0, .retAddr 0] (by decide) (by simp) (Nat.le_of_ble_eq_true rfl) rfl (fun E => ?_)
  refine L_i1 dX6_afterBlanks_0 ?_
  refine S_i2 dX6_afterBlanks_1 (by decide) rfl ?_
  refine J_iconst dX6_afterBlanks_2 ?_
  refine S_i3 dX6_afterBlanks_3 (by decide) rfl ?_
  exact lX6_afterBlanks h0 300 p 0 (by omega) (by omega) (by omega) rfl

def ntS (S : Nat → Int → Int) (k f v : Int) : Nat → Int → Int := upS (upS (upS (upS S 5 (up (S 5) (S 4 3) k)) 6 (up (S 6) (S 4 3) f)) 7 (up (S 7) (S 4 3) v)) 4 (up (S 4) 3 (S 4 3 + 1))
theorem ntS_Fr (S : Nat → Int → Int) (k f v : Int) : Fr [4, 5, 6, 7] S (ntS S k f v) := ((Fr_up S _ (by decide)).trans (Fr_up _ _ (by decide))).trans ((Fr_up _ _ (by decide)).trans (Fr_up _ _ (by decide)))
theorem ntS_4 (S : Nat → Int → Int) (k f v : Int) : ntS S k f v 4 = up (S 4) 3 (S 4 3 + 1) := upS_s _ _ _
theorem ntS_5 (S : Nat → Int → Int) (k f v : Int) : ntS S k f v 5 = up (S 5) (S 4 3) k := by unfold ntS; rw [upS_n (by decide), upS_n (by decide), upS_n (by decide), upS_s]
theorem ntS_6 (S : Nat → Int → Int) (k f v : Int) : ntS S k f v 6 = up (S 6) (S 4 3) f := by unfold ntS; rw [upS_n (by decide), upS_n (by decide), upS_s]
theorem ntS_7 (S : Nat → Int → Int) (k f v : Int) : ntS S k f v 7 = up (S 7) (S 4 3) v := by unfold ntS; rw [upS_n (by decide), upS_s]
set_option maxRecDepth 100000 in
theorem qX6_note {S T : Nat → Int → Int} {D : List mx_C} (h_n : 0 ≤ S 4 3 ∧ S 4 3 ≤ 300) {k f v : Int} : SpV yX6_note cX6_note 4 none 0 [.ref 4, .int (jI k), .int (jI f), .int (jI v)] (W5 S T D) (W5 (ntS S k f v) T D) := by
  refine Sp.of [.ref 4, .int (jI k), .int (jI f), .int (jI v)] (by decide) (by simp) (Nat.le_of_ble_eq_true rfl) rfl (fun E => ?_)
  refine L_a0 dX6_note_0 ?_
  refine GW_4_3 fX6_21 dX6_note_1 ?_
  refine J_if_lt 57 dX6_note_4 rfl (by omega) (fun c4 => ?_) (fun c4 => ?_)
  · exfalso; omega
  · refine L_a0 dX6_note_7 ?_
    refine GW_4_3 fX6_21 dX6_note_8 ?_
    refine J_sipush dX6_note_11 (by decide) ?_
    refine J_icmp_ge 57 dX6_note_14 rfl (by omega) (by omega) (fun c14 => ?_) (fun c14 => ?_)
    · exfalso; omega
    · refine L_a0 dX6_note_17 ?_
      refine GW_4_0 fX6_11 dX6_note_18 ?_
      refine L_a0 dX6_note_21 ?_
      refine GW_4_3 fX6_21 dX6_note_22 ?_
      refine L_i1 dX6_note_25 ?_
      refine AS_5 dX6_note_26 (by omega) ?_
      refine L_a0 dX6_note_27 ?_
      refine GW_4_1 fX6_15 dX6_note_28 ?_
      refine L_a0 dX6_note_31 ?_
      refine GW_4_3 fX6_21 dX6_note_32 ?_
      refine L_i2 dX6_note_35 ?_
      refine AS_6 dX6_note_36 (by rw [upS_n (show ¬ (4 : Nat) = 5 by decide)]; omega) ?_
      refine L_a0 dX6_note_37 ?_
      refine GW_4_2 fX6_18 dX6_note_38 ?_
      refine L_a0 dX6_note_41 ?_
      refine GW_4_3 fX6_21 dX6_note_42 ?_
      refine L_i3 dX6_note_45 ?_
      refine AS_7 dX6_note_46 (by rw [upS_n (show ¬ (4 : Nat) = 6 by decide), upS_n (show ¬ (4 : Nat) = 5 by decide)]; omega) ?_
      refine L_a0 dX6_note_47 ?_
      refine E_dup dX6_note_48 rfl ?_
      refine GW_4_3 fX6_21 dX6_note_49 ?_
      refine J_iconst dX6_note_52 ?_
      refine J_iadd dX6_note_53 ?_
      refine PW_4_3 fX6_21 dX6_note_54 ?_
      exact R_v rfl dX6_note_57 (by rw [ntS]; simp only [upS_n (show ¬ (4 : Nat) = 5 by decide), upS_n (show ¬ (4 : Nat) = 6 by decide), upS_n (show ¬ (4 : Nat) = 7 by decide), upS_n (show ¬ (6 : Nat) = 5 by decide), upS_n (show ¬ (7 : Nat) = 6 by decide), upS_n (show ¬ (7 : Nat) = 5 by decide)])

set_option maxRecDepth 100000 in
theorem lX6_takeNumber {E : mx_E} {S T : Nat → Int → Int} {D : List mx_C} (h0 : 0 ≤ S 1 1 ∧ S 1 1 ≤ 300) (h_n : 0 ≤ S 4 3 ∧ S 4 3 ≤ 300) {p r : Nat} {x : Int} : ∀ (m : Nat) (c : Nat) (v i : Int), i + m = 300 → 0 ≤ i → c + m ≤ 600 → (0 ≤ v ∧ v ≤ 10000) → dge (cbF S) m c = r → cdv (cbF S) m c v = x → Ev E yX6_takeNumber cX6_takeNumber 6 (some .int) (kf E 1 (.int (jI (r : Int))) (W5 (ntS S 2 (p : Int) x) T D)) 0 0 8 [.ref 4, .ref 1, .int (jI (p : Int)), .int (jI v), .int (jI (c : Int)), .int (jI i)] [] (W5 S T D) := by
  have hB := cbF_BZ h0
  intro m
  induction m with
  | zero =>
    intro c v i him hi hc hv hr hx
    have hr : c = r := hr
    have hx : v = x := hx
    subst hr hx
    refine L_i5 dX6_takeNumber_8 ?_
    refine J_sipush dX6_takeNumber_10 (by decide) ?_
    refine J_icmp_ge 58 dX6_takeNumber_13 rfl (by omega) (by omega) (fun c13 => ?_) (fun c13 => ?_)
    · refine L_a0 dX6_takeNumber_58 ?_
      refine J_iconst dX6_takeNumber_59 ?_
      refine L_i2 dX6_takeNumber_60 ?_
      refine L_i3 dX6_takeNumber_61 ?_
      refine C_v3V vX6_40 dX6_takeNumber_62 (qX6_note h_n) rfl rfl (Nat.le_of_ble_eq_true rfl) (by decide) ?_
      refine L_i4 dX6_takeNumber_65 ?_
      exact R_i rfl dX6_takeNumber_67 rfl rfl
    · exfalso; omega
  | succ m ih =>
    intro c v i him hi hc hv hr hx
    have hbB := bz_B hB c
    rw [dge] at hr
    rw [cdv] at hx
    refine L_i5 dX6_takeNumber_8 ?_
    refine J_sipush dX6_takeNumber_10 (by decide) ?_
    refine J_icmp_ge 58 dX6_takeNumber_13 rfl (by omega) (by omega) (fun c13 => ?_) (fun c13 => ?_)
    · exfalso; omega
    · refine L_a1 dX6_takeNumber_16 ?_
      refine L_i4 dX6_takeNumber_17 ?_
      refine C_v1F vX6_44 dX6_takeNumber_19 (qX9_byteN h0 (by omega)) rfl rfl (Nat.le_of_ble_eq_true rfl) (by decide) ?_
      refine C_s1F vX6_52 dX6_takeNumber_22 (qX6_isDigit hbB) (Nat.le_of_ble_eq_true rfl) (by decide) ?_
      refine J_ifeqB 58 dX6_takeNumber_25 rfl (fun c25 => ?_) (fun c25 => ?_)
      · rw [if_neg (fun hh => c25 (bz_D.mpr hh))] at hr hx
        subst hr hx
        refine L_a0 dX6_takeNumber_58 ?_
        refine J_iconst dX6_takeNumber_59 ?_
        refine L_i2 dX6_takeNumber_60 ?_
        refine L_i3 dX6_takeNumber_61 ?_
        refine C_v3V vX6_40 dX6_takeNumber_62 (qX6_note h_n) rfl rfl (Nat.le_of_ble_eq_true rfl) (by decide) ?_
        refine L_i4 dX6_takeNumber_65 ?_
        exact R_i rfl dX6_takeNumber_67 rfl rfl
      · have hbc : bz (cbF S) c = cbF S c := bz_pos (by have := bz_D.mp c25; omega)
        refine J_sipush dX6_takeNumber_28 (by decide) ?_
        refine L_i3 dX6_takeNumber_31 ?_
        refine J_bipush dX6_takeNumber_32 (by decide) ?_
        refine J_imul dX6_takeNumber_34 ?_
        refine L_a1 dX6_takeNumber_35 ?_
        refine L_i4 dX6_takeNumber_36 ?_
        refine C_v1F vX6_44 dX6_takeNumber_38 (qX9_byteN h0 (by omega)) rfl rfl (Nat.le_of_ble_eq_true rfl) (by decide) ?_
        refine J_iadd dX6_takeNumber_41 ?_
        refine J_bipush dX6_takeNumber_42 (by decide) ?_
        refine J_isub dX6_takeNumber_44 ?_
        refine J_mmin vX6_67 mX6_67 dX6_takeNumber_45 (by omega) (by omega) (Nat.le_of_ble_eq_true rfl) ⟨Nat.le_of_ble_eq_true rfl, Nat.le_of_ble_eq_true rfl⟩ ?_
        refine J_eqi (b := min 10000 (v * 10 + cbF S c - 48)) (by rw [hbc]; split <;> omega) ?_
        refine S_i3 dX6_takeNumber_48 (by decide) rfl ?_
        refine JI_4 dX6_takeNumber_49 (by decide) rfl ?_
        refine JI_5 dX6_takeNumber_52 (by decide) rfl ?_
        refine E_goto 8 dX6_takeNumber_55 rfl ?_
        rw [if_pos (bz_D.mp c25)] at hr hx
        have hdd := bz_D.mp c25
        exact ih (c + 1) _ (i + 1) (by omega) (by omega) (by omega) (by omega) hr hx
set_option maxRecDepth 100000 in
theorem qX6_takeNumber {S T : Nat → Int → Int} {D : List mx_C} (h0 : 0 ≤ S 1 1 ∧ S 1 1 ≤ 300) (h_n : 0 ≤ S 4 3 ∧ S 4 3 ≤ 300) {p : Nat} (hp : p ≤ 300) : SpF yX6_takeNumber cX6_takeNumber 6 (some .int) 1 [.ref 4, .ref 1, .int (jI (p : Int))] (W5 S T D) (.int (jI ((dge (cbF S) 301 p : Nat) : Int))) (W5 (ntS S 2 (p : Int) (min 10000 (dgv (cbF S) 301 p 0))) T D) := by
  have hB := cbF_BZ h0
  rw [dge_fu hB 300 p 1 (by have := hB.1; omega), dgv_fu hB 300 p 1 0 (by have := hB.1; omega), ← cdv_dgv 300 p 0 0 (by omega) (by omega)]
  refine Sp.of [.ref 4, .ref 1, .int (jI (p : Int)), .retAddr 0, .retAddr 0, .retAddr 0] (by decide) (by simp) (Nat.le_of_ble_eq_true rfl) rfl (fun E => ?_)
  refine J_iconst dX6_takeNumber_0 ?_
  refine S_i3 dX6_takeNumber_1 (by decide) rfl ?_
  refine L_i2 dX6_takeNumber_2 ?_
  refine S_i4 dX6_takeNumber_3 (by decide) rfl ?_
  refine J_iconst dX6_takeNumber_5 ?_
  refine S_i5 dX6_takeNumber_6 (by decide) rfl ?_
  exact lX6_takeNumber h0 h_n 300 p 0 0 (by omega) (by omega) (by omega) (by omega) rfl rfl
def wkp (B : Nat → Int) (p sz : Nat) : Nat → Int → Int → Nat → Int → Int
  | 0, _, _, _, _ => 0
  | m + 1, i, wd, se, sa => if bst 0 i = 32 then (if ¬ sa = 0 ∧ se = sz then wd else wkp B p sz m (i + 1) (wd + 1) 0 1) else wkp B p sz m (i + 1) wd (se + 1) (if ¬ sa = 0 ∧ se < sz ∧ bz B (p + se) = bst 0 i then 1 else 0)
def wkq (l : List Nat) : List Int → Int → Nat → Int → Int
  | [], _, _, _ => 0
  | x :: cs, wd, se, sa => if x = 32 then (if ¬ sa = 0 ∧ se = l.length then wd else wkq l cs (wd + 1) 0 1) else wkq l cs wd (se + 1) (if ¬ sa = 0 ∧ se < l.length ∧ ((l.getD se 0 : Nat) : Int) = x then 1 else 0)
theorem getD_get {l : List Nat} {i : Nat} (h : i < l.length) : l.getD i 0 = l[i]'h := by rw [List.getD_eq_getElem?_getD, List.getElem?_eq_getElem h]; rfl
theorem wkq_word (l : List Nat) (cs : List Int) (wd : Int) : ∀ (r : List Nat) (se : Nat) (sa : Int), (∀ x ∈ r, x ≠ 32) → (sa = 0 ∨ se ≤ l.length) → wkq l (r.map (fun x : Nat => (x : Int)) ++ 32 :: cs) wd se sa = if ¬ sa = 0 ∧ l.drop se = r then wd else wkq l cs (wd + 1) 0 1 := by
  intro r
  induction r with
  | nil =>
    intro se sa _ hs
    rw [List.map_nil, List.nil_append, wkq, if_pos rfl]
    by_cases h : ¬ sa = 0 ∧ se = l.length
    · rw [if_pos h, if_pos ⟨h.1, by rw [h.2]; exact List.drop_length⟩]
    · rw [if_neg h, if_neg]
      rintro ⟨h1, h2⟩
      have := List.drop_eq_nil_iff.mp h2
      exact h ⟨h1, by rcases hs with hs | hs; exact absurd hs h1; omega⟩
  | cons x r ih =>
    intro se sa hr hs
    have hx := hr x List.mem_cons_self
    rw [List.map_cons, List.cons_append, wkq, if_neg (by omega), ih _ _ (fun y hy => hr y (List.mem_cons_of_mem _ hy))]
    · by_cases h : ¬ sa = 0 ∧ se < l.length ∧ ((l.getD se 0 : Nat) : Int) = (x : Int)
      · rw [if_pos h]
        have hd : l.drop se = x :: l.drop (se + 1) := by
          rw [List.drop_eq_getElem_cons h.2.1]
          have := getD_get h.2.1
          rw [← this, show l.getD se 0 = x from by omega]
        by_cases h2 : l.drop (se + 1) = r
        · rw [if_pos ⟨by decide, h2⟩, if_pos ⟨h.1, by rw [hd, h2]⟩]
        · rw [if_neg (fun hh => h2 hh.2), if_neg]
          rintro ⟨_, h4⟩
          rw [hd] at h4
          exact h2 (List.cons.inj h4).2
      · rw [if_neg h, if_neg (fun hh => hh.1 rfl), if_neg]
        rintro ⟨h1, h2⟩
        have hlt : se < l.length := by
          rcases Nat.lt_or_ge se l.length with h3 | h3
          · exact h3
          · rw [List.drop_eq_nil_of_le h3] at h2; cases h2
        rw [List.drop_eq_getElem_cons hlt] at h2
        have h3 := getD_get hlt
        exact h ⟨h1, hlt, by rw [h3, (List.cons.inj h2).1]⟩
    · split
      · next h => exact Or.inr (by omega)
      · exact Or.inl rfl
def wdl : List (List Nat) := kwT.map (fun q => q.1)
def wdc : List (List Nat) → List Int
  | [] => []
  | r :: t => r.map (fun x : Nat => (x : Int)) ++ 32 :: wdc t
theorem wkq_all (l : List Nat) : ∀ (t : List (List Nat × Int)) (wd : Int), (∀ q ∈ t, ∀ x ∈ q.1, x ≠ 32) → (∀ i : Nat, i < t.length → (t.getD i ([], 0)).2 = wd + i) → wkq l (wdc (t.map (fun q => q.1))) wd 0 1 = kwf l t := by
  intro t
  induction t with
  | nil => intro wd _ _; rfl
  | cons q t ih =>
    intro wd h1 h2
    rw [List.map_cons, wdc, wkq_word l _ wd q.1 0 1 (h1 q List.mem_cons_self) (Or.inr (Nat.zero_le _)), kwf, List.drop_zero]
    have e := h2 0 (by rw [List.length_cons]; omega)
    have e : q.2 = wd := by rw [show (q :: t).getD 0 ([], 0) = q from rfl] at e; omega
    by_cases h : l = q.1
    · rw [if_pos ⟨by decide, h⟩, if_pos h, e]
    · rw [if_neg (fun hh => h hh.2), if_neg h]
      refine ih (wd + 1) (fun r hr => h1 r (List.mem_cons_of_mem _ hr)) (fun i hi => ?_)
      have := h2 (i + 1) (by rw [List.length_cons]; omega)
      rw [show (q :: t).getD (i + 1) ([], 0) = t.getD i ([], 0) from rfl] at this
      omega
def wcs : List Int := wdc wdl
theorem wcs_len : wcs.length = 111 := by decide
theorem wcs_bst : ∀ i : Fin 111, wcs.getD i.val 0 = bst 0 (i.val : Int) := by decide
theorem wcs_kw (l : List Nat) : wkq l wcs 3 0 1 = kwl l := wkq_all l kwT 3 (by decide) (fun i hi => by
  have h : ∀ i : Fin 22, (kwT.getD i.val ([], 0)).2 = 3 + (i.val : Int) := by decide
  exact h ⟨i, hi⟩)
theorem wkp_q {B : Nat → Int} {p : Nat} {l : List Nat} (hl : ∀ j, j < l.length → bz B (p + j) = ((l.getD j 0 : Nat) : Int)) : ∀ (m : Nat) (i : Nat) (wd : Int) (se : Nat) (sa : Int), i + m = 111 → wkp B p l.length m (i : Int) wd se sa = wkq l (wcs.drop i) wd se sa := by
  intro m
  induction m with
  | zero =>
    intro i wd se sa h
    rw [List.drop_eq_nil_of_le (by rw [wcs_len]; omega)]
    rfl
  | succ m ih =>
    intro i wd se sa h
    have hi : i < wcs.length := by rw [wcs_len]; omega
    have e : wcs[i]'hi = bst 0 (i : Int) := by
      have := wcs_bst ⟨i, by omega⟩
      rw [List.getD_eq_getElem?_getD, List.getElem?_eq_getElem hi] at this
      exact this
    rw [List.drop_eq_getElem_cons hi, wkp, wkq, e]
    have ei : (i : Int) + 1 = ((i + 1 : Nat) : Int) := by omega
    by_cases hb : bst 0 (i : Int) = 32
    · rw [if_pos hb, if_pos hb, ei, ih (i + 1) _ _ _ (by omega)]
    · rw [if_neg hb, if_neg hb, ei, ih (i + 1) _ _ _ (by omega)]
      congr 1
      by_cases h1 : ¬ sa = 0 ∧ se < l.length ∧ bz B (p + se) = bst 0 (i : Int)
      · rw [if_pos h1, if_pos ⟨h1.1, h1.2.1, by rw [← hl se h1.2.1]; exact h1.2.2⟩]
      · rw [if_neg h1, if_neg (fun hh => h1 ⟨hh.1, hh.2.1, by rw [hl se hh.2.1]; exact hh.2.2⟩)]
theorem lsB_at {B : Nat → Int} : ∀ (m c j : Nat), j < (lsB B m c).length → 0 ≤ B (c + j) ∧ (((lsB B m c).getD j 0 : Nat) : Int) = B (c + j) := by
  intro m
  induction m with
  | zero => intro c j h; exact absurd h (Nat.not_lt_zero _)
  | succ m ih =>
    intro c j h
    rw [lsB] at h ⊢
    by_cases hl : isL (B c)
    · rw [if_pos hl] at h ⊢
      cases j with
      | zero => rw [Nat.add_zero]; exact ⟨by omega, by show (((B c).toNat : Nat) : Int) = _; omega⟩
      | succ j =>
        have := ih (c + 1) j (by rw [List.length_cons] at h; omega)
        rw [show c + (j + 1) = c + 1 + j from by omega]
        exact this
    · rw [if_neg hl] at h; exact absurd h (Nat.not_lt_zero _)
theorem wkp_kw {B : Nat → Int} {N : Nat} (hB : BZ B N) (c : Nat) : wkp B (lxp B c) (lte B 301 (lxp B c) - lxp B c) 111 0 3 0 1 = kwl (lxl B c) := by
  have e1 : lte B 301 (lxp B c) - lxp B c = (lxl B c).length := by unfold lxl; rw [lte_ls]; omega
  rw [e1]
  have := wkp_q (B := B) (p := lxp B c) (l := lxl B c) (fun j hj => by have := lsB_at 301 (lxp B c) j hj; rw [bz_pos this.1]; exact this.2.symm) 111 0 3 0 1 (by omega)
  rw [List.drop_zero, wcs_kw] at this
  exact this
set_option maxRecDepth 100000 in
theorem lX6_wordKind {E : mx_E} {S T : Nat → Int → Int} {D : List mx_C} (h0 : 0 ≤ S 1 1 ∧ S 1 1 ≤ 300) {p sz : Nat} (hp : p ≤ 300) (hsz : sz ≤ 300) {r : Int} : ∀ (m : Nat) (i wd : Int) (se : Nat) (sa : Int) (u7 : Value), u7.category = 1 → i + m = 111 → 0 ≤ i → (sa = 0 ∨ sa = 1) → (se : Int) ≤ i → wkp (cbF S) p sz m i wd se sa = r → Ev E yX6_wordKind cX6_wordKind 8 (some .int) (kf E 4 (.int (jI r)) (W5 S T D)) 0 0 11 [.ref 1, .int (jI (p : Int)), .int (jI (sz : Int)), .int (jI wd), .int (jI (se : Int)), .int (jI sa), .int (jI i), u7] [] (W5 S T D) := by
  have hB := cbF_BZ h0
  intro m
  induction m with
  | zero =>
    intro i wd se sa u7 hu him hi hsa hse hr
    have hr : (0 : Int) = r := hr
    refine L_i6 dX6_wordKind_11 ?_
    refine E_ldcS0 rfl dX6_wordKind_13 ?_
    refine C_S 0 (by decide) (by decide) [] rfl vX6_79 dX6_wordKind_15 sJ_words rfl (Nat.le_of_ble_eq_true rfl) (by decide) _ rfl ?_
    refine J_icmp_ge 102 dX6_wordKind_18 rfl (by omega) (by omega) (fun c18 => ?_) (fun c18 => ?_)
    · refine J_iconst dX6_wordKind_102 ?_
      exact R_i rfl dX6_wordKind_103 rfl hr
    · exfalso; omega
  | succ m ih =>
    intro i wd se sa u7 hu him hi hsa hse hr
    have hb := bst_0 (j := i) (by omega)
    have hbB := bz_B hB (p + se)
    rw [wkp] at hr
    refine L_i6 dX6_wordKind_11 ?_
    refine E_ldcS0 rfl dX6_wordKind_13 ?_
    refine C_S 0 (by decide) (by decide) [] rfl vX6_79 dX6_wordKind_15 sJ_words rfl (Nat.le_of_ble_eq_true rfl) (by decide) _ rfl ?_
    refine J_icmp_ge 102 dX6_wordKind_18 rfl (by omega) (by omega) (fun c18 => ?_) (fun c18 => ?_)
    · exfalso; omega
    · refine E_ldcS0 rfl dX6_wordKind_21 ?_
      refine L_i6 dX6_wordKind_23 ?_
      refine C_S 0 (by decide) (by decide) [.int (jI i)] rfl vX6_85 dX6_wordKind_25 (sJ_charAt (j := i) (by omega)) rfl (Nat.le_of_ble_eq_true rfl) (by decide) _ rfl ?_
      refine S_i7 dX6_wordKind_28 (by decide) rfl ?_
      refine L_i7 dX6_wordKind_30 ?_
      refine J_bipush dX6_wordKind_32 (by decide) ?_
      refine J_icmp_eq 74 dX6_wordKind_34 rfl (by omega) (by omega) (fun c34 => ?_) (fun c34 => ?_)
      · refine L_i5 dX6_wordKind_74 ?_
        refine J_if_eq 87 dX6_wordKind_76 rfl (by omega) (fun c76 => ?_) (fun c76 => ?_)
        · refine JI_3 dX6_wordKind_87 (by decide) rfl ?_
          refine J_iconst dX6_wordKind_90 ?_
          refine S_i4 dX6_wordKind_91 (by decide) rfl ?_
          refine J_iconst dX6_wordKind_93 ?_
          refine S_i5 dX6_wordKind_94 (by decide) rfl ?_
          refine JI_6 dX6_wordKind_96 (by decide) rfl ?_
          refine E_goto 11 dX6_wordKind_99 rfl ?_
          rw [if_pos c34, if_neg (by omega)] at hr
          exact ih (i + 1) (wd + 1) 0 1 _ rfl (by omega) (by omega) (by omega) (by omega) hr
        · refine L_i4 dX6_wordKind_79 ?_
          refine L_i2 dX6_wordKind_81 ?_
          refine J_icmp_ne 87 dX6_wordKind_82 rfl (by omega) (by omega) (fun c82 => ?_) (fun c82 => ?_)
          · refine JI_3 dX6_wordKind_87 (by decide) rfl ?_
            refine J_iconst dX6_wordKind_90 ?_
            refine S_i4 dX6_wordKind_91 (by decide) rfl ?_
            refine J_iconst dX6_wordKind_93 ?_
            refine S_i5 dX6_wordKind_94 (by decide) rfl ?_
            refine JI_6 dX6_wordKind_96 (by decide) rfl ?_
            refine E_goto 11 dX6_wordKind_99 rfl ?_
            rw [if_pos c34, if_neg (by omega)] at hr
            exact ih (i + 1) (wd + 1) 0 1 _ rfl (by omega) (by omega) (by omega) (by omega) hr
          · refine L_i3 dX6_wordKind_85 ?_
            exact R_i rfl dX6_wordKind_86 rfl (by rw [if_pos c34, if_pos ⟨by omega, by omega⟩] at hr; exact hr)
      · refine L_i5 dX6_wordKind_37 ?_
        refine J_if_eq 65 dX6_wordKind_39 rfl (by omega) (fun c39 => ?_) (fun c39 => ?_)
        · refine J_iconst dX6_wordKind_65 ?_
          refine S_i5 dX6_wordKind_66 (by decide) rfl ?_
          refine JI_4 dX6_wordKind_68 (by decide) rfl ?_
          refine E_goto 96 dX6_wordKind_71 rfl ?_
          refine JI_6 dX6_wordKind_96 (by decide) rfl ?_
          refine E_goto 11 dX6_wordKind_99 rfl ?_
          rw [if_neg c34, if_neg (by omega)] at hr
          exact ih (i + 1) wd (se + 1) 0 _ rfl (by omega) (by omega) (by omega) (by omega) hr
        · refine L_i4 dX6_wordKind_42 ?_
          refine L_i2 dX6_wordKind_44 ?_
          refine J_icmp_ge 65 dX6_wordKind_45 rfl (by omega) (by omega) (fun c45 => ?_) (fun c45 => ?_)
          · refine J_iconst dX6_wordKind_65 ?_
            refine S_i5 dX6_wordKind_66 (by decide) rfl ?_
            refine JI_4 dX6_wordKind_68 (by decide) rfl ?_
            refine E_goto 96 dX6_wordKind_71 rfl ?_
            refine JI_6 dX6_wordKind_96 (by decide) rfl ?_
            refine E_goto 11 dX6_wordKind_99 rfl ?_
            rw [if_neg c34, if_neg (by omega)] at hr
            exact ih (i + 1) wd (se + 1) 0 _ rfl (by omega) (by omega) (by omega) (by omega) hr
          · refine L_a0 dX6_wordKind_48 ?_
            refine L_i1 dX6_wordKind_49 ?_
            refine L_i4 dX6_wordKind_50 ?_
            refine J_iadd dX6_wordKind_52 ?_
            refine J_eqi (b := ((p + se : Nat) : Int)) (by omega) ?_
            refine C_v1F vX6_44 dX6_wordKind_53 (qX9_byteN (p := p + se) h0 (by omega)) rfl rfl (Nat.le_of_ble_eq_true rfl) (by decide) ?_
            refine L_i7 dX6_wordKind_56 ?_
            refine J_icmp_ne 65 dX6_wordKind_58 rfl (by omega) (by omega) (fun c58 => ?_) (fun c58 => ?_)
            · refine J_iconst dX6_wordKind_65 ?_
              refine S_i5 dX6_wordKind_66 (by decide) rfl ?_
              refine JI_4 dX6_wordKind_68 (by decide) rfl ?_
              refine E_goto 96 dX6_wordKind_71 rfl ?_
              refine JI_6 dX6_wordKind_96 (by decide) rfl ?_
              refine E_goto 11 dX6_wordKind_99 rfl ?_
              rw [if_neg c34, if_neg (by omega)] at hr
              exact ih (i + 1) wd (se + 1) 0 _ rfl (by omega) (by omega) (by omega) (by omega) hr
            · refine J_iconst dX6_wordKind_61 ?_
              refine E_goto 66 dX6_wordKind_62 rfl ?_
              refine S_i5 dX6_wordKind_66 (by decide) rfl ?_
              refine JI_4 dX6_wordKind_68 (by decide) rfl ?_
              refine E_goto 96 dX6_wordKind_71 rfl ?_
              refine JI_6 dX6_wordKind_96 (by decide) rfl ?_
              refine E_goto 11 dX6_wordKind_99 rfl ?_
              rw [if_neg c34, if_pos ⟨by omega, by omega, by omega⟩] at hr
              exact ih (i + 1) wd (se + 1) 1 _ rfl (by omega) (by omega) (by omega) (by omega) hr
set_option maxRecDepth 100000 in
theorem qX6_wordKind {S T : Nat → Int → Int} {D : List mx_C} (h0 : 0 ≤ S 1 1 ∧ S 1 1 ≤ 300) {p sz : Nat} (hp : p ≤ 300) (hsz : sz ≤ 300) : SpF yX6_wordKind cX6_wordKind 8 (some .int) 4 [.ref 1, .int (jI (p : Int)), .int (jI (sz : Int))] (W5 S T D) (.int (jI (wkp (cbF S) p sz 111 0 3 0 1))) (W5 S T D) := by
  refine Sp.of [.ref 1, .int (jI (p : Int)), .int (jI (sz : Int)), .retAddr 0, .retAddr 0, .retAddr 0, .retAddr 0, .retAddr 0] (by decide) (by simp) (Nat.le_of_ble_eq_true rfl) rfl (fun E => ?_)
  refine J_iconst dX6_wordKind_0 ?_
  refine S_i3 dX6_wordKind_1 (by decide) rfl ?_
  refine J_iconst dX6_wordKind_2 ?_
  refine S_i4 dX6_wordKind_3 (by decide) rfl ?_
  refine J_iconst dX6_wordKind_5 ?_
  refine S_i5 dX6_wordKind_6 (by decide) rfl ?_
  refine J_iconst dX6_wordKind_8 ?_
  refine S_i6 dX6_wordKind_9 (by decide) rfl ?_
  exact lX6_wordKind h0 hp hsz 111 0 3 0 1 _ rfl (by omega) (by omega) (by omega) (by omega) rfl
