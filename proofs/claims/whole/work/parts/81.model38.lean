/-! ===== the reference: tokens ===== -/
abbrev isL (x : Int) : Prop := (97 ≤ x ∧ x ≤ 122) ∨ (65 ≤ x ∧ x ≤ 90)
abbrev isD (x : Int) : Prop := 48 ≤ x ∧ x ≤ 57
abbrev isG (x : Int) : Prop := x = 35 ∨ (40 ≤ x ∧ x ≤ 43) ∨ x = 45 ∨ x = 47 ∨ (58 ≤ x ∧ x ≤ 62)
abbrev isK (x : Int) : Prop := x = 32 ∨ x = 10
/-- the tape's byte; -1 behind it -/
def byF (T : Nat → Int → Int) : Nat → Int := fun k => if (k : Int) < T 36 4 then T 40 k else -1
def TP (T : Nat → Int → Int) : Prop := (0 ≤ T 36 4 ∧ T 36 4 ≤ 300) ∧ ∀ j : Nat, j < 300 → 0 ≤ T 40 j ∧ T 40 j ≤ 255
theorem byF_B {T : Nat → Int → Int} (h : TP T) (k : Nat) : -1 ≤ byF T k ∧ byF T k ≤ 255 := by
  unfold byF
  split
  · have := h.1; have := h.2 k (by omega); omega
  · omega
theorem byF_out {T : Nat → Int → Int} {k : Nat} (h : T 36 4 ≤ k) : byF T k = -1 := if_neg (by omega)
/-- all but the token at hand -/
def NX (T T1 : Nat → Int → Int) : Prop := Fr [36] T T1 ∧ ∀ j : Int, (j < 7 ∨ 11 < j) → T1 36 j = T 36 j
theorem NX.refl (T : Nat → Int → Int) : NX T T := ⟨Fr.refl _ _, fun _ _ => rfl⟩
theorem NX.up {T T1 : Nat → Int → Int} (h : NX T T1) {j : Int} (hj : 7 ≤ j ∧ j ≤ 11) (x : Int) : NX T (upF T1 36 j x) := ⟨h.1.trans (Fr_up _ _ (by decide)), fun i hi => by show upS T1 36 _ 36 i = _; rw [upS_s, up_n (by omega)]; exact h.2 i hi⟩
theorem NX.trans {T T1 T2 : Nat → Int → Int} (h : NX T T1) (h2 : NX T1 T2) : NX T T2 := ⟨h.1.trans h2.1, fun j hj => (h2.2 j hj).trans (h.2 j hj)⟩
theorem NX.by {T T1 : Nat → Int → Int} (h : NX T T1) : byF T1 = byF T := by
  funext k
  unfold byF
  rw [h.2 4 (by omega), h.1 40 (by decide)]
theorem NX.tp {T T1 : Nat → Int → Int} (h : NX T T1) (hp : TP T) : TP T1 := by
  unfold TP
  rw [h.2 4 (by omega), h.1 40 (by decide)]
  exact hp
theorem NX.len {T T1 : Nat → Int → Int} (h : NX T T1) : T1 36 4 = T 36 4 := h.2 4 (by omega)
theorem uf_s (T : Nat → Int → Int) (f : Int → Int) (j x : Int) : upS T 36 (up f j x) 36 j = x := by rw [upS_s, up_s]
theorem uf_n {T : Nat → Int → Int} {f : Int → Int} {j i x : Int} (h : ¬ i = j) : upS T 36 (up f j x) 36 i = f i := by rw [upS_s, up_n h]
def skp (B : Nat → Int) : Nat → Nat → Nat
  | 0, c => c
  | m + 1, c => if isK (B c) then skp B m (c + 1) else c
def dge (B : Nat → Int) : Nat → Nat → Nat
  | 0, c => c
  | m + 1, c => if isD (B c) then dge B m (c + 1) else c
def dgv (B : Nat → Int) : Nat → Nat → Int → Int
  | 0, _, v => v
  | m + 1, c, v => if isD (B c) then dgv B m (c + 1) (if 99999 < v then v else 10 * v + B c - 48) else v
def lte (B : Nat → Int) : Nat → Nat → Nat
  | 0, c => c
  | m + 1, c => if isL (B c) then lte B m (c + 1) else c
def ltw (B : Nat → Int) : Nat → Nat → Nat → Nat
  | 0, _, v => v
  | m + 1, c, v => if isL (B c) then ltw B m (c + 1) (if v / 2 ^ 48 = 0 then v * 256 + (B c).toNat else 1152921504606846976) else v
/-- the token from c on: its first byte, its sort, its end, its number, its word -/
def lxp (B : Nat → Int) (c : Nat) : Nat := skp B 301 c
def lxt (B : Nat → Int) (c : Nat) : Int := if B (lxp B c) < 0 then 0 else if isD (B (lxp B c)) then 1 else if isL (B (lxp B c)) then 2 else if (B (lxp B c) = 60 ∨ B (lxp B c) = 62) ∧ B (lxp B c + 1) = 61 then (if B (lxp B c) = 60 then 4 else 5) else if isG (B (lxp B c)) then B (lxp B c) else 3
def lxe (B : Nat → Int) (c : Nat) : Nat := if B (lxp B c) < 0 then lxp B c else if isD (B (lxp B c)) then dge B 301 (lxp B c) else if isL (B (lxp B c)) then lte B 301 (lxp B c) else if (B (lxp B c) = 60 ∨ B (lxp B c) = 62) ∧ B (lxp B c + 1) = 61 then lxp B c + 2 else lxp B c + 1
def lxn (B : Nat → Int) (c : Nat) : Int := dgv B 301 (lxp B c) 0
def lxw (B : Nat → Int) (c : Nat) : Nat := ltw B 301 (lxp B c) 0
/-- the token at hand is the one from c on -/
def CT (B : Nat → Int) (T : Nat → Int → Int) (c : Nat) : Prop := T 36 8 = (lxp B c : Int) ∧ T 36 7 = (lxe B c : Int) ∧ T 36 9 = lxt B c ∧ (lxt B c = 1 → T 36 10 = lxn B c) ∧ (lxt B c = 2 → T 36 11 = (lxw B c : Int))
theorem skp_le (B : Nat → Int) : ∀ m c, c ≤ skp B m c := by
  intro m
  induction m with
  | zero => intro c; exact Nat.le_refl c
  | succ m ih => intro c; rw [skp]; split; (have := ih (c + 1); omega); omega
theorem dge_le (B : Nat → Int) : ∀ m c, c ≤ dge B m c := by
  intro m
  induction m with
  | zero => intro c; exact Nat.le_refl c
  | succ m ih => intro c; rw [dge]; split; (have := ih (c + 1); omega); omega
theorem lte_le (B : Nat → Int) : ∀ m c, c ≤ lte B m c := by
  intro m
  induction m with
  | zero => intro c; exact Nat.le_refl c
  | succ m ih => intro c; rw [lte]; split; (have := ih (c + 1); omega); omega
theorem skp_hi {B : Nat → Int} {n : Nat} (h : ∀ k, n ≤ k → B k < 0) : ∀ m c, c ≤ n → skp B m c ≤ n := by
  intro m
  induction m with
  | zero => intro c hc; exact hc
  | succ m ih =>
    intro c hc
    rw [skp]
    split
    · rename_i hk
      by_cases e : c = n
      · have := h c (by omega); omega
      · exact ih (c + 1) (by omega)
    · exact hc
theorem dge_hi {B : Nat → Int} {n : Nat} (h : ∀ k, n ≤ k → B k < 0) : ∀ m c, c ≤ n → dge B m c ≤ n := by
  intro m
  induction m with
  | zero => intro c hc; exact hc
  | succ m ih =>
    intro c hc
    rw [dge]
    split
    · rename_i hk
      by_cases e : c = n
      · have := h c (by omega); omega
      · exact ih (c + 1) (by omega)
    · exact hc
theorem lte_hi {B : Nat → Int} {n : Nat} (h : ∀ k, n ≤ k → B k < 0) : ∀ m c, c ≤ n → lte B m c ≤ n := by
  intro m
  induction m with
  | zero => intro c hc; exact hc
  | succ m ih =>
    intro c hc
    rw [lte]
    split
    · rename_i hk
      by_cases e : c = n
      · have := h c (by omega); omega
      · exact ih (c + 1) (by omega)
    · exact hc
theorem lxp_le (B : Nat → Int) (c : Nat) : c ≤ lxp B c := skp_le B 301 c
theorem lxp_hi {B : Nat → Int} {n : Nat} (h : ∀ k, n ≤ k → B k < 0) {c : Nat} (hc : c ≤ n) : lxp B c ≤ n := skp_hi h 301 c hc
theorem lxe_hi {B : Nat → Int} {n : Nat} (h : ∀ k, n ≤ k → B k < 0) {c : Nat} (hc : c ≤ n) : lxe B c ≤ n := by
  have hp := lxp_hi h hc
  have h1 : ¬ B (lxp B c) < 0 → lxp B c < n := fun hh => by
    rcases Nat.lt_or_ge (lxp B c) n with h2 | h2
    · exact h2
    · exact absurd (h _ h2) hh
  unfold lxe
  split
  · exact hp
  · rename_i hx
    have := h1 hx
    split
    · exact dge_hi h 301 _ hp
    · split
      · exact lte_hi h 301 _ hp
      · split
        · rename_i h3
          rcases Nat.lt_or_ge (lxp B c + 1) n with h2 | h2
          · omega
          · have := h _ h2; omega
        · omega
theorem lxe_lo {B : Nat → Int} {c : Nat} (h : ¬ lxt B c = 0) : lxp B c < lxe B c := by
  unfold lxt at h
  unfold lxe
  split
  · rename_i hx; rw [if_pos hx] at h; exact absurd rfl h
  · split
    · rename_i hx hd
      rw [show (301 : Nat) = 300 + 1 from rfl, dge, if_pos hd]
      have := dge_le B 300 (lxp B c + 1); omega
    · split
      · rename_i hx hd hl
        rw [show (301 : Nat) = 300 + 1 from rfl, lte, if_pos hl]
        have := lte_le B 300 (lxp B c + 1); omega
      · split <;> omega
theorem byF_neg {T : Nat → Int → Int} (h : TP T) : ∀ k, (T 36 4).toNat ≤ k → byF T k < 0 := by
  intro k hk
  have := h.1
  rw [byF_out (by omega)]
  decide
theorem dgv_B {B : Nat → Int} : ∀ (m c : Nat) (v : Int), (0 ≤ v ∧ v ≤ 1000000) → 0 ≤ dgv B m c v ∧ dgv B m c v ≤ 1000000 := by
  intro m
  induction m with
  | zero => intro c v h; exact h
  | succ m ih => intro c v h; rw [dgv]; split; (refine ih _ _ ?_; split <;> omega); exact h
theorem lxn_B (B : Nat → Int) (c : Nat) : 0 ≤ lxn B c ∧ lxn B c ≤ 1000000 := dgv_B 301 _ 0 (by omega)
theorem ltw_B {B : Nat → Int} (hB : ∀ k, B k ≤ 255) : ∀ (m c v : Nat), v < 2 ^ 61 → ltw B m c v < 2 ^ 61 := by
  intro m
  induction m with
  | zero => intro c v h; exact h
  | succ m ih =>
    intro c v h
    rw [ltw]
    split
    · refine ih _ _ ?_
      split
      · have := hB c
        have : v < 2 ^ 48 := by omega
        omega
      · decide
    · exact h
theorem lxw_B {B : Nat → Int} (hB : ∀ k, B k ≤ 255) (c : Nat) : lxw B c < 2 ^ 61 := ltw_B hB 301 _ 0 (by decide)
theorem lxt_B {B : Nat → Int} (hB : ∀ k, B k ≤ 255) (c : Nat) : 0 ≤ lxt B c ∧ lxt B c ≤ 255 := by
  unfold lxt
  have := hB (lxp B c)
  repeat' split
  all_goals omega
set_option maxRecDepth 100000 in
theorem qX11_byteAt {S T : Nat → Int → Int} {D : List mx_C} (hp : TP T) {k : Nat} (hk : k < 2147483648) : SpF yX11_byteAt cX11_byteAt 2 (some .int) 0 [.ref 36, .int (jI (k : Int))] (W5 S T D) (.int (jI (byF T k))) (W5 S T D) := by
  have h4 := hp.1
  refine Sp.of [.ref 36, .int (jI (k : Int))] (by decide) (by simp) (Nat.le_of_ble_eq_true rfl) rfl (fun E => ?_)
  refine L_i1 dX11_byteAt_0 ?_
  refine L_a0 dX11_byteAt_1 ?_
  refine GW_36_4 fX11_98 dX11_byteAt_2 ?_
  refine J_icmp_ge 17 dX11_byteAt_5 rfl (by omega) (by omega) (fun c5 => ?_) (fun c5 => ?_)
  · refine J_iconst dX11_byteAt_17 ?_
    exact R_i rfl dX11_byteAt_18 rfl (by unfold byF; first | rw [if_pos (by assumption)] | rw [if_neg (by omega)])
  · refine L_a0 dX11_byteAt_8 ?_
    refine GW_36_3 fX11_19 dX11_byteAt_9 ?_
    refine L_i1 dX11_byteAt_12 ?_
    refine AR_40 dX11_byteAt_13 (by omega) ?_
    refine E_goto 18 dX11_byteAt_14 rfl ?_
    exact R_i rfl dX11_byteAt_18 rfl (by unfold byF; first | rw [if_pos (by assumption)] | rw [if_neg (by omega)])

set_option maxRecDepth 100000 in
theorem qX11_isLetterByte {hp : List mx_C} {x : Int} (h_x : -2147483648 ≤ x ∧ x < 2147483648) : SpF yX11_isLetterByte cX11_isLetterByte 1 (some .boolean) 0 [.int (jI x)] hp (.int (jI (jb (isL x)))) hp := by
  refine Sp.of [.int (jI x)] (by decide) (by simp) (Nat.le_of_ble_eq_true rfl) rfl (fun E => ?_)
  refine L_i0 dX11_isLetterByte_0 ?_
  refine J_bipush dX11_isLetterByte_1 (by decide) ?_
  refine J_icmp_lt 12 dX11_isLetterByte_3 rfl (by omega) (by omega) (fun c3 => ?_) (fun c3 => ?_)
  · refine L_i0 dX11_isLetterByte_12 ?_
    refine J_bipush dX11_isLetterByte_13 (by decide) ?_
    refine J_icmp_lt 28 dX11_isLetterByte_15 rfl (by omega) (by omega) (fun c15 => ?_) (fun c15 => ?_)
    · refine J_iconst dX11_isLetterByte_28 ?_
      exact R_z rfl dX11_isLetterByte_29 (by decide) rfl (by first | exact (jb_t (by omega)).symm | exact (jb_f (by omega)).symm)
    · refine L_i0 dX11_isLetterByte_18 ?_
      refine J_bipush dX11_isLetterByte_19 (by decide) ?_
      refine J_icmp_gt 28 dX11_isLetterByte_21 rfl (by omega) (by omega) (fun c21 => ?_) (fun c21 => ?_)
      · refine J_iconst dX11_isLetterByte_28 ?_
        exact R_z rfl dX11_isLetterByte_29 (by decide) rfl (by first | exact (jb_t (by omega)).symm | exact (jb_f (by omega)).symm)
      · refine J_iconst dX11_isLetterByte_24 ?_
        refine E_goto 29 dX11_isLetterByte_25 rfl ?_
        exact R_z rfl dX11_isLetterByte_29 (by decide) rfl (by first | exact (jb_t (by omega)).symm | exact (jb_f (by omega)).symm)
  · refine L_i0 dX11_isLetterByte_6 ?_
    refine J_bipush dX11_isLetterByte_7 (by decide) ?_
    refine J_icmp_le 24 dX11_isLetterByte_9 rfl (by omega) (by omega) (fun c9 => ?_) (fun c9 => ?_)
    · refine J_iconst dX11_isLetterByte_24 ?_
      refine E_goto 29 dX11_isLetterByte_25 rfl ?_
      exact R_z rfl dX11_isLetterByte_29 (by decide) rfl (by first | exact (jb_t (by omega)).symm | exact (jb_f (by omega)).symm)
    · refine L_i0 dX11_isLetterByte_12 ?_
      refine J_bipush dX11_isLetterByte_13 (by decide) ?_
      refine J_icmp_lt 28 dX11_isLetterByte_15 rfl (by omega) (by omega) (fun c15 => ?_) (fun c15 => ?_)
      · refine J_iconst dX11_isLetterByte_28 ?_
        exact R_z rfl dX11_isLetterByte_29 (by decide) rfl (by first | exact (jb_t (by omega)).symm | exact (jb_f (by omega)).symm)
      · refine L_i0 dX11_isLetterByte_18 ?_
        refine J_bipush dX11_isLetterByte_19 (by decide) ?_
        refine J_icmp_gt 28 dX11_isLetterByte_21 rfl (by omega) (by omega) (fun c21 => ?_) (fun c21 => ?_)
        · refine J_iconst dX11_isLetterByte_28 ?_
          exact R_z rfl dX11_isLetterByte_29 (by decide) rfl (by first | exact (jb_t (by omega)).symm | exact (jb_f (by omega)).symm)
        · refine J_iconst dX11_isLetterByte_24 ?_
          refine E_goto 29 dX11_isLetterByte_25 rfl ?_
          exact R_z rfl dX11_isLetterByte_29 (by decide) rfl (by first | exact (jb_t (by omega)).symm | exact (jb_f (by omega)).symm)

set_option maxRecDepth 100000 in
theorem qX11_isFigure {hp : List mx_C} {x : Int} (h_x : -2147483648 ≤ x ∧ x < 2147483648) : SpF yX11_isFigure cX11_isFigure 1 (some .boolean) 0 [.int (jI x)] hp (.int (jI (jb (isD x)))) hp := by
  refine Sp.of [.int (jI x)] (by decide) (by simp) (Nat.le_of_ble_eq_true rfl) rfl (fun E => ?_)
  refine L_i0 dX11_isFigure_0 ?_
  refine J_bipush dX11_isFigure_1 (by decide) ?_
  refine J_icmp_lt 16 dX11_isFigure_3 rfl (by omega) (by omega) (fun c3 => ?_) (fun c3 => ?_)
  · refine J_iconst dX11_isFigure_16 ?_
    exact R_z rfl dX11_isFigure_17 (by decide) rfl (by first | exact (jb_t (by omega)).symm | exact (jb_f (by omega)).symm)
  · refine L_i0 dX11_isFigure_6 ?_
    refine J_bipush dX11_isFigure_7 (by decide) ?_
    refine J_icmp_gt 16 dX11_isFigure_9 rfl (by omega) (by omega) (fun c9 => ?_) (fun c9 => ?_)
    · refine J_iconst dX11_isFigure_16 ?_
      exact R_z rfl dX11_isFigure_17 (by decide) rfl (by first | exact (jb_t (by omega)).symm | exact (jb_f (by omega)).symm)
    · refine J_iconst dX11_isFigure_12 ?_
      refine E_goto 17 dX11_isFigure_13 rfl ?_
      exact R_z rfl dX11_isFigure_17 (by decide) rfl (by first | exact (jb_t (by omega)).symm | exact (jb_f (by omega)).symm)

set_option maxRecDepth 100000 in
theorem qX11_isSign {hp : List mx_C} {x : Int} (h_x : -2147483648 ≤ x ∧ x < 2147483648) : SpF yX11_isSign cX11_isSign 1 (some .boolean) 0 [.int (jI x)] hp (.int (jI (jb (isG x)))) hp := by
  refine Sp.of [.int (jI x)] (by decide) (by simp) (Nat.le_of_ble_eq_true rfl) rfl (fun E => ?_)
  refine L_i0 dX11_isSign_0 ?_
  refine J_tab28 128 130 130 130 130 128 128 128 128 130 128 130 128 130 130 130 130 130 130 130 130 130 130 128 128 128 128 128 130 dX11_isSign_1 (by omega) rfl rfl rfl rfl rfl rfl rfl rfl rfl rfl rfl rfl rfl rfl rfl rfl rfl rfl rfl rfl rfl rfl rfl rfl rfl rfl rfl rfl rfl rfl (fun c1 => ?_) (fun c1 => ?_) (fun c1 => ?_) (fun c1 => ?_) (fun c1 => ?_) (fun c1 => ?_) (fun c1 => ?_) (fun c1 => ?_) (fun c1 => ?_) (fun c1 => ?_) (fun c1 => ?_) (fun c1 => ?_) (fun c1 => ?_) (fun c1 => ?_) (fun c1 => ?_) (fun c1 => ?_) (fun c1 => ?_) (fun c1 => ?_) (fun c1 => ?_) (fun c1 => ?_) (fun c1 => ?_) (fun c1 => ?_) (fun c1 => ?_) (fun c1 => ?_) (fun c1 => ?_) (fun c1 => ?_) (fun c1 => ?_) (fun c1 => ?_) (fun c1 => ?_)
  · refine J_iconst dX11_isSign_128 ?_
    exact R_z rfl dX11_isSign_129 (by decide) rfl (by first | exact (jb_t (by omega)).symm | exact (jb_f (by omega)).symm)
  · refine J_iconst dX11_isSign_130 ?_
    exact R_z rfl dX11_isSign_131 (by decide) rfl (by first | exact (jb_t (by omega)).symm | exact (jb_f (by omega)).symm)
  · refine J_iconst dX11_isSign_130 ?_
    exact R_z rfl dX11_isSign_131 (by decide) rfl (by first | exact (jb_t (by omega)).symm | exact (jb_f (by omega)).symm)
  · refine J_iconst dX11_isSign_130 ?_
    exact R_z rfl dX11_isSign_131 (by decide) rfl (by first | exact (jb_t (by omega)).symm | exact (jb_f (by omega)).symm)
  · refine J_iconst dX11_isSign_130 ?_
    exact R_z rfl dX11_isSign_131 (by decide) rfl (by first | exact (jb_t (by omega)).symm | exact (jb_f (by omega)).symm)
  · refine J_iconst dX11_isSign_128 ?_
    exact R_z rfl dX11_isSign_129 (by decide) rfl (by first | exact (jb_t (by omega)).symm | exact (jb_f (by omega)).symm)
  · refine J_iconst dX11_isSign_128 ?_
    exact R_z rfl dX11_isSign_129 (by decide) rfl (by first | exact (jb_t (by omega)).symm | exact (jb_f (by omega)).symm)
  · refine J_iconst dX11_isSign_128 ?_
    exact R_z rfl dX11_isSign_129 (by decide) rfl (by first | exact (jb_t (by omega)).symm | exact (jb_f (by omega)).symm)
  · refine J_iconst dX11_isSign_128 ?_
    exact R_z rfl dX11_isSign_129 (by decide) rfl (by first | exact (jb_t (by omega)).symm | exact (jb_f (by omega)).symm)
  · refine J_iconst dX11_isSign_130 ?_
    exact R_z rfl dX11_isSign_131 (by decide) rfl (by first | exact (jb_t (by omega)).symm | exact (jb_f (by omega)).symm)
  · refine J_iconst dX11_isSign_128 ?_
    exact R_z rfl dX11_isSign_129 (by decide) rfl (by first | exact (jb_t (by omega)).symm | exact (jb_f (by omega)).symm)
  · refine J_iconst dX11_isSign_130 ?_
    exact R_z rfl dX11_isSign_131 (by decide) rfl (by first | exact (jb_t (by omega)).symm | exact (jb_f (by omega)).symm)
  · refine J_iconst dX11_isSign_128 ?_
    exact R_z rfl dX11_isSign_129 (by decide) rfl (by first | exact (jb_t (by omega)).symm | exact (jb_f (by omega)).symm)
  · refine J_iconst dX11_isSign_130 ?_
    exact R_z rfl dX11_isSign_131 (by decide) rfl (by first | exact (jb_t (by omega)).symm | exact (jb_f (by omega)).symm)
  · refine J_iconst dX11_isSign_130 ?_
    exact R_z rfl dX11_isSign_131 (by decide) rfl (by first | exact (jb_t (by omega)).symm | exact (jb_f (by omega)).symm)
  · refine J_iconst dX11_isSign_130 ?_
    exact R_z rfl dX11_isSign_131 (by decide) rfl (by first | exact (jb_t (by omega)).symm | exact (jb_f (by omega)).symm)
  · refine J_iconst dX11_isSign_130 ?_
    exact R_z rfl dX11_isSign_131 (by decide) rfl (by first | exact (jb_t (by omega)).symm | exact (jb_f (by omega)).symm)
  · refine J_iconst dX11_isSign_130 ?_
    exact R_z rfl dX11_isSign_131 (by decide) rfl (by first | exact (jb_t (by omega)).symm | exact (jb_f (by omega)).symm)
  · refine J_iconst dX11_isSign_130 ?_
    exact R_z rfl dX11_isSign_131 (by decide) rfl (by first | exact (jb_t (by omega)).symm | exact (jb_f (by omega)).symm)
  · refine J_iconst dX11_isSign_130 ?_
    exact R_z rfl dX11_isSign_131 (by decide) rfl (by first | exact (jb_t (by omega)).symm | exact (jb_f (by omega)).symm)
  · refine J_iconst dX11_isSign_130 ?_
    exact R_z rfl dX11_isSign_131 (by decide) rfl (by first | exact (jb_t (by omega)).symm | exact (jb_f (by omega)).symm)
  · refine J_iconst dX11_isSign_130 ?_
    exact R_z rfl dX11_isSign_131 (by decide) rfl (by first | exact (jb_t (by omega)).symm | exact (jb_f (by omega)).symm)
  · refine J_iconst dX11_isSign_130 ?_
    exact R_z rfl dX11_isSign_131 (by decide) rfl (by first | exact (jb_t (by omega)).symm | exact (jb_f (by omega)).symm)
  · refine J_iconst dX11_isSign_128 ?_
    exact R_z rfl dX11_isSign_129 (by decide) rfl (by first | exact (jb_t (by omega)).symm | exact (jb_f (by omega)).symm)
  · refine J_iconst dX11_isSign_128 ?_
    exact R_z rfl dX11_isSign_129 (by decide) rfl (by first | exact (jb_t (by omega)).symm | exact (jb_f (by omega)).symm)
  · refine J_iconst dX11_isSign_128 ?_
    exact R_z rfl dX11_isSign_129 (by decide) rfl (by first | exact (jb_t (by omega)).symm | exact (jb_f (by omega)).symm)
  · refine J_iconst dX11_isSign_128 ?_
    exact R_z rfl dX11_isSign_129 (by decide) rfl (by first | exact (jb_t (by omega)).symm | exact (jb_f (by omega)).symm)
  · refine J_iconst dX11_isSign_128 ?_
    exact R_z rfl dX11_isSign_129 (by decide) rfl (by first | exact (jb_t (by omega)).symm | exact (jb_f (by omega)).symm)
  · refine J_iconst dX11_isSign_130 ?_
    exact R_z rfl dX11_isSign_131 (by decide) rfl (by first | exact (jb_t (by omega)).symm | exact (jb_f (by omega)).symm)

