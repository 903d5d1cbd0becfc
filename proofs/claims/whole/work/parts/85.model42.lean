/-! ===== the reference: what is open, what stands at hand ===== -/
def opa : List Int → Int
  | [] => -1
  | o :: ps => if 40 ≤ o then (ps.length : Int) else opa ps
def opn : List Int → Int
  | [] => -1
  | o :: ps => if 40 ≤ o then o else opn ps
def cmB : List Int → Bool
  | [] => false
  | o :: ps => if 4 < rnk o then cmB ps else decide (rnk o = 4)
theorem opa_B : ∀ ps : List Int, -1 ≤ opa ps ∧ opa ps < ps.length := by
  intro ps
  induction ps with
  | nil => show (-1 : Int) ≤ -1 ∧ (-1 : Int) < 0; omega
  | cons o ps ih => rw [opa, List.length_cons]; split <;> omega
theorem opn_B : ∀ ps : List Int, VO ps → -1 ≤ opn ps ∧ opn ps ≤ 100 := by
  intro ps
  induction ps with
  | nil => intro _; show (-1 : Int) ≤ -1 ∧ (-1 : Int) ≤ 100; omega
  | cons o ps ih =>
    intro h
    rw [opn]
    have ho := h o List.mem_cons_self
    split
    · omega
    · exact ih (fun x hx => h x (List.mem_cons_of_mem _ hx))
theorem opa_opn {f : Int → Int} : ∀ {ps : List Int}, PLd f ps → (opa ps < 0 → opn ps = -1) ∧ (0 ≤ opa ps → f (opa ps) = opn ps ∧ 40 ≤ opn ps) := by
  intro ps
  induction ps with
  | nil => intro _; exact ⟨fun _ => rfl, fun h => absurd h (by decide)⟩
  | cons o ps ih =>
    intro h
    rw [opa, opn]
    split
    · rename_i h40
      exact ⟨fun h2 => by omega, fun _ => ⟨h.1, h40⟩⟩
    · exact ih h.2
theorem opn_neg : ∀ {ps : List Int}, opn ps = -1 ∨ 40 ≤ opn ps := by
  intro ps
  induction ps with
  | nil => exact Or.inl rfl
  | cons o ps ih =>
    rw [opn]
    split
    · rename_i h; exact Or.inr h
    · exact ih
/-- whether something is asked from here on -/
def akB : List Int → Bool
  | [] => false
  | o :: ps => decide (opn (o :: ps) = 41 ∧ (40 ≤ o ∨ (1 ≤ rnk o ∧ rnk o ≤ 3)))
theorem lX11_openAt {E : mx_E} {S T : Nat → Int → Int} {D : List mx_C} {r : Int} : ∀ ps : List Int, VO ps → PLd (T 41) ps → ps.length < 160 → opa ps = r → Ev E yX11_openAt cX11_openAt 2 (some .int) (kf E 0 (.int (jI r)) (W5 S T D)) 0 0 7 [.ref 36, .int (jI ((ps.length : Int) - 1))] [] (W5 S T D) := by
  intro ps
  induction ps with
  | nil =>
    intro hvo hp hl hr
    refine L_i1 dX11_openAt_7 ?_
    refine J_if_lt 28 dX11_openAt_8 rfl (by omega) (fun c8 => ?_) (fun c8 => ?_)
    · refine L_i1 dX11_openAt_28 ?_
      exact R_i rfl dX11_openAt_29 rfl hr
    · exfalso; exact absurd c8 (by decide)
  | cons o ps ih =>
    intro hvo hp hl hr
    rw [List.length_cons] at hl
    have ho := hvo o List.mem_cons_self
    rw [opa] at hr
    refine E_eq rfl (show _ = [.ref 36, .int (jI (ps.length : Int))] from by rw [List.length_cons, show ((ps.length + 1 : Nat) : Int) - 1 = (ps.length : Int) by omega]) rfl rfl ?_
    refine L_i1 dX11_openAt_7 ?_
    refine J_if_lt 28 dX11_openAt_8 rfl (by omega) (fun c8 => ?_) (fun c8 => ?_)
    · exfalso; omega
    · refine L_a0 dX11_openAt_11 ?_
      refine GW_36_15 fX11_29 dX11_openAt_12 ?_
      refine L_i1 dX11_openAt_15 ?_
      refine AR_41 dX11_openAt_16 (by omega) ?_
      refine J_eqi (b := o) hp.1 ?_
      refine J_bipush dX11_openAt_17 (by decide) ?_
      refine J_icmp_ge 28 dX11_openAt_19 rfl (by omega) (by omega) (fun c19 => ?_) (fun c19 => ?_)
      · refine L_i1 dX11_openAt_28 ?_
        exact R_i rfl dX11_openAt_29 rfl (by rw [if_pos c19] at hr; exact hr)
      · refine JI_1 dX11_openAt_22 (by decide) rfl ?_
        refine E_goto 7 dX11_openAt_25 rfl ?_
        exact ih (fun x hx => hvo x (List.mem_cons_of_mem _ hx)) hp.2 (by omega) (by rw [if_neg (by omega)] at hr; exact hr)
set_option maxRecDepth 100000 in
theorem qX11_openAt {S T : Nat → Int → Int} {D : List mx_C} {ps : List Int} (hvo : VO ps) (h16 : T 36 16 = (ps.length : Int)) (hp : PLd (T 41) ps) (hl : ps.length < 160) : SpF yX11_openAt cX11_openAt 2 (some .int) 0 [.ref 36] (W5 S T D) (.int (jI (opa ps))) (W5 S T D) := by
  refine Sp.of [.ref 36, .retAddr 0] (by decide) (by simp) (Nat.le_of_ble_eq_true rfl) rfl (fun E => ?_)
  refine L_a0 dX11_openAt_0 ?_
  refine GW_36_16 fX11_165 dX11_openAt_1 ?_
  refine J_eqi (b := (ps.length : Int)) h16 ?_
  refine J_iconst dX11_openAt_4 ?_
  refine J_isub dX11_openAt_5 ?_
  refine S_i1 dX11_openAt_6 (by decide) rfl ?_
  exact lX11_openAt ps hvo hp hl rfl

set_option maxRecDepth 100000 in
theorem qX11_openNow {S T : Nat → Int → Int} {D : List mx_C} {ps : List Int} (hvo : VO ps) (h16 : T 36 16 = (ps.length : Int)) (hp : PLd (T 41) ps) (hl : ps.length < 160) : SpF yX11_openNow cX11_openNow 1 (some .int) 1 [.ref 36] (W5 S T D) (.int (jI (opn ps))) (W5 S T D) := by
  have hoa := opa_B ps
  have hon := opa_opn hp
  have hob := opn_B ps hvo
  refine Sp.of [.ref 36] (by decide) (by simp) (Nat.le_of_ble_eq_true rfl) rfl (fun E => ?_)
  refine L_a0 dX11_openNow_0 ?_
  refine C_v0F vX11_178 dX11_openNow_1 (qX11_openAt hvo h16 hp hl) rfl rfl (Nat.le_of_ble_eq_true rfl) (by decide) ?_
  refine J_if_ge 11 dX11_openNow_4 rfl (by omega) (fun c4 => ?_) (fun c4 => ?_)
  · refine L_a0 dX11_openNow_11 ?_
    refine GW_36_15 fX11_29 dX11_openNow_12 ?_
    refine L_a0 dX11_openNow_15 ?_
    refine C_v0F vX11_178 dX11_openNow_16 (qX11_openAt hvo h16 hp hl) rfl rfl (Nat.le_of_ble_eq_true rfl) (by decide) ?_
    refine AR_41 dX11_openNow_19 (by omega) ?_
    refine J_eqi (b := opn ps) (hon.2 (by omega)).1 ?_
    exact R_i rfl dX11_openNow_20 rfl (by first | rfl | exact (hon.1 (by omega)).symm)
  · refine J_iconst dX11_openNow_7 ?_
    refine E_goto 20 dX11_openNow_8 rfl ?_
    exact R_i rfl dX11_openNow_20 rfl (by first | rfl | exact (hon.1 (by omega)).symm)

theorem lX11_isCompared {E : mx_E} {S T : Nat → Int → Int} {D : List mx_C} {r : Int} : ∀ ps : List Int, VO ps → PLd (T 41) ps → ps.length < 160 → jb (cmB ps = true) = r → Ev E yX11_isCompared cX11_isCompared 2 (some .boolean) (kf E 1 (.int (jI r)) (W5 S T D)) 0 0 7 [.ref 36, .int (jI ((ps.length : Int) - 1))] [] (W5 S T D) := by
  intro ps
  induction ps with
  | nil =>
    intro hvo hp hl hr
    refine L_i1 dX11_isCompared_7 ?_
    refine J_if_lt 30 dX11_isCompared_8 rfl (by omega) (fun c8 => ?_) (fun c8 => ?_)
    · refine L_i1 dX11_isCompared_30 ?_
      refine J_if_lt 51 dX11_isCompared_31 rfl (by omega) (fun c31 => ?_) (fun c31 => ?_)
      · refine J_iconst dX11_isCompared_51 ?_
        exact R_z rfl dX11_isCompared_52 (by decide) rfl (by rw [← hr]; decide)
      · exfalso; exact absurd c31 (by decide)
    · exfalso; exact absurd c8 (by decide)
  | cons o ps ih =>
    intro hvo hp hl hr
    rw [List.length_cons] at hl
    have ho := hvo o List.mem_cons_self
    have hrb := rnk_B o
    rw [cmB] at hr
    refine E_eq rfl (show _ = [.ref 36, .int (jI (ps.length : Int))] from by rw [List.length_cons, show ((ps.length + 1 : Nat) : Int) - 1 = (ps.length : Int) by omega]) rfl rfl ?_
    refine L_i1 dX11_isCompared_7 ?_
    refine J_if_lt 30 dX11_isCompared_8 rfl (by omega) (fun c8 => ?_) (fun c8 => ?_)
    · exfalso; omega
    · refine L_a0 dX11_isCompared_11 ?_
      refine GW_36_15 fX11_29 dX11_isCompared_12 ?_
      refine L_i1 dX11_isCompared_15 ?_
      refine AR_41 dX11_isCompared_16 (by omega) ?_
      refine J_eqi (b := o) hp.1 ?_
      refine C_s1F vX11_168 dX11_isCompared_17 (qX11_rank (by omega)) (Nat.le_of_ble_eq_true rfl) (by decide) ?_
      refine J_iconst dX11_isCompared_20 ?_
      refine J_icmp_le 30 dX11_isCompared_21 rfl (by omega) (by omega) (fun c21 => ?_) (fun c21 => ?_)
      · refine L_i1 dX11_isCompared_30 ?_
        refine J_if_lt 51 dX11_isCompared_31 rfl (by omega) (fun c31 => ?_) (fun c31 => ?_)
        · exfalso; omega
        · refine L_a0 dX11_isCompared_34 ?_
          refine GW_36_15 fX11_29 dX11_isCompared_35 ?_
          refine L_i1 dX11_isCompared_38 ?_
          refine AR_41 dX11_isCompared_39 (by omega) ?_
          refine J_eqi (b := o) hp.1 ?_
          refine C_s1F vX11_168 dX11_isCompared_40 (qX11_rank (by omega)) (Nat.le_of_ble_eq_true rfl) (by decide) ?_
          refine J_iconst dX11_isCompared_43 ?_
          refine J_icmp_ne 51 dX11_isCompared_44 rfl (by omega) (by omega) (fun c44 => ?_) (fun c44 => ?_)
          · refine J_iconst dX11_isCompared_51 ?_
            exact R_z rfl dX11_isCompared_52 (by decide) rfl (by rw [if_neg (by omega)] at hr; rw [← hr]; first | exact (jb_t (decide_eq_true (by omega))).symm | exact (jb_f (fun h => absurd (of_decide_eq_true h) (by omega))).symm)
          · refine J_iconst dX11_isCompared_47 ?_
            refine E_goto 52 dX11_isCompared_48 rfl ?_
            exact R_z rfl dX11_isCompared_52 (by decide) rfl (by rw [if_neg (by omega)] at hr; rw [← hr]; first | exact (jb_t (decide_eq_true (by omega))).symm | exact (jb_f (fun h => absurd (of_decide_eq_true h) (by omega))).symm)
      · refine JI_1 dX11_isCompared_24 (by decide) rfl ?_
        refine E_goto 7 dX11_isCompared_27 rfl ?_
        exact ih (fun x hx => hvo x (List.mem_cons_of_mem _ hx)) hp.2 (by omega) (by rw [if_pos (by omega)] at hr; exact hr)
set_option maxRecDepth 100000 in
theorem qX11_isCompared {S T : Nat → Int → Int} {D : List mx_C} {ps : List Int} (hvo : VO ps) (h16 : T 36 16 = (ps.length : Int)) (hp : PLd (T 41) ps) (hl : ps.length < 160) : SpF yX11_isCompared cX11_isCompared 2 (some .boolean) 1 [.ref 36] (W5 S T D) (.int (jI (jb (cmB ps = true)))) (W5 S T D) := by
  refine Sp.of [.ref 36, .retAddr 0] (by decide) (by simp) (Nat.le_of_ble_eq_true rfl) rfl (fun E => ?_)
  refine L_a0 dX11_isCompared_0 ?_
  refine GW_36_16 fX11_165 dX11_isCompared_1 ?_
  refine J_eqi (b := (ps.length : Int)) h16 ?_
  refine J_iconst dX11_isCompared_4 ?_
  refine J_isub dX11_isCompared_5 ?_
  refine S_i1 dX11_isCompared_6 (by decide) rfl ?_
  exact lX11_isCompared ps hvo hp hl rfl

set_option maxRecDepth 100000 in
theorem qX11_isAskAhead {S T : Nat → Int → Int} {D : List mx_C} {ps : List Int} (hvo : VO ps) (h16 : T 36 16 = (ps.length : Int)) (hp : PLd (T 41) ps) (hl : ps.length < 160) : SpF yX11_isAskAhead cX11_isAskAhead 1 (some .boolean) 2 [.ref 36] (W5 S T D) (.int (jI (jb (akB ps = true)))) (W5 S T D) := by
  have hob := opn_B ps hvo
  have hne : opn ps = 41 → ∃ (o : Int) (r : List Int), ps = o :: r := fun h => by
    cases ps with
    | nil => exact absurd h (by decide)
    | cons o r => exact ⟨o, r, rfl⟩
  refine Sp.of [.ref 36] (by decide) (by simp) (Nat.le_of_ble_eq_true rfl) rfl (fun E => ?_)
  refine L_a0 dX11_isAskAhead_0 ?_
  refine C_v0F vX11_182 dX11_isAskAhead_1 (qX11_openNow hvo h16 hp hl) rfl rfl (Nat.le_of_ble_eq_true rfl) (by decide) ?_
  refine J_bipush dX11_isAskAhead_4 (by decide) ?_
  refine J_icmp_ne 51 dX11_isAskAhead_6 rfl (by omega) (by omega) (fun c6 => ?_) (fun c6 => ?_)
  · refine J_iconst dX11_isAskAhead_51 ?_
    exact R_z rfl dX11_isAskAhead_52 (by decide) rfl (by first | exact (jb_t (decide_eq_true ⟨by omega, by omega⟩)).symm | exact (jb_f (fun h => by have h2 := of_decide_eq_true h; omega)).symm | (refine (jb_f (fun h => ?_)).symm; cases ps with | nil => exact absurd h (by decide) | cons o r => exact absurd (of_decide_eq_true h).1 (by omega)))
  · obtain ⟨o, r, rfl⟩ := hne (by omega)
    rw [List.length_cons] at h16 hl
    have ho := hvo o List.mem_cons_self
    have hrb := rnk_B o
    have h41 : T 41 (T 36 16 - 1) = o := by rw [h16, show ((r.length + 1 : Nat) : Int) - 1 = (r.length : Int) by omega]; exact hp.1
    refine L_a0 dX11_isAskAhead_9 ?_
    refine GW_36_15 fX11_29 dX11_isAskAhead_10 ?_
    refine L_a0 dX11_isAskAhead_13 ?_
    refine GW_36_16 fX11_165 dX11_isAskAhead_14 ?_
    refine J_iconst dX11_isAskAhead_17 ?_
    refine J_isub dX11_isAskAhead_18 ?_
    refine AR_41 dX11_isAskAhead_19 (by omega) ?_
    refine J_eqi (b := o) h41 ?_
    refine J_bipush dX11_isAskAhead_20 (by decide) ?_
    refine J_icmp_ge 47 dX11_isAskAhead_22 rfl (by omega) (by omega) (fun c22 => ?_) (fun c22 => ?_)
    · refine J_iconst dX11_isAskAhead_47 ?_
      refine E_goto 52 dX11_isAskAhead_48 rfl ?_
      exact R_z rfl dX11_isAskAhead_52 (by decide) rfl (by first | exact (jb_t (decide_eq_true ⟨by omega, by omega⟩)).symm | exact (jb_f (fun h => by have h2 := of_decide_eq_true h; omega)).symm | (refine (jb_f (fun h => ?_)).symm; cases ps with | nil => exact absurd h (by decide) | cons o r => exact absurd (of_decide_eq_true h).1 (by omega)))
    · refine L_a0 dX11_isAskAhead_25 ?_
      refine GW_36_15 fX11_29 dX11_isAskAhead_26 ?_
      refine L_a0 dX11_isAskAhead_29 ?_
      refine GW_36_16 fX11_165 dX11_isAskAhead_30 ?_
      refine J_iconst dX11_isAskAhead_33 ?_
      refine J_isub dX11_isAskAhead_34 ?_
      refine AR_41 dX11_isAskAhead_35 (by omega) ?_
      refine J_eqi (b := o) h41 ?_
      refine C_s1F vX11_168 dX11_isAskAhead_36 (qX11_rank (by omega)) (Nat.le_of_ble_eq_true rfl) (by decide) ?_
      refine J_iconst dX11_isAskAhead_39 ?_
      refine J_iconst dX11_isAskAhead_40 ?_
      refine C_s3F vX11_83 dX11_isAskAhead_41 (qX11_isIn (by omega) (by omega) (by omega)) (Nat.le_of_ble_eq_true rfl) (by decide) ?_
      refine J_ifeqB 51 dX11_isAskAhead_44 rfl (fun c44 => ?_) (fun c44 => ?_)
      · refine J_iconst dX11_isAskAhead_51 ?_
        exact R_z rfl dX11_isAskAhead_52 (by decide) rfl (by first | exact (jb_t (decide_eq_true ⟨by omega, by omega⟩)).symm | exact (jb_f (fun h => by have h2 := of_decide_eq_true h; omega)).symm | (refine (jb_f (fun h => ?_)).symm; cases ps with | nil => exact absurd h (by decide) | cons o r => exact absurd (of_decide_eq_true h).1 (by omega)))
      · refine J_iconst dX11_isAskAhead_47 ?_
        refine E_goto 52 dX11_isAskAhead_48 rfl ?_
        exact R_z rfl dX11_isAskAhead_52 (by decide) rfl (by first | exact (jb_t (decide_eq_true ⟨by omega, by omega⟩)).symm | exact (jb_f (fun h => by have h2 := of_decide_eq_true h; omega)).symm | (refine (jb_f (fun h => ?_)).symm; cases ps with | nil => exact absurd h (by decide) | cons o r => exact absurd (of_decide_eq_true h).1 (by omega)))

