/-! ===== the reference: rows in their order ===== -/
/-- the last place below n at which something is picked -/
def dcd (f : Int → Int) : Nat → Int
  | 0 => -1
  | n + 1 => if f (n : Int) = -1 then dcd f n else (n : Int)
theorem dcd_B (f : Int → Int) : ∀ n : Nat, -1 ≤ dcd f n ∧ dcd f n < n := by
  intro n
  induction n with
  | zero => show (-1 : Int) ≤ -1 ∧ (-1 : Int) < 0; omega
  | succ n ih => rw [dcd]; split <;> omega
theorem dcd_congr {f g : Int → Int} : ∀ n : Nat, (∀ j : Nat, j < n → f j = g j) → dcd f n = dcd g n := by
  intro n
  induction n with
  | zero => intro _; rfl
  | succ n ih => intro h; rw [dcd, dcd, h n (by omega), ih (fun j hj => h j (by omega))]
/-- whether a number (0: a gap) may be picked -/
def pkB (s : Nat) (st : Nat → Nat) (pl used full p c : Nat) (gaps : Int) : Bool := if c = 0 then decide (0 < gaps) else s.testBit (c - 1) && !used.testBit (c - 1) && decide (p + st (c - 1) < pl) && !full.testBit (p + st (c - 1))
theorem lX11_decidedAhead {E : mx_E} {S T : Nat → Int → Int} {D : List mx_C} (hB : ∀ j : Nat, j < 16 → -1 ≤ T 52 j ∧ T 52 j ≤ 8) {p r : Int} : ∀ n : Nat, n ≤ 16 → dcd (T 52) n = r → Ev E yX11_decidedAhead cX11_decidedAhead 3 (some .int) (kf E 0 (.int (jI r)) (W5 S T D)) 0 0 4 [.ref 36, .int (jI p), .int (jI ((n : Int) - 1))] [] (W5 S T D) := by
  intro n
  induction n with
  | zero =>
    intro hn hres
    refine L_i2 dX11_decidedAhead_4 ?_
    refine J_if_lt 24 dX11_decidedAhead_5 rfl (by omega) (fun c5 => ?_) (fun c5 => ?_)
    · refine L_i2 dX11_decidedAhead_24 ?_
      exact R_i rfl dX11_decidedAhead_25 rfl hres
    · exfalso; exact absurd c5 (by decide)
  | succ n ih =>
    intro hn hres
    rw [dcd] at hres
    have hb := hB n (by omega)
    refine E_eq rfl (show _ = [.ref 36, .int (jI p), .int (jI (n : Int))] from by rw [show ((n + 1 : Nat) : Int) - 1 = (n : Int) by omega]) rfl rfl ?_
    refine L_i2 dX11_decidedAhead_4 ?_
    refine J_if_lt 24 dX11_decidedAhead_5 rfl (by omega) (fun c5 => ?_) (fun c5 => ?_)
    · exfalso; omega
    · refine L_a0 dX11_decidedAhead_8 ?_
      refine GW_36_34 fX11_68 dX11_decidedAhead_9 ?_
      refine L_i2 dX11_decidedAhead_12 ?_
      refine AR_52 dX11_decidedAhead_13 (by omega) ?_
      refine J_iconst dX11_decidedAhead_14 ?_
      refine J_icmp_ne 24 dX11_decidedAhead_15 rfl (by omega) (by omega) (fun c15 => ?_) (fun c15 => ?_)
      · refine L_i2 dX11_decidedAhead_24 ?_
        exact R_i rfl dX11_decidedAhead_25 rfl (by rw [if_neg c15] at hres; exact hres)
      · refine JI_2 dX11_decidedAhead_18 (by decide) rfl ?_
        refine E_goto 4 dX11_decidedAhead_21 rfl ?_
        exact ih (by omega) (by rw [if_pos c15] at hres; exact hres)
set_option maxRecDepth 100000 in
theorem qX11_decidedAhead {S T : Nat → Int → Int} {D : List mx_C} (hB : ∀ j : Nat, j < 16 → -1 ≤ T 52 j ∧ T 52 j ≤ 8) {n : Nat} (hn : n ≤ 16) : SpF yX11_decidedAhead cX11_decidedAhead 3 (some .int) 0 [.ref 36, .int (jI (n : Int))] (W5 S T D) (.int (jI (dcd (T 52) n))) (W5 S T D) := by
  refine Sp.of [.ref 36, .int (jI (n : Int)), .retAddr 0] (by decide) (by simp) (Nat.le_of_ble_eq_true rfl) rfl (fun E => ?_)
  refine L_i1 dX11_decidedAhead_0 ?_
  refine J_iconst dX11_decidedAhead_1 ?_
  refine J_isub dX11_decidedAhead_2 ?_
  refine S_i2 dX11_decidedAhead_3 (by decide) rfl ?_
  exact lX11_decidedAhead hB n hn rfl

set_option maxRecDepth 100000 in
theorem qX11_isPick {S T : Nat → Int → Int} {D : List mx_C} {s used full p c pl : Nat} {gaps : Int} {st : Nat → Nat} (hs : s < 256) (hu : used < 256) (hf : full < 65536) (hp : p < 16) (hc : c ≤ 8) (hpl : pl ≤ 16) (hg : 0 ≤ gaps ∧ gaps ≤ 100) (h46 : ∀ k : Nat, k < 8 → T 46 k = (st k : Int) ∧ 1 ≤ st k ∧ st k ≤ 15) : SpF yX11_isPick cX11_isPick 8 (some .boolean) 1 [.ref 36, .int (jI (s : Int)), .int (jI (used : Int)), .int (jI (full : Int)), .int (jI (p : Int)), .int (jI (c : Int)), .int (jI (pl : Int)), .int (jI gaps)] (W5 S T D) (.int (jI (jb (pkB s st pl used full p c gaps = true)))) (W5 S T D) := by
  have hcs := h46 (c - 1) (by omega)
  have hb1 : ¬ c = 0 → ((s : Int) / 2 ^ ((c : Int) - 1).toNat % 2 = 1 ↔ s.testBit (c - 1) = true) := fun h => by
    have := bt_has (s := (s : Int)) (k := (c : Int) - 1) (by omega)
    rw [show ((c : Int) - 1).toNat = c - 1 by omega] at this ⊢
    exact this
  have hb2 : ¬ c = 0 → ((used : Int) / 2 ^ ((c : Int) - 1).toNat % 2 = 1 ↔ used.testBit (c - 1) = true) := fun h => by
    have := bt_has (s := (used : Int)) (k := (c : Int) - 1) (by omega)
    rw [show ((c : Int) - 1).toNat = c - 1 by omega] at this ⊢
    exact this
  have hb3 : (full : Int) / 2 ^ (((p + st (c - 1) : Nat) : Int)).toNat % 2 = 1 ↔ full.testBit (p + st (c - 1)) = true := bt_has (s := (full : Int)) (k := ((p + st (c - 1) : Nat) : Int)) (by omega)
  refine Sp.of [.ref 36, .int (jI (s : Int)), .int (jI (used : Int)), .int (jI (full : Int)), .int (jI (p : Int)), .int (jI (c : Int)), .int (jI (pl : Int)), .int (jI gaps)] (by decide) (by simp) (Nat.le_of_ble_eq_true rfl) rfl (fun E => ?_)
  refine L_i5 dX11_isPick_0 ?_
  refine J_if_ne 16 dX11_isPick_2 rfl (by omega) (fun c2 => ?_) (fun c2 => ?_)
  · refine L_i1 dX11_isPick_16 ?_
    refine L_i5 dX11_isPick_17 ?_
    refine J_iconst dX11_isPick_19 ?_
    refine J_isub dX11_isPick_20 ?_
    refine C_s2F vX11_251 dX11_isPick_21 (qX11_has (by omega) (by omega)) (Nat.le_of_ble_eq_true rfl) (by decide) ?_
    refine J_ifeqB 38 dX11_isPick_24 rfl (fun c24 => ?_) (fun c24 => ?_)
    · refine J_iconst dX11_isPick_38 ?_
      exact R_z rfl dX11_isPick_39 (by decide) rfl (by refine (jb_f ?_).symm; unfold pkB; rw [if_neg (by omega)]; intro h; simp only [Bool.and_eq_true, Bool.not_eq_true', decide_eq_true_eq] at h; first | exact absurd ((hb1 (by omega)).mpr h.1.1.1) (by assumption) | (have h2 := (hb2 (by omega)).mp (by assumption); rw [h.1.1.2] at h2; exact absurd h2 (by decide)))
    · refine L_i2 dX11_isPick_27 ?_
      refine L_i5 dX11_isPick_28 ?_
      refine J_iconst dX11_isPick_30 ?_
      refine J_isub dX11_isPick_31 ?_
      refine C_s2F vX11_251 dX11_isPick_32 (qX11_has (by omega) (by omega)) (Nat.le_of_ble_eq_true rfl) (by decide) ?_
      refine J_ifeqB 40 dX11_isPick_35 rfl (fun c35 => ?_) (fun c35 => ?_)
      · refine L_i4 dX11_isPick_40 ?_
        refine L_a0 dX11_isPick_42 ?_
        refine GW_36_26 fX11_50 dX11_isPick_43 ?_
        refine L_i5 dX11_isPick_46 ?_
        refine J_iconst dX11_isPick_48 ?_
        refine J_isub dX11_isPick_49 ?_
        refine AR_46 dX11_isPick_50 (by omega) ?_
        refine J_eqi (b := (st (c - 1) : Int)) (by rw [show (c : Int) - 1 = ((c - 1 : Nat) : Int) by omega]; exact hcs.1) ?_
        refine J_iadd dX11_isPick_51 ?_
        refine L_i6 dX11_isPick_52 ?_
        refine J_icmp_ge 80 dX11_isPick_54 rfl (by omega) (by omega) (fun c54 => ?_) (fun c54 => ?_)
        · refine J_iconst dX11_isPick_80 ?_
          exact R_z rfl dX11_isPick_81 (by decide) rfl (by first | (refine (jb_t ?_).symm; unfold pkB; rw [if_neg (by omega)]; simp only [Bool.and_eq_true, Bool.not_eq_true', decide_eq_true_eq]; exact ⟨⟨⟨(hb1 (by omega)).mp c24, Bool.eq_false_iff.mpr (fun h => c35 ((hb2 (by omega)).mpr h))⟩, by omega⟩, Bool.eq_false_iff.mpr (fun h => c73 (hb3.mpr h))⟩) | (refine (jb_f ?_).symm; unfold pkB; rw [if_neg (by omega)]; intro h; simp only [Bool.and_eq_true, Bool.not_eq_true', decide_eq_true_eq] at h; first | omega | (have h2 := hb3.mp c73; rw [h.2] at h2; exact absurd h2 (by decide))))
        · refine L_i3 dX11_isPick_57 ?_
          refine L_i4 dX11_isPick_58 ?_
          refine L_a0 dX11_isPick_60 ?_
          refine GW_36_26 fX11_50 dX11_isPick_61 ?_
          refine L_i5 dX11_isPick_64 ?_
          refine J_iconst dX11_isPick_66 ?_
          refine J_isub dX11_isPick_67 ?_
          refine AR_46 dX11_isPick_68 (by omega) ?_
          refine J_eqi (b := (st (c - 1) : Int)) (by rw [show (c : Int) - 1 = ((c - 1 : Nat) : Int) by omega]; exact hcs.1) ?_
          refine J_iadd dX11_isPick_69 ?_
          refine J_eqi (b := ((p + st (c - 1) : Nat) : Int)) (by omega) ?_
          refine C_s2F vX11_251 dX11_isPick_70 (qX11_has (by omega) (by omega)) (Nat.le_of_ble_eq_true rfl) (by decide) ?_
          refine J_ifneB 80 dX11_isPick_73 rfl (fun c73 => ?_) (fun c73 => ?_)
          · refine J_iconst dX11_isPick_80 ?_
            exact R_z rfl dX11_isPick_81 (by decide) rfl (by first | (refine (jb_t ?_).symm; unfold pkB; rw [if_neg (by omega)]; simp only [Bool.and_eq_true, Bool.not_eq_true', decide_eq_true_eq]; exact ⟨⟨⟨(hb1 (by omega)).mp c24, Bool.eq_false_iff.mpr (fun h => c35 ((hb2 (by omega)).mpr h))⟩, by omega⟩, Bool.eq_false_iff.mpr (fun h => c73 (hb3.mpr h))⟩) | (refine (jb_f ?_).symm; unfold pkB; rw [if_neg (by omega)]; intro h; simp only [Bool.and_eq_true, Bool.not_eq_true', decide_eq_true_eq] at h; first | omega | (have h2 := hb3.mp c73; rw [h.2] at h2; exact absurd h2 (by decide))))
          · refine J_iconst dX11_isPick_76 ?_
            refine E_goto 81 dX11_isPick_77 rfl ?_
            exact R_z rfl dX11_isPick_81 (by decide) rfl (by first | (refine (jb_t ?_).symm; unfold pkB; rw [if_neg (by omega)]; simp only [Bool.and_eq_true, Bool.not_eq_true', decide_eq_true_eq]; exact ⟨⟨⟨(hb1 (by omega)).mp c24, Bool.eq_false_iff.mpr (fun h => c35 ((hb2 (by omega)).mpr h))⟩, by omega⟩, Bool.eq_false_iff.mpr (fun h => c73 (hb3.mpr h))⟩) | (refine (jb_f ?_).symm; unfold pkB; rw [if_neg (by omega)]; intro h; simp only [Bool.and_eq_true, Bool.not_eq_true', decide_eq_true_eq] at h; first | omega | (have h2 := hb3.mp c73; rw [h.2] at h2; exact absurd h2 (by decide))))
      · refine J_iconst dX11_isPick_38 ?_
        exact R_z rfl dX11_isPick_39 (by decide) rfl (by refine (jb_f ?_).symm; unfold pkB; rw [if_neg (by omega)]; intro h; simp only [Bool.and_eq_true, Bool.not_eq_true', decide_eq_true_eq] at h; first | exact absurd ((hb1 (by omega)).mpr h.1.1.1) (by assumption) | (have h2 := (hb2 (by omega)).mp (by assumption); rw [h.1.1.2] at h2; exact absurd h2 (by decide)))
  · refine L_i7 dX11_isPick_5 ?_
    refine J_if_le 14 dX11_isPick_7 rfl (by omega) (fun c7 => ?_) (fun c7 => ?_)
    · refine J_iconst dX11_isPick_14 ?_
      exact R_z rfl dX11_isPick_15 (by decide) rfl (by first | exact (jb_t (by unfold pkB; rw [if_pos (show c = 0 by omega)]; exact decide_eq_true (by omega))).symm | exact (jb_f (by unfold pkB; rw [if_pos (show c = 0 by omega)]; intro h; have := of_decide_eq_true h; omega)).symm)
    · refine J_iconst dX11_isPick_10 ?_
      refine E_goto 15 dX11_isPick_11 rfl ?_
      exact R_z rfl dX11_isPick_15 (by decide) rfl (by first | exact (jb_t (by unfold pkB; rw [if_pos (show c = 0 by omega)]; exact decide_eq_true (by omega))).symm | exact (jb_f (by unfold pkB; rw [if_pos (show c = 0 by omega)]; intro h; have := of_decide_eq_true h; omega)).symm)

