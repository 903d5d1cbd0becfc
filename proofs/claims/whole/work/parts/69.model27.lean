/-! ===== the reference: all ways, the method ===== -/
theorem flat_len {f : Nat → List (List Nat)} {b : Nat} : ∀ (os : List Nat), (∀ m ∈ os, (f m).length ≤ b) → (os.flatMap f).length ≤ os.length * b := by
  intro os
  induction os with
  | nil => intro _; rw [List.flatMap_nil]; exact Nat.zero_le _
  | cons m r ih =>
    intro h
    rw [List.flatMap_cons, List.length_append, List.length_cons, Nat.succ_mul]
    have h1 := h m (List.mem_cons_self)
    have h2 := ih (fun x hx => h x (List.mem_cons_of_mem _ hx))
    omega
theorem wy_len : ∀ (L : List (List Nat)) (u : Nat), (∀ os ∈ L, os.length ≤ 16) → (wy L u).length ≤ 16 ^ L.length := by
  intro L
  induction L with
  | nil => intro u _; exact Nat.le_refl 1
  | cons os L ih =>
    intro u h
    rw [wy_cons]
    have h1 := h os (List.mem_cons_self)
    have h2 := flat_len (f := wyf L u) (b := 16 ^ L.length) os (fun m hm => by
      unfold wyf
      split
      · rw [List.length_map]; exact ih _ (fun x hx => h x (List.mem_cons_of_mem _ hx))
      · exact Nat.zero_le _)
    rw [List.length_cons, Nat.pow_succ]
    have h3 : os.length * 16 ^ L.length ≤ 16 * 16 ^ L.length := Nat.mul_le_mul_right _ h1
    have h4 : 16 * 16 ^ L.length = 16 ^ L.length * 16 := Nat.mul_comm _ _
    omega
theorem wy_B {L : List (List Nat)} (h : PB L) (u : Nat) : (wy L u).length ≤ 4294967296 := by
  have h1 : ∀ os ∈ L, os.length ≤ 16 := by
    intro os ho
    obtain ⟨i, hi, rfl⟩ := List.getElem_of_mem ho
    have := (h.2 i hi).1
    rw [List.getD_eq_getElem?_getD, List.getElem?_eq_getElem hi] at this
    exact this
  have h2 := wy_len L u h1
  have h3 : 16 ^ L.length ≤ 16 ^ 8 := Nat.pow_le_pow_right (by decide) h.1
  have h4 : (16 : Nat) ^ 8 = 4294967296 := by decide
  omega
theorem FS.base {T0 T1 T : Nat → Int → Int} {L : List (List Nat)} {tr pre : List Nat} {ws : List (List Nat)} (h : FS T1 T L tr pre ws) (f : Fr [36] T0 T1) (o : ∀ j, ¬ j = 33 → T1 36 j = T0 36 j) : FS T0 T L tr pre ws := ⟨(f.mono (by decide)).trans h.1, fun j hj => (h.2.1 j hj).trans (o j hj), h.2.2⟩
theorem bt_all {n j : Nat} (h : j < n) : bt (bsh n - 1) j := by
  unfold bt
  rw [bsh_nat, show (((2 ^ n : Nat) : Int) - 1).toNat = 2 ^ n - 1 by omega, Nat.testBit_two_pow_sub_one]
  exact decide_eq_true h
theorem bsh_8 {n : Nat} (h : n ≤ 8) : bsh (n : Int) ≤ 256 := by
  rw [bsh_nat]
  have : 2 ^ n ≤ 2 ^ 8 := Nat.pow_le_pow_right (by decide) h
  have h4 : (2 : Nat) ^ 8 = 256 := by decide
  omega
set_option maxRecDepth 100000 in
theorem qX11_fitted0 {S T : Nat → Int → Int} {D : List mx_C} {L : List (List Nat)} {u : Nat} {al : Int} (hPB : PB L) (hPO : PO T L L.length) (hmm : T 36 32 = (L.length : Int)) (hu : u < 65536) (hal : al = 0 ∨ al = 1) : SpL yX11_fitted cX11_fitted 7 (some .long) 2 [.ref 36, .int (jI (u : Int)), .int (jI al)] (W5 S T D) (FQ S (upF T 36 33 (bsh (L.length : Int) - 1)) D L al (wy L u)) := by
  have hl8 := hPB.1
  have hb8 := bsh_8 hPB.1
  have hps := bsh_pos (L.length : Int)
  have hwB := wy_B hPB u
  refine Sp.of [.ref 36, .int (jI (u : Int)), .int (jI al), .retAddr 0, .retAddr 0, .retAddr 0, .retAddr 0] (by decide) (by simp) (Nat.le_of_ble_eq_true rfl) rfl (fun E => ?_)
  refine L_a0 dX11_fitted_0 ?_
  refine J_iconst dX11_fitted_1 ?_
  refine L_a0 dX11_fitted_2 ?_
  refine GW_36_32 fX11_398 dX11_fitted_3 ?_
  refine J_eqi (b := (L.length : Int)) hmm ?_
  refine J_1shl dX11_fitted_6 (by omega) ?_
  refine J_iconst dX11_fitted_7 ?_
  refine J_isub dX11_fitted_8 ?_
  refine PW_36_33 fX11_404 dX11_fitted_9 ?_
  refine L_a0 dX11_fitted_12 ?_
  refine GW_36_32 fX11_398 dX11_fitted_13 ?_
  refine J_eqi (b := (L.length : Int)) hmm ?_
  refine J_if_ne 21 dX11_fitted_16 rfl (by omega) (fun c16 => ?_) (fun c16 => ?_)
  · refine J_lconst 0 dX11_fitted_21 (by decide) ?_
    refine S_l3 dX11_fitted_22 (by decide) rfl ?_
    refine L_i1 dX11_fitted_23 ?_
    refine S_i5 dX11_fitted_24 (by decide) rfl ?_
    refine J_iconst dX11_fitted_26 ?_
    refine S_i6 dX11_fitted_27 (by decide) rfl ?_
    refine L_a0 dX11_fitted_29 ?_
    refine GW_36_30 fX11_62 dX11_fitted_30 ?_
    refine J_iconst dX11_fitted_33 ?_
    refine J_iconst dX11_fitted_34 ?_
    refine AS_50 dX11_fitted_35 (by omega) ?_
    have hne : L ≠ [] := by intro h; rw [h] at c16; exact c16 rfl
    refine E_eq rfl rfl rfl (show _ = W5 S (upF (upF T 36 33 (bsh (L.length : Int) - 1)) 50 ((0 : Nat) : Int) (-1)) D from rfl) ?_
    have hF0 : FS (upF T 36 33 (bsh (L.length : Int) - 1)) (upF T 36 33 (bsh (L.length : Int) - 1)) L [] [] [] := ⟨Fr.refl _ _, fun _ _ => rfl, by show 0 ≤ bsh (L.length : Int) - 1 ∧ bsh (L.length : Int) - 1 < 256; omega, rfl, fun j hj => absurd hj (Nat.not_lt_zero _), fun j hj => ⟨⟨fun _ v hv => (by cases hv), fun _ => bt_all hj⟩, fun h => absurd rfl h⟩, fun j => by show 0 < 65536; decide⟩
    refine fit_main (T0 := (upF T 36 33 (bsh (L.length : Int) - 1))) (tot := wy L u) hPB (hPO.congr rfl rfl) hmm hal (by omega) L 0 [] [] u [] [] _ rfl hne rfl (FS_50 hF0 (Nat.le_refl _) (-1)) (by simp [upS, up]) hu (by simp) (fun _ => rfl) (fun T' hF' ha' => ?_)
    rw [show ([] : List (List Nat)) ++ (wy L u).map ([] ++ ·) = wy L u by simp] at hF' ha' ⊢
    refine L_i6 dX11_fitted_36 ?_
    refine J_if_lt 236 dX11_fitted_38 rfl (by omega) (fun c38 => ?_) (fun c38 => ?_)
    · refine L_l3 dX11_fitted_236 ?_
      exact RQ_l rfl dX11_fitted_237 ⟨by rcases hal with h | h; (rw [ha' h, if_neg (by omega)]; rfl); (rw [if_pos h]), T', rfl, by rcases hal with h | h; (rw [if_neg (by omega)]; rw [ha' h] at hF' ⊢; exact hF'); (rw [if_pos h]; exact hF')⟩
    · exfalso; omega
  · refine J_lconst 1 dX11_fitted_19 (by decide) ?_
    exact RQ_l rfl dX11_fitted_20 (by
    have hnil : L = [] := List.eq_nil_of_length_eq_zero (by omega)
    subst hnil
    refine ⟨by rcases hal with h | h; (rw [if_neg (by omega)]; rfl); (rw [if_pos h]; rfl), _, rfl, ?_⟩
    have e : (if al = 1 then wy [] u else (wy [] u).take 1) = [[]] := by split <;> rfl
    rw [e]
    exact ⟨Fr.refl _ _, fun j hj => rfl, by show 0 ≤ bsh (([] : List (List Nat)).length : Int) - 1 ∧ bsh (([] : List (List Nat)).length : Int) - 1 < 256; decide, rfl, fun j hj => absurd hj (Nat.not_lt_zero _), fun j hj => absurd hj (Nat.not_lt_zero _), fun j => by show ([] : List Nat).getD j 0 < 65536; rw [List.getD_nil]; decide⟩)

theorem qX11_fitted {S T : Nat → Int → Int} {D : List mx_C} {L : List (List Nat)} {u : Nat} {al : Int} (hPB : PB L) (hPO : PO T L L.length) (hmm : T 36 32 = (L.length : Int)) (hu : u < 65536) (hal : al = 0 ∨ al = 1) : SpL yX11_fitted cX11_fitted 7 (some .long) 2 [.ref 36, .int (jI (u : Int)), .int (jI al)] (W5 S T D) (FQ S T D L al (wy L u)) := (qX11_fitted0 hPB hPO hmm hu hal).mono (fun r hp' h => by
  obtain ⟨v, e, h1, T', e2, hF⟩ := h
  exact ⟨v, e, h1, T', e2, hF.base (Fr_up _ _ (by decide)) (fun j hj => up_n hj)⟩)
