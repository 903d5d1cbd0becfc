/-! ===== the reference: by scripts, by years ===== -/
theorem bor_ge_l {a b : Int} : a ≤ bor a b := by
  have h : a.toNat ≤ a.toNat ||| b.toNat := Nat.left_le_or
  unfold bor
  omega
theorem bor_ge_r {a b : Int} : b ≤ bor a b := by
  have h : b.toNat ≤ a.toNat ||| b.toNat := Nat.right_le_or
  unfold bor
  omega
theorem lpF_mono {g : Int → Int → Int} (hg : ∀ k s, s ≤ g k s) : ∀ (m : Nat) (k s : Int), s ≤ lpF g m k s := by
  intro m
  induction m with
  | zero => intro k s; exact Int.le_refl _
  | succ m ih => intro k s; exact Int.le_trans (hg k s) (ih (k + 1) (g k s))
theorem lpF_ge {g : Int → Int → Int} (hg : ∀ k s, s ≤ g k s) {x q : Int} (hx : ∀ s, x ≤ g q s) : ∀ (m : Nat) (k s : Int), k ≤ q → q < k + m → x ≤ lpF g m k s := by
  intro m
  induction m with
  | zero => intro k s _ _; omega
  | succ m ih =>
    intro k s h1 h2
    rw [lpF]
    by_cases h : q = k
    · subst h; exact Int.le_trans (hx s) (lpF_mono hg m _ _)
    · exact ih _ _ (by omega) (by omega)
theorem md_taken_ge {a : Int → Int} {k : Int} (h : md_stands a k) : md_pl a k ≤ md_taken a := lpF_ge (fun k s => bor_ge_l) (q := k) (fun s => by rw [if_pos h]; exact bor_ge_r) 8 0 0 (by omega) (by omega)
theorem bsh_mono {i j : Int} (h : bsh i < bsh j) : i < j := by
  unfold bsh at h
  have h2 : 2 ^ i.toNat < 2 ^ j.toNat := by omega
  have h3 := (Nat.pow_lt_pow_iff_right (show 1 < 2 by decide)).mp h2
  omega
theorem md_len_V {a : Int → Int} (hv : MV a) {n : Int} (h : md_lenOk a n) : MV (up (md_keep a) 7 n) := by
  have hk := md_keep_V hv
  have hk2 := hk.2
  have ht := md_taken_B hv
  have e : ∀ j, ¬ j = 7 → up (md_keep a) 7 n j = md_keep a j := fun j hj => up_n hj
  refine MV_of hk (Bd_up hk.1 (by omega)) (e 0 (by omega)) (e 1 (by omega)) (by rw [e 2 (by omega)]; omega) (e 3 (by omega)) (by rw [e 4 (by omega)]; omega) (by rw [e 5 (by omega)]; omega) (by rw [e 6 (by omega)]; omega) (by rw [up_s]; omega) (fun k hk3 => ?_)
  rw [e (8 + k) (by omega), e (16 + k) (by omega), e (24 + k) (by omega), up_s]
  have hat := hk.at hk3
  refine ⟨hat.1, hat.2.1, fun h8 => ⟨(hat.2.2.1 h8).1, ?_⟩, hat.2.2.2⟩
  have e8 : md_keep a (8 + k) = a (8 + k) := md_keep_at hv.2.2.2.1 (by omega) (by omega)
  have e16 : md_keep a (16 + k) = a (16 + k) := md_keep_at hv.2.2.2.1 (by omega) (by omega)
  have h1 := md_taken_ge (a := a) (k := k) ⟨hk3, by omega⟩
  have h2 : bsh (a (16 + k)) ≤ md_pl a k := bor_ge_r
  have h3 : md_taken a < 2 ^ n.toNat := by
    have hp : (0 : Int) < 2 ^ n.toNat := Int.pow_pos (by decide)
    have := h.2.2
    rcases Int.lt_or_le (md_taken a) (2 ^ n.toNat) with hh | hh
    · exact hh
    · have := (Int.le_ediv_iff_mul_le (c := 2 ^ n.toNat) (a := 1) (b := md_taken a) hp).mpr (by omega)
      omega
  have h4 : (2 : Int) ^ n.toNat = bsh n := by unfold bsh; exact (Int.natCast_pow 2 n.toNat).symm
  rw [e16]
  exact bsh_mono (by omega)
/-- a clause carried out -/
def md_ply (c : Int → Int) (a : Int → Int) (x : Int) : Int × (Int → Int) :=
  if c x = 2 then (if md_lenOk a (c (x + 1)) then (1, up (md_keep a) 7 (c (x + 1))) else (0, a))
  else if c x = 3 then (if md_sec a c (wr1 (c (x + 1))) (c (x + 2)) = -1 then (0, a) else (1, md_join (md_keep a) c (wr1 (c (x + 1))) (c (x + 2))))
  else if c x = 4 then (if md_stands a (wr1 (c (x + 1))) then (1, md_leave (md_keep a) (wr1 (c (x + 1))) 1) else (0, a))
  else if c x = 5 then (if md_standing a = 0 then (0, a) else (1, md_turn (md_keep a)))
  else if c x = 6 then ((md_aps c 1 (c (x + 1)).toNat (a, 0)).1, (md_aps c 1 (c (x + 1)).toNat (a, 0)).2.1)
  else (1, a)
theorem md_turn_L {a : Int → Int} (hl : ML a) : ∀ (m : Nat) (k : Int), k + m = 8 → 0 ≤ k → ML (lpF md_tng m k a) := by
  intro m
  induction m generalizing a with
  | zero => intro k _ _; exact hl
  | succ m ih =>
    intro k h1 h2
    rw [lpF]
    refine ih ?_ (k + 1) (by omega) (by omega)
    unfold md_tng
    split
    · exact ML_up (ML_up hl (by omega)) (by omega)
    · exact hl
theorem md_turn_lo {a : Int → Int} {j : Int} (hj : j < 8 ∨ 24 ≤ j) : ∀ (m : Nat) (k : Int), k + m = 8 → 0 ≤ k → lpF md_tng m k a j = a j := by
  intro m
  induction m generalizing a with
  | zero => intro k _ _; rfl
  | succ m ih =>
    intro k h1 h2
    rw [lpF, ih (k + 1) (by omega) (by omega)]
    unfold md_tng
    split
    · rw [up_n (by omega), up_n (by omega)]
    · rfl
theorem md_leave_at {a : Int → Int} (hv : MV a) {k q j : Int} (hk : 0 ≤ k ∧ k ≤ 7) (hj : 0 ≤ j ∧ j < 6) : md_leave a k q j = a j := by rw [← md_lvw_1]; exact md_lvw_at hv hk hj
theorem md_join_at {a c : Int → Int} (hv : MV a) {k p j : Int} (h : ¬ md_sec a c k p = -1) (hj : 0 ≤ j ∧ j < 6) : md_join a c k p j = a j := by
  have hb := md_sec_B h
  unfold md_join
  have h6 := hv.2.2.2.2.2.2.2.1
  rw [md_write_at (by rw [up_n (by omega), up_n (by omega), up_n (by omega)]; exact h6) (by omega) (by omega), up_n (by omega), up_n (by omega), up_n (by omega)]
theorem md_ply_P {c a : Int → Int} {x : Int} (hv : MV a) (hl : ML a) : MV (md_ply c a x).2 ∧ ML (md_ply c a x).2 ∧ (md_ply c a x).2 0 = a 0 ∧ (md_ply c a x).2 1 = a 1 := by
  have hk := md_keep_V hv
  have hkl := md_keep_L hv hl
  have k0 : md_keep a 0 = a 0 := md_keep_at hv.2.2.2.1 (by omega) (by omega)
  have k1 : md_keep a 1 = a 1 := md_keep_at hv.2.2.2.1 (by omega) (by omega)
  unfold md_ply
  split
  · split
    · next h => exact ⟨md_len_V hv h, ML_up hkl (by omega), (show up (md_keep a) 7 (c (x + 1)) 0 = a 0 from (up_n (by omega)).trans k0), (show up (md_keep a) 7 (c (x + 1)) 1 = a 1 from (up_n (by omega)).trans k1)⟩
    · exact ⟨hv, hl, rfl, rfl⟩
  · split
    · split
      · exact ⟨hv, hl, rfl, rfl⟩
      · next h =>
        have h2 : ¬ md_sec (md_keep a) c (wr1 (c (x + 1))) (c (x + 2)) = -1 := by rw [md_sec_keep hv]; exact h
        exact ⟨md_join_V hk h2, md_join_L hk hkl h2, (md_join_at hk h2 (by omega)).trans k0, (md_join_at hk h2 (by omega)).trans k1⟩
    · split
      · split
        · next h => exact ⟨md_leave_V hk h.1 (by omega), md_leave_L hk hkl h.1 (by omega), (md_leave_at hk h.1 (by omega)).trans k0, (md_leave_at hk h.1 (by omega)).trans k1⟩
        · exact ⟨hv, hl, rfl, rfl⟩
      · split
        · split
          · exact ⟨hv, hl, rfl, rfl⟩
          · exact ⟨md_turn_V hk 8 0 (by omega) (by omega), md_turn_L hkl 8 0 (by omega) (by omega), (md_turn_lo (by omega) 8 0 (by omega) (by omega)).trans k0, (md_turn_lo (by omega) 8 0 (by omega) (by omega)).trans k1⟩
        · split
          · exact md_aps_P _ (a, 0) hv hl
          · exact ⟨hv, hl, rfl, rfl⟩
theorem MI_keep_st {a : Int → Int} (hv : MV a) {k : Int} : md_stands (md_keep a) k ↔ md_stands a k := by
  unfold md_stands
  constructor
  · intro h; rw [md_keep_at hv.2.2.2.1 (by omega) (by omega)] at h; exact h
  · intro h; rw [md_keep_at hv.2.2.2.1 (by omega) (by omega)]; exact h
set_option maxRecDepth 100000 in
theorem qX11_leaveW {S T : Nat → Int → Int} {D : List mx_C} (hv : MV (T 37)) (hw : T 36 23 = 1) {n : Int} (h_n : -2147483648 ≤ n ∧ n < 2147483648) : SpF yX11_leave cX11_leave 2 (some .boolean) 3 [.ref 36, .int (jI n)] (W5 S T D) (.int (jI (jb (md_stands (T 37) (wr1 n))))) (W5 S (if md_stands (T 37) (wr1 n) then upS T 37 (md_leave (md_keep (T 37)) (wr1 n) 1) else T) D) := by
  have ha := hv.2
  have hwr := wr1_B h_n
  refine Sp.of [.ref 36, .int (jI n)] (by decide) (by simp) (Nat.le_of_ble_eq_true rfl) rfl (fun E => ?_)
  refine L_a0 dX11_leave_0 ?_
  refine L_i1 dX11_leave_1 ?_
  refine J_iconst dX11_leave_2 ?_
  refine J_isub dX11_leave_3 ?_
  refine J_wr1 ?_
  refine C_v1F vX11_91 dX11_leave_4 (qX11_standsV hv (by omega)) rfl rfl (Nat.le_of_ble_eq_true rfl) (by decide) ?_
  refine J_ifneB 12 dX11_leave_7 rfl (fun c7 => ?_) (fun c7 => ?_)
  · refine L_a0 dX11_leave_12 ?_
    refine C_v0V vX11_353 dX11_leave_13 (qX11_keep hv.2.2.2.1) rfl rfl (Nat.le_of_ble_eq_true rfl) (by decide) ?_
    refine L_a0 dX11_leave_16 ?_
    refine L_i1 dX11_leave_17 ?_
    refine J_iconst dX11_leave_18 ?_
    refine J_isub dX11_leave_19 ?_
    refine J_wr1 ?_
    refine J_iconst dX11_leave_20 ?_
    refine C_v2V vX11_347 dX11_leave_21 (qX11_leaveNow (T := upS T 37 (md_keep (T 37))) (md_keep_V hv) hw (by have := c7.1; omega) (by omega)) rfl rfl (Nat.le_of_ble_eq_true rfl) (by decide) ?_
    refine J_iconst dX11_leave_24 ?_
    exact R_z rfl dX11_leave_25 (by decide) (by first | (rw [if_pos (by assumption)]; rfl) | (rw [if_neg (by assumption)])) (by first | (rw [jb_t (by assumption)]) | (rw [jb_f (by assumption)]))
  · refine J_iconst dX11_leave_10 ?_
    exact R_z rfl dX11_leave_11 (by decide) (by first | (rw [if_pos (by assumption)]; rfl) | (rw [if_neg (by assumption)])) (by first | (rw [jb_t (by assumption)]) | (rw [jb_f (by assumption)]))

