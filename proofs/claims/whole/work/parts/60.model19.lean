/-! ===== the reference: years, foretold, of, whose ===== -/
theorem md_pk_z (c : Int → Int) (b k : Int) (a : Int → Int) (z z' : Int) : (md_pk c b k (a, z)).1 = (md_pk c b k (a, z')).1 := by
  unfold md_pk
  split
  · split <;> rfl
  · rfl
theorem md_pk_lz (c : Int → Int) (b : Int) : ∀ (m : Nat) (k : Int) (s s' : (Int → Int) × Int), s.1 = s'.1 → (lpF (md_pk c b) m k s).1 = (lpF (md_pk c b) m k s').1 := by
  intro m
  induction m with
  | zero => intro k s s' h; exact h
  | succ m ih =>
    intro k s s' h
    rw [lpF, lpF]
    refine ih _ _ _ ?_
    obtain ⟨a, z⟩ := s
    obtain ⟨a', z'⟩ := s'
    obtain rfl : a = a' := h
    exact md_pk_z c b k a z z'
theorem md_pass_z (c : Int → Int) (b : Int) (a : Int → Int) (z z' : Int) : (md_pass c b (a, z)).1 = (md_pass c b (a, z')).1 := by
  unfold md_pass
  show up (lpF (md_pk c b) 8 0 (a, z)).1 4 ((lpF (md_pk c b) 8 0 (a, z)).1 4 + 1) = up (lpF (md_pk c b) 8 0 (a, z')).1 4 ((lpF (md_pk c b) 8 0 (a, z')).1 4 + 1)
  rw [md_pk_lz c b 8 0 (a, z) (a, z') rfl]
/-- one of the draws of years -/
def md_hap (c a : Int → Int) (x : Int) : Int → Int :=
  if x % 6 ≤ 1 then (if md_sec a c (x / 6 % 8) (x % 16) = -1 then a else md_join a c (x / 6 % 8) (x % 16))
  else if x % 6 = 2 then (if x % 4 = 0 ∧ md_stands a (x / 6 % 8) then md_leave a (x / 6 % 8) 1 else a)
  else if x % 6 = 3 then (if x % 4 = 1 then md_turn a else a)
  else (if a 4 < 9999 then (md_pass c 1 (a, 0)).1 else a)
theorem md_hap_P {c a : Int → Int} {x : Int} (hv : MV a) (hl : ML a) (hx : 0 ≤ x) : MV (md_hap c a x) ∧ ML (md_hap c a x) ∧ md_hap c a x 0 = a 0 ∧ md_hap c a x 1 = a 1 := by
  have same : MV a ∧ ML a ∧ a 0 = a 0 ∧ a 1 = a 1 := ⟨hv, hl, rfl, rfl⟩
  unfold md_hap
  split
  · split
    · exact same
    · next h => exact ⟨md_join_V hv h, md_join_L hv hl h, md_join_at hv h (by omega), md_join_at hv h (by omega)⟩
  · split
    · split
      · next h => exact ⟨md_leave_V hv h.2.1 (by omega), md_leave_L hv hl h.2.1 (by omega), md_leave_at hv h.2.1 (by omega), md_leave_at hv h.2.1 (by omega)⟩
      · exact same
    · split
      · split
        · exact ⟨md_turn_V hv 8 0 (by omega) (by omega), md_turn_L hl 8 0 (by omega) (by omega), md_turn_lo (by omega) 8 0 (by omega) (by omega), md_turn_lo (by omega) 8 0 (by omega) (by omega)⟩
        · exact same
      · split
        · next h =>
          have hh := md_pass_P (c := c) (b := 1) (s := (a, 0)) hv hl h
          exact ⟨hh.1, hh.2.1, hh.2.2.1, hh.2.2.2.1⟩
        · exact same
theorem hap0 {c a : Int → Int} {x : Int} (h : x % 6 = 0 ∨ x % 6 = 1) : md_hap c a x = if md_sec a c (x / 6 % 8) (x % 16) = -1 then a else md_join a c (x / 6 % 8) (x % 16) := by unfold md_hap; rw [if_pos (by omega)]
theorem hap2 {c a : Int → Int} {x : Int} (h : x % 6 = 2) : md_hap c a x = if x % 4 = 0 ∧ md_stands a (x / 6 % 8) then md_leave a (x / 6 % 8) 1 else a := by unfold md_hap; rw [if_neg (by omega), if_pos h]
theorem hap3 {c a : Int → Int} {x : Int} (h : x % 6 = 3) : md_hap c a x = if x % 4 = 1 then md_turn a else a := by unfold md_hap; rw [if_neg (by omega), if_neg (by omega), if_pos h]
theorem hap4 {c a : Int → Int} {x : Int} (h : 3 < x % 6) : md_hap c a x = if a 4 < 9999 then (md_pass c 1 (a, 0)).1 else a := by unfold md_hap; rw [if_neg (by omega), if_neg (by omega), if_neg (by omega)]
set_option maxRecDepth 100000 in
theorem qX11_happens {S T : Nat → Int → Int} {D : List mx_C} (hi : MI T) (hw : T 36 23 = 1) {x : Int} (h_x : 0 ≤ x ∧ x < 31019) : SpU yX11_happens cX11_happens 3 none 11 [.ref 36, .int (jI x)] (W5 S T D) (fun hp' => ∃ T', hp' = W5 S T' D ∧ T' 37 = md_hap (T 39) (T 37) x ∧ ∃ z, T' 36 = up (T 36) 24 z ∧ Fr [36, 37, 42, 43, 44] T T') := by
  have hv := hi.1
  have hl := hi.2.1
  have ha := hv.2
  have hsr := md_sec_R (a := T 37) (c := T 39) (by omega) (x / 6 % 8) (x % 16)
  refine Sp.of [.ref 36, .int (jI x), .retAddr 0] (by decide) (by simp) (Nat.le_of_ble_eq_true rfl) rfl (fun E => ?_)
  refine L_i1 dX11_happens_0 ?_
  refine J_bipush dX11_happens_1 (by decide) ?_
  refine J_idivN dX11_happens_3 (by omega) (by omega) ?_
  refine J_bipush dX11_happens_4 (by decide) ?_
  refine J_iremN dX11_happens_6 (by omega) (by omega) ?_
  refine S_i2 dX11_happens_7 (by decide) rfl ?_
  refine L_i1 dX11_happens_8 ?_
  refine J_bipush dX11_happens_9 (by decide) ?_
  refine J_iremN dX11_happens_11 (by omega) (by omega) ?_
  refine J_tab4 44 44 69 92 106 dX11_happens_12 (by omega) rfl rfl rfl rfl rfl rfl (fun c12 => ?_) (fun c12 => ?_) (fun c12 => ?_) (fun c12 => ?_) (fun c12 => ?_)
  · refine L_a0 dX11_happens_44 ?_
    refine L_i2 dX11_happens_45 ?_
    refine L_i1 dX11_happens_46 ?_
    refine J_bipush dX11_happens_47 (by decide) ?_
    refine J_iremN dX11_happens_49 (by omega) (by omega) ?_
    refine C_v2I vX11_332 dX11_happens_50 (qX11_secondAt hi (by omega) (by omega)) rfl rfl (Nat.le_of_ble_eq_true rfl) (by decide) (fun v50 hp50 hq50 => ?_)
    obtain ⟨rfl, T50, rfl, f50⟩ := hq50
    have e50 := f50 37 (by decide)
    have hi50 := hi.congr e50 (f50 39 (by decide))
    refine J_iconst dX11_happens_53 ?_
    refine J_icmp_eq 122 dX11_happens_54 rfl (by omega) (by omega) (fun c54 => ?_) (fun c54 => ?_)
    · exact RQ_v rfl dX11_happens_122 (by
    first
      | (rw [hap0 (by omega), if_pos (by omega)]; exact ⟨_, rfl, e50, _, (f50 36 (by decide)).trans (up_id _ 24), f50.mono (by decide)⟩)
      | (rw [hap0 (by omega), if_neg (by omega)]; exact ⟨_, rfl, g63.trans (by rw [e50, f50 39 (by decide)]), _, (f63 36 (by decide)).trans ((f50 36 (by decide)).trans (up_id _ 24)), (f50.mono (by decide)).trans (Fr_mono5 f63)⟩)
      | (rw [hap2 (by omega), if_pos ⟨by omega, by assumption⟩]; exact ⟨_, rfl, rfl, _, up_id _ 24, Fr_up _ _ (by decide)⟩)
      | (rw [hap2 (by omega), if_neg (fun h => by have h1 := h.1; have h2 := h.2.1; have h3 := h.2.2; first | omega | (exact absurd h.2 (by assumption)))]; exact ⟨_, rfl, rfl, _, up_id _ 24, Fr.refl _ _⟩)
      | (rw [hap3 (by omega), if_pos (by omega)]; exact ⟨_, rfl, rfl, _, up_id _ 24, Fr_up _ _ (by decide)⟩)
      | (rw [hap3 (by omega), if_neg (by omega)]; exact ⟨_, rfl, rfl, _, up_id _ 24, Fr.refl _ _⟩)
      | (rw [hap4 (by omega), if_pos (by omega)]; exact ⟨_, rfl, by rw [g119, hw]; exact md_pass_z _ _ _ _ _, _, o119, f119⟩)
      | (rw [hap4 (by omega), if_neg (by omega)]; exact ⟨_, rfl, rfl, _, up_id _ 24, Fr.refl _ _⟩))
    · refine L_a0 dX11_happens_57 ?_
      refine L_i2 dX11_happens_58 ?_
      refine L_i1 dX11_happens_59 ?_
      refine J_bipush dX11_happens_60 (by decide) ?_
      refine J_iremN dX11_happens_62 (by omega) (by omega) ?_
      refine C_v2U vX11_356 dX11_happens_63 (qX11_joinNow hi50 (by rw [f50 36 (by decide)]; exact hw) (by rw [e50, f50 39 (by decide)]; exact c54)) rfl rfl (Nat.le_of_ble_eq_true rfl) (by decide) (fun hp63 hq63 => ?_)
      obtain ⟨T63, rfl, g63, f63⟩ := hq63
      refine E_goto 122 dX11_happens_66 rfl ?_
      exact RQ_v rfl dX11_happens_122 (by
    first
      | (rw [hap0 (by omega), if_pos (by omega)]; exact ⟨_, rfl, e50, _, (f50 36 (by decide)).trans (up_id _ 24), f50.mono (by decide)⟩)
      | (rw [hap0 (by omega), if_neg (by omega)]; exact ⟨_, rfl, g63.trans (by rw [e50, f50 39 (by decide)]), _, (f63 36 (by decide)).trans ((f50 36 (by decide)).trans (up_id _ 24)), (f50.mono (by decide)).trans (Fr_mono5 f63)⟩)
      | (rw [hap2 (by omega), if_pos ⟨by omega, by assumption⟩]; exact ⟨_, rfl, rfl, _, up_id _ 24, Fr_up _ _ (by decide)⟩)
      | (rw [hap2 (by omega), if_neg (fun h => by have h1 := h.1; have h2 := h.2.1; have h3 := h.2.2; first | omega | (exact absurd h.2 (by assumption)))]; exact ⟨_, rfl, rfl, _, up_id _ 24, Fr.refl _ _⟩)
      | (rw [hap3 (by omega), if_pos (by omega)]; exact ⟨_, rfl, rfl, _, up_id _ 24, Fr_up _ _ (by decide)⟩)
      | (rw [hap3 (by omega), if_neg (by omega)]; exact ⟨_, rfl, rfl, _, up_id _ 24, Fr.refl _ _⟩)
      | (rw [hap4 (by omega), if_pos (by omega)]; exact ⟨_, rfl, by rw [g119, hw]; exact md_pass_z _ _ _ _ _, _, o119, f119⟩)
      | (rw [hap4 (by omega), if_neg (by omega)]; exact ⟨_, rfl, rfl, _, up_id _ 24, Fr.refl _ _⟩))
  · refine L_a0 dX11_happens_44 ?_
    refine L_i2 dX11_happens_45 ?_
    refine L_i1 dX11_happens_46 ?_
    refine J_bipush dX11_happens_47 (by decide) ?_
    refine J_iremN dX11_happens_49 (by omega) (by omega) ?_
    refine C_v2I vX11_332 dX11_happens_50 (qX11_secondAt hi (by omega) (by omega)) rfl rfl (Nat.le_of_ble_eq_true rfl) (by decide) (fun v50 hp50 hq50 => ?_)
    obtain ⟨rfl, T50, rfl, f50⟩ := hq50
    have e50 := f50 37 (by decide)
    have hi50 := hi.congr e50 (f50 39 (by decide))
    refine J_iconst dX11_happens_53 ?_
    refine J_icmp_eq 122 dX11_happens_54 rfl (by omega) (by omega) (fun c54 => ?_) (fun c54 => ?_)
    · exact RQ_v rfl dX11_happens_122 (by
    first
      | (rw [hap0 (by omega), if_pos (by omega)]; exact ⟨_, rfl, e50, _, (f50 36 (by decide)).trans (up_id _ 24), f50.mono (by decide)⟩)
      | (rw [hap0 (by omega), if_neg (by omega)]; exact ⟨_, rfl, g63.trans (by rw [e50, f50 39 (by decide)]), _, (f63 36 (by decide)).trans ((f50 36 (by decide)).trans (up_id _ 24)), (f50.mono (by decide)).trans (Fr_mono5 f63)⟩)
      | (rw [hap2 (by omega), if_pos ⟨by omega, by assumption⟩]; exact ⟨_, rfl, rfl, _, up_id _ 24, Fr_up _ _ (by decide)⟩)
      | (rw [hap2 (by omega), if_neg (fun h => by have h1 := h.1; have h2 := h.2.1; have h3 := h.2.2; first | omega | (exact absurd h.2 (by assumption)))]; exact ⟨_, rfl, rfl, _, up_id _ 24, Fr.refl _ _⟩)
      | (rw [hap3 (by omega), if_pos (by omega)]; exact ⟨_, rfl, rfl, _, up_id _ 24, Fr_up _ _ (by decide)⟩)
      | (rw [hap3 (by omega), if_neg (by omega)]; exact ⟨_, rfl, rfl, _, up_id _ 24, Fr.refl _ _⟩)
      | (rw [hap4 (by omega), if_pos (by omega)]; exact ⟨_, rfl, by rw [g119, hw]; exact md_pass_z _ _ _ _ _, _, o119, f119⟩)
      | (rw [hap4 (by omega), if_neg (by omega)]; exact ⟨_, rfl, rfl, _, up_id _ 24, Fr.refl _ _⟩))
    · refine L_a0 dX11_happens_57 ?_
      refine L_i2 dX11_happens_58 ?_
      refine L_i1 dX11_happens_59 ?_
      refine J_bipush dX11_happens_60 (by decide) ?_
      refine J_iremN dX11_happens_62 (by omega) (by omega) ?_
      refine C_v2U vX11_356 dX11_happens_63 (qX11_joinNow hi50 (by rw [f50 36 (by decide)]; exact hw) (by rw [e50, f50 39 (by decide)]; exact c54)) rfl rfl (Nat.le_of_ble_eq_true rfl) (by decide) (fun hp63 hq63 => ?_)
      obtain ⟨T63, rfl, g63, f63⟩ := hq63
      refine E_goto 122 dX11_happens_66 rfl ?_
      exact RQ_v rfl dX11_happens_122 (by
    first
      | (rw [hap0 (by omega), if_pos (by omega)]; exact ⟨_, rfl, e50, _, (f50 36 (by decide)).trans (up_id _ 24), f50.mono (by decide)⟩)
      | (rw [hap0 (by omega), if_neg (by omega)]; exact ⟨_, rfl, g63.trans (by rw [e50, f50 39 (by decide)]), _, (f63 36 (by decide)).trans ((f50 36 (by decide)).trans (up_id _ 24)), (f50.mono (by decide)).trans (Fr_mono5 f63)⟩)
      | (rw [hap2 (by omega), if_pos ⟨by omega, by assumption⟩]; exact ⟨_, rfl, rfl, _, up_id _ 24, Fr_up _ _ (by decide)⟩)
      | (rw [hap2 (by omega), if_neg (fun h => by have h1 := h.1; have h2 := h.2.1; have h3 := h.2.2; first | omega | (exact absurd h.2 (by assumption)))]; exact ⟨_, rfl, rfl, _, up_id _ 24, Fr.refl _ _⟩)
      | (rw [hap3 (by omega), if_pos (by omega)]; exact ⟨_, rfl, rfl, _, up_id _ 24, Fr_up _ _ (by decide)⟩)
      | (rw [hap3 (by omega), if_neg (by omega)]; exact ⟨_, rfl, rfl, _, up_id _ 24, Fr.refl _ _⟩)
      | (rw [hap4 (by omega), if_pos (by omega)]; exact ⟨_, rfl, by rw [g119, hw]; exact md_pass_z _ _ _ _ _, _, o119, f119⟩)
      | (rw [hap4 (by omega), if_neg (by omega)]; exact ⟨_, rfl, rfl, _, up_id _ 24, Fr.refl _ _⟩))
  · refine L_i1 dX11_happens_69 ?_
    refine J_iconst dX11_happens_70 ?_
    refine J_iremN dX11_happens_71 (by omega) (by omega) ?_
    refine J_if_ne 122 dX11_happens_72 rfl (by omega) (fun c72 => ?_) (fun c72 => ?_)
    · exact RQ_v rfl dX11_happens_122 (by
    first
      | (rw [hap0 (by omega), if_pos (by omega)]; exact ⟨_, rfl, e50, _, (f50 36 (by decide)).trans (up_id _ 24), f50.mono (by decide)⟩)
      | (rw [hap0 (by omega), if_neg (by omega)]; exact ⟨_, rfl, g63.trans (by rw [e50, f50 39 (by decide)]), _, (f63 36 (by decide)).trans ((f50 36 (by decide)).trans (up_id _ 24)), (f50.mono (by decide)).trans (Fr_mono5 f63)⟩)
      | (rw [hap2 (by omega), if_pos ⟨by omega, by assumption⟩]; exact ⟨_, rfl, rfl, _, up_id _ 24, Fr_up _ _ (by decide)⟩)
      | (rw [hap2 (by omega), if_neg (fun h => by have h1 := h.1; have h2 := h.2.1; have h3 := h.2.2; first | omega | (exact absurd h.2 (by assumption)))]; exact ⟨_, rfl, rfl, _, up_id _ 24, Fr.refl _ _⟩)
      | (rw [hap3 (by omega), if_pos (by omega)]; exact ⟨_, rfl, rfl, _, up_id _ 24, Fr_up _ _ (by decide)⟩)
      | (rw [hap3 (by omega), if_neg (by omega)]; exact ⟨_, rfl, rfl, _, up_id _ 24, Fr.refl _ _⟩)
      | (rw [hap4 (by omega), if_pos (by omega)]; exact ⟨_, rfl, by rw [g119, hw]; exact md_pass_z _ _ _ _ _, _, o119, f119⟩)
      | (rw [hap4 (by omega), if_neg (by omega)]; exact ⟨_, rfl, rfl, _, up_id _ 24, Fr.refl _ _⟩))
    · refine L_a0 dX11_happens_75 ?_
      refine L_i2 dX11_happens_76 ?_
      refine C_v1F vX11_91 dX11_happens_77 (qX11_standsV hv (by omega)) rfl rfl (Nat.le_of_ble_eq_true rfl) (by decide) ?_
      refine J_ifeqB 122 dX11_happens_80 rfl (fun c80 => ?_) (fun c80 => ?_)
      · exact RQ_v rfl dX11_happens_122 (by
    first
      | (rw [hap0 (by omega), if_pos (by omega)]; exact ⟨_, rfl, e50, _, (f50 36 (by decide)).trans (up_id _ 24), f50.mono (by decide)⟩)
      | (rw [hap0 (by omega), if_neg (by omega)]; exact ⟨_, rfl, g63.trans (by rw [e50, f50 39 (by decide)]), _, (f63 36 (by decide)).trans ((f50 36 (by decide)).trans (up_id _ 24)), (f50.mono (by decide)).trans (Fr_mono5 f63)⟩)
      | (rw [hap2 (by omega), if_pos ⟨by omega, by assumption⟩]; exact ⟨_, rfl, rfl, _, up_id _ 24, Fr_up _ _ (by decide)⟩)
      | (rw [hap2 (by omega), if_neg (fun h => by have h1 := h.1; have h2 := h.2.1; have h3 := h.2.2; first | omega | (exact absurd h.2 (by assumption)))]; exact ⟨_, rfl, rfl, _, up_id _ 24, Fr.refl _ _⟩)
      | (rw [hap3 (by omega), if_pos (by omega)]; exact ⟨_, rfl, rfl, _, up_id _ 24, Fr_up _ _ (by decide)⟩)
      | (rw [hap3 (by omega), if_neg (by omega)]; exact ⟨_, rfl, rfl, _, up_id _ 24, Fr.refl _ _⟩)
      | (rw [hap4 (by omega), if_pos (by omega)]; exact ⟨_, rfl, by rw [g119, hw]; exact md_pass_z _ _ _ _ _, _, o119, f119⟩)
      | (rw [hap4 (by omega), if_neg (by omega)]; exact ⟨_, rfl, rfl, _, up_id _ 24, Fr.refl _ _⟩))
      · refine L_a0 dX11_happens_83 ?_
        refine L_i2 dX11_happens_84 ?_
        refine J_iconst dX11_happens_85 ?_
        refine C_v2V vX11_347 dX11_happens_86 (qX11_leaveNow hv hw (by omega) (by omega)) rfl rfl (Nat.le_of_ble_eq_true rfl) (by decide) ?_
        refine E_goto 122 dX11_happens_89 rfl ?_
        exact RQ_v rfl dX11_happens_122 (by
    first
      | (rw [hap0 (by omega), if_pos (by omega)]; exact ⟨_, rfl, e50, _, (f50 36 (by decide)).trans (up_id _ 24), f50.mono (by decide)⟩)
      | (rw [hap0 (by omega), if_neg (by omega)]; exact ⟨_, rfl, g63.trans (by rw [e50, f50 39 (by decide)]), _, (f63 36 (by decide)).trans ((f50 36 (by decide)).trans (up_id _ 24)), (f50.mono (by decide)).trans (Fr_mono5 f63)⟩)
      | (rw [hap2 (by omega), if_pos ⟨by omega, by assumption⟩]; exact ⟨_, rfl, rfl, _, up_id _ 24, Fr_up _ _ (by decide)⟩)
      | (rw [hap2 (by omega), if_neg (fun h => by have h1 := h.1; have h2 := h.2.1; have h3 := h.2.2; first | omega | (exact absurd h.2 (by assumption)))]; exact ⟨_, rfl, rfl, _, up_id _ 24, Fr.refl _ _⟩)
      | (rw [hap3 (by omega), if_pos (by omega)]; exact ⟨_, rfl, rfl, _, up_id _ 24, Fr_up _ _ (by decide)⟩)
      | (rw [hap3 (by omega), if_neg (by omega)]; exact ⟨_, rfl, rfl, _, up_id _ 24, Fr.refl _ _⟩)
      | (rw [hap4 (by omega), if_pos (by omega)]; exact ⟨_, rfl, by rw [g119, hw]; exact md_pass_z _ _ _ _ _, _, o119, f119⟩)
      | (rw [hap4 (by omega), if_neg (by omega)]; exact ⟨_, rfl, rfl, _, up_id _ 24, Fr.refl _ _⟩))
  · refine L_i1 dX11_happens_92 ?_
    refine J_iconst dX11_happens_93 ?_
    refine J_iremN dX11_happens_94 (by omega) (by omega) ?_
    refine J_iconst dX11_happens_95 ?_
    refine J_icmp_ne 122 dX11_happens_96 rfl (by omega) (by omega) (fun c96 => ?_) (fun c96 => ?_)
    · exact RQ_v rfl dX11_happens_122 (by
    first
      | (rw [hap0 (by omega), if_pos (by omega)]; exact ⟨_, rfl, e50, _, (f50 36 (by decide)).trans (up_id _ 24), f50.mono (by decide)⟩)
      | (rw [hap0 (by omega), if_neg (by omega)]; exact ⟨_, rfl, g63.trans (by rw [e50, f50 39 (by decide)]), _, (f63 36 (by decide)).trans ((f50 36 (by decide)).trans (up_id _ 24)), (f50.mono (by decide)).trans (Fr_mono5 f63)⟩)
      | (rw [hap2 (by omega), if_pos ⟨by omega, by assumption⟩]; exact ⟨_, rfl, rfl, _, up_id _ 24, Fr_up _ _ (by decide)⟩)
      | (rw [hap2 (by omega), if_neg (fun h => by have h1 := h.1; have h2 := h.2.1; have h3 := h.2.2; first | omega | (exact absurd h.2 (by assumption)))]; exact ⟨_, rfl, rfl, _, up_id _ 24, Fr.refl _ _⟩)
      | (rw [hap3 (by omega), if_pos (by omega)]; exact ⟨_, rfl, rfl, _, up_id _ 24, Fr_up _ _ (by decide)⟩)
      | (rw [hap3 (by omega), if_neg (by omega)]; exact ⟨_, rfl, rfl, _, up_id _ 24, Fr.refl _ _⟩)
      | (rw [hap4 (by omega), if_pos (by omega)]; exact ⟨_, rfl, by rw [g119, hw]; exact md_pass_z _ _ _ _ _, _, o119, f119⟩)
      | (rw [hap4 (by omega), if_neg (by omega)]; exact ⟨_, rfl, rfl, _, up_id _ 24, Fr.refl _ _⟩))
    · refine L_a0 dX11_happens_99 ?_
      refine C_v0V vX11_359 dX11_happens_100 (qX11_turnNow hv) rfl rfl (Nat.le_of_ble_eq_true rfl) (by decide) ?_
      refine E_goto 122 dX11_happens_103 rfl ?_
      exact RQ_v rfl dX11_happens_122 (by
    first
      | (rw [hap0 (by omega), if_pos (by omega)]; exact ⟨_, rfl, e50, _, (f50 36 (by decide)).trans (up_id _ 24), f50.mono (by decide)⟩)
      | (rw [hap0 (by omega), if_neg (by omega)]; exact ⟨_, rfl, g63.trans (by rw [e50, f50 39 (by decide)]), _, (f63 36 (by decide)).trans ((f50 36 (by decide)).trans (up_id _ 24)), (f50.mono (by decide)).trans (Fr_mono5 f63)⟩)
      | (rw [hap2 (by omega), if_pos ⟨by omega, by assumption⟩]; exact ⟨_, rfl, rfl, _, up_id _ 24, Fr_up _ _ (by decide)⟩)
      | (rw [hap2 (by omega), if_neg (fun h => by have h1 := h.1; have h2 := h.2.1; have h3 := h.2.2; first | omega | (exact absurd h.2 (by assumption)))]; exact ⟨_, rfl, rfl, _, up_id _ 24, Fr.refl _ _⟩)
      | (rw [hap3 (by omega), if_pos (by omega)]; exact ⟨_, rfl, rfl, _, up_id _ 24, Fr_up _ _ (by decide)⟩)
      | (rw [hap3 (by omega), if_neg (by omega)]; exact ⟨_, rfl, rfl, _, up_id _ 24, Fr.refl _ _⟩)
      | (rw [hap4 (by omega), if_pos (by omega)]; exact ⟨_, rfl, by rw [g119, hw]; exact md_pass_z _ _ _ _ _, _, o119, f119⟩)
      | (rw [hap4 (by omega), if_neg (by omega)]; exact ⟨_, rfl, rfl, _, up_id _ 24, Fr.refl _ _⟩))
  · refine L_a0 dX11_happens_106 ?_
    refine GW_36_0 fX11_7 dX11_happens_107 ?_
    refine J_iconst dX11_happens_110 ?_
    refine AB_37 dX11_happens_111 (by omega) hv.1 (fun b111 => ?_)
    refine J_sipush dX11_happens_112 (by decide) ?_
    refine J_icmp_ge 122 dX11_happens_115 rfl (by omega) (by omega) (fun c115 => ?_) (fun c115 => ?_)
    · exact RQ_v rfl dX11_happens_122 (by
    first
      | (rw [hap0 (by omega), if_pos (by omega)]; exact ⟨_, rfl, e50, _, (f50 36 (by decide)).trans (up_id _ 24), f50.mono (by decide)⟩)
      | (rw [hap0 (by omega), if_neg (by omega)]; exact ⟨_, rfl, g63.trans (by rw [e50, f50 39 (by decide)]), _, (f63 36 (by decide)).trans ((f50 36 (by decide)).trans (up_id _ 24)), (f50.mono (by decide)).trans (Fr_mono5 f63)⟩)
      | (rw [hap2 (by omega), if_pos ⟨by omega, by assumption⟩]; exact ⟨_, rfl, rfl, _, up_id _ 24, Fr_up _ _ (by decide)⟩)
      | (rw [hap2 (by omega), if_neg (fun h => by have h1 := h.1; have h2 := h.2.1; have h3 := h.2.2; first | omega | (exact absurd h.2 (by assumption)))]; exact ⟨_, rfl, rfl, _, up_id _ 24, Fr.refl _ _⟩)
      | (rw [hap3 (by omega), if_pos (by omega)]; exact ⟨_, rfl, rfl, _, up_id _ 24, Fr_up _ _ (by decide)⟩)
      | (rw [hap3 (by omega), if_neg (by omega)]; exact ⟨_, rfl, rfl, _, up_id _ 24, Fr.refl _ _⟩)
      | (rw [hap4 (by omega), if_pos (by omega)]; exact ⟨_, rfl, by rw [g119, hw]; exact md_pass_z _ _ _ _ _, _, o119, f119⟩)
      | (rw [hap4 (by omega), if_neg (by omega)]; exact ⟨_, rfl, rfl, _, up_id _ 24, Fr.refl _ _⟩))
    · refine L_a0 dX11_happens_118 ?_
      refine C_v0U vX11_365 dX11_happens_119 (qX11_pass hi (Or.inr hw)) rfl rfl (Nat.le_of_ble_eq_true rfl) (by decide) (fun hp119 hq119 => ?_)
      obtain ⟨T119, rfl, g119, o119, f119⟩ := hq119
      exact RQ_v rfl dX11_happens_122 (by
    first
      | (rw [hap0 (by omega), if_pos (by omega)]; exact ⟨_, rfl, e50, _, (f50 36 (by decide)).trans (up_id _ 24), f50.mono (by decide)⟩)
      | (rw [hap0 (by omega), if_neg (by omega)]; exact ⟨_, rfl, g63.trans (by rw [e50, f50 39 (by decide)]), _, (f63 36 (by decide)).trans ((f50 36 (by decide)).trans (up_id _ 24)), (f50.mono (by decide)).trans (Fr_mono5 f63)⟩)
      | (rw [hap2 (by omega), if_pos ⟨by omega, by assumption⟩]; exact ⟨_, rfl, rfl, _, up_id _ 24, Fr_up _ _ (by decide)⟩)
      | (rw [hap2 (by omega), if_neg (fun h => by have h1 := h.1; have h2 := h.2.1; have h3 := h.2.2; first | omega | (exact absurd h.2 (by assumption)))]; exact ⟨_, rfl, rfl, _, up_id _ 24, Fr.refl _ _⟩)
      | (rw [hap3 (by omega), if_pos (by omega)]; exact ⟨_, rfl, rfl, _, up_id _ 24, Fr_up _ _ (by decide)⟩)
      | (rw [hap3 (by omega), if_neg (by omega)]; exact ⟨_, rfl, rfl, _, up_id _ 24, Fr.refl _ _⟩)
      | (rw [hap4 (by omega), if_pos (by omega)]; exact ⟨_, rfl, by rw [g119, hw]; exact md_pass_z _ _ _ _ _, _, o119, f119⟩)
      | (rw [hap4 (by omega), if_neg (by omega)]; exact ⟨_, rfl, rfl, _, up_id _ 24, Fr.refl _ _⟩))

def md_yrs (c : Int → Int) : Nat → (Int → Int) → (Int → Int)
  | 0, a => a
  | m + 1, a => md_yrs c m (md_hap c (up a 5 (md_nx (a 5))) (a 5))
theorem MV_5 {a : Int → Int} (hv : MV a) {x : Int} (hx : 0 ≤ x ∧ x < 31019) : MV (up a 5 x) := by
  have h := hv.2
  have e : ∀ j, ¬ j = 5 → up a 5 x j = a j := fun j u => up_n u
  refine MV_of hv (Bd_up hv.1 (by omega)) (e 0 (by omega)) (e 1 (by omega)) (by rw [e 2 (by omega)]; omega) (e 3 (by omega)) (by rw [e 4 (by omega)]; omega) (by rw [up_s]; exact hx) (by rw [e 6 (by omega)]; omega) (by rw [e 7 (by omega)]; omega) (fun n hn => ?_)
  rw [e 7 (by omega), e (8 + n) (by omega), e (16 + n) (by omega), e (24 + n) (by omega)]
  exact hv.at hn
theorem md_nx_B {x : Int} (h : 0 ≤ x) : 0 ≤ md_nx x ∧ md_nx x < 31019 := by unfold md_nx; omega
theorem md_yrs_P {c : Int → Int} : ∀ (m : Nat) (a : Int → Int), MV a → ML a → MV (md_yrs c m a) ∧ ML (md_yrs c m a) ∧ md_yrs c m a 0 = a 0 ∧ md_yrs c m a 1 = a 1 := by
  intro m
  induction m with
  | zero => intro a hv hl; exact ⟨hv, hl, rfl, rfl⟩
  | succ m ih =>
    intro a hv hl
    have h5 := hv.2.2.2.2.2.2.1
    have h := md_hap_P (c := c) (x := a 5) (MV_5 hv (md_nx_B h5.1)) (ML_up hl (by omega)) h5.1
    have h' := ih _ h.1 h.2.1
    exact ⟨h'.1, h'.2.1, h'.2.2.1.trans (h.2.2.1.trans (up_n (by omega))), h'.2.2.2.trans (h.2.2.2.trans (up_n (by omega)))⟩
set_option maxRecDepth 100000 in
theorem lX11_years {E : mx_E} {S T : Nat → Int → Int} {D : List mx_C} (hi : MI T) {s n : Int} (h_n : 1 ≤ n ∧ n ≤ 40) {r : Int → Int} : ∀ (m : Nat) (k : Int) (T1 : Nat → Int → Int) (z : Int) (u4 : Value), k + m = n → 0 ≤ k → MV (T1 37) → ML (T1 37) → T1 37 0 = T 37 0 → T1 36 23 = 1 → T1 36 = up (T 36) 24 z → Fr [36, 37, 42, 43, 44] T T1 → md_yrs (T 39) m (T1 37) = r → Ev E yX11_years cX11_years 5 (some .int) (kI E 12 (fun v hp' => v = r 4 ∧ ∃ T', hp' = W5 S T' D ∧ T' 37 = r ∧ ∃ z, T' 36 = up (T 36) 24 z ∧ Fr [36, 37, 42, 43, 44] T T')) 0 0 42 [.ref 36, .int (jI s), .int (jI n), .int (jI k), u4] [] (W5 S T1 D) := by
  intro m
  induction m with
  | zero =>
    intro k T1 z u4 hk hk0 hv1 hl1 h0 h23 h36 f1 hres
    have hb1 := hv1.2
    refine L_i3 dX11_years_42 ?_
    refine L_i2 dX11_years_43 ?_
    refine J_icmp_ge 71 dX11_years_44 rfl (by omega) (by omega) (fun c44 => ?_) (fun c44 => ?_)
    · refine L_a0 dX11_years_71 ?_
      refine GW_36_0 fX11_7 dX11_years_72 ?_
      refine J_iconst dX11_years_75 ?_
      refine AB_37 dX11_years_76 (by omega) hv1.1 (fun b76 => ?_)
      exact RQ_i rfl dX11_years_77 ⟨by rw [← hres]; rfl, T1, rfl, by rw [← hres]; rfl, z, h36, f1⟩
    · exfalso; omega
  | succ m ih =>
    intro k T1 z u4 hk hk0 hv1 hl1 h0 h23 h36 f1 hres
    have hi1 : MI T1 := ⟨hv1, hl1, by rw [f1 39 (by decide), h0]; exact hi.2.2⟩
    have e39 := f1 39 (by decide)
    have hb1 := hv1.2
    have hnx := md_nx_B (x := T1 37 5) (by omega)
    have hv5 := MV_5 hv1 hnx
    have hl5 : ML (up (T1 37) 5 (md_nx (T1 37 5))) := ML_up hl1 (by omega)
    have hP := md_hap_P (c := T 39) (x := T1 37 5) hv5 hl5 (by omega)
    rw [md_yrs] at hres
    have hi5 : MI (upF T1 37 5 ((T1 37 5 * 701 + 571) % 31019)) := hi1.row rfl rfl hv5 hl5 rfl
    refine L_i3 dX11_years_42 ?_
    refine L_i2 dX11_years_43 ?_
    refine J_icmp_ge 71 dX11_years_44 rfl (by omega) (by omega) (fun c44 => ?_) (fun c44 => ?_)
    · exfalso; omega
    · refine L_a0 dX11_years_47 ?_
      refine GW_36_0 fX11_7 dX11_years_48 ?_
      refine J_iconst dX11_years_51 ?_
      refine AB_37 dX11_years_52 (by omega) hv1.1 (fun b52 => ?_)
      refine S_i4 dX11_years_53 (by decide) rfl ?_
      refine L_a0 dX11_years_55 ?_
      refine C_v0V vX11_320 dX11_years_56 (qX11_anew hv1) rfl rfl (Nat.le_of_ble_eq_true rfl) (by decide) ?_
      refine L_a0 dX11_years_59 ?_
      refine L_i4 dX11_years_60 ?_
      refine C_v1U vX11_386 dX11_years_62 (qX11_happens hi5 h23 (by omega)) rfl rfl (Nat.le_of_ble_eq_true rfl) (by decide) (fun hp62 hq62 => ?_)
      obtain ⟨T62, rfl, g62, z62, o62, f62⟩ := hq62
      refine JI_3 dX11_years_65 (by decide) rfl ?_
      refine E_goto 42 dX11_years_68 rfl ?_
      have g62' : T62 37 = md_hap (T 39) (up (T1 37) 5 (md_nx (T1 37 5))) (T1 37 5) := by rw [g62]; show md_hap (T1 39) _ _ = _; rw [e39]; rfl
      have o62' : T62 36 = up (T1 36) 24 z62 := o62
      have f62' : Fr [36, 37, 42, 43, 44] T1 T62 := (Fr_up T1 _ (by decide)).trans f62
      exact ih (k + 1) T62 z62 _ (by omega) (by omega) (by rw [g62']; exact hP.1) (by rw [g62']; exact hP.2.1) (by rw [g62', hP.2.2.1, up_n (by omega)]; exact h0) (by rw [o62', up_n (by decide)]; exact h23) (by rw [o62']; exact (congrArg (fun f => up f 24 _) h36).trans (up_up _ _ _ _)) (f1.trans f62') (by rw [g62']; exact hres)

set_option maxRecDepth 100000 in
theorem qX11_years {S T : Nat → Int → Int} {D : List mx_C} (hi : MI T) (hw : T 36 23 = 1) {s : Int} (h_s : -2147483648 ≤ s ∧ s < 2147483648) {n : Int} (h_n : -2147483648 ≤ n ∧ n < 2147483648) : SpI yX11_years cX11_years 5 (some .int) 12 [.ref 36, .int (jI s), .int (jI n)] (W5 S T D) (fun v hp' => v = (if (0 ≤ s ∧ s ≤ 9999) ∧ (1 ≤ n ∧ n ≤ 40) then md_yrs (T 39) n.toNat (up (md_keep (T 37)) 5 (s * 2 + 443)) 4 else -1) ∧ ∃ T', hp' = W5 S T' D ∧ T' 37 = (if (0 ≤ s ∧ s ≤ 9999) ∧ (1 ≤ n ∧ n ≤ 40) then md_yrs (T 39) n.toNat (up (md_keep (T 37)) 5 (s * 2 + 443)) else T 37) ∧ ∃ z, T' 36 = up (T 36) 24 z ∧ Fr [36, 37, 42, 43, 44] T T') := by
  have hv := hi.1
  have hl := hi.2.1
  have ha := hv.2
  refine Sp.of [.ref 36, .int (jI s), .int (jI n), .retAddr 0, .retAddr 0] (by decide) (by simp) (Nat.le_of_ble_eq_true rfl) rfl (fun E => ?_)
  refine L_i1 dX11_years_0 ?_
  refine J_iconst dX11_years_1 ?_
  refine J_sipush dX11_years_2 (by decide) ?_
  refine C_s3F vX11_83 dX11_years_5 (qX11_isIn (by omega) (by omega) (by omega)) (Nat.le_of_ble_eq_true rfl) (by decide) ?_
  refine J_ifeqB 21 dX11_years_8 rfl (fun c8 => ?_) (fun c8 => ?_)
  · refine J_iconst dX11_years_21 ?_
    exact RQ_i rfl dX11_years_22 ⟨by rw [if_neg (by omega)], T, rfl, by rw [if_neg (by omega)], _, up_id _ 24, Fr.refl _ _⟩
  · refine L_i2 dX11_years_11 ?_
    refine J_iconst dX11_years_12 ?_
    refine J_bipush dX11_years_13 (by decide) ?_
    refine C_s3F vX11_83 dX11_years_15 (qX11_isIn (by omega) (by omega) (by omega)) (Nat.le_of_ble_eq_true rfl) (by decide) ?_
    refine J_ifneB 23 dX11_years_18 rfl (fun c18 => ?_) (fun c18 => ?_)
    · refine L_a0 dX11_years_23 ?_
      refine C_v0V vX11_353 dX11_years_24 (qX11_keep hv.2.2.2.1) rfl rfl (Nat.le_of_ble_eq_true rfl) (by decide) ?_
      refine L_a0 dX11_years_27 ?_
      refine GW_36_0 fX11_7 dX11_years_28 ?_
      refine J_iconst dX11_years_31 ?_
      refine L_i1 dX11_years_32 ?_
      refine J_iconst dX11_years_33 ?_
      refine J_imul dX11_years_34 ?_
      refine J_sipush dX11_years_35 (by decide) ?_
      refine J_iadd dX11_years_38 ?_
      refine AS_37 dX11_years_39 (by omega) ?_
      refine J_iconst dX11_years_40 ?_
      refine S_i3 dX11_years_41 (by decide) rfl ?_
      rw [if_pos ⟨c8, c18⟩, if_pos ⟨c8, c18⟩]
      refine E_eq rfl rfl rfl (show _ = W5 S (upS T 37 (up (md_keep (T 37)) 5 (s * 2 + 443))) D from rfl) ?_
      exact lX11_years hi (by omega) (r := md_yrs (T 39) n.toNat (up (md_keep (T 37)) 5 (s * 2 + 443))) n.toNat 0 _ (T 36 24) _ (by omega) (by omega) (MV_5 (md_keep_V hv) (by omega)) (ML_up (md_keep_L hv hl) (by omega)) (show md_keep (T 37) 0 = T 37 0 from md_keep_at hv.2.2.2.1 (by omega) (by omega)) hw (up_id _ 24) (Fr_up _ _ (by decide)) rfl
    · refine J_iconst dX11_years_21 ?_
      exact RQ_i rfl dX11_years_22 ⟨by rw [if_neg (by omega)], T, rfl, by rw [if_neg (by omega)], _, up_id _ 24, Fr.refl _ _⟩

