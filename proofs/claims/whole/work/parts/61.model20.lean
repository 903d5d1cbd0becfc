/-! ===== the reference: foretold, of, whose ===== -/
/-- days ahead, nothing written -/
def md_for (c : Int → Int) : Nat → (Int → Int) → (Int → Int)
  | 0, a => a
  | m + 1, a => md_for c m (if a 4 < 9999 then (md_pass c 0 (a, 0)).1 else a)
theorem md_pk0_at {c : Int → Int} {k j : Int} {s : (Int → Int) × Int} (hk : 0 ≤ k ∧ k ≤ 7) (hj : j < 4 ∨ j = 6 ∨ j = 7 ∨ 32 ≤ j) : (md_pk c 0 k s).1 j = s.1 j := by
  unfold md_pk
  split
  · split
    · show md_lvw 0 (md_old s.1 k) k 2 j = _
      unfold md_lvw
      rw [up_n (by omega), up_n (by omega), up_n (by omega), if_neg (by decide), md_old_at (by omega) (by omega)]
    · show md_old s.1 k j = _
      rw [md_old_at (by omega) (by omega)]
  · rfl
theorem md_pk0_lat {c : Int → Int} {j : Int} (hj : j < 4 ∨ j = 6 ∨ j = 7 ∨ 32 ≤ j) : ∀ (m : Nat) (k : Int) (s : (Int → Int) × Int), k + m = 8 → 0 ≤ k → (lpF (md_pk c 0) m k s).1 j = s.1 j := by
  intro m
  induction m with
  | zero => intro k s _ _; rfl
  | succ m ih => intro k s h1 h2; rw [lpF, ih _ _ (by omega) (by omega), md_pk0_at (by omega) hj]
theorem md_pass0_at {c : Int → Int} {j : Int} {s : (Int → Int) × Int} (hj : j < 4 ∨ j = 6 ∨ j = 7 ∨ 32 ≤ j) : (md_pass c 0 s).1 j = s.1 j := by
  show up _ 4 _ j = _
  rw [up_n (by omega)]
  exact md_pk0_lat hj 8 0 s (by omega) (by omega)
theorem md_for_at {c : Int → Int} {j : Int} (hj : j < 4 ∨ j = 6 ∨ j = 7 ∨ 32 ≤ j) : ∀ (m : Nat) (a : Int → Int), md_for c m a j = a j := by
  intro m
  induction m with
  | zero => intro a; rfl
  | succ m ih =>
    intro a
    rw [md_for, ih]
    split
    · exact md_pass0_at hj
    · rfl
theorem md_for_P {c : Int → Int} : ∀ (m : Nat) (a : Int → Int), MV a → ML a → MV (md_for c m a) ∧ ML (md_for c m a) := by
  intro m
  induction m with
  | zero => intro a hv hl; exact ⟨hv, hl⟩
  | succ m ih =>
    intro a hv hl
    rw [md_for]
    split
    · next h =>
      have hh := md_pass_P (c := c) (b := 0) (s := (a, 0)) hv hl h
      exact ih _ hh.1 hh.2.1
    · exact ih a hv hl
/-- cells 4 to below k as in f, the others as in g -/
def asd (f g : Int → Int) (k : Int) : Int → Int := fun j => if 4 ≤ j ∧ j < k then f j else g j
theorem asd_4 (f g : Int → Int) : asd f g 4 = g := by
  funext j
  unfold asd
  rw [if_neg (by omega)]
theorem asd_s (f g : Int → Int) {k : Int} (hk : 4 ≤ k) : up (asd f g k) k (f k) = asd f g (k + 1) := by
  funext j
  unfold up asd
  by_cases h : j = k
  · subst h; rw [if_pos rfl, if_pos (by omega)]
  · rw [if_neg h]
    by_cases h2 : 4 ≤ j ∧ j < k
    · rw [if_pos h2, if_pos (by omega)]
    · rw [if_neg h2, if_neg (by omega)]
set_option maxRecDepth 100000 in
theorem lX11_foretold3 {E : mx_E} {S T : Nat → Int → Int} {D : List mx_C} {n r z : Int} {b : Int → Int} {T1 : Nat → Int → Int} (hfin : asd (T1 45) b 32 = T 37) (h36 : up (T1 36) 23 1 = up (T 36) 24 z) (f1 : Fr [36, 37, 42, 43, 44, 45] T T1) : ∀ (m : Nat) (k : Int), k + m = 32 → 4 ≤ k → Ev E yX11_foretold cX11_foretold 4 (some .int) (kI E 13 (fun v hp' => v = r ∧ ∃ T', hp' = W5 S T' D ∧ T' 37 = T 37 ∧ ∃ z, T' 36 = up (T 36) 24 z ∧ Fr [36, 37, 42, 43, 44, 45] T T')) 0 0 79 [.ref 36, .int (jI n), .int (jI r), .int (jI k)] [] (W5 S (upS T1 37 (asd (T1 45) b k)) D) := by
  intro m
  induction m with
  | zero =>
    intro k hk hk0
    refine L_i3 dX11_foretold_79 ?_
    refine J_bipush dX11_foretold_80 (by decide) ?_
    refine J_icmp_ge 103 dX11_foretold_82 rfl (by omega) (by omega) (fun c82 => ?_) (fun c82 => ?_)
    · refine L_a0 dX11_foretold_103 ?_
      refine J_iconst dX11_foretold_104 ?_
      refine PW_36_23 fX11_43 (by decide) dX11_foretold_105 ?_
      refine L_i2 dX11_foretold_108 ?_
      exact RQ_i rfl dX11_foretold_109 ⟨rfl, _, rfl, by rw [upS_n (by decide), upS_s, show k = 32 by omega]; exact hfin, z, by rw [upS_s]; exact h36, fun i hi => by rw [upS_n (fun e => hi (by rw [e]; decide)), upS_n (fun e => hi (by rw [e]; decide))]; exact f1 i hi⟩
    · exfalso; omega
  | succ m ih =>
    intro k hk hk0
    refine L_i3 dX11_foretold_79 ?_
    refine J_bipush dX11_foretold_80 (by decide) ?_
    refine J_icmp_ge 103 dX11_foretold_82 rfl (by omega) (by omega) (fun c82 => ?_) (fun c82 => ?_)
    · exfalso; omega
    · refine L_a0 dX11_foretold_85 ?_
      refine GW_36_0 fX11_7 dX11_foretold_86 ?_
      refine L_i3 dX11_foretold_89 ?_
      refine L_a0 dX11_foretold_90 ?_
      refine GW_36_25 fX11_47 dX11_foretold_91 ?_
      refine L_i3 dX11_foretold_94 ?_
      refine AR_45 dX11_foretold_95 (by omega) ?_
      refine AS_37 dX11_foretold_96 (by omega) ?_
      refine JI_3 dX11_foretold_97 (by decide) rfl ?_
      refine E_goto 79 dX11_foretold_100 rfl ?_
      have e := asd_s (T1 45) b (k := k) (by omega)
      refine E_eq rfl rfl rfl (show _ = W5 S (upS T1 37 (asd (T1 45) b (k + 1))) D from by rw [← e]; rfl) ?_
      exact ih (k + 1) (by omega) (by omega)

theorem up_swap {f : Int → Int} {k l x z : Int} (h : ¬ k = l) : up (up f k x) l z = up (up f l z) k x := by
  funext j
  unfold up
  by_cases h1 : j = l
  · subst h1; rw [if_pos rfl, if_neg (fun e => h e.symm), if_pos rfl]
  · rw [if_neg h1, if_neg h1]
set_option maxRecDepth 100000 in
theorem lX11_foretold2 {E : mx_E} {S T : Nat → Int → Int} {D : List mx_C} (hi : MI T) (hw : T 36 23 = 1) {n : Int} (h_n : 1 ≤ n ∧ n ≤ 60) {r : Int → Int} (hrat : ∀ j, (j < 4 ∨ 32 ≤ j) → r j = T 37 j) : ∀ (m : Nat) (k : Int) (T1 : Nat → Int → Int) (z : Int), k + m = n → 0 ≤ k → MV (T1 37) → ML (T1 37) → T1 37 0 = T 37 0 → T1 36 23 = 0 → T1 36 = up (up (T 36) 23 0) 24 z → (∀ j, 4 ≤ j ∧ j < 32 → T1 45 j = T 37 j) → Fr [36, 37, 42, 43, 44, 45] T T1 → md_for (T 39) m (T1 37) = r → Ev E yX11_foretold cX11_foretold 4 (some .int) (kI E 13 (fun v hp' => v = md_standing r ∧ ∃ T', hp' = W5 S T' D ∧ T' 37 = T 37 ∧ ∃ z, T' 36 = up (T 36) 24 z ∧ Fr [36, 37, 42, 43, 44, 45] T T')) 0 0 45 [.ref 36, .int (jI n), .int (jI k), .retAddr 0] [] (W5 S T1 D) := by
  intro m
  induction m with
  | zero =>
    intro k T1 z hk hk0 hv1 hl1 h0 h23 h36 h45 f1 hres
    refine L_i2 dX11_foretold_45 ?_
    refine L_i1 dX11_foretold_46 ?_
    refine J_icmp_ge 72 dX11_foretold_47 rfl (by omega) (by omega) (fun c47 => ?_) (fun c47 => ?_)
    · refine L_a0 dX11_foretold_72 ?_
      refine C_v0F vX11_301 dX11_foretold_73 (qX11_standingV hv1) rfl rfl (Nat.le_of_ble_eq_true rfl) (by decide) ?_
      refine S_i2 dX11_foretold_76 (by decide) rfl ?_
      refine J_iconst dX11_foretold_77 ?_
      refine S_i3 dX11_foretold_78 (by decide) rfl ?_
      have hr : r = T1 37 := hres.symm
      have hfin : asd (T1 45) (T1 37) 32 = T 37 := by
        funext j
        unfold asd
        split
        · next h => exact h45 j h
        · next h => rw [← hr]; exact hrat j (by omega)
      rw [hr]
      refine E_eq rfl rfl rfl (show _ = W5 S (upS T1 37 (asd (T1 45) (T1 37) 4)) D from by rw [asd_4]; rfl) ?_
      exact lX11_foretold3 (T1 := T1) (b := T1 37) (z := z) hfin (by rw [h36, up_swap (by decide), up_up, show up (T 36) 23 1 = T 36 from by rw [← hw]; exact (up_id _ 23).symm]) f1 28 4 (by omega) (by omega)
    · exfalso; omega
  | succ m ih =>
    intro k T1 z hk hk0 hv1 hl1 h0 h23 h36 h45 f1 hres
    have hi1 : MI T1 := ⟨hv1, hl1, by rw [f1 39 (by decide), h0]; exact hi.2.2⟩
    have hb1 := hv1.2
    refine L_i2 dX11_foretold_45 ?_
    refine L_i1 dX11_foretold_46 ?_
    refine J_icmp_ge 72 dX11_foretold_47 rfl (by omega) (by omega) (fun c47 => ?_) (fun c47 => ?_)
    · exfalso; omega
    · refine L_a0 dX11_foretold_50 ?_
      refine GW_36_0 fX11_7 dX11_foretold_51 ?_
      refine J_iconst dX11_foretold_54 ?_
      refine AB_37 dX11_foretold_55 (by omega) hv1.1 (fun b55 => ?_)
      refine J_sipush dX11_foretold_56 (by decide) ?_
      refine J_icmp_ge 66 dX11_foretold_59 rfl (by omega) (by omega) (fun c59 => ?_) (fun c59 => ?_)
      · refine JI_2 dX11_foretold_66 (by decide) rfl ?_
        refine E_goto 45 dX11_foretold_69 rfl ?_
        exact ih (k + 1) T1 z (by omega) (by omega) hv1 hl1 h0 h23 h36 h45 f1 (by rw [← hres, md_for, if_neg (by omega)])
      · refine L_a0 dX11_foretold_62 ?_
        refine C_v0U vX11_365 dX11_foretold_63 (qX11_pass hi1 (Or.inl h23)) rfl rfl (Nat.le_of_ble_eq_true rfl) (by decide) (fun hp63 hq63 => ?_)
        obtain ⟨T63, rfl, g63, o63, f63⟩ := hq63
        have hp63 := md_pass_P (c := T1 39) (b := T1 36 23) (s := (T1 37, T1 36 24)) hv1 hl1 c59
        refine JI_2 dX11_foretold_66 (by decide) rfl ?_
        refine E_goto 45 dX11_foretold_69 rfl ?_
        exact ih (k + 1) T63 _ (by omega) (by omega) (by rw [g63]; exact hp63.1) (by rw [g63]; exact hp63.2.1) (by rw [g63, hp63.2.2.1]; exact h0) (by rw [o63, up_n (by decide)]; exact h23) (by rw [o63]; exact (congrArg (fun f => up f 24 _) h36).trans (up_up _ _ _ _)) (by rw [f63 45 (by decide)]; exact h45) (f1.trans (f63.mono (by decide))) (by rw [← hres, md_for, if_pos c59, g63, h23, f1 39 (by decide), md_pass_z _ _ _ _ 0])

set_option maxRecDepth 100000 in
theorem lX11_foretold1 {E : mx_E} {S T : Nat → Int → Int} {D : List mx_C} (hi : MI T) (hw : T 36 23 = 1) {n : Int} (h_n : 1 ≤ n ∧ n ≤ 60) : ∀ (m : Nat) (k : Int), k + m = 32 → 4 ≤ k → Ev E yX11_foretold cX11_foretold 4 (some .int) (kI E 13 (fun v hp' => v = md_standing (md_for (T 39) n.toNat (T 37)) ∧ ∃ T', hp' = W5 S T' D ∧ T' 37 = T 37 ∧ ∃ z, T' 36 = up (T 36) 24 z ∧ Fr [36, 37, 42, 43, 44, 45] T T')) 0 0 14 [.ref 36, .int (jI n), .int (jI k), .retAddr 0] [] (W5 S (upS T 45 (asd (T 37) (T 45) k)) D) := by
  intro m
  induction m with
  | zero =>
    intro k hk hk0
    refine L_i2 dX11_foretold_14 ?_
    refine J_bipush dX11_foretold_15 (by decide) ?_
    refine J_icmp_ge 38 dX11_foretold_17 rfl (by omega) (by omega) (fun c17 => ?_) (fun c17 => ?_)
    · refine L_a0 dX11_foretold_38 ?_
      refine J_iconst dX11_foretold_39 ?_
      refine PW_36_23 fX11_43 (by decide) dX11_foretold_40 ?_
      refine J_iconst dX11_foretold_43 ?_
      refine S_i2 dX11_foretold_44 (by decide) rfl ?_
      refine E_eq rfl rfl rfl (show _ = W5 S (upS (upS T 45 (asd (T 37) (T 45) k)) 36 (up (T 36) 23 0)) D from rfl) ?_
      exact lX11_foretold2 hi hw h_n (r := md_for (T 39) n.toNat (T 37)) (fun j hj => md_for_at (by omega) _ _) n.toNat 0 _ (T 36 24) (by omega) (by omega) hi.1 hi.2.1 rfl (by rw [upS_s, up_s]) (by rw [upS_s, show T 36 24 = up (T 36) 23 0 24 from (up_n (by decide)).symm]; exact up_id _ 24) (fun j hj => by rw [upS_n (by decide), upS_s]; unfold asd; rw [if_pos (by omega)]) ((Fr_up _ _ (by decide)).trans (Fr_up _ _ (by decide))) rfl
    · exfalso; omega
  | succ m ih =>
    intro k hk hk0
    refine L_i2 dX11_foretold_14 ?_
    refine J_bipush dX11_foretold_15 (by decide) ?_
    refine J_icmp_ge 38 dX11_foretold_17 rfl (by omega) (by omega) (fun c17 => ?_) (fun c17 => ?_)
    · exfalso; omega
    · refine L_a0 dX11_foretold_20 ?_
      refine GW_36_25 fX11_47 dX11_foretold_21 ?_
      refine L_i2 dX11_foretold_24 ?_
      refine L_a0 dX11_foretold_25 ?_
      refine GW_36_0 fX11_7 dX11_foretold_26 ?_
      refine L_i2 dX11_foretold_29 ?_
      refine AR_37 dX11_foretold_30 (by omega) ?_
      refine AS_45 dX11_foretold_31 (by omega) ?_
      refine JI_2 dX11_foretold_32 (by decide) rfl ?_
      refine E_goto 14 dX11_foretold_35 rfl ?_
      have e := asd_s (T 37) (T 45) (k := k) (by omega)
      refine E_eq rfl rfl rfl (show _ = W5 S (upS T 45 (asd (T 37) (T 45) (k + 1))) D from by rw [← e]; rfl) ?_
      exact ih (k + 1) (by omega) (by omega)

set_option maxRecDepth 100000 in
theorem qX11_foretold {S T : Nat → Int → Int} {D : List mx_C} (hi : MI T) (hw : T 36 23 = 1) {n : Int} (h_n : -2147483648 ≤ n ∧ n < 2147483648) : SpI yX11_foretold cX11_foretold 4 (some .int) 13 [.ref 36, .int (jI n)] (W5 S T D) (fun v hp' => v = (if 1 ≤ n ∧ n ≤ 60 then md_standing (md_for (T 39) n.toNat (T 37)) else -1) ∧ ∃ T', hp' = W5 S T' D ∧ T' 37 = T 37 ∧ ∃ z, T' 36 = up (T 36) 24 z ∧ Fr [36, 37, 42, 43, 44, 45] T T') := by
  refine Sp.of [.ref 36, .int (jI n), .retAddr 0, .retAddr 0] (by decide) (by simp) (Nat.le_of_ble_eq_true rfl) rfl (fun E => ?_)
  refine L_i1 dX11_foretold_0 ?_
  refine J_iconst dX11_foretold_1 ?_
  refine J_bipush dX11_foretold_2 (by decide) ?_
  refine C_s3F vX11_83 dX11_foretold_4 (qX11_isIn (by omega) (by omega) (by omega)) (Nat.le_of_ble_eq_true rfl) (by decide) ?_
  refine J_ifneB 12 dX11_foretold_7 rfl (fun c7 => ?_) (fun c7 => ?_)
  · refine J_iconst dX11_foretold_12 ?_
    refine S_i2 dX11_foretold_13 (by decide) rfl ?_
    rw [if_pos c7]
    refine E_eq rfl rfl rfl (show _ = W5 S (upS T 45 (asd (T 37) (T 45) 4)) D from by rw [asd_4]; rfl) ?_
    exact lX11_foretold1 hi hw c7 28 4 (by omega) (by omega)
  · refine J_iconst dX11_foretold_10 ?_
    exact RQ_i rfl dX11_foretold_11 ⟨by rw [if_neg c7], T, rfl, rfl, _, up_id _ 24, Fr.refl _ _⟩

def md_of (c a : Int → Int) (k q : Int) : Int := if 0 ≤ k ∧ k ≤ 7 then (if q = 0 then a (8 + k) else if q = 1 then a (16 + k) else if q = 2 then a (24 + k) else if q = 3 then md_btw a c (a 1) k else if q = 4 then md_tir a c (a 1) k else -2) else -2
set_option maxRecDepth 100000 in
theorem qX11_of {S T : Nat → Int → Int} {D : List mx_C} (hi : MI T) {n : Int} (h_n : -2147483648 ≤ n ∧ n < 2147483648) {q : Int} (h_q : -2147483648 ≤ q ∧ q < 2147483648) : SpI yX11_of cX11_of 4 (some .int) 10 [.ref 36, .int (jI n), .int (jI q)] (W5 S T D) (fun v hp' => v = md_of (T 39) (T 37) (wr1 n) q ∧ ∃ T', hp' = W5 S T' D ∧ Fr [42, 43, 44] T T') := by
  have hv := hi.1
  have hl := hi.2.1
  have ha := hv.2
  have hwr := wr1_B h_n
  refine Sp.of [.ref 36, .int (jI n), .int (jI q), .retAddr 0] (by decide) (by simp) (Nat.le_of_ble_eq_true rfl) rfl (fun E => ?_)
  refine L_i1 dX11_of_0 ?_
  refine J_iconst dX11_of_1 ?_
  refine J_isub dX11_of_2 ?_
  refine J_wr1 ?_
  refine S_i3 dX11_of_3 (by decide) rfl ?_
  refine L_i3 dX11_of_4 ?_
  refine C_s1F vX11_87 dX11_of_5 (qX11_isNumber (by omega)) (Nat.le_of_ble_eq_true rfl) (by decide) ?_
  refine J_ifneB 14 dX11_of_8 rfl (fun c8 => ?_) (fun c8 => ?_)
  · refine L_i2 dX11_of_14 ?_
    refine J_tab5 48 58 68 78 90 96 dX11_of_15 (by omega) rfl rfl rfl rfl rfl rfl rfl (fun c15 => ?_) (fun c15 => ?_) (fun c15 => ?_) (fun c15 => ?_) (fun c15 => ?_) (fun c15 => ?_)
    · refine L_a0 dX11_of_48 ?_
      refine GW_36_0 fX11_7 dX11_of_49 ?_
      refine J_bipush dX11_of_52 (by decide) ?_
      refine L_i3 dX11_of_54 ?_
      refine J_iadd dX11_of_55 ?_
      refine AB_37 dX11_of_56 (by omega) hv.1 (fun b56 => ?_)
      exact RQ_i rfl dX11_of_57 ⟨by unfold md_of; rw [if_pos (by omega), if_pos (by omega)], T, rfl, Fr.refl _ _⟩
    · refine L_a0 dX11_of_58 ?_
      refine GW_36_0 fX11_7 dX11_of_59 ?_
      refine J_bipush dX11_of_62 (by decide) ?_
      refine L_i3 dX11_of_64 ?_
      refine J_iadd dX11_of_65 ?_
      refine AB_37 dX11_of_66 (by omega) hv.1 (fun b66 => ?_)
      exact RQ_i rfl dX11_of_67 ⟨by unfold md_of; rw [if_pos (by omega), if_neg (by omega), if_pos (by omega)], T, rfl, Fr.refl _ _⟩
    · refine L_a0 dX11_of_68 ?_
      refine GW_36_0 fX11_7 dX11_of_69 ?_
      refine J_bipush dX11_of_72 (by decide) ?_
      refine L_i3 dX11_of_74 ?_
      refine J_iadd dX11_of_75 ?_
      refine AB_37 dX11_of_76 (by omega) hv.1 (fun b76 => ?_)
      exact RQ_i rfl dX11_of_77 ⟨by unfold md_of; rw [if_pos (by omega), if_neg (by omega), if_neg (by omega), if_pos (by omega)], T, rfl, Fr.refl _ _⟩
    · refine L_a0 dX11_of_78 ?_
      refine L_a0 dX11_of_79 ?_
      refine GW_36_0 fX11_7 dX11_of_80 ?_
      refine J_iconst dX11_of_83 ?_
      refine AB_37 dX11_of_84 (by omega) hv.1 (fun b84 => ?_)
      refine L_i3 dX11_of_85 ?_
      refine C_v2I vX11_329 dX11_of_86 (qX11_betweenByF hi (by omega) (by omega)) rfl rfl (Nat.le_of_ble_eq_true rfl) (by decide) (fun v86 hp86 hq86 => ?_)
      obtain ⟨rfl, T86, rfl, f86⟩ := hq86
      exact RQ_i rfl dX11_of_89 ⟨by unfold md_of; rw [if_pos (by omega), if_neg (by omega), if_neg (by omega), if_neg (by omega), if_pos (by omega)], _, rfl, f86⟩
    · refine L_a0 dX11_of_90 ?_
      refine L_i3 dX11_of_91 ?_
      refine C_v1I vX11_344 dX11_of_92 (qX11_tiresOfF hi (by omega)) rfl rfl (Nat.le_of_ble_eq_true rfl) (by decide) (fun v92 hp92 hq92 => ?_)
      obtain ⟨rfl, T92, rfl, f92⟩ := hq92
      exact RQ_i rfl dX11_of_95 ⟨by unfold md_of; rw [if_pos (by omega), if_neg (by omega), if_neg (by omega), if_neg (by omega), if_neg (by omega), if_pos (by omega)], _, rfl, f92⟩
    · refine J_bipush dX11_of_96 (by decide) ?_
      exact RQ_i rfl dX11_of_98 ⟨by unfold md_of; rw [if_pos (by omega), if_neg (by omega), if_neg (by omega), if_neg (by omega), if_neg (by omega), if_neg (by omega)], T, rfl, Fr.refl _ _⟩
  · refine J_bipush dX11_of_11 (by decide) ?_
    exact RQ_i rfl dX11_of_13 ⟨by unfold md_of; rw [if_neg (by omega)], T, rfl, Fr.refl _ _⟩

