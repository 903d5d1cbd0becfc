/-! ===== the reference: days pass ===== -/
/-- one leaves; written or not -/
def md_lvw (b : Int) (a : Int → Int) (k q : Int) : Int → Int := up (up (up (if b = 1 then md_write a k q else a) (8 + k) (-1)) (16 + k) (-1)) (24 + k) 0
theorem md_lvw_1 (a : Int → Int) (k q : Int) : md_lvw 1 a k q = md_leave a k q := by unfold md_lvw md_leave; rw [if_pos rfl]
theorem md_lvw_V {b : Int} {a : Int → Int} (hv : MV a) {k q : Int} (hk : 0 ≤ k ∧ k ≤ 7) (hq : 0 ≤ q ∧ q ≤ 2) : MV (md_lvw b a k q) := by
  unfold md_lvw
  split
  · exact MV_gone (md_write_V hv hk hq) hk
  · exact MV_gone hv hk
theorem md_lvw_L {b : Int} {a : Int → Int} (hv : MV a) (hl : ML a) {k q : Int} (hk : 0 ≤ k ∧ k ≤ 7) (hq : 0 ≤ q ∧ q ≤ 2) : ML (md_lvw b a k q) := by
  unfold md_lvw
  refine ML_up (ML_up (ML_up ?_ (by omega)) (by omega)) (by omega)
  split
  · exact md_write_L hv hl hk hq
  · exact hl
theorem md_lvw_at {b : Int} {a : Int → Int} (hv : MV a) {k q j : Int} (hk : 0 ≤ k ∧ k ≤ 7) (hj : 0 ≤ j ∧ j < 6) : md_lvw b a k q j = a j := by
  unfold md_lvw
  rw [up_n (by omega), up_n (by omega), up_n (by omega)]
  split
  · exact md_write_at hv.2.2.2.2.2.2.2.1 (by omega) (by omega)
  · rfl
set_option maxRecDepth 100000 in
theorem qX11_write0 {S T : Nat → Int → Int} {D : List mx_C} (hv : MV (T 37)) (hw : T 36 23 = 0) {k q : Int} (hk : 0 ≤ k ∧ k ≤ 7) (hq : 0 ≤ q ∧ q ≤ 2) : SpV yX11_write cX11_write 4 none 1 [.ref 36, .int (jI k), .int (jI q)] (W5 S T D) (W5 S T D) := by
  refine Sp.of [.ref 36, .int (jI k), .int (jI q), .retAddr 0] (by decide) (by simp) (Nat.le_of_ble_eq_true rfl) rfl (fun E => ?_)
  refine L_a0 dX11_write_0 ?_
  refine GW_36_23 fX11_43 dX11_write_1 ?_
  refine J_if_ne 8 dX11_write_4 rfl (by omega) (fun c4 => ?_) (fun c4 => ?_)
  · exfalso; omega
  · exact R_v rfl dX11_write_7 rfl

set_option maxRecDepth 100000 in
theorem qX11_leaveNow0 {S T : Nat → Int → Int} {D : List mx_C} (hv : MV (T 37)) (hw : T 36 23 = 0) {k q : Int} (hk : 0 ≤ k ∧ k ≤ 7) (hq : 0 ≤ q ∧ q ≤ 2) : SpV yX11_leaveNow cX11_leaveNow 3 none 2 [.ref 36, .int (jI k), .int (jI q)] (W5 S T D) (W5 S (upS T 37 (md_lvw 0 (T 37) k q)) D) := by
  refine Sp.of [.ref 36, .int (jI k), .int (jI q)] (by decide) (by simp) (Nat.le_of_ble_eq_true rfl) rfl (fun E => ?_)
  refine L_a0 dX11_leaveNow_0 ?_
  refine L_i1 dX11_leaveNow_1 ?_
  refine L_i2 dX11_leaveNow_2 ?_
  refine C_v2V vX11_335 dX11_leaveNow_3 (qX11_write0 hv hw hk hq) rfl rfl (Nat.le_of_ble_eq_true rfl) (by decide) ?_
  refine L_a0 dX11_leaveNow_6 ?_
  refine L_i1 dX11_leaveNow_7 ?_
  refine J_iconst dX11_leaveNow_8 ?_
  refine J_iconst dX11_leaveNow_9 ?_
  refine C_v3V vX11_75 dX11_leaveNow_10 (qX11_layPlaces (by omega)) rfl rfl (Nat.le_of_ble_eq_true rfl) (by decide) ?_
  refine L_a0 dX11_leaveNow_13 ?_
  refine GW_36_0 fX11_7 dX11_leaveNow_14 ?_
  refine J_bipush dX11_leaveNow_17 (by decide) ?_
  refine L_i1 dX11_leaveNow_19 ?_
  refine J_iadd dX11_leaveNow_20 ?_
  refine J_iconst dX11_leaveNow_21 ?_
  refine AS_37 dX11_leaveNow_22 (by omega) ?_
  exact R_v rfl dX11_leaveNow_23 (by unfold md_lvw; rw [if_neg (by decide)]; rfl)

theorem qX11_leaveNowW {S T : Nat → Int → Int} {D : List mx_C} (hv : MV (T 37)) (hw : T 36 23 = 0 ∨ T 36 23 = 1) {k q : Int} (hk : 0 ≤ k ∧ k ≤ 7) (hq : 0 ≤ q ∧ q ≤ 2) : SpV yX11_leaveNow cX11_leaveNow 3 none 2 [.ref 36, .int (jI k), .int (jI q)] (W5 S T D) (W5 S (upS T 37 (md_lvw (T 36 23) (T 37) k q)) D) := by
  rcases hw with h | h
  · rw [h]; exact qX11_leaveNow0 hv h hk hq
  · rw [h, md_lvw_1]; exact qX11_leaveNow hv h hk hq
def md_nx (x : Int) : Int := (x * 701 + 571) % 31019
/-- a day older, and drawn anew -/
def md_old (a : Int → Int) (k : Int) : Int → Int := up (up a (24 + k) (heldI (a (24 + k) + 1) 0 99)) 5 (md_nx (a 5))
def md_pk (c : Int → Int) (b k : Int) (s : (Int → Int) × Int) : (Int → Int) × Int := if md_stands s.1 k then (if s.1 5 % 10 < md_tir (md_old s.1 k) c (s.1 1) k then (md_lvw b (md_old s.1 k) k 2, s.2 + 1) else (md_old s.1 k, s.2)) else s
def md_pass (c : Int → Int) (b : Int) (s : (Int → Int) × Int) : (Int → Int) × Int := (up (lpF (md_pk c b) 8 0 s).1 4 ((lpF (md_pk c b) 8 0 s).1 4 + 1), (lpF (md_pk c b) 8 0 s).2)
theorem md_old_at {a : Int → Int} {k j : Int} (h1 : ¬ j = 24 + k) (h2 : ¬ j = 5) : md_old a k j = a j := by unfold md_old; rw [up_n h2, up_n h1]
theorem md_old_V {a : Int → Int} (hv : MV a) {k : Int} (hk : 0 ≤ k ∧ k ≤ 7) : MV (md_old a k) := by
  have h := hv.2
  have hb := heldI_B (v := a (24 + k) + 1) (a := 0) (b := 99) (by omega)
  have e : ∀ j, ¬ j = 24 + k → ¬ j = 5 → md_old a k j = a j := fun j u v => md_old_at u v
  have hx : 0 ≤ md_nx (a 5) ∧ md_nx (a 5) < 31019 := by unfold md_nx; omega
  refine MV_of hv (Bd_up (Bd_up hv.1 (by omega)) (by omega)) (e 0 (by omega) (by omega)) (e 1 (by omega) (by omega)) (by rw [e 2 (by omega) (by omega)]; omega) (e 3 (by omega) (by omega)) (by rw [e 4 (by omega) (by omega)]; omega) (by unfold md_old; rw [up_s]; exact hx) (by rw [e 6 (by omega) (by omega)]; omega) (by rw [e 7 (by omega) (by omega)]; omega) (fun n hn => ?_)
  have hn2 := hv.at hn
  rw [e 7 (by omega) (by omega), e (8 + n) (by omega) (by omega), e (16 + n) (by omega) (by omega)]
  by_cases hnk : n = k
  · subst hnk
    rw [show md_old a n (24 + n) = heldI (a (24 + n) + 1) 0 99 from by unfold md_old; rw [up_n (by omega), up_s]]
    exact ⟨hn2.1, hn2.2.1, hn2.2.2.1, hb⟩
  · rw [e (24 + n) (by omega) (by omega)]; exact hn2
theorem md_old_L {a : Int → Int} (hl : ML a) {k : Int} (hk : 0 ≤ k ∧ k ≤ 7) : ML (md_old a k) := ML_up (ML_up hl (by omega)) (by omega)
/-- what a day's part keeps -/
def PK (c : Int → Int) (s s' : (Int → Int) × Int) : Prop := MV s'.1 ∧ ML s'.1 ∧ s'.1 0 = s.1 0 ∧ s'.1 1 = s.1 1 ∧ s'.1 4 = s.1 4
theorem md_pk_P {c : Int → Int} {b k : Int} {s : (Int → Int) × Int} (hk : 0 ≤ k ∧ k ≤ 7) (hv : MV s.1) (hl : ML s.1) : PK c s (md_pk c b k s) := by
  unfold md_pk
  split
  · split
    · refine ⟨md_lvw_V (md_old_V hv hk) hk (by omega), md_lvw_L (md_old_V hv hk) (md_old_L hl hk) hk (by omega), ?_, ?_, ?_⟩ <;> (show md_lvw b (md_old s.1 k) k 2 _ = _) <;> rw [md_lvw_at (md_old_V hv hk) hk (by omega), md_old_at (by omega) (by omega)]
    · exact ⟨md_old_V hv hk, md_old_L hl hk, md_old_at (j := 0) (by omega) (by omega), md_old_at (j := 1) (by omega) (by omega), md_old_at (j := 4) (by omega) (by omega)⟩
  · exact ⟨hv, hl, rfl, rfl, rfl⟩
theorem md_pk_LP {c : Int → Int} {b : Int} : ∀ (m : Nat) (k : Int) (s : (Int → Int) × Int), k + m = 8 → 0 ≤ k → MV s.1 → ML s.1 → PK c s (lpF (md_pk c b) m k s) := by
  intro m
  induction m with
  | zero => intro k s _ _ hv hl; exact ⟨hv, hl, rfl, rfl, rfl⟩
  | succ m ih =>
    intro k s h1 h2 hv hl
    have h := md_pk_P (c := c) (b := b) (k := k) (s := s) (by omega) hv hl
    have h' := ih (k + 1) _ (by omega) (by omega) h.1 h.2.1
    exact ⟨h'.1, h'.2.1, h'.2.2.1.trans h.2.2.1, h'.2.2.2.1.trans h.2.2.2.1, h'.2.2.2.2.trans h.2.2.2.2⟩
theorem md_pass_P {c : Int → Int} {b : Int} {s : (Int → Int) × Int} (hv : MV s.1) (hl : ML s.1) (h4 : s.1 4 < 9999) : MV (md_pass c b s).1 ∧ ML (md_pass c b s).1 ∧ (md_pass c b s).1 0 = s.1 0 ∧ (md_pass c b s).1 1 = s.1 1 ∧ (md_pass c b s).1 4 = s.1 4 + 1 := by
  have h := md_pk_LP (c := c) (b := b) 8 0 s (by omega) (by omega) hv hl
  have hv2 := h.1.2
  have h4' := h.2.2.2.2
  have e : ∀ j, ¬ j = 4 → (md_pass c b s).1 j = (lpF (md_pk c b) 8 0 s).1 j := fun j hj => up_n hj
  have e4 : (md_pass c b s).1 4 = (lpF (md_pk c b) 8 0 s).1 4 + 1 := by simp only [md_pass, up_s]
  refine ⟨MV_of h.1 (Bd_up h.1.1 (by omega)) (e 0 (by omega)) (e 1 (by omega)) (by rw [e 2 (by omega)]; omega) (e 3 (by omega)) (by rw [e4]; omega) (by rw [e 5 (by omega)]; omega) (by rw [e 6 (by omega)]; omega) (by rw [e 7 (by omega)]; omega) (fun n hn => ?_), ML_up h.2.1 (by omega), ?_, ?_, ?_⟩
  · rw [e 7 (by omega), e (8 + n) (by omega), e (16 + n) (by omega), e (24 + n) (by omega)]; exact h.1.at hn
  · rw [e 0 (by omega)]; exact h.2.2.1
  · rw [e 1 (by omega)]; exact h.2.2.2.1
  · rw [e4, h4']
theorem up_up (f : Int → Int) (k x z : Int) : up (up f k x) k z = up f k z := by
  funext j
  unfold up
  split <;> rfl
theorem MV_since {a : Int → Int} (hv : MV a) {k : Int} (hk : 0 ≤ k ∧ k ≤ 7) : MV (up a (24 + k) (heldI (a (24 + k) + 1) 0 99)) := by
  have h := hv.2
  have hb := heldI_B (v := a (24 + k) + 1) (a := 0) (b := 99) (by omega)
  have e : ∀ j, ¬ j = 24 + k → up a (24 + k) (heldI (a (24 + k) + 1) 0 99) j = a j := fun j u => up_n u
  refine MV_of hv (Bd_up hv.1 (by omega)) (e 0 (by omega)) (e 1 (by omega)) (by rw [e 2 (by omega)]; omega) (e 3 (by omega)) (by rw [e 4 (by omega)]; omega) (by rw [e 5 (by omega)]; omega) (by rw [e 6 (by omega)]; omega) (by rw [e 7 (by omega)]; omega) (fun n hn => ?_)
  have hn2 := hv.at hn
  rw [e 7 (by omega), e (8 + n) (by omega), e (16 + n) (by omega)]
  by_cases hnk : n = k
  · subst hnk
    rw [up_s]
    exact ⟨hn2.1, hn2.2.1, hn2.2.2.1, hb⟩
  · rw [e (24 + n) (by omega)]; exact hn2
set_option maxRecDepth 100000 in
theorem lX11_pass {E : mx_E} {S T : Nat → Int → Int} {D : List mx_C} (hi : MI T) (hw : T 36 23 = 0 ∨ T 36 23 = 1) {r : (Int → Int) × Int} : ∀ (m : Nat) (k : Int) (T1 : Nat → Int → Int), k + m = 8 → 0 ≤ k → MV (T1 37) → ML (T1 37) → T1 37 0 = T 37 0 → T1 36 23 = T 36 23 → T1 36 = up (T 36) 24 (T1 36 24) → Fr [36, 37, 42, 43, 44] T T1 → lpF (md_pk (T 39) (T 36 23)) m k (T1 37, T1 36 24) = r → Ev E yX11_pass cX11_pass 2 none (kU E 9 (fun hp' => ∃ T', hp' = W5 S T' D ∧ T' 37 = up r.1 4 (r.1 4 + 1) ∧ T' 36 = up (T 36) 24 r.2 ∧ Fr [36, 37, 42, 43, 44] T T')) 0 0 2 [.ref 36, .int (jI k)] [] (W5 S T1 D) := by
  intro m
  induction m with
  | zero =>
    intro k T1 hk hk0 hv1 hl1 h0 h23 h36 f1 hres
    have hb1 := hv1.2
    refine L_i1 dX11_pass_2 ?_
    refine J_bipush dX11_pass_3 (by decide) ?_
    refine J_icmp_ge 85 dX11_pass_5 rfl (by omega) (by omega) (fun c5 => ?_) (fun c5 => ?_)
    · refine L_a0 dX11_pass_85 ?_
      refine GW_36_0 fX11_7 dX11_pass_86 ?_
      refine J_iconst dX11_pass_89 ?_
      refine E_dup2 dX11_pass_90 rfl rfl ?_
      refine AR_37 dX11_pass_91 (by omega) ?_
      refine J_iconst dX11_pass_92 ?_
      refine J_iadd dX11_pass_93 ?_
      refine AS_37 dX11_pass_94 (by omega) ?_
      exact RQ_v rfl dX11_pass_95 ⟨_, rfl, by rw [upS_s, ← hres]; rfl, by rw [upS_n (by decide), ← hres]; exact h36, (fun i hi => by rw [upS_n (fun e => hi (by rw [e]; decide))]; exact f1 i hi)⟩
    · exfalso; omega
  | succ m ih =>
    intro k T1 hk hk0 hv1 hl1 h0 h23 h36 f1 hres
    have hv1x := hv1.at (k := k) (by omega)
    have hi1 : MI T1 := ⟨hv1, hl1, by rw [f1 39 (by decide), h0]; exact hi.2.2⟩
    have hb1 := hv1.2
    refine L_i1 dX11_pass_2 ?_
    refine J_bipush dX11_pass_3 (by decide) ?_
    refine J_icmp_ge 85 dX11_pass_5 rfl (by omega) (by omega) (fun c5 => ?_) (fun c5 => ?_)
    · exfalso; omega
    · refine L_a0 dX11_pass_8 ?_
      refine L_i1 dX11_pass_9 ?_
      refine C_v1F vX11_91 dX11_pass_10 (qX11_standsV hv1 (by omega)) rfl rfl (Nat.le_of_ble_eq_true rfl) (by decide) ?_
      refine J_ifneB 19 dX11_pass_13 rfl (fun c13 => ?_) (fun c13 => ?_)
      · refine L_a0 dX11_pass_19 ?_
        refine GW_36_0 fX11_7 dX11_pass_20 ?_
        refine J_bipush dX11_pass_23 (by decide) ?_
        refine L_i1 dX11_pass_25 ?_
        refine J_iadd dX11_pass_26 ?_
        refine L_a0 dX11_pass_27 ?_
        refine GW_36_0 fX11_7 dX11_pass_28 ?_
        refine J_bipush dX11_pass_31 (by decide) ?_
        refine L_i1 dX11_pass_33 ?_
        refine J_iadd dX11_pass_34 ?_
        refine AB_37 dX11_pass_35 (by omega) hv1.1 (fun b35 => ?_)
        refine J_iconst dX11_pass_36 ?_
        refine J_iadd dX11_pass_37 ?_
        refine J_i2l dX11_pass_38 (by omega) ?_
        refine J_iconst dX11_pass_39 ?_
        refine J_bipush dX11_pass_40 (by decide) ?_
        refine C_s3F vX11_297 dX11_pass_42 (qX11_held (by omega) (by omega) (by omega)) (Nat.le_of_ble_eq_true rfl) (by decide) ?_
        refine AS_37 dX11_pass_45 (by omega) ?_
        refine L_a0 dX11_pass_46 ?_
        refine J_bipush dX11_pass_47 (by decide) ?_
        refine C_v1F vX11_341 dX11_pass_49 (qX11_drawnBy (T := upS T1 37 (up (T1 37) (24 + k) (heldI (T1 37 (24 + k) + 1) 0 99))) (MV_since hv1 (by omega)) (by omega)) rfl rfl (Nat.le_of_ble_eq_true rfl) (by decide) ?_
        obtain ⟨T2, hT2⟩ : ∃ T2, T2 = upS T1 37 (md_old (T1 37) k) := ⟨_, rfl⟩
        have h5e : up (T1 37) (24 + k) (heldI (T1 37 (24 + k) + 1) 0 99) 5 = T1 37 5 := up_n (by omega)
        refine E_eq rfl rfl rfl (show W5 S (upS (upS T1 37 (up (T1 37) (24 + k) (heldI (T1 37 (24 + k) + 1) 0 99))) 37 (up (up (T1 37) (24 + k) (heldI (T1 37 (24 + k) + 1) 0 99)) 5 ((up (T1 37) (24 + k) (heldI (T1 37 (24 + k) + 1) 0 99) 5 * 701 + 571) % 31019))) D = W5 S T2 D from by rw [hT2, h5e]; rfl) ?_
        have e2 : T2 37 = md_old (T1 37) k := by rw [hT2]; rfl
        have e2o : T2 36 = T1 36 := by rw [hT2]; rfl
        have f2 : Fr [36, 37, 42, 43, 44] T1 T2 := by rw [hT2]; exact Fr_up _ _ (by decide)
        have hi2 : MI T2 := hi1.row e2 (by rw [hT2]; rfl) (md_old_V hv1 (by omega)) (md_old_L hl1 (by omega)) (md_old_at (by omega) (by omega))
        refine J_eqi (b := T1 37 5 % 10) (by rw [upS_s, h5e]) ?_
        refine L_a0 dX11_pass_52 ?_
        refine L_i1 dX11_pass_53 ?_
        refine C_v1I vX11_344 dX11_pass_54 (qX11_tiresOfF hi2 (by omega)) rfl rfl (Nat.le_of_ble_eq_true rfl) (by decide) (fun v54 hp54 hq54 => ?_)
        obtain ⟨rfl, T54, rfl, f54⟩ := hq54
        have e54 := f54 37 (by decide)
        rw [e2, show T2 39 = T 39 from by rw [hT2]; exact f1 39 (by decide), md_old_at (by omega) (by omega)]
        have htb := md_tir_B (a := md_old (T1 37) k) (c := T 39) (q := T1 37 1) (k := k)
        refine J_icmp_lt 63 dX11_pass_57 rfl (by omega) (by omega) (fun c57 => ?_) (fun c57 => ?_)
        · refine L_a0 dX11_pass_63 ?_
          refine L_i1 dX11_pass_64 ?_
          refine J_iconst dX11_pass_65 ?_
          refine C_v2V vX11_347 dX11_pass_66 (qX11_leaveNowW (T := T54) (by rw [e54, e2]; exact md_old_V hv1 (by omega)) (by rw [f54 36 (by decide), e2o, h23]; exact hw) (by omega) (by omega)) rfl rfl (Nat.le_of_ble_eq_true rfl) (by decide) ?_
          refine L_a0 dX11_pass_69 ?_
          refine E_dup dX11_pass_70 rfl ?_
          refine GW_36_24 fX11_350 dX11_pass_71 ?_
          refine J_iconst dX11_pass_74 ?_
          refine J_iadd dX11_pass_75 ?_
          refine PW_36_24 fX11_350 dX11_pass_76 ?_
          refine JI_1 dX11_pass_79 (by decide) rfl ?_
          refine E_goto 2 dX11_pass_82 rfl ?_
          have e54' : T54 37 = md_old (T1 37) k := e54.trans e2
          have e54o : T54 36 = T1 36 := (f54 36 (by decide)).trans e2o
          obtain ⟨T5, hT5⟩ : ∃ T5, T5 = upS (upS T54 37 (md_lvw (T54 36 23) (T54 37) k 2)) 36 (up (T54 36) 24 (T54 36 24 + 1)) := ⟨_, rfl⟩
          refine E_eq rfl rfl rfl (show _ = W5 S T5 D from by rw [hT5]; rfl) ?_
          have e5 : T5 37 = md_lvw (T 36 23) (md_old (T1 37) k) k 2 := by rw [hT5, upS_n (by decide), upS_s, e54o, h23, e54']
          have e5o : T5 36 = up (T1 36) 24 (T1 36 24 + 1) := by rw [hT5, upS_s, e54o]
          have f5 : Fr [36, 37, 42, 43, 44] T54 T5 := by rw [hT5]; exact (Fr_up _ _ (by decide)).trans (Fr_up _ _ (by decide))
          exact ih (k + 1) T5 (by omega) (by omega) (by rw [e5]; exact md_lvw_V (md_old_V hv1 (by omega)) (by omega) (by omega)) (by rw [e5]; exact md_lvw_L (md_old_V hv1 (by omega)) (md_old_L hl1 (by omega)) (by omega) (by omega)) (by rw [e5, md_lvw_at (md_old_V hv1 (by omega)) (by omega) (by omega), md_old_at (by omega) (by omega)]; exact h0) (by rw [e5o, up_n (by decide)]; exact h23) (by rw [show T5 36 24 = T1 36 24 + 1 from by rw [e5o, up_s], e5o]; exact (congrArg (fun f => up f 24 (T1 36 24 + 1)) h36).trans (up_up _ _ _ _)) (((f1.trans f2).trans (f54.mono (by decide))).trans f5) (by rw [← hres, lpF, e5, e5o, up_s, show md_pk (T 39) (T 36 23) k (T1 37, T1 36 24) = (md_lvw (T 36 23) (md_old (T1 37) k) k 2, T1 36 24 + 1) from by unfold md_pk; rw [if_pos c13, if_pos (by first | omega | exact c57)]])
        · refine E_goto 79 dX11_pass_60 rfl ?_
          refine JI_1 dX11_pass_79 (by decide) rfl ?_
          refine E_goto 2 dX11_pass_82 rfl ?_
          have e54' : T54 37 = md_old (T1 37) k := e54.trans e2
          have e54o : T54 36 = T1 36 := (f54 36 (by decide)).trans e2o
          exact ih (k + 1) T54 (by omega) (by omega) (by rw [e54']; exact md_old_V hv1 (by omega)) (by rw [e54']; exact md_old_L hl1 (by omega)) (by rw [e54', md_old_at (by omega) (by omega)]; exact h0) (by rw [e54o]; exact h23) (by rw [e54o]; exact h36) ((f1.trans f2).trans (f54.mono (by decide))) (by rw [← hres, lpF, e54', e54o, show md_pk (T 39) (T 36 23) k (T1 37, T1 36 24) = (md_old (T1 37) k, T1 36 24) from by unfold md_pk; rw [if_pos c13, if_neg (Int.not_lt.mpr c57)]])
      · refine E_goto 79 dX11_pass_16 rfl ?_
        refine JI_1 dX11_pass_79 (by decide) rfl ?_
        refine E_goto 2 dX11_pass_82 rfl ?_
        exact ih (k + 1) T1 (by omega) (by omega) hv1 hl1 h0 h23 h36 f1 (by rw [← hres, lpF, show md_pk (T 39) (T 36 23) k (T1 37, T1 36 24) = (T1 37, T1 36 24) from if_neg c13])

set_option maxRecDepth 100000 in
theorem qX11_pass {S T : Nat → Int → Int} {D : List mx_C} (hi : MI T) (hw : T 36 23 = 0 ∨ T 36 23 = 1) : SpU yX11_pass cX11_pass 2 none 9 [.ref 36] (W5 S T D) (fun hp' => ∃ T', hp' = W5 S T' D ∧ T' 37 = (md_pass (T 39) (T 36 23) (T 37, T 36 24)).1 ∧ T' 36 = up (T 36) 24 (md_pass (T 39) (T 36 23) (T 37, T 36 24)).2 ∧ Fr [36, 37, 42, 43, 44] T T') := by
  refine Sp.of [.ref 36, .retAddr 0] (by decide) (by simp) (Nat.le_of_ble_eq_true rfl) rfl (fun E => ?_)
  refine J_iconst dX11_pass_0 ?_
  refine S_i1 dX11_pass_1 (by decide) rfl ?_
  exact lX11_pass hi hw (r := lpF (md_pk (T 39) (T 36 23)) 8 0 (T 37, T 36 24)) 8 0 T (by omega) (by omega) hi.1 hi.2.1 rfl rfl (by funext j; unfold up; split <;> first | rfl | (next h => rw [h])) (Fr.refl _ _) rfl

