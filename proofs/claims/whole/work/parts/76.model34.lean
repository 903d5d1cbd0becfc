/-! ===== the reference: the game from its end ===== -/
/-- what is found of all (used, full) behind these -/
def DW (T : Nat → Int → Int) (L : List (List Nat)) (ms : List Nat) (pl u0 f0 : Nat) : Prop := ∀ u f : Nat, u < 2 ^ L.length → f < 2 ^ pl → (u0 < u ∨ (u = u0 ∧ f0 < f)) → pcn 16 f = 2 * pcn 16 u → nrm (T 53 ((1024 * u + f : Nat) : Int)) = if gwU L ms u f = true then 1 else 0
/-- options: two places each, below pl -/
def GO (L : List (List Nat)) (pl : Nat) : Prop := ∀ i : Nat, i < L.length → (L.getD i []).length ≤ 16 ∧ ∀ m, m ∈ L.getD i [] → m < 2 ^ pl ∧ pcn 16 m = 2 ∧ ∃ b, b ≤ 15 ∧ m.testBit b = true
theorem getD_of_get {α : Type} {L : List α} {j : Nat} {x d : α} (h : L[j]? = some x) : L.getD j d = x := by
  rw [List.getD_eq_getElem?_getD, h]
  rfl
/-- what is found and what is so -/
theorem DW_gp {T : Nat → Int → Int} {L : List (List Nat)} {ms : List Nat} {pl u0 f0 : Nat} (h : DW T L ms pl u0 f0) (hO : GO L pl) (hl : L.length ≤ 5) (hu : u0 < 2 ^ L.length) (hf : f0 < 2 ^ pl) (hp : pcn 16 f0 = 2 * pcn 16 u0) : gpI (fun u f => decide (¬ nrm (T 53 ((1024 * u + f : Nat) : Int)) = 0)) ms u0 f0 0 L = gpI (gwU L ms) ms u0 f0 0 L := by
  refine gpI_congr L 0 (fun j os m h1 h2 h3 h4 => ?_)
  rw [Nat.zero_add] at h4 ⊢
  have hj : j < L.length := (List.getElem?_eq_some_iff.mp h1).1
  have hm := (hO j hj).2 m (by rw [getD_of_get h1]; exact h2)
  have hpc := pcn_or 16 u0 (2 ^ j) (pow_and h4)
  rw [pcn_pow 16 _ (by omega)] at hpc
  have hpf := pcn_or 16 f0 m h3
  have hr := h (u0 ||| 2 ^ j) (f0 ||| m) (or_lt hu (Nat.pow_lt_pow_right (by decide) hj)) (or_lt hf hm.1) (Or.inl (or_gt h4)) (by omega)
  show decide (¬ nrm (T 53 ((1024 * (u0 ||| 2 ^ j) + (f0 ||| m) : Nat) : Int)) = 0) = gwU L ms (u0 ||| 2 ^ j) (f0 ||| m)
  rw [hr]
  cases gwU L ms (u0 ||| 2 ^ j) (f0 ||| m) <;> rfl
theorem DW_next {T : Nat → Int → Int} {L : List (List Nat)} {ms : List Nat} {pl u0 : Nat} (h : DW T L ms pl (u0 + 1) 0) (hl : L.length ≤ 5) : DW T L ms pl u0 (2 ^ pl - 1) := by
  intro u f hu hf hc hp
  rcases hc with hc | hc
  · by_cases e : u = u0 + 1
    · by_cases e0 : f = 0
      · subst e0
        rw [pcn_0] at hp
        have h5 : 2 ^ L.length ≤ 2 ^ 5 := Nat.pow_le_pow_right (by decide) hl
        have := pcn_pos 16 u (by omega) (by omega)
        omega
      · exact h u f hu hf (Or.inr ⟨e, by omega⟩) hp
    · exact h u f hu hf (Or.inl (by omega)) hp
  · omega
theorem DW_skip {T : Nat → Int → Int} {L : List (List Nat)} {ms : List Nat} {pl u0 f0 : Nat} (h : DW T L ms pl u0 (f0 + 1)) (hne : ¬ pcn 16 (f0 + 1) = 2 * pcn 16 u0) : DW T L ms pl u0 f0 := by
  intro u f hu hf hc hp
  rcases hc with hc | ⟨e, hc⟩
  · exact h u f hu hf (Or.inl hc) hp
  · by_cases e1 : f = f0 + 1
    · subst e1; subst e; exact absurd hp hne
    · exact h u f hu hf (Or.inr ⟨e, by omega⟩) hp
theorem DW_put {T : Nat → Int → Int} {L : List (List Nat)} {ms : List Nat} {pl u0 f0 : Nat} {x : Int} (hpl : pl ≤ 10) (h : DW T L ms pl u0 (f0 + 1)) (hf0 : f0 + 1 < 2 ^ pl) (hx : nrm x = if gwU L ms u0 (f0 + 1) = true then 1 else 0) : DW (upF T 53 ((1024 * u0 + (f0 + 1) : Nat) : Int) x) L ms pl u0 f0 := by
  intro u f hu hf hc hp
  have h10 : 2 ^ pl ≤ 2 ^ 10 := Nat.pow_le_pow_right (by decide) hpl
  show nrm (upS T 53 (up (T 53) _ x) 53 _) = _
  rw [upS_s]
  rcases hc with hc | ⟨e, hc⟩
  · rw [up_n (by omega)]
    exact h u f hu hf (Or.inl hc) hp
  · by_cases e1 : f = f0 + 1
    · subst e1; subst e; rw [up_s]; exact hx
    · rw [up_n (by omega)]
      exact h u f hu hf (Or.inr ⟨e, by omega⟩) hp
theorem pc_nat (n : Nat) : pc (n : Int) = ((pcn 16 n : Nat) : Int) := rfl
theorem opL_GO {a c : Int → Int} {s pl : Nat} (hp : pl ≤ 16) : GO (opL a c s pl 2) pl := by
  intro i hi
  refine ⟨((opL_PB (a := a) (c := c) (s := s) (pl := pl) (e := 2) hp (by omega)).2 i hi).1, fun m hm => ?_⟩
  rw [opL_len] at hi
  unfold opL at hm
  rw [getD_map _ (d := 0) hi] at hm
  have hk := memN_lt (s := s) 8 _ (getD_mem (d := 0) hi)
  have hs := md_st_B (a := a) (c := c) hk
  unfold opl at hm
  rw [List.mem_map] at hm
  obtain ⟨p, hp2, rfl⟩ := hm
  rw [List.mem_range] at hp2
  have hp3 : p < pl - (2 - 1) * md_st a c ((memN s 8).getD i 0) := hp2
  refine ⟨?_, pcn_opm (st := md_st a c ((memN s 8).getD i 0)) (by omega) (by omega), p, by omega, opm_bit _ _ _⟩
  unfold opm
  exact or_lt (or_lt (Nat.pow_lt_pow_right (by decide) (by omega)) (Nat.pow_lt_pow_right (by decide) (by omega))) (Nat.pow_lt_pow_right (by decide) (by omega))
theorem lX11_playFirst1 {E : mx_E} {S T : Nat → Int → Int} {D : List mx_C} {T2 : Nat → Int → Int} {L : List (List Nat)} {ms : List Nat} {s : Int} {pl : Nat} (hl5 : L.length ≤ 5) (hpl : pl ≤ 10) (hSF : SF T T2) (hPO : PO T2 L L.length) (hmm : T2 36 32 = (L.length : Int)) (h47 : ∀ i : Nat, i < L.length → T2 47 i = ((ms.getD i 0 : Nat) : Int)) (hms : ∀ i, ms.getD i 0 < 8) (hO : GO L pl) {u0 : Nat} (hu0 : 1 ≤ u0) (hu : u0 < 2 ^ L.length) (hk : ∀ (T1 : Nat → Int → Int), Fr [53] T2 T1 → DW T1 L ms pl u0 0 → Ev E yX11_playFirst cX11_playFirst 5 (some .int) (kI E 11 (fun v hp' => v = gpI (gwU L ms) ms 0 0 0 L ∧ ∃ T', hp' = W5 S T' D ∧ SF T T')) 0 0 81 [.ref 36, .int (jI (pl : Int)), .int (jI s), .int (jI (u0 : Int)), .int (jI 0)] [] (W5 S T1 D)) : ∀ (m : Nat) (T1 : Nat → Int → Int), m < 2 ^ pl → Fr [53] T2 T1 → DW T1 L ms pl u0 m → Ev E yX11_playFirst cX11_playFirst 5 (some .int) (kI E 11 (fun v hp' => v = gpI (gwU L ms) ms 0 0 0 L ∧ ∃ T', hp' = W5 S T' D ∧ SF T T')) 0 0 27 [.ref 36, .int (jI (pl : Int)), .int (jI s), .int (jI (u0 : Int)), .int (jI (m : Int))] [] (W5 S T1 D) := by
  intro m
  induction m with
  | zero =>
    intro T1 hm f1 hD
    have h10 : 2 ^ pl ≤ 2 ^ 10 := Nat.pow_le_pow_right (by decide) hpl
    have h5 : 2 ^ L.length ≤ 2 ^ 5 := Nat.pow_le_pow_right (by decide) hl5
    refine L_i4 dX11_playFirst_27 ?_
    refine J_if_le 81 dX11_playFirst_29 rfl (by omega) (fun c29 => ?_) (fun c29 => ?_)
    · exact hk T1 f1 hD
    · exfalso; exact absurd c29 (by decide)
  | succ m ih =>
    intro T1 hm f1 hD
    have h10 : 2 ^ pl ≤ 2 ^ 10 := Nat.pow_le_pow_right (by decide) hpl
    have h5 : 2 ^ L.length ≤ 2 ^ 5 := Nat.pow_le_pow_right (by decide) hl5
    have hgp : pcn 16 (m + 1) = 2 * pcn 16 u0 → gpI (fun u f => decide (¬ nrm (T1 53 ((1024 * u + f : Nat) : Int)) = 0)) ms u0 (m + 1) 0 L = gpI (gwU L ms) ms u0 (m + 1) 0 L := DW_gp hD hO hl5 hu hm
    have hgB := gpI_B (win := gwU L ms) (used := u0) (full := m + 1) hms L 0
    have hgw := gwU_eq (L := L) (ms := ms) (used := u0) (full := m + 1) (by omega) hu
    have hpm := pc_B ((m + 1 : Nat) : Int)
    have hpu := pc_B (u0 : Int)
    rw [pc_nat] at hpm hpu
    refine L_i4 dX11_playFirst_27 ?_
    refine J_if_le 81 dX11_playFirst_29 rfl (by omega) (fun c29 => ?_) (fun c29 => ?_)
    · exfalso; omega
    · refine L_i4 dX11_playFirst_32 ?_
      refine C_s1F vX11_304 dX11_playFirst_34 (qX11_bits (by omega)) (Nat.le_of_ble_eq_true rfl) (by decide) ?_
      refine J_eqi (b := ((pcn 16 (m + 1) : Nat) : Int)) (pc_nat _) ?_
      refine J_iconst dX11_playFirst_37 ?_
      refine L_i3 dX11_playFirst_38 ?_
      refine C_s1F vX11_304 dX11_playFirst_39 (qX11_bits (by omega)) (Nat.le_of_ble_eq_true rfl) (by decide) ?_
      refine J_eqi (b := ((pcn 16 u0 : Nat) : Int)) (pc_nat _) ?_
      refine J_imul dX11_playFirst_42 ?_
      refine J_icmp_ne 75 dX11_playFirst_43 rfl (by omega) (by omega) (fun c43 => ?_) (fun c43 => ?_)
      · refine JI_4 dX11_playFirst_75 (by decide) rfl ?_
        refine E_goto 27 dX11_playFirst_78 rfl ?_
        refine E_eq rfl (show _ = [.ref 36, .int (jI (pl : Int)), .int (jI s), .int (jI (u0 : Int)), .int (jI (m : Int))] from by rw [show (((m + 1 : Nat) : Int) + -1) = (m : Int) by omega]) rfl rfl ?_
        exact ih T1 (by omega) f1 (DW_skip hD (by omega))
      · refine L_a0 dX11_playFirst_46 ?_
        refine GW_36_35 fX11_72 dX11_playFirst_47 ?_
        refine J_sipush dX11_playFirst_50 (by decide) ?_
        refine L_i3 dX11_playFirst_53 ?_
        refine J_imul dX11_playFirst_54 ?_
        refine L_i4 dX11_playFirst_55 ?_
        refine J_iadd dX11_playFirst_57 ?_
        refine J_eqi (b := ((1024 * u0 + (m + 1) : Nat) : Int)) (by omega) ?_
        refine L_a0 dX11_playFirst_58 ?_
        refine L_i3 dX11_playFirst_59 ?_
        refine L_i4 dX11_playFirst_60 ?_
        refine C_v2F vX11_467 dX11_playFirst_62 (qX11_playOf (T := T1) (L := L) (ms := ms) (used := u0) (full := (m + 1)) hl5 (hPO.congr (f1 48 (by decide)) (f1 49 (by decide))) (by rw [f1 36 (by decide)]; exact hmm) (by rw [f1 47 (by decide)]; exact h47) hms (fun i hi => ⟨(hO i hi).1, fun m hm => ⟨Nat.lt_of_lt_of_le ((hO i hi).2 m hm).1 h10, ((hO i hi).2 m hm).2.2⟩⟩) (by omega) (by omega)) rfl rfl (Nat.le_of_ble_eq_true rfl) (by decide) ?_
        refine J_eqi (b := gpI (gwU L ms) ms u0 (m + 1) 0 L) (hgp (by omega)) ?_
        refine J_iconst dX11_playFirst_65 ?_
        refine J_icmp_eq 73 dX11_playFirst_66 rfl (by omega) (by omega) (fun c66 => ?_) (fun c66 => ?_)
        · refine J_iconst dX11_playFirst_73 ?_
          refine AS_53 dX11_playFirst_74 (by omega) (by decide) ?_
          refine JI_4 dX11_playFirst_75 (by decide) rfl ?_
          refine E_goto 27 dX11_playFirst_78 rfl ?_
          refine E_eq rfl (show _ = [.ref 36, .int (jI (pl : Int)), .int (jI s), .int (jI (u0 : Int)), .int (jI (m : Int))] from by rw [show (((m + 1 : Nat) : Int) + -1) = (m : Int) by omega]) rfl rfl ?_
          exact ih _ (by omega) (f1.trans (Fr_up _ _ (by decide))) (DW_put hpl hD hm (by rw [hgw]; rw [show decide (¬ gpI (gwU L ms) ms u0 (m + 1) 0 L = -1) = false from by simpa using c66]; decide))
        · refine J_iconst dX11_playFirst_69 ?_
          refine E_goto 74 dX11_playFirst_70 rfl ?_
          refine AS_53 dX11_playFirst_74 (by omega) (by decide) ?_
          refine JI_4 dX11_playFirst_75 (by decide) rfl ?_
          refine E_goto 27 dX11_playFirst_78 rfl ?_
          refine E_eq rfl (show _ = [.ref 36, .int (jI (pl : Int)), .int (jI s), .int (jI (u0 : Int)), .int (jI (m : Int))] from by rw [show (((m + 1 : Nat) : Int) + -1) = (m : Int) by omega]) rfl rfl ?_
          exact ih _ (by omega) (f1.trans (Fr_up _ _ (by decide))) (DW_put hpl hD hm (by rw [hgw]; rw [show decide (¬ gpI (gwU L ms) ms u0 (m + 1) 0 L = -1) = true from by simpa using c66]; decide))
theorem lX11_playFirst {E : mx_E} {S T : Nat → Int → Int} {D : List mx_C} {T2 : Nat → Int → Int} {L : List (List Nat)} {ms : List Nat} {s : Int} {pl : Nat} (hl5 : L.length ≤ 5) (hpl : pl ≤ 10) (hSF : SF T T2) (hPO : PO T2 L L.length) (hmm : T2 36 32 = (L.length : Int)) (h47 : ∀ i : Nat, i < L.length → T2 47 i = ((ms.getD i 0 : Nat) : Int)) (hms : ∀ i, ms.getD i 0 < 8) (hO : GO L pl) : ∀ (m : Nat) (T1 : Nat → Int → Int) (u4 : Value), u4.category = 1 → m < 2 ^ L.length → Fr [53] T2 T1 → DW T1 L ms pl m (2 ^ pl - 1) → Ev E yX11_playFirst cX11_playFirst 5 (some .int) (kI E 11 (fun v hp' => v = gpI (gwU L ms) ms 0 0 0 L ∧ ∃ T', hp' = W5 S T' D ∧ SF T T')) 0 0 16 [.ref 36, .int (jI (pl : Int)), .int (jI s), .int (jI (m : Int)), u4] [] (W5 S T1 D) := by
  intro m
  induction m with
  | zero =>
    intro T1 u4 hu4 hm f1 hD
    have h10 : 2 ^ pl ≤ 2 ^ 10 := Nat.pow_le_pow_right (by decide) hpl
    have h5 : 2 ^ L.length ≤ 2 ^ 5 := Nat.pow_le_pow_right (by decide) hl5
    have hgB := gpI_B (win := gwU L ms) (used := 0) (full := 0) hms L 0
    have hgp : gpI (fun u f => decide (¬ nrm (T1 53 ((1024 * u + f : Nat) : Int)) = 0)) ms 0 0 0 L = gpI (gwU L ms) ms 0 0 0 L := DW_gp (f0 := 0) (fun u f a b c d => by
      rcases c with c | c
      · exact hD u f a b (Or.inl c) d
      · exfalso
        rw [c.1, pcn_0] at d
        have := pcn_pos 16 f (by omega) (by omega)
        omega) hO hl5 hm (Nat.two_pow_pos _) (by rw [pcn_0])
    refine L_i3 dX11_playFirst_16 ?_
    refine J_if_le 87 dX11_playFirst_17 rfl (by omega) (fun c17 => ?_) (fun c17 => ?_)
    · refine L_a0 dX11_playFirst_87 ?_
      refine J_iconst dX11_playFirst_88 ?_
      refine J_eqi (b := ((0 : Nat) : Int)) rfl ?_
      refine J_iconst dX11_playFirst_89 ?_
      refine J_eqi (b := ((0 : Nat) : Int)) rfl ?_
      refine C_v2F vX11_467 dX11_playFirst_90 (qX11_playOf (T := T1) (L := L) (ms := ms) (used := 0) (full := 0) hl5 (hPO.congr (f1 48 (by decide)) (f1 49 (by decide))) (by rw [f1 36 (by decide)]; exact hmm) (by rw [f1 47 (by decide)]; exact h47) hms (fun i hi => ⟨(hO i hi).1, fun m hm => ⟨Nat.lt_of_lt_of_le ((hO i hi).2 m hm).1 h10, ((hO i hi).2 m hm).2.2⟩⟩) (by omega) (by omega)) rfl rfl (Nat.le_of_ble_eq_true rfl) (by decide) ?_
      refine J_eqi (b := gpI (gwU L ms) ms 0 0 0 L) hgp ?_
      exact RQ_i rfl dX11_playFirst_93 ⟨rfl, T1, rfl, hSF.trans (SF.of f1 (by decide) (by decide))⟩
    · exfalso; exact absurd c17 (by decide)
  | succ m ih =>
    intro T1 u4 hu4 hm f1 hD
    have h10 : 2 ^ pl ≤ 2 ^ 10 := Nat.pow_le_pow_right (by decide) hpl
    have h5 : 2 ^ L.length ≤ 2 ^ 5 := Nat.pow_le_pow_right (by decide) hl5
    have hp1 : 1 ≤ 2 ^ pl := Nat.one_le_two_pow
    refine L_i3 dX11_playFirst_16 ?_
    refine J_if_le 87 dX11_playFirst_17 rfl (by omega) (fun c17 => ?_) (fun c17 => ?_)
    · exfalso; omega
    · refine J_iconst dX11_playFirst_20 ?_
      refine L_i1 dX11_playFirst_21 ?_
      refine J_1shl dX11_playFirst_22 (by omega) ?_
      refine J_iconst dX11_playFirst_23 ?_
      refine J_isub dX11_playFirst_24 ?_
      refine J_eqi (b := ((2 ^ pl - 1 : Nat) : Int)) (by rw [bsh_nat]; omega) ?_
      refine S_i4 dX11_playFirst_25 (by decide) rfl ?_
      refine lX11_playFirst1 hl5 hpl hSF hPO hmm h47 hms hO (u0 := m + 1) (by omega) hm (fun T3 f3 hD3 => ?_) (2 ^ pl - 1) T1 (by omega) f1 hD
      refine JI_3 dX11_playFirst_81 (by decide) rfl ?_
      refine E_goto 16 dX11_playFirst_84 rfl ?_
      refine E_eq rfl (show _ = [.ref 36, .int (jI (pl : Int)), .int (jI s), .int (jI (m : Int)), .int (jI 0)] from by rw [show (((m + 1 : Nat) : Int) + -1) = (m : Int) by omega]) rfl rfl ?_
      exact ih T3 _ rfl (by omega) f3 (DW_next hD3 hl5)
/-- the first play of the game -/
def md_pf (a c : Int → Int) (pl s : Int) : Int := gpI (gwU (opL a c s.toNat pl.toNat 2) (mem s.toNat)) (mem s.toNat) 0 0 0 (opL a c s.toNat pl.toNat 2)
theorem mem_getD_lt (s i : Nat) : (mem s).getD i 0 < 8 := by
  rcases Nat.lt_or_ge i (mem s).length with h | h
  · exact memN_lt (s := s) 8 _ (getD_mem (d := 0) h)
  · rw [List.getD_eq_getElem?_getD, List.getElem?_eq_none h]; decide
theorem md_pf_B (a c : Int → Int) (pl s : Int) : -1 ≤ md_pf a c pl s ∧ md_pf a c pl s ≤ 1000 := gpI_B (mem_getD_lt s.toNat) _ 0
abbrev isGm (pl s : Int) : Prop := (1 ≤ pl ∧ pl ≤ 10) ∧ (0 ≤ s ∧ s ≤ 255) ∧ pc s ≤ 5
set_option maxRecDepth 100000 in
theorem qX11_playFirst {S T : Nat → Int → Int} {D : List mx_C} (hi : MI T) {pl s : Int} (hg : isGm pl s) : SpI yX11_playFirst cX11_playFirst 5 (some .int) 11 [.ref 36, .int (jI pl), .int (jI s)] (W5 S T D) (fun v hp' => v = md_pf (T 37) (T 39) pl s ∧ ∃ T', hp' = W5 S T' D ∧ SF T T') := by
  have hpm := pc_mem hg.2.1
  refine Sp.of [.ref 36, .int (jI pl), .int (jI s), .retAddr 0, .retAddr 0] (by decide) (by simp) (Nat.le_of_ble_eq_true rfl) rfl (fun E => ?_)
  refine L_a0 dX11_playFirst_0 ?_
  refine L_i2 dX11_playFirst_1 ?_
  refine L_i1 dX11_playFirst_2 ?_
  refine J_iconst dX11_playFirst_3 ?_
  refine C_v3U vX11_417 dX11_playFirst_4 (qX11_layOptions (e := 2) hi (by omega) (by omega) (by omega)) rfl rfl (Nat.le_of_ble_eq_true rfl) (by decide) (fun hp4 hq4 => ?_)
  obtain ⟨T4, rfl, hL4⟩ := hq4
  refine J_iconst dX11_playFirst_7 ?_
  refine L_a0 dX11_playFirst_8 ?_
  refine GW_36_32 fX11_398 dX11_playFirst_9 ?_
  refine J_eqi (b := ((opL (T 37) (T 39) s.toNat pl.toNat 2).length : Int)) hL4.mm ?_
  refine J_1shl dX11_playFirst_12 (by have := opL_len (T 37) (T 39) s.toNat pl.toNat 2; omega) ?_
  refine J_iconst dX11_playFirst_13 ?_
  refine J_isub dX11_playFirst_14 ?_
  refine J_eqi (b := ((2 ^ (opL (T 37) (T 39) s.toNat pl.toNat 2).length - 1 : Nat) : Int)) (by rw [bsh_nat]; have : 1 ≤ 2 ^ (opL (T 37) (T 39) s.toNat pl.toNat 2).length := Nat.one_le_two_pow; omega) ?_
  refine S_i3 dX11_playFirst_15 (by decide) rfl ?_
  have hL4 : LO T T4 s.toNat pl.toNat 2 (mem s.toNat).length := hL4
  have hol := opL_len (T 37) (T 39) s.toNat pl.toNat 2
  have hp1 : 1 ≤ 2 ^ (opL (T 37) (T 39) s.toNat pl.toNat 2).length := Nat.one_le_two_pow
  refine E_eq rfl (show _ = [.ref 36, .int (jI ((pl.toNat : Nat) : Int)), .int (jI s), .int (jI ((2 ^ (opL (T 37) (T 39) s.toNat pl.toNat 2).length - 1 : Nat) : Int)), .retAddr 0] from by rw [show ((pl.toNat : Nat) : Int) = pl by omega]) rfl rfl ?_
  exact lX11_playFirst (L := (opL (T 37) (T 39) s.toNat pl.toNat 2)) (pl := pl.toNat) (ms := mem s.toNat) (by omega) (by omega) hL4.sf hL4.po hL4.mm (by rw [hol]; exact hL4.2.2.1) (mem_getD_lt s.toNat) (opL_GO (by omega)) (2 ^ (opL (T 37) (T 39) s.toNat pl.toNat 2).length - 1) T4 _ rfl (by omega) (Fr.refl _ _) (fun u f a b c d => by omega)

set_option maxRecDepth 100000 in
theorem qX11_isGame {hp : List mx_C} {pl : Int} (h_pl : -2147483648 ≤ pl ∧ pl < 2147483648) {s : Int} (h_s : -2147483648 ≤ s ∧ s < 2147483648) : SpF yX11_isGame cX11_isGame 2 (some .boolean) 2 [.int (jI pl), .int (jI s)] hp (.int (jI (jb (isGm pl s)))) hp := by
  have hpb := pc_B s
  refine Sp.of [.int (jI pl), .int (jI s)] (by decide) (by simp) (Nat.le_of_ble_eq_true rfl) rfl (fun E => ?_)
  refine L_i0 dX11_isGame_0 ?_
  refine J_iconst dX11_isGame_1 ?_
  refine J_bipush dX11_isGame_2 (by decide) ?_
  refine C_s3F vX11_83 dX11_isGame_4 (qX11_isIn (by omega) (by omega) (by omega)) (Nat.le_of_ble_eq_true rfl) (by decide) ?_
  refine J_ifeqB 29 dX11_isGame_7 rfl (fun c7 => ?_) (fun c7 => ?_)
  · refine J_iconst dX11_isGame_29 ?_
    exact R_z rfl dX11_isGame_30 (by decide) rfl (by first | exact (jb_t (by omega)).symm | exact (jb_f (by omega)).symm)
  · refine L_i1 dX11_isGame_10 ?_
    refine C_s1F vX11_411 dX11_isGame_11 (qX11_isSet (by omega)) (Nat.le_of_ble_eq_true rfl) (by decide) ?_
    refine J_ifeqB 29 dX11_isGame_14 rfl (fun c14 => ?_) (fun c14 => ?_)
    · refine J_iconst dX11_isGame_29 ?_
      exact R_z rfl dX11_isGame_30 (by decide) rfl (by first | exact (jb_t (by omega)).symm | exact (jb_f (by omega)).symm)
    · refine L_i1 dX11_isGame_17 ?_
      refine C_s1F vX11_304 dX11_isGame_18 (qX11_bits (by omega)) (Nat.le_of_ble_eq_true rfl) (by decide) ?_
      refine J_iconst dX11_isGame_21 ?_
      refine J_icmp_gt 29 dX11_isGame_22 rfl (by omega) (by omega) (fun c22 => ?_) (fun c22 => ?_)
      · refine J_iconst dX11_isGame_29 ?_
        exact R_z rfl dX11_isGame_30 (by decide) rfl (by first | exact (jb_t (by omega)).symm | exact (jb_f (by omega)).symm)
      · refine J_iconst dX11_isGame_25 ?_
        refine E_goto 30 dX11_isGame_26 rfl ?_
        exact R_z rfl dX11_isGame_30 (by decide) rfl (by first | exact (jb_t (by omega)).symm | exact (jb_f (by omega)).symm)

set_option maxRecDepth 100000 in
theorem qX11_game {S T : Nat → Int → Int} {D : List mx_C} (hi : MI T) {pl : Int} (h_pl : -2147483648 ≤ pl ∧ pl < 2147483648) {s : Int} (h_s : -2147483648 ≤ s ∧ s < 2147483648) : SpI yX11_game cX11_game 3 (some .int) 12 [.ref 36, .int (jI pl), .int (jI s)] (W5 S T D) (fun v hp' => v = (if isGm pl s then (if md_pf (T 37) (T 39) pl s = -1 then 0 else 1) else -1) ∧ ∃ T', hp' = W5 S T' D ∧ SF T T') := by
  refine Sp.of [.ref 36, .int (jI pl), .int (jI s)] (by decide) (by simp) (Nat.le_of_ble_eq_true rfl) rfl (fun E => ?_)
  refine L_i1 dX11_game_0 ?_
  refine L_i2 dX11_game_1 ?_
  refine C_s2F vX11_470 dX11_game_2 (qX11_isGame (by omega) (by omega)) (Nat.le_of_ble_eq_true rfl) (by decide) ?_
  refine J_ifneB 12 dX11_game_5 rfl (fun c5 => ?_) (fun c5 => ?_)
  · refine L_a0 dX11_game_12 ?_
    refine L_i1 dX11_game_13 ?_
    refine L_i2 dX11_game_14 ?_
    refine C_v2I vX11_473 dX11_game_15 (qX11_playFirst hi (by assumption)) rfl rfl (Nat.le_of_ble_eq_true rfl) (by decide) (fun v15 hp15 hq15 => ?_)
    obtain ⟨e15, T15, rfl, f15⟩ := hq15
    have hpf := md_pf_B (T 37) (T 39) pl s
    subst e15
    refine J_iconst dX11_game_18 ?_
    refine J_icmp_ne 26 dX11_game_19 rfl (by omega) (by omega) (fun c19 => ?_) (fun c19 => ?_)
    · refine J_iconst dX11_game_26 ?_
      exact RQ_i rfl dX11_game_27 (by first | exact ⟨by rw [if_pos c5, if_neg c19], T15, rfl, f15⟩ | exact ⟨by rw [if_pos c5, if_pos c19], T15, rfl, f15⟩ | exact ⟨by rw [if_neg c5], T, rfl, SF.refl T⟩)
    · refine J_iconst dX11_game_22 ?_
      refine E_goto 27 dX11_game_23 rfl ?_
      exact RQ_i rfl dX11_game_27 (by first | exact ⟨by rw [if_pos c5, if_neg c19], T15, rfl, f15⟩ | exact ⟨by rw [if_pos c5, if_pos c19], T15, rfl, f15⟩ | exact ⟨by rw [if_neg c5], T, rfl, SF.refl T⟩)
  · refine J_iconst dX11_game_8 ?_
    refine E_goto 27 dX11_game_9 rfl ?_
    exact RQ_i rfl dX11_game_27 (by first | exact ⟨by rw [if_pos c5, if_neg c19], T15, rfl, f15⟩ | exact ⟨by rw [if_pos c5, if_pos c19], T15, rfl, f15⟩ | exact ⟨by rw [if_neg c5], T, rfl, SF.refl T⟩)

set_option maxRecDepth 100000 in
theorem qX11_play {S T : Nat → Int → Int} {D : List mx_C} (hi : MI T) {pl : Int} (h_pl : -2147483648 ≤ pl ∧ pl < 2147483648) {s : Int} (h_s : -2147483648 ≤ s ∧ s < 2147483648) : SpI yX11_play cX11_play 3 (some .int) 12 [.ref 36, .int (jI pl), .int (jI s)] (W5 S T D) (fun v hp' => v = (if isGm pl s then md_pf (T 37) (T 39) pl s else -1) ∧ ∃ T', hp' = W5 S T' D ∧ SF T T') := by
  refine Sp.of [.ref 36, .int (jI pl), .int (jI s)] (by decide) (by simp) (Nat.le_of_ble_eq_true rfl) rfl (fun E => ?_)
  refine L_i1 dX11_play_0 ?_
  refine L_i2 dX11_play_1 ?_
  refine C_s2F vX11_470 dX11_play_2 (qX11_isGame (by omega) (by omega)) (Nat.le_of_ble_eq_true rfl) (by decide) ?_
  refine J_ifeqB 17 dX11_play_5 rfl (fun c5 => ?_) (fun c5 => ?_)
  · refine J_iconst dX11_play_17 ?_
    exact RQ_i rfl dX11_play_18 (by first | exact ⟨by rw [if_pos c5], T11, rfl, f11⟩ | exact ⟨by rw [if_neg c5], T, rfl, SF.refl T⟩)
  · refine L_a0 dX11_play_8 ?_
    refine L_i1 dX11_play_9 ?_
    refine L_i2 dX11_play_10 ?_
    refine C_v2I vX11_473 dX11_play_11 (qX11_playFirst hi (by assumption)) rfl rfl (Nat.le_of_ble_eq_true rfl) (by decide) (fun v11 hp11 hq11 => ?_)
    obtain ⟨e11, T11, rfl, f11⟩ := hq11
    have hpf := md_pf_B (T 37) (T 39) pl s
    subst e11
    refine E_goto 18 dX11_play_14 rfl ?_
    exact RQ_i rfl dX11_play_18 (by first | exact ⟨by rw [if_pos c5], T11, rfl, f11⟩ | exact ⟨by rw [if_neg c5], T, rfl, SF.refl T⟩)

