/-! ===== the reference: options ===== -/
/-- the options of the first n are laid -/
def PO (T : Nat → Int → Int) (L : List (List Nat)) (n : Nat) : Prop := ∀ i : Nat, i < n → T 49 i = ((L.getD i []).length : Int) ∧ ∀ o : Nat, o < (L.getD i []).length → T 48 (16 * (i : Int) + (o : Int)) = (((L.getD i []).getD o 0 : Nat) : Int)
theorem PO.congr {T T' : Nat → Int → Int} {L : List (List Nat)} {n : Nat} (h : PO T L n) (e8 : T' 48 = T 48) (e9 : T' 49 = T 49) : PO T' L n := by
  unfold PO
  rw [e8, e9]
  exact h
def PB (L : List (List Nat)) : Prop := L.length ≤ 8 ∧ ∀ i : Nat, i < L.length → (L.getD i []).length ≤ 16 ∧ ∀ m, m ∈ L.getD i [] → m < 65536
/-- from the first to the second of a number -/
def md_st (a c : Int → Int) (k : Nat) : Nat := (md_btw a c (a 1) (k : Int) + 1).toNat
theorem md_st_B {a c : Int → Int} {k : Nat} (hk : k < 8) : 1 ≤ md_st a c k ∧ md_st a c k ≤ 15 := by
  have := md_btw_B (a := a) (c := c) (q := a 1) (k := (k : Int)) (by omega)
  unfold md_st
  omega
theorem md_st_I {a c : Int → Int} {k : Nat} (hk : k < 8) : md_btw a c (a 1) (k : Int) + 1 = (md_st a c k : Int) := by
  have := md_btw_B (a := a) (c := c) (q := a 1) (k := (k : Int)) (by omega)
  unfold md_st
  omega
def opL (a c : Int → Int) (s pl e : Nat) : List (List Nat) := (mem s).map (fun k => opl (md_st a c k) pl e)
theorem getD_map {α β : Type} (f : α → β) {l : List α} {i : Nat} {d : α} {d' : β} (h : i < l.length) : (l.map f).getD i d' = f (l.getD i d) := by
  rw [List.getD_eq_getElem?_getD, List.getD_eq_getElem?_getD, List.getElem?_map, List.getElem?_eq_getElem h]
  rfl
theorem getD_mem {α : Type} {l : List α} {i : Nat} {d : α} (h : i < l.length) : l.getD i d ∈ l := by
  rw [List.getD_eq_getElem?_getD, List.getElem?_eq_getElem h]
  exact List.getElem_mem h
theorem opl_len {st pl e : Nat} : (opl st pl e).length = pl - (e - 1) * st := by unfold opl; rw [List.length_map, List.length_range]
theorem opl_at {st pl e o : Nat} (h : o < pl - (e - 1) * st) : (opl st pl e).getD o 0 = opm st e o := by
  unfold opl
  rw [getD_map (opm st e) (d := 0) (by rw [List.length_range]; exact h), List.getD_eq_getElem?_getD, List.getElem?_range h]
  rfl
theorem mul_e {e st : Nat} (he : 2 ≤ e) : st ≤ (e - 1) * st := by
  have : 1 * st ≤ (e - 1) * st := Nat.mul_le_mul_right st (by omega)
  omega
theorem opL_PB {a c : Int → Int} {s pl e : Nat} (hp : pl ≤ 16) (he : 2 ≤ e) : PB (opL a c s pl e) := by
  have hl := memN_len s 8
  refine ⟨by unfold opL; rw [List.length_map]; exact hl, fun i hi => ?_⟩
  unfold opL at hi ⊢
  rw [List.length_map] at hi
  rw [getD_map _ (d := 0) hi]
  have hk := memN_lt (s := s) 8 _ (getD_mem (d := 0) hi)
  have hs := md_st_B (a := a) (c := c) hk
  refine ⟨by rw [opl_len]; omega, fun m hm => ?_⟩
  unfold opl at hm
  rw [List.mem_map] at hm
  obtain ⟨p, hp2, rfl⟩ := hm
  rw [List.mem_range] at hp2
  exact opm_lt he (by omega)
theorem opm_I (p st e : Nat) (he : 2 ≤ e) : bor (bor (bsh (p : Int)) (bsh ((p : Int) + (st : Int)))) (bsh ((p : Int) + ((e : Int) - 1) * (st : Int))) = ((opm st e p : Nat) : Int) := by
  have h : (e : Int) - 1 = ((e - 1 : Nat) : Int) := by omega
  rw [h, ← Int.natCast_mul, ← Int.natCast_add, ← Int.natCast_add, bsh_nat, bsh_nat, bsh_nat, bor_nat, bor_nat]
  rfl
/-- the state while the options are laid -/
def LO (T0 T : Nat → Int → Int) (s pl e : Nat) (n : Nat) : Prop := (∀ k : Int, 0 ≤ k ∧ k < 8 → T 46 k = md_btw (T0 37) (T0 39) (T0 37 1) k + 1) ∧ T 36 32 = ((mem s).length : Int) ∧ (∀ i : Nat, i < (mem s).length → T 47 i = (((mem s).getD i 0 : Nat) : Int)) ∧ (∀ j, ¬ j = 32 → T 36 j = T0 36 j) ∧ Fr [36, 42, 43, 44, 46, 47, 48, 49] T0 T ∧ PO T (opL (T0 37) (T0 39) s pl e) n
theorem LO.up {T0 T T' : Nat → Int → Int} {s pl e n n' : Nat} (h : LO T0 T s pl e n) (f : Fr [48, 49] T T') (hp : PO T' (opL (T0 37) (T0 39) s pl e) n') : LO T0 T' s pl e n' := by
  refine ⟨?_, ?_, ?_, ?_, h.2.2.2.2.1.trans (f.mono (by decide)), hp⟩
  · rw [f 46 (by decide)]; exact h.1
  · rw [f 36 (by decide)]; exact h.2.1
  · rw [f 47 (by decide)]; exact h.2.2.1
  · rw [f 36 (by decide)]; exact h.2.2.2.1
theorem Fr_trans2 {l : List Nat} {T T1 T2 : Nat → Int → Int} (h1 : Fr l T T1) (h2 : Fr l T1 T2) : Fr l T T2 := h1.trans h2
theorem mem_len8 (s : Nat) : (mem s).length ≤ 8 := memN_len s 8
set_option maxRecDepth 100000 in
theorem lX11_layOptions1 {E : mx_E} {S T : Nat → Int → Int} {D : List mx_C} (hi : MI T) {s pl e : Int} (h_s : 0 ≤ s ∧ s ≤ 255) (h_p : 0 ≤ pl ∧ pl ≤ 16) (h_e : 2 ≤ e ∧ e ≤ 3) {i st : Nat} (hin : i < (mem s.toNat).length) (hsB : 1 ≤ st ∧ st ≤ 15) (hst : md_st (T 37) (T 39) ((mem s.toNat).getD i 0) = st) (hk : ∀ T2 : Nat → Int → Int, LO T T2 s.toNat pl.toNat e.toNat (i + 1) → Ev E yX11_layOptions cX11_layOptions 7 none (kU E 10 (fun hp' => ∃ T', hp' = W5 S T' D ∧ LO T T' s.toNat pl.toNat e.toNat (mem s.toNat).length)) 0 0 114 [.ref 36, .int (jI s), .int (jI pl), .int (jI e), .int (jI (i : Int)), .int (jI (st : Int)), .int (jI (if (e - 1) * (st : Int) ≤ pl then pl - (e - 1) * (st : Int) else 0))] [] (W5 S T2 D)) : ∀ (m : Nat) (p : Int) (T1 : Nat → Int → Int), p + m = (if (e - 1) * (st : Int) ≤ pl then pl - (e - 1) * (st : Int) else 0) → 0 ≤ p → LO T T1 s.toNat pl.toNat e.toNat i → T1 49 i = p → (∀ o : Nat, (o : Int) < p → T1 48 (16 * (i : Int) + (o : Int)) = ((opm st e.toNat o : Nat) : Int)) → Ev E yX11_layOptions cX11_layOptions 7 none (kU E 10 (fun hp' => ∃ T', hp' = W5 S T' D ∧ LO T T' s.toNat pl.toNat e.toNat (mem s.toNat).length)) 0 0 42 [.ref 36, .int (jI s), .int (jI pl), .int (jI e), .int (jI (i : Int)), .int (jI (st : Int)), .int (jI p)] [] (W5 S T1 D) := by
  intro m
  induction m with
  | zero =>
    intro p T1 hp hp0 hL h49 h48
    have hl8 := mem_len8 s.toNat
    have hst2 : (st : Int) ≤ (e - 1) * (st : Int) := by
      have := mul_e (e := e.toNat) (st := st) (by omega)
      have h2 : (e : Int) - 1 = ((e.toNat - 1 : Nat) : Int) := by omega
      rw [h2, ← Int.natCast_mul]
      omega
    have hst3 : (e - 1) * (st : Int) ≤ 30 := by
      rcases (show e = 2 ∨ e = 3 by omega) with rfl | rfl <;> omega
    have hsub : ((pl.toNat - (e.toNat - 1) * st : Nat) : Int) = if (e - 1) * (st : Int) ≤ pl then pl - (e - 1) * (st : Int) else 0 := by
      have h2 : (e : Int) - 1 = ((e.toNat - 1 : Nat) : Int) := by omega
      rw [h2, ← Int.natCast_mul]
      split <;> omega
    have hg : (opL (T 37) (T 39) s.toNat pl.toNat e.toNat).getD i [] = opl st pl.toNat e.toNat := by
      unfold opL
      rw [getD_map _ (d := 0) hin, hst]
    refine L_i6 dX11_layOptions_42 ?_
    refine L_i3 dX11_layOptions_44 ?_
    refine J_iconst dX11_layOptions_45 ?_
    refine J_isub dX11_layOptions_46 ?_
    refine L_i5 dX11_layOptions_47 ?_
    refine J_imul dX11_layOptions_49 ?_
    refine J_iadd dX11_layOptions_50 ?_
    refine L_i2 dX11_layOptions_51 ?_
    refine J_icmp_ge 114 dX11_layOptions_52 rfl (by omega) (by omega) (fun c52 => ?_) (fun c52 => ?_)
    · have hpe : p = (if (e - 1) * (st : Int) ≤ pl then pl - (e - 1) * (st : Int) else 0) := by omega
      rw [hpe]
      refine hk T1 (hL.up (Fr.refl _ _) (fun j hj => ?_))
      by_cases h : j = i
      · subst h
        rw [hg]
        refine ⟨by rw [opl_len, h49, hsub]; split <;> omega, fun o ho => ?_⟩
        rw [opl_len] at ho
        rw [opl_at ho]
        exact h48 o (by have := hsub; split at this <;> omega)
      · exact hL.2.2.2.2.2 j (by omega)
    · exfalso; split at hp <;> omega
  | succ m ih =>
    intro p T1 hp hp0 hL h49 h48
    have hl8 := mem_len8 s.toNat
    have hPB := opL_PB (a := T 37) (c := T 39) (s := s.toNat) (pl := pl.toNat) (e := e.toNat) (by omega) (by omega)
    have hlen : (opL (T 37) (T 39) s.toNat pl.toNat e.toNat).length = (mem s.toNat).length := by unfold opL; rw [List.length_map]
    have hst2 : (st : Int) ≤ (e - 1) * (st : Int) := by
      have := mul_e (e := e.toNat) (st := st) (by omega)
      have h2 : (e : Int) - 1 = ((e.toNat - 1 : Nat) : Int) := by omega
      rw [h2, ← Int.natCast_mul]
      omega
    have hst3 : (e - 1) * (st : Int) ≤ 30 := by
      rcases (show e = 2 ∨ e = 3 by omega) with rfl | rfl <;> omega
    have hsub : ((pl.toNat - (e.toNat - 1) * st : Nat) : Int) = if (e - 1) * (st : Int) ≤ pl then pl - (e - 1) * (st : Int) else 0 := by
      have h2 : (e : Int) - 1 = ((e.toNat - 1 : Nat) : Int) := by omega
      rw [h2, ← Int.natCast_mul]
      split <;> omega
    have hg : (opL (T 37) (T 39) s.toNat pl.toNat e.toNat).getD i [] = opl st pl.toNat e.toNat := by
      unfold opL
      rw [getD_map _ (d := 0) hin, hst]
    refine L_i6 dX11_layOptions_42 ?_
    refine L_i3 dX11_layOptions_44 ?_
    refine J_iconst dX11_layOptions_45 ?_
    refine J_isub dX11_layOptions_46 ?_
    refine L_i5 dX11_layOptions_47 ?_
    refine J_imul dX11_layOptions_49 ?_
    refine J_iadd dX11_layOptions_50 ?_
    refine L_i2 dX11_layOptions_51 ?_
    refine J_icmp_ge 114 dX11_layOptions_52 rfl (by omega) (by omega) (fun c52 => ?_) (fun c52 => ?_)
    · exfalso; split at hp <;> omega
    · refine L_a0 dX11_layOptions_55 ?_
      refine GW_36_28 fX11_56 dX11_layOptions_56 ?_
      refine J_bipush dX11_layOptions_59 (by decide) ?_
      refine L_i4 dX11_layOptions_61 ?_
      refine J_imul dX11_layOptions_63 ?_
      refine L_a0 dX11_layOptions_64 ?_
      refine GW_36_29 fX11_59 dX11_layOptions_65 ?_
      refine L_i4 dX11_layOptions_68 ?_
      refine AR_49 dX11_layOptions_70 (by omega) ?_
      refine J_eqi (b := p) h49 ?_
      refine J_iadd dX11_layOptions_71 ?_
      refine J_iconst dX11_layOptions_72 ?_
      refine L_i6 dX11_layOptions_73 ?_
      refine J_1shl dX11_layOptions_75 (by omega) ?_
      refine J_iconst dX11_layOptions_76 ?_
      refine L_i6 dX11_layOptions_77 ?_
      refine L_i5 dX11_layOptions_79 ?_
      refine J_iadd dX11_layOptions_81 ?_
      refine J_1shl dX11_layOptions_82 (by omega) ?_
      refine J_iorG dX11_layOptions_83 (bsh_nn _) (bsh_nn _) ?_
      refine J_iconst dX11_layOptions_84 ?_
      refine L_i6 dX11_layOptions_85 ?_
      refine L_i3 dX11_layOptions_87 ?_
      refine J_iconst dX11_layOptions_88 ?_
      refine J_isub dX11_layOptions_89 ?_
      refine L_i5 dX11_layOptions_90 ?_
      refine J_imul dX11_layOptions_92 ?_
      refine J_iadd dX11_layOptions_93 ?_
      refine J_1shl dX11_layOptions_94 (by omega) ?_
      refine J_iorG dX11_layOptions_95 (bor_nn _ _) (bsh_nn _) ?_
      refine AS_48 dX11_layOptions_96 (by omega) ?_
      refine L_a0 dX11_layOptions_97 ?_
      refine GW_36_29 fX11_59 dX11_layOptions_98 ?_
      refine L_i4 dX11_layOptions_101 ?_
      refine E_dup2 dX11_layOptions_103 rfl rfl ?_
      refine AR_49 dX11_layOptions_104 (by omega) ?_
      refine J_iconst dX11_layOptions_105 ?_
      refine J_iadd dX11_layOptions_106 ?_
      refine AS_49 dX11_layOptions_107 (by omega) ?_
      refine JI_6 dX11_layOptions_108 (by decide) rfl ?_
      refine E_goto 42 dX11_layOptions_111 rfl ?_
      refine E_eq rfl rfl rfl (show _ = W5 S (upS (upS T1 48 (up (T1 48) (16 * (i : Int) + T1 49 i) (bor (bor (bsh p) (bsh (p + (st : Int)))) (bsh (p + (e - 1) * (st : Int)))))) 49 (up ((upS T1 48 (up (T1 48) (16 * (i : Int) + T1 49 i) (bor (bor (bsh p) (bsh (p + (st : Int)))) (bsh (p + (e - 1) * (st : Int)))))) 49) i ((upS T1 48 (up (T1 48) (16 * (i : Int) + T1 49 i) (bor (bor (bsh p) (bsh (p + (st : Int)))) (bsh (p + (e - 1) * (st : Int)))))) 49 i + 1))) D from by rw [h49]) ?_
      refine ih (p + 1) _ (by omega) (by omega) (hL.up (Fr_trans2 (Fr_up _ _ (by decide)) (Fr_up _ _ (by decide))) ?_) ?_ ?_
      · intro j hj
        have h1 := hL.2.2.2.2.2 j hj
        have h2 := (hPB.2 j (by rw [hlen]; omega)).1
        rw [upS_s, upS_n (by decide), upS_n (by decide), upS_s, up_n (by omega)]
        refine ⟨h1.1, fun o ho => ?_⟩
        rw [up_n (by omega)]
        exact h1.2 o ho
      · rw [upS_s, up_s, upS_n (by decide), h49]
      · intro o ho
        rw [upS_n (by decide), upS_s, h49]
        by_cases h : (o : Int) = p
        · rw [h, up_s]
          have := opm_I o st e.toNat (by omega)
          rw [h, show ((e.toNat : Nat) : Int) = e by omega] at this
          exact this
        · rw [up_n (by omega)]; exact h48 o (by omega)

set_option maxRecDepth 100000 in
theorem lX11_layOptions {E : mx_E} {S T : Nat → Int → Int} {D : List mx_C} (hi : MI T) {s pl e : Int} (h_s : 0 ≤ s ∧ s ≤ 255) (h_p : 0 ≤ pl ∧ pl ≤ 16) (h_e : 2 ≤ e ∧ e ≤ 3) : ∀ (m : Nat) (i : Int) (T1 : Nat → Int → Int) (u5 u6 : Value), u5.category = 1 → u6.category = 1 → i + m = (mem s.toNat).length → 0 ≤ i → LO T T1 s.toNat pl.toNat e.toNat i.toNat → Ev E yX11_layOptions cX11_layOptions 7 none (kU E 10 (fun hp' => ∃ T', hp' = W5 S T' D ∧ LO T T' s.toNat pl.toNat e.toNat (mem s.toNat).length)) 0 0 8 [.ref 36, .int (jI s), .int (jI pl), .int (jI e), .int (jI i), u5, u6] [] (W5 S T1 D) := by
  intro m
  induction m with
  | zero =>
    intro i T1 u5 u6 hu5 hu6 him hi0 hL
    have hl8 := mem_len8 s.toNat
    refine L_i4 dX11_layOptions_8 ?_
    refine L_a0 dX11_layOptions_10 ?_
    refine GW_36_32 fX11_398 dX11_layOptions_11 ?_
    refine J_eqi (b := ((mem s.toNat).length : Int)) hL.2.1 ?_
    refine J_icmp_ge 120 dX11_layOptions_14 rfl (by omega) (by omega) (fun c14 => ?_) (fun c14 => ?_)
    · exact RQ_v rfl dX11_layOptions_120 ⟨T1, rfl, by rw [show i.toNat = (mem s.toNat).length by omega] at hL; exact hL⟩
    · exfalso; omega
  | succ m ih =>
    intro i T1 u5 u6 hu5 hu6 him hi0 hL
    have hl8 := mem_len8 s.toNat
    obtain ⟨n, rfl⟩ : ∃ n : Nat, i = n := ⟨i.toNat, by omega⟩
    rw [Int.toNat_natCast] at hL
    have hin : n < (mem s.toNat).length := by omega
    have hmk : (mem s.toNat).getD n 0 < 8 := memN_lt (s := s.toNat) 8 _ (getD_mem (d := 0) hin)
    have h47 := hL.2.2.1 n hin
    have hsb := md_st_B (a := T 37) (c := T 39) hmk
    have h46 := hL.1 ((mem s.toNat).getD n 0 : Nat) (by omega)
    rw [md_st_I hmk] at h46
    have h32 := hL.2.1
    refine L_i4 dX11_layOptions_8 ?_
    refine L_a0 dX11_layOptions_10 ?_
    refine GW_36_32 fX11_398 dX11_layOptions_11 ?_
    refine J_eqi (b := ((mem s.toNat).length : Int)) h32 ?_
    refine J_icmp_ge 120 dX11_layOptions_14 rfl (by omega) (by omega) (fun c14 => ?_) (fun c14 => ?_)
    · exfalso; omega
    · refine L_a0 dX11_layOptions_17 ?_
      refine GW_36_26 fX11_50 dX11_layOptions_18 ?_
      refine L_a0 dX11_layOptions_21 ?_
      refine GW_36_27 fX11_53 dX11_layOptions_22 ?_
      refine L_i4 dX11_layOptions_25 ?_
      refine AR_47 dX11_layOptions_27 (by omega) ?_
      refine J_eqi (b := (((mem s.toNat).getD n 0 : Nat) : Int)) h47 ?_
      refine AR_46 dX11_layOptions_28 (by omega) ?_
      refine J_eqi (b := ((md_st (T 37) (T 39) ((mem s.toNat).getD n 0) : Nat) : Int)) h46 ?_
      refine S_i5 dX11_layOptions_29 (by decide) rfl ?_
      refine L_a0 dX11_layOptions_31 ?_
      refine GW_36_29 fX11_59 dX11_layOptions_32 ?_
      refine L_i4 dX11_layOptions_35 ?_
      refine J_iconst dX11_layOptions_37 ?_
      refine AS_49 dX11_layOptions_38 (by omega) ?_
      refine J_iconst dX11_layOptions_39 ?_
      refine S_i6 dX11_layOptions_40 (by decide) rfl ?_
      exact lX11_layOptions1 hi h_s h_p h_e (i := n) (st := md_st (T 37) (T 39) ((mem s.toNat).getD n 0)) hin hsb rfl (fun T2 hL2 => by
        refine JI_4 dX11_layOptions_114 (by decide) rfl ?_
        refine E_goto 8 dX11_layOptions_117 rfl ?_
        exact ih ((n : Int) + 1) T2 _ _ rfl rfl (by omega) (by omega) (by rw [show ((n : Int) + 1).toNat = n + 1 by omega]; exact hL2)) (if (e - 1) * ((md_st (T 37) (T 39) ((mem s.toNat).getD n 0) : Nat) : Int) ≤ pl then pl - (e - 1) * ((md_st (T 37) (T 39) ((mem s.toNat).getD n 0) : Nat) : Int) else 0).toNat 0 _ (by split <;> omega) (by omega) (hL.up (Fr_up _ _ (by decide)) (fun j hj => by
          rw [upS_s, upS_n (by decide), up_n (by omega)]
          exact hL.2.2.2.2.2 j hj)) (by rw [upS_s, up_s]) (fun o ho => by omega)

set_option maxRecDepth 100000 in
theorem qX11_layOptions {S T : Nat → Int → Int} {D : List mx_C} (hi : MI T) {s pl e : Int} (h_s : 0 ≤ s ∧ s ≤ 255) (h_p : 0 ≤ pl ∧ pl ≤ 16) (h_e : 2 ≤ e ∧ e ≤ 3) : SpU yX11_layOptions cX11_layOptions 7 none 10 [.ref 36, .int (jI s), .int (jI pl), .int (jI e)] (W5 S T D) (fun hp' => ∃ T', hp' = W5 S T' D ∧ LO T T' s.toNat pl.toNat e.toNat (mem s.toNat).length) := by
  refine Sp.of [.ref 36, .int (jI s), .int (jI pl), .int (jI e), .retAddr 0, .retAddr 0, .retAddr 0] (by decide) (by simp) (Nat.le_of_ble_eq_true rfl) rfl (fun E => ?_)
  refine L_a0 dX11_layOptions_0 ?_
  refine L_i1 dX11_layOptions_1 ?_
  refine C_v1U vX11_401 dX11_layOptions_2 (qX11_layMembers hi h_s) rfl rfl (Nat.le_of_ble_eq_true rfl) (by decide) (fun hp2 hq2 => ?_)
  obtain ⟨T2, rfl, hm⟩ := hq2
  refine J_iconst dX11_layOptions_5 ?_
  refine S_i4 dX11_layOptions_6 (by decide) rfl ?_
  exact lX11_layOptions hi h_s h_p h_e (mem s.toNat).length 0 T2 _ _ rfl rfl (by omega) (by omega) ⟨fun k hk => hm.1 k (by omega), hm.2.1, hm.2.2.1, hm.2.2.2.1, hm.2.2.2.2.mono (by decide), fun j hj => absurd hj (Nat.not_lt_zero _)⟩

