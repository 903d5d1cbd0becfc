/-! ===== the reference: often ===== -/
theorem getD_set_s {α : Type} {L : List α} {i : Nat} {x d : α} (h : i < L.length) : (L.set i x).getD i d = x := by
  rw [List.getD_eq_getElem?_getD, List.getElem?_set, if_pos rfl, if_pos h]
  rfl
theorem getD_set_n {α : Type} {L : List α} {i j : Nat} {x d : α} (h : ¬ i = j) : (L.set i x).getD j d = L.getD j d := by
  rw [List.getD_eq_getElem?_getD, List.getD_eq_getElem?_getD, List.getElem?_set, if_neg h]
theorem filt_cons (p x : Nat) (l : List Nat) : (x :: l).filter (fun m => m.testBit p) = if x.testBit p = true then x :: l.filter (fun m => m.testBit p) else l.filter (fun m => m.testBit p) := by
  rw [List.filter_cons]
theorem getD_cons_s {α : Type} (x : α) (l : List α) (j : Nat) (d : α) : (x :: l).getD (j + 1) d = l.getD j d := rfl
/-- the options of the i-th kept that hold a place -/
def ofL (L : List (List Nat)) (i p : Nat) : List (List Nat) := L.set i ((L.getD i []).filter (fun m => m.testBit p))
theorem ofL_PB {L : List (List Nat)} (h : PB L) {i p : Nat} : PB (ofL L i p) := by
  unfold ofL
  refine ⟨by rw [List.length_set]; exact h.1, fun j hj => ?_⟩
  rw [List.length_set] at hj
  by_cases e : i = j
  · subst e
    rw [getD_set_s hj]
    have h2 := h.2 i hj
    exact ⟨Nat.le_trans (List.length_filter_le _ _) h2.1, fun m hm => h2.2 m (List.mem_filter.mp hm).1⟩
  · rw [getD_set_n e]
    exact h.2 j hj
theorem ofL_PO {T2 T1 : Nat → Int → Int} {L : List (List Nat)} {i p : Nat} {F : List Nat} (hPB : PB L) (hi : i < L.length) (hF : (L.getD i []).filter (fun m => m.testBit p) = F) (h : PO T2 L L.length) (f : Fr [48] T2 T1) (h1 : ∀ j : Nat, j < F.length → T1 48 (16 * (i : Int) + (j : Int)) = ((F.getD j 0 : Nat) : Int)) (h2 : ∀ x : Int, x < 16 * (i : Int) ∨ 16 * (i : Int) + 16 ≤ x → T1 48 x = T2 48 x) : PO (upS T1 49 (up (T1 49) i (F.length : Int))) (ofL L i p) (ofL L i p).length := by
  unfold ofL
  rw [hF, List.length_set]
  intro j hj
  rw [upS_s, upS_n (by decide)]
  by_cases e : i = j
  · subst e
    rw [getD_set_s hj, up_s]
    exact ⟨rfl, h1⟩
  · rw [getD_set_n e, up_n (by omega)]
    have h3 := h j hj
    have h4 := (hPB.2 j hj).1
    refine ⟨by rw [f 49 (by decide)]; exact h3.1, fun o ho => ?_⟩
    rw [h2 _ (by omega)]
    exact h3.2 o ho
theorem lX11_often2 {E : mx_E} {S T : Nat → Int → Int} {D : List mx_C} {T2 : Nat → Int → Int} {s g n pl k : Int} {i : Nat} {L : List (List Nat)} (hSF : SF T T2) (hPB : PB L) (hPO : PO T2 L L.length) (hmm : T2 36 32 = (L.length : Int)) (hin : i < L.length) (h_pl : 0 ≤ pl ∧ pl ≤ 15) : ∀ (os' : List Nat) (o : Nat) (acc : List Nat) (T1 : Nat → Int → Int), acc ++ os'.filter (fun m => m.testBit pl.toNat) = (L.getD i []).filter (fun m => m.testBit pl.toNat) → o + os'.length = (L.getD i []).length → acc.length ≤ o → (∀ m, m ∈ os' → m < 65536) → Fr [48] T2 T1 → (∀ j : Nat, j < acc.length → T1 48 (16 * (i : Int) + (j : Int)) = ((acc.getD j 0 : Nat) : Int)) → (∀ j : Nat, j < os'.length → T1 48 (16 * (i : Int) + ((o + j : Nat) : Int)) = ((os'.getD j 0 : Nat) : Int)) → (∀ x : Int, x < 16 * (i : Int) ∨ 16 * (i : Int) + 16 ≤ x → T1 48 x = T2 48 x) → Ev E yX11_often cX11_often 9 (some .long) (kL E 11 (fun v hp' => v = ((wy (ofL L i pl.toNat) 0).length : Int) ∧ ∃ T', hp' = W5 S T' D ∧ SF T T')) 0 0 88 [.ref 36, .int (jI s), .int (jI g), .int (jI n), .int (jI pl), .int (jI k), .int (jI (i : Int)), .int (jI (acc.length : Int)), .int (jI (o : Int))] [] (W5 S T1 D) := by
  intro os'
  induction os' with
  | nil =>
    intro o acc T1 hF ho hao hmB f1 h1 h2 h3
    rw [List.filter_nil, List.append_nil] at hF
    have ho2 : o = (L.getD i []).length := by simpa using ho
    have hl8 := hPB.1
    have hPBi := hPB.2 i hin
    have hPOi := hPO i hin
    have e49 : T1 49 i = ((L.getD i []).length : Int) := by rw [f1 49 (by decide)]; exact hPOi.1
    have hal : (1 : Int) = 0 ∨ (1 : Int) = 1 := Or.inr rfl
    have hpo := ofL_PO hPB hin hF.symm hPO f1 h1 h3
    have hfm : (upS T1 49 (up (T1 49) i (acc.length : Int))) 36 32 = ((ofL L i pl.toNat).length : Int) := by rw [upS_n (by decide), f1 36 (by decide), hmm]; unfold ofL; rw [List.length_set]
    have hf2 : SF T2 (upS T1 49 (up (T1 49) i (acc.length : Int))) := SF.of ((f1.mono (by decide : ∀ i, i ∈ [48] → i ∈ [48, 49])).trans (Fr_up _ _ (by decide))) (by decide) (by decide)
    refine L_i8 dX11_often_88 ?_
    refine L_a0 dX11_often_90 ?_
    refine GW_36_29 fX11_59 dX11_often_91 ?_
    refine L_i6 dX11_often_94 ?_
    refine AR_49 dX11_often_96 (by omega) ?_
    refine J_eqi (b := ((L.getD i []).length : Int)) e49 ?_
    refine J_icmp_ge 159 dX11_often_97 rfl (by omega) (by omega) (fun c97 => ?_) (fun c97 => ?_)
    · refine L_a0 dX11_often_159 ?_
      refine GW_36_29 fX11_59 dX11_often_160 ?_
      refine L_i6 dX11_often_163 ?_
      refine L_i7 dX11_often_165 ?_
      refine AS_49 dX11_often_167 (by omega) ?_
      refine L_a0 dX11_often_168 ?_
      refine J_iconst dX11_often_169 ?_
      refine J_eqi (b := ((0 : Nat) : Int)) rfl ?_
      refine J_iconst dX11_often_170 ?_
      refine C_v2L vX11_420 dX11_often_171 (qX11_fitted (T := upS T1 49 (up (T1 49) i (acc.length : Int))) (u := 0) (ofL_PB hPB) hpo hfm (by decide) hal) rfl rfl (Nat.le_of_ble_eq_true rfl) (by decide) (fun v171 hp171 hq171 => ?_)
      exact RQ_l rfl dX11_often_174 (by obtain ⟨h1, T3, e2, hF3⟩ := hq171; exact ⟨by rw [h1, if_pos rfl], T3, e2, hSF.trans (hf2.trans hF3.sf)⟩)
    · exfalso; omega
  | cons x os'' ih =>
    intro o acc T1 hF ho hao hmB f1 h1 h2 h3
    rw [List.length_cons] at ho
    have hx := hmB x List.mem_cons_self
    have e48 := h2 0 (by rw [List.length_cons]; omega)
    rw [Nat.add_zero] at e48
    have e48 : T1 48 (16 * (i : Int) + (o : Int)) = (x : Int) := e48
    have hbx : (x : Int) / 2 ^ pl.toNat % 2 = 1 ↔ x.testBit pl.toNat = true := bt_has (s := (x : Int)) (k := pl) (by omega)
    rw [filt_cons] at hF
    have hl8 := hPB.1
    have hPBi := hPB.2 i hin
    have hPOi := hPO i hin
    have e49 : T1 49 i = ((L.getD i []).length : Int) := by rw [f1 49 (by decide)]; exact hPOi.1
    refine L_i8 dX11_often_88 ?_
    refine L_a0 dX11_often_90 ?_
    refine GW_36_29 fX11_59 dX11_often_91 ?_
    refine L_i6 dX11_often_94 ?_
    refine AR_49 dX11_often_96 (by omega) ?_
    refine J_eqi (b := ((L.getD i []).length : Int)) e49 ?_
    refine J_icmp_ge 159 dX11_often_97 rfl (by omega) (by omega) (fun c97 => ?_) (fun c97 => ?_)
    · exfalso; omega
    · refine L_a0 dX11_often_100 ?_
      refine GW_36_28 fX11_56 dX11_often_101 ?_
      refine J_bipush dX11_often_104 (by decide) ?_
      refine L_i6 dX11_often_106 ?_
      refine J_imul dX11_often_108 ?_
      refine L_i8 dX11_often_109 ?_
      refine J_iadd dX11_often_111 ?_
      refine AR_48 dX11_often_112 (by omega) ?_
      refine J_eqi (b := (x : Int)) e48 ?_
      refine L_i4 dX11_often_113 ?_
      refine C_s2F vX11_251 dX11_often_115 (qX11_has (by omega) (by omega)) (Nat.le_of_ble_eq_true rfl) (by decide) ?_
      refine J_ifneB 124 dX11_often_118 rfl (fun c118 => ?_) (fun c118 => ?_)
      · refine L_a0 dX11_often_124 ?_
        refine GW_36_28 fX11_56 dX11_often_125 ?_
        refine J_bipush dX11_often_128 (by decide) ?_
        refine L_i6 dX11_often_130 ?_
        refine J_imul dX11_often_132 ?_
        refine L_i7 dX11_often_133 ?_
        refine J_iadd dX11_often_135 ?_
        refine L_a0 dX11_often_136 ?_
        refine GW_36_28 fX11_56 dX11_often_137 ?_
        refine J_bipush dX11_often_140 (by decide) ?_
        refine L_i6 dX11_often_142 ?_
        refine J_imul dX11_often_144 ?_
        refine L_i8 dX11_often_145 ?_
        refine J_iadd dX11_often_147 ?_
        refine AR_48 dX11_often_148 (by omega) ?_
        refine J_eqi (b := (x : Int)) e48 ?_
        refine AS_48 dX11_often_149 (by omega) ?_
        refine JI_7 dX11_often_150 (by decide) rfl ?_
        refine JI_8 dX11_often_153 (by decide) rfl ?_
        refine E_goto 88 dX11_often_156 rfl ?_
        rw [if_pos (hbx.mp c118)] at hF
        have hlen : ((acc.length : Int) + 1) = (((acc ++ [x]).length : Nat) : Int) := by rw [List.length_append]; rfl
        refine E_eq (lv' := [.ref 36, .int (jI s), .int (jI g), .int (jI n), .int (jI pl), .int (jI k), .int (jI (i : Int)), .int (jI (((acc ++ [x]).length : Nat) : Int)), .int (jI ((o + 1 : Nat) : Int))]) rfl (by rw [← hlen]; rfl) rfl rfl ?_
        refine ih (o + 1) (acc ++ [x]) _ (by rw [← hF, List.append_assoc]; rfl) (by omega) (by rw [List.length_append]; exact Nat.succ_le_succ hao) (fun m hm => hmB m (List.mem_cons_of_mem _ hm)) (f1.trans (Fr_up _ _ (by decide))) (fun j hj => ?_) (fun j hj => ?_) (fun z hz => ?_)
        · rw [upS_s]
          rw [List.length_append] at hj
          have hj : j < acc.length + 1 := hj
          by_cases e : j = acc.length
          · subst e
            rw [up_s, getD_append_r]
          · rw [up_n (by omega), getD_append_l (by omega)]
            exact h1 j (by omega)
        · have := h2 (j + 1) (by rw [List.length_cons]; omega)
          rw [upS_s, up_n (by omega), show o + 1 + j = o + (j + 1) by omega]
          exact this
        · rw [upS_s, up_n (by omega)]
          exact h3 z hz
      · refine E_goto 153 dX11_often_121 rfl ?_
        refine JI_8 dX11_often_153 (by decide) rfl ?_
        refine E_goto 88 dX11_often_156 rfl ?_
        rw [if_neg (fun h => absurd (hbx.mpr h) c118)] at hF
        exact ih (o + 1) acc T1 hF (by omega) (by omega) (fun m hm => hmB m (List.mem_cons_of_mem _ hm)) f1 h1 (fun j hj => by
          have := h2 (j + 1) (by rw [List.length_cons]; omega)
          rw [show o + 1 + j = o + (j + 1) by omega]
          exact this) h3
set_option maxRecDepth 100000 in
theorem lX11_often1 {E : mx_E} {S T : Nat → Int → Int} {D : List mx_C} {T2 : Nat → Int → Int} {s g n pl k : Int} {i : Nat} {L : List (List Nat)} (hSF : SF T T2) (hPB : PB L) (hPO : PO T2 L L.length) (hmm : T2 36 32 = (L.length : Int)) (hin : i < L.length) (h_pl : 0 ≤ pl ∧ pl ≤ 15) {ms : List Nat} (h_47 : ∀ i : Nat, i < ms.length → T2 47 i = ((ms.getD i 0 : Nat) : Int)) (hml : ms.length = L.length) (hms : ∀ q : Nat, q < ms.length → ms.getD q 0 < 8) (hk : 0 ≤ k ∧ k ≤ 7) (hx1 : ms.getD i 0 = k.toNat) (hx2 : ∀ j : Nat, j < i → ¬ ms.getD j 0 = k.toNat) {u7 u8 : Value} (hu7 : u7.category = 1) (hu8 : u8.category = 1) : ∀ (m : Nat) (i1 : Int), i1 + m = i → 0 ≤ i1 → Ev E yX11_often cX11_often 9 (some .long) (kL E 11 (fun v hp' => v = ((wy (ofL L i pl.toNat) 0).length : Int) ∧ ∃ T', hp' = W5 S T' D ∧ SF T T')) 0 0 64 [.ref 36, .int (jI s), .int (jI g), .int (jI n), .int (jI pl), .int (jI k), .int (jI i1), u7, u8] [] (W5 S T2 D) := by
  intro m
  induction m with
  | zero =>
    intro i1 him hi0
    have hl8 := hPB.1
    obtain ⟨q, rfl⟩ : ∃ q : Nat, i1 = q := ⟨i1.toNat, by omega⟩
    have h47 := h_47 q (by omega)
    have hmk : ms.getD q 0 < 8 := hms q (by omega)
    refine L_a0 dX11_often_64 ?_
    refine GW_36_27 fX11_53 dX11_often_65 ?_
    refine L_i6 dX11_often_68 ?_
    refine AR_47 dX11_often_70 (by omega) ?_
    refine J_eqi (b := ((ms.getD q 0 : Nat) : Int)) h47 ?_
    refine L_i5 dX11_often_71 ?_
    refine J_icmp_eq 82 dX11_often_73 rfl (by omega) (by omega) (fun c73 => ?_) (fun c73 => ?_)
    · refine J_iconst dX11_often_82 ?_
      refine S_i7 dX11_often_83 (by decide) rfl ?_
      refine J_iconst dX11_often_85 ?_
      refine S_i8 dX11_often_86 (by decide) rfl ?_
      obtain rfl : q = i := by omega
      exact lX11_often2 hSF hPB hPO hmm hin h_pl (L.getD q []) 0 [] T2 rfl (by omega) (by simp) (hPB.2 q hin).2 (Fr.refl _ _) (fun j hj => absurd hj (Nat.not_lt_zero _)) (fun j hj => by rw [Nat.zero_add]; exact (hPO q hin).2 j hj) (fun _ _ => rfl)
    · exfalso; apply c73; rw [show q = i by omega, hx1]; omega
  | succ m ih =>
    intro i1 him hi0
    have hl8 := hPB.1
    obtain ⟨q, rfl⟩ : ∃ q : Nat, i1 = q := ⟨i1.toNat, by omega⟩
    have h47 := h_47 q (by omega)
    have hmk : ms.getD q 0 < 8 := hms q (by omega)
    refine L_a0 dX11_often_64 ?_
    refine GW_36_27 fX11_53 dX11_often_65 ?_
    refine L_i6 dX11_often_68 ?_
    refine AR_47 dX11_often_70 (by omega) ?_
    refine J_eqi (b := ((ms.getD q 0 : Nat) : Int)) h47 ?_
    refine L_i5 dX11_often_71 ?_
    refine J_icmp_eq 82 dX11_often_73 rfl (by omega) (by omega) (fun c73 => ?_) (fun c73 => ?_)
    · exfalso; exact hx2 q (by omega) (by omega)
    · refine JI_6 dX11_often_76 (by decide) rfl ?_
      refine E_goto 64 dX11_often_79 rfl ?_
      exact ih _ (by omega) (by omega)

set_option maxRecDepth 100000 in
theorem qX11_often {S T : Nat → Int → Int} {D : List mx_C} (hi : MI T) {s : Int} (h_s : -2147483648 ≤ s ∧ s < 2147483648) {g : Int} (h_g : -2147483648 ≤ g ∧ g < 2147483648) {n : Int} (h_n : -2147483648 ≤ n ∧ n < 2147483648) {pl : Int} (h_pl : -2147483648 ≤ pl ∧ pl < 2147483648) : SpL yX11_often cX11_often 9 (some .long) 11 [.ref 36, .int (jI s), .int (jI g), .int (jI n), .int (jI pl)] (W5 S T D) (fun v hp' => v = (if isRow s g ∧ (0 ≤ wr1 n ∧ wr1 n ≤ 7) ∧ s / 2 ^ (wr1 n).toNat % 2 = 1 ∧ (0 ≤ pl ∧ pl ≤ 2 * pc s + g - 1) then ((wy (ofL (opL (T 37) (T 39) s.toNat (2 * pc s + g).toNat 2) (ixo (wr1 n).toNat (mem s.toNat)) pl.toNat) 0).length : Int) else -1) ∧ ∃ T', hp' = W5 S T' D ∧ SF T T') := by
  have hw1 := wr1_B h_n
  have hpb := pc_B s
  refine Sp.of [.ref 36, .int (jI s), .int (jI g), .int (jI n), .int (jI pl), .retAddr 0, .retAddr 0, .retAddr 0, .retAddr 0] (by decide) (by simp) (Nat.le_of_ble_eq_true rfl) rfl (fun E => ?_)
  refine L_i3 dX11_often_0 ?_
  refine J_iconst dX11_often_1 ?_
  refine J_isub dX11_often_2 ?_
  refine J_wr1 ?_
  refine S_i5 dX11_often_3 (by decide) rfl ?_
  refine L_i1 dX11_often_5 ?_
  refine L_i2 dX11_often_6 ?_
  refine C_s2F vX11_424 dX11_often_7 (qX11_isRowOf (by omega) (by omega)) (Nat.le_of_ble_eq_true rfl) (by decide) ?_
  refine J_ifeqB 46 dX11_often_10 rfl (fun c10 => ?_) (fun c10 => ?_)
  · refine J_ldc2 (-1) dX11_often_46 kX11_431 (by decide) ?_
    exact RQ_l rfl dX11_often_49 ⟨by rw [if_neg (fun h => by omega)], T, rfl, SF.refl T⟩
  · refine L_i5 dX11_often_13 ?_
    refine C_s1F vX11_87 dX11_often_15 (qX11_isNumber (by omega)) (Nat.le_of_ble_eq_true rfl) (by decide) ?_
    refine J_ifeqB 46 dX11_often_18 rfl (fun c18 => ?_) (fun c18 => ?_)
    · refine J_ldc2 (-1) dX11_often_46 kX11_431 (by decide) ?_
      exact RQ_l rfl dX11_often_49 ⟨by rw [if_neg (fun h => by omega)], T, rfl, SF.refl T⟩
    · refine L_i1 dX11_often_21 ?_
      refine L_i5 dX11_often_22 ?_
      refine C_s2F vX11_251 dX11_often_24 (qX11_has (by omega) (by omega)) (Nat.le_of_ble_eq_true rfl) (by decide) ?_
      refine J_ifeqB 46 dX11_often_27 rfl (fun c27 => ?_) (fun c27 => ?_)
      · refine J_ldc2 (-1) dX11_often_46 kX11_431 (by decide) ?_
        exact RQ_l rfl dX11_often_49 ⟨by rw [if_neg (fun h => by omega)], T, rfl, SF.refl T⟩
      · refine L_i4 dX11_often_30 ?_
        refine J_iconst dX11_often_32 ?_
        refine L_i1 dX11_often_33 ?_
        refine L_i2 dX11_often_34 ?_
        refine C_s2F vX11_414 dX11_often_35 (qX11_longOf (by omega)) (Nat.le_of_ble_eq_true rfl) (by decide) ?_
        refine J_iconst dX11_often_38 ?_
        refine J_isub dX11_often_39 ?_
        refine C_s3F vX11_83 dX11_often_40 (qX11_isIn (by omega) (by omega) (by omega)) (Nat.le_of_ble_eq_true rfl) (by decide) ?_
        refine J_ifneB 50 dX11_often_43 rfl (fun c43 => ?_) (fun c43 => ?_)
        · refine L_a0 dX11_often_50 ?_
          refine L_i1 dX11_often_51 ?_
          refine L_i1 dX11_often_52 ?_
          refine L_i2 dX11_often_53 ?_
          refine C_s2F vX11_414 dX11_often_54 (qX11_longOf (by omega)) (Nat.le_of_ble_eq_true rfl) (by decide) ?_
          refine J_iconst dX11_often_57 ?_
          refine C_v3U vX11_417 dX11_often_58 (qX11_layOptions (e := 2) hi (by omega) (by omega) (by omega)) rfl rfl (Nat.le_of_ble_eq_true rfl) (by decide) (fun hp58 hq58 => ?_)
          obtain ⟨T58, rfl, hL58⟩ := hq58
          refine J_iconst dX11_often_61 ?_
          refine S_i6 dX11_often_62 (by decide) rfl ?_
          rw [if_pos ⟨c10, c18, c27, c43⟩]
          have hxs := ixo_spec (mem_of_bit (s := s) c18 ((bt_has (by omega)).mp c27))
          have hPB := opL_PB (a := T 37) (c := T 39) (s := s.toNat) (pl := (2 * pc s + g).toNat) (e := 2) (by omega) (by omega)
          have hol := opL_len (T 37) (T 39) s.toNat (2 * pc s + g).toNat 2
          exact lX11_often1 hL58.sf hPB hL58.po hL58.mm (by omega) (by omega) hL58.2.2.1 hol.symm (fun q hq => memN_lt (s := s.toNat) 8 _ (getD_mem (d := 0) hq)) c18 hxs.2.1 hxs.2.2 rfl rfl (ixo (wr1 n).toNat (mem s.toNat)) 0 (by omega) (by omega)
        · refine J_ldc2 (-1) dX11_often_46 kX11_431 (by decide) ?_
          exact RQ_l rfl dX11_often_49 ⟨by rw [if_neg (fun h => by omega)], T, rfl, SF.refl T⟩

