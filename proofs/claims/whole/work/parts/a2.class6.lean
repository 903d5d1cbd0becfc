/-! ===== the class: what a law is worth ===== -/
theorem W5_D (S T : Nat → Int → Int) (D : List mx_C) (i : Nat) : (W5 S T D)[i + 54]? = D[i]? := rfl
abbrev onS (s : Int) : Prop := s = 51 ∨ s = 23 ∨ s = 15 ∨ s = 16
def cst1 (f : Int → Int) (n s : Int) (st : List Int) : Option (List Int) := if 100 ≤ s then some ((s - 100) :: st) else if 8 ≤ s ∧ s ≤ 14 then some (cnm f n s :: st) else if s = 50 then (match st with | c :: b :: a :: r => some ((if a = 0 then c else b) :: r) | _ => none) else if onS s then (match st with | c :: r => some (cw1 f s c :: r) | [] => none) else (match st with | c :: b :: r => some (cw2 s b c :: r) | _ => none)
def crn (f : Int → Int) (n : Int) : List Int → List Int → Option (List Int)
  | [], st => some st
  | s :: l, st => (cst1 f n s st).bind (crn f n l)
abbrev VBs (st : List Int) : Prop := ∀ x ∈ st, -1000000 ≤ x ∧ x ≤ 1000000
theorem rw_latest_B {f : Int → Int} : 0 ≤ rw_latest f ∧ rw_latest f ≤ 15 := by
  have : ∀ (m : Nat) (k : Int), 0 ≤ lpR (rw_lag f) m k 0 ∧ lpR (rw_lag f) m k 0 ≤ 15 := by
    intro m
    induction m with
    | zero => intro k; show (0 : Int) ≤ 0 ∧ (0 : Int) ≤ 15; omega
    | succ m ih =>
      intro k
      rw [lpR]
      by_cases h : 24 - k < f 5 ∧ f (30 + (24 - k)) / 16 % 4 = 0
      · rw [show rw_lag f k = some (f (30 + (24 - k)) / 64 % 16) from if_pos h]
        show 0 ≤ f (30 + (24 - k)) / 64 % 16 ∧ f (30 + (24 - k)) / 64 % 16 ≤ 15
        omega
      · rw [show rw_lag f k = none from if_neg h]
        exact ih (k + 1)
  exact this 25 0
theorem cnm_B {f : Int → Int} (hv : RV f) {n : Int} (hn : 1 ≤ n ∧ n ≤ 8) (s : Int) : -1000000 ≤ cnm f n s ∧ cnm f n s ≤ 1000000 := by
  have h1 := rw_latest_B (f := f)
  have h2 := rw_since_B hv n
  have h3 := rw_first_B hv n
  have h4 := pc_B (f 3)
  have h5 := hv.2
  unfold cnm
  repeat' split
  all_goals omega
theorem cw1_B {f : Int → Int} {s v : Int} (h : -1000000 ≤ v ∧ v ≤ 1000000) : -1000000 ≤ cw1 f s v ∧ cw1 f s v ≤ 1000000 := by
  have h1 := jb_B (v = 0)
  have h2 := jb_B (rw_holds f v)
  have h3 := jb_B ((0 ≤ v ∧ v < f 0) ∧ f 4 / 2 ^ v.toNat % 2 = 0)
  unfold cw1
  repeat' split
  all_goals omega
theorem heldM_B (v : Int) : -1000000 ≤ heldI v (-1000000) 1000000 ∧ heldI v (-1000000) 1000000 ≤ 1000000 := heldI_B (by omega)
theorem cw2_B {s l r : Int} (h : -1000000 ≤ l ∧ l ≤ 1000000) : -1000000 ≤ cw2 s l r ∧ cw2 s l r ≤ 1000000 := by
  have h1 := jb_B (cwh s l r = true)
  unfold cw2
  split
  · exact heldM_B _
  · split
    · exact heldM_B _
    · split
      · exact heldM_B _
      · split
        · split
          · omega
          · exact tdiv_B h
        · omega
theorem lX2_worth {E : mx_E} {S T : Nat → Int → Int} {D : List mx_C} (hv : RV (S 14)) (hl : RLn (S 14)) {a b m : Nat} {fc : Int → Int} (hDa : D[a]? = some (ob 2 [.ref (b + 54)])) (hDb : D[b]? = some (ia m fc)) (hm : m ≤ 300) {n r : Int} (h_n : 1 ≤ n ∧ n ≤ 8) {rs : List Int} : ∀ (l : List Int) (i : Nat) (st : List Int) (t : Int) (S1 : Nat → Int → Int) (u6 : Value), u6.category = 1 → i + l.length = m → (∀ j : Nat, j < l.length → fc ((i : Int) + (j : Int)) = l.getD j 0) → (∀ x ∈ l, 0 ≤ x ∧ x ≤ 10099) → VBs st → st.length ≤ i → t = (st.length : Int) → PLd (S1 35) st → Fr [35] S S1 → crn (S 14) n l st = some (r :: rs) → Ev E yX2_worth cX2_worth 7 (some .int) (kI E 2 (fun v hp' => v = r ∧ ∃ S', hp' = W5 S' T D ∧ Fr [35] S S')) 0 0 6 [.ref (a + 54), .ref 13, .int (jI n), .ref 35, .int (jI t), .int (jI (i : Int)), u6] [] (W5 S1 T D) := by
  intro l
  induction l with
  | nil =>
    intro i st t S1 u6 hu6 him hfc hlB hvb hsi ht hPL hf hr
    have him : i + 0 = m := him
    have hst : st = r :: rs := Option.some.inj hr
    subst hst
    rw [List.length_cons] at ht hsi
    have e1 : S1 35 (t - 1) = r := by rw [show t - 1 = (rs.length : Int) by omega]; exact hPL.1
    refine L_i5 dX2_worth_6 ?_
    refine L_a0 dX2_worth_8 ?_
    refine E_getf fX2_7 dX2_worth_9 (by rw [W5_D]; exact hDa) rfl ?_
    refine J_alen dX2_worth_12 (by rw [W5_D]; exact hDb) ?_
    refine J_icmp_ge 201 dX2_worth_13 rfl (by omega) (by omega) (fun c13 => ?_) (fun c13 => ?_)
    · refine L_i4 dX2_worth_201 ?_
      refine J_iconst dX2_worth_203 ?_
      refine J_icmp_lt 216 dX2_worth_204 rfl (by omega) (by omega) (fun c204 => ?_) (fun c204 => ?_)
      · exfalso; omega
      · refine L_a3 dX2_worth_207 ?_
        refine L_i4 dX2_worth_208 ?_
        refine J_iconst dX2_worth_210 ?_
        refine J_isub dX2_worth_211 ?_
        refine AR_35 dX2_worth_212 (by omega) ?_
        refine J_eqi (b := r) e1 ?_
        refine E_goto 217 dX2_worth_213 rfl ?_
        exact RQ_i rfl dX2_worth_217 ⟨rfl, S1, rfl, hf⟩
    · exfalso; omega
  | cons s l ih =>
    intro i st t S1 u6 hu6 him hfc hlB hvb hsi ht hPL hf hr
    rw [List.length_cons] at him
    have hsB := hlB s List.mem_cons_self
    have hfs : fc (i : Int) = s := by
      have := hfc 0 (by rw [List.length_cons]; omega)
      rw [show (i : Int) + ((0 : Nat) : Int) = (i : Int) by omega] at this
      exact this
    have hfc2 : ∀ j : Nat, j < l.length → fc (((i + 1 : Nat) : Int) + (j : Int)) = l.getD j 0 := fun j hj => by
      have := hfc (j + 1) (by rw [List.length_cons]; omega)
      rw [show ((i + 1 : Nat) : Int) + (j : Int) = (i : Int) + ((j + 1 : Nat) : Int) by omega]
      exact this
    have hlB2 : ∀ x ∈ l, 0 ≤ x ∧ x ≤ 10099 := fun x hx => hlB x (List.mem_cons_of_mem _ hx)
    have e14 : S1 14 = S 14 := hf 14 (by decide)
    have hv1 : RV (S1 14) := by rw [e14]; exact hv
    have hl1 : RLn (S1 14) := by rw [e14]; exact hl
    rw [crn] at hr
    unfold cst1 at hr
    by_cases hA : 100 ≤ s
    · rw [if_pos hA] at hr
      refine L_i5 dX2_worth_6 ?_
      refine L_a0 dX2_worth_8 ?_
      refine E_getf fX2_7 dX2_worth_9 (by rw [W5_D]; exact hDa) rfl ?_
      refine J_alen dX2_worth_12 (by rw [W5_D]; exact hDb) ?_
      refine J_icmp_ge 201 dX2_worth_13 rfl (by omega) (by omega) (fun c13 => ?_) (fun c13 => ?_)
      · exfalso; omega
      · refine L_i4 dX2_worth_16 ?_
        refine L_a3 dX2_worth_18 ?_
        refine AL_35 dX2_worth_19 ?_
        refine J_icmp_ge 201 dX2_worth_20 rfl (by omega) (by omega) (fun c20 => ?_) (fun c20 => ?_)
        · exfalso; omega
        · refine L_a0 dX2_worth_23 ?_
          refine E_getf fX2_7 dX2_worth_24 (by rw [W5_D]; exact hDa) rfl ?_
          refine L_i5 dX2_worth_27 ?_
          refine J_iald dX2_worth_29 (by rw [W5_D]; exact hDb) (by omega) (by omega) ?_
          refine J_eqi (b := s) hfs ?_
          refine S_i6 dX2_worth_30 (by decide) rfl ?_
          refine L_i6 dX2_worth_32 ?_
          refine J_bipush dX2_worth_34 (by decide) ?_
          refine J_icmp_lt 54 dX2_worth_36 rfl (by omega) (by omega) (fun c36 => ?_) (fun c36 => ?_)
          · exfalso; omega
          · refine L_a3 dX2_worth_39 ?_
            refine L_i4 dX2_worth_40 ?_
            refine L_i6 dX2_worth_42 ?_
            refine J_bipush dX2_worth_44 (by decide) ?_
            refine J_isub dX2_worth_46 ?_
            refine AS_35 dX2_worth_47 (by omega) ?_
            refine JI_4 dX2_worth_48 (by decide) rfl ?_
            refine E_goto 195 dX2_worth_51 rfl ?_
            refine JI_5 dX2_worth_195 (by decide) rfl ?_
            refine E_goto 6 dX2_worth_198 rfl ?_
            refine E_eq rfl (show _ = [.ref (a + 54), .ref 13, .int (jI n), .ref 35, .int (jI (t + 1)), .int (jI ((i + 1 : Nat) : Int)), .int (jI s)] from rfl) rfl rfl ?_
            refine ih (i + 1) ((s - 100) :: st) _ _ _ rfl (by omega) hfc2 hlB2 ?_ (by rw [List.length_cons]; omega) (by rw [List.length_cons]; omega) ?_ (hf.trans (Fr_up _ _ (by decide))) hr
            · intro x hx
              rcases List.mem_cons.mp hx with e | e
              · rw [e]; omega
              · exact hvb x (e)
            · rw [upS_s]
              rw [show t = ((st).length : Int) by omega]
              exact PLd_push hPL
    by_cases hN : 8 ≤ s ∧ s ≤ 14
    · rw [if_neg hA, if_pos hN] at hr
      have hnb := cnm_B hv h_n s
      refine L_i5 dX2_worth_6 ?_
      refine L_a0 dX2_worth_8 ?_
      refine E_getf fX2_7 dX2_worth_9 (by rw [W5_D]; exact hDa) rfl ?_
      refine J_alen dX2_worth_12 (by rw [W5_D]; exact hDb) ?_
      refine J_icmp_ge 201 dX2_worth_13 rfl (by omega) (by omega) (fun c13 => ?_) (fun c13 => ?_)
      · exfalso; omega
      · refine L_i4 dX2_worth_16 ?_
        refine L_a3 dX2_worth_18 ?_
        refine AL_35 dX2_worth_19 ?_
        refine J_icmp_ge 201 dX2_worth_20 rfl (by omega) (by omega) (fun c20 => ?_) (fun c20 => ?_)
        · exfalso; omega
        · refine L_a0 dX2_worth_23 ?_
          refine E_getf fX2_7 dX2_worth_24 (by rw [W5_D]; exact hDa) rfl ?_
          refine L_i5 dX2_worth_27 ?_
          refine J_iald dX2_worth_29 (by rw [W5_D]; exact hDb) (by omega) (by omega) ?_
          refine J_eqi (b := s) hfs ?_
          refine S_i6 dX2_worth_30 (by decide) rfl ?_
          refine L_i6 dX2_worth_32 ?_
          refine J_bipush dX2_worth_34 (by decide) ?_
          refine J_icmp_lt 54 dX2_worth_36 rfl (by omega) (by omega) (fun c36 => ?_) (fun c36 => ?_)
          · refine L_i6 dX2_worth_54 ?_
            refine C_s1F vX2_13 dX2_worth_56 (qX6_isName (by omega)) (Nat.le_of_ble_eq_true rfl) (by decide) ?_
            refine J_ifeqB 79 dX2_worth_59 rfl (fun c59 => ?_) (fun c59 => ?_)
            · exact absurd hN c59
            · refine L_a3 dX2_worth_62 ?_
              refine L_i4 dX2_worth_63 ?_
              refine L_i6 dX2_worth_65 ?_
              refine L_a1 dX2_worth_67 ?_
              refine L_i2 dX2_worth_68 ?_
              refine C_s3F vX2_19 dX2_worth_69 (qX2_named hv1 hl1 (by omega) h_n) (Nat.le_of_ble_eq_true rfl) (by decide) ?_
              refine J_eqi (b := cnm (S 14) n s) (by rw [e14]) ?_
              refine AS_35 dX2_worth_72 (by omega) ?_
              refine JI_4 dX2_worth_73 (by decide) rfl ?_
              refine E_goto 195 dX2_worth_76 rfl ?_
              refine JI_5 dX2_worth_195 (by decide) rfl ?_
              refine E_goto 6 dX2_worth_198 rfl ?_
              refine E_eq rfl (show _ = [.ref (a + 54), .ref 13, .int (jI n), .ref 35, .int (jI (t + 1)), .int (jI ((i + 1 : Nat) : Int)), .int (jI s)] from rfl) rfl rfl ?_
              refine ih (i + 1) ((cnm (S 14) n s) :: st) _ _ _ rfl (by omega) hfc2 hlB2 ?_ (by rw [List.length_cons]; omega) (by rw [List.length_cons]; omega) ?_ (hf.trans (Fr_up _ _ (by decide))) hr
              · intro x hx
                rcases List.mem_cons.mp hx with e | e
                · rw [e]; exact hnb
                · exact hvb x (e)
              · rw [upS_s]
                rw [show t = ((st).length : Int) by omega]
                exact PLd_push hPL
          · exfalso; omega
    by_cases hP : s = 50
    · rw [if_neg hA, if_neg hN, if_pos hP] at hr
      match st, hvb, hsi, ht, hPL, hr with
      | zc :: zb :: za :: rest, hvb, hsi, ht, hPL, hr =>
        rw [List.length_cons, List.length_cons, List.length_cons] at ht hsi
        have hcB := hvb zc (by simp)
        have hbB := hvb zb (by simp)
        have haB := hvb za (by simp)
        have e1 : S1 35 (t - 1) = zc := by rw [show t - 1 = ((zb :: za :: rest).length : Int) by rw [List.length_cons, List.length_cons]; omega]; exact hPL.1
        have e2 : S1 35 (t - 2) = zb := by rw [show t - 2 = ((za :: rest).length : Int) by rw [List.length_cons]; omega]; exact hPL.2.1
        have e3 : S1 35 (t - 3) = za := by rw [show t - 3 = (rest.length : Int) by omega]; exact hPL.2.2.1
        have hPr := hPL.2.2.2
        have hr : crn (S 14) n l ((if za = 0 then zc else zb) :: rest) = some (r :: rs) := hr
        refine L_i5 dX2_worth_6 ?_
        refine L_a0 dX2_worth_8 ?_
        refine E_getf fX2_7 dX2_worth_9 (by rw [W5_D]; exact hDa) rfl ?_
        refine J_alen dX2_worth_12 (by rw [W5_D]; exact hDb) ?_
        refine J_icmp_ge 201 dX2_worth_13 rfl (by omega) (by omega) (fun c13 => ?_) (fun c13 => ?_)
        · exfalso; omega
        · refine L_i4 dX2_worth_16 ?_
          refine L_a3 dX2_worth_18 ?_
          refine AL_35 dX2_worth_19 ?_
          refine J_icmp_ge 201 dX2_worth_20 rfl (by omega) (by omega) (fun c20 => ?_) (fun c20 => ?_)
          · exfalso; omega
          · refine L_a0 dX2_worth_23 ?_
            refine E_getf fX2_7 dX2_worth_24 (by rw [W5_D]; exact hDa) rfl ?_
            refine L_i5 dX2_worth_27 ?_
            refine J_iald dX2_worth_29 (by rw [W5_D]; exact hDb) (by omega) (by omega) ?_
            refine J_eqi (b := s) hfs ?_
            refine S_i6 dX2_worth_30 (by decide) rfl ?_
            refine L_i6 dX2_worth_32 ?_
            refine J_bipush dX2_worth_34 (by decide) ?_
            refine J_icmp_lt 54 dX2_worth_36 rfl (by omega) (by omega) (fun c36 => ?_) (fun c36 => ?_)
            · refine L_i6 dX2_worth_54 ?_
              refine C_s1F vX2_13 dX2_worth_56 (qX6_isName (by omega)) (Nat.le_of_ble_eq_true rfl) (by decide) ?_
              refine J_ifeqB 79 dX2_worth_59 rfl (fun c59 => ?_) (fun c59 => ?_)
              · refine L_i6 dX2_worth_79 ?_
                refine J_bipush dX2_worth_81 (by decide) ?_
                refine J_icmp_ne 128 dX2_worth_83 rfl (by omega) (by omega) (fun c83 => ?_) (fun c83 => ?_)
                · exfalso; omega
                · refine L_i4 dX2_worth_86 ?_
                  refine J_iconst dX2_worth_88 ?_
                  refine J_icmp_lt 128 dX2_worth_89 rfl (by omega) (by omega) (fun c89 => ?_) (fun c89 => ?_)
                  · exfalso; omega
                  · refine L_a3 dX2_worth_92 ?_
                    refine L_i4 dX2_worth_93 ?_
                    refine J_iconst dX2_worth_95 ?_
                    refine J_isub dX2_worth_96 ?_
                    refine L_a3 dX2_worth_97 ?_
                    refine L_i4 dX2_worth_98 ?_
                    refine J_iconst dX2_worth_100 ?_
                    refine J_isub dX2_worth_101 ?_
                    refine AR_35 dX2_worth_102 (by omega) ?_
                    refine J_eqi (b := za) e3 ?_
                    refine J_if_eq 115 dX2_worth_103 rfl (by omega) (fun c103 => ?_) (fun c103 => ?_)
                    · refine L_a3 dX2_worth_115 ?_
                      refine L_i4 dX2_worth_116 ?_
                      refine J_iconst dX2_worth_118 ?_
                      refine J_isub dX2_worth_119 ?_
                      refine AR_35 dX2_worth_120 (by omega) ?_
                      refine J_eqi (b := zc) e1 ?_
                      refine AS_35 dX2_worth_121 (by omega) ?_
                      refine JI_4 dX2_worth_122 (by decide) rfl ?_
                      refine E_goto 195 dX2_worth_125 rfl ?_
                      refine JI_5 dX2_worth_195 (by decide) rfl ?_
                      refine E_goto 6 dX2_worth_198 rfl ?_
                      refine E_eq rfl (show _ = [.ref (a + 54), .ref 13, .int (jI n), .ref 35, .int (jI (t + -2)), .int (jI ((i + 1 : Nat) : Int)), .int (jI s)] from rfl) rfl rfl ?_
                      refine ih (i + 1) (zc :: rest) _ _ _ rfl (by omega) hfc2 hlB2 ?_ (by rw [List.length_cons]; omega) (by rw [List.length_cons]; omega) ?_ (hf.trans (Fr_up _ _ (by decide))) (by rw [if_pos c103] at hr; exact hr)
                      · intro x hx
                        rcases List.mem_cons.mp hx with e | e
                        · rw [e]; exact hcB
                        · exact hvb x (by simp [e])
                      · rw [upS_s]
                        rw [show t - 3 = ((rest).length : Int) by omega]
                        exact PLd_push hPr
                    · refine L_a3 dX2_worth_106 ?_
                      refine L_i4 dX2_worth_107 ?_
                      refine J_iconst dX2_worth_109 ?_
                      refine J_isub dX2_worth_110 ?_
                      refine AR_35 dX2_worth_111 (by omega) ?_
                      refine J_eqi (b := zb) e2 ?_
                      refine E_goto 121 dX2_worth_112 rfl ?_
                      refine AS_35 dX2_worth_121 (by omega) ?_
                      refine JI_4 dX2_worth_122 (by decide) rfl ?_
                      refine E_goto 195 dX2_worth_125 rfl ?_
                      refine JI_5 dX2_worth_195 (by decide) rfl ?_
                      refine E_goto 6 dX2_worth_198 rfl ?_
                      refine E_eq rfl (show _ = [.ref (a + 54), .ref 13, .int (jI n), .ref 35, .int (jI (t + -2)), .int (jI ((i + 1 : Nat) : Int)), .int (jI s)] from rfl) rfl rfl ?_
                      refine ih (i + 1) (zb :: rest) _ _ _ rfl (by omega) hfc2 hlB2 ?_ (by rw [List.length_cons]; omega) (by rw [List.length_cons]; omega) ?_ (hf.trans (Fr_up _ _ (by decide))) (by rw [if_neg c103] at hr; exact hr)
                      · intro x hx
                        rcases List.mem_cons.mp hx with e | e
                        · rw [e]; exact hbB
                        · exact hvb x (by simp [e])
                      · rw [upS_s]
                        rw [show t - 3 = ((rest).length : Int) by omega]
                        exact PLd_push hPr
              · exfalso; omega
            · exfalso; omega
      | [], _, _, _, _, hr => exact absurd hr (by simp)
      | [_], _, _, _, _, hr => exact absurd hr (by simp)
      | [_, _], _, _, _, _, hr => exact absurd hr (by simp)
    by_cases hO : onS s
    · rw [if_neg hA, if_neg hN, if_neg hP, if_pos hO] at hr
      match st, hvb, hsi, ht, hPL, hr with
      | zc :: rest, hvb, hsi, ht, hPL, hr =>
        rw [List.length_cons] at ht hsi
        have hcB := hvb zc (by simp)
        have e1 : S1 35 (t - 1) = zc := by rw [show t - 1 = (rest.length : Int) by omega]; exact hPL.1
        have hPr := hPL.2
        have hr : crn (S 14) n l (cw1 (S 14) s zc :: rest) = some (r :: rs) := hr
        have hwB := cw1_B (f := S 14) (s := s) hcB
        rcases hO with rfl | rfl | rfl | rfl
        · refine L_i5 dX2_worth_6 ?_
          refine L_a0 dX2_worth_8 ?_
          refine E_getf fX2_7 dX2_worth_9 (by rw [W5_D]; exact hDa) rfl ?_
          refine J_alen dX2_worth_12 (by rw [W5_D]; exact hDb) ?_
          refine J_icmp_ge 201 dX2_worth_13 rfl (by omega) (by omega) (fun c13 => ?_) (fun c13 => ?_)
          · exfalso; omega
          · refine L_i4 dX2_worth_16 ?_
            refine L_a3 dX2_worth_18 ?_
            refine AL_35 dX2_worth_19 ?_
            refine J_icmp_ge 201 dX2_worth_20 rfl (by omega) (by omega) (fun c20 => ?_) (fun c20 => ?_)
            · exfalso; omega
            · refine L_a0 dX2_worth_23 ?_
              refine E_getf fX2_7 dX2_worth_24 (by rw [W5_D]; exact hDa) rfl ?_
              refine L_i5 dX2_worth_27 ?_
              refine J_iald dX2_worth_29 (by rw [W5_D]; exact hDb) (by omega) (by omega) ?_
              refine J_eqi (b := 51) hfs ?_
              refine S_i6 dX2_worth_30 (by decide) rfl ?_
              refine L_i6 dX2_worth_32 ?_
              refine J_bipush dX2_worth_34 (by decide) ?_
              refine J_icmp_lt 54 dX2_worth_36 rfl (by omega) (by omega) (fun c36 => ?_) (fun c36 => ?_)
              · refine L_i6 dX2_worth_54 ?_
                refine C_s1F vX2_13 dX2_worth_56 (qX6_isName (by decide)) (Nat.le_of_ble_eq_true rfl) (by decide) ?_
                refine J_ifeqB 79 dX2_worth_59 rfl (fun c59 => ?_) (fun c59 => ?_)
                · refine L_i6 dX2_worth_79 ?_
                  refine J_bipush dX2_worth_81 (by decide) ?_
                  refine J_icmp_ne 128 dX2_worth_83 rfl (by omega) (by omega) (fun c83 => ?_) (fun c83 => ?_)
                  · refine L_i6 dX2_worth_128 ?_
                    refine C_s1F vX2_23 dX2_worth_130 (qX2_takesOne (by decide)) (Nat.le_of_ble_eq_true rfl) (by decide) ?_
                    refine J_ifeqB 163 dX2_worth_133 rfl (fun c133 => ?_) (fun c133 => ?_)
                    · exfalso; exact c133 (by decide)
                    · refine L_i4 dX2_worth_136 ?_
                      refine J_iconst dX2_worth_138 ?_
                      refine J_icmp_lt 163 dX2_worth_139 rfl (by omega) (by omega) (fun c139 => ?_) (fun c139 => ?_)
                      · exfalso; omega
                      · refine L_a3 dX2_worth_142 ?_
                        refine L_i4 dX2_worth_143 ?_
                        refine J_iconst dX2_worth_145 ?_
                        refine J_isub dX2_worth_146 ?_
                        refine L_i6 dX2_worth_147 ?_
                        refine L_a3 dX2_worth_149 ?_
                        refine L_i4 dX2_worth_150 ?_
                        refine J_iconst dX2_worth_152 ?_
                        refine J_isub dX2_worth_153 ?_
                        refine AR_35 dX2_worth_154 (by omega) ?_
                        refine J_eqi (b := zc) e1 ?_
                        refine L_a1 dX2_worth_155 ?_
                        refine C_s3F vX2_26 dX2_worth_156 (qX2_ofOne51 (S := S1) hv1 hcB) (Nat.le_of_ble_eq_true rfl) (by decide) ?_
                        refine J_eqi (b := cw1 (S 14) 51 zc) (by rw [e14]) ?_
                        refine AS_35 dX2_worth_159 (by omega) ?_
                        refine E_goto 195 dX2_worth_160 rfl ?_
                        refine JI_5 dX2_worth_195 (by decide) rfl ?_
                        refine E_goto 6 dX2_worth_198 rfl ?_
                        refine E_eq rfl (show _ = [.ref (a + 54), .ref 13, .int (jI n), .ref 35, .int (jI (t)), .int (jI ((i + 1 : Nat) : Int)), .int (jI 51)] from rfl) rfl rfl ?_
                        refine ih (i + 1) ((cw1 (S 14) 51 zc) :: rest) _ _ _ rfl (by omega) hfc2 hlB2 ?_ (by rw [List.length_cons]; omega) (by rw [List.length_cons]; omega) ?_ (hf.trans (Fr_up _ _ (by decide))) hr
                        · intro x hx
                          rcases List.mem_cons.mp hx with e | e
                          · rw [e]; exact hwB
                          · exact hvb x (by simp [e])
                        · rw [upS_s]
                          rw [show t - 1 = ((rest).length : Int) by omega]
                          exact PLd_push hPr
                  · exfalso; exact absurd c83 (by decide)
                · exfalso; exact absurd c59 (by decide)
              · exfalso; exact absurd c36 (by decide)
        · refine L_i5 dX2_worth_6 ?_
          refine L_a0 dX2_worth_8 ?_
          refine E_getf fX2_7 dX2_worth_9 (by rw [W5_D]; exact hDa) rfl ?_
          refine J_alen dX2_worth_12 (by rw [W5_D]; exact hDb) ?_
          refine J_icmp_ge 201 dX2_worth_13 rfl (by omega) (by omega) (fun c13 => ?_) (fun c13 => ?_)
          · exfalso; omega
          · refine L_i4 dX2_worth_16 ?_
            refine L_a3 dX2_worth_18 ?_
            refine AL_35 dX2_worth_19 ?_
            refine J_icmp_ge 201 dX2_worth_20 rfl (by omega) (by omega) (fun c20 => ?_) (fun c20 => ?_)
            · exfalso; omega
            · refine L_a0 dX2_worth_23 ?_
              refine E_getf fX2_7 dX2_worth_24 (by rw [W5_D]; exact hDa) rfl ?_
              refine L_i5 dX2_worth_27 ?_
              refine J_iald dX2_worth_29 (by rw [W5_D]; exact hDb) (by omega) (by omega) ?_
              refine J_eqi (b := 23) hfs ?_
              refine S_i6 dX2_worth_30 (by decide) rfl ?_
              refine L_i6 dX2_worth_32 ?_
              refine J_bipush dX2_worth_34 (by decide) ?_
              refine J_icmp_lt 54 dX2_worth_36 rfl (by omega) (by omega) (fun c36 => ?_) (fun c36 => ?_)
              · refine L_i6 dX2_worth_54 ?_
                refine C_s1F vX2_13 dX2_worth_56 (qX6_isName (by decide)) (Nat.le_of_ble_eq_true rfl) (by decide) ?_
                refine J_ifeqB 79 dX2_worth_59 rfl (fun c59 => ?_) (fun c59 => ?_)
                · refine L_i6 dX2_worth_79 ?_
                  refine J_bipush dX2_worth_81 (by decide) ?_
                  refine J_icmp_ne 128 dX2_worth_83 rfl (by omega) (by omega) (fun c83 => ?_) (fun c83 => ?_)
                  · refine L_i6 dX2_worth_128 ?_
                    refine C_s1F vX2_23 dX2_worth_130 (qX2_takesOne (by decide)) (Nat.le_of_ble_eq_true rfl) (by decide) ?_
                    refine J_ifeqB 163 dX2_worth_133 rfl (fun c133 => ?_) (fun c133 => ?_)
                    · exfalso; exact c133 (by decide)
                    · refine L_i4 dX2_worth_136 ?_
                      refine J_iconst dX2_worth_138 ?_
                      refine J_icmp_lt 163 dX2_worth_139 rfl (by omega) (by omega) (fun c139 => ?_) (fun c139 => ?_)
                      · exfalso; omega
                      · refine L_a3 dX2_worth_142 ?_
                        refine L_i4 dX2_worth_143 ?_
                        refine J_iconst dX2_worth_145 ?_
                        refine J_isub dX2_worth_146 ?_
                        refine L_i6 dX2_worth_147 ?_
                        refine L_a3 dX2_worth_149 ?_
                        refine L_i4 dX2_worth_150 ?_
                        refine J_iconst dX2_worth_152 ?_
                        refine J_isub dX2_worth_153 ?_
                        refine AR_35 dX2_worth_154 (by omega) ?_
                        refine J_eqi (b := zc) e1 ?_
                        refine L_a1 dX2_worth_155 ?_
                        refine C_s3F vX2_26 dX2_worth_156 (qX2_ofOne23 (S := S1) hv1 hcB) (Nat.le_of_ble_eq_true rfl) (by decide) ?_
                        refine J_eqi (b := cw1 (S 14) 23 zc) (by rw [e14]) ?_
                        refine AS_35 dX2_worth_159 (by omega) ?_
                        refine E_goto 195 dX2_worth_160 rfl ?_
                        refine JI_5 dX2_worth_195 (by decide) rfl ?_
                        refine E_goto 6 dX2_worth_198 rfl ?_
                        refine E_eq rfl (show _ = [.ref (a + 54), .ref 13, .int (jI n), .ref 35, .int (jI (t)), .int (jI ((i + 1 : Nat) : Int)), .int (jI 23)] from rfl) rfl rfl ?_
                        refine ih (i + 1) ((cw1 (S 14) 23 zc) :: rest) _ _ _ rfl (by omega) hfc2 hlB2 ?_ (by rw [List.length_cons]; omega) (by rw [List.length_cons]; omega) ?_ (hf.trans (Fr_up _ _ (by decide))) hr
                        · intro x hx
                          rcases List.mem_cons.mp hx with e | e
                          · rw [e]; exact hwB
                          · exact hvb x (by simp [e])
                        · rw [upS_s]
                          rw [show t - 1 = ((rest).length : Int) by omega]
                          exact PLd_push hPr
                  · exfalso; exact absurd c83 (by decide)
                · exfalso; exact absurd c59 (by decide)
              · exfalso; exact absurd c36 (by decide)
        · refine L_i5 dX2_worth_6 ?_
          refine L_a0 dX2_worth_8 ?_
          refine E_getf fX2_7 dX2_worth_9 (by rw [W5_D]; exact hDa) rfl ?_
          refine J_alen dX2_worth_12 (by rw [W5_D]; exact hDb) ?_
          refine J_icmp_ge 201 dX2_worth_13 rfl (by omega) (by omega) (fun c13 => ?_) (fun c13 => ?_)
          · exfalso; omega
          · refine L_i4 dX2_worth_16 ?_
            refine L_a3 dX2_worth_18 ?_
            refine AL_35 dX2_worth_19 ?_
            refine J_icmp_ge 201 dX2_worth_20 rfl (by omega) (by omega) (fun c20 => ?_) (fun c20 => ?_)
            · exfalso; omega
            · refine L_a0 dX2_worth_23 ?_
              refine E_getf fX2_7 dX2_worth_24 (by rw [W5_D]; exact hDa) rfl ?_
              refine L_i5 dX2_worth_27 ?_
              refine J_iald dX2_worth_29 (by rw [W5_D]; exact hDb) (by omega) (by omega) ?_
              refine J_eqi (b := 15) hfs ?_
              refine S_i6 dX2_worth_30 (by decide) rfl ?_
              refine L_i6 dX2_worth_32 ?_
              refine J_bipush dX2_worth_34 (by decide) ?_
              refine J_icmp_lt 54 dX2_worth_36 rfl (by omega) (by omega) (fun c36 => ?_) (fun c36 => ?_)
              · refine L_i6 dX2_worth_54 ?_
                refine C_s1F vX2_13 dX2_worth_56 (qX6_isName (by decide)) (Nat.le_of_ble_eq_true rfl) (by decide) ?_
                refine J_ifeqB 79 dX2_worth_59 rfl (fun c59 => ?_) (fun c59 => ?_)
                · refine L_i6 dX2_worth_79 ?_
                  refine J_bipush dX2_worth_81 (by decide) ?_
                  refine J_icmp_ne 128 dX2_worth_83 rfl (by omega) (by omega) (fun c83 => ?_) (fun c83 => ?_)
                  · refine L_i6 dX2_worth_128 ?_
                    refine C_s1F vX2_23 dX2_worth_130 (qX2_takesOne (by decide)) (Nat.le_of_ble_eq_true rfl) (by decide) ?_
                    refine J_ifeqB 163 dX2_worth_133 rfl (fun c133 => ?_) (fun c133 => ?_)
                    · exfalso; exact c133 (by decide)
                    · refine L_i4 dX2_worth_136 ?_
                      refine J_iconst dX2_worth_138 ?_
                      refine J_icmp_lt 163 dX2_worth_139 rfl (by omega) (by omega) (fun c139 => ?_) (fun c139 => ?_)
                      · exfalso; omega
                      · refine L_a3 dX2_worth_142 ?_
                        refine L_i4 dX2_worth_143 ?_
                        refine J_iconst dX2_worth_145 ?_
                        refine J_isub dX2_worth_146 ?_
                        refine L_i6 dX2_worth_147 ?_
                        refine L_a3 dX2_worth_149 ?_
                        refine L_i4 dX2_worth_150 ?_
                        refine J_iconst dX2_worth_152 ?_
                        refine J_isub dX2_worth_153 ?_
                        refine AR_35 dX2_worth_154 (by omega) ?_
                        refine J_eqi (b := zc) e1 ?_
                        refine L_a1 dX2_worth_155 ?_
                        refine C_s3F vX2_26 dX2_worth_156 (qX2_ofOne15 (S := S1) hv1 hcB) (Nat.le_of_ble_eq_true rfl) (by decide) ?_
                        refine J_eqi (b := cw1 (S 14) 15 zc) (by rw [e14]) ?_
                        refine AS_35 dX2_worth_159 (by omega) ?_
                        refine E_goto 195 dX2_worth_160 rfl ?_
                        refine JI_5 dX2_worth_195 (by decide) rfl ?_
                        refine E_goto 6 dX2_worth_198 rfl ?_
                        refine E_eq rfl (show _ = [.ref (a + 54), .ref 13, .int (jI n), .ref 35, .int (jI (t)), .int (jI ((i + 1 : Nat) : Int)), .int (jI 15)] from rfl) rfl rfl ?_
                        refine ih (i + 1) ((cw1 (S 14) 15 zc) :: rest) _ _ _ rfl (by omega) hfc2 hlB2 ?_ (by rw [List.length_cons]; omega) (by rw [List.length_cons]; omega) ?_ (hf.trans (Fr_up _ _ (by decide))) hr
                        · intro x hx
                          rcases List.mem_cons.mp hx with e | e
                          · rw [e]; exact hwB
                          · exact hvb x (by simp [e])
                        · rw [upS_s]
                          rw [show t - 1 = ((rest).length : Int) by omega]
                          exact PLd_push hPr
                  · exfalso; exact absurd c83 (by decide)
                · exfalso; exact absurd c59 (by decide)
              · exfalso; exact absurd c36 (by decide)
        · refine L_i5 dX2_worth_6 ?_
          refine L_a0 dX2_worth_8 ?_
          refine E_getf fX2_7 dX2_worth_9 (by rw [W5_D]; exact hDa) rfl ?_
          refine J_alen dX2_worth_12 (by rw [W5_D]; exact hDb) ?_
          refine J_icmp_ge 201 dX2_worth_13 rfl (by omega) (by omega) (fun c13 => ?_) (fun c13 => ?_)
          · exfalso; omega
          · refine L_i4 dX2_worth_16 ?_
            refine L_a3 dX2_worth_18 ?_
            refine AL_35 dX2_worth_19 ?_
            refine J_icmp_ge 201 dX2_worth_20 rfl (by omega) (by omega) (fun c20 => ?_) (fun c20 => ?_)
            · exfalso; omega
            · refine L_a0 dX2_worth_23 ?_
              refine E_getf fX2_7 dX2_worth_24 (by rw [W5_D]; exact hDa) rfl ?_
              refine L_i5 dX2_worth_27 ?_
              refine J_iald dX2_worth_29 (by rw [W5_D]; exact hDb) (by omega) (by omega) ?_
              refine J_eqi (b := 16) hfs ?_
              refine S_i6 dX2_worth_30 (by decide) rfl ?_
              refine L_i6 dX2_worth_32 ?_
              refine J_bipush dX2_worth_34 (by decide) ?_
              refine J_icmp_lt 54 dX2_worth_36 rfl (by omega) (by omega) (fun c36 => ?_) (fun c36 => ?_)
              · refine L_i6 dX2_worth_54 ?_
                refine C_s1F vX2_13 dX2_worth_56 (qX6_isName (by decide)) (Nat.le_of_ble_eq_true rfl) (by decide) ?_
                refine J_ifeqB 79 dX2_worth_59 rfl (fun c59 => ?_) (fun c59 => ?_)
                · refine L_i6 dX2_worth_79 ?_
                  refine J_bipush dX2_worth_81 (by decide) ?_
                  refine J_icmp_ne 128 dX2_worth_83 rfl (by omega) (by omega) (fun c83 => ?_) (fun c83 => ?_)
                  · refine L_i6 dX2_worth_128 ?_
                    refine C_s1F vX2_23 dX2_worth_130 (qX2_takesOne (by decide)) (Nat.le_of_ble_eq_true rfl) (by decide) ?_
                    refine J_ifeqB 163 dX2_worth_133 rfl (fun c133 => ?_) (fun c133 => ?_)
                    · exfalso; exact c133 (by decide)
                    · refine L_i4 dX2_worth_136 ?_
                      refine J_iconst dX2_worth_138 ?_
                      refine J_icmp_lt 163 dX2_worth_139 rfl (by omega) (by omega) (fun c139 => ?_) (fun c139 => ?_)
                      · exfalso; omega
                      · refine L_a3 dX2_worth_142 ?_
                        refine L_i4 dX2_worth_143 ?_
                        refine J_iconst dX2_worth_145 ?_
                        refine J_isub dX2_worth_146 ?_
                        refine L_i6 dX2_worth_147 ?_
                        refine L_a3 dX2_worth_149 ?_
                        refine L_i4 dX2_worth_150 ?_
                        refine J_iconst dX2_worth_152 ?_
                        refine J_isub dX2_worth_153 ?_
                        refine AR_35 dX2_worth_154 (by omega) ?_
                        refine J_eqi (b := zc) e1 ?_
                        refine L_a1 dX2_worth_155 ?_
                        refine C_s3F vX2_26 dX2_worth_156 (qX2_ofOne16 (S := S1) hv1 hcB) (Nat.le_of_ble_eq_true rfl) (by decide) ?_
                        refine J_eqi (b := cw1 (S 14) 16 zc) (by rw [e14]) ?_
                        refine AS_35 dX2_worth_159 (by omega) ?_
                        refine E_goto 195 dX2_worth_160 rfl ?_
                        refine JI_5 dX2_worth_195 (by decide) rfl ?_
                        refine E_goto 6 dX2_worth_198 rfl ?_
                        refine E_eq rfl (show _ = [.ref (a + 54), .ref 13, .int (jI n), .ref 35, .int (jI (t)), .int (jI ((i + 1 : Nat) : Int)), .int (jI 16)] from rfl) rfl rfl ?_
                        refine ih (i + 1) ((cw1 (S 14) 16 zc) :: rest) _ _ _ rfl (by omega) hfc2 hlB2 ?_ (by rw [List.length_cons]; omega) (by rw [List.length_cons]; omega) ?_ (hf.trans (Fr_up _ _ (by decide))) hr
                        · intro x hx
                          rcases List.mem_cons.mp hx with e | e
                          · rw [e]; exact hwB
                          · exact hvb x (by simp [e])
                        · rw [upS_s]
                          rw [show t - 1 = ((rest).length : Int) by omega]
                          exact PLd_push hPr
                  · exfalso; exact absurd c83 (by decide)
                · exfalso; exact absurd c59 (by decide)
              · exfalso; exact absurd c36 (by decide)
      | [], _, _, _, _, hr => exact absurd hr (by simp)
    rw [if_neg hA, if_neg hN, if_neg hP, if_neg hO] at hr
    match st, hvb, hsi, ht, hPL, hr with
    | zc :: zb :: rest, hvb, hsi, ht, hPL, hr =>
      rw [List.length_cons, List.length_cons] at ht hsi
      have hcB := hvb zc (by simp)
      have hbB := hvb zb (by simp)
      have e1 : S1 35 (t - 1) = zc := by rw [show t - 1 = ((zb :: rest).length : Int) by rw [List.length_cons]; omega]; exact hPL.1
      have e2 : S1 35 (t - 2) = zb := by rw [show t - 2 = (rest.length : Int) by omega]; exact hPL.2.1
      have hPr := hPL.2.2
      have hr : crn (S 14) n l (cw2 s zb zc :: rest) = some (r :: rs) := hr
      have hwB := cw2_B (s := s) (r := zc) hbB
      refine L_i5 dX2_worth_6 ?_
      refine L_a0 dX2_worth_8 ?_
      refine E_getf fX2_7 dX2_worth_9 (by rw [W5_D]; exact hDa) rfl ?_
      refine J_alen dX2_worth_12 (by rw [W5_D]; exact hDb) ?_
      refine J_icmp_ge 201 dX2_worth_13 rfl (by omega) (by omega) (fun c13 => ?_) (fun c13 => ?_)
      · exfalso; omega
      · refine L_i4 dX2_worth_16 ?_
        refine L_a3 dX2_worth_18 ?_
        refine AL_35 dX2_worth_19 ?_
        refine J_icmp_ge 201 dX2_worth_20 rfl (by omega) (by omega) (fun c20 => ?_) (fun c20 => ?_)
        · exfalso; omega
        · refine L_a0 dX2_worth_23 ?_
          refine E_getf fX2_7 dX2_worth_24 (by rw [W5_D]; exact hDa) rfl ?_
          refine L_i5 dX2_worth_27 ?_
          refine J_iald dX2_worth_29 (by rw [W5_D]; exact hDb) (by omega) (by omega) ?_
          refine J_eqi (b := s) hfs ?_
          refine S_i6 dX2_worth_30 (by decide) rfl ?_
          refine L_i6 dX2_worth_32 ?_
          refine J_bipush dX2_worth_34 (by decide) ?_
          refine J_icmp_lt 54 dX2_worth_36 rfl (by omega) (by omega) (fun c36 => ?_) (fun c36 => ?_)
          · refine L_i6 dX2_worth_54 ?_
            refine C_s1F vX2_13 dX2_worth_56 (qX6_isName (by omega)) (Nat.le_of_ble_eq_true rfl) (by decide) ?_
            refine J_ifeqB 79 dX2_worth_59 rfl (fun c59 => ?_) (fun c59 => ?_)
            · refine L_i6 dX2_worth_79 ?_
              refine J_bipush dX2_worth_81 (by decide) ?_
              refine J_icmp_ne 128 dX2_worth_83 rfl (by omega) (by omega) (fun c83 => ?_) (fun c83 => ?_)
              · refine L_i6 dX2_worth_128 ?_
                refine C_s1F vX2_23 dX2_worth_130 (qX2_takesOne (by omega)) (Nat.le_of_ble_eq_true rfl) (by decide) ?_
                refine J_ifeqB 163 dX2_worth_133 rfl (fun c133 => ?_) (fun c133 => ?_)
                · refine L_i4 dX2_worth_163 ?_
                  refine J_iconst dX2_worth_165 ?_
                  refine J_icmp_lt 195 dX2_worth_166 rfl (by omega) (by omega) (fun c166 => ?_) (fun c166 => ?_)
                  · exfalso; omega
                  · refine L_a3 dX2_worth_169 ?_
                    refine L_i4 dX2_worth_170 ?_
                    refine J_iconst dX2_worth_172 ?_
                    refine J_isub dX2_worth_173 ?_
                    refine L_i6 dX2_worth_174 ?_
                    refine L_a3 dX2_worth_176 ?_
                    refine L_i4 dX2_worth_177 ?_
                    refine J_iconst dX2_worth_179 ?_
                    refine J_isub dX2_worth_180 ?_
                    refine AR_35 dX2_worth_181 (by omega) ?_
                    refine J_eqi (b := zb) e2 ?_
                    refine L_a3 dX2_worth_182 ?_
                    refine L_i4 dX2_worth_183 ?_
                    refine J_iconst dX2_worth_185 ?_
                    refine J_isub dX2_worth_186 ?_
                    refine AR_35 dX2_worth_187 (by omega) ?_
                    refine J_eqi (b := zc) e1 ?_
                    refine C_s3F vX2_30 dX2_worth_188 (qX2_ofTwo (by omega) hbB hcB) (Nat.le_of_ble_eq_true rfl) (by decide) ?_
                    refine AS_35 dX2_worth_191 (by omega) ?_
                    refine JI_4 dX2_worth_192 (by decide) rfl ?_
                    refine JI_5 dX2_worth_195 (by decide) rfl ?_
                    refine E_goto 6 dX2_worth_198 rfl ?_
                    refine E_eq rfl (show _ = [.ref (a + 54), .ref 13, .int (jI n), .ref 35, .int (jI (t + -1)), .int (jI ((i + 1 : Nat) : Int)), .int (jI s)] from rfl) rfl rfl ?_
                    refine ih (i + 1) ((cw2 s zb zc) :: rest) _ _ _ rfl (by omega) hfc2 hlB2 ?_ (by rw [List.length_cons]; omega) (by rw [List.length_cons]; omega) ?_ (hf.trans (Fr_up _ _ (by decide))) hr
                    · intro x hx
                      rcases List.mem_cons.mp hx with e | e
                      · rw [e]; exact hwB
                      · exact hvb x (by simp [e])
                    · rw [upS_s]
                      rw [show t - 2 = ((rest).length : Int) by omega]
                      exact PLd_push hPr
                · exfalso; exact hO c133
              · exfalso; omega
            · exfalso; omega
          · exfalso; omega
    | [], _, _, _, _, hr => exact absurd hr (by simp)
    | [_], _, _, _, _, hr => exact absurd hr (by simp)
theorem qX2_worth {S T : Nat → Int → Int} {D : List mx_C} (hv : RV (S 14)) (hl : RLn (S 14)) {a b : Nat} {fc : Int → Int} {l : List Int} (hDa : D[a]? = some (ob 2 [.ref (b + 54)])) (hDb : D[b]? = some (ia l.length fc)) (hm : l.length ≤ 300) {n r : Int} (h_n : 1 ≤ n ∧ n ≤ 8) {rs : List Int} (hfc : ∀ j : Nat, j < l.length → fc (j : Int) = l.getD j 0) (hlB : ∀ x ∈ l, 0 ≤ x ∧ x ≤ 10099) (hr : crn (S 14) n l [] = some (r :: rs)) : SpI yX2_worth cX2_worth 7 (some .int) 2 [.ref (a + 54), .ref 13, .int (jI n), .ref 35] (W5 S T D) (fun v hp' => v = r ∧ ∃ S', hp' = W5 S' T D ∧ Fr [35] S S') := by
  refine Sp.of [.ref (a + 54), .ref 13, .int (jI n), .ref 35, .retAddr 0, .retAddr 0, .retAddr 0] (by decide) (by simp) (Nat.le_of_ble_eq_true rfl) rfl (fun E => ?_)
  refine J_iconst dX2_worth_0 ?_
  refine S_i4 dX2_worth_1 (by decide) rfl ?_
  refine J_iconst dX2_worth_3 ?_
  refine S_i5 dX2_worth_4 (by decide) rfl ?_
  exact lX2_worth hv hl hDa hDb hm h_n l 0 [] 0 S _ rfl (Nat.zero_add _) (fun j hj => by rw [show ((0 : Nat) : Int) + (j : Int) = (j : Int) by omega]; exact hfc j hj) hlB (fun x hx => absurd hx (by simp)) (Nat.le_refl _) rfl trivial (Fr.refl _ _) hr
