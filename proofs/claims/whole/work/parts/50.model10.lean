/-! ===== the reference: a law summed up ===== -/
section JE
variable {E : mx_E} {y : MethodName} {cc : ByteArray} {nL : Nat} {ret : Option FieldType} {K : mx_Kd} {bc bs pc : Nat} {lv st : List Value} {hp : List mx_C}
theorem J_eql {a b : Int} (h : a = b) (k : Ev E y cc nL ret K bc bs pc lv (.long (jL b) :: st) hp) : Ev E y cc nL ret K bc bs pc lv (.long (jL a) :: st) hp := by rw [h]; exact k
end JE
theorem qX11_two {hp : List mx_C} {o : Int} (h_o : 6 ≤ o ∧ o ≤ 9) {x : Int} (h_x : -1000000 ≤ x ∧ x ≤ 1000000) {y : Int} (h_y : -1000000 ≤ y ∧ y ≤ 1000000) : SpF yX11_two cX11_two 5 (some .long) 1 [.int (jI o), .long (jL x), .long (jL y)] hp (.long (jL (twoI o x y))) hp := by
  rcases (show o = 6 ∨ o = 7 ∨ o = 8 ∨ o = 9 by omega) with rfl | rfl | rfl | rfl
  · exact qX11_two6 h_x h_y
  · exact qX11_two7 h_x h_y
  · exact qX11_two8 h_x h_y
  · exact qX11_two9 h_x h_y
theorem jb_vn (P : Prop) [Decidable P] : vp_nar .boolean (jI (jb P)) = jI (jb P) := by
  unfold jb
  split <;> decide
set_option maxRecDepth 100000 in
set_option maxHeartbeats 4000000 in
theorem lX11_summedUp {E : mx_E} {S T : Nat → Int → Int} {D : List mx_C} (hv : MV (T 37)) (hnm : ∀ v, 0 ≤ v ∧ v ≤ 6 → -1000000 ≤ T 42 v ∧ T 42 v ≤ 1000000) {r tx0 cl0 x b hi : Int} (hx : 0 ≤ x ∧ x + 2 < 2724) (hb : 0 ≤ b ∧ b + 2 * hi ≤ 2724) (hhi : T 39 (x + 2) = hi) (hhi2 : 0 ≤ hi ∧ hi ≤ 400) : ∀ (m : Nat) (i n t : Int) (V B : Int → Int) (u8 u9 : Value), i + m = hi → 0 ≤ i → okC (T 39) b m i n t → VB V n → BB B t → evC (T 37) (T 42) (T 39) b m i V n B t = r → Ev E yX11_summedUp cX11_summedUp 10 (some .long) (mx_km E 6 0 0 (fun r' hp' => ∃ V' B', r' = some (.long (jL r)) ∧ hp' = W5 S (upS (upS T 43 V') 44 B') D)) 0 0 38 [.ref 36, .int (jI tx0), .int (jI cl0), .int (jI x), .int (jI b), .int (jI n), .int (jI t), .int (jI i), u8, u9] [] (W5 S (upS (upS T 43 V) 44 B) D) := by
  intro m
  induction m with
  | zero =>
    intro i n t V B u8 u9 hi1 hi0 hok hV hB hr
    refine L_i7 dX11_summedUp_38 ?_
    refine L_a0 dX11_summedUp_40 ?_
    refine GW_36_2 fX11_16 dX11_summedUp_41 ?_
    refine L_i3 dX11_summedUp_44 ?_
    refine J_iconst dX11_summedUp_45 ?_
    refine J_iadd dX11_summedUp_46 ?_
    refine AR_39 dX11_summedUp_47 (by omega) ?_
    refine J_eqi (b := hi) hhi ?_
    refine J_icmp_ge 355 dX11_summedUp_48 rfl (by omega) (by omega) (fun c48 => ?_) (fun c48 => ?_)
    · refine L_a0 dX11_summedUp_355 ?_
      refine GW_36_21 fX11_35 dX11_summedUp_356 ?_
      refine J_iconst dX11_summedUp_359 ?_
      refine AR_43 dX11_summedUp_360 (by omega) ?_
      exact E_lret rfl dX11_summedUp_361 ⟨V, B, by rw [← hr]; rfl, rfl⟩
    · exfalso; omega
  | succ m ih =>
    intro i n t V B u8 u9 hi1 hi0 hok hV hB hr
    obtain ⟨hp, hok2⟩ := hok
    obtain ⟨o, ho⟩ : ∃ o, T 39 (b + 2 * i) = o := ⟨_, rfl⟩
    obtain ⟨v, hvv⟩ : ∃ v, T 39 (b + 2 * i + 1) = v := ⟨_, rfl⟩
    rw [ho, hvv] at hp
    rw [ho] at hok2
    rw [evC, ho, hvv] at hr
    have hsV := st_VB (a := T 37) (V := V) (B := B) hnm hp hV
    have hsB := st_BB (V := V) (B := B) hp hB
    have hpn := hp.1
    have hpt := hp.2.1
    rcases hp.2.2 with h | h | h | h | h | h | h | h
    · have e1 : stV (T 37) (T 42) o v V n B t = up V n v := by
        unfold stV; rw [if_pos (by omega)]
      have e2 : dpN o n = n + 1 := by
        unfold dpN; rw [if_pos (by omega)]
      have e3 : stB o V n B t = B := by
        unfold stB; rw [if_pos (by omega)]
      have e4 : dpT o t = t := by
        unfold dpT; rw [if_pos (by omega)]
      rw [e1, e2] at hsV
      rw [e3, e4] at hsB
      rw [e2, e4] at hok2
      rw [e1, e2, e3, e4] at hr
      refine L_i7 dX11_summedUp_38 ?_
      refine L_a0 dX11_summedUp_40 ?_
      refine GW_36_2 fX11_16 dX11_summedUp_41 ?_
      refine L_i3 dX11_summedUp_44 ?_
      refine J_iconst dX11_summedUp_45 ?_
      refine J_iadd dX11_summedUp_46 ?_
      refine AR_39 dX11_summedUp_47 (by omega) ?_
      refine J_eqi (b := hi) hhi ?_
      refine J_icmp_ge 355 dX11_summedUp_48 rfl (by omega) (by omega) (fun c48 => ?_) (fun c48 => ?_)
      · exfalso; omega
      · refine L_a0 dX11_summedUp_51 ?_
        refine GW_36_2 fX11_16 dX11_summedUp_52 ?_
        refine L_i4 dX11_summedUp_55 ?_
        refine J_iconst dX11_summedUp_57 ?_
        refine L_i7 dX11_summedUp_58 ?_
        refine J_imul dX11_summedUp_60 ?_
        refine J_iadd dX11_summedUp_61 ?_
        refine AR_39 dX11_summedUp_62 (by omega) ?_
        refine J_eqi (b := o) ho ?_
        refine S_i8 dX11_summedUp_63 (by decide) rfl ?_
        refine L_a0 dX11_summedUp_65 ?_
        refine GW_36_2 fX11_16 dX11_summedUp_66 ?_
        refine L_i4 dX11_summedUp_69 ?_
        refine J_iconst dX11_summedUp_71 ?_
        refine L_i7 dX11_summedUp_72 ?_
        refine J_imul dX11_summedUp_74 ?_
        refine J_iadd dX11_summedUp_75 ?_
        refine J_iconst dX11_summedUp_76 ?_
        refine J_iadd dX11_summedUp_77 ?_
        refine AR_39 dX11_summedUp_78 (by omega) ?_
        refine J_eqi (b := v) hvv ?_
        refine S_i9 dX11_summedUp_79 (by decide) rfl ?_
        refine L_i8 dX11_summedUp_81 ?_
        refine J_iconst dX11_summedUp_83 ?_
        refine J_icmp_gt 119 dX11_summedUp_84 rfl (by omega) (by omega) (fun c84 => ?_) (fun c84 => ?_)
        · exfalso; omega
        · refine L_a0 dX11_summedUp_87 ?_
          refine GW_36_21 fX11_35 dX11_summedUp_88 ?_
          refine L_i5 dX11_summedUp_91 ?_
          refine L_i8 dX11_summedUp_93 ?_
          refine J_if_ne 104 dX11_summedUp_95 rfl (by omega) (fun c95 => ?_) (fun c95 => ?_)
          · exfalso; omega
          · refine L_i9 dX11_summedUp_98 ?_
            refine J_i2l dX11_summedUp_100 (by omega) ?_
            refine E_goto 112 dX11_summedUp_101 rfl ?_
            refine AS_43 dX11_summedUp_112 (by omega) ?_
            refine JI_5 dX11_summedUp_113 (by decide) rfl ?_
            refine E_goto 349 dX11_summedUp_116 rfl ?_
            refine JI_7 dX11_summedUp_349 (by decide) rfl ?_
            refine E_goto 38 dX11_summedUp_352 rfl ?_
            refine E_eq rfl rfl rfl (show _ = W5 S (upS (upS T 43 (up V n v)) 44 (B)) D from rfl) (ih (i + 1) (n + 1) (t) (up V n v) (B) _ _ (by omega) (by omega) hok2 hsV hsB hr)
    · have hnv := hnm v (by omega)
      have e1 : stV (T 37) (T 42) o v V n B t = up V n (T 42 v) := by
        unfold stV; rw [if_neg (by omega), if_pos (by omega)]
      have e2 : dpN o n = n + 1 := by
        unfold dpN; rw [if_pos (by omega)]
      have e3 : stB o V n B t = B := by
        unfold stB; rw [if_pos (by omega)]
      have e4 : dpT o t = t := by
        unfold dpT; rw [if_pos (by omega)]
      rw [e1, e2] at hsV
      rw [e3, e4] at hsB
      rw [e2, e4] at hok2
      rw [e1, e2, e3, e4] at hr
      refine L_i7 dX11_summedUp_38 ?_
      refine L_a0 dX11_summedUp_40 ?_
      refine GW_36_2 fX11_16 dX11_summedUp_41 ?_
      refine L_i3 dX11_summedUp_44 ?_
      refine J_iconst dX11_summedUp_45 ?_
      refine J_iadd dX11_summedUp_46 ?_
      refine AR_39 dX11_summedUp_47 (by omega) ?_
      refine J_eqi (b := hi) hhi ?_
      refine J_icmp_ge 355 dX11_summedUp_48 rfl (by omega) (by omega) (fun c48 => ?_) (fun c48 => ?_)
      · exfalso; omega
      · refine L_a0 dX11_summedUp_51 ?_
        refine GW_36_2 fX11_16 dX11_summedUp_52 ?_
        refine L_i4 dX11_summedUp_55 ?_
        refine J_iconst dX11_summedUp_57 ?_
        refine L_i7 dX11_summedUp_58 ?_
        refine J_imul dX11_summedUp_60 ?_
        refine J_iadd dX11_summedUp_61 ?_
        refine AR_39 dX11_summedUp_62 (by omega) ?_
        refine J_eqi (b := o) ho ?_
        refine S_i8 dX11_summedUp_63 (by decide) rfl ?_
        refine L_a0 dX11_summedUp_65 ?_
        refine GW_36_2 fX11_16 dX11_summedUp_66 ?_
        refine L_i4 dX11_summedUp_69 ?_
        refine J_iconst dX11_summedUp_71 ?_
        refine L_i7 dX11_summedUp_72 ?_
        refine J_imul dX11_summedUp_74 ?_
        refine J_iadd dX11_summedUp_75 ?_
        refine J_iconst dX11_summedUp_76 ?_
        refine J_iadd dX11_summedUp_77 ?_
        refine AR_39 dX11_summedUp_78 (by omega) ?_
        refine J_eqi (b := v) hvv ?_
        refine S_i9 dX11_summedUp_79 (by decide) rfl ?_
        refine L_i8 dX11_summedUp_81 ?_
        refine J_iconst dX11_summedUp_83 ?_
        refine J_icmp_gt 119 dX11_summedUp_84 rfl (by omega) (by omega) (fun c84 => ?_) (fun c84 => ?_)
        · exfalso; omega
        · refine L_a0 dX11_summedUp_87 ?_
          refine GW_36_21 fX11_35 dX11_summedUp_88 ?_
          refine L_i5 dX11_summedUp_91 ?_
          refine L_i8 dX11_summedUp_93 ?_
          refine J_if_ne 104 dX11_summedUp_95 rfl (by omega) (fun c95 => ?_) (fun c95 => ?_)
          · refine L_a0 dX11_summedUp_104 ?_
            refine GW_36_20 fX11_32 dX11_summedUp_105 ?_
            refine L_i9 dX11_summedUp_108 ?_
            refine AR_42 dX11_summedUp_110 (by omega) ?_
            refine J_eqi (b := T 42 v) rfl ?_
            refine J_i2l dX11_summedUp_111 (by omega) ?_
            refine AS_43 dX11_summedUp_112 (by omega) ?_
            refine JI_5 dX11_summedUp_113 (by decide) rfl ?_
            refine E_goto 349 dX11_summedUp_116 rfl ?_
            refine JI_7 dX11_summedUp_349 (by decide) rfl ?_
            refine E_goto 38 dX11_summedUp_352 rfl ?_
            refine E_eq rfl rfl rfl (show _ = W5 S (upS (upS T 43 (up V n (T 42 v))) 44 (B)) D from rfl) (ih (i + 1) (n + 1) (t) (up V n (T 42 v)) (B) _ _ (by omega) (by omega) hok2 hsV hsB hr)
          · exfalso; omega
    · obtain ⟨rfl, h⟩ := h
      have hB1 := hB (t - 1) (by omega)
      have e2 : dpN 3 n = n + -1 := by
        unfold dpN; rw [if_neg (by decide), if_pos rfl]; omega
      have e3 : stB 3 V n B t = B := by
        unfold stB; rw [if_pos (by decide)]
      have e4 : dpT 3 t = t + -1 := by
        unfold dpT; rw [if_neg (by decide), if_pos rfl]; omega
      by_cases hz : B (t - 1) = 0
      · have e1 : stV (T 37) (T 42) 3 v V n B t = up V (n + -1 - 1) (V (n + -1)) := by
          rw [stV_3, if_pos hz, show n + -1 - 1 = n - 2 by omega, show n + -1 = n - 1 by omega]
        rw [e1, e2] at hsV
        rw [e3, e4] at hsB
        rw [e2, e4] at hok2
        rw [e1, e2, e3, e4] at hr
        refine L_i7 dX11_summedUp_38 ?_
        refine L_a0 dX11_summedUp_40 ?_
        refine GW_36_2 fX11_16 dX11_summedUp_41 ?_
        refine L_i3 dX11_summedUp_44 ?_
        refine J_iconst dX11_summedUp_45 ?_
        refine J_iadd dX11_summedUp_46 ?_
        refine AR_39 dX11_summedUp_47 (by omega) ?_
        refine J_eqi (b := hi) hhi ?_
        refine J_icmp_ge 355 dX11_summedUp_48 rfl (by omega) (by omega) (fun c48 => ?_) (fun c48 => ?_)
        · exfalso; omega
        · refine L_a0 dX11_summedUp_51 ?_
          refine GW_36_2 fX11_16 dX11_summedUp_52 ?_
          refine L_i4 dX11_summedUp_55 ?_
          refine J_iconst dX11_summedUp_57 ?_
          refine L_i7 dX11_summedUp_58 ?_
          refine J_imul dX11_summedUp_60 ?_
          refine J_iadd dX11_summedUp_61 ?_
          refine AR_39 dX11_summedUp_62 (by omega) ?_
          refine J_eqi (b := 3) ho ?_
          refine S_i8 dX11_summedUp_63 (by decide) rfl ?_
          refine L_a0 dX11_summedUp_65 ?_
          refine GW_36_2 fX11_16 dX11_summedUp_66 ?_
          refine L_i4 dX11_summedUp_69 ?_
          refine J_iconst dX11_summedUp_71 ?_
          refine L_i7 dX11_summedUp_72 ?_
          refine J_imul dX11_summedUp_74 ?_
          refine J_iadd dX11_summedUp_75 ?_
          refine J_iconst dX11_summedUp_76 ?_
          refine J_iadd dX11_summedUp_77 ?_
          refine AR_39 dX11_summedUp_78 (by omega) ?_
          refine J_eqi (b := v) hvv ?_
          refine S_i9 dX11_summedUp_79 (by decide) rfl ?_
          refine L_i8 dX11_summedUp_81 ?_
          refine J_iconst dX11_summedUp_83 ?_
          refine J_icmp_gt 119 dX11_summedUp_84 rfl (by omega) (by omega) (fun c84 => ?_) (fun c84 => ?_)
          · refine L_i8 dX11_summedUp_119 ?_
            refine J_iconst dX11_summedUp_121 ?_
            refine J_icmp_ne 160 dX11_summedUp_122 rfl (by omega) (by omega) (fun c122 => ?_) (fun c122 => ?_)
            · exfalso; omega
            · refine JI_5 dX11_summedUp_125 (by decide) rfl ?_
              refine JI_6 dX11_summedUp_128 (by decide) rfl ?_
              refine L_a0 dX11_summedUp_131 ?_
              refine GW_36_22 fX11_39 dX11_summedUp_132 ?_
              refine L_i6 dX11_summedUp_135 ?_
              refine AR_44 dX11_summedUp_137 (by omega) ?_
              refine J_eqi (b := 0) (by show B (t + -1) = _; rw [show t + -1 = t - 1 by omega]; omega) ?_
              refine J_if_ne 349 dX11_summedUp_138 rfl (by omega) (fun c138 => ?_) (fun c138 => ?_)
              · exfalso; omega
              · refine L_a0 dX11_summedUp_141 ?_
                refine GW_36_21 fX11_35 dX11_summedUp_142 ?_
                refine L_i5 dX11_summedUp_145 ?_
                refine J_iconst dX11_summedUp_147 ?_
                refine J_isub dX11_summedUp_148 ?_
                refine L_a0 dX11_summedUp_149 ?_
                refine GW_36_21 fX11_35 dX11_summedUp_150 ?_
                refine L_i5 dX11_summedUp_153 ?_
                refine AR_43 dX11_summedUp_155 (by omega) ?_
                refine AS_43 dX11_summedUp_156 (by omega) ?_
                refine E_goto 349 dX11_summedUp_157 rfl ?_
                refine JI_7 dX11_summedUp_349 (by decide) rfl ?_
                refine E_goto 38 dX11_summedUp_352 rfl ?_
                refine E_eq rfl rfl rfl (show _ = W5 S (upS (upS T 43 (up V (n + -1 - 1) (V (n + -1)))) 44 B) D from rfl) (ih (i + 1) (n + -1) (t + -1) (up V (n + -1 - 1) (V (n + -1))) B _ _ (by omega) (by omega) hok2 hsV hsB hr)
          · exfalso; omega
      · have e1 : stV (T 37) (T 42) 3 v V n B t = V := by
          rw [stV_3, if_neg hz]
        rw [e1, e2] at hsV
        rw [e3, e4] at hsB
        rw [e2, e4] at hok2
        rw [e1, e2, e3, e4] at hr
        refine L_i7 dX11_summedUp_38 ?_
        refine L_a0 dX11_summedUp_40 ?_
        refine GW_36_2 fX11_16 dX11_summedUp_41 ?_
        refine L_i3 dX11_summedUp_44 ?_
        refine J_iconst dX11_summedUp_45 ?_
        refine J_iadd dX11_summedUp_46 ?_
        refine AR_39 dX11_summedUp_47 (by omega) ?_
        refine J_eqi (b := hi) hhi ?_
        refine J_icmp_ge 355 dX11_summedUp_48 rfl (by omega) (by omega) (fun c48 => ?_) (fun c48 => ?_)
        · exfalso; omega
        · refine L_a0 dX11_summedUp_51 ?_
          refine GW_36_2 fX11_16 dX11_summedUp_52 ?_
          refine L_i4 dX11_summedUp_55 ?_
          refine J_iconst dX11_summedUp_57 ?_
          refine L_i7 dX11_summedUp_58 ?_
          refine J_imul dX11_summedUp_60 ?_
          refine J_iadd dX11_summedUp_61 ?_
          refine AR_39 dX11_summedUp_62 (by omega) ?_
          refine J_eqi (b := 3) ho ?_
          refine S_i8 dX11_summedUp_63 (by decide) rfl ?_
          refine L_a0 dX11_summedUp_65 ?_
          refine GW_36_2 fX11_16 dX11_summedUp_66 ?_
          refine L_i4 dX11_summedUp_69 ?_
          refine J_iconst dX11_summedUp_71 ?_
          refine L_i7 dX11_summedUp_72 ?_
          refine J_imul dX11_summedUp_74 ?_
          refine J_iadd dX11_summedUp_75 ?_
          refine J_iconst dX11_summedUp_76 ?_
          refine J_iadd dX11_summedUp_77 ?_
          refine AR_39 dX11_summedUp_78 (by omega) ?_
          refine J_eqi (b := v) hvv ?_
          refine S_i9 dX11_summedUp_79 (by decide) rfl ?_
          refine L_i8 dX11_summedUp_81 ?_
          refine J_iconst dX11_summedUp_83 ?_
          refine J_icmp_gt 119 dX11_summedUp_84 rfl (by omega) (by omega) (fun c84 => ?_) (fun c84 => ?_)
          · refine L_i8 dX11_summedUp_119 ?_
            refine J_iconst dX11_summedUp_121 ?_
            refine J_icmp_ne 160 dX11_summedUp_122 rfl (by omega) (by omega) (fun c122 => ?_) (fun c122 => ?_)
            · exfalso; omega
            · refine JI_5 dX11_summedUp_125 (by decide) rfl ?_
              refine JI_6 dX11_summedUp_128 (by decide) rfl ?_
              refine L_a0 dX11_summedUp_131 ?_
              refine GW_36_22 fX11_39 dX11_summedUp_132 ?_
              refine L_i6 dX11_summedUp_135 ?_
              refine AR_44 dX11_summedUp_137 (by omega) ?_
              refine J_eqi (b := 1) (by show B (t + -1) = _; rw [show t + -1 = t - 1 by omega]; omega) ?_
              refine J_if_ne 349 dX11_summedUp_138 rfl (by omega) (fun c138 => ?_) (fun c138 => ?_)
              · refine JI_7 dX11_summedUp_349 (by decide) rfl ?_
                refine E_goto 38 dX11_summedUp_352 rfl ?_
                refine E_eq rfl rfl rfl (show _ = W5 S (upS (upS T 43 (V)) 44 B) D from rfl) (ih (i + 1) (n + -1) (t + -1) (V) B _ _ (by omega) (by omega) hok2 hsV hsB hr)
              · exfalso; omega
          · exfalso; omega
    · have hv1 := hV (n - 1) (by omega)
      have e1 : stV (T 37) (T 42) o v V n B t = up V (n - 1) (oneI (T 37) o (V (n - 1))) := by
        unfold stV; rw [if_neg (by omega), if_neg (by omega), if_neg (by omega), if_pos (by omega)]
      have e2 : dpN o n = n := by
        unfold dpN; rw [if_neg (by omega), if_neg (by omega), if_pos (by omega)]
      have e3 : stB o V n B t = B := by
        unfold stB; rw [if_pos (by omega)]
      have e4 : dpT o t = t := by
        unfold dpT; rw [if_neg (by omega), if_neg (by omega), if_pos (by omega)]
      rw [e1, e2] at hsV
      rw [e3, e4] at hsB
      rw [e2, e4] at hok2
      rw [e1, e2, e3, e4] at hr
      refine L_i7 dX11_summedUp_38 ?_
      refine L_a0 dX11_summedUp_40 ?_
      refine GW_36_2 fX11_16 dX11_summedUp_41 ?_
      refine L_i3 dX11_summedUp_44 ?_
      refine J_iconst dX11_summedUp_45 ?_
      refine J_iadd dX11_summedUp_46 ?_
      refine AR_39 dX11_summedUp_47 (by omega) ?_
      refine J_eqi (b := hi) hhi ?_
      refine J_icmp_ge 355 dX11_summedUp_48 rfl (by omega) (by omega) (fun c48 => ?_) (fun c48 => ?_)
      · exfalso; omega
      · refine L_a0 dX11_summedUp_51 ?_
        refine GW_36_2 fX11_16 dX11_summedUp_52 ?_
        refine L_i4 dX11_summedUp_55 ?_
        refine J_iconst dX11_summedUp_57 ?_
        refine L_i7 dX11_summedUp_58 ?_
        refine J_imul dX11_summedUp_60 ?_
        refine J_iadd dX11_summedUp_61 ?_
        refine AR_39 dX11_summedUp_62 (by omega) ?_
        refine J_eqi (b := o) ho ?_
        refine S_i8 dX11_summedUp_63 (by decide) rfl ?_
        refine L_a0 dX11_summedUp_65 ?_
        refine GW_36_2 fX11_16 dX11_summedUp_66 ?_
        refine L_i4 dX11_summedUp_69 ?_
        refine J_iconst dX11_summedUp_71 ?_
        refine L_i7 dX11_summedUp_72 ?_
        refine J_imul dX11_summedUp_74 ?_
        refine J_iadd dX11_summedUp_75 ?_
        refine J_iconst dX11_summedUp_76 ?_
        refine J_iadd dX11_summedUp_77 ?_
        refine AR_39 dX11_summedUp_78 (by omega) ?_
        refine J_eqi (b := v) hvv ?_
        refine S_i9 dX11_summedUp_79 (by decide) rfl ?_
        refine L_i8 dX11_summedUp_81 ?_
        refine J_iconst dX11_summedUp_83 ?_
        refine J_icmp_gt 119 dX11_summedUp_84 rfl (by omega) (by omega) (fun c84 => ?_) (fun c84 => ?_)
        · refine L_i8 dX11_summedUp_119 ?_
          refine J_iconst dX11_summedUp_121 ?_
          refine J_icmp_ne 160 dX11_summedUp_122 rfl (by omega) (by omega) (fun c122 => ?_) (fun c122 => ?_)
          · refine L_i8 dX11_summedUp_160 ?_
            refine J_iconst dX11_summedUp_162 ?_
            refine J_icmp_gt 193 dX11_summedUp_163 rfl (by omega) (by omega) (fun c163 => ?_) (fun c163 => ?_)
            · exfalso; omega
            · refine L_a0 dX11_summedUp_166 ?_
              refine GW_36_21 fX11_35 dX11_summedUp_167 ?_
              refine L_i5 dX11_summedUp_170 ?_
              refine J_iconst dX11_summedUp_172 ?_
              refine J_isub dX11_summedUp_173 ?_
              refine L_a0 dX11_summedUp_174 ?_
              refine L_i8 dX11_summedUp_175 ?_
              refine L_a0 dX11_summedUp_177 ?_
              refine GW_36_21 fX11_35 dX11_summedUp_178 ?_
              refine L_i5 dX11_summedUp_181 ?_
              refine J_iconst dX11_summedUp_183 ?_
              refine J_isub dX11_summedUp_184 ?_
              refine AR_43 dX11_summedUp_185 (by omega) ?_
              refine J_eql (b := V (n - 1)) rfl ?_
              refine C_v2F vX11_278 dX11_summedUp_186 (qX11_ofOne (T := (upS (upS T 43 V) 44 B)) hv (by omega) (by omega)) rfl rfl (Nat.le_of_ble_eq_true rfl) (by decide) ?_
              refine J_eql (b := oneI (T 37) o (V (n - 1))) rfl ?_
              refine AS_43 dX11_summedUp_189 (by omega) ?_
              refine E_goto 349 dX11_summedUp_190 rfl ?_
              refine JI_7 dX11_summedUp_349 (by decide) rfl ?_
              refine E_goto 38 dX11_summedUp_352 rfl ?_
              refine E_eq rfl rfl rfl (show _ = W5 S (upS (upS T 43 (up V (n - 1) (oneI (T 37) o (V (n - 1))))) 44 (B)) D from rfl) (ih (i + 1) (n) (t) (up V (n - 1) (oneI (T 37) o (V (n - 1)))) (B) _ _ (by omega) (by omega) hok2 hsV hsB hr)
          · exfalso; omega
        · exfalso; omega
    · have hv1 := hV (n + -1 - 1) (by omega)
      have hv2 := hV (n + -1) (by omega)
      have e1 : stV (T 37) (T 42) o v V n B t = up V (n + -1 - 1) (twoI o (V (n + -1 - 1)) (V (n + -1))) := by
        unfold stV; rw [if_neg (by omega), if_neg (by omega), if_neg (by omega), if_neg (by omega), if_pos (by omega), show n + -1 - 1 = n - 2 by omega, show n + -1 = n - 1 by omega]
      have e2 : dpN o n = n + -1 := by
        unfold dpN; rw [if_neg (by omega), if_neg (by omega), if_neg (by omega), if_pos (by omega)]; omega
      have e3 : stB o V n B t = B := by
        unfold stB; rw [if_pos (by omega)]
      have e4 : dpT o t = t := by
        unfold dpT; rw [if_neg (by omega), if_neg (by omega), if_pos (by omega)]
      rw [e1, e2] at hsV
      rw [e3, e4] at hsB
      rw [e2, e4] at hok2
      rw [e1, e2, e3, e4] at hr
      refine L_i7 dX11_summedUp_38 ?_
      refine L_a0 dX11_summedUp_40 ?_
      refine GW_36_2 fX11_16 dX11_summedUp_41 ?_
      refine L_i3 dX11_summedUp_44 ?_
      refine J_iconst dX11_summedUp_45 ?_
      refine J_iadd dX11_summedUp_46 ?_
      refine AR_39 dX11_summedUp_47 (by omega) ?_
      refine J_eqi (b := hi) hhi ?_
      refine J_icmp_ge 355 dX11_summedUp_48 rfl (by omega) (by omega) (fun c48 => ?_) (fun c48 => ?_)
      · exfalso; omega
      · refine L_a0 dX11_summedUp_51 ?_
        refine GW_36_2 fX11_16 dX11_summedUp_52 ?_
        refine L_i4 dX11_summedUp_55 ?_
        refine J_iconst dX11_summedUp_57 ?_
        refine L_i7 dX11_summedUp_58 ?_
        refine J_imul dX11_summedUp_60 ?_
        refine J_iadd dX11_summedUp_61 ?_
        refine AR_39 dX11_summedUp_62 (by omega) ?_
        refine J_eqi (b := o) ho ?_
        refine S_i8 dX11_summedUp_63 (by decide) rfl ?_
        refine L_a0 dX11_summedUp_65 ?_
        refine GW_36_2 fX11_16 dX11_summedUp_66 ?_
        refine L_i4 dX11_summedUp_69 ?_
        refine J_iconst dX11_summedUp_71 ?_
        refine L_i7 dX11_summedUp_72 ?_
        refine J_imul dX11_summedUp_74 ?_
        refine J_iadd dX11_summedUp_75 ?_
        refine J_iconst dX11_summedUp_76 ?_
        refine J_iadd dX11_summedUp_77 ?_
        refine AR_39 dX11_summedUp_78 (by omega) ?_
        refine J_eqi (b := v) hvv ?_
        refine S_i9 dX11_summedUp_79 (by decide) rfl ?_
        refine L_i8 dX11_summedUp_81 ?_
        refine J_iconst dX11_summedUp_83 ?_
        refine J_icmp_gt 119 dX11_summedUp_84 rfl (by omega) (by omega) (fun c84 => ?_) (fun c84 => ?_)
        · refine L_i8 dX11_summedUp_119 ?_
          refine J_iconst dX11_summedUp_121 ?_
          refine J_icmp_ne 160 dX11_summedUp_122 rfl (by omega) (by omega) (fun c122 => ?_) (fun c122 => ?_)
          · refine L_i8 dX11_summedUp_160 ?_
            refine J_iconst dX11_summedUp_162 ?_
            refine J_icmp_gt 193 dX11_summedUp_163 rfl (by omega) (by omega) (fun c163 => ?_) (fun c163 => ?_)
            · refine L_i8 dX11_summedUp_193 ?_
              refine J_bipush dX11_summedUp_195 (by decide) ?_
              refine J_icmp_ge 236 dX11_summedUp_197 rfl (by omega) (by omega) (fun c197 => ?_) (fun c197 => ?_)
              · exfalso; omega
              · refine JI_5 dX11_summedUp_200 (by decide) rfl ?_
                refine L_a0 dX11_summedUp_203 ?_
                refine GW_36_21 fX11_35 dX11_summedUp_204 ?_
                refine L_i5 dX11_summedUp_207 ?_
                refine J_iconst dX11_summedUp_209 ?_
                refine J_isub dX11_summedUp_210 ?_
                refine L_i8 dX11_summedUp_211 ?_
                refine L_a0 dX11_summedUp_213 ?_
                refine GW_36_21 fX11_35 dX11_summedUp_214 ?_
                refine L_i5 dX11_summedUp_217 ?_
                refine J_iconst dX11_summedUp_219 ?_
                refine J_isub dX11_summedUp_220 ?_
                refine AR_43 dX11_summedUp_221 (by omega) ?_
                refine J_eql (b := V (n + -1 - 1)) rfl ?_
                refine L_a0 dX11_summedUp_222 ?_
                refine GW_36_21 fX11_35 dX11_summedUp_223 ?_
                refine L_i5 dX11_summedUp_226 ?_
                refine AR_43 dX11_summedUp_228 (by omega) ?_
                refine J_eql (b := V (n + -1)) rfl ?_
                refine C_s3F vX11_282 dX11_summedUp_229 (qX11_two (by omega) (by omega) (by omega)) (Nat.le_of_ble_eq_true rfl) (by decide) ?_
                refine AS_43 dX11_summedUp_232 (by omega) ?_
                refine E_goto 349 dX11_summedUp_233 rfl ?_
                refine JI_7 dX11_summedUp_349 (by decide) rfl ?_
                refine E_goto 38 dX11_summedUp_352 rfl ?_
                refine E_eq rfl rfl rfl (show _ = W5 S (upS (upS T 43 (up V (n + -1 - 1) (twoI o (V (n + -1 - 1)) (V (n + -1))))) 44 (B)) D from rfl) (ih (i + 1) (n + -1) (t) (up V (n + -1 - 1) (twoI o (V (n + -1 - 1)) (V (n + -1)))) (B) _ _ (by omega) (by omega) hok2 hsV hsB hr)
            · exfalso; omega
          · exfalso; omega
        · exfalso; omega
    · have hv1 := hV (n + -2) (by omega)
      have hv2 := hV (n + -2 + 1) (by omega)
      have e1 : stV (T 37) (T 42) o v V n B t = V := by
        unfold stV; rw [if_neg (by omega), if_neg (by omega), if_neg (by omega), if_neg (by omega), if_neg (by omega)]
      have e2 : dpN o n = n + -2 := by
        unfold dpN; rw [if_neg (by omega), if_neg (by omega), if_neg (by omega), if_neg (by omega), if_pos (by omega)]; omega
      have e3 : stB o V n B t = up B t (jb (askI o (V (n + -2)) (V (n + -2 + 1)))) := by
        unfold stB; rw [if_neg (by omega), if_pos (by omega), show n + -2 + 1 = n - 1 by omega, show n + -2 = n - 2 by omega]
      have e4 : dpT o t = t + 1 := by
        unfold dpT; rw [if_neg (by omega), if_neg (by omega), if_neg (by omega), if_pos (by omega)]
      rw [e1, e2] at hsV
      rw [e3, e4] at hsB
      rw [e2, e4] at hok2
      rw [e1, e2, e3, e4] at hr
      refine L_i7 dX11_summedUp_38 ?_
      refine L_a0 dX11_summedUp_40 ?_
      refine GW_36_2 fX11_16 dX11_summedUp_41 ?_
      refine L_i3 dX11_summedUp_44 ?_
      refine J_iconst dX11_summedUp_45 ?_
      refine J_iadd dX11_summedUp_46 ?_
      refine AR_39 dX11_summedUp_47 (by omega) ?_
      refine J_eqi (b := hi) hhi ?_
      refine J_icmp_ge 355 dX11_summedUp_48 rfl (by omega) (by omega) (fun c48 => ?_) (fun c48 => ?_)
      · exfalso; omega
      · refine L_a0 dX11_summedUp_51 ?_
        refine GW_36_2 fX11_16 dX11_summedUp_52 ?_
        refine L_i4 dX11_summedUp_55 ?_
        refine J_iconst dX11_summedUp_57 ?_
        refine L_i7 dX11_summedUp_58 ?_
        refine J_imul dX11_summedUp_60 ?_
        refine J_iadd dX11_summedUp_61 ?_
        refine AR_39 dX11_summedUp_62 (by omega) ?_
        refine J_eqi (b := o) ho ?_
        refine S_i8 dX11_summedUp_63 (by decide) rfl ?_
        refine L_a0 dX11_summedUp_65 ?_
        refine GW_36_2 fX11_16 dX11_summedUp_66 ?_
        refine L_i4 dX11_summedUp_69 ?_
        refine J_iconst dX11_summedUp_71 ?_
        refine L_i7 dX11_summedUp_72 ?_
        refine J_imul dX11_summedUp_74 ?_
        refine J_iadd dX11_summedUp_75 ?_
        refine J_iconst dX11_summedUp_76 ?_
        refine J_iadd dX11_summedUp_77 ?_
        refine AR_39 dX11_summedUp_78 (by omega) ?_
        refine J_eqi (b := v) hvv ?_
        refine S_i9 dX11_summedUp_79 (by decide) rfl ?_
        refine L_i8 dX11_summedUp_81 ?_
        refine J_iconst dX11_summedUp_83 ?_
        refine J_icmp_gt 119 dX11_summedUp_84 rfl (by omega) (by omega) (fun c84 => ?_) (fun c84 => ?_)
        · refine L_i8 dX11_summedUp_119 ?_
          refine J_iconst dX11_summedUp_121 ?_
          refine J_icmp_ne 160 dX11_summedUp_122 rfl (by omega) (by omega) (fun c122 => ?_) (fun c122 => ?_)
          · refine L_i8 dX11_summedUp_160 ?_
            refine J_iconst dX11_summedUp_162 ?_
            refine J_icmp_gt 193 dX11_summedUp_163 rfl (by omega) (by omega) (fun c163 => ?_) (fun c163 => ?_)
            · refine L_i8 dX11_summedUp_193 ?_
              refine J_bipush dX11_summedUp_195 (by decide) ?_
              refine J_icmp_ge 236 dX11_summedUp_197 rfl (by omega) (by omega) (fun c197 => ?_) (fun c197 => ?_)
              · refine L_i8 dX11_summedUp_236 ?_
                refine J_bipush dX11_summedUp_238 (by decide) ?_
                refine J_icmp_ge 280 dX11_summedUp_240 rfl (by omega) (by omega) (fun c240 => ?_) (fun c240 => ?_)
                · exfalso; omega
                · refine JI_5 dX11_summedUp_243 (by decide) rfl ?_
                  refine L_a0 dX11_summedUp_246 ?_
                  refine GW_36_22 fX11_39 dX11_summedUp_247 ?_
                  refine L_i6 dX11_summedUp_250 ?_
                  refine L_i8 dX11_summedUp_252 ?_
                  refine L_a0 dX11_summedUp_254 ?_
                  refine GW_36_21 fX11_35 dX11_summedUp_255 ?_
                  refine L_i5 dX11_summedUp_258 ?_
                  refine AR_43 dX11_summedUp_260 (by omega) ?_
                  refine J_eql (b := V (n + -2)) rfl ?_
                  refine L_a0 dX11_summedUp_261 ?_
                  refine GW_36_21 fX11_35 dX11_summedUp_262 ?_
                  refine L_i5 dX11_summedUp_265 ?_
                  refine J_iconst dX11_summedUp_267 ?_
                  refine J_iadd dX11_summedUp_268 ?_
                  refine AR_43 dX11_summedUp_269 (by omega) ?_
                  refine J_eql (b := V (n + -2 + 1)) rfl ?_
                  refine C_s3F vX11_286 dX11_summedUp_270 (qX11_isAsked (by omega) (by omega) (by omega)) (Nat.le_of_ble_eq_true rfl) (by decide) ?_
                  refine AS_44 dX11_summedUp_273 (by omega) (jb_vn _) ?_
                  refine JI_6 dX11_summedUp_274 (by decide) rfl ?_
                  refine E_goto 349 dX11_summedUp_277 rfl ?_
                  refine JI_7 dX11_summedUp_349 (by decide) rfl ?_
                  refine E_goto 38 dX11_summedUp_352 rfl ?_
                  refine E_eq rfl rfl rfl (show _ = W5 S (upS (upS T 43 (V)) 44 (up B t (jb (askI o (V (n + -2)) (V (n + -2 + 1)))))) D from rfl) (ih (i + 1) (n + -2) (t + 1) (V) (up B t (jb (askI o (V (n + -2)) (V (n + -2 + 1))))) _ _ (by omega) (by omega) hok2 hsV hsB hr)
              · exfalso; omega
            · exfalso; omega
          · exfalso; omega
        · exfalso; omega
    · obtain ⟨rfl, h⟩ := h
      have hB1 := hB (t - 1) (by omega)
      have e1 : stV (T 37) (T 42) 20 v V n B t = V := by
        unfold stV; rw [if_neg (by decide), if_neg (by decide), if_neg (by decide), if_neg (by decide), if_neg (by decide)]
      have e2 : dpN 20 n = n := by
        unfold dpN; rw [if_neg (by decide), if_neg (by decide), if_neg (by decide), if_neg (by decide), if_neg (by decide)]
      have e4 : dpT 20 t = t := by
        unfold dpT; rw [if_neg (by decide), if_neg (by decide), if_neg (by decide), if_neg (by decide), if_pos rfl]
      by_cases hz : B (t - 1) = 0
      · have e3 : stB 20 V n B t = up B (t - 1) 1 := by
          unfold stB; rw [if_neg (by decide), if_neg (by decide), if_pos rfl, jb_t hz]
        rw [e1, e2] at hsV
        rw [e3, e4] at hsB
        rw [e2, e4] at hok2
        rw [e1, e2, e3, e4] at hr
        refine L_i7 dX11_summedUp_38 ?_
        refine L_a0 dX11_summedUp_40 ?_
        refine GW_36_2 fX11_16 dX11_summedUp_41 ?_
        refine L_i3 dX11_summedUp_44 ?_
        refine J_iconst dX11_summedUp_45 ?_
        refine J_iadd dX11_summedUp_46 ?_
        refine AR_39 dX11_summedUp_47 (by omega) ?_
        refine J_eqi (b := hi) hhi ?_
        refine J_icmp_ge 355 dX11_summedUp_48 rfl (by omega) (by omega) (fun c48 => ?_) (fun c48 => ?_)
        · exfalso; omega
        · refine L_a0 dX11_summedUp_51 ?_
          refine GW_36_2 fX11_16 dX11_summedUp_52 ?_
          refine L_i4 dX11_summedUp_55 ?_
          refine J_iconst dX11_summedUp_57 ?_
          refine L_i7 dX11_summedUp_58 ?_
          refine J_imul dX11_summedUp_60 ?_
          refine J_iadd dX11_summedUp_61 ?_
          refine AR_39 dX11_summedUp_62 (by omega) ?_
          refine J_eqi (b := 20) ho ?_
          refine S_i8 dX11_summedUp_63 (by decide) rfl ?_
          refine L_a0 dX11_summedUp_65 ?_
          refine GW_36_2 fX11_16 dX11_summedUp_66 ?_
          refine L_i4 dX11_summedUp_69 ?_
          refine J_iconst dX11_summedUp_71 ?_
          refine L_i7 dX11_summedUp_72 ?_
          refine J_imul dX11_summedUp_74 ?_
          refine J_iadd dX11_summedUp_75 ?_
          refine J_iconst dX11_summedUp_76 ?_
          refine J_iadd dX11_summedUp_77 ?_
          refine AR_39 dX11_summedUp_78 (by omega) ?_
          refine J_eqi (b := v) hvv ?_
          refine S_i9 dX11_summedUp_79 (by decide) rfl ?_
          refine L_i8 dX11_summedUp_81 ?_
          refine J_iconst dX11_summedUp_83 ?_
          refine J_icmp_gt 119 dX11_summedUp_84 rfl (by omega) (by omega) (fun c84 => ?_) (fun c84 => ?_)
          · refine L_i8 dX11_summedUp_119 ?_
            refine J_iconst dX11_summedUp_121 ?_
            refine J_icmp_ne 160 dX11_summedUp_122 rfl (by omega) (by omega) (fun c122 => ?_) (fun c122 => ?_)
            · refine L_i8 dX11_summedUp_160 ?_
              refine J_iconst dX11_summedUp_162 ?_
              refine J_icmp_gt 193 dX11_summedUp_163 rfl (by omega) (by omega) (fun c163 => ?_) (fun c163 => ?_)
              · refine L_i8 dX11_summedUp_193 ?_
                refine J_bipush dX11_summedUp_195 (by decide) ?_
                refine J_icmp_ge 236 dX11_summedUp_197 rfl (by omega) (by omega) (fun c197 => ?_) (fun c197 => ?_)
                · refine L_i8 dX11_summedUp_236 ?_
                  refine J_bipush dX11_summedUp_238 (by decide) ?_
                  refine J_icmp_ge 280 dX11_summedUp_240 rfl (by omega) (by omega) (fun c240 => ?_) (fun c240 => ?_)
                  · refine L_i8 dX11_summedUp_280 ?_
                    refine J_bipush dX11_summedUp_282 (by decide) ?_
                    refine J_icmp_ne 316 dX11_summedUp_284 rfl (by omega) (by omega) (fun c284 => ?_) (fun c284 => ?_)
                    · exfalso; omega
                    · refine L_a0 dX11_summedUp_287 ?_
                      refine GW_36_22 fX11_39 dX11_summedUp_288 ?_
                      refine L_i6 dX11_summedUp_291 ?_
                      refine J_iconst dX11_summedUp_293 ?_
                      refine J_isub dX11_summedUp_294 ?_
                      refine L_a0 dX11_summedUp_295 ?_
                      refine GW_36_22 fX11_39 dX11_summedUp_296 ?_
                      refine L_i6 dX11_summedUp_299 ?_
                      refine J_iconst dX11_summedUp_301 ?_
                      refine J_isub dX11_summedUp_302 ?_
                      refine AR_44 dX11_summedUp_303 (by omega) ?_
                      refine J_eqi (b := 0) (by show B (t - 1) = _; omega) ?_
                      refine J_if_ne 311 dX11_summedUp_304 rfl (by omega) (fun c304 => ?_) (fun c304 => ?_)
                      · exfalso; omega
                      · refine J_iconst dX11_summedUp_307 ?_
                        refine E_goto 312 dX11_summedUp_308 rfl ?_
                        refine AS_44 dX11_summedUp_312 (by omega) (by decide) ?_
                        refine E_goto 349 dX11_summedUp_313 rfl ?_
                        refine JI_7 dX11_summedUp_349 (by decide) rfl ?_
                        refine E_goto 38 dX11_summedUp_352 rfl ?_
                        refine E_eq rfl rfl rfl (show _ = W5 S (upS (upS T 43 V) 44 (up B (t - 1) 1)) D from rfl) (ih (i + 1) n t V (up B (t - 1) 1) _ _ (by omega) (by omega) hok2 hsV hsB hr)
                  · exfalso; omega
                · exfalso; omega
              · exfalso; omega
            · exfalso; omega
          · exfalso; omega
      · have e3 : stB 20 V n B t = up B (t - 1) 0 := by
          unfold stB; rw [if_neg (by decide), if_neg (by decide), if_pos rfl, jb_f hz]
        rw [e1, e2] at hsV
        rw [e3, e4] at hsB
        rw [e2, e4] at hok2
        rw [e1, e2, e3, e4] at hr
        refine L_i7 dX11_summedUp_38 ?_
        refine L_a0 dX11_summedUp_40 ?_
        refine GW_36_2 fX11_16 dX11_summedUp_41 ?_
        refine L_i3 dX11_summedUp_44 ?_
        refine J_iconst dX11_summedUp_45 ?_
        refine J_iadd dX11_summedUp_46 ?_
        refine AR_39 dX11_summedUp_47 (by omega) ?_
        refine J_eqi (b := hi) hhi ?_
        refine J_icmp_ge 355 dX11_summedUp_48 rfl (by omega) (by omega) (fun c48 => ?_) (fun c48 => ?_)
        · exfalso; omega
        · refine L_a0 dX11_summedUp_51 ?_
          refine GW_36_2 fX11_16 dX11_summedUp_52 ?_
          refine L_i4 dX11_summedUp_55 ?_
          refine J_iconst dX11_summedUp_57 ?_
          refine L_i7 dX11_summedUp_58 ?_
          refine J_imul dX11_summedUp_60 ?_
          refine J_iadd dX11_summedUp_61 ?_
          refine AR_39 dX11_summedUp_62 (by omega) ?_
          refine J_eqi (b := 20) ho ?_
          refine S_i8 dX11_summedUp_63 (by decide) rfl ?_
          refine L_a0 dX11_summedUp_65 ?_
          refine GW_36_2 fX11_16 dX11_summedUp_66 ?_
          refine L_i4 dX11_summedUp_69 ?_
          refine J_iconst dX11_summedUp_71 ?_
          refine L_i7 dX11_summedUp_72 ?_
          refine J_imul dX11_summedUp_74 ?_
          refine J_iadd dX11_summedUp_75 ?_
          refine J_iconst dX11_summedUp_76 ?_
          refine J_iadd dX11_summedUp_77 ?_
          refine AR_39 dX11_summedUp_78 (by omega) ?_
          refine J_eqi (b := v) hvv ?_
          refine S_i9 dX11_summedUp_79 (by decide) rfl ?_
          refine L_i8 dX11_summedUp_81 ?_
          refine J_iconst dX11_summedUp_83 ?_
          refine J_icmp_gt 119 dX11_summedUp_84 rfl (by omega) (by omega) (fun c84 => ?_) (fun c84 => ?_)
          · refine L_i8 dX11_summedUp_119 ?_
            refine J_iconst dX11_summedUp_121 ?_
            refine J_icmp_ne 160 dX11_summedUp_122 rfl (by omega) (by omega) (fun c122 => ?_) (fun c122 => ?_)
            · refine L_i8 dX11_summedUp_160 ?_
              refine J_iconst dX11_summedUp_162 ?_
              refine J_icmp_gt 193 dX11_summedUp_163 rfl (by omega) (by omega) (fun c163 => ?_) (fun c163 => ?_)
              · refine L_i8 dX11_summedUp_193 ?_
                refine J_bipush dX11_summedUp_195 (by decide) ?_
                refine J_icmp_ge 236 dX11_summedUp_197 rfl (by omega) (by omega) (fun c197 => ?_) (fun c197 => ?_)
                · refine L_i8 dX11_summedUp_236 ?_
                  refine J_bipush dX11_summedUp_238 (by decide) ?_
                  refine J_icmp_ge 280 dX11_summedUp_240 rfl (by omega) (by omega) (fun c240 => ?_) (fun c240 => ?_)
                  · refine L_i8 dX11_summedUp_280 ?_
                    refine J_bipush dX11_summedUp_282 (by decide) ?_
                    refine J_icmp_ne 316 dX11_summedUp_284 rfl (by omega) (by omega) (fun c284 => ?_) (fun c284 => ?_)
                    · exfalso; omega
                    · refine L_a0 dX11_summedUp_287 ?_
                      refine GW_36_22 fX11_39 dX11_summedUp_288 ?_
                      refine L_i6 dX11_summedUp_291 ?_
                      refine J_iconst dX11_summedUp_293 ?_
                      refine J_isub dX11_summedUp_294 ?_
                      refine L_a0 dX11_summedUp_295 ?_
                      refine GW_36_22 fX11_39 dX11_summedUp_296 ?_
                      refine L_i6 dX11_summedUp_299 ?_
                      refine J_iconst dX11_summedUp_301 ?_
                      refine J_isub dX11_summedUp_302 ?_
                      refine AR_44 dX11_summedUp_303 (by omega) ?_
                      refine J_eqi (b := 1) (by show B (t - 1) = _; omega) ?_
                      refine J_if_ne 311 dX11_summedUp_304 rfl (by omega) (fun c304 => ?_) (fun c304 => ?_)
                      · refine J_iconst dX11_summedUp_311 ?_
                        refine AS_44 dX11_summedUp_312 (by omega) (by decide) ?_
                        refine E_goto 349 dX11_summedUp_313 rfl ?_
                        refine JI_7 dX11_summedUp_349 (by decide) rfl ?_
                        refine E_goto 38 dX11_summedUp_352 rfl ?_
                        refine E_eq rfl rfl rfl (show _ = W5 S (upS (upS T 43 V) 44 (up B (t - 1) 0)) D from rfl) (ih (i + 1) n t V (up B (t - 1) 0) _ _ (by omega) (by omega) hok2 hsV hsB hr)
                      · exfalso; omega
                  · exfalso; omega
                · exfalso; omega
              · exfalso; omega
            · exfalso; omega
          · exfalso; omega
    · have hb1 := hB (t + -1 - 1) (by omega)
      have hb2 := hB (t + -1) (by omega)
      have e1 : stV (T 37) (T 42) o v V n B t = V := by
        unfold stV; rw [if_neg (by omega), if_neg (by omega), if_neg (by omega), if_neg (by omega), if_neg (by omega)]
      have e2 : dpN o n = n := by
        unfold dpN; rw [if_neg (by omega), if_neg (by omega), if_neg (by omega), if_neg (by omega), if_neg (by omega)]
      have e3 : stB o V n B t = up B (t + -1 - 1) (jb (joinI o (B (t + -1 - 1)) (B (t + -1)))) := by
        unfold stB; rw [if_neg (by omega), if_neg (by omega), if_neg (by omega), show t + -1 - 1 = t - 2 by omega, show t + -1 = t - 1 by omega]
      have e4 : dpT o t = t + -1 := by
        unfold dpT; rw [if_neg (by omega), if_neg (by omega), if_neg (by omega), if_neg (by omega), if_neg (by omega)]; omega
      rw [e1, e2] at hsV
      rw [e3, e4] at hsB
      rw [e2, e4] at hok2
      rw [e1, e2, e3, e4] at hr
      refine L_i7 dX11_summedUp_38 ?_
      refine L_a0 dX11_summedUp_40 ?_
      refine GW_36_2 fX11_16 dX11_summedUp_41 ?_
      refine L_i3 dX11_summedUp_44 ?_
      refine J_iconst dX11_summedUp_45 ?_
      refine J_iadd dX11_summedUp_46 ?_
      refine AR_39 dX11_summedUp_47 (by omega) ?_
      refine J_eqi (b := hi) hhi ?_
      refine J_icmp_ge 355 dX11_summedUp_48 rfl (by omega) (by omega) (fun c48 => ?_) (fun c48 => ?_)
      · exfalso; omega
      · refine L_a0 dX11_summedUp_51 ?_
        refine GW_36_2 fX11_16 dX11_summedUp_52 ?_
        refine L_i4 dX11_summedUp_55 ?_
        refine J_iconst dX11_summedUp_57 ?_
        refine L_i7 dX11_summedUp_58 ?_
        refine J_imul dX11_summedUp_60 ?_
        refine J_iadd dX11_summedUp_61 ?_
        refine AR_39 dX11_summedUp_62 (by omega) ?_
        refine J_eqi (b := o) ho ?_
        refine S_i8 dX11_summedUp_63 (by decide) rfl ?_
        refine L_a0 dX11_summedUp_65 ?_
        refine GW_36_2 fX11_16 dX11_summedUp_66 ?_
        refine L_i4 dX11_summedUp_69 ?_
        refine J_iconst dX11_summedUp_71 ?_
        refine L_i7 dX11_summedUp_72 ?_
        refine J_imul dX11_summedUp_74 ?_
        refine J_iadd dX11_summedUp_75 ?_
        refine J_iconst dX11_summedUp_76 ?_
        refine J_iadd dX11_summedUp_77 ?_
        refine AR_39 dX11_summedUp_78 (by omega) ?_
        refine J_eqi (b := v) hvv ?_
        refine S_i9 dX11_summedUp_79 (by decide) rfl ?_
        refine L_i8 dX11_summedUp_81 ?_
        refine J_iconst dX11_summedUp_83 ?_
        refine J_icmp_gt 119 dX11_summedUp_84 rfl (by omega) (by omega) (fun c84 => ?_) (fun c84 => ?_)
        · refine L_i8 dX11_summedUp_119 ?_
          refine J_iconst dX11_summedUp_121 ?_
          refine J_icmp_ne 160 dX11_summedUp_122 rfl (by omega) (by omega) (fun c122 => ?_) (fun c122 => ?_)
          · refine L_i8 dX11_summedUp_160 ?_
            refine J_iconst dX11_summedUp_162 ?_
            refine J_icmp_gt 193 dX11_summedUp_163 rfl (by omega) (by omega) (fun c163 => ?_) (fun c163 => ?_)
            · refine L_i8 dX11_summedUp_193 ?_
              refine J_bipush dX11_summedUp_195 (by decide) ?_
              refine J_icmp_ge 236 dX11_summedUp_197 rfl (by omega) (by omega) (fun c197 => ?_) (fun c197 => ?_)
              · refine L_i8 dX11_summedUp_236 ?_
                refine J_bipush dX11_summedUp_238 (by decide) ?_
                refine J_icmp_ge 280 dX11_summedUp_240 rfl (by omega) (by omega) (fun c240 => ?_) (fun c240 => ?_)
                · refine L_i8 dX11_summedUp_280 ?_
                  refine J_bipush dX11_summedUp_282 (by decide) ?_
                  refine J_icmp_ne 316 dX11_summedUp_284 rfl (by omega) (by omega) (fun c284 => ?_) (fun c284 => ?_)
                  · refine JI_6 dX11_summedUp_316 (by decide) rfl ?_
                    refine L_a0 dX11_summedUp_319 ?_
                    refine GW_36_22 fX11_39 dX11_summedUp_320 ?_
                    refine L_i6 dX11_summedUp_323 ?_
                    refine J_iconst dX11_summedUp_325 ?_
                    refine J_isub dX11_summedUp_326 ?_
                    refine L_i8 dX11_summedUp_327 ?_
                    refine L_a0 dX11_summedUp_329 ?_
                    refine GW_36_22 fX11_39 dX11_summedUp_330 ?_
                    refine L_i6 dX11_summedUp_333 ?_
                    refine J_iconst dX11_summedUp_335 ?_
                    refine J_isub dX11_summedUp_336 ?_
                    refine AR_44 dX11_summedUp_337 (by omega) ?_
                    refine J_eqi (b := B (t + -1 - 1)) rfl ?_
                    refine L_a0 dX11_summedUp_338 ?_
                    refine GW_36_22 fX11_39 dX11_summedUp_339 ?_
                    refine L_i6 dX11_summedUp_342 ?_
                    refine AR_44 dX11_summedUp_344 (by omega) ?_
                    refine J_eqi (b := B (t + -1)) rfl ?_
                    refine C_s3F vX11_290 dX11_summedUp_345 (qX11_joined (by omega) (by omega) (by omega)) (Nat.le_of_ble_eq_true rfl) (by decide) ?_
                    refine AS_44 dX11_summedUp_348 (by omega) (jb_vn _) ?_
                    refine JI_7 dX11_summedUp_349 (by decide) rfl ?_
                    refine E_goto 38 dX11_summedUp_352 rfl ?_
                    refine E_eq rfl rfl rfl (show _ = W5 S (upS (upS T 43 (V)) 44 (up B (t + -1 - 1) (jb (joinI o (B (t + -1 - 1)) (B (t + -1)))))) D from rfl) (ih (i + 1) (n) (t + -1) (V) (up B (t + -1 - 1) (jb (joinI o (B (t + -1 - 1)) (B (t + -1))))) _ _ (by omega) (by omega) hok2 hsV hsB hr)
                  · exfalso; omega
                · exfalso; omega
              · exfalso; omega
            · exfalso; omega
          · exfalso; omega
        · exfalso; omega

