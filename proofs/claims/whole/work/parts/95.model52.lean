/-! ===== the reference: texts ===== -/
def rdt (B : Nat → Int) : Nat → Nat → List (Int × Int × Int) → Int → List (Int × Int) → Int × Nat × List (Int × Int × Int) × List (Int × Int)
  | 0, c, el, _, cd => (1, c, el, cd)
  | m + 1, c, el, on, cd => if kd B c = 1 then (0, c, el, cd) else if (clf B c el on cd).1 = 0 then rdt B m (clf B c el on cd).2 (clE B (srK (kd B c)) c cd el) (clO (srK (kd B c)) on) (bdy B (srK (kd B c)) (lxe B c) cd).2.2.2 else ((clf B c el on cd).1, (clf B c el on cd).2, el, cd)
theorem clf_ok {B : Nat → Int} {c : Nat} {el : List (Int × Int × Int)} {on : Int} {cd : List (Int × Int)} (hh : (clf B c el on cd).1 = 0) : 0 ≤ (srK (kd B c)) ∧ ¬ el.length = 24 ∧ ¬ kd B c = 1 ∧ (clf B c el on cd).2 = lxe B (bdy B (srK (kd B c)) (lxe B c) cd).2.1 ∧ (bdy B (srK (kd B c)) (lxe B c) cd).1 = 0 ∧ kd B (bdy B (srK (kd B c)) (lxe B c) cd).2.1 = 40 ∧ ¬ ((srK (kd B c)) ≤ 1 ∧ on / 2 ^ ((srK (kd B c))).toNat % 2 = 1) := by
  unfold clf at hh ⊢
  by_cases h1 : (srK (kd B c)) < 0
  · rw [if_pos h1] at hh; exact absurd (show (1 : Int) = 0 from hh) (by decide)
  · rw [if_neg h1] at hh ⊢
    by_cases h2 : (srK (kd B c)) ≤ 1 ∧ on / 2 ^ ((srK (kd B c))).toNat % 2 = 1
    · rw [if_pos h2] at hh; exact absurd (show (4 : Int) = 0 from hh) (by decide)
    · rw [if_neg h2] at hh ⊢
      by_cases h3 : el.length = 24
      · rw [if_pos h3] at hh; exact absurd (show (6 : Int) = 0 from hh) (by decide)
      · rw [if_neg h3] at hh ⊢
        unfold cl1 at hh ⊢
        by_cases h4 : (bdy B (srK (kd B c)) (lxe B c) cd).1 = 0
        · rw [if_pos h4] at hh ⊢
          by_cases h5 : kd B (bdy B (srK (kd B c)) (lxe B c) cd).2.1 = 40
          · rw [if_pos h5]
            exact ⟨by omega, h3, fun e => by rw [e] at h1; exact h1 (by decide), rfl, h4, h5, h2⟩
          · rw [if_neg h5] at hh; exact absurd (show (1 : Int) = 0 from hh) (by decide)
        · rw [if_neg h4] at hh; exact absurd hh h4
theorem clf_B {B : Nat → Int} {c : Nat} {el : List (Int × Int × Int)} {on : Int} {cd : List (Int × Int)} : 0 ≤ (clf B c el on cd).1 ∧ (clf B c el on cd).1 ≤ 100 := by
  have hb := bdy_B (B := B) (s := (srK (kd B c))) (c := lxe B c) (cd := cd)
  unfold clf cl1
  split
  · show (0 : Int) ≤ 1 ∧ (1 : Int) ≤ 100; omega
  · split
    · show (0 : Int) ≤ 4 ∧ (4 : Int) ≤ 100; omega
    · split
      · show (0 : Int) ≤ 6 ∧ (6 : Int) ≤ 100; omega
      · split
        · split
          · show (0 : Int) ≤ 0 ∧ (0 : Int) ≤ 100; omega
          · show (0 : Int) ≤ 1 ∧ (1 : Int) ≤ 100; omega
        · exact hb
theorem lX11_readText {E : mx_E} {S T : Nat → Int → Int} {D : List mx_C} {B : Nat → Int} {q : Int} (h_q : 0 ≤ q ∧ q ≤ 3) {r : Int × Nat × List (Int × Int × Int) × List (Int × Int)} : ∀ (m c : Nat) (el : List (Int × Int × Int)) (on : Int) (cd : List (Int × Int)) (T1 : Nat → Int → Int) (u1 : Value), u1.category = 1 → RT B T1 q c el on cd → XF q T T1 → el.length ≤ 24 → (0 ≤ on ∧ on ≤ 3) → cd.length ≤ lxp B c → T1 36 4 < lxp B c + m → rdt B m c el on cd = r → Ev E yX11_readText cX11_readText 2 (some .int) (kI E 11 (fun v hp' => ∃ T', hp' = W5 S T' D ∧ XF q T T' ∧ v = r.1 ∧ TS B T' r.2.1 ∧ (v = 0 → ∃ on, RT B T' q r.2.1 r.2.2.1 on r.2.2.2))) 0 0 43 [.ref 36, u1] [] (W5 S T1 D) := by
  intro m
  induction m with
  | zero =>
    intro c el on cd T1 u1 hu1 hs g hel ho hlt hm hr
    have := lxp_lxe B c
    have := hs.1.1.2.2.2
    exfalso; omega
  | succ m ih =>
    intro c el on cd T1 u1 hu1 hs g hel ho hlt hm hr
    have hct := hs.1.1.1
    have ht := lxt_B hs.1.1.hB c
    have hcB := clf_B (B := B) (c := c) (el := el) (on := on) (cd := cd)
    rw [rdt] at hr
    refine L_a0 dX11_readText_43 ?_
    refine GW_36_9 fX11_114 dX11_readText_44 ?_
    refine J_eqi (b := lxt B c) hct.2.2.1 ?_
    refine J_if_eq 64 dX11_readText_47 rfl (by omega) (fun c47 => ?_) (fun c47 => ?_)
    · refine J_iconst dX11_readText_64 ?_
      exact RQ_i rfl dX11_readText_65 (by rw [if_pos (kd_1.mpr c47)] at hr; subst hr; exact ⟨T1, rfl, g, rfl, hs.1.1, fun _ => ⟨on, hs⟩⟩)
    · refine L_a0 dX11_readText_50 ?_
      refine C_v0I vX11_259 dX11_readText_51 (qX11_clause h_q ho hs hel hlt) rfl rfl (Nat.le_of_ble_eq_true rfl) (by decide) (fun v51 hp51 hq51 => ?_)
      obtain ⟨T51, rfl, e51, ht51, g51, hh51⟩ := hq51
      refine S_i1 dX11_readText_54 (by decide) rfl ?_
      refine L_i1 dX11_readText_55 ?_
      refine J_if_eq 61 dX11_readText_56 rfl (by omega) (fun c56 => ?_) (fun c56 => ?_)
      · refine E_goto 43 dX11_readText_61 rfl ?_
        have hc0 : (clf B c el on cd).1 = 0 := by omega
        have hok := clf_ok hc0
        rw [if_neg (fun e => c47 (kd_1.mp e)), if_pos hc0] at hr
        have hnx := lx_next hok.2.2.1
        have hbm := bdy_mono (B := B) (s := (srK (kd B c))) (c := lxe B c) (cd := cd) (by omega)
        have hm2 := lxp_mono B (bdy B (srK (kd B c)) (lxe B c) cd).2.1
        have e4 : T51 36 4 = T1 36 4 := g51.2.1 4 (by omega)
        have hl2 : lxp B (clf B c el on cd).2 = lxp B (lxe B (bdy B (srK (kd B c)) (lxe B c) cd).2.1) := by rw [hok.2.2.2.1]
        have ho2 : 0 ≤ clO (srK (kd B c)) on ∧ clO (srK (kd B c)) on ≤ 3 := by
          unfold clO
          split
          · have := bor_lt (a := on) (b := bsh (srK (kd B c))) 2 (by omega) (bsh_lt 2 (by omega) (by decide))
            have := bor_nn on (bsh (srK (kd B c)))
            omega
          · exact ho
        exact ih _ _ _ _ T51 _ rfl (hh51 (by omega)) (g.trans g51) (by unfold clE; rw [List.length_append]; show el.length + 1 ≤ 24; omega) ho2 (by omega) (by omega) hr
      · refine L_i1 dX11_readText_59 ?_
        exact RQ_i rfl dX11_readText_60 (by rw [if_neg (fun e => c47 (kd_1.mp e)), if_neg (by omega)] at hr; subst hr; exact ⟨T51, rfl, g.trans g51, e51, ht51, fun e => absurd e c56⟩)
set_option maxRecDepth 100000 in
theorem qX11_readText {S T : Nat → Int → Int} {D : List mx_C} (htp : TP T) (h_q : 0 ≤ T 37 0 ∧ T 37 0 ≤ 3) : SpI yX11_readText cX11_readText 2 (some .int) 11 [.ref 36] (W5 S T D) (fun v hp' => ∃ T', hp' = W5 S T' D ∧ XF (T 37 0) T T' ∧ v = (rdt (byF T) 302 0 [] 0 []).1 ∧ TS (byF T) T' (rdt (byF T) 302 0 [] 0 []).2.1 ∧ (v = 0 → ∃ on, RT (byF T) T' (T 37 0) (rdt (byF T) 302 0 [] 0 []).2.1 (rdt (byF T) 302 0 [] 0 []).2.2.1 on (rdt (byF T) 302 0 [] 0 []).2.2.2)) := by
  refine Sp.of [.ref 36, .retAddr 0] (by decide) (by simp) (Nat.le_of_ble_eq_true rfl) rfl (fun E => ?_)
  refine L_a0 dX11_readText_0 ?_
  refine J_sipush dX11_readText_1 (by decide) ?_
  refine L_a0 dX11_readText_4 ?_
  refine GW_36_0 fX11_7 dX11_readText_5 ?_
  refine J_iconst dX11_readText_8 ?_
  refine AR_37 dX11_readText_9 (by omega) ?_
  refine J_imul dX11_readText_10 ?_
  refine PW_36_12 fX11_152 dX11_readText_11 ?_
  refine L_a0 dX11_readText_14 ?_
  refine GW_36_2 fX11_16 dX11_readText_15 ?_
  refine L_a0 dX11_readText_18 ?_
  refine GW_36_12 fX11_152 dX11_readText_19 ?_
  refine J_eqi (b := 681 * T 37 0) (by rw [upS_s, up_s]) ?_
  refine J_iconst dX11_readText_22 ?_
  refine AS_39 dX11_readText_23 (by omega) ?_
  refine L_a0 dX11_readText_24 ?_
  refine J_iconst dX11_readText_25 ?_
  refine PW_36_13 fX11_155 dX11_readText_26 ?_
  refine L_a0 dX11_readText_29 ?_
  refine J_iconst dX11_readText_30 ?_
  refine PW_36_19 fX11_248 dX11_readText_31 ?_
  refine L_a0 dX11_readText_34 ?_
  refine J_iconst dX11_readText_35 ?_
  refine PW_36_7 fX11_105 dX11_readText_36 ?_
  refine L_a0 dX11_readText_39 ?_
  have hN0 : (upS (upS (upS (upS (upS T 36 (up (T 36) 12 (681 * T 37 0))) 39 (up ((upS T 36 (up (T 36) 12 (681 * T 37 0))) 39) (681 * T 37 0) 0)) 36 (up ((upS (upS T 36 (up (T 36) 12 (681 * T 37 0))) 39 (up ((upS T 36 (up (T 36) 12 (681 * T 37 0))) 39) (681 * T 37 0) 0)) 36) 13 0)) 36 (up ((upS (upS (upS T 36 (up (T 36) 12 (681 * T 37 0))) 39 (up ((upS T 36 (up (T 36) 12 (681 * T 37 0))) 39) (681 * T 37 0) 0)) 36 (up ((upS (upS T 36 (up (T 36) 12 (681 * T 37 0))) 39 (up ((upS T 36 (up (T 36) 12 (681 * T 37 0))) 39) (681 * T 37 0) 0)) 36) 13 0)) 36) 19 0)) 36 (up ((upS (upS (upS (upS T 36 (up (T 36) 12 (681 * T 37 0))) 39 (up ((upS T 36 (up (T 36) 12 (681 * T 37 0))) 39) (681 * T 37 0) 0)) 36 (up ((upS (upS T 36 (up (T 36) 12 (681 * T 37 0))) 39 (up ((upS T 36 (up (T 36) 12 (681 * T 37 0))) 39) (681 * T 37 0) 0)) 36) 13 0)) 36 (up ((upS (upS (upS T 36 (up (T 36) 12 (681 * T 37 0))) 39 (up ((upS T 36 (up (T 36) 12 (681 * T 37 0))) 39) (681 * T 37 0) 0)) 36 (up ((upS (upS T 36 (up (T 36) 12 (681 * T 37 0))) 39 (up ((upS T 36 (up (T 36) 12 (681 * T 37 0))) 39) (681 * T 37 0) 0)) 36) 13 0)) 36) 19 0)) 36) 7 0)) 36 7 = ((0 : Nat) : Int) := by rw [upS_s, up_s]; rfl
  have e4 : (upS (upS (upS (upS (upS T 36 (up (T 36) 12 (681 * T 37 0))) 39 (up ((upS T 36 (up (T 36) 12 (681 * T 37 0))) 39) (681 * T 37 0) 0)) 36 (up ((upS (upS T 36 (up (T 36) 12 (681 * T 37 0))) 39 (up ((upS T 36 (up (T 36) 12 (681 * T 37 0))) 39) (681 * T 37 0) 0)) 36) 13 0)) 36 (up ((upS (upS (upS T 36 (up (T 36) 12 (681 * T 37 0))) 39 (up ((upS T 36 (up (T 36) 12 (681 * T 37 0))) 39) (681 * T 37 0) 0)) 36 (up ((upS (upS T 36 (up (T 36) 12 (681 * T 37 0))) 39 (up ((upS T 36 (up (T 36) 12 (681 * T 37 0))) 39) (681 * T 37 0) 0)) 36) 13 0)) 36) 19 0)) 36 (up ((upS (upS (upS (upS T 36 (up (T 36) 12 (681 * T 37 0))) 39 (up ((upS T 36 (up (T 36) 12 (681 * T 37 0))) 39) (681 * T 37 0) 0)) 36 (up ((upS (upS T 36 (up (T 36) 12 (681 * T 37 0))) 39 (up ((upS T 36 (up (T 36) 12 (681 * T 37 0))) 39) (681 * T 37 0) 0)) 36) 13 0)) 36 (up ((upS (upS (upS T 36 (up (T 36) 12 (681 * T 37 0))) 39 (up ((upS T 36 (up (T 36) 12 (681 * T 37 0))) 39) (681 * T 37 0) 0)) 36 (up ((upS (upS T 36 (up (T 36) 12 (681 * T 37 0))) 39 (up ((upS T 36 (up (T 36) 12 (681 * T 37 0))) 39) (681 * T 37 0) 0)) 36) 13 0)) 36) 19 0)) 36) 7 0)) 36 4 = T 36 4 := by simp [upS, up]
  have e40 : (upS (upS (upS (upS (upS T 36 (up (T 36) 12 (681 * T 37 0))) 39 (up ((upS T 36 (up (T 36) 12 (681 * T 37 0))) 39) (681 * T 37 0) 0)) 36 (up ((upS (upS T 36 (up (T 36) 12 (681 * T 37 0))) 39 (up ((upS T 36 (up (T 36) 12 (681 * T 37 0))) 39) (681 * T 37 0) 0)) 36) 13 0)) 36 (up ((upS (upS (upS T 36 (up (T 36) 12 (681 * T 37 0))) 39 (up ((upS T 36 (up (T 36) 12 (681 * T 37 0))) 39) (681 * T 37 0) 0)) 36 (up ((upS (upS T 36 (up (T 36) 12 (681 * T 37 0))) 39 (up ((upS T 36 (up (T 36) 12 (681 * T 37 0))) 39) (681 * T 37 0) 0)) 36) 13 0)) 36) 19 0)) 36 (up ((upS (upS (upS (upS T 36 (up (T 36) 12 (681 * T 37 0))) 39 (up ((upS T 36 (up (T 36) 12 (681 * T 37 0))) 39) (681 * T 37 0) 0)) 36 (up ((upS (upS T 36 (up (T 36) 12 (681 * T 37 0))) 39 (up ((upS T 36 (up (T 36) 12 (681 * T 37 0))) 39) (681 * T 37 0) 0)) 36) 13 0)) 36 (up ((upS (upS (upS T 36 (up (T 36) 12 (681 * T 37 0))) 39 (up ((upS T 36 (up (T 36) 12 (681 * T 37 0))) 39) (681 * T 37 0) 0)) 36 (up ((upS (upS T 36 (up (T 36) 12 (681 * T 37 0))) 39 (up ((upS T 36 (up (T 36) 12 (681 * T 37 0))) 39) (681 * T 37 0) 0)) 36) 13 0)) 36) 19 0)) 36) 7 0)) 40 = T 40 := by simp [upS]
  have hby : byF (upS (upS (upS (upS (upS T 36 (up (T 36) 12 (681 * T 37 0))) 39 (up ((upS T 36 (up (T 36) 12 (681 * T 37 0))) 39) (681 * T 37 0) 0)) 36 (up ((upS (upS T 36 (up (T 36) 12 (681 * T 37 0))) 39 (up ((upS T 36 (up (T 36) 12 (681 * T 37 0))) 39) (681 * T 37 0) 0)) 36) 13 0)) 36 (up ((upS (upS (upS T 36 (up (T 36) 12 (681 * T 37 0))) 39 (up ((upS T 36 (up (T 36) 12 (681 * T 37 0))) 39) (681 * T 37 0) 0)) 36 (up ((upS (upS T 36 (up (T 36) 12 (681 * T 37 0))) 39 (up ((upS T 36 (up (T 36) 12 (681 * T 37 0))) 39) (681 * T 37 0) 0)) 36) 13 0)) 36) 19 0)) 36 (up ((upS (upS (upS (upS T 36 (up (T 36) 12 (681 * T 37 0))) 39 (up ((upS T 36 (up (T 36) 12 (681 * T 37 0))) 39) (681 * T 37 0) 0)) 36 (up ((upS (upS T 36 (up (T 36) 12 (681 * T 37 0))) 39 (up ((upS T 36 (up (T 36) 12 (681 * T 37 0))) 39) (681 * T 37 0) 0)) 36) 13 0)) 36 (up ((upS (upS (upS T 36 (up (T 36) 12 (681 * T 37 0))) 39 (up ((upS T 36 (up (T 36) 12 (681 * T 37 0))) 39) (681 * T 37 0) 0)) 36 (up ((upS (upS T 36 (up (T 36) 12 (681 * T 37 0))) 39 (up ((upS T 36 (up (T 36) 12 (681 * T 37 0))) 39) (681 * T 37 0) 0)) 36) 13 0)) 36) 19 0)) 36) 7 0)) = byF T := by funext k; unfold byF; rw [e4, e40]
  have htp1 : TP (upS (upS (upS (upS (upS T 36 (up (T 36) 12 (681 * T 37 0))) 39 (up ((upS T 36 (up (T 36) 12 (681 * T 37 0))) 39) (681 * T 37 0) 0)) 36 (up ((upS (upS T 36 (up (T 36) 12 (681 * T 37 0))) 39 (up ((upS T 36 (up (T 36) 12 (681 * T 37 0))) 39) (681 * T 37 0) 0)) 36) 13 0)) 36 (up ((upS (upS (upS T 36 (up (T 36) 12 (681 * T 37 0))) 39 (up ((upS T 36 (up (T 36) 12 (681 * T 37 0))) 39) (681 * T 37 0) 0)) 36 (up ((upS (upS T 36 (up (T 36) 12 (681 * T 37 0))) 39 (up ((upS T 36 (up (T 36) 12 (681 * T 37 0))) 39) (681 * T 37 0) 0)) 36) 13 0)) 36) 19 0)) 36 (up ((upS (upS (upS (upS T 36 (up (T 36) 12 (681 * T 37 0))) 39 (up ((upS T 36 (up (T 36) 12 (681 * T 37 0))) 39) (681 * T 37 0) 0)) 36 (up ((upS (upS T 36 (up (T 36) 12 (681 * T 37 0))) 39 (up ((upS T 36 (up (T 36) 12 (681 * T 37 0))) 39) (681 * T 37 0) 0)) 36) 13 0)) 36 (up ((upS (upS (upS T 36 (up (T 36) 12 (681 * T 37 0))) 39 (up ((upS T 36 (up (T 36) 12 (681 * T 37 0))) 39) (681 * T 37 0) 0)) 36 (up ((upS (upS T 36 (up (T 36) 12 (681 * T 37 0))) 39 (up ((upS T 36 (up (T 36) 12 (681 * T 37 0))) 39) (681 * T 37 0) 0)) 36) 13 0)) 36) 19 0)) 36) 7 0)) := by unfold TP; rw [e4, e40]; exact htp
  have h4 := htp.1
  have hX : XF (T 37 0) T (upS (upS (upS (upS (upS T 36 (up (T 36) 12 (681 * T 37 0))) 39 (up ((upS T 36 (up (T 36) 12 (681 * T 37 0))) 39) (681 * T 37 0) 0)) 36 (up ((upS (upS T 36 (up (T 36) 12 (681 * T 37 0))) 39 (up ((upS T 36 (up (T 36) 12 (681 * T 37 0))) 39) (681 * T 37 0) 0)) 36) 13 0)) 36 (up ((upS (upS (upS T 36 (up (T 36) 12 (681 * T 37 0))) 39 (up ((upS T 36 (up (T 36) 12 (681 * T 37 0))) 39) (681 * T 37 0) 0)) 36 (up ((upS (upS T 36 (up (T 36) 12 (681 * T 37 0))) 39 (up ((upS T 36 (up (T 36) 12 (681 * T 37 0))) 39) (681 * T 37 0) 0)) 36) 13 0)) 36) 19 0)) 36 (up ((upS (upS (upS (upS T 36 (up (T 36) 12 (681 * T 37 0))) 39 (up ((upS T 36 (up (T 36) 12 (681 * T 37 0))) 39) (681 * T 37 0) 0)) 36 (up ((upS (upS T 36 (up (T 36) 12 (681 * T 37 0))) 39 (up ((upS T 36 (up (T 36) 12 (681 * T 37 0))) 39) (681 * T 37 0) 0)) 36) 13 0)) 36 (up ((upS (upS (upS T 36 (up (T 36) 12 (681 * T 37 0))) 39 (up ((upS T 36 (up (T 36) 12 (681 * T 37 0))) 39) (681 * T 37 0) 0)) 36 (up ((upS (upS T 36 (up (T 36) 12 (681 * T 37 0))) 39 (up ((upS T 36 (up (T 36) 12 (681 * T 37 0))) 39) (681 * T 37 0) 0)) 36) 13 0)) 36) 19 0)) 36) 7 0)) := (XF_36 (by omega)).trans ((XF_39 (by omega)).trans ((XF_36 (by omega)).trans ((XF_36 (by omega)).trans (XF_36 (by omega)))))
  refine C_v0U vX11_185 dX11_readText_40 (qX11_nextToken (T := (upS (upS (upS (upS (upS T 36 (up (T 36) 12 (681 * T 37 0))) 39 (up ((upS T 36 (up (T 36) 12 (681 * T 37 0))) 39) (681 * T 37 0) 0)) 36 (up ((upS (upS T 36 (up (T 36) 12 (681 * T 37 0))) 39 (up ((upS T 36 (up (T 36) 12 (681 * T 37 0))) 39) (681 * T 37 0) 0)) 36) 13 0)) 36 (up ((upS (upS (upS T 36 (up (T 36) 12 (681 * T 37 0))) 39 (up ((upS T 36 (up (T 36) 12 (681 * T 37 0))) 39) (681 * T 37 0) 0)) 36 (up ((upS (upS T 36 (up (T 36) 12 (681 * T 37 0))) 39 (up ((upS T 36 (up (T 36) 12 (681 * T 37 0))) 39) (681 * T 37 0) 0)) 36) 13 0)) 36) 19 0)) 36 (up ((upS (upS (upS (upS T 36 (up (T 36) 12 (681 * T 37 0))) 39 (up ((upS T 36 (up (T 36) 12 (681 * T 37 0))) 39) (681 * T 37 0) 0)) 36 (up ((upS (upS T 36 (up (T 36) 12 (681 * T 37 0))) 39 (up ((upS T 36 (up (T 36) 12 (681 * T 37 0))) 39) (681 * T 37 0) 0)) 36) 13 0)) 36 (up ((upS (upS (upS T 36 (up (T 36) 12 (681 * T 37 0))) 39 (up ((upS T 36 (up (T 36) 12 (681 * T 37 0))) 39) (681 * T 37 0) 0)) 36 (up ((upS (upS T 36 (up (T 36) 12 (681 * T 37 0))) 39 (up ((upS T 36 (up (T 36) 12 (681 * T 37 0))) 39) (681 * T 37 0) 0)) 36) 13 0)) 36) 19 0)) 36) 7 0))) (c := 0) htp1 hN0 (by rw [e4]; omega)) rfl rfl (Nat.le_of_ble_eq_true rfl) (by decide) (fun hp40 hq40 => ?_)
  obtain ⟨T40, rfl, hN40, hct40⟩ := hq40
  have he := lxe_hi (byF_neg htp) (c := 0) (by omega)
  rw [hby] at hct40
  have hts : TS (byF T) T40 0 := ⟨hct40, by rw [hN40.by]; exact hby, hN40.tp htp1, by rw [hN40.len, e4]; omega⟩
  refine lX11_readText (q := T 37 0) h_q 302 0 [] 0 [] T40 _ rfl ⟨⟨hts, ?_, ?_, fun i hi => absurd hi (Nat.not_lt_zero _)⟩, ?_, ?_, fun i hi => absurd hi (Nat.not_lt_zero _)⟩ (hX.trans hN40.xf) (by decide) (by decide) (Nat.zero_le _) (by rw [hN40.len, e4]; omega) rfl
  · rw [hN40.2 12 (by omega)]; simp [upS, up]
  · rw [hN40.2 13 (by omega)]; simp [upS, up]
  · rw [hN40.1 39 (by decide)]; simp [upS, up]
  · rw [hN40.2 19 (by omega)]; simp [upS, up]

/-- what text() comes to -/
def TXq (T T' : Nat → Int → Int) (v : Int) (r : Int × Nat × List (Int × Int × Int) × List (Int × Int)) : Prop := Fr [36, 37, 39, 41] T T' ∧ (∀ j : Int, (j < 4 ∨ 20 ≤ j) → T' 36 j = T 36 j) ∧ T' 36 4 = 0 ∧ T' 36 5 = r.1 ∧ T' 36 6 = (if r.1 = 0 then -1 else (lxp (byF T) r.2.1 : Int)) ∧ (∀ y : Int, (y < 681 * T 37 0 ∨ 681 * T 37 0 + 681 ≤ y) → T' 39 y = T 39 y) ∧ ((r.1 = 0 ∧ v = T 37 0 ∧ T' 37 = up (T 37) 0 (T 37 0 + 1) ∧ T' 39 (681 * T 37 0) = (r.2.2.1.length : Int) ∧ ER (T' 39) (T 37 0) r.2.2.1 ∧ CDd (T' 39) (681 * T 37 0 + 73) r.2.2.2) ∨ (¬ r.1 = 0 ∧ v = -1 ∧ T' 37 = T 37))
theorem rdt_B {B : Nat → Int} : ∀ (m c : Nat) (el : List (Int × Int × Int)) (on : Int) (cd : List (Int × Int)), 0 ≤ (rdt B m c el on cd).1 ∧ (rdt B m c el on cd).1 ≤ 100 := by
  intro m
  induction m with
  | zero => intro c el on cd; show (0 : Int) ≤ 1 ∧ (1 : Int) ≤ 100; omega
  | succ m ih =>
    intro c el on cd
    rw [rdt]
    split
    · show (0 : Int) ≤ 0 ∧ (0 : Int) ≤ 100; omega
    · split
      · exact ih _ _ _ _
      · exact clf_B
set_option maxRecDepth 100000 in
theorem qX11_text {S T : Nat → Int → Int} {D : List mx_C} (htp : TP T) (hv : MV (T 37)) : SpI yX11_text cX11_text 1 (some .int) 12 [.ref 36] (W5 S T D) (fun v hp' => ∃ T', hp' = W5 S T' D ∧ ((T 37 0 = 4 ∧ v = -1 ∧ T' = T) ∨ (¬ T 37 0 = 4 ∧ TXq T T' v (rdt (byF T) 302 0 [] 0 [])))) := by
  have ha := hv.2
  refine Sp.of [.ref 36] (by decide) (by simp) (Nat.le_of_ble_eq_true rfl) rfl (fun E => ?_)
  refine L_a0 dX11_text_0 ?_
  refine GW_36_0 fX11_7 dX11_text_1 ?_
  refine J_iconst dX11_text_4 ?_
  refine AB_37 dX11_text_5 (by omega) hv.1 (fun b5 => ?_)
  refine J_iconst dX11_text_6 ?_
  refine J_icmp_ne 12 dX11_text_7 rfl (by omega) (by omega) (fun c7 => ?_) (fun c7 => ?_)
  · refine L_a0 dX11_text_12 ?_
    refine L_a0 dX11_text_13 ?_
    refine C_v0I vX11_262 dX11_text_14 (qX11_readText htp (by omega)) rfl rfl (Nat.le_of_ble_eq_true rfl) (by decide) (fun v14 hp14 hq14 => ?_)
    obtain ⟨T14, rfl, g14, e14, ht14, hh14⟩ := hq14
    have g37 : T14 37 = T 37 := g14.1 37 (by decide)
    have hrb := rdt_B (B := byF T) 302 0 [] 0 []
    refine PW_36_5 fX11_22 dX11_text_17 ?_
    refine L_a0 dX11_text_20 ?_
    refine L_a0 dX11_text_21 ?_
    refine GW_36_5 fX11_22 dX11_text_22 ?_
    refine J_eqi (b := v14) (by rw [upS_s, up_s]) ?_
    refine J_if_ne 32 dX11_text_25 rfl (by omega) (fun c25 => ?_) (fun c25 => ?_)
    · refine L_a0 dX11_text_32 ?_
      refine GW_36_8 fX11_111 dX11_text_33 ?_
      refine J_eqi (b := (lxp (byF T) (rdt (byF T) 302 0 [] 0 []).2.1 : Int)) (by rw [← ht14.1.1]; simp [upS, up]) ?_
      refine PW_36_6 fX11_26 dX11_text_36 ?_
      refine L_a0 dX11_text_39 ?_
      refine J_iconst dX11_text_40 ?_
      refine PW_36_4 fX11_98 dX11_text_41 ?_
      refine L_a0 dX11_text_44 ?_
      refine GW_36_5 fX11_22 dX11_text_45 ?_
      refine J_eqi (b := v14) (by simp [upS, up]) ?_
      refine J_if_eq 53 dX11_text_48 rfl (by omega) (fun c48 => ?_) (fun c48 => ?_)
      · refine L_a0 dX11_text_53 ?_
        refine GW_36_0 fX11_7 dX11_text_54 ?_
        refine J_iconst dX11_text_57 ?_
        refine E_dup2 dX11_text_58 rfl rfl ?_
        refine AR_37 dX11_text_59 (by omega) ?_
        refine J_eqi (b := T 37 0) (by rw [← g37]; simp [upS]) ?_
        refine J_iconst dX11_text_60 ?_
        refine J_iadd dX11_text_61 ?_
        refine AS_37 dX11_text_62 (by omega) ?_
        refine L_a0 dX11_text_63 ?_
        refine GW_36_0 fX11_7 dX11_text_64 ?_
        refine J_iconst dX11_text_67 ?_
        refine AR_37 dX11_text_68 (by omega) ?_
        refine J_eqi (b := T 37 0 + 1) (by simp [upS, up]) ?_
        refine J_iconst dX11_text_69 ?_
        refine J_isub dX11_text_70 ?_
        exact RQ_i rfl dX11_text_71 (by exfalso; omega)
      · refine J_iconst dX11_text_51 ?_
        exact RQ_i rfl dX11_text_52 (by
          refine ⟨_, rfl, Or.inr ⟨c7, ?_, ?_, ?_, ?_, ?_, ?_, Or.inr ⟨by omega, rfl, ?_⟩⟩⟩
          · exact (g14.1.mono (by decide)).trans ((Fr_up _ _ (by decide)).trans ((Fr_up _ _ (by decide)).trans (Fr_up _ _ (by decide))))
          · intro j hj; rw [← g14.2.1 j (by omega)]; simp [upS, up, show ¬ j = 4 by omega, show ¬ j = 5 by omega, show ¬ j = 6 by omega]
          · simp [upS, up]
          · rw [← e14]; simp [upS, up]
          · rw [if_neg (by omega), ← ht14.1.1]; simp [upS, up]
          · intro y hy; rw [← g14.2.2 y hy]; simp [upS]
          · rw [← g14.1 37 (by decide)]; simp [upS])
    · refine J_iconst dX11_text_28 ?_
      refine E_goto 36 dX11_text_29 rfl ?_
      refine PW_36_6 fX11_26 dX11_text_36 ?_
      refine L_a0 dX11_text_39 ?_
      refine J_iconst dX11_text_40 ?_
      refine PW_36_4 fX11_98 dX11_text_41 ?_
      refine L_a0 dX11_text_44 ?_
      refine GW_36_5 fX11_22 dX11_text_45 ?_
      refine J_eqi (b := v14) (by simp [upS, up]) ?_
      refine J_if_eq 53 dX11_text_48 rfl (by omega) (fun c48 => ?_) (fun c48 => ?_)
      · refine L_a0 dX11_text_53 ?_
        refine GW_36_0 fX11_7 dX11_text_54 ?_
        refine J_iconst dX11_text_57 ?_
        refine E_dup2 dX11_text_58 rfl rfl ?_
        refine AR_37 dX11_text_59 (by omega) ?_
        refine J_eqi (b := T 37 0) (by rw [← g37]; simp [upS]) ?_
        refine J_iconst dX11_text_60 ?_
        refine J_iadd dX11_text_61 ?_
        refine AS_37 dX11_text_62 (by omega) ?_
        refine L_a0 dX11_text_63 ?_
        refine GW_36_0 fX11_7 dX11_text_64 ?_
        refine J_iconst dX11_text_67 ?_
        refine AR_37 dX11_text_68 (by omega) ?_
        refine J_eqi (b := T 37 0 + 1) (by simp [upS, up]) ?_
        refine J_iconst dX11_text_69 ?_
        refine J_isub dX11_text_70 ?_
        exact RQ_i rfl dX11_text_71 (by
          obtain ⟨on, hrt⟩ := hh14 (by omega)
          refine ⟨_, rfl, Or.inr ⟨c7, ?_, ?_, ?_, ?_, ?_, ?_, Or.inl ⟨by omega, by omega, ?_, ?_, ?_, ?_⟩⟩⟩
          · exact (g14.1.mono (by decide)).trans ((Fr_up _ _ (by decide)).trans ((Fr_up _ _ (by decide)).trans ((Fr_up _ _ (by decide)).trans (Fr_up _ _ (by decide)))))
          · intro j hj; rw [← g14.2.1 j (by omega)]; simp [upS, up, show ¬ j = 4 by omega, show ¬ j = 5 by omega, show ¬ j = 6 by omega]
          · simp [upS, up]
          · rw [← e14]; simp [upS, up]
          · rw [if_pos (by omega)]; simp [upS, up]
          · intro y hy; rw [← g14.2.2 y hy]; simp [upS]
          · rw [upS_s, upS_n (by decide), upS_n (by decide), upS_n (by decide), g14.1 37 (by decide)]
          · have := hrt.2.1; simpa [upS] using this
          · have := hrt.2.2.2; simpa [upS] using this
          · have := hrt.1.2.2.2; simpa [upS] using this)
      · refine J_iconst dX11_text_51 ?_
        exact RQ_i rfl dX11_text_52 (by exfalso; omega)
  · refine J_iconst dX11_text_10 ?_
    exact RQ_i rfl dX11_text_11 ⟨T, rfl, Or.inl ⟨c7, rfl, rfl⟩⟩

