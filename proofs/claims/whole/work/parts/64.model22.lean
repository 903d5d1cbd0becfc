/-! ===== the reference: members, options ===== -/
/-- the members of a set are laid -/
def LM (T0 T : Nat → Int → Int) (s : Nat) (n : Nat) : Prop := (∀ k : Int, 0 ≤ k ∧ k < n → T 46 k = md_btw (T0 37) (T0 39) (T0 37 1) k + 1) ∧ T 36 32 = ((memN s n).length : Int) ∧ (∀ i : Nat, i < (memN s n).length → T 47 i = (((memN s n).getD i 0 : Nat) : Int)) ∧ (∀ j, ¬ j = 32 → T 36 j = T0 36 j) ∧ Fr [36, 42, 43, 44, 46, 47] T0 T
set_option maxRecDepth 100000 in
theorem lX11_layMembers {E : mx_E} {S T : Nat → Int → Int} {D : List mx_C} (hi : MI T) {s : Int} (h_s : 0 ≤ s ∧ s ≤ 255) : ∀ (m : Nat) (k : Int) (T1 : Nat → Int → Int), k + m = 8 → 0 ≤ k → LM T T1 s.toNat k.toNat → Ev E yX11_layMembers cX11_layMembers 3 none (kU E 9 (fun hp' => ∃ T', hp' = W5 S T' D ∧ LM T T' s.toNat 8)) 0 0 7 [.ref 36, .int (jI s), .int (jI k)] [] (W5 S T1 D) := by
  intro m
  induction m with
  | zero =>
    intro k T1 hk hk0 hL
    refine L_i2 dX11_layMembers_7 ?_
    refine J_bipush dX11_layMembers_8 (by decide) ?_
    refine J_icmp_ge 69 dX11_layMembers_10 rfl (by omega) (by omega) (fun c10 => ?_) (fun c10 => ?_)
    · exact RQ_v rfl dX11_layMembers_69 ⟨T1, rfl, by rw [show k.toNat = 8 by omega] at hL; exact hL⟩
    · exfalso; omega
  | succ m ih =>
    intro k T1 hk hk0 hL
    obtain ⟨n, rfl⟩ : ∃ n : Nat, k = n := ⟨k.toNat, by omega⟩
    rw [Int.toNat_natCast] at hL
    have hv := hi.1
    have ha := hv.2
    have e37 := hL.2.2.2.2 37 (by decide)
    have hi1 := hi.congr e37 (hL.2.2.2.2 39 (by decide))
    have hv1 := hi1.1
    have hlen := memN_len s.toNat n
    have h32 := hL.2.1
    refine L_i2 dX11_layMembers_7 ?_
    refine J_bipush dX11_layMembers_8 (by decide) ?_
    refine J_icmp_ge 69 dX11_layMembers_10 rfl (by omega) (by omega) (fun c10 => ?_) (fun c10 => ?_)
    · exfalso; omega
    · refine L_a0 dX11_layMembers_13 ?_
      refine GW_36_26 fX11_50 dX11_layMembers_14 ?_
      refine L_i2 dX11_layMembers_17 ?_
      refine L_a0 dX11_layMembers_18 ?_
      refine L_a0 dX11_layMembers_19 ?_
      refine GW_36_0 fX11_7 dX11_layMembers_20 ?_
      refine J_iconst dX11_layMembers_23 ?_
      refine AB_37 dX11_layMembers_24 (by omega) hv1.1 (fun b24 => ?_)
      rw [e37] at b24
      rw [e37]
      refine L_i2 dX11_layMembers_25 ?_
      refine C_v2I vX11_329 dX11_layMembers_26 (qX11_betweenByF hi1 (by rw [e37]; omega) (by omega)) rfl rfl (Nat.le_of_ble_eq_true rfl) (by decide) (fun v26 hp26 hq26 => ?_)
      obtain ⟨rfl, T26, rfl, f26⟩ := hq26
      rw [e37, hL.2.2.2.2 39 (by decide)]
      refine J_iconst dX11_layMembers_29 ?_
      refine J_iadd dX11_layMembers_30 ?_
      refine AS_46 dX11_layMembers_31 (by omega) ?_
      obtain ⟨T2, hT2⟩ : ∃ T2, T2 = upS T26 46 (up (T26 46) (n : Int) (md_btw (T 37) (T 39) (T 37 1) n + 1)) := ⟨_, rfl⟩
      refine E_eq rfl rfl rfl (show _ = W5 S T2 D from by rw [hT2]) ?_
      have g36 : T2 36 = T1 36 := by rw [hT2, upS_n (by decide)]; exact f26 36 (by decide)
      have g47 : T2 47 = T1 47 := by rw [hT2, upS_n (by decide)]; exact f26 47 (by decide)
      have g46 : ∀ k : Int, 0 ≤ k ∧ k < (n : Int) + 1 → T2 46 k = md_btw (T 37) (T 39) (T 37 1) k + 1 := by
        intro k hk
        rw [hT2, upS_s]
        by_cases h : k = n
        · rw [h, up_s]
        · rw [up_n h, f26 46 (by decide)]; exact hL.1 k (by omega)
      have gF : Fr [36, 42, 43, 44, 46, 47] T T2 := by rw [hT2]; exact (hL.2.2.2.2.trans (f26.mono (by decide))).trans (Fr_up _ _ (by decide))
      have hsb := bt_has (s := s) (k := (n : Int)) h_s.1
      rw [Int.toNat_natCast] at hsb
      refine L_i1 dX11_layMembers_32 ?_
      refine L_i2 dX11_layMembers_33 ?_
      refine C_s2F vX11_251 dX11_layMembers_34 (qX11_has (by omega) (by omega)) (Nat.le_of_ble_eq_true rfl) (by decide) ?_
      refine J_ifneB 43 dX11_layMembers_37 rfl (fun c37 => ?_) (fun c37 => ?_)
      · refine L_a0 dX11_layMembers_43 ?_
        refine GW_36_27 fX11_53 dX11_layMembers_44 ?_
        refine L_a0 dX11_layMembers_47 ?_
        refine GW_36_32 fX11_398 dX11_layMembers_48 ?_
        refine J_eqi (b := ((memN s.toNat n).length : Int)) (by rw [g36]; exact h32) ?_
        refine L_i2 dX11_layMembers_51 ?_
        refine AS_47 dX11_layMembers_52 (by omega) ?_
        refine E_eq rfl rfl rfl (show _ = W5 S (upS T2 47 (up (T2 47) (T2 36 32) (n : Int))) D from by rw [g36, h32]) ?_
        refine L_a0 dX11_layMembers_53 ?_
        refine E_dup dX11_layMembers_54 rfl ?_
        refine GW_36_32 fX11_398 dX11_layMembers_55 ?_
        refine J_iconst dX11_layMembers_58 ?_
        refine J_iadd dX11_layMembers_59 ?_
        refine PW_36_32 fX11_398 dX11_layMembers_60 ?_
        refine JI_2 dX11_layMembers_63 (by decide) rfl ?_
        refine E_goto 7 dX11_layMembers_66 rfl ?_
        have ht : s.toNat.testBit n = true := hsb.mp c37
        refine ih ((n : Int) + 1) _ (by omega) (by omega) ?_
        rw [show ((n : Int) + 1).toNat = n + 1 by omega]
        have em : memN s.toNat (n + 1) = memN s.toNat n ++ [n] := by rw [memN, ht]; simp
        unfold LM
        rw [em, List.length_append]
        refine ⟨fun k hk => ?_, ?_, fun i hi2 => ?_, fun j hj => ?_, ?_⟩
        · rw [upS_n (by decide), upS_n (by decide)]; exact g46 k (by omega)
        · rw [upS_s, up_s, upS_n (by decide), g36, h32]; simp
        · rw [upS_n (by decide), upS_s, g36, h32, g47]
          rw [List.length_singleton] at hi2
          by_cases h : i = (memN s.toNat n).length
          · rw [h, up_s, getD_append_r]
          · rw [up_n (by omega), getD_append_l (by omega)]
            exact hL.2.2.1 i (by omega)
        · rw [upS_s, up_n hj, upS_n (by decide), g36]; exact hL.2.2.2.1 j hj
        · exact gF.trans ((Fr_up _ _ (by decide)).trans (Fr_up _ _ (by decide)))
      · refine E_goto 63 dX11_layMembers_40 rfl ?_
        refine JI_2 dX11_layMembers_63 (by decide) rfl ?_
        refine E_goto 7 dX11_layMembers_66 rfl ?_
        refine ih ((n : Int) + 1) T2 (by omega) (by omega) ?_
        have ht : s.toNat.testBit n = false := by cases h : s.toNat.testBit n with
          | false => rfl
          | true => exact absurd (hsb.mpr h) c37
        rw [show ((n : Int) + 1).toNat = n + 1 by omega]
        have em : memN s.toNat (n + 1) = memN s.toNat n := by rw [memN, ht]; simp
        unfold LM
        rw [em, g36, g47]
        exact ⟨fun k hk => g46 k (by omega), hL.2.1, hL.2.2.1, hL.2.2.2.1, gF⟩

set_option maxRecDepth 100000 in
theorem qX11_layMembers {S T : Nat → Int → Int} {D : List mx_C} (hi : MI T) {s : Int} (h_s : 0 ≤ s ∧ s ≤ 255) : SpU yX11_layMembers cX11_layMembers 3 none 9 [.ref 36, .int (jI s)] (W5 S T D) (fun hp' => ∃ T', hp' = W5 S T' D ∧ LM T T' s.toNat 8) := by
  refine Sp.of [.ref 36, .int (jI s), .retAddr 0] (by decide) (by simp) (Nat.le_of_ble_eq_true rfl) rfl (fun E => ?_)
  refine L_a0 dX11_layMembers_0 ?_
  refine J_iconst dX11_layMembers_1 ?_
  refine PW_36_32 fX11_398 dX11_layMembers_2 ?_
  refine J_iconst dX11_layMembers_5 ?_
  refine S_i2 dX11_layMembers_6 (by decide) rfl ?_
  exact lX11_layMembers hi h_s 8 0 (upS T 36 (up (T 36) 32 0)) (by omega) (by omega) ⟨fun k hk => by omega, by rw [upS_s, up_s]; rfl, fun i hi2 => absurd hi2 (Nat.not_lt_zero _), fun j hj => by rw [upS_s, up_n hj], Fr_up _ _ (by decide)⟩

