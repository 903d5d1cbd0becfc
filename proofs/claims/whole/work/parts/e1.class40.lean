/-! ===== both are built ===== -/
def iS (x : Nat) (j : Int) : Int := if x = 0 ∧ j = 11 then -1 else if x = 3 ∧ (j = 8 ∨ j = 9 ∨ j = 10 ∨ j = 11) then -1 else if x = 12 then -1 else if x = 14 ∨ x = 16 ∨ x = 30 then rw0 j else if x = 21 ∧ j = 6 then 1 else if x = 28 ∧ j = 4 then -1 else 0
set_option maxRecDepth 100000 in
theorem qX10_init : Sp yX10_init cX10_init 1 none 3 35 13640 [.ref 0] [ob 10 [.null, .null, .null, .null, .null, .null, .null, .null, .null, .null, .int 0, .int 0]] (fun r hp' => r = none ∧ hp' = wC iS) := by
  have := sX10_init (hp := []) (b := 0) rfl
  exact this.mono (fun r hp' q => ⟨q.1, q.2.trans rfl⟩)
def iT0 (x : Nat) (j : Int) : Int := if x = 36 ∧ (j = 5 ∨ j = 6) then -1 else if x = 36 ∧ j = 23 then 1 else 0
def iTi (i : Nat) (x : Nat) (j : Int) : Int := if x = 37 then (if j = 7 then 8 else if j = 1 then -1 else if j = 5 then 443 else if (8 ≤ j ∧ j < 8 + (i : Int)) ∨ (16 ≤ j ∧ j < 16 + (i : Int)) then -1 else 0) else iT0 x j
theorem iTi_s {i : Nat} (h : i < 8) : upS (iTi i) 37 (up (up (iTi i 37) (8 + (i : Int)) (-1)) (16 + (i : Int)) (-1)) = iTi (i + 1) := by
  funext x j
  by_cases hx : x = 37
  · subst hx
    rw [upS_s]
    show up (up (iTi i 37) (8 + (i : Int)) (-1)) (16 + (i : Int)) (-1) j = (if j = 7 then 8 else if j = 1 then -1 else if j = 5 then 443 else if (8 ≤ j ∧ j < 8 + ((i + 1 : Nat) : Int)) ∨ (16 ≤ j ∧ j < 16 + ((i + 1 : Nat) : Int)) then -1 else 0)
    unfold up
    rw [show iTi i 37 j = (if j = 7 then 8 else if j = 1 then -1 else if j = 5 then 443 else if (8 ≤ j ∧ j < 8 + (i : Int)) ∨ (16 ≤ j ∧ j < 16 + (i : Int)) then -1 else 0) from rfl]
    repeat' split
    all_goals first | rfl | omega
  · rw [upS_n hx]
    exact (if_neg hx).trans (if_neg hx).symm
theorem iTi_0 : upS (upS (upS iT0 37 (up (iT0 37) 5 443)) 37 (up (upS iT0 37 (up (iT0 37) 5 443) 37) 1 (-1))) 37 (up (upS (upS iT0 37 (up (iT0 37) 5 443)) 37 (up (upS iT0 37 (up (iT0 37) 5 443) 37) 1 (-1)) 37) 7 8) = iTi 0 := by
  funext x j
  by_cases hx : x = 37
  · subst hx
    rw [upS_s, upS_s, upS_s]
    show _ = (if j = 7 then 8 else if j = 1 then -1 else if j = 5 then 443 else if (8 ≤ j ∧ j < 8 + ((0 : Nat) : Int)) ∨ (16 ≤ j ∧ j < 16 + ((0 : Nat) : Int)) then -1 else 0)
    unfold up
    rw [show iT0 37 j = 0 from rfl]
    repeat' split
    all_goals first | rfl | omega
  · rw [upS_n hx, upS_n hx, upS_n hx]
    exact (if_neg hx).symm
def iT : Nat → Int → Int := upS (iTi 8) 38 (cpk (iTi 8 37) (iTi 8 38) 1663)
set_option maxRecDepth 100000 in
theorem lX11_init {E : mx_E} {S : Nat → Int → Int} {mc ms bc bs : Nat} : ∀ (m i : Nat), i + m = 8 → Ev E yX11_init cX11_init 2 none (mx_km E 1 mc ms (fun r hp' => r = none ∧ hp' = W5 S iT [])) bc bs 190 [.ref 36, .int (jI (i : Int))] [] (W5 S (iTi i) []) := by
  intro m
  induction m with
  | zero =>
    intro i hi
    obtain rfl : i = 8 := by omega
    refine L_i1 dX11_init_190 ?_
    refine J_bipush dX11_init_191 (by decide) ?_
    refine J_icmp_ge 209 dX11_init_193 rfl (by omega) (by omega) (fun c193 => ?_) (fun c193 => ?_)
    · refine L_a0 dX11_init_209 ?_
      refine GW_36_0 fX11_7 dX11_init_210 ?_
      refine L_a0 dX11_init_213 ?_
      refine GW_36_1 fX11_13 dX11_init_214 ?_
      refine C_s2V vX11_79 dX11_init_217 qX11_copy_image (Nat.le_of_ble_eq_true rfl) (by decide) ?_
      exact E_vret rfl dX11_init_220 ⟨rfl, rfl⟩
    · exfalso; omega
  | succ m ih =>
    intro i hi
    refine L_i1 dX11_init_190 ?_
    refine J_bipush dX11_init_191 (by decide) ?_
    refine J_icmp_ge 209 dX11_init_193 rfl (by omega) (by omega) (fun c193 => ?_) (fun c193 => ?_)
    · exfalso; omega
    refine L_a0 dX11_init_196 ?_
    refine L_i1 dX11_init_197 ?_
    refine J_iconst dX11_init_198 ?_
    refine J_iconst dX11_init_199 ?_
    refine C_v3V vX11_75 dX11_init_200 (qX11_layPlaces (by omega)) rfl rfl (Nat.le_of_ble_eq_true rfl) (by decide) ?_
    rw [iTi_s (by omega)]
    refine JI_1 dX11_init_203 (by decide) rfl ?_
    refine E_goto 190 dX11_init_206 rfl ?_
    exact ih (i + 1) (by omega)
set_option maxRecDepth 100000 in
theorem qX11_init {S : Nat → Int → Int} : Sp yX11_init cX11_init 2 none 1 17 40161 [.ref 36] (wC S ++ [ob 11 [.null, .null, .null, .null, .int 0, .int 0, .int 0, .int 0, .int 0, .int 0, .int 0, .long 0, .int 0, .int 0, .int 0, .null, .int 0, .int 0, .int 0, .int 0, .null, .null, .null, .int 0, .int 0, .null, .null, .null, .null, .null, .null, .null, .int 0, .int 0, .null, .null]]) (fun r hp' => r = none ∧ hp' = W5 S iT []) := by
  have hb : (wC S).length = 36 := rfl
  refine Sp.of [.ref 36, .retAddr 0] (by decide) (by simp) (Nat.le_of_ble_eq_true rfl) rfl (fun E => ?_)
  refine L_a0 dX11_init_0 ?_
  refine E_obj oX11_1 mx_obj1 mx_obj2 dX11_init_1 (Nat.le_of_ble_eq_true rfl) ⟨Nat.le_of_ble_eq_true rfl, Nat.le_of_ble_eq_true rfl⟩ ?_
  refine L_a0 dX11_init_4 ?_
  refine J_sipush dX11_init_5 (by decide) ?_
  refine CT_int 1663 37 rfl (by decide) (ctl hb rfl) (show _ = [ob 11 [.null, .null, .null, .null, .int 0, .int 0, .int 0, .int 0, .int 0, .int 0, .int 0, .long 0, .int 0, .int 0, .int 0, .null, .int 0, .int 0, .int 0, .int 0, .null, .null, .null, .int 0, .int 0, .null, .null, .null, .null, .null, .null, .null, .int 0, .int 0, .null, .null], ia 1663 (fun _ => 0)] from rfl) dX11_init_8 16 38498 (by omega) (by omega) ?_
  refine CT_pF (k := 0) (by omega) rfl (show _ = [ob 11 [.ref 37, .null, .null, .null, .int 0, .int 0, .int 0, .int 0, .int 0, .int 0, .int 0, .long 0, .int 0, .int 0, .int 0, .null, .int 0, .int 0, .int 0, .int 0, .null, .null, .null, .int 0, .int 0, .null, .null, .null, .null, .null, .null, .null, .int 0, .int 0, .null, .null], ia 1663 (fun _ => 0)] from rfl) fX11_7 tX11_0 ⟨rfl, rfl⟩ dX11_init_10 (Nat.le_of_ble_eq_true rfl) rfl rfl ?_
  refine L_a0 dX11_init_13 ?_
  refine J_sipush dX11_init_14 (by decide) ?_
  refine CT_int 1663 38 rfl (by decide) (ctl hb rfl) (show _ = [ob 11 [.ref 37, .null, .null, .null, .int 0, .int 0, .int 0, .int 0, .int 0, .int 0, .int 0, .long 0, .int 0, .int 0, .int 0, .null, .int 0, .int 0, .int 0, .int 0, .null, .null, .null, .int 0, .int 0, .null, .null, .null, .null, .null, .null, .null, .int 0, .int 0, .null, .null], ia 1663 (fun _ => 0), ia 1663 (fun _ => 0)] from rfl) dX11_init_17 15 36835 (by omega) (by omega) ?_
  refine CT_pF (k := 0) (by omega) rfl (show _ = [ob 11 [.ref 37, .ref 38, .null, .null, .int 0, .int 0, .int 0, .int 0, .int 0, .int 0, .int 0, .long 0, .int 0, .int 0, .int 0, .null, .int 0, .int 0, .int 0, .int 0, .null, .null, .null, .int 0, .int 0, .null, .null, .null, .null, .null, .null, .null, .int 0, .int 0, .null, .null], ia 1663 (fun _ => 0), ia 1663 (fun _ => 0)] from rfl) fX11_13 tX11_1 ⟨rfl, rfl⟩ dX11_init_19 (Nat.le_of_ble_eq_true rfl) rfl rfl ?_
  refine L_a0 dX11_init_22 ?_
  refine J_sipush dX11_init_23 (by decide) ?_
  refine CT_int 2724 39 rfl (by decide) (ctl hb rfl) (show _ = [ob 11 [.ref 37, .ref 38, .null, .null, .int 0, .int 0, .int 0, .int 0, .int 0, .int 0, .int 0, .long 0, .int 0, .int 0, .int 0, .null, .int 0, .int 0, .int 0, .int 0, .null, .null, .null, .int 0, .int 0, .null, .null, .null, .null, .null, .null, .null, .int 0, .int 0, .null, .null], ia 1663 (fun _ => 0), ia 1663 (fun _ => 0), ia 2724 (fun _ => 0)] from rfl) dX11_init_26 14 34111 (by omega) (by omega) ?_
  refine CT_pF (k := 0) (by omega) rfl (show _ = [ob 11 [.ref 37, .ref 38, .ref 39, .null, .int 0, .int 0, .int 0, .int 0, .int 0, .int 0, .int 0, .long 0, .int 0, .int 0, .int 0, .null, .int 0, .int 0, .int 0, .int 0, .null, .null, .null, .int 0, .int 0, .null, .null, .null, .null, .null, .null, .null, .int 0, .int 0, .null, .null], ia 1663 (fun _ => 0), ia 1663 (fun _ => 0), ia 2724 (fun _ => 0)] from rfl) fX11_16 tX11_2 ⟨rfl, rfl⟩ dX11_init_28 (Nat.le_of_ble_eq_true rfl) rfl rfl ?_
  refine L_a0 dX11_init_31 ?_
  refine J_sipush dX11_init_32 (by decide) ?_
  refine CT_int 300 40 rfl (by decide) (ctl hb rfl) (show _ = [ob 11 [.ref 37, .ref 38, .ref 39, .null, .int 0, .int 0, .int 0, .int 0, .int 0, .int 0, .int 0, .long 0, .int 0, .int 0, .int 0, .null, .int 0, .int 0, .int 0, .int 0, .null, .null, .null, .int 0, .int 0, .null, .null, .null, .null, .null, .null, .null, .int 0, .int 0, .null, .null], ia 1663 (fun _ => 0), ia 1663 (fun _ => 0), ia 2724 (fun _ => 0), ia 300 (fun _ => 0)] from rfl) dX11_init_35 13 33811 (by omega) (by omega) ?_
  refine CT_pF (k := 0) (by omega) rfl (show _ = [ob 11 [.ref 37, .ref 38, .ref 39, .ref 40, .int 0, .int 0, .int 0, .int 0, .int 0, .int 0, .int 0, .long 0, .int 0, .int 0, .int 0, .null, .int 0, .int 0, .int 0, .int 0, .null, .null, .null, .int 0, .int 0, .null, .null, .null, .null, .null, .null, .null, .int 0, .int 0, .null, .null], ia 1663 (fun _ => 0), ia 1663 (fun _ => 0), ia 2724 (fun _ => 0), ia 300 (fun _ => 0)] from rfl) fX11_19 tX11_3 ⟨rfl, rfl⟩ dX11_init_37 (Nat.le_of_ble_eq_true rfl) rfl rfl ?_
  refine L_a0 dX11_init_40 ?_
  refine J_iconst dX11_init_41 ?_
  refine CT_pn (k := 0) (by omega) rfl (show _ = [ob 11 [.ref 37, .ref 38, .ref 39, .ref 40, .int 0, .int (jI (-1)), .int 0, .int 0, .int 0, .int 0, .int 0, .long 0, .int 0, .int 0, .int 0, .null, .int 0, .int 0, .int 0, .int 0, .null, .null, .null, .int 0, .int 0, .null, .null, .null, .null, .null, .null, .null, .int 0, .int 0, .null, .null], ia 1663 (fun _ => 0), ia 1663 (fun _ => 0), ia 2724 (fun _ => 0), ia 300 (fun _ => 0)] from rfl) fX11_22 tX11_5 dX11_init_42 (Nat.le_of_ble_eq_true rfl) rfl rfl ?_
  refine L_a0 dX11_init_45 ?_
  refine J_iconst dX11_init_46 ?_
  refine CT_pn (k := 0) (by omega) rfl (show _ = [ob 11 [.ref 37, .ref 38, .ref 39, .ref 40, .int 0, .int (jI (-1)), .int (jI (-1)), .int 0, .int 0, .int 0, .int 0, .long 0, .int 0, .int 0, .int 0, .null, .int 0, .int 0, .int 0, .int 0, .null, .null, .null, .int 0, .int 0, .null, .null, .null, .null, .null, .null, .null, .int 0, .int 0, .null, .null], ia 1663 (fun _ => 0), ia 1663 (fun _ => 0), ia 2724 (fun _ => 0), ia 300 (fun _ => 0)] from rfl) fX11_26 tX11_6 dX11_init_47 (Nat.le_of_ble_eq_true rfl) rfl rfl ?_
  refine L_a0 dX11_init_50 ?_
  refine J_sipush dX11_init_51 (by decide) ?_
  refine CT_int 160 41 rfl (by decide) (ctl hb rfl) (show _ = [ob 11 [.ref 37, .ref 38, .ref 39, .ref 40, .int 0, .int (jI (-1)), .int (jI (-1)), .int 0, .int 0, .int 0, .int 0, .long 0, .int 0, .int 0, .int 0, .null, .int 0, .int 0, .int 0, .int 0, .null, .null, .null, .int 0, .int 0, .null, .null, .null, .null, .null, .null, .null, .int 0, .int 0, .null, .null], ia 1663 (fun _ => 0), ia 1663 (fun _ => 0), ia 2724 (fun _ => 0), ia 300 (fun _ => 0), ia 160 (fun _ => 0)] from rfl) dX11_init_54 12 33651 (by omega) (by omega) ?_
  refine CT_pF (k := 0) (by omega) rfl (show _ = [ob 11 [.ref 37, .ref 38, .ref 39, .ref 40, .int 0, .int (jI (-1)), .int (jI (-1)), .int 0, .int 0, .int 0, .int 0, .long 0, .int 0, .int 0, .int 0, .ref 41, .int 0, .int 0, .int 0, .int 0, .null, .null, .null, .int 0, .int 0, .null, .null, .null, .null, .null, .null, .null, .int 0, .int 0, .null, .null], ia 1663 (fun _ => 0), ia 1663 (fun _ => 0), ia 2724 (fun _ => 0), ia 300 (fun _ => 0), ia 160 (fun _ => 0)] from rfl) fX11_29 tX11_15 ⟨rfl, rfl⟩ dX11_init_56 (Nat.le_of_ble_eq_true rfl) rfl rfl ?_
  refine L_a0 dX11_init_59 ?_
  refine J_bipush dX11_init_60 (by decide) ?_
  refine CT_int 7 42 rfl (by decide) (ctl hb rfl) (show _ = [ob 11 [.ref 37, .ref 38, .ref 39, .ref 40, .int 0, .int (jI (-1)), .int (jI (-1)), .int 0, .int 0, .int 0, .int 0, .long 0, .int 0, .int 0, .int 0, .ref 41, .int 0, .int 0, .int 0, .int 0, .null, .null, .null, .int 0, .int 0, .null, .null, .null, .null, .null, .null, .null, .int 0, .int 0, .null, .null], ia 1663 (fun _ => 0), ia 1663 (fun _ => 0), ia 2724 (fun _ => 0), ia 300 (fun _ => 0), ia 160 (fun _ => 0), ia 7 (fun _ => 0)] from rfl) dX11_init_62 11 33644 (by omega) (by omega) ?_
  refine CT_pF (k := 0) (by omega) rfl (show _ = [ob 11 [.ref 37, .ref 38, .ref 39, .ref 40, .int 0, .int (jI (-1)), .int (jI (-1)), .int 0, .int 0, .int 0, .int 0, .long 0, .int 0, .int 0, .int 0, .ref 41, .int 0, .int 0, .int 0, .int 0, .ref 42, .null, .null, .int 0, .int 0, .null, .null, .null, .null, .null, .null, .null, .int 0, .int 0, .null, .null], ia 1663 (fun _ => 0), ia 1663 (fun _ => 0), ia 2724 (fun _ => 0), ia 300 (fun _ => 0), ia 160 (fun _ => 0), ia 7 (fun _ => 0)] from rfl) fX11_32 tX11_20 ⟨rfl, rfl⟩ dX11_init_64 (Nat.le_of_ble_eq_true rfl) rfl rfl ?_
  refine L_a0 dX11_init_67 ?_
  refine J_sipush dX11_init_68 (by decide) ?_
  refine CT_long 330 43 rfl (by decide) (ctl hb rfl) (show _ = [ob 11 [.ref 37, .ref 38, .ref 39, .ref 40, .int 0, .int (jI (-1)), .int (jI (-1)), .int 0, .int 0, .int 0, .int 0, .long 0, .int 0, .int 0, .int 0, .ref 41, .int 0, .int 0, .int 0, .int 0, .ref 42, .null, .null, .int 0, .int 0, .null, .null, .null, .null, .null, .null, .null, .int 0, .int 0, .null, .null], ia 1663 (fun _ => 0), ia 1663 (fun _ => 0), ia 2724 (fun _ => 0), ia 300 (fun _ => 0), ia 160 (fun _ => 0), ia 7 (fun _ => 0), la 330 (fun _ => 0)] from rfl) dX11_init_71 10 33314 (by omega) (by omega) ?_
  refine CT_pF (k := 0) (by omega) rfl (show _ = [ob 11 [.ref 37, .ref 38, .ref 39, .ref 40, .int 0, .int (jI (-1)), .int (jI (-1)), .int 0, .int 0, .int 0, .int 0, .long 0, .int 0, .int 0, .int 0, .ref 41, .int 0, .int 0, .int 0, .int 0, .ref 42, .ref 43, .null, .int 0, .int 0, .null, .null, .null, .null, .null, .null, .null, .int 0, .int 0, .null, .null], ia 1663 (fun _ => 0), ia 1663 (fun _ => 0), ia 2724 (fun _ => 0), ia 300 (fun _ => 0), ia 160 (fun _ => 0), ia 7 (fun _ => 0), la 330 (fun _ => 0)] from rfl) fX11_35 tX11_21 ⟨rfl, rfl⟩ dX11_init_73 (Nat.le_of_ble_eq_true rfl) rfl rfl ?_
  refine L_a0 dX11_init_76 ?_
  refine J_sipush dX11_init_77 (by decide) ?_
  refine CT_boolean 330 44 rfl (by decide) (ctl hb rfl) (show _ = [ob 11 [.ref 37, .ref 38, .ref 39, .ref 40, .int 0, .int (jI (-1)), .int (jI (-1)), .int 0, .int 0, .int 0, .int 0, .long 0, .int 0, .int 0, .int 0, .ref 41, .int 0, .int 0, .int 0, .int 0, .ref 42, .ref 43, .null, .int 0, .int 0, .null, .null, .null, .null, .null, .null, .null, .int 0, .int 0, .null, .null], ia 1663 (fun _ => 0), ia 1663 (fun _ => 0), ia 2724 (fun _ => 0), ia 300 (fun _ => 0), ia 160 (fun _ => 0), ia 7 (fun _ => 0), la 330 (fun _ => 0), za 330 (fun _ => 0)] from rfl) dX11_init_80 9 32984 (by omega) (by omega) ?_
  refine CT_pF (k := 0) (by omega) rfl (show _ = [ob 11 [.ref 37, .ref 38, .ref 39, .ref 40, .int 0, .int (jI (-1)), .int (jI (-1)), .int 0, .int 0, .int 0, .int 0, .long 0, .int 0, .int 0, .int 0, .ref 41, .int 0, .int 0, .int 0, .int 0, .ref 42, .ref 43, .ref 44, .int 0, .int 0, .null, .null, .null, .null, .null, .null, .null, .int 0, .int 0, .null, .null], ia 1663 (fun _ => 0), ia 1663 (fun _ => 0), ia 2724 (fun _ => 0), ia 300 (fun _ => 0), ia 160 (fun _ => 0), ia 7 (fun _ => 0), la 330 (fun _ => 0), za 330 (fun _ => 0)] from rfl) fX11_39 tX11_22 ⟨rfl, rfl⟩ dX11_init_82 (Nat.le_of_ble_eq_true rfl) rfl rfl ?_
  refine L_a0 dX11_init_85 ?_
  refine J_iconst dX11_init_86 ?_
  refine CT_pn (k := 0) (by omega) rfl (show _ = [ob 11 [.ref 37, .ref 38, .ref 39, .ref 40, .int 0, .int (jI (-1)), .int (jI (-1)), .int 0, .int 0, .int 0, .int 0, .long 0, .int 0, .int 0, .int 0, .ref 41, .int 0, .int 0, .int 0, .int 0, .ref 42, .ref 43, .ref 44, .int (jI 1), .int 0, .null, .null, .null, .null, .null, .null, .null, .int 0, .int 0, .null, .null], ia 1663 (fun _ => 0), ia 1663 (fun _ => 0), ia 2724 (fun _ => 0), ia 300 (fun _ => 0), ia 160 (fun _ => 0), ia 7 (fun _ => 0), la 330 (fun _ => 0), za 330 (fun _ => 0)] from rfl) fX11_43 tX11_23 dX11_init_87 (Nat.le_of_ble_eq_true rfl) rfl rfl ?_
  refine L_a0 dX11_init_90 ?_
  refine J_bipush dX11_init_91 (by decide) ?_
  refine CT_int 32 45 rfl (by decide) (ctl hb rfl) (show _ = [ob 11 [.ref 37, .ref 38, .ref 39, .ref 40, .int 0, .int (jI (-1)), .int (jI (-1)), .int 0, .int 0, .int 0, .int 0, .long 0, .int 0, .int 0, .int 0, .ref 41, .int 0, .int 0, .int 0, .int 0, .ref 42, .ref 43, .ref 44, .int (jI 1), .int 0, .null, .null, .null, .null, .null, .null, .null, .int 0, .int 0, .null, .null], ia 1663 (fun _ => 0), ia 1663 (fun _ => 0), ia 2724 (fun _ => 0), ia 300 (fun _ => 0), ia 160 (fun _ => 0), ia 7 (fun _ => 0), la 330 (fun _ => 0), za 330 (fun _ => 0), ia 32 (fun _ => 0)] from rfl) dX11_init_93 8 32952 (by omega) (by omega) ?_
  refine CT_pF (k := 0) (by omega) rfl (show _ = [ob 11 [.ref 37, .ref 38, .ref 39, .ref 40, .int 0, .int (jI (-1)), .int (jI (-1)), .int 0, .int 0, .int 0, .int 0, .long 0, .int 0, .int 0, .int 0, .ref 41, .int 0, .int 0, .int 0, .int 0, .ref 42, .ref 43, .ref 44, .int (jI 1), .int 0, .ref 45, .null, .null, .null, .null, .null, .null, .int 0, .int 0, .null, .null], ia 1663 (fun _ => 0), ia 1663 (fun _ => 0), ia 2724 (fun _ => 0), ia 300 (fun _ => 0), ia 160 (fun _ => 0), ia 7 (fun _ => 0), la 330 (fun _ => 0), za 330 (fun _ => 0), ia 32 (fun _ => 0)] from rfl) fX11_47 tX11_25 ⟨rfl, rfl⟩ dX11_init_95 (Nat.le_of_ble_eq_true rfl) rfl rfl ?_
  refine L_a0 dX11_init_98 ?_
  refine J_bipush dX11_init_99 (by decide) ?_
  refine CT_int 8 46 rfl (by decide) (ctl hb rfl) (show _ = [ob 11 [.ref 37, .ref 38, .ref 39, .ref 40, .int 0, .int (jI (-1)), .int (jI (-1)), .int 0, .int 0, .int 0, .int 0, .long 0, .int 0, .int 0, .int 0, .ref 41, .int 0, .int 0, .int 0, .int 0, .ref 42, .ref 43, .ref 44, .int (jI 1), .int 0, .ref 45, .null, .null, .null, .null, .null, .null, .int 0, .int 0, .null, .null], ia 1663 (fun _ => 0), ia 1663 (fun _ => 0), ia 2724 (fun _ => 0), ia 300 (fun _ => 0), ia 160 (fun _ => 0), ia 7 (fun _ => 0), la 330 (fun _ => 0), za 330 (fun _ => 0), ia 32 (fun _ => 0), ia 8 (fun _ => 0)] from rfl) dX11_init_101 7 32944 (by omega) (by omega) ?_
  refine CT_pF (k := 0) (by omega) rfl (show _ = [ob 11 [.ref 37, .ref 38, .ref 39, .ref 40, .int 0, .int (jI (-1)), .int (jI (-1)), .int 0, .int 0, .int 0, .int 0, .long 0, .int 0, .int 0, .int 0, .ref 41, .int 0, .int 0, .int 0, .int 0, .ref 42, .ref 43, .ref 44, .int (jI 1), .int 0, .ref 45, .ref 46, .null, .null, .null, .null, .null, .int 0, .int 0, .null, .null], ia 1663 (fun _ => 0), ia 1663 (fun _ => 0), ia 2724 (fun _ => 0), ia 300 (fun _ => 0), ia 160 (fun _ => 0), ia 7 (fun _ => 0), la 330 (fun _ => 0), za 330 (fun _ => 0), ia 32 (fun _ => 0), ia 8 (fun _ => 0)] from rfl) fX11_50 tX11_26 ⟨rfl, rfl⟩ dX11_init_103 (Nat.le_of_ble_eq_true rfl) rfl rfl ?_
  refine L_a0 dX11_init_106 ?_
  refine J_bipush dX11_init_107 (by decide) ?_
  refine CT_int 8 47 rfl (by decide) (ctl hb rfl) (show _ = [ob 11 [.ref 37, .ref 38, .ref 39, .ref 40, .int 0, .int (jI (-1)), .int (jI (-1)), .int 0, .int 0, .int 0, .int 0, .long 0, .int 0, .int 0, .int 0, .ref 41, .int 0, .int 0, .int 0, .int 0, .ref 42, .ref 43, .ref 44, .int (jI 1), .int 0, .ref 45, .ref 46, .null, .null, .null, .null, .null, .int 0, .int 0, .null, .null], ia 1663 (fun _ => 0), ia 1663 (fun _ => 0), ia 2724 (fun _ => 0), ia 300 (fun _ => 0), ia 160 (fun _ => 0), ia 7 (fun _ => 0), la 330 (fun _ => 0), za 330 (fun _ => 0), ia 32 (fun _ => 0), ia 8 (fun _ => 0), ia 8 (fun _ => 0)] from rfl) dX11_init_109 6 32936 (by omega) (by omega) ?_
  refine CT_pF (k := 0) (by omega) rfl (show _ = [ob 11 [.ref 37, .ref 38, .ref 39, .ref 40, .int 0, .int (jI (-1)), .int (jI (-1)), .int 0, .int 0, .int 0, .int 0, .long 0, .int 0, .int 0, .int 0, .ref 41, .int 0, .int 0, .int 0, .int 0, .ref 42, .ref 43, .ref 44, .int (jI 1), .int 0, .ref 45, .ref 46, .ref 47, .null, .null, .null, .null, .int 0, .int 0, .null, .null], ia 1663 (fun _ => 0), ia 1663 (fun _ => 0), ia 2724 (fun _ => 0), ia 300 (fun _ => 0), ia 160 (fun _ => 0), ia 7 (fun _ => 0), la 330 (fun _ => 0), za 330 (fun _ => 0), ia 32 (fun _ => 0), ia 8 (fun _ => 0), ia 8 (fun _ => 0)] from rfl) fX11_53 tX11_27 ⟨rfl, rfl⟩ dX11_init_111 (Nat.le_of_ble_eq_true rfl) rfl rfl ?_
  refine L_a0 dX11_init_114 ?_
  refine J_sipush dX11_init_115 (by decide) ?_
  refine CT_int 128 48 rfl (by decide) (ctl hb rfl) (show _ = [ob 11 [.ref 37, .ref 38, .ref 39, .ref 40, .int 0, .int (jI (-1)), .int (jI (-1)), .int 0, .int 0, .int 0, .int 0, .long 0, .int 0, .int 0, .int 0, .ref 41, .int 0, .int 0, .int 0, .int 0, .ref 42, .ref 43, .ref 44, .int (jI 1), .int 0, .ref 45, .ref 46, .ref 47, .null, .null, .null, .null, .int 0, .int 0, .null, .null], ia 1663 (fun _ => 0), ia 1663 (fun _ => 0), ia 2724 (fun _ => 0), ia 300 (fun _ => 0), ia 160 (fun _ => 0), ia 7 (fun _ => 0), la 330 (fun _ => 0), za 330 (fun _ => 0), ia 32 (fun _ => 0), ia 8 (fun _ => 0), ia 8 (fun _ => 0), ia 128 (fun _ => 0)] from rfl) dX11_init_118 5 32808 (by omega) (by omega) ?_
  refine CT_pF (k := 0) (by omega) rfl (show _ = [ob 11 [.ref 37, .ref 38, .ref 39, .ref 40, .int 0, .int (jI (-1)), .int (jI (-1)), .int 0, .int 0, .int 0, .int 0, .long 0, .int 0, .int 0, .int 0, .ref 41, .int 0, .int 0, .int 0, .int 0, .ref 42, .ref 43, .ref 44, .int (jI 1), .int 0, .ref 45, .ref 46, .ref 47, .ref 48, .null, .null, .null, .int 0, .int 0, .null, .null], ia 1663 (fun _ => 0), ia 1663 (fun _ => 0), ia 2724 (fun _ => 0), ia 300 (fun _ => 0), ia 160 (fun _ => 0), ia 7 (fun _ => 0), la 330 (fun _ => 0), za 330 (fun _ => 0), ia 32 (fun _ => 0), ia 8 (fun _ => 0), ia 8 (fun _ => 0), ia 128 (fun _ => 0)] from rfl) fX11_56 tX11_28 ⟨rfl, rfl⟩ dX11_init_120 (Nat.le_of_ble_eq_true rfl) rfl rfl ?_
  refine L_a0 dX11_init_123 ?_
  refine J_bipush dX11_init_124 (by decide) ?_
  refine CT_int 8 49 rfl (by decide) (ctl hb rfl) (show _ = [ob 11 [.ref 37, .ref 38, .ref 39, .ref 40, .int 0, .int (jI (-1)), .int (jI (-1)), .int 0, .int 0, .int 0, .int 0, .long 0, .int 0, .int 0, .int 0, .ref 41, .int 0, .int 0, .int 0, .int 0, .ref 42, .ref 43, .ref 44, .int (jI 1), .int 0, .ref 45, .ref 46, .ref 47, .ref 48, .null, .null, .null, .int 0, .int 0, .null, .null], ia 1663 (fun _ => 0), ia 1663 (fun _ => 0), ia 2724 (fun _ => 0), ia 300 (fun _ => 0), ia 160 (fun _ => 0), ia 7 (fun _ => 0), la 330 (fun _ => 0), za 330 (fun _ => 0), ia 32 (fun _ => 0), ia 8 (fun _ => 0), ia 8 (fun _ => 0), ia 128 (fun _ => 0), ia 8 (fun _ => 0)] from rfl) dX11_init_126 4 32800 (by omega) (by omega) ?_
  refine CT_pF (k := 0) (by omega) rfl (show _ = [ob 11 [.ref 37, .ref 38, .ref 39, .ref 40, .int 0, .int (jI (-1)), .int (jI (-1)), .int 0, .int 0, .int 0, .int 0, .long 0, .int 0, .int 0, .int 0, .ref 41, .int 0, .int 0, .int 0, .int 0, .ref 42, .ref 43, .ref 44, .int (jI 1), .int 0, .ref 45, .ref 46, .ref 47, .ref 48, .ref 49, .null, .null, .int 0, .int 0, .null, .null], ia 1663 (fun _ => 0), ia 1663 (fun _ => 0), ia 2724 (fun _ => 0), ia 300 (fun _ => 0), ia 160 (fun _ => 0), ia 7 (fun _ => 0), la 330 (fun _ => 0), za 330 (fun _ => 0), ia 32 (fun _ => 0), ia 8 (fun _ => 0), ia 8 (fun _ => 0), ia 128 (fun _ => 0), ia 8 (fun _ => 0)] from rfl) fX11_59 tX11_29 ⟨rfl, rfl⟩ dX11_init_128 (Nat.le_of_ble_eq_true rfl) rfl rfl ?_
  refine L_a0 dX11_init_131 ?_
  refine J_bipush dX11_init_132 (by decide) ?_
  refine CT_int 8 50 rfl (by decide) (ctl hb rfl) (show _ = [ob 11 [.ref 37, .ref 38, .ref 39, .ref 40, .int 0, .int (jI (-1)), .int (jI (-1)), .int 0, .int 0, .int 0, .int 0, .long 0, .int 0, .int 0, .int 0, .ref 41, .int 0, .int 0, .int 0, .int 0, .ref 42, .ref 43, .ref 44, .int (jI 1), .int 0, .ref 45, .ref 46, .ref 47, .ref 48, .ref 49, .null, .null, .int 0, .int 0, .null, .null], ia 1663 (fun _ => 0), ia 1663 (fun _ => 0), ia 2724 (fun _ => 0), ia 300 (fun _ => 0), ia 160 (fun _ => 0), ia 7 (fun _ => 0), la 330 (fun _ => 0), za 330 (fun _ => 0), ia 32 (fun _ => 0), ia 8 (fun _ => 0), ia 8 (fun _ => 0), ia 128 (fun _ => 0), ia 8 (fun _ => 0), ia 8 (fun _ => 0)] from rfl) dX11_init_134 3 32792 (by omega) (by omega) ?_
  refine CT_pF (k := 0) (by omega) rfl (show _ = [ob 11 [.ref 37, .ref 38, .ref 39, .ref 40, .int 0, .int (jI (-1)), .int (jI (-1)), .int 0, .int 0, .int 0, .int 0, .long 0, .int 0, .int 0, .int 0, .ref 41, .int 0, .int 0, .int 0, .int 0, .ref 42, .ref 43, .ref 44, .int (jI 1), .int 0, .ref 45, .ref 46, .ref 47, .ref 48, .ref 49, .ref 50, .null, .int 0, .int 0, .null, .null], ia 1663 (fun _ => 0), ia 1663 (fun _ => 0), ia 2724 (fun _ => 0), ia 300 (fun _ => 0), ia 160 (fun _ => 0), ia 7 (fun _ => 0), la 330 (fun _ => 0), za 330 (fun _ => 0), ia 32 (fun _ => 0), ia 8 (fun _ => 0), ia 8 (fun _ => 0), ia 128 (fun _ => 0), ia 8 (fun _ => 0), ia 8 (fun _ => 0)] from rfl) fX11_62 tX11_30 ⟨rfl, rfl⟩ dX11_init_136 (Nat.le_of_ble_eq_true rfl) rfl rfl ?_
  refine L_a0 dX11_init_139 ?_
  refine J_bipush dX11_init_140 (by decide) ?_
  refine CT_int 8 51 rfl (by decide) (ctl hb rfl) (show _ = [ob 11 [.ref 37, .ref 38, .ref 39, .ref 40, .int 0, .int (jI (-1)), .int (jI (-1)), .int 0, .int 0, .int 0, .int 0, .long 0, .int 0, .int 0, .int 0, .ref 41, .int 0, .int 0, .int 0, .int 0, .ref 42, .ref 43, .ref 44, .int (jI 1), .int 0, .ref 45, .ref 46, .ref 47, .ref 48, .ref 49, .ref 50, .null, .int 0, .int 0, .null, .null], ia 1663 (fun _ => 0), ia 1663 (fun _ => 0), ia 2724 (fun _ => 0), ia 300 (fun _ => 0), ia 160 (fun _ => 0), ia 7 (fun _ => 0), la 330 (fun _ => 0), za 330 (fun _ => 0), ia 32 (fun _ => 0), ia 8 (fun _ => 0), ia 8 (fun _ => 0), ia 128 (fun _ => 0), ia 8 (fun _ => 0), ia 8 (fun _ => 0), ia 8 (fun _ => 0)] from rfl) dX11_init_142 2 32784 (by omega) (by omega) ?_
  refine CT_pF (k := 0) (by omega) rfl (show _ = [ob 11 [.ref 37, .ref 38, .ref 39, .ref 40, .int 0, .int (jI (-1)), .int (jI (-1)), .int 0, .int 0, .int 0, .int 0, .long 0, .int 0, .int 0, .int 0, .ref 41, .int 0, .int 0, .int 0, .int 0, .ref 42, .ref 43, .ref 44, .int (jI 1), .int 0, .ref 45, .ref 46, .ref 47, .ref 48, .ref 49, .ref 50, .ref 51, .int 0, .int 0, .null, .null], ia 1663 (fun _ => 0), ia 1663 (fun _ => 0), ia 2724 (fun _ => 0), ia 300 (fun _ => 0), ia 160 (fun _ => 0), ia 7 (fun _ => 0), la 330 (fun _ => 0), za 330 (fun _ => 0), ia 32 (fun _ => 0), ia 8 (fun _ => 0), ia 8 (fun _ => 0), ia 128 (fun _ => 0), ia 8 (fun _ => 0), ia 8 (fun _ => 0), ia 8 (fun _ => 0)] from rfl) fX11_65 tX11_31 ⟨rfl, rfl⟩ dX11_init_144 (Nat.le_of_ble_eq_true rfl) rfl rfl ?_
  refine L_a0 dX11_init_147 ?_
  refine J_bipush dX11_init_148 (by decide) ?_
  refine CT_int 16 52 rfl (by decide) (ctl hb rfl) (show _ = [ob 11 [.ref 37, .ref 38, .ref 39, .ref 40, .int 0, .int (jI (-1)), .int (jI (-1)), .int 0, .int 0, .int 0, .int 0, .long 0, .int 0, .int 0, .int 0, .ref 41, .int 0, .int 0, .int 0, .int 0, .ref 42, .ref 43, .ref 44, .int (jI 1), .int 0, .ref 45, .ref 46, .ref 47, .ref 48, .ref 49, .ref 50, .ref 51, .int 0, .int 0, .null, .null], ia 1663 (fun _ => 0), ia 1663 (fun _ => 0), ia 2724 (fun _ => 0), ia 300 (fun _ => 0), ia 160 (fun _ => 0), ia 7 (fun _ => 0), la 330 (fun _ => 0), za 330 (fun _ => 0), ia 32 (fun _ => 0), ia 8 (fun _ => 0), ia 8 (fun _ => 0), ia 128 (fun _ => 0), ia 8 (fun _ => 0), ia 8 (fun _ => 0), ia 8 (fun _ => 0), ia 16 (fun _ => 0)] from rfl) dX11_init_150 1 32768 (by omega) (by omega) ?_
  refine CT_pF (k := 0) (by omega) rfl (show _ = [ob 11 [.ref 37, .ref 38, .ref 39, .ref 40, .int 0, .int (jI (-1)), .int (jI (-1)), .int 0, .int 0, .int 0, .int 0, .long 0, .int 0, .int 0, .int 0, .ref 41, .int 0, .int 0, .int 0, .int 0, .ref 42, .ref 43, .ref 44, .int (jI 1), .int 0, .ref 45, .ref 46, .ref 47, .ref 48, .ref 49, .ref 50, .ref 51, .int 0, .int 0, .ref 52, .null], ia 1663 (fun _ => 0), ia 1663 (fun _ => 0), ia 2724 (fun _ => 0), ia 300 (fun _ => 0), ia 160 (fun _ => 0), ia 7 (fun _ => 0), la 330 (fun _ => 0), za 330 (fun _ => 0), ia 32 (fun _ => 0), ia 8 (fun _ => 0), ia 8 (fun _ => 0), ia 128 (fun _ => 0), ia 8 (fun _ => 0), ia 8 (fun _ => 0), ia 8 (fun _ => 0), ia 16 (fun _ => 0)] from rfl) fX11_68 tX11_34 ⟨rfl, rfl⟩ dX11_init_152 (Nat.le_of_ble_eq_true rfl) rfl rfl ?_
  refine L_a0 dX11_init_155 ?_
  refine J_ldc (32768) dX11_init_156 kX11_71 (by decide) ?_
  refine CT_boolean 32768 53 rfl (by decide) (ctl hb rfl) (show _ = [ob 11 [.ref 37, .ref 38, .ref 39, .ref 40, .int 0, .int (jI (-1)), .int (jI (-1)), .int 0, .int 0, .int 0, .int 0, .long 0, .int 0, .int 0, .int 0, .ref 41, .int 0, .int 0, .int 0, .int 0, .ref 42, .ref 43, .ref 44, .int (jI 1), .int 0, .ref 45, .ref 46, .ref 47, .ref 48, .ref 49, .ref 50, .ref 51, .int 0, .int 0, .ref 52, .null], ia 1663 (fun _ => 0), ia 1663 (fun _ => 0), ia 2724 (fun _ => 0), ia 300 (fun _ => 0), ia 160 (fun _ => 0), ia 7 (fun _ => 0), la 330 (fun _ => 0), za 330 (fun _ => 0), ia 32 (fun _ => 0), ia 8 (fun _ => 0), ia 8 (fun _ => 0), ia 128 (fun _ => 0), ia 8 (fun _ => 0), ia 8 (fun _ => 0), ia 8 (fun _ => 0), ia 16 (fun _ => 0), za 32768 (fun _ => 0)] from rfl) dX11_init_158 0 0 (by omega) (by omega) ?_
  refine CT_pF (k := 0) (by omega) rfl (show _ = [ob 11 [.ref 37, .ref 38, .ref 39, .ref 40, .int 0, .int (jI (-1)), .int (jI (-1)), .int 0, .int 0, .int 0, .int 0, .long 0, .int 0, .int 0, .int 0, .ref 41, .int 0, .int 0, .int 0, .int 0, .ref 42, .ref 43, .ref 44, .int (jI 1), .int 0, .ref 45, .ref 46, .ref 47, .ref 48, .ref 49, .ref 50, .ref 51, .int 0, .int 0, .ref 52, .ref 53], ia 1663 (fun _ => 0), ia 1663 (fun _ => 0), ia 2724 (fun _ => 0), ia 300 (fun _ => 0), ia 160 (fun _ => 0), ia 7 (fun _ => 0), la 330 (fun _ => 0), za 330 (fun _ => 0), ia 32 (fun _ => 0), ia 8 (fun _ => 0), ia 8 (fun _ => 0), ia 128 (fun _ => 0), ia 8 (fun _ => 0), ia 8 (fun _ => 0), ia 8 (fun _ => 0), ia 16 (fun _ => 0), za 32768 (fun _ => 0)] from rfl) fX11_72 tX11_35 ⟨rfl, rfl⟩ dX11_init_160 (Nat.le_of_ble_eq_true rfl) rfl rfl ?_
  show Ev _ _ _ _ _ _ _ _ _ _ _ (W5 S iT0 [])
  refine L_a0 dX11_init_163 ?_
  refine GW_36_0 fX11_7 dX11_init_164 ?_
  refine J_iconst dX11_init_167 ?_
  refine J_sipush dX11_init_168 (by decide) ?_
  refine AS_37 dX11_init_171 (by decide) ?_
  refine L_a0 dX11_init_172 ?_
  refine GW_36_0 fX11_7 dX11_init_173 ?_
  refine J_iconst dX11_init_176 ?_
  refine J_iconst dX11_init_177 ?_
  refine AS_37 dX11_init_178 (by decide) ?_
  refine L_a0 dX11_init_179 ?_
  refine GW_36_0 fX11_7 dX11_init_180 ?_
  refine J_bipush dX11_init_183 (by decide) ?_
  refine J_bipush dX11_init_185 (by decide) ?_
  refine AS_37 dX11_init_187 (by decide) ?_
  rw [iTi_0]
  refine J_iconst dX11_init_188 ?_
  refine S_i1 dX11_init_189 (by decide) rfl ?_
  exact lX11_init 8 0 rfl
