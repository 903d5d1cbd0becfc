/-! ===== the class: the reader's clauses, one after another ===== -/
abbrev RC := Int × Nat × List (Int × Int × Int) × Option (List Int) × Option (List Int)
def RL3 (B : Nat → Int) (n : Nat) (S0 S : Nat → Int → Int) (D : List mx_C) (r : RC) : Prop := Fr [3, 4, 8, 9, 10, 11] S0 S ∧ (∀ j : Int, ¬ (5 ≤ j ∧ j ≤ 10) → S 3 j = S0 3 j) ∧ SCT B n S ∧ (0 ≤ r.1 ∧ r.1 ≤ 6) ∧ S 3 10 = r.1 ∧ (0 ≤ S 3 6 ∧ S 3 6 ≤ 300) ∧ (∃ i : Nat, i ≤ n ∧ S 4 4 = (i : Int) ∧ tkc B i = r.2.1) ∧ (r.1 = 0 → S 3 5 = ((r.2.2.1.length : Nat) : Int) ∧ r.2.2.1.length ≤ 24 ∧ (∀ j : Nat, j < r.2.2.1.length → S 8 j = (r.2.2.1.getD j (0, 0, 0)).1 ∧ S 9 j = (r.2.2.1.getD j (0, 0, 0)).2.1 ∧ S 10 j = (r.2.2.1.getD j (0, 0, 0)).2.2) ∧ CLv D (va_rf (tx (S 3 8))) r.2.2.2.1 ∧ CLv D (va_rf (tx (S 3 9))) r.2.2.2.2)
def cCl (B : Nat → Int) (r : RC) : RC :=
  if kd B r.2.1 < 3 ∨ 9 < kd B r.2.1 then (1, r.2)
  else if (kd B r.2.1 = 3 ∧ ¬ r.2.2.2.1 = none) ∨ (kd B r.2.1 = 4 ∧ ¬ r.2.2.2.2 = none) then (4, r.2)
  else if 24 ≤ r.2.2.1.length then (6, r.2)
  else ((GX B 40 ((cBd B (kd B r.2.1) (lxe B r.2.1)).1, (cBd B (kd B r.2.1) (lxe B r.2.1)).2.1, [])).1, (GX B 40 ((cBd B (kd B r.2.1) (lxe B r.2.1)).1, (cBd B (kd B r.2.1) (lxe B r.2.1)).2.1, [])).2.1, r.2.2.1 ++ [(kd B r.2.1, (cBd B (kd B r.2.1) (lxe B r.2.1)).2.2)], (if kd B r.2.1 = 3 then some (cLw B (kd B r.2.1) (lxe B r.2.1)).2.2 else r.2.2.2.1), (if kd B r.2.1 = 4 then some (cLw B (kd B r.2.1) (lxe B r.2.1)).2.2 else r.2.2.2.2))
def ClR (B : Nat → Int) (n : Nat) (S0 T : Nat → Int → Int) (D : List mx_C) (r : RC) (hp' : List mx_C) : Prop := ∃ (S' : Nat → Int → Int) (D' : List mx_C), hp' = W5 S' T (D ++ D') ∧ RL3 B n S0 S' (D ++ D') r
theorem RL3.ref {B : Nat → Int} {n : Nat} {S0 S : Nat → Int → Int} {D : List mx_C} {r : RC} (h : RL3 B n S0 S D r) {k : Int} (hk : 1 ≤ k ∧ k ≤ 6) : RL3 B n S0 (upS S 3 (up (S 3) 10 k)) D (k, r.2) := by
  obtain ⟨h1, h2, h3, h4, h5, h6, h7, h8⟩ := h
  have e3 : upS S 3 (up (S 3) 10 k) 3 = up (S 3) 10 k := upS_s _ _ _
  have eo : ∀ x : Nat, ¬ x = 3 → upS S 3 (up (S 3) 10 k) x = S x := fun x hx => upS_n hx
  refine ⟨Fr.t h1 (Fr_up (l := [3]) S _ (by decide)) (by simp), fun j hj => ?_, h3.fr (by rw [eo 4 (by decide)]) (eo 5 (by decide)) (eo 6 (by decide)) (eo 7 (by decide)), ⟨by show 0 ≤ k; omega, by show k ≤ 6; omega⟩, ?_, ?_, ?_, fun hz => ?_⟩
  · rw [e3, up_n (by omega)]; exact h2 j hj
  · rw [e3, up_s]
  · rw [e3, up_n (by decide)]; exact h6
  · rw [eo 4 (by decide)]; exact h7
  · have hz : k = 0 := hz
    omega
def pu3 (S : Nat → Int → Int) (m k : Int) : Nat → Int → Int := upS (upS (upS S 8 (up (S 8) m k)) 9 (up (upS S 8 (up (S 8) m k) 9) m 0)) 10 (up (upS (upS S 8 (up (S 8) m k)) 9 (up (upS S 8 (up (S 8) m k) 9) m 0) 10) m 0)
theorem pu3_eq (S : Nat → Int → Int) (m k : Int) : pu3 S m k 8 = up (S 8) m k ∧ pu3 S m k 9 = up (S 9) m 0 ∧ pu3 S m k 10 = up (S 10) m 0 ∧ ∀ x : Nat, ¬ x = 8 → ¬ x = 9 → ¬ x = 10 → pu3 S m k x = S x := by
  unfold pu3
  refine ⟨?_, ?_, ?_, fun x a b c => ?_⟩
  · rw [upS_n (by decide), upS_n (by decide), upS_s]
  · rw [upS_n (by decide), upS_s, upS_n (by decide)]
  · rw [upS_s, upS_n (by decide), upS_n (by decide)]
  · rw [upS_n c, upS_n b, upS_n a]
theorem RS3.mkF {B : Nat → Int} {n i : Nat} {f : Int} {S : Nat → Int → Int} (hs : SCT B n S) (hi : i ≤ n) (hw : S 4 4 = (i : Int)) (hf : 0 ≤ f ∧ f ≤ 6) (h10 : S 3 10 = f) (h6 : 0 ≤ S 3 6 ∧ S 3 6 ≤ 300) : ∃ (l : List Int) (e : Int), RS3 B n S S e (f, tkc B i, l) := by
  by_cases h0 : f = 0
  · subst h0
    exact RS3.mk hs hi hw h10 h6
  · exact ⟨[], 0, Fr.refl _ _, fun _ _ _ => rfl, hs, hf, h10, h6, i, hi, hw, rfl, fun hz => absurd hz h0⟩
theorem GX_l (B : Nat → Int) (k f : Int) (c : Nat) (l : List Int) : (GX B k (f, c, l)).1 = (GX B k (f, c, [])).1 ∧ (GX B k (f, c, l)).2.1 = (GX B k (f, c, [])).2.1 := by
  unfold GX
  by_cases h : f = 0
  · rw [if_pos h, if_pos h]
    by_cases h2 : kd B c = k
    · rw [if_pos h2, if_pos h2]; exact ⟨rfl, rfl⟩
    · rw [if_neg h2, if_neg h2]; exact ⟨rfl, rfl⟩
  · rw [if_neg h, if_neg h]; exact ⟨rfl, rfl⟩
theorem GX_z {B : Nat → Int} {k f : Int} {c : Nat} {l : List Int} (h : (GX B k (f, c, l)).1 = 0) : f = 0 := by
  unfold GX at h
  by_cases h0 : f = 0
  · exact h0
  · rw [if_neg h0] at h; exact h
theorem getD_snoc {α : Type} (l : List α) (x d : α) (j : Nat) (hj : j < (l ++ [x]).length) : (l ++ [x]).getD j d = if j = l.length then x else l.getD j d := by
  rw [List.length_append, List.length_singleton] at hj
  rw [List.getD_eq_getElem?_getD, List.getD_eq_getElem?_getD]
  by_cases h : j = l.length
  · rw [if_pos h, h, List.getElem?_append_right (Nat.le_refl _), Nat.sub_self]; rfl
  · rw [if_neg h, List.getElem?_append_left (by omega)]
set_option maxRecDepth 100000 in
theorem tX3_readClause {E : mx_E} {S0 S T : Nat → Int → Int} {D : List mx_C} {B : Nat → Int} {n : Nat} {r : RC} (h : RL3 B n S0 S D r) (h0 : r.1 = 0) (hk : 3 ≤ kd B r.2.1 ∧ kd B r.2.1 ≤ 9) (hd3 : kd B r.2.1 = 3 → r.2.2.2.1 = none) (hd4 : kd B r.2.1 = 4 → r.2.2.2.2 = none) : Ev E yX3_readClause cX3_readClause 2 none (mx_km E 72 2 301 (fun r' hp' => r' = none ∧ ClR B n S0 T D (cCl B r) hp')) 2 301 59 [.ref 3, .int (jI (kd B r.2.1))] [] (W5 S T D) := by
  obtain ⟨h1, h2, h3, h4, h5, h6, ⟨i, hi, hw, hc⟩, h8⟩ := id h
  obtain ⟨z1, z2, z3, z4, z5⟩ := h8 h0
  have e1 : cCl B r = _ := (if_neg (by omega)).trans (if_neg (fun q => by rcases q with ⟨q1, q2⟩ | ⟨q1, q2⟩; exact q2 (hd3 q1); exact q2 (hd4 q1)))
  refine L_a0 dX3_readClause_59 ?_
  refine GW_3_5 fX3_31 dX3_readClause_60 ?_
  refine J_bipush dX3_readClause_63 (by decide) ?_
  refine J_icmp_lt 77 dX3_readClause_65 rfl (by omega) (by omega) (fun c65 => ?_) (fun c65 => ?_)
  · refine L_a0 dX3_readClause_77 ?_
    refine GW_3_1 fX3_18 dX3_readClause_78 ?_
    refine L_a0 dX3_readClause_81 ?_
    refine GW_3_5 fX3_31 dX3_readClause_82 ?_
    refine J_eqi (b := ((r.2.2.1.length : Nat) : Int)) z1 ?_
    refine L_i1 dX3_readClause_85 ?_
    refine AS_8 dX3_readClause_86 (by omega) ?_
    refine L_a0 dX3_readClause_87 ?_
    refine GW_3_2 fX3_22 dX3_readClause_88 ?_
    refine L_a0 dX3_readClause_91 ?_
    refine GW_3_5 fX3_31 dX3_readClause_92 ?_
    refine J_eqi (b := ((r.2.2.1.length : Nat) : Int)) (by rw [upS_n (by decide)]; exact z1) ?_
    refine J_iconst dX3_readClause_95 ?_
    refine AS_9 dX3_readClause_96 (by omega) ?_
    refine L_a0 dX3_readClause_97 ?_
    refine GW_3_3 fX3_25 dX3_readClause_98 ?_
    refine L_a0 dX3_readClause_101 ?_
    refine GW_3_5 fX3_31 dX3_readClause_102 ?_
    refine J_eqi (b := ((r.2.2.1.length : Nat) : Int)) (by rw [upS_n (by decide), upS_n (by decide)]; exact z1) ?_
    refine J_iconst dX3_readClause_105 ?_
    refine AS_10 dX3_readClause_106 (by omega) ?_
    refine L_a0 dX3_readClause_107 ?_
    refine GW_3_0 fX3_12 dX3_readClause_108 ?_
    show Ev _ _ _ _ _ _ _ _ _ _ _ (W5 (pu3 S ((r.2.2.1.length : Nat) : Int) (kd B r.2.1)) T D)
    obtain ⟨p8, p9, p10, po⟩ := pu3_eq S ((r.2.2.1.length : Nat) : Int) (kd B r.2.1)
    generalize pu3 S ((r.2.2.1.length : Nat) : Int) (kd B r.2.1) = S1 at p8 p9 p10 po ⊢
    have s1 : SCT B n S1 := h3.fr (by rw [po 4 (by decide) (by decide) (by decide)]) (po 5 (by decide) (by decide) (by decide)) (po 6 (by decide) (by decide) (by decide)) (po 7 (by decide) (by decide) (by decide))
    have q3 : S1 3 = S 3 := po 3 (by decide) (by decide) (by decide)
    have q4 : S1 4 = S 4 := po 4 (by decide) (by decide) (by decide)
    refine C_v0V vX3_83 dX3_readClause_111 (qX6_advance (B := B) (n := n) (i := i) s1 hi (by rw [q4]; exact hw) (by rw [hc]; omega)) rfl rfl (Nat.le_of_ble_eq_true rfl) (by decide) ?_
    obtain ⟨s2, w2, f2⟩ := adv_ok (i := i) s1
    have a3 : adv S1 i 3 = S 3 := (f2 3 (by decide)).trans q3
    have a8 : adv S1 i 8 = up (S 8) ((r.2.2.1.length : Nat) : Int) (kd B r.2.1) := (f2 8 (by decide)).trans p8
    have a9 : adv S1 i 9 = up (S 9) ((r.2.2.1.length : Nat) : Int) 0 := (f2 9 (by decide)).trans p9
    have a10 : adv S1 i 10 = up (S 10) ((r.2.2.1.length : Nat) : Int) 0 := (f2 10 (by decide)).trans p10
    have hin : i + 1 ≤ n := Nat.lt_of_le_of_ne hi (fun q => by have := h3.2.2.2.2; rw [← q, hc] at this; omega)
    have hFa : Fr [3, 4, 8, 9, 10, 11] S0 (adv S1 i) := fun x hx => by
      have n3 : ¬ x = 3 := fun q => hx (by rw [q]; decide)
      have n4 : ¬ x = 4 := fun q => hx (by rw [q]; decide)
      have n8 : ¬ x = 8 := fun q => hx (by rw [q]; decide)
      have n9 : ¬ x = 9 := fun q => hx (by rw [q]; decide)
      have n10 : ¬ x = 10 := fun q => hx (by rw [q]; decide)
      rw [f2 x (by simp; exact n4), po x n8 n9 n10]; exact h1 x hx
    have ec : tkc B (i + 1) = lxe B r.2.1 := by rw [← hc]; rfl
    refine L_a0 dX3_readClause_114 ?_
    refine L_i1 dX3_readClause_115 ?_
    refine E_callv 3 [.int (jI (kd B r.2.1))] vX3_86 dX3_readClause_116 (qX3_readRest s2 hin w2 (by omega) (by rw [a3]; omega) (by rw [a3]; exact h6) hk (cl := r.2.2.1.length) (by rw [a3]; exact z1) (by omega) (by rw [a9, up_s]) (by rw [a10, up_s]) (by rw [a3]; exact z4) (by rw [a3]; exact z5)) rfl rfl rfl (Nat.le_of_ble_eq_true rfl) ⟨Nat.le_of_ble_eq_true rfl, Nat.le_of_ble_eq_true rfl⟩ 0 0 (by omega) (by omega) _ rfl (fun r47 hp47 hq47 => ?_)
    obtain ⟨rfl, S2, D', rfl, g1, g2, g3, g4, g5, g6, ⟨i2, g7, g8, g9⟩, g10, g11⟩ := hq47
    rw [ec] at g4 g5 g9 g11
    obtain ⟨l, e, hr⟩ := RS3.mkF g3 g7 g8 g4 g5 g6
    refine L_a0 dX3_readClause_119 ?_
    refine J_bipush dX3_readClause_120 (by decide) ?_
    refine C_v1U vX3_89 dX3_readClause_122 (qX3_expect hr (k := 40) (by omega)) rfl rfl (Nat.le_of_ble_eq_true rfl) (by decide) (fun hp122 hq122 => ?_)
    obtain ⟨S3, rfl, k1, k2, k3, k4, k5, k6, ⟨i3, k7, k8, k9, k10⟩⟩ := hq122
    have m5 : S3 3 5 = ((r.2.2.1.length : Nat) : Int) := by rw [k2 5 (by decide) (by decide), g2 5 (by decide) (by decide) (by decide) (by decide) (by decide), a3]; exact z1
    refine L_a0 dX3_readClause_125 ?_
    refine E_dup dX3_readClause_126 rfl ?_
    refine GW_3_5 fX3_31 dX3_readClause_127 ?_
    refine J_iconst dX3_readClause_130 ?_
    refine J_iadd dX3_readClause_131 ?_
    refine PW_3_5 fX3_31 dX3_readClause_132 ?_
    refine E_vret rfl dX3_readClause_135 ⟨rfl, _, D', rfl, ?_⟩
    rw [e1, if_neg (by omega)]
    rw [g9] at k4 k5 k9 k10
    rw [(GX_l B 40 _ _ l).1] at k4 k5
    rw [(GX_l B 40 _ _ l).2] at k9
    have e3 : upS S3 3 (up (S3 3) 5 (S3 3 5 + 1)) 3 = up (S3 3) 5 (S3 3 5 + 1) := upS_s _ _ _
    have eo : ∀ x : Nat, ¬ x = 3 → upS S3 3 (up (S3 3) 5 (S3 3 5 + 1)) x = S3 x := fun x hx => upS_n hx
    refine ⟨Fr.t (Fr.t (Fr.t hFa g1 (by simp)) k1 (by simp)) (Fr_up (l := [3]) S3 _ (by decide)) (by simp), fun j hj => ?_, k3.fr (by rw [eo 4 (by decide)]) (eo 5 (by decide)) (eo 6 (by decide)) (eo 7 (by decide)), k4, ?_, ?_, ?_, fun hz => ?_⟩
    · rw [e3, up_n (by omega), k2 j (by omega) (by omega), g2 j (by omega) (by omega) (by omega) (by omega) (by omega), a3]; exact h2 j hj
    · rw [e3, up_n (by decide)]; exact k5
    · rw [e3, up_n (by decide)]; exact k6
    · rw [eo 4 (by decide)]; exact ⟨i3, k7, k8, k9⟩
    · have hz1 := GX_z hz
      obtain ⟨y1, y2, y3, y4⟩ := g11 hz1
      have o8 : upS S3 3 (up (S3 3) 5 (S3 3 5 + 1)) 8 = up (S 8) ((r.2.2.1.length : Nat) : Int) (kd B r.2.1) := by rw [eo 8 (by decide), k1 8 (by decide), g1 8 (by decide), a8]
      have o9 : upS S3 3 (up (S3 3) 5 (S3 3 5 + 1)) 9 = S2 9 := by rw [eo 9 (by decide), k1 9 (by decide)]
      have o10 : upS S3 3 (up (S3 3) 5 (S3 3 5 + 1)) 10 = S2 10 := by rw [eo 10 (by decide), k1 10 (by decide)]
      refine ⟨?_, ?_, fun j hj => ?_, ?_, ?_⟩
      · rw [e3, up_s, m5]
        show _ = (((r.2.2.1 ++ [_]).length : Nat) : Int)
        rw [List.length_append, List.length_singleton]; omega
      · show (r.2.2.1 ++ [_]).length ≤ 24
        rw [List.length_append, List.length_singleton]; omega
      · rw [o8, o9, o10]
        rw [getD_snoc _ _ _ _ hj]
        by_cases hj2 : j = r.2.2.1.length
        · rw [if_pos hj2, hj2, up_s]; exact ⟨rfl, y1, y2⟩
        · have hj3 : j < r.2.2.1.length := by
            have hj : j < (r.2.2.1 ++ [_]).length := hj
            rw [List.length_append, List.length_singleton] at hj; omega
          rw [if_neg hj2, up_n (by omega), (g10 j (by omega)).1, (g10 j (by omega)).2, a9, a10, up_n (by omega), up_n (by omega)]
          exact z3 j hj3
      · rw [e3, up_n (by decide), k2 8 (by decide) (by decide)]; exact y3
      · rw [e3, up_n (by decide), k2 9 (by decide) (by decide)]; exact y4
    
  · refine L_a0 dX3_readClause_68 ?_
    refine J_bipush dX3_readClause_69 (by decide) ?_
    refine C_v1V vX3_79 dX3_readClause_71 (qX3_refuse (by omega)) rfl rfl (Nat.le_of_ble_eq_true rfl) (by decide) ?_
    refine E_goto 135 dX3_readClause_74 rfl ?_
    refine E_vret rfl dX3_readClause_135 ⟨rfl, _, [], by rw [List.append_nil], ?_⟩
    rw [e1, if_pos (by omega), List.append_nil]
    exact h.ref (by omega)
set_option maxRecDepth 100000 in
theorem qX3_readClause {S0 S T : Nat → Int → Int} {D : List mx_C} {B : Nat → Int} {n : Nat} {r : RC} (h : RL3 B n S0 S D r) (h0 : r.1 = 0) : Sp yX3_readClause cX3_readClause 2 none 72 2 301 [.ref 3] (W5 S T D) (fun r' hp' => r' = none ∧ ClR B n S0 T D (cCl B r) hp') := by
  obtain ⟨h1, h2, h3, h4, h5, h6, ⟨i, hi, hw, hc⟩, h8⟩ := id h
  obtain ⟨z1, z2, z3, z4, z5⟩ := h8 h0
  have hkB := kd_B B r.2.1
  refine Sp.of [.ref 3, .retAddr 0] (by decide) (by simp) (Nat.le_of_ble_eq_true rfl) rfl (fun E => ?_)
  refine L_a0 dX3_readClause_0 ?_
  refine GW_3_0 fX3_12 dX3_readClause_1 ?_
  refine C_v0F vX3_58 dX3_readClause_4 (qX6_kind h3 hi hw) rfl rfl (Nat.le_of_ble_eq_true rfl) (by decide) ?_
  refine J_eqi (b := kd B r.2.1) (by rw [hc]) ?_
  refine S_i1 dX3_readClause_7 (by decide) rfl ?_
  refine L_i1 dX3_readClause_8 ?_
  refine J_iconst dX3_readClause_9 ?_
  refine J_icmp_lt 19 dX3_readClause_10 rfl (by omega) (by omega) (fun c10 => ?_) (fun c10 => ?_)
  · refine L_a0 dX3_readClause_19 ?_
    refine J_iconst dX3_readClause_20 ?_
    refine C_v1V vX3_79 dX3_readClause_21 (qX3_refuse (by omega)) rfl rfl (Nat.le_of_ble_eq_true rfl) (by decide) ?_
    refine E_goto 135 dX3_readClause_24 rfl ?_
    refine E_vret rfl dX3_readClause_135 ⟨rfl, _, [], by rw [List.append_nil], ?_⟩
    rw [show cCl B r = (1, r.2) from if_pos (by omega), List.append_nil]
    exact h.ref (by omega)
  · refine L_i1 dX3_readClause_13 ?_
    refine J_bipush dX3_readClause_14 (by decide) ?_
    refine J_icmp_le 27 dX3_readClause_16 rfl (by omega) (by omega) (fun c16 => ?_) (fun c16 => ?_)
    · refine L_i1 dX3_readClause_27 ?_
      refine J_iconst dX3_readClause_28 ?_
      refine J_icmp_ne 39 dX3_readClause_29 rfl (by omega) (by omega) (fun c29 => ?_) (fun c29 => ?_)
      · refine L_i1 dX3_readClause_39 ?_
        refine J_iconst dX3_readClause_40 ?_
        refine J_icmp_ne 59 dX3_readClause_41 rfl (by omega) (by omega) (fun c41 => ?_) (fun c41 => ?_)
        · exact tX3_readClause h h0 (by omega) (fun q => by first | omega | exact hlb) (fun q => by first | omega | exact hlt)
        · refine L_a0 dX3_readClause_44 ?_
          refine GW_3_9 fX3_45 dX3_readClause_45 ?_
          cases hlt : r.2.2.2.2 with
          | none =>
            rw [hlt] at z5
            rw [show va_rf (tx (S 3 9)) = .null from z5]
            refine E_ifnull_n 59 dX3_readClause_48 rfl ?_
            exact tX3_readClause h h0 (by omega) (fun q => by first | omega | exact hlb) (fun q => by first | omega | exact hlt)
          | some l =>
            rw [hlt] at z5
            obtain ⟨a, b, fc, q1, -⟩ := z5
            rw [q1]
            refine E_ifnull_r dX3_readClause_48 ?_
            refine L_a0 dX3_readClause_51 ?_
            refine J_iconst dX3_readClause_52 ?_
            refine C_v1V vX3_79 dX3_readClause_53 (qX3_refuse (by omega)) rfl rfl (Nat.le_of_ble_eq_true rfl) (by decide) ?_
            refine E_goto 135 dX3_readClause_56 rfl ?_
            refine E_vret rfl dX3_readClause_135 ⟨rfl, _, [], by rw [List.append_nil], ?_⟩
            rw [show cCl B r = (4, r.2) from (if_neg (by omega)).trans (if_pos (Or.inr ⟨by omega, by rw [hlt]; exact fun q => by cases q⟩)), List.append_nil]
            exact h.ref (by omega)
      · refine L_a0 dX3_readClause_32 ?_
        refine GW_3_8 fX3_41 dX3_readClause_33 ?_
        cases hlb : r.2.2.2.1 with
        | none =>
          rw [hlb] at z4
          rw [show va_rf (tx (S 3 8)) = .null from z4]
          refine E_ifnonnull_n dX3_readClause_36 ?_
          refine L_i1 dX3_readClause_39 ?_
          refine J_iconst dX3_readClause_40 ?_
          refine J_icmp_ne 59 dX3_readClause_41 rfl (by omega) (by omega) (fun c41 => ?_) (fun c41 => ?_)
          · exact tX3_readClause h h0 (by omega) (fun q => by first | omega | exact hlb) (fun q => by first | omega | exact hlt)
          · exfalso; omega
        | some l =>
          rw [hlb] at z4
          obtain ⟨a, b, fc, q1, -⟩ := z4
          rw [q1]
          refine E_ifnonnull_r 51 dX3_readClause_36 rfl ?_
          refine L_a0 dX3_readClause_51 ?_
          refine J_iconst dX3_readClause_52 ?_
          refine C_v1V vX3_79 dX3_readClause_53 (qX3_refuse (by omega)) rfl rfl (Nat.le_of_ble_eq_true rfl) (by decide) ?_
          refine E_goto 135 dX3_readClause_56 rfl ?_
          refine E_vret rfl dX3_readClause_135 ⟨rfl, _, [], by rw [List.append_nil], ?_⟩
          rw [show cCl B r = (4, r.2) from (if_neg (by omega)).trans (if_pos (Or.inl ⟨by omega, by rw [hlb]; exact fun q => by cases q⟩)), List.append_nil]
          exact h.ref (by omega)
    · refine L_a0 dX3_readClause_19 ?_
      refine J_iconst dX3_readClause_20 ?_
      refine C_v1V vX3_79 dX3_readClause_21 (qX3_refuse (by omega)) rfl rfl (Nat.le_of_ble_eq_true rfl) (by decide) ?_
      refine E_goto 135 dX3_readClause_24 rfl ?_
      refine E_vret rfl dX3_readClause_135 ⟨rfl, _, [], by rw [List.append_nil], ?_⟩
      rw [show cCl B r = (1, r.2) from if_pos (by omega), List.append_nil]
      exact h.ref (by omega)
