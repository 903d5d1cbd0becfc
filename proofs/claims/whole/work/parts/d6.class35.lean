/-! ===== the class: the reader's bodies ===== -/
def gnF (B : Nat → Int) (lo hi : Int) (c : Nat) : Int := if kd B c = 2 then (if lo ≤ lxv B c ∧ lxv B c ≤ hi then 0 else 2) else 1
def gnC (B : Nat → Int) (lo hi : Int) (c : Nat) : Nat := if gnF B lo hi c = 0 then lxe B c else c
theorem GN_eq (B : Nat → Int) (lo hi : Int) (c : Nat) (l : List Int) : GN B lo hi (0, c, l) = (gnF B lo hi c, gnC B lo hi c, l) := by
  unfold GN gnC gnF
  rw [if_pos rfl]
  by_cases h1 : kd B c = 2
  · by_cases h2 : lo ≤ lxv B c ∧ lxv B c ≤ hi
    · rw [if_pos h1, if_pos h2, if_pos h1, if_pos h2, if_pos rfl]
    · rw [if_pos h1, if_neg h2, if_pos h1, if_neg h2, if_neg (by decide)]
  · rw [if_neg h1, if_neg h1, if_neg (by decide)]
theorem GN_bad {B : Nat → Int} {lo hi : Int} {r : RR} (h : ¬ r.1 = 0) : GN B lo hi r = r := if_neg h
theorem gnF_B (B : Nat → Int) (lo hi : Int) (c : Nat) : 0 ≤ gnF B lo hi c ∧ gnF B lo hi c ≤ 2 := by unfold gnF; split; split <;> omega; omega
/-- a clause's body: fault, where, its two numbers -/
def cBd (B : Nat → Int) (k : Int) (c : Nat) : Int × Nat × Int × Int :=
  if k = 9 then (gnF B 1 16 c, gnC B 1 16 c, lxv B c, 0)
  else if k = 6 then (gnF B 1 8 c, gnC B 1 8 c, lxv B c, 0)
  else if k = 8 then (gnF B 1 60 c, gnC B 1 60 c, lxv B c, 0)
  else if k = 7 then (0, c, 0, 0)
  else if k = 5 then (if gnF B 1 8 c = 0 then (if kd B (lxe B c) = 24 then (gnF B 0 15 (lxe B (lxe B c)), gnC B 0 15 (lxe B (lxe B c)), lxv B c, lxv B (lxe B (lxe B c))) else (1, lxe B c, 0, 0)) else (gnF B 1 8 c, c, 0, 0))
  else ((cLw B k c).1, (cLw B k c).2.1, 0, 0)
def BdR (B : Nat → Int) (n : Nat) (S T : Nat → Int → Int) (D : List mx_C) (k : Int) (c cl : Nat) (lb lt : Option (List Int)) (hp' : List mx_C) : Prop := ∃ (S' : Nat → Int → Int) (D' : List mx_C), hp' = W5 S' T (D ++ D') ∧ Fr [3, 4, 9, 10, 11] S S' ∧ (∀ j : Int, ¬ j = 6 → ¬ j = 7 → ¬ j = 8 → ¬ j = 9 → ¬ j = 10 → S' 3 j = S 3 j) ∧ SCT B n S' ∧ (0 ≤ (cBd B k c).1 ∧ (cBd B k c).1 ≤ 6) ∧ S' 3 10 = (cBd B k c).1 ∧ (0 ≤ S' 3 6 ∧ S' 3 6 ≤ 300) ∧ (∃ i : Nat, i ≤ n ∧ S' 4 4 = (i : Int) ∧ tkc B i = (cBd B k c).2.1) ∧ (∀ j : Int, ¬ j = (cl : Int) → S' 9 j = S 9 j ∧ S' 10 j = S 10 j) ∧ ((cBd B k c).1 = 0 → S' 9 cl = (cBd B k c).2.2.1 ∧ S' 10 cl = (cBd B k c).2.2.2 ∧ CLv (D ++ D') (va_rf (tx (S' 3 8))) (if k = 3 then some (cLw B k c).2.2 else lb) ∧ CLv (D ++ D') (va_rf (tx (S' 3 9))) (if k = 4 then some (cLw B k c).2.2 else lt))
theorem RS3.mk {B : Nat → Int} {n i : Nat} {S : Nat → Int → Int} (hs : SCT B n S) (hi : i ≤ n) (hw : S 4 4 = (i : Int)) (h10 : S 3 10 = 0) (h6 : 0 ≤ S 3 6 ∧ S 3 6 ≤ 300) : ∃ (l : List Int) (e : Int), RS3 B n S S e (0, tkc B i, l) := by
  refine ⟨(List.range (S 3 6).toNat).map (fun j : Nat => S 11 (j : Int)), (i : Int) - ((S 3 6).toNat : Int), Fr.refl _ _, fun _ _ _ => rfl, hs, by show (0 : Int) ≤ 0 ∧ (0 : Int) ≤ 6; omega, h10, h6, i, hi, hw, rfl, fun _ => ⟨⟨?_, fun j hj => ?_⟩, ?_⟩⟩
  · show _ = (((List.range (S 3 6).toNat).map (fun j : Nat => S 11 (j : Int))).length : Int)
    rw [List.length_map, List.length_range]; omega
  · have hj : j < ((List.range (S 3 6).toNat).map (fun j : Nat => S 11 (j : Int))).length := hj
    show _ = ((List.range (S 3 6).toNat).map (fun j : Nat => S 11 (j : Int))).getD j 0
    rw [List.length_map, List.length_range] at hj
    rw [List.getD_eq_getElem?_getD, List.getElem?_map, List.getElem?_range hj]
    rfl
  · show (((List.range (S 3 6).toNat).map (fun j : Nat => S 11 (j : Int))).length : Int) + _ ≤ _
    rw [List.length_map, List.length_range]; omega
theorem RS3.put {B : Nat → Int} {n : Nat} {S0 S : Nat → Int → Int} {e : Int} {r : RR} (h : RS3 B n S0 S e r) {x : Nat} (hx : x = 9 ∨ x = 10) (g : Int → Int) : RS3 B n (upS S x g) (upS S x g) e r := by
  obtain ⟨h1, h2, h3, h4, h5, h6, i, h7, h8, h9, h10⟩ := h
  have e3 : upS S x g 3 = S 3 := upS_n (by omega)
  have e4 : upS S x g 4 = S 4 := upS_n (by omega)
  have e11 : upS S x g 11 = S 11 := upS_n (by omega)
  refine ⟨Fr.refl _ _, fun _ _ _ => rfl, h3.fr (by rw [e4]) (upS_n (by omega)) (upS_n (by omega)) (upS_n (by omega)), h4, by rw [e3]; exact h5, by rw [e3]; exact h6, i, h7, by rw [e4]; exact h8, h9, fun h => ⟨?_, (h10 h).2⟩⟩
  have := (h10 h).1
  unfold CDc at this ⊢
  rw [e3, e11]
  exact this
set_option maxRecDepth 100000 in
theorem qX3_readRest {S T : Nat → Int → Int} {D : List mx_C} {B : Nat → Int} {n i : Nat} (hs : SCT B n S) (hi : i ≤ n) (hw : S 4 4 = (i : Int)) (hi1 : 1 ≤ i) (h10 : S 3 10 = 0) (h6 : 0 ≤ S 3 6 ∧ S 3 6 ≤ 300) {k : Int} (hk : 3 ≤ k ∧ k ≤ 9) {cl : Nat} (h5 : S 3 5 = (cl : Int)) (hcl : cl < 24) (h9 : S 9 cl = 0) (h10b : S 10 cl = 0) {lb lt : Option (List Int)} (hb : CLv D (va_rf (tx (S 3 8))) lb) (ht : CLv D (va_rf (tx (S 3 9))) lt) : Sp yX3_readRest cX3_readRest 2 none 71 2 301 [.ref 3, .int (jI k)] (W5 S T D) (fun r' hp' => r' = none ∧ BdR B n S T D k (tkc B i) cl lb lt hp') := by
  obtain ⟨l, e, hr⟩ := RS3.mk hs hi hw h10 h6
  refine Sp.of [.ref 3, .int (jI k)] (by decide) (by simp) (Nat.le_of_ble_eq_true rfl) rfl (fun E => ?_)
  refine L_i1 dX3_readRest_0 ?_
  refine J_tab7 44 56 87 128 166 147 68 166 dX3_readRest_1 (by omega) rfl rfl rfl rfl rfl rfl rfl rfl rfl (fun c1 => ?_) (fun c1 => ?_) (fun c1 => ?_) (fun c1 => ?_) (fun c1 => ?_) (fun c1 => ?_) (fun c1 => ?_) (fun c1 => ?_)
  · refine L_a0 dX3_readRest_44 ?_
    refine L_a0 dX3_readRest_45 ?_
    refine L_i1 dX3_readRest_46 ?_
    refine E_callv 3 [.int (jI k)] vX3_92 dX3_readRest_47 (qX3_readLaw hs hi hw hi1 h10 (k := k) (by omega)) rfl rfl rfl (Nat.le_of_ble_eq_true rfl) ⟨Nat.le_of_ble_eq_true rfl, Nat.le_of_ble_eq_true rfl⟩ 0 0 (by omega) (by omega) _ rfl (fun r47 hp47 hq47 => ?_)
    obtain ⟨S2, D', rfl, rfl, g1, g2, g3, g4, g5, g6, g7, g8⟩ := hq47
    refine PWq_3_8 (x := ((D.length + 54 : Nat) : Int)) (by rw [tx_nat]; rfl) fX3_41 dX3_readRest_50 ?_
    refine E_goto 166 dX3_readRest_53 rfl ?_
    have eB : cBd B k (tkc B i) = ((cLw B k (tkc B i)).1, (cLw B k (tkc B i)).2.1, 0, 0) := by unfold cBd; rw [if_neg (by omega), if_neg (by omega), if_neg (by omega), if_neg (by omega), if_neg (by omega)]
    have e3 : upS S2 3 (up (S2 3) 8 ((D.length + 54 : Nat) : Int)) 3 = up (S2 3) 8 ((D.length + 54 : Nat) : Int) := upS_s _ _ _
    have eo : ∀ x : Nat, ¬ x = 3 → upS S2 3 (up (S2 3) 8 ((D.length + 54 : Nat) : Int)) x = S2 x := fun x hx => upS_n hx
    refine E_vret rfl dX3_readRest_166 ⟨rfl, ?_⟩
    unfold BdR
    rw [eB]
    refine ⟨_, D', rfl, Fr.t (Fr.mono g1 (l' := [3, 4, 9, 10, 11]) (by simp)) (Fr_up (l := [3]) S2 _ (by decide)) (by simp), fun j a b c d f => ?_, g3.fr (by rw [eo 4 (by decide)]) (eo 5 (by decide)) (eo 6 (by decide)) (eo 7 (by decide)), g4, ?_, ?_, ?_, fun j hj => ?_, fun hz => ⟨?_, ?_, ?_, ?_⟩⟩
    · rw [e3, up_n (by omega)]; exact g2 j a b f
    · rw [e3, up_n (by decide)]; exact g5
    · rw [e3, up_n (by decide)]; exact g6
    · rw [eo 4 (by decide)]; exact g7
    · rw [eo 9 (by decide), eo 10 (by decide), g1 9 (by decide), g1 10 (by decide)]; exact ⟨rfl, rfl⟩
    · rw [eo 9 (by decide), g1 9 (by decide)]; exact h9
    · rw [eo 10 (by decide), g1 10 (by decide)]; exact h10b
    · rw [e3, up_s, if_pos (by omega), tx_nat]; exact g8 hz
    · rw [e3, up_n (by decide), if_neg (by omega), g2 9 (by decide) (by decide) (by decide)]; exact ht.app
  · refine L_a0 dX3_readRest_56 ?_
    refine L_a0 dX3_readRest_57 ?_
    refine L_i1 dX3_readRest_58 ?_
    refine E_callv 3 [.int (jI k)] vX3_92 dX3_readRest_59 (qX3_readLaw hs hi hw hi1 h10 (k := k) (by omega)) rfl rfl rfl (Nat.le_of_ble_eq_true rfl) ⟨Nat.le_of_ble_eq_true rfl, Nat.le_of_ble_eq_true rfl⟩ 0 0 (by omega) (by omega) _ rfl (fun r47 hp47 hq47 => ?_)
    obtain ⟨S2, D', rfl, rfl, g1, g2, g3, g4, g5, g6, g7, g8⟩ := hq47
    refine PWq_3_9 (x := ((D.length + 54 : Nat) : Int)) (by rw [tx_nat]; rfl) fX3_45 dX3_readRest_62 ?_
    refine E_goto 166 dX3_readRest_65 rfl ?_
    have eB : cBd B k (tkc B i) = ((cLw B k (tkc B i)).1, (cLw B k (tkc B i)).2.1, 0, 0) := by unfold cBd; rw [if_neg (by omega), if_neg (by omega), if_neg (by omega), if_neg (by omega), if_neg (by omega)]
    have e3 : upS S2 3 (up (S2 3) 9 ((D.length + 54 : Nat) : Int)) 3 = up (S2 3) 9 ((D.length + 54 : Nat) : Int) := upS_s _ _ _
    have eo : ∀ x : Nat, ¬ x = 3 → upS S2 3 (up (S2 3) 9 ((D.length + 54 : Nat) : Int)) x = S2 x := fun x hx => upS_n hx
    refine E_vret rfl dX3_readRest_166 ⟨rfl, ?_⟩
    unfold BdR
    rw [eB]
    refine ⟨_, D', rfl, Fr.t (Fr.mono g1 (l' := [3, 4, 9, 10, 11]) (by simp)) (Fr_up (l := [3]) S2 _ (by decide)) (by simp), fun j a b c d f => ?_, g3.fr (by rw [eo 4 (by decide)]) (eo 5 (by decide)) (eo 6 (by decide)) (eo 7 (by decide)), g4, ?_, ?_, ?_, fun j hj => ?_, fun hz => ⟨?_, ?_, ?_, ?_⟩⟩
    · rw [e3, up_n (by omega)]; exact g2 j a b f
    · rw [e3, up_n (by decide)]; exact g5
    · rw [e3, up_n (by decide)]; exact g6
    · rw [eo 4 (by decide)]; exact g7
    · rw [eo 9 (by decide), eo 10 (by decide), g1 9 (by decide), g1 10 (by decide)]; exact ⟨rfl, rfl⟩
    · rw [eo 9 (by decide), g1 9 (by decide)]; exact h9
    · rw [eo 10 (by decide), g1 10 (by decide)]; exact h10b
    · rw [e3, up_n (by decide), if_neg (by omega), g2 8 (by decide) (by decide) (by decide)]; exact hb.app
    · rw [e3, up_s, if_pos (by omega), tx_nat]; exact g8 hz
  · refine L_a0 dX3_readRest_87 ?_
    refine GW_3_2 fX3_22 dX3_readRest_88 ?_
    refine L_a0 dX3_readRest_91 ?_
    refine GW_3_5 fX3_31 dX3_readRest_92 ?_
    refine L_a0 dX3_readRest_95 ?_
    refine J_iconst dX3_readRest_96 ?_
    refine J_bipush dX3_readRest_97 (by decide) ?_
    refine C_v2I vX3_96 dX3_readRest_99 (qX3_readNumber hr (lo := 1) (top := 8) (by omega) (by omega)) rfl rfl (Nat.le_of_ble_eq_true rfl) (by decide) (fun v99 hp99 hq99 => ?_)
    obtain ⟨⟨S2, rfl, h2⟩, hv2, hvB⟩ := hq99
    rw [GN_eq] at h2 hv2
    refine AS_9 dX3_readRest_102 (by omega) ?_
    refine L_a0 dX3_readRest_103 ?_
    refine J_bipush dX3_readRest_104 (by decide) ?_
    refine C_v1U vX3_89 dX3_readRest_106 (qX3_expect (h2.put (Or.inl rfl) (up (S2 9) (S 3 5) v99)) (k := 24) (by omega)) rfl rfl (Nat.le_of_ble_eq_true rfl) (by decide) (fun hp106 hq106 => ?_)
    obtain ⟨S3, rfl, h3⟩ := hq106
    have e35 : S3 3 5 = (cl : Int) := by rw [h3.2.1 5 (by decide) (by decide), upS_n (by decide), h2.2.1 5 (by decide) (by decide)]; exact h5
    refine L_a0 dX3_readRest_109 ?_
    refine GW_3_3 fX3_25 dX3_readRest_110 ?_
    refine L_a0 dX3_readRest_113 ?_
    refine GW_3_5 fX3_31 dX3_readRest_114 ?_
    refine L_a0 dX3_readRest_117 ?_
    refine J_iconst dX3_readRest_118 ?_
    refine J_bipush dX3_readRest_119 (by decide) ?_
    refine C_v2I vX3_96 dX3_readRest_121 (qX3_readNumber h3 (lo := 0) (top := 15) (by omega) (by omega)) rfl rfl (Nat.le_of_ble_eq_true rfl) (by decide) (fun v121 hp121 hq121 => ?_)
    obtain ⟨⟨S4, rfl, h4⟩, hv4, hvB4⟩ := hq121
    refine AS_10 dX3_readRest_124 (by omega) ?_
    refine E_goto 166 dX3_readRest_125 rfl ?_
    refine E_vret rfl dX3_readRest_166 ⟨rfl, ?_⟩
    have eB : ((cBd B k (tkc B i)).1 = (GN B 0 15 (GX B 24 (gnF B 1 8 (tkc B i), gnC B 1 8 (tkc B i), l))).1 ∧ (cBd B k (tkc B i)).2.1 = (GN B 0 15 (GX B 24 (gnF B 1 8 (tkc B i), gnC B 1 8 (tkc B i), l))).2.1) ∧ ((cBd B k (tkc B i)).1 = 0 → gnF B 1 8 (tkc B i) = 0 ∧ (GX B 24 (gnF B 1 8 (tkc B i), gnC B 1 8 (tkc B i), l)) = (0, lxe B (lxe B (tkc B i)), l) ∧ (cBd B k (tkc B i)).2.2.1 = lxv B (tkc B i) ∧ (cBd B k (tkc B i)).2.2.2 = lxv B (lxe B (lxe B (tkc B i)))) := by
      unfold cBd
      rw [if_neg (by omega), if_neg (by omega), if_neg (by omega), if_neg (by omega), if_pos (show k = 5 by omega)]
      by_cases q1 : gnF B 1 8 (tkc B i) = 0
      · have ec : gnC B 1 8 (tkc B i) = lxe B (tkc B i) := if_pos q1
        rw [if_pos q1]
        unfold GX
        rw [q1, ec, if_pos rfl]
        by_cases q2 : kd B (lxe B (tkc B i)) = 24
        · rw [if_pos q2, if_pos q2, GN_eq]
          exact ⟨⟨rfl, rfl⟩, fun _ => ⟨rfl, rfl, rfl, rfl⟩⟩
        · rw [if_neg q2, if_neg q2, GN_bad (by show ¬ (1 : Int) = 0; decide)]
          exact ⟨⟨rfl, rfl⟩, fun hz => absurd hz (by show ¬ (1 : Int) = 0; decide)⟩
      · have ec : gnC B 1 8 (tkc B i) = tkc B i := if_neg q1
        rw [if_neg q1]
        unfold GX
        rw [if_neg q1, GN_bad q1, ec]
        exact ⟨⟨rfl, rfl⟩, fun hz => absurd hz q1⟩
    obtain ⟨⟨eB1, eB2⟩, eB3⟩ := eB
    obtain ⟨g1, g2, g3, g4, g5, g6, i2, g7, g8, g9, g10⟩ := id h4
    have f1 := h3.1
    have f2 := h2.1
    have eo : ∀ x : Nat, ¬ x = 10 → upS S4 10 (up (S4 10) (S3 3 5) v121) x = S4 x := fun x hx => upS_n hx
    have e10 : upS S4 10 (up (S4 10) (S3 3 5) v121) 10 = up (S4 10) (S3 3 5) v121 := upS_s _ _ _
    have c9 : S4 9 = up (S 9) cl v99 := by rw [g1 9 (by decide), upS_s, h5, f2 9 (by decide)]
    have c10 : S4 10 = S 10 := by rw [g1 10 (by decide), upS_n (by decide), f2 10 (by decide)]
    have hFF : Fr [3, 4, 9, 10, 11] S S4 := Fr.t (Fr.t (Fr.mono f2 (l' := [3, 4, 9, 10, 11]) (by simp)) (Fr_up (l := [9]) S2 _ (by decide)) (by simp)) g1 (by simp)
    have h38 : ∀ j : Int, ¬ j = 6 → ¬ j = 10 → S4 3 j = S 3 j := fun j a b => by rw [g2 j a b, upS_n (by decide), h2.2.1 j a b]
    unfold BdR
    rw [eB1, eB2]
    refine ⟨_, [], by rw [List.append_nil], Fr.t hFF (Fr_up (l := [10]) S4 _ (by decide)) (by simp), fun j a b c d f => ?_, g3.fr (by rw [eo 4 (by decide)]) (eo 5 (by decide)) (eo 6 (by decide)) (eo 7 (by decide)), g4, ?_, ?_, ⟨i2, g7, ?_, g9⟩, fun j hj => ?_, fun hz => ?_⟩
    · rw [eo 3 (by decide)]; exact h38 j a f
    · rw [eo 3 (by decide)]; exact g5
    · rw [eo 3 (by decide)]; exact g6
    · rw [eo 4 (by decide)]; exact g8
    · rw [e10, eo 9 (by decide), e35, up_n hj, c9, c10, up_n hj]; exact ⟨rfl, rfl⟩
    · rw [← eB1] at hz
      obtain ⟨z1, z2, z3, z4⟩ := eB3 hz
      rw [z3, z4]
      refine ⟨?_, ?_, ?_, ?_⟩
      · rw [eo 9 (by decide), c9, up_s]; exact hv2 z1
      · rw [e10, e35, up_s]
        have := hv4 (by rw [← eB1]; exact hz)
        rw [z2] at this
        exact this
      · rw [eo 3 (by decide), h38 8 (by decide) (by decide), if_neg (by omega), List.append_nil]; exact hb
      · rw [eo 3 (by decide), h38 9 (by decide) (by decide), if_neg (by omega), List.append_nil]; exact ht
  · refine L_a0 dX3_readRest_128 ?_
    refine GW_3_2 fX3_22 dX3_readRest_129 ?_
    refine L_a0 dX3_readRest_132 ?_
    refine GW_3_5 fX3_31 dX3_readRest_133 ?_
    refine L_a0 dX3_readRest_136 ?_
    refine J_iconst dX3_readRest_137 ?_
    refine J_bipush dX3_readRest_138 (by decide) ?_
    refine C_v2I vX3_96 dX3_readRest_140 (qX3_readNumber hr (lo := 1) (top := 8) (by omega) (by omega)) rfl rfl (Nat.le_of_ble_eq_true rfl) (by decide) (fun v140 hp140 hq140 => ?_)
    obtain ⟨⟨S2, rfl, h2⟩, hv2, hvB⟩ := hq140
    rw [GN_eq] at h2 hv2
    refine AS_9 dX3_readRest_143 (by omega) ?_
    refine E_goto 166 dX3_readRest_144 rfl ?_
    have eB : cBd B k (tkc B i) = (gnF B 1 8 (tkc B i), gnC B 1 8 (tkc B i), lxv B (tkc B i), 0) := by unfold cBd; rw [if_neg (by omega), if_pos (by omega)]
    refine E_vret rfl dX3_readRest_166 ⟨rfl, ?_⟩
    unfold BdR
    rw [eB]
    obtain ⟨g1, g2, g3, g4, g5, g6, i2, g7, g8, g9, g10⟩ := id h2
    have eo : ∀ x : Nat, ¬ x = 9 → upS S2 9 (up (S2 9) (S 3 5) v140) x = S2 x := fun x hx => upS_n hx
    have e9 : upS S2 9 (up (S2 9) (S 3 5) v140) 9 = up (S2 9) (S 3 5) v140 := upS_s _ _ _
    refine ⟨_, [], by rw [List.append_nil], Fr.t (Fr.mono g1 (l' := [3, 4, 9, 10, 11]) (by simp)) (Fr_up (l := [9]) S2 _ (by decide)) (by simp), fun j a b c d f => ?_, g3.fr (by rw [eo 4 (by decide)]) (eo 5 (by decide)) (eo 6 (by decide)) (eo 7 (by decide)), g4, ?_, ?_, ⟨i2, g7, ?_, g9⟩, fun j hj => ?_, fun hz => ⟨?_, ?_, ?_, ?_⟩⟩
    · rw [eo 3 (by decide)]; exact g2 j a f
    · rw [eo 3 (by decide)]; exact g5
    · rw [eo 3 (by decide)]; exact g6
    · rw [eo 4 (by decide)]; exact g8
    · rw [e9, eo 10 (by decide), h5, up_n hj, g1 9 (by decide), g1 10 (by decide)]; exact ⟨rfl, rfl⟩
    · rw [e9, h5, up_s]; exact hv2 hz
    · rw [eo 10 (by decide), g1 10 (by decide)]; exact h10b
    · rw [eo 3 (by decide), g2 8 (by decide) (by decide), if_neg (by omega), List.append_nil]; exact hb
    · rw [eo 3 (by decide), g2 9 (by decide) (by decide), if_neg (by omega), List.append_nil]; exact ht
  · have eB : cBd B k (tkc B i) = (0, tkc B i, 0, 0) := by unfold cBd; rw [if_neg (by omega), if_neg (by omega), if_neg (by omega), if_pos (by omega)]
    refine E_vret rfl dX3_readRest_166 ⟨rfl, ?_⟩
    unfold BdR
    rw [eB]
    exact ⟨S, [], by rw [List.append_nil], Fr.refl _ _, fun _ _ _ _ _ _ => rfl, hs, by show (0 : Int) ≤ 0 ∧ (0 : Int) ≤ 6; omega, h10, h6, ⟨i, hi, hw, rfl⟩, fun _ _ => ⟨rfl, rfl⟩, fun _ => ⟨h9, h10b, by rw [if_neg (by omega), List.append_nil]; exact hb, by rw [if_neg (by omega), List.append_nil]; exact ht⟩⟩
  · refine L_a0 dX3_readRest_147 ?_
    refine GW_3_2 fX3_22 dX3_readRest_148 ?_
    refine L_a0 dX3_readRest_151 ?_
    refine GW_3_5 fX3_31 dX3_readRest_152 ?_
    refine L_a0 dX3_readRest_155 ?_
    refine J_iconst dX3_readRest_156 ?_
    refine J_bipush dX3_readRest_157 (by decide) ?_
    refine C_v2I vX3_96 dX3_readRest_159 (qX3_readNumber hr (lo := 1) (top := 60) (by omega) (by omega)) rfl rfl (Nat.le_of_ble_eq_true rfl) (by decide) (fun v159 hp159 hq159 => ?_)
    obtain ⟨⟨S2, rfl, h2⟩, hv2, hvB⟩ := hq159
    rw [GN_eq] at h2 hv2
    refine AS_9 dX3_readRest_162 (by omega) ?_
    refine E_goto 166 dX3_readRest_163 rfl ?_
    have eB : cBd B k (tkc B i) = (gnF B 1 60 (tkc B i), gnC B 1 60 (tkc B i), lxv B (tkc B i), 0) := by unfold cBd; rw [if_neg (by omega), if_neg (by omega), if_pos (by omega)]
    refine E_vret rfl dX3_readRest_166 ⟨rfl, ?_⟩
    unfold BdR
    rw [eB]
    obtain ⟨g1, g2, g3, g4, g5, g6, i2, g7, g8, g9, g10⟩ := id h2
    have eo : ∀ x : Nat, ¬ x = 9 → upS S2 9 (up (S2 9) (S 3 5) v159) x = S2 x := fun x hx => upS_n hx
    have e9 : upS S2 9 (up (S2 9) (S 3 5) v159) 9 = up (S2 9) (S 3 5) v159 := upS_s _ _ _
    refine ⟨_, [], by rw [List.append_nil], Fr.t (Fr.mono g1 (l' := [3, 4, 9, 10, 11]) (by simp)) (Fr_up (l := [9]) S2 _ (by decide)) (by simp), fun j a b c d f => ?_, g3.fr (by rw [eo 4 (by decide)]) (eo 5 (by decide)) (eo 6 (by decide)) (eo 7 (by decide)), g4, ?_, ?_, ⟨i2, g7, ?_, g9⟩, fun j hj => ?_, fun hz => ⟨?_, ?_, ?_, ?_⟩⟩
    · rw [eo 3 (by decide)]; exact g2 j a f
    · rw [eo 3 (by decide)]; exact g5
    · rw [eo 3 (by decide)]; exact g6
    · rw [eo 4 (by decide)]; exact g8
    · rw [e9, eo 10 (by decide), h5, up_n hj, g1 9 (by decide), g1 10 (by decide)]; exact ⟨rfl, rfl⟩
    · rw [e9, h5, up_s]; exact hv2 hz
    · rw [eo 10 (by decide), g1 10 (by decide)]; exact h10b
    · rw [eo 3 (by decide), g2 8 (by decide) (by decide), if_neg (by omega), List.append_nil]; exact hb
    · rw [eo 3 (by decide), g2 9 (by decide) (by decide), if_neg (by omega), List.append_nil]; exact ht
  · refine L_a0 dX3_readRest_68 ?_
    refine GW_3_2 fX3_22 dX3_readRest_69 ?_
    refine L_a0 dX3_readRest_72 ?_
    refine GW_3_5 fX3_31 dX3_readRest_73 ?_
    refine L_a0 dX3_readRest_76 ?_
    refine J_iconst dX3_readRest_77 ?_
    refine J_bipush dX3_readRest_78 (by decide) ?_
    refine C_v2I vX3_96 dX3_readRest_80 (qX3_readNumber hr (lo := 1) (top := 16) (by omega) (by omega)) rfl rfl (Nat.le_of_ble_eq_true rfl) (by decide) (fun v80 hp80 hq80 => ?_)
    obtain ⟨⟨S2, rfl, h2⟩, hv2, hvB⟩ := hq80
    rw [GN_eq] at h2 hv2
    refine AS_9 dX3_readRest_83 (by omega) ?_
    refine E_goto 166 dX3_readRest_84 rfl ?_
    have eB : cBd B k (tkc B i) = (gnF B 1 16 (tkc B i), gnC B 1 16 (tkc B i), lxv B (tkc B i), 0) := by unfold cBd; rw [if_pos (by omega)]
    refine E_vret rfl dX3_readRest_166 ⟨rfl, ?_⟩
    unfold BdR
    rw [eB]
    obtain ⟨g1, g2, g3, g4, g5, g6, i2, g7, g8, g9, g10⟩ := id h2
    have eo : ∀ x : Nat, ¬ x = 9 → upS S2 9 (up (S2 9) (S 3 5) v80) x = S2 x := fun x hx => upS_n hx
    have e9 : upS S2 9 (up (S2 9) (S 3 5) v80) 9 = up (S2 9) (S 3 5) v80 := upS_s _ _ _
    refine ⟨_, [], by rw [List.append_nil], Fr.t (Fr.mono g1 (l' := [3, 4, 9, 10, 11]) (by simp)) (Fr_up (l := [9]) S2 _ (by decide)) (by simp), fun j a b c d f => ?_, g3.fr (by rw [eo 4 (by decide)]) (eo 5 (by decide)) (eo 6 (by decide)) (eo 7 (by decide)), g4, ?_, ?_, ⟨i2, g7, ?_, g9⟩, fun j hj => ?_, fun hz => ⟨?_, ?_, ?_, ?_⟩⟩
    · rw [eo 3 (by decide)]; exact g2 j a f
    · rw [eo 3 (by decide)]; exact g5
    · rw [eo 3 (by decide)]; exact g6
    · rw [eo 4 (by decide)]; exact g8
    · rw [e9, eo 10 (by decide), h5, up_n hj, g1 9 (by decide), g1 10 (by decide)]; exact ⟨rfl, rfl⟩
    · rw [e9, h5, up_s]; exact hv2 hz
    · rw [eo 10 (by decide), g1 10 (by decide)]; exact h10b
    · rw [eo 3 (by decide), g2 8 (by decide) (by decide), if_neg (by omega), List.append_nil]; exact hb
    · rw [eo 3 (by decide), g2 9 (by decide) (by decide), if_neg (by omega), List.append_nil]; exact ht
  · exfalso; omega
