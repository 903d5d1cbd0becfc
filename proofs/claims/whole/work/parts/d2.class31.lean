/-! ===== the class: the reader, its state and small methods ===== -/
/-- fault, where it is, the code so far -/
abbrev RR : Type := Int × Nat × List Int
def GE (v : Int) (r : RR) : RR := if r.1 = 0 then (0, r.2.1, r.2.2 ++ [v]) else r
def GX (B : Nat → Int) (k : Int) (r : RR) : RR := if r.1 = 0 then (if kd B r.2.1 = k then (0, lxe B r.2.1, r.2.2) else (1, r.2.1, r.2.2)) else r
def tLp (B : Nat → Int) (P : Int → Bool) (F : RR → RR) : Nat → RR → RR
  | 0, r => r
  | m + 1, r => if r.1 = 0 ∧ P (kd B r.2.1) = true then tLp B P F m (GE (kd B r.2.1) (F (0, lxe B r.2.1, r.2.2))) else r
def pTi (k : Int) : Bool := decide (k = 36 ∨ k = 37)
def pPl (k : Int) : Bool := decide (k = 34 ∨ k = 35)
def pAn (k : Int) : Bool := decide (k = 22)
def pOr (k : Int) : Bool := decide (k = 21)
def tPr (B : Nat → Int) (one : RR → RR) (r : RR) : RR := tLp B pTi one 300 (one r)
def tSu (B : Nat → Int) (one : RR → RR) (r : RR) : RR := tLp B pPl (tPr B one) 300 (tPr B one r)
abbrev isRl (k : Int) : Prop := (30 ≤ k ∧ k ≤ 33) ∨ k = 41 ∨ k = 42
def tCm (B : Nat → Int) (one : RR → RR) (r : RR) : RR := if (tSu B one r).1 = 0 then (if isRl (kd B (tSu B one r).2.1) then GE (kd B (tSu B one r).2.1) (tSu B one (0, lxe B (tSu B one r).2.1, (tSu B one r).2.2)) else (1, (tSu B one r).2.1, (tSu B one r).2.2)) else tSu B one r
def tAk (B : Nat → Int) (p : Option ((RR → RR) × (RR → RR))) (one : RR → RR) (r : RR) : RR := if r.1 = 0 then (if kd B r.2.1 = 23 then (match p with | none => (3, r.2.1, r.2.2) | some p => GE 23 (p.2 (0, lxe B r.2.1, r.2.2))) else tCm B one r) else r
def tBo (B : Nat → Int) (ask : RR → RR) (r : RR) : RR := tLp B pAn ask 300 (ask r)
def tEi (B : Nat → Int) (ask : RR → RR) (r : RR) : RR := tLp B pOr (tBo B ask) 300 (tBo B ask r)
def tOp (B : Nat → Int) (p : (RR → RR) × (RR → RR)) (r : RR) : RR := if kd B r.2.1 = 38 then GX B 39 (tSu B p.1 (0, lxe B r.2.1, r.2.2)) else if kd B r.2.1 = 17 then GE 50 (GX B 20 (tSu B p.1 (GX B 19 (tSu B p.1 (GX B 18 (tEi B p.2 (0, lxe B r.2.1, r.2.2))))))) else GE (if kd B r.2.1 = 35 then 51 else kd B r.2.1) (p.1 (0, lxe B r.2.1, r.2.2))
abbrev opK2 (k : Int) : Prop := k = 38 ∨ k = 35 ∨ k = 15 ∨ k = 16 ∨ k = 17
abbrev wrN (k s0 : Int) : Prop := ((k = 12 ∨ k = 13) ∧ ¬ s0 = 4) ∨ (k = 14 ∧ ¬ s0 = 3)
def tOne (B : Nat → Int) (s0 : Int) (p : Option ((RR → RR) × (RR → RR))) (r : RR) : RR := if r.1 = 0 then (if kd B r.2.1 = 2 then (if 9999 < lxv B r.2.1 then (2, r.2.1, r.2.2) else (0, lxe B r.2.1, r.2.2 ++ [100 + lxv B r.2.1])) else if 8 ≤ kd B r.2.1 ∧ kd B r.2.1 ≤ 14 then (if wrN (kd B r.2.1) s0 then (5, r.2.1, r.2.2) else (0, lxe B r.2.1, r.2.2 ++ [kd B r.2.1])) else if opK2 (kd B r.2.1) then (match p with | none => (3, r.2.1, r.2.2) | some p => tOp B p r) else (1, r.2.1, r.2.2)) else r
/-- one and ask, by how many more may be open -/
def fam (B : Nat → Int) (s0 : Int) : Nat → (RR → RR) × (RR → RR)
  | 0 => (tOne B s0 none, tAk B none (tOne B s0 none))
  | m + 1 => (tOne B s0 (some (fam B s0 m)), tAk B (some (fam B s0 m)) (tOne B s0 (some (fam B s0 m))))
def CDc (S : Nat → Int → Int) (l : List Int) : Prop := S 3 6 = (l.length : Int) ∧ ∀ j : Nat, j < l.length → S 11 j = l.getD j 0
def RS3 (B : Nat → Int) (n : Nat) (S0 S : Nat → Int → Int) (e : Int) (r : RR) : Prop := Fr [3, 4, 11] S0 S ∧ (∀ j : Int, ¬ j = 6 → ¬ j = 10 → S 3 j = S0 3 j) ∧ SCT B n S ∧ (0 ≤ r.1 ∧ r.1 ≤ 6) ∧ S 3 10 = r.1 ∧ (0 ≤ S 3 6 ∧ S 3 6 ≤ 300) ∧ ∃ i : Nat, i ≤ n ∧ S 4 4 = (i : Int) ∧ tkc B i = r.2.1 ∧ (r.1 = 0 → CDc S r.2.2 ∧ (r.2.2.length : Int) + e ≤ i)
def RQ3 (B : Nat → Int) (n : Nat) (S0 T : Nat → Int → Int) (D : List mx_C) (e : Int) (r : RR) (hp' : List mx_C) : Prop := ∃ S', hp' = W5 S' T D ∧ RS3 B n S0 S' e r
theorem RS3.less {B : Nat → Int} {n : Nat} {S0 S : Nat → Int → Int} {e e' : Int} {r : RR} (h : RS3 B n S0 S e r) (he : e' ≤ e) : RS3 B n S0 S e' r := by
  obtain ⟨h1, h2, h3, h4, h5, h6, i, h7, h8, h9, h10⟩ := h
  exact ⟨h1, h2, h3, h4, h5, h6, i, h7, h8, h9, fun h => ⟨(h10 h).1, by have := (h10 h).2; omega⟩⟩
theorem RS3.bad {B : Nat → Int} {n : Nat} {S0 S : Nat → Int → Int} {e e' : Int} {r : RR} (h : RS3 B n S0 S e r) (hf : ¬ r.1 = 0) : RS3 B n S0 S e' r := by
  obtain ⟨h1, h2, h3, h4, h5, h6, i, h7, h8, h9, h10⟩ := h
  exact ⟨h1, h2, h3, h4, h5, h6, i, h7, h8, h9, fun h => absurd h hf⟩
theorem RS3.ref {B : Nat → Int} {n : Nat} {S0 S : Nat → Int → Int} {e e' : Int} {r : RR} (h : RS3 B n S0 S e r) {k : Int} (hk : 1 ≤ k ∧ k ≤ 6) : RS3 B n S0 (upS S 3 (up (S 3) 10 k)) e' (k, r.2.1, r.2.2) := by
  obtain ⟨h1, h2, h3, h4, h5, h6, i, h7, h8, h9, h10⟩ := h
  refine ⟨h1.trans (Fr_up _ _ (by decide)), fun j a b => by rw [upS_s, up_n b]; exact h2 j a b, h3.fr (by rw [upS_n (by decide)]) (upS_n (by decide)) (upS_n (by decide)) (upS_n (by decide)), by show 0 ≤ k ∧ k ≤ 6; omega, by rw [upS_s, up_s], by rw [upS_s, up_n (by decide)]; exact h6, i, h7, by rw [upS_n (by decide)]; exact h8, h9, fun h => ?_⟩
  have : k = 0 := h
  omega
theorem RS3.go {B : Nat → Int} {n : Nat} {S0 S : Nat → Int → Int} {e : Int} {i : Nat} {r : RR} (h : RS3 B n S0 S e r) (h0 : r.1 = 0) (hi : i ≤ n) (hw : S 4 4 = (i : Int)) (hk : ¬ kd B r.2.1 = 1) : RS3 B n S0 (adv S i) (e + 1) (0, lxe B r.2.1, r.2.2) := by
  obtain ⟨h1, h2, h3, h4, h5, h6, i', h7, h8, h9, h10⟩ := h
  have ei : i' = i := by omega
  subst ei
  have ha := adv_ok (i := i') h3
  have e3 : adv S i' 3 = S 3 := ha.2.2 3 (by decide)
  have e11 : adv S i' 11 = S 11 := ha.2.2 11 (by decide)
  have hlt : i' < n := by
    rcases Nat.lt_or_ge i' n with h | h
    · exact h
    · exact absurd (by rw [← h9, show i' = n from by omega]; exact h3.2.2.2.2) hk
  refine ⟨Fr.t h1 ha.2.2 (by simp), fun j a b => by rw [e3]; exact h2 j a b, ha.1, by show (0 : Int) ≤ 0 ∧ (0 : Int) ≤ 6; omega, by rw [e3, h5, h0], by rw [e3]; exact h6, i' + 1, by omega, ha.2.1, by rw [← h9]; rfl, fun _ => ?_⟩
  have h11 := h10 h0
  refine ⟨?_, by show (r.2.2.length : Int) + (e + 1) ≤ ((i' + 1 : Nat) : Int); have := h11.2; omega⟩
  unfold CDc
  rw [e3, e11]
  exact h11.1
theorem RS3.emit {B : Nat → Int} {n : Nat} {S0 S : Nat → Int → Int} {e : Int} {r : RR} (h : RS3 B n S0 S (e + 1) r) (he : 0 ≤ e) (h0 : r.1 = 0) (v : Int) : S 3 6 < 300 ∧ RS3 B n S0 (upS (upS S 11 (up (S 11) (S 3 6) v)) 3 (up (S 3) 6 (S 3 6 + 1))) e (GE v r) := by
  obtain ⟨h1, h2, h3, h4, h5, h6, i, h7, h8, h9, h10⟩ := h
  have h11 := h10 h0
  have hl := h11.1.1
  have hn := h3.1
  have hlt : S 3 6 < 300 := by have := h11.2; omega
  refine ⟨hlt, ?_⟩
  unfold GE
  rw [if_pos h0]
  have e3 : upS (upS S 11 (up (S 11) (S 3 6) v)) 3 (up (S 3) 6 (S 3 6 + 1)) 3 = up (S 3) 6 (S 3 6 + 1) := upS_s _ _ _
  have e11 : upS (upS S 11 (up (S 11) (S 3 6) v)) 3 (up (S 3) 6 (S 3 6 + 1)) 11 = up (S 11) (S 3 6) v := by rw [upS_n (by decide), upS_s]
  refine ⟨(h1.trans (Fr_up _ _ (by decide))).trans (Fr_up _ _ (by decide)), fun j a b => by rw [e3, up_n a]; exact h2 j a b, h3.fr (by rw [upS_n (by decide), upS_n (by decide)]) (by rw [upS_n (by decide), upS_n (by decide)]) (by rw [upS_n (by decide), upS_n (by decide)]) (by rw [upS_n (by decide), upS_n (by decide)]), by show (0 : Int) ≤ 0 ∧ (0 : Int) ≤ 6; omega, by rw [e3, up_n (by decide), h5, h0], by rw [e3, up_s]; omega, i, h7, by rw [upS_n (by decide), upS_n (by decide)]; exact h8, h9, fun _ => ?_⟩
  refine ⟨⟨?_, fun j hj => ?_⟩, ?_⟩
  · rw [e3, up_s, hl]
    show _ = ((r.2.2 ++ [v]).length : Int)
    rw [List.length_append]
    show _ = ((r.2.2.length + 1 : Nat) : Int)
    omega
  · rw [e11, hl]
    show _ = (r.2.2 ++ [v]).getD j 0
    by_cases hj2 : j = r.2.2.length
    · rw [hj2, up_s, getD_append_r]
    · have hj3 : j < (r.2.2 ++ [v]).length := hj
      rw [List.length_append] at hj3
      have hj4 : j < r.2.2.length := by
        have : j < r.2.2.length + 1 := hj3
        omega
      rw [up_n (by omega), getD_append_l hj4]
      exact h11.1.2 j hj4
  · show ((r.2.2 ++ [v]).length : Int) + e ≤ i
    rw [List.length_append]
    show ((r.2.2.length + 1 : Nat) : Int) + e ≤ i
    have := h11.2
    omega
set_option maxRecDepth 100000 in
theorem qX3_refuse {S T : Nat → Int → Int} {D : List mx_C} (hf : S 3 10 = 0) {k : Int} : SpV yX3_refuse cX3_refuse 2 none 0 [.ref 3, .int (jI k)] (W5 S T D) (W5 (upS S 3 (up (S 3) 10 k)) T D) := by
  refine Sp.of [.ref 3, .int (jI k)] (by decide) (by simp) (Nat.le_of_ble_eq_true rfl) rfl (fun E => ?_)
  refine L_a0 dX3_refuse_0 ?_
  refine GW_3_10 fX3_48 dX3_refuse_1 ?_
  refine J_if_ne 12 dX3_refuse_4 rfl (by omega) (fun c4 => ?_) (fun c4 => ?_)
  · exfalso; omega
  · refine L_a0 dX3_refuse_7 ?_
    refine L_i1 dX3_refuse_8 ?_
    refine PW_3_10 fX3_48 dX3_refuse_9 ?_
    exact R_v rfl dX3_refuse_12 rfl

set_option maxRecDepth 100000 in
theorem qX3_emit {S0 S T : Nat → Int → Int} {D : List mx_C} {B : Nat → Int} {n : Nat} {e : Int} {r : RR} (h : RS3 B n S0 S (e + 1) r) (he : 0 ≤ e) {v : Int} : SpU yX3_emit cX3_emit 2 none 0 [.ref 3, .int (jI v)] (W5 S T D) (RQ3 B n S0 T D e (GE v r)) := by
  have hf := h.2.2.2.2.1
  have hb := h.2.2.2.1
  have h6 := h.2.2.2.2.2.1
  refine Sp.of [.ref 3, .int (jI v)] (by decide) (by simp) (Nat.le_of_ble_eq_true rfl) rfl (fun E => ?_)
  refine L_a0 dX3_emit_0 ?_
  refine GW_3_10 fX3_48 dX3_emit_1 ?_
  refine J_if_ne 37 dX3_emit_4 rfl (by omega) (fun c4 => ?_) (fun c4 => ?_)
  · exact RQ_v rfl dX3_emit_37 (by first | exact ⟨S, rfl, by unfold GE; rw [if_neg (by omega)]; exact h.bad (by omega)⟩ | exact ⟨_, rfl, by rw [upS_n (show ¬ (3 : Nat) = 11 by decide)]; exact (h.emit he (by omega) v).2⟩)
  · refine L_a0 dX3_emit_7 ?_
    refine GW_3_6 fX3_35 dX3_emit_8 ?_
    refine J_sipush dX3_emit_11 (by decide) ?_
    refine J_icmp_ge 37 dX3_emit_14 rfl (by omega) (by omega) (fun c14 => ?_) (fun c14 => ?_)
    · exfalso; have := (h.emit he (by omega) v).1; omega
    · refine L_a0 dX3_emit_17 ?_
      refine GW_3_4 fX3_28 dX3_emit_18 ?_
      refine L_a0 dX3_emit_21 ?_
      refine GW_3_6 fX3_35 dX3_emit_22 ?_
      refine L_i1 dX3_emit_25 ?_
      refine AS_11 dX3_emit_26 (by omega) ?_
      refine L_a0 dX3_emit_27 ?_
      refine E_dup dX3_emit_28 rfl ?_
      refine GW_3_6 fX3_35 dX3_emit_29 ?_
      refine J_iconst dX3_emit_32 ?_
      refine J_iadd dX3_emit_33 ?_
      refine PW_3_6 fX3_35 dX3_emit_34 ?_
      exact RQ_v rfl dX3_emit_37 (by first | exact ⟨S, rfl, by unfold GE; rw [if_neg (by omega)]; exact h.bad (by omega)⟩ | exact ⟨_, rfl, by rw [upS_n (show ¬ (3 : Nat) = 11 by decide)]; exact (h.emit he (by omega) v).2⟩)
set_option maxRecDepth 100000 in
theorem qX3_expect {S0 S T : Nat → Int → Int} {D : List mx_C} {B : Nat → Int} {n : Nat} {e : Int} {r : RR} (h : RS3 B n S0 S e r) {k : Int} (h_k : 2 ≤ k ∧ k ≤ 100) : SpU yX3_expect cX3_expect 2 none 1 [.ref 3, .int (jI k)] (W5 S T D) (RQ3 B n S0 T D e (GX B k r)) := by
  obtain ⟨i, hi, hw, hc, hd⟩ := h.2.2.2.2.2.2
  have hs := h.2.2.1
  have hf := h.2.2.2.2.1
  have hb := h.2.2.2.1
  have hkB := kd_B B r.2.1
  refine Sp.of [.ref 3, .int (jI k)] (by decide) (by simp) (Nat.le_of_ble_eq_true rfl) rfl (fun E => ?_)
  refine L_a0 dX3_expect_0 ?_
  refine GW_3_10 fX3_48 dX3_expect_1 ?_
  refine J_if_eq 8 dX3_expect_4 rfl (by omega) (fun c4 => ?_) (fun c4 => ?_)
  · refine L_a0 dX3_expect_8 ?_
    refine GW_3_0 fX3_12 dX3_expect_9 ?_
    refine C_v0F vX3_58 dX3_expect_12 (qX6_kind hs hi hw) rfl rfl (Nat.le_of_ble_eq_true rfl) (by decide) ?_
    refine J_eqi (b := kd B r.2.1) (by rw [hc]) ?_
    refine L_i1 dX3_expect_15 ?_
    refine J_icmp_eq 27 dX3_expect_16 rfl (by omega) (by omega) (fun c16 => ?_) (fun c16 => ?_)
    · refine L_a0 dX3_expect_27 ?_
      refine GW_3_0 fX3_12 dX3_expect_28 ?_
      refine C_v0V vX3_83 dX3_expect_31 (qX6_advance hs hi hw (by rw [hc]; omega)) rfl rfl (Nat.le_of_ble_eq_true rfl) (by decide) ?_
      exact RQ_v rfl dX3_expect_34 (by first | exact ⟨_, rfl, by unfold GX; rw [if_pos (show r.1 = 0 by omega), if_neg c16]; exact h.ref (by omega)⟩ | exact ⟨_, rfl, by unfold GX; rw [if_pos (show r.1 = 0 by omega), if_pos c16]; exact (h.go (by omega) hi hw (by omega)).less (by omega)⟩)
    · refine L_a0 dX3_expect_19 ?_
      refine J_iconst dX3_expect_20 ?_
      refine C_v1V vX3_79 dX3_expect_21 (qX3_refuse (by omega)) rfl rfl (Nat.le_of_ble_eq_true rfl) (by decide) ?_
      refine E_goto 34 dX3_expect_24 rfl ?_
      exact RQ_v rfl dX3_expect_34 (by first | exact ⟨_, rfl, by unfold GX; rw [if_pos (show r.1 = 0 by omega), if_neg c16]; exact h.ref (by omega)⟩ | exact ⟨_, rfl, by unfold GX; rw [if_pos (show r.1 = 0 by omega), if_pos c16]; exact (h.go (by omega) hi hw (by omega)).less (by omega)⟩)
  · exact RQ_v rfl dX3_expect_7 ⟨S, rfl, by unfold GX; rw [if_neg (by omega)]; exact h⟩
set_option maxRecDepth 100000 in
theorem qX3_readName {S0 S T : Nat → Int → Int} {D : List mx_C} {B : Nat → Int} {n : Nat} {e : Int} {r : RR} (h : RS3 B n S0 S e r) (he : 1 ≤ e) (h0 : r.1 = 0) {s0 : Int} (h7 : S0 3 7 = s0) (hs0 : s0 = 3 ∨ s0 = 4) (hk : 8 ≤ kd B r.2.1 ∧ kd B r.2.1 ≤ 14) : SpU yX3_readName cX3_readName 4 none 1 [.ref 3, .int (jI (kd B r.2.1))] (W5 S T D) (RQ3 B n S0 T D e (if wrN (kd B r.2.1) s0 then (5, r.2.1, r.2.2) else (0, lxe B r.2.1, r.2.2 ++ [kd B r.2.1]))) := by
  obtain ⟨i, hi, hw, hc, hd⟩ := h.2.2.2.2.2.2
  have hs := h.2.2.1
  have hf := h.2.2.2.2.1
  have hb := h.2.2.2.1
  have hkB := kd_B B r.2.1
  have e7 : S 3 7 = s0 := (h.2.1 7 (by decide) (by decide)).trans h7
  obtain ⟨e1, rfl⟩ : ∃ e1 : Int, e = e1 + 1 := ⟨e - 1, by omega⟩
  refine Sp.of [.ref 3, .int (jI (kd B r.2.1)), .retAddr 0, .retAddr 0] (by decide) (by simp) (Nat.le_of_ble_eq_true rfl) rfl (fun E => ?_)
  refine L_i1 dX3_readName_0 ?_
  refine J_bipush dX3_readName_1 (by decide) ?_
  refine J_icmp_eq 12 dX3_readName_3 rfl (by omega) (by omega) (fun c3 => ?_) (fun c3 => ?_)
  · refine J_iconst dX3_readName_12 ?_
    refine E_goto 17 dX3_readName_13 rfl ?_
    refine S_i2 dX3_readName_17 (by decide) rfl ?_
    refine L_i1 dX3_readName_18 ?_
    refine J_bipush dX3_readName_19 (by decide) ?_
    refine J_icmp_ne 28 dX3_readName_21 rfl (by omega) (by omega) (fun c21 => ?_) (fun c21 => ?_)
    · refine J_iconst dX3_readName_28 ?_
      refine S_i3 dX3_readName_29 (by decide) rfl ?_
      refine L_i2 dX3_readName_30 ?_
      refine J_if_eq 42 dX3_readName_31 rfl (by omega) (fun c31 => ?_) (fun c31 => ?_)
      · refine L_i3 dX3_readName_42 ?_
        refine J_if_eq 60 dX3_readName_43 rfl (by omega) (fun c43 => ?_) (fun c43 => ?_)
        · refine L_a0 dX3_readName_60 ?_
          refine L_i1 dX3_readName_61 ?_
          refine C_v1U vX3_114 dX3_readName_62 (qX3_emit h (by omega)) rfl rfl (Nat.le_of_ble_eq_true rfl) (by decide) (fun hp62 hq62 => ?_)
          obtain ⟨S2, rfl, h2⟩ := hq62
          rw [show GE (kd B r.2.1) r = (0, r.2.1, r.2.2 ++ [kd B r.2.1]) from if_pos h0] at h2
          obtain ⟨i2, hi2, hw2, hc2, hd2⟩ := h2.2.2.2.2.2.2
          have hs2 := h2.2.2.1
          have hc2 : tkc B i2 = r.2.1 := hc2
          refine L_a0 dX3_readName_65 ?_
          refine GW_3_0 fX3_12 dX3_readName_66 ?_
          refine C_v0V vX3_83 dX3_readName_69 (qX6_advance hs2 hi2 hw2 (by rw [hc2]; omega)) rfl rfl (Nat.le_of_ble_eq_true rfl) (by decide) ?_
          exact RQ_v rfl dX3_readName_72 ⟨_, rfl, by rw [if_neg (by omega)]; exact h2.go rfl hi2 hw2 (by show ¬ kd B r.2.1 = 1; omega)⟩
        · refine L_a0 dX3_readName_46 ?_
          refine GW_3_7 fX3_38 dX3_readName_47 ?_
          refine J_eqi (b := s0) e7 ?_
          refine J_iconst dX3_readName_50 ?_
          refine J_icmp_eq 60 dX3_readName_51 rfl (by omega) (by omega) (fun c51 => ?_) (fun c51 => ?_)
          · refine L_a0 dX3_readName_60 ?_
            refine L_i1 dX3_readName_61 ?_
            refine C_v1U vX3_114 dX3_readName_62 (qX3_emit h (by omega)) rfl rfl (Nat.le_of_ble_eq_true rfl) (by decide) (fun hp62 hq62 => ?_)
            obtain ⟨S2, rfl, h2⟩ := hq62
            rw [show GE (kd B r.2.1) r = (0, r.2.1, r.2.2 ++ [kd B r.2.1]) from if_pos h0] at h2
            obtain ⟨i2, hi2, hw2, hc2, hd2⟩ := h2.2.2.2.2.2.2
            have hs2 := h2.2.2.1
            have hc2 : tkc B i2 = r.2.1 := hc2
            refine L_a0 dX3_readName_65 ?_
            refine GW_3_0 fX3_12 dX3_readName_66 ?_
            refine C_v0V vX3_83 dX3_readName_69 (qX6_advance hs2 hi2 hw2 (by rw [hc2]; omega)) rfl rfl (Nat.le_of_ble_eq_true rfl) (by decide) ?_
            exact RQ_v rfl dX3_readName_72 ⟨_, rfl, by rw [if_neg (by omega)]; exact h2.go rfl hi2 hw2 (by show ¬ kd B r.2.1 = 1; omega)⟩
          · refine L_a0 dX3_readName_54 ?_
            refine J_iconst dX3_readName_55 ?_
            refine C_v1V vX3_79 dX3_readName_56 (qX3_refuse (by omega)) rfl rfl (Nat.le_of_ble_eq_true rfl) (by decide) ?_
            exact RQ_v rfl dX3_readName_59 ⟨_, rfl, by rw [if_pos (by omega)]; exact h.ref (by omega)⟩
      · refine L_a0 dX3_readName_34 ?_
        refine GW_3_7 fX3_38 dX3_readName_35 ?_
        refine J_eqi (b := s0) e7 ?_
        refine J_iconst dX3_readName_38 ?_
        refine J_icmp_ne 54 dX3_readName_39 rfl (by omega) (by omega) (fun c39 => ?_) (fun c39 => ?_)
        · refine L_a0 dX3_readName_54 ?_
          refine J_iconst dX3_readName_55 ?_
          refine C_v1V vX3_79 dX3_readName_56 (qX3_refuse (by omega)) rfl rfl (Nat.le_of_ble_eq_true rfl) (by decide) ?_
          exact RQ_v rfl dX3_readName_59 ⟨_, rfl, by rw [if_pos (by omega)]; exact h.ref (by omega)⟩
        · refine L_i3 dX3_readName_42 ?_
          refine J_if_eq 60 dX3_readName_43 rfl (by omega) (fun c43 => ?_) (fun c43 => ?_)
          · refine L_a0 dX3_readName_60 ?_
            refine L_i1 dX3_readName_61 ?_
            refine C_v1U vX3_114 dX3_readName_62 (qX3_emit h (by omega)) rfl rfl (Nat.le_of_ble_eq_true rfl) (by decide) (fun hp62 hq62 => ?_)
            obtain ⟨S2, rfl, h2⟩ := hq62
            rw [show GE (kd B r.2.1) r = (0, r.2.1, r.2.2 ++ [kd B r.2.1]) from if_pos h0] at h2
            obtain ⟨i2, hi2, hw2, hc2, hd2⟩ := h2.2.2.2.2.2.2
            have hs2 := h2.2.2.1
            have hc2 : tkc B i2 = r.2.1 := hc2
            refine L_a0 dX3_readName_65 ?_
            refine GW_3_0 fX3_12 dX3_readName_66 ?_
            refine C_v0V vX3_83 dX3_readName_69 (qX6_advance hs2 hi2 hw2 (by rw [hc2]; omega)) rfl rfl (Nat.le_of_ble_eq_true rfl) (by decide) ?_
            exact RQ_v rfl dX3_readName_72 ⟨_, rfl, by rw [if_neg (by omega)]; exact h2.go rfl hi2 hw2 (by show ¬ kd B r.2.1 = 1; omega)⟩
          · refine L_a0 dX3_readName_46 ?_
            refine GW_3_7 fX3_38 dX3_readName_47 ?_
            refine J_eqi (b := s0) e7 ?_
            refine J_iconst dX3_readName_50 ?_
            refine J_icmp_eq 60 dX3_readName_51 rfl (by omega) (by omega) (fun c51 => ?_) (fun c51 => ?_)
            · refine L_a0 dX3_readName_60 ?_
              refine L_i1 dX3_readName_61 ?_
              refine C_v1U vX3_114 dX3_readName_62 (qX3_emit h (by omega)) rfl rfl (Nat.le_of_ble_eq_true rfl) (by decide) (fun hp62 hq62 => ?_)
              obtain ⟨S2, rfl, h2⟩ := hq62
              rw [show GE (kd B r.2.1) r = (0, r.2.1, r.2.2 ++ [kd B r.2.1]) from if_pos h0] at h2
              obtain ⟨i2, hi2, hw2, hc2, hd2⟩ := h2.2.2.2.2.2.2
              have hs2 := h2.2.2.1
              have hc2 : tkc B i2 = r.2.1 := hc2
              refine L_a0 dX3_readName_65 ?_
              refine GW_3_0 fX3_12 dX3_readName_66 ?_
              refine C_v0V vX3_83 dX3_readName_69 (qX6_advance hs2 hi2 hw2 (by rw [hc2]; omega)) rfl rfl (Nat.le_of_ble_eq_true rfl) (by decide) ?_
              exact RQ_v rfl dX3_readName_72 ⟨_, rfl, by rw [if_neg (by omega)]; exact h2.go rfl hi2 hw2 (by show ¬ kd B r.2.1 = 1; omega)⟩
            · refine L_a0 dX3_readName_54 ?_
              refine J_iconst dX3_readName_55 ?_
              refine C_v1V vX3_79 dX3_readName_56 (qX3_refuse (by omega)) rfl rfl (Nat.le_of_ble_eq_true rfl) (by decide) ?_
              exact RQ_v rfl dX3_readName_59 ⟨_, rfl, by rw [if_pos (by omega)]; exact h.ref (by omega)⟩
    · refine J_iconst dX3_readName_24 ?_
      refine E_goto 29 dX3_readName_25 rfl ?_
      refine S_i3 dX3_readName_29 (by decide) rfl ?_
      refine L_i2 dX3_readName_30 ?_
      refine J_if_eq 42 dX3_readName_31 rfl (by omega) (fun c31 => ?_) (fun c31 => ?_)
      · refine L_i3 dX3_readName_42 ?_
        refine J_if_eq 60 dX3_readName_43 rfl (by omega) (fun c43 => ?_) (fun c43 => ?_)
        · refine L_a0 dX3_readName_60 ?_
          refine L_i1 dX3_readName_61 ?_
          refine C_v1U vX3_114 dX3_readName_62 (qX3_emit h (by omega)) rfl rfl (Nat.le_of_ble_eq_true rfl) (by decide) (fun hp62 hq62 => ?_)
          obtain ⟨S2, rfl, h2⟩ := hq62
          rw [show GE (kd B r.2.1) r = (0, r.2.1, r.2.2 ++ [kd B r.2.1]) from if_pos h0] at h2
          obtain ⟨i2, hi2, hw2, hc2, hd2⟩ := h2.2.2.2.2.2.2
          have hs2 := h2.2.2.1
          have hc2 : tkc B i2 = r.2.1 := hc2
          refine L_a0 dX3_readName_65 ?_
          refine GW_3_0 fX3_12 dX3_readName_66 ?_
          refine C_v0V vX3_83 dX3_readName_69 (qX6_advance hs2 hi2 hw2 (by rw [hc2]; omega)) rfl rfl (Nat.le_of_ble_eq_true rfl) (by decide) ?_
          exact RQ_v rfl dX3_readName_72 ⟨_, rfl, by rw [if_neg (by omega)]; exact h2.go rfl hi2 hw2 (by show ¬ kd B r.2.1 = 1; omega)⟩
        · refine L_a0 dX3_readName_46 ?_
          refine GW_3_7 fX3_38 dX3_readName_47 ?_
          refine J_eqi (b := s0) e7 ?_
          refine J_iconst dX3_readName_50 ?_
          refine J_icmp_eq 60 dX3_readName_51 rfl (by omega) (by omega) (fun c51 => ?_) (fun c51 => ?_)
          · refine L_a0 dX3_readName_60 ?_
            refine L_i1 dX3_readName_61 ?_
            refine C_v1U vX3_114 dX3_readName_62 (qX3_emit h (by omega)) rfl rfl (Nat.le_of_ble_eq_true rfl) (by decide) (fun hp62 hq62 => ?_)
            obtain ⟨S2, rfl, h2⟩ := hq62
            rw [show GE (kd B r.2.1) r = (0, r.2.1, r.2.2 ++ [kd B r.2.1]) from if_pos h0] at h2
            obtain ⟨i2, hi2, hw2, hc2, hd2⟩ := h2.2.2.2.2.2.2
            have hs2 := h2.2.2.1
            have hc2 : tkc B i2 = r.2.1 := hc2
            refine L_a0 dX3_readName_65 ?_
            refine GW_3_0 fX3_12 dX3_readName_66 ?_
            refine C_v0V vX3_83 dX3_readName_69 (qX6_advance hs2 hi2 hw2 (by rw [hc2]; omega)) rfl rfl (Nat.le_of_ble_eq_true rfl) (by decide) ?_
            exact RQ_v rfl dX3_readName_72 ⟨_, rfl, by rw [if_neg (by omega)]; exact h2.go rfl hi2 hw2 (by show ¬ kd B r.2.1 = 1; omega)⟩
          · refine L_a0 dX3_readName_54 ?_
            refine J_iconst dX3_readName_55 ?_
            refine C_v1V vX3_79 dX3_readName_56 (qX3_refuse (by omega)) rfl rfl (Nat.le_of_ble_eq_true rfl) (by decide) ?_
            exact RQ_v rfl dX3_readName_59 ⟨_, rfl, by rw [if_pos (by omega)]; exact h.ref (by omega)⟩
      · refine L_a0 dX3_readName_34 ?_
        refine GW_3_7 fX3_38 dX3_readName_35 ?_
        refine J_eqi (b := s0) e7 ?_
        refine J_iconst dX3_readName_38 ?_
        refine J_icmp_ne 54 dX3_readName_39 rfl (by omega) (by omega) (fun c39 => ?_) (fun c39 => ?_)
        · refine L_a0 dX3_readName_54 ?_
          refine J_iconst dX3_readName_55 ?_
          refine C_v1V vX3_79 dX3_readName_56 (qX3_refuse (by omega)) rfl rfl (Nat.le_of_ble_eq_true rfl) (by decide) ?_
          exact RQ_v rfl dX3_readName_59 ⟨_, rfl, by rw [if_pos (by omega)]; exact h.ref (by omega)⟩
        · refine L_i3 dX3_readName_42 ?_
          refine J_if_eq 60 dX3_readName_43 rfl (by omega) (fun c43 => ?_) (fun c43 => ?_)
          · refine L_a0 dX3_readName_60 ?_
            refine L_i1 dX3_readName_61 ?_
            refine C_v1U vX3_114 dX3_readName_62 (qX3_emit h (by omega)) rfl rfl (Nat.le_of_ble_eq_true rfl) (by decide) (fun hp62 hq62 => ?_)
            obtain ⟨S2, rfl, h2⟩ := hq62
            rw [show GE (kd B r.2.1) r = (0, r.2.1, r.2.2 ++ [kd B r.2.1]) from if_pos h0] at h2
            obtain ⟨i2, hi2, hw2, hc2, hd2⟩ := h2.2.2.2.2.2.2
            have hs2 := h2.2.2.1
            have hc2 : tkc B i2 = r.2.1 := hc2
            refine L_a0 dX3_readName_65 ?_
            refine GW_3_0 fX3_12 dX3_readName_66 ?_
            refine C_v0V vX3_83 dX3_readName_69 (qX6_advance hs2 hi2 hw2 (by rw [hc2]; omega)) rfl rfl (Nat.le_of_ble_eq_true rfl) (by decide) ?_
            exact RQ_v rfl dX3_readName_72 ⟨_, rfl, by rw [if_neg (by omega)]; exact h2.go rfl hi2 hw2 (by show ¬ kd B r.2.1 = 1; omega)⟩
          · refine L_a0 dX3_readName_46 ?_
            refine GW_3_7 fX3_38 dX3_readName_47 ?_
            refine J_eqi (b := s0) e7 ?_
            refine J_iconst dX3_readName_50 ?_
            refine J_icmp_eq 60 dX3_readName_51 rfl (by omega) (by omega) (fun c51 => ?_) (fun c51 => ?_)
            · refine L_a0 dX3_readName_60 ?_
              refine L_i1 dX3_readName_61 ?_
              refine C_v1U vX3_114 dX3_readName_62 (qX3_emit h (by omega)) rfl rfl (Nat.le_of_ble_eq_true rfl) (by decide) (fun hp62 hq62 => ?_)
              obtain ⟨S2, rfl, h2⟩ := hq62
              rw [show GE (kd B r.2.1) r = (0, r.2.1, r.2.2 ++ [kd B r.2.1]) from if_pos h0] at h2
              obtain ⟨i2, hi2, hw2, hc2, hd2⟩ := h2.2.2.2.2.2.2
              have hs2 := h2.2.2.1
              have hc2 : tkc B i2 = r.2.1 := hc2
              refine L_a0 dX3_readName_65 ?_
              refine GW_3_0 fX3_12 dX3_readName_66 ?_
              refine C_v0V vX3_83 dX3_readName_69 (qX6_advance hs2 hi2 hw2 (by rw [hc2]; omega)) rfl rfl (Nat.le_of_ble_eq_true rfl) (by decide) ?_
              exact RQ_v rfl dX3_readName_72 ⟨_, rfl, by rw [if_neg (by omega)]; exact h2.go rfl hi2 hw2 (by show ¬ kd B r.2.1 = 1; omega)⟩
            · refine L_a0 dX3_readName_54 ?_
              refine J_iconst dX3_readName_55 ?_
              refine C_v1V vX3_79 dX3_readName_56 (qX3_refuse (by omega)) rfl rfl (Nat.le_of_ble_eq_true rfl) (by decide) ?_
              exact RQ_v rfl dX3_readName_59 ⟨_, rfl, by rw [if_pos (by omega)]; exact h.ref (by omega)⟩
  · refine L_i1 dX3_readName_6 ?_
    refine J_bipush dX3_readName_7 (by decide) ?_
    refine J_icmp_ne 16 dX3_readName_9 rfl (by omega) (by omega) (fun c9 => ?_) (fun c9 => ?_)
    · refine J_iconst dX3_readName_16 ?_
      refine S_i2 dX3_readName_17 (by decide) rfl ?_
      refine L_i1 dX3_readName_18 ?_
      refine J_bipush dX3_readName_19 (by decide) ?_
      refine J_icmp_ne 28 dX3_readName_21 rfl (by omega) (by omega) (fun c21 => ?_) (fun c21 => ?_)
      · refine J_iconst dX3_readName_28 ?_
        refine S_i3 dX3_readName_29 (by decide) rfl ?_
        refine L_i2 dX3_readName_30 ?_
        refine J_if_eq 42 dX3_readName_31 rfl (by omega) (fun c31 => ?_) (fun c31 => ?_)
        · refine L_i3 dX3_readName_42 ?_
          refine J_if_eq 60 dX3_readName_43 rfl (by omega) (fun c43 => ?_) (fun c43 => ?_)
          · refine L_a0 dX3_readName_60 ?_
            refine L_i1 dX3_readName_61 ?_
            refine C_v1U vX3_114 dX3_readName_62 (qX3_emit h (by omega)) rfl rfl (Nat.le_of_ble_eq_true rfl) (by decide) (fun hp62 hq62 => ?_)
            obtain ⟨S2, rfl, h2⟩ := hq62
            rw [show GE (kd B r.2.1) r = (0, r.2.1, r.2.2 ++ [kd B r.2.1]) from if_pos h0] at h2
            obtain ⟨i2, hi2, hw2, hc2, hd2⟩ := h2.2.2.2.2.2.2
            have hs2 := h2.2.2.1
            have hc2 : tkc B i2 = r.2.1 := hc2
            refine L_a0 dX3_readName_65 ?_
            refine GW_3_0 fX3_12 dX3_readName_66 ?_
            refine C_v0V vX3_83 dX3_readName_69 (qX6_advance hs2 hi2 hw2 (by rw [hc2]; omega)) rfl rfl (Nat.le_of_ble_eq_true rfl) (by decide) ?_
            exact RQ_v rfl dX3_readName_72 ⟨_, rfl, by rw [if_neg (by omega)]; exact h2.go rfl hi2 hw2 (by show ¬ kd B r.2.1 = 1; omega)⟩
          · refine L_a0 dX3_readName_46 ?_
            refine GW_3_7 fX3_38 dX3_readName_47 ?_
            refine J_eqi (b := s0) e7 ?_
            refine J_iconst dX3_readName_50 ?_
            refine J_icmp_eq 60 dX3_readName_51 rfl (by omega) (by omega) (fun c51 => ?_) (fun c51 => ?_)
            · refine L_a0 dX3_readName_60 ?_
              refine L_i1 dX3_readName_61 ?_
              refine C_v1U vX3_114 dX3_readName_62 (qX3_emit h (by omega)) rfl rfl (Nat.le_of_ble_eq_true rfl) (by decide) (fun hp62 hq62 => ?_)
              obtain ⟨S2, rfl, h2⟩ := hq62
              rw [show GE (kd B r.2.1) r = (0, r.2.1, r.2.2 ++ [kd B r.2.1]) from if_pos h0] at h2
              obtain ⟨i2, hi2, hw2, hc2, hd2⟩ := h2.2.2.2.2.2.2
              have hs2 := h2.2.2.1
              have hc2 : tkc B i2 = r.2.1 := hc2
              refine L_a0 dX3_readName_65 ?_
              refine GW_3_0 fX3_12 dX3_readName_66 ?_
              refine C_v0V vX3_83 dX3_readName_69 (qX6_advance hs2 hi2 hw2 (by rw [hc2]; omega)) rfl rfl (Nat.le_of_ble_eq_true rfl) (by decide) ?_
              exact RQ_v rfl dX3_readName_72 ⟨_, rfl, by rw [if_neg (by omega)]; exact h2.go rfl hi2 hw2 (by show ¬ kd B r.2.1 = 1; omega)⟩
            · refine L_a0 dX3_readName_54 ?_
              refine J_iconst dX3_readName_55 ?_
              refine C_v1V vX3_79 dX3_readName_56 (qX3_refuse (by omega)) rfl rfl (Nat.le_of_ble_eq_true rfl) (by decide) ?_
              exact RQ_v rfl dX3_readName_59 ⟨_, rfl, by rw [if_pos (by omega)]; exact h.ref (by omega)⟩
        · refine L_a0 dX3_readName_34 ?_
          refine GW_3_7 fX3_38 dX3_readName_35 ?_
          refine J_eqi (b := s0) e7 ?_
          refine J_iconst dX3_readName_38 ?_
          refine J_icmp_ne 54 dX3_readName_39 rfl (by omega) (by omega) (fun c39 => ?_) (fun c39 => ?_)
          · refine L_a0 dX3_readName_54 ?_
            refine J_iconst dX3_readName_55 ?_
            refine C_v1V vX3_79 dX3_readName_56 (qX3_refuse (by omega)) rfl rfl (Nat.le_of_ble_eq_true rfl) (by decide) ?_
            exact RQ_v rfl dX3_readName_59 ⟨_, rfl, by rw [if_pos (by omega)]; exact h.ref (by omega)⟩
          · refine L_i3 dX3_readName_42 ?_
            refine J_if_eq 60 dX3_readName_43 rfl (by omega) (fun c43 => ?_) (fun c43 => ?_)
            · refine L_a0 dX3_readName_60 ?_
              refine L_i1 dX3_readName_61 ?_
              refine C_v1U vX3_114 dX3_readName_62 (qX3_emit h (by omega)) rfl rfl (Nat.le_of_ble_eq_true rfl) (by decide) (fun hp62 hq62 => ?_)
              obtain ⟨S2, rfl, h2⟩ := hq62
              rw [show GE (kd B r.2.1) r = (0, r.2.1, r.2.2 ++ [kd B r.2.1]) from if_pos h0] at h2
              obtain ⟨i2, hi2, hw2, hc2, hd2⟩ := h2.2.2.2.2.2.2
              have hs2 := h2.2.2.1
              have hc2 : tkc B i2 = r.2.1 := hc2
              refine L_a0 dX3_readName_65 ?_
              refine GW_3_0 fX3_12 dX3_readName_66 ?_
              refine C_v0V vX3_83 dX3_readName_69 (qX6_advance hs2 hi2 hw2 (by rw [hc2]; omega)) rfl rfl (Nat.le_of_ble_eq_true rfl) (by decide) ?_
              exact RQ_v rfl dX3_readName_72 ⟨_, rfl, by rw [if_neg (by omega)]; exact h2.go rfl hi2 hw2 (by show ¬ kd B r.2.1 = 1; omega)⟩
            · refine L_a0 dX3_readName_46 ?_
              refine GW_3_7 fX3_38 dX3_readName_47 ?_
              refine J_eqi (b := s0) e7 ?_
              refine J_iconst dX3_readName_50 ?_
              refine J_icmp_eq 60 dX3_readName_51 rfl (by omega) (by omega) (fun c51 => ?_) (fun c51 => ?_)
              · refine L_a0 dX3_readName_60 ?_
                refine L_i1 dX3_readName_61 ?_
                refine C_v1U vX3_114 dX3_readName_62 (qX3_emit h (by omega)) rfl rfl (Nat.le_of_ble_eq_true rfl) (by decide) (fun hp62 hq62 => ?_)
                obtain ⟨S2, rfl, h2⟩ := hq62
                rw [show GE (kd B r.2.1) r = (0, r.2.1, r.2.2 ++ [kd B r.2.1]) from if_pos h0] at h2
                obtain ⟨i2, hi2, hw2, hc2, hd2⟩ := h2.2.2.2.2.2.2
                have hs2 := h2.2.2.1
                have hc2 : tkc B i2 = r.2.1 := hc2
                refine L_a0 dX3_readName_65 ?_
                refine GW_3_0 fX3_12 dX3_readName_66 ?_
                refine C_v0V vX3_83 dX3_readName_69 (qX6_advance hs2 hi2 hw2 (by rw [hc2]; omega)) rfl rfl (Nat.le_of_ble_eq_true rfl) (by decide) ?_
                exact RQ_v rfl dX3_readName_72 ⟨_, rfl, by rw [if_neg (by omega)]; exact h2.go rfl hi2 hw2 (by show ¬ kd B r.2.1 = 1; omega)⟩
              · refine L_a0 dX3_readName_54 ?_
                refine J_iconst dX3_readName_55 ?_
                refine C_v1V vX3_79 dX3_readName_56 (qX3_refuse (by omega)) rfl rfl (Nat.le_of_ble_eq_true rfl) (by decide) ?_
                exact RQ_v rfl dX3_readName_59 ⟨_, rfl, by rw [if_pos (by omega)]; exact h.ref (by omega)⟩
      · refine J_iconst dX3_readName_24 ?_
        refine E_goto 29 dX3_readName_25 rfl ?_
        refine S_i3 dX3_readName_29 (by decide) rfl ?_
        refine L_i2 dX3_readName_30 ?_
        refine J_if_eq 42 dX3_readName_31 rfl (by omega) (fun c31 => ?_) (fun c31 => ?_)
        · refine L_i3 dX3_readName_42 ?_
          refine J_if_eq 60 dX3_readName_43 rfl (by omega) (fun c43 => ?_) (fun c43 => ?_)
          · refine L_a0 dX3_readName_60 ?_
            refine L_i1 dX3_readName_61 ?_
            refine C_v1U vX3_114 dX3_readName_62 (qX3_emit h (by omega)) rfl rfl (Nat.le_of_ble_eq_true rfl) (by decide) (fun hp62 hq62 => ?_)
            obtain ⟨S2, rfl, h2⟩ := hq62
            rw [show GE (kd B r.2.1) r = (0, r.2.1, r.2.2 ++ [kd B r.2.1]) from if_pos h0] at h2
            obtain ⟨i2, hi2, hw2, hc2, hd2⟩ := h2.2.2.2.2.2.2
            have hs2 := h2.2.2.1
            have hc2 : tkc B i2 = r.2.1 := hc2
            refine L_a0 dX3_readName_65 ?_
            refine GW_3_0 fX3_12 dX3_readName_66 ?_
            refine C_v0V vX3_83 dX3_readName_69 (qX6_advance hs2 hi2 hw2 (by rw [hc2]; omega)) rfl rfl (Nat.le_of_ble_eq_true rfl) (by decide) ?_
            exact RQ_v rfl dX3_readName_72 ⟨_, rfl, by rw [if_neg (by omega)]; exact h2.go rfl hi2 hw2 (by show ¬ kd B r.2.1 = 1; omega)⟩
          · refine L_a0 dX3_readName_46 ?_
            refine GW_3_7 fX3_38 dX3_readName_47 ?_
            refine J_eqi (b := s0) e7 ?_
            refine J_iconst dX3_readName_50 ?_
            refine J_icmp_eq 60 dX3_readName_51 rfl (by omega) (by omega) (fun c51 => ?_) (fun c51 => ?_)
            · refine L_a0 dX3_readName_60 ?_
              refine L_i1 dX3_readName_61 ?_
              refine C_v1U vX3_114 dX3_readName_62 (qX3_emit h (by omega)) rfl rfl (Nat.le_of_ble_eq_true rfl) (by decide) (fun hp62 hq62 => ?_)
              obtain ⟨S2, rfl, h2⟩ := hq62
              rw [show GE (kd B r.2.1) r = (0, r.2.1, r.2.2 ++ [kd B r.2.1]) from if_pos h0] at h2
              obtain ⟨i2, hi2, hw2, hc2, hd2⟩ := h2.2.2.2.2.2.2
              have hs2 := h2.2.2.1
              have hc2 : tkc B i2 = r.2.1 := hc2
              refine L_a0 dX3_readName_65 ?_
              refine GW_3_0 fX3_12 dX3_readName_66 ?_
              refine C_v0V vX3_83 dX3_readName_69 (qX6_advance hs2 hi2 hw2 (by rw [hc2]; omega)) rfl rfl (Nat.le_of_ble_eq_true rfl) (by decide) ?_
              exact RQ_v rfl dX3_readName_72 ⟨_, rfl, by rw [if_neg (by omega)]; exact h2.go rfl hi2 hw2 (by show ¬ kd B r.2.1 = 1; omega)⟩
            · refine L_a0 dX3_readName_54 ?_
              refine J_iconst dX3_readName_55 ?_
              refine C_v1V vX3_79 dX3_readName_56 (qX3_refuse (by omega)) rfl rfl (Nat.le_of_ble_eq_true rfl) (by decide) ?_
              exact RQ_v rfl dX3_readName_59 ⟨_, rfl, by rw [if_pos (by omega)]; exact h.ref (by omega)⟩
        · refine L_a0 dX3_readName_34 ?_
          refine GW_3_7 fX3_38 dX3_readName_35 ?_
          refine J_eqi (b := s0) e7 ?_
          refine J_iconst dX3_readName_38 ?_
          refine J_icmp_ne 54 dX3_readName_39 rfl (by omega) (by omega) (fun c39 => ?_) (fun c39 => ?_)
          · refine L_a0 dX3_readName_54 ?_
            refine J_iconst dX3_readName_55 ?_
            refine C_v1V vX3_79 dX3_readName_56 (qX3_refuse (by omega)) rfl rfl (Nat.le_of_ble_eq_true rfl) (by decide) ?_
            exact RQ_v rfl dX3_readName_59 ⟨_, rfl, by rw [if_pos (by omega)]; exact h.ref (by omega)⟩
          · refine L_i3 dX3_readName_42 ?_
            refine J_if_eq 60 dX3_readName_43 rfl (by omega) (fun c43 => ?_) (fun c43 => ?_)
            · refine L_a0 dX3_readName_60 ?_
              refine L_i1 dX3_readName_61 ?_
              refine C_v1U vX3_114 dX3_readName_62 (qX3_emit h (by omega)) rfl rfl (Nat.le_of_ble_eq_true rfl) (by decide) (fun hp62 hq62 => ?_)
              obtain ⟨S2, rfl, h2⟩ := hq62
              rw [show GE (kd B r.2.1) r = (0, r.2.1, r.2.2 ++ [kd B r.2.1]) from if_pos h0] at h2
              obtain ⟨i2, hi2, hw2, hc2, hd2⟩ := h2.2.2.2.2.2.2
              have hs2 := h2.2.2.1
              have hc2 : tkc B i2 = r.2.1 := hc2
              refine L_a0 dX3_readName_65 ?_
              refine GW_3_0 fX3_12 dX3_readName_66 ?_
              refine C_v0V vX3_83 dX3_readName_69 (qX6_advance hs2 hi2 hw2 (by rw [hc2]; omega)) rfl rfl (Nat.le_of_ble_eq_true rfl) (by decide) ?_
              exact RQ_v rfl dX3_readName_72 ⟨_, rfl, by rw [if_neg (by omega)]; exact h2.go rfl hi2 hw2 (by show ¬ kd B r.2.1 = 1; omega)⟩
            · refine L_a0 dX3_readName_46 ?_
              refine GW_3_7 fX3_38 dX3_readName_47 ?_
              refine J_eqi (b := s0) e7 ?_
              refine J_iconst dX3_readName_50 ?_
              refine J_icmp_eq 60 dX3_readName_51 rfl (by omega) (by omega) (fun c51 => ?_) (fun c51 => ?_)
              · refine L_a0 dX3_readName_60 ?_
                refine L_i1 dX3_readName_61 ?_
                refine C_v1U vX3_114 dX3_readName_62 (qX3_emit h (by omega)) rfl rfl (Nat.le_of_ble_eq_true rfl) (by decide) (fun hp62 hq62 => ?_)
                obtain ⟨S2, rfl, h2⟩ := hq62
                rw [show GE (kd B r.2.1) r = (0, r.2.1, r.2.2 ++ [kd B r.2.1]) from if_pos h0] at h2
                obtain ⟨i2, hi2, hw2, hc2, hd2⟩ := h2.2.2.2.2.2.2
                have hs2 := h2.2.2.1
                have hc2 : tkc B i2 = r.2.1 := hc2
                refine L_a0 dX3_readName_65 ?_
                refine GW_3_0 fX3_12 dX3_readName_66 ?_
                refine C_v0V vX3_83 dX3_readName_69 (qX6_advance hs2 hi2 hw2 (by rw [hc2]; omega)) rfl rfl (Nat.le_of_ble_eq_true rfl) (by decide) ?_
                exact RQ_v rfl dX3_readName_72 ⟨_, rfl, by rw [if_neg (by omega)]; exact h2.go rfl hi2 hw2 (by show ¬ kd B r.2.1 = 1; omega)⟩
              · refine L_a0 dX3_readName_54 ?_
                refine J_iconst dX3_readName_55 ?_
                refine C_v1V vX3_79 dX3_readName_56 (qX3_refuse (by omega)) rfl rfl (Nat.le_of_ble_eq_true rfl) (by decide) ?_
                exact RQ_v rfl dX3_readName_59 ⟨_, rfl, by rw [if_pos (by omega)]; exact h.ref (by omega)⟩
    · refine J_iconst dX3_readName_12 ?_
      refine E_goto 17 dX3_readName_13 rfl ?_
      refine S_i2 dX3_readName_17 (by decide) rfl ?_
      refine L_i1 dX3_readName_18 ?_
      refine J_bipush dX3_readName_19 (by decide) ?_
      refine J_icmp_ne 28 dX3_readName_21 rfl (by omega) (by omega) (fun c21 => ?_) (fun c21 => ?_)
      · refine J_iconst dX3_readName_28 ?_
        refine S_i3 dX3_readName_29 (by decide) rfl ?_
        refine L_i2 dX3_readName_30 ?_
        refine J_if_eq 42 dX3_readName_31 rfl (by omega) (fun c31 => ?_) (fun c31 => ?_)
        · refine L_i3 dX3_readName_42 ?_
          refine J_if_eq 60 dX3_readName_43 rfl (by omega) (fun c43 => ?_) (fun c43 => ?_)
          · refine L_a0 dX3_readName_60 ?_
            refine L_i1 dX3_readName_61 ?_
            refine C_v1U vX3_114 dX3_readName_62 (qX3_emit h (by omega)) rfl rfl (Nat.le_of_ble_eq_true rfl) (by decide) (fun hp62 hq62 => ?_)
            obtain ⟨S2, rfl, h2⟩ := hq62
            rw [show GE (kd B r.2.1) r = (0, r.2.1, r.2.2 ++ [kd B r.2.1]) from if_pos h0] at h2
            obtain ⟨i2, hi2, hw2, hc2, hd2⟩ := h2.2.2.2.2.2.2
            have hs2 := h2.2.2.1
            have hc2 : tkc B i2 = r.2.1 := hc2
            refine L_a0 dX3_readName_65 ?_
            refine GW_3_0 fX3_12 dX3_readName_66 ?_
            refine C_v0V vX3_83 dX3_readName_69 (qX6_advance hs2 hi2 hw2 (by rw [hc2]; omega)) rfl rfl (Nat.le_of_ble_eq_true rfl) (by decide) ?_
            exact RQ_v rfl dX3_readName_72 ⟨_, rfl, by rw [if_neg (by omega)]; exact h2.go rfl hi2 hw2 (by show ¬ kd B r.2.1 = 1; omega)⟩
          · refine L_a0 dX3_readName_46 ?_
            refine GW_3_7 fX3_38 dX3_readName_47 ?_
            refine J_eqi (b := s0) e7 ?_
            refine J_iconst dX3_readName_50 ?_
            refine J_icmp_eq 60 dX3_readName_51 rfl (by omega) (by omega) (fun c51 => ?_) (fun c51 => ?_)
            · refine L_a0 dX3_readName_60 ?_
              refine L_i1 dX3_readName_61 ?_
              refine C_v1U vX3_114 dX3_readName_62 (qX3_emit h (by omega)) rfl rfl (Nat.le_of_ble_eq_true rfl) (by decide) (fun hp62 hq62 => ?_)
              obtain ⟨S2, rfl, h2⟩ := hq62
              rw [show GE (kd B r.2.1) r = (0, r.2.1, r.2.2 ++ [kd B r.2.1]) from if_pos h0] at h2
              obtain ⟨i2, hi2, hw2, hc2, hd2⟩ := h2.2.2.2.2.2.2
              have hs2 := h2.2.2.1
              have hc2 : tkc B i2 = r.2.1 := hc2
              refine L_a0 dX3_readName_65 ?_
              refine GW_3_0 fX3_12 dX3_readName_66 ?_
              refine C_v0V vX3_83 dX3_readName_69 (qX6_advance hs2 hi2 hw2 (by rw [hc2]; omega)) rfl rfl (Nat.le_of_ble_eq_true rfl) (by decide) ?_
              exact RQ_v rfl dX3_readName_72 ⟨_, rfl, by rw [if_neg (by omega)]; exact h2.go rfl hi2 hw2 (by show ¬ kd B r.2.1 = 1; omega)⟩
            · refine L_a0 dX3_readName_54 ?_
              refine J_iconst dX3_readName_55 ?_
              refine C_v1V vX3_79 dX3_readName_56 (qX3_refuse (by omega)) rfl rfl (Nat.le_of_ble_eq_true rfl) (by decide) ?_
              exact RQ_v rfl dX3_readName_59 ⟨_, rfl, by rw [if_pos (by omega)]; exact h.ref (by omega)⟩
        · refine L_a0 dX3_readName_34 ?_
          refine GW_3_7 fX3_38 dX3_readName_35 ?_
          refine J_eqi (b := s0) e7 ?_
          refine J_iconst dX3_readName_38 ?_
          refine J_icmp_ne 54 dX3_readName_39 rfl (by omega) (by omega) (fun c39 => ?_) (fun c39 => ?_)
          · refine L_a0 dX3_readName_54 ?_
            refine J_iconst dX3_readName_55 ?_
            refine C_v1V vX3_79 dX3_readName_56 (qX3_refuse (by omega)) rfl rfl (Nat.le_of_ble_eq_true rfl) (by decide) ?_
            exact RQ_v rfl dX3_readName_59 ⟨_, rfl, by rw [if_pos (by omega)]; exact h.ref (by omega)⟩
          · refine L_i3 dX3_readName_42 ?_
            refine J_if_eq 60 dX3_readName_43 rfl (by omega) (fun c43 => ?_) (fun c43 => ?_)
            · refine L_a0 dX3_readName_60 ?_
              refine L_i1 dX3_readName_61 ?_
              refine C_v1U vX3_114 dX3_readName_62 (qX3_emit h (by omega)) rfl rfl (Nat.le_of_ble_eq_true rfl) (by decide) (fun hp62 hq62 => ?_)
              obtain ⟨S2, rfl, h2⟩ := hq62
              rw [show GE (kd B r.2.1) r = (0, r.2.1, r.2.2 ++ [kd B r.2.1]) from if_pos h0] at h2
              obtain ⟨i2, hi2, hw2, hc2, hd2⟩ := h2.2.2.2.2.2.2
              have hs2 := h2.2.2.1
              have hc2 : tkc B i2 = r.2.1 := hc2
              refine L_a0 dX3_readName_65 ?_
              refine GW_3_0 fX3_12 dX3_readName_66 ?_
              refine C_v0V vX3_83 dX3_readName_69 (qX6_advance hs2 hi2 hw2 (by rw [hc2]; omega)) rfl rfl (Nat.le_of_ble_eq_true rfl) (by decide) ?_
              exact RQ_v rfl dX3_readName_72 ⟨_, rfl, by rw [if_neg (by omega)]; exact h2.go rfl hi2 hw2 (by show ¬ kd B r.2.1 = 1; omega)⟩
            · refine L_a0 dX3_readName_46 ?_
              refine GW_3_7 fX3_38 dX3_readName_47 ?_
              refine J_eqi (b := s0) e7 ?_
              refine J_iconst dX3_readName_50 ?_
              refine J_icmp_eq 60 dX3_readName_51 rfl (by omega) (by omega) (fun c51 => ?_) (fun c51 => ?_)
              · refine L_a0 dX3_readName_60 ?_
                refine L_i1 dX3_readName_61 ?_
                refine C_v1U vX3_114 dX3_readName_62 (qX3_emit h (by omega)) rfl rfl (Nat.le_of_ble_eq_true rfl) (by decide) (fun hp62 hq62 => ?_)
                obtain ⟨S2, rfl, h2⟩ := hq62
                rw [show GE (kd B r.2.1) r = (0, r.2.1, r.2.2 ++ [kd B r.2.1]) from if_pos h0] at h2
                obtain ⟨i2, hi2, hw2, hc2, hd2⟩ := h2.2.2.2.2.2.2
                have hs2 := h2.2.2.1
                have hc2 : tkc B i2 = r.2.1 := hc2
                refine L_a0 dX3_readName_65 ?_
                refine GW_3_0 fX3_12 dX3_readName_66 ?_
                refine C_v0V vX3_83 dX3_readName_69 (qX6_advance hs2 hi2 hw2 (by rw [hc2]; omega)) rfl rfl (Nat.le_of_ble_eq_true rfl) (by decide) ?_
                exact RQ_v rfl dX3_readName_72 ⟨_, rfl, by rw [if_neg (by omega)]; exact h2.go rfl hi2 hw2 (by show ¬ kd B r.2.1 = 1; omega)⟩
              · refine L_a0 dX3_readName_54 ?_
                refine J_iconst dX3_readName_55 ?_
                refine C_v1V vX3_79 dX3_readName_56 (qX3_refuse (by omega)) rfl rfl (Nat.le_of_ble_eq_true rfl) (by decide) ?_
                exact RQ_v rfl dX3_readName_59 ⟨_, rfl, by rw [if_pos (by omega)]; exact h.ref (by omega)⟩
      · refine J_iconst dX3_readName_24 ?_
        refine E_goto 29 dX3_readName_25 rfl ?_
        refine S_i3 dX3_readName_29 (by decide) rfl ?_
        refine L_i2 dX3_readName_30 ?_
        refine J_if_eq 42 dX3_readName_31 rfl (by omega) (fun c31 => ?_) (fun c31 => ?_)
        · refine L_i3 dX3_readName_42 ?_
          refine J_if_eq 60 dX3_readName_43 rfl (by omega) (fun c43 => ?_) (fun c43 => ?_)
          · refine L_a0 dX3_readName_60 ?_
            refine L_i1 dX3_readName_61 ?_
            refine C_v1U vX3_114 dX3_readName_62 (qX3_emit h (by omega)) rfl rfl (Nat.le_of_ble_eq_true rfl) (by decide) (fun hp62 hq62 => ?_)
            obtain ⟨S2, rfl, h2⟩ := hq62
            rw [show GE (kd B r.2.1) r = (0, r.2.1, r.2.2 ++ [kd B r.2.1]) from if_pos h0] at h2
            obtain ⟨i2, hi2, hw2, hc2, hd2⟩ := h2.2.2.2.2.2.2
            have hs2 := h2.2.2.1
            have hc2 : tkc B i2 = r.2.1 := hc2
            refine L_a0 dX3_readName_65 ?_
            refine GW_3_0 fX3_12 dX3_readName_66 ?_
            refine C_v0V vX3_83 dX3_readName_69 (qX6_advance hs2 hi2 hw2 (by rw [hc2]; omega)) rfl rfl (Nat.le_of_ble_eq_true rfl) (by decide) ?_
            exact RQ_v rfl dX3_readName_72 ⟨_, rfl, by rw [if_neg (by omega)]; exact h2.go rfl hi2 hw2 (by show ¬ kd B r.2.1 = 1; omega)⟩
          · refine L_a0 dX3_readName_46 ?_
            refine GW_3_7 fX3_38 dX3_readName_47 ?_
            refine J_eqi (b := s0) e7 ?_
            refine J_iconst dX3_readName_50 ?_
            refine J_icmp_eq 60 dX3_readName_51 rfl (by omega) (by omega) (fun c51 => ?_) (fun c51 => ?_)
            · refine L_a0 dX3_readName_60 ?_
              refine L_i1 dX3_readName_61 ?_
              refine C_v1U vX3_114 dX3_readName_62 (qX3_emit h (by omega)) rfl rfl (Nat.le_of_ble_eq_true rfl) (by decide) (fun hp62 hq62 => ?_)
              obtain ⟨S2, rfl, h2⟩ := hq62
              rw [show GE (kd B r.2.1) r = (0, r.2.1, r.2.2 ++ [kd B r.2.1]) from if_pos h0] at h2
              obtain ⟨i2, hi2, hw2, hc2, hd2⟩ := h2.2.2.2.2.2.2
              have hs2 := h2.2.2.1
              have hc2 : tkc B i2 = r.2.1 := hc2
              refine L_a0 dX3_readName_65 ?_
              refine GW_3_0 fX3_12 dX3_readName_66 ?_
              refine C_v0V vX3_83 dX3_readName_69 (qX6_advance hs2 hi2 hw2 (by rw [hc2]; omega)) rfl rfl (Nat.le_of_ble_eq_true rfl) (by decide) ?_
              exact RQ_v rfl dX3_readName_72 ⟨_, rfl, by rw [if_neg (by omega)]; exact h2.go rfl hi2 hw2 (by show ¬ kd B r.2.1 = 1; omega)⟩
            · refine L_a0 dX3_readName_54 ?_
              refine J_iconst dX3_readName_55 ?_
              refine C_v1V vX3_79 dX3_readName_56 (qX3_refuse (by omega)) rfl rfl (Nat.le_of_ble_eq_true rfl) (by decide) ?_
              exact RQ_v rfl dX3_readName_59 ⟨_, rfl, by rw [if_pos (by omega)]; exact h.ref (by omega)⟩
        · refine L_a0 dX3_readName_34 ?_
          refine GW_3_7 fX3_38 dX3_readName_35 ?_
          refine J_eqi (b := s0) e7 ?_
          refine J_iconst dX3_readName_38 ?_
          refine J_icmp_ne 54 dX3_readName_39 rfl (by omega) (by omega) (fun c39 => ?_) (fun c39 => ?_)
          · refine L_a0 dX3_readName_54 ?_
            refine J_iconst dX3_readName_55 ?_
            refine C_v1V vX3_79 dX3_readName_56 (qX3_refuse (by omega)) rfl rfl (Nat.le_of_ble_eq_true rfl) (by decide) ?_
            exact RQ_v rfl dX3_readName_59 ⟨_, rfl, by rw [if_pos (by omega)]; exact h.ref (by omega)⟩
          · refine L_i3 dX3_readName_42 ?_
            refine J_if_eq 60 dX3_readName_43 rfl (by omega) (fun c43 => ?_) (fun c43 => ?_)
            · refine L_a0 dX3_readName_60 ?_
              refine L_i1 dX3_readName_61 ?_
              refine C_v1U vX3_114 dX3_readName_62 (qX3_emit h (by omega)) rfl rfl (Nat.le_of_ble_eq_true rfl) (by decide) (fun hp62 hq62 => ?_)
              obtain ⟨S2, rfl, h2⟩ := hq62
              rw [show GE (kd B r.2.1) r = (0, r.2.1, r.2.2 ++ [kd B r.2.1]) from if_pos h0] at h2
              obtain ⟨i2, hi2, hw2, hc2, hd2⟩ := h2.2.2.2.2.2.2
              have hs2 := h2.2.2.1
              have hc2 : tkc B i2 = r.2.1 := hc2
              refine L_a0 dX3_readName_65 ?_
              refine GW_3_0 fX3_12 dX3_readName_66 ?_
              refine C_v0V vX3_83 dX3_readName_69 (qX6_advance hs2 hi2 hw2 (by rw [hc2]; omega)) rfl rfl (Nat.le_of_ble_eq_true rfl) (by decide) ?_
              exact RQ_v rfl dX3_readName_72 ⟨_, rfl, by rw [if_neg (by omega)]; exact h2.go rfl hi2 hw2 (by show ¬ kd B r.2.1 = 1; omega)⟩
            · refine L_a0 dX3_readName_46 ?_
              refine GW_3_7 fX3_38 dX3_readName_47 ?_
              refine J_eqi (b := s0) e7 ?_
              refine J_iconst dX3_readName_50 ?_
              refine J_icmp_eq 60 dX3_readName_51 rfl (by omega) (by omega) (fun c51 => ?_) (fun c51 => ?_)
              · refine L_a0 dX3_readName_60 ?_
                refine L_i1 dX3_readName_61 ?_
                refine C_v1U vX3_114 dX3_readName_62 (qX3_emit h (by omega)) rfl rfl (Nat.le_of_ble_eq_true rfl) (by decide) (fun hp62 hq62 => ?_)
                obtain ⟨S2, rfl, h2⟩ := hq62
                rw [show GE (kd B r.2.1) r = (0, r.2.1, r.2.2 ++ [kd B r.2.1]) from if_pos h0] at h2
                obtain ⟨i2, hi2, hw2, hc2, hd2⟩ := h2.2.2.2.2.2.2
                have hs2 := h2.2.2.1
                have hc2 : tkc B i2 = r.2.1 := hc2
                refine L_a0 dX3_readName_65 ?_
                refine GW_3_0 fX3_12 dX3_readName_66 ?_
                refine C_v0V vX3_83 dX3_readName_69 (qX6_advance hs2 hi2 hw2 (by rw [hc2]; omega)) rfl rfl (Nat.le_of_ble_eq_true rfl) (by decide) ?_
                exact RQ_v rfl dX3_readName_72 ⟨_, rfl, by rw [if_neg (by omega)]; exact h2.go rfl hi2 hw2 (by show ¬ kd B r.2.1 = 1; omega)⟩
              · refine L_a0 dX3_readName_54 ?_
                refine J_iconst dX3_readName_55 ?_
                refine C_v1V vX3_79 dX3_readName_56 (qX3_refuse (by omega)) rfl rfl (Nat.le_of_ble_eq_true rfl) (by decide) ?_
                exact RQ_v rfl dX3_readName_59 ⟨_, rfl, by rw [if_pos (by omega)]; exact h.ref (by omega)⟩
