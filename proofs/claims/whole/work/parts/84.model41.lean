/-! ===== the reference: the pile and what is written ===== -/
def rnk (o : Int) : Int := if 40 ≤ o then 0 else if o = 22 then 1 else if o = 21 then 2 else if o = 20 then 3 else if 10 ≤ o then 4 else if 8 ≤ o then 6 else if 6 ≤ o then 5 else 7
theorem rnk_B (o : Int) : 0 ≤ rnk o ∧ rnk o ≤ 7 := by
  unfold rnk
  repeat' split
  all_goals omega
abbrev isO (o : Int) : Prop := 40 ≤ o ∨ rnk o = 7 ∨ o = 20
def cntO : List Int → Int
  | [] => 0
  | o :: ps => cntO ps + (if isO o then 1 else 0)
/-- the pile, its top first -/
def PLd (f : Int → Int) : List Int → Prop
  | [] => True
  | o :: ps => f (ps.length : Int) = o ∧ PLd f ps
theorem PLd_up {f : Int → Int} {k x : Int} : ∀ {ps : List Int}, (ps.length : Int) ≤ k → PLd f ps → PLd (up f k x) ps := by
  intro ps
  induction ps with
  | nil => intro _ _; trivial
  | cons o ps ih =>
    intro h hp
    rw [List.length_cons] at h
    refine ⟨?_, ih (by omega) hp.2⟩
    rw [up_n (by omega)]
    exact hp.1
theorem PLd_push {f : Int → Int} {o : Int} {ps : List Int} (h : PLd f ps) : PLd (up f (ps.length : Int) o) (o :: ps) := ⟨up_s _ _ _, PLd_up (Int.le_refl _) h⟩
/-- what is written -/
def CDd (f : Int → Int) (b : Int) (cd : List (Int × Int)) : Prop := ∀ i : Nat, i < cd.length → f (b + 2 * (i : Int)) = (cd.getD i (0, 0)).1 ∧ f (b + 2 * (i : Int) + 1) = (cd.getD i (0, 0)).2
theorem CDd_emit {f : Int → Int} {b o v : Int} {cd : List (Int × Int)} (h : CDd f b cd) : CDd (up (up f (b + 2 * (cd.length : Int)) o) (b + 2 * (cd.length : Int) + 1) v) b (cd ++ [(o, v)]) := by
  intro i hi
  rw [List.length_append] at hi
  have hi : i < cd.length + 1 := hi
  by_cases e : i = cd.length
  · subst e
    rw [getD_append_r, up_n (by omega), up_s, up_s]
    exact ⟨rfl, rfl⟩
  · rw [getD_append_l (by omega), up_n (by omega), up_n (by omega), up_n (by omega), up_n (by omega)]
    exact h i (by omega)
/-- the pile and what is written, of text q -/
def PZ (T : Nat → Int → Int) (q : Int) (cd : List (Int × Int)) (ps : List Int) : Prop := T 36 12 = 681 * q ∧ T 36 13 = (cd.length : Int) ∧ CDd (T 39) (681 * q + 73) cd ∧ T 36 16 = (ps.length : Int) ∧ PLd (T 41) ps ∧ T 36 17 = cntO ps
/-- nothing changed but these -/
def PF (q : Int) (T T' : Nat → Int → Int) : Prop := Fr [36, 39, 41] T T' ∧ (∀ j : Int, ¬ j = 13 → ¬ j = 16 → ¬ j = 17 → T' 36 j = T 36 j) ∧ ∀ x : Int, (x < 681 * q + 73 ∨ 681 * q + 681 ≤ x) → T' 39 x = T 39 x
theorem PF.refl (q : Int) (T : Nat → Int → Int) : PF q T T := ⟨Fr.refl _ _, fun _ _ _ _ => rfl, fun _ _ => rfl⟩
theorem PF.trans {q : Int} {T T1 T2 : Nat → Int → Int} (h : PF q T T1) (h2 : PF q T1 T2) : PF q T T2 := ⟨h.1.trans h2.1, fun j a b c => (h2.2.1 j a b c).trans (h.2.1 j a b c), fun x hx => (h2.2.2 x hx).trans (h.2.2 x hx)⟩
theorem PF.ct {q : Int} {T T1 : Nat → Int → Int} (h : PF q T T1) {B : Nat → Int} {c : Nat} (hc : CT B T c) : CT B T1 c := by
  unfold CT
  rw [h.2.1 8 (by decide) (by decide) (by decide), h.2.1 7 (by decide) (by decide) (by decide), h.2.1 9 (by decide) (by decide) (by decide), h.2.1 10 (by decide) (by decide) (by decide), h.2.1 11 (by decide) (by decide) (by decide)]
  exact hc
theorem PF.by {q : Int} {T T1 : Nat → Int → Int} (h : PF q T T1) : byF T1 = byF T := by
  funext k
  unfold byF
  rw [h.2.1 4 (by decide) (by decide) (by decide), h.1 40 (by decide)]
theorem PF.tp {q : Int} {T T1 : Nat → Int → Int} (h : PF q T T1) (hp : TP T) : TP T1 := by
  unfold TP
  rw [h.2.1 4 (by decide) (by decide) (by decide), h.1 40 (by decide)]
  exact hp
def emT (T : Nat → Int → Int) (o v : Int) : Nat → Int → Int := upS (upS T 39 (up (up (T 39) (T 36 12 + 73 + 2 * T 36 13) o) (T 36 12 + 73 + 2 * T 36 13 + 1) v)) 36 (up ((upS T 39 (up (up (T 39) (T 36 12 + 73 + 2 * T 36 13) o) (T 36 12 + 73 + 2 * T 36 13 + 1) v)) 36) 13 (T 36 13 + 1))
theorem emT_PF {T : Nat → Int → Int} {q o v : Int} {cd : List (Int × Int)} (h12 : T 36 12 = 681 * q) (h13 : T 36 13 = (cd.length : Int)) (hc : cd.length ≤ 303) : PF q T (emT T o v) := by
  refine ⟨(Fr_up _ _ (by decide)).trans (Fr_up _ _ (by decide)), fun j h1 _ _ => ?_, fun x hx => ?_⟩
  · show upS _ 36 _ 36 j = _
    rw [upS_s, up_n h1]
    exact congrFun (upS_n (by decide)) j
  · show upS _ 36 _ 39 x = _
    rw [upS_n (by decide), upS_s, h12, h13, up_n (by omega), up_n (by omega)]
theorem emT_PZ {T : Nat → Int → Int} {q o v : Int} {cd : List (Int × Int)} {ps : List Int} (h : PZ T q cd ps) : PZ (emT T o v) q (cd ++ [(o, v)]) ps := by
  have e36 : ∀ j : Int, ¬ j = 13 → emT T o v 36 j = T 36 j := fun j hj => by
    show upS _ 36 _ 36 j = _
    rw [upS_s, up_n hj]
    exact congrFun (upS_n (by decide)) j
  refine ⟨by rw [e36 12 (by decide)]; exact h.1, ?_, ?_, by rw [e36 16 (by decide)]; exact h.2.2.2.1, ?_, by rw [e36 17 (by decide)]; exact h.2.2.2.2.2⟩
  · show upS _ 36 _ 36 13 = _
    rw [upS_s, up_s, h.2.1, List.length_append]
    rfl
  · show CDd (upS _ 36 _ 39) _ _
    rw [upS_n (by decide), upS_s, h.1, h.2.1]
    exact CDd_emit h.2.2.1
  · show PLd (upS _ 36 _ 41) _
    rw [upS_n (by decide), upS_n (by decide)]
    exact h.2.2.2.2.1
theorem uf36 {T : Nat → Int → Int} {j i x : Int} (h : ¬ i = j) : upS T 36 (up (T 36) j x) 36 i = T 36 i := by rw [upS_s, up_n h]
theorem PF_36 (q : Int) (T : Nat → Int → Int) {j : Int} (hj : j = 13 ∨ j = 16 ∨ j = 17) (x : Int) : PF q T (upS T 36 (up (T 36) j x)) := ⟨Fr_up _ _ (by decide), fun i h1 h2 h3 => uf36 (by omega), fun z _ => congrFun (upS_n (by decide)) z⟩
/-- as settle goes on -/
def stl (l : Int) : List Int → List (Int × Int) → List Int × List (Int × Int)
  | [], cd => ([], cd)
  | o :: ps, cd => if l ≤ rnk o then stl l ps (cd ++ [(o, 0)]) else (o :: ps, cd)
abbrev VO (ps : List Int) : Prop := ∀ o ∈ ps, 0 ≤ o ∧ o ≤ 100
theorem stl_sum (l : Int) : ∀ (ps : List Int) (cd : List (Int × Int)), (stl l ps cd).2.length + (stl l ps cd).1.length = cd.length + ps.length := by
  intro ps
  induction ps with
  | nil => intro cd; rfl
  | cons o ps ih =>
    intro cd
    rw [stl]
    split
    · have e1 : (cd ++ [(o, (0 : Int))]).length = cd.length + 1 := by simp
      have e2 : (o :: ps).length = ps.length + 1 := rfl
      rw [ih]; omega
    · rfl
set_option maxRecDepth 100000 in
theorem qX11_rank {hp : List mx_C} {o : Int} (h_o : -2147483648 ≤ o ∧ o < 2147483648) : SpF yX11_rank cX11_rank 1 (some .int) 0 [.int (jI o)] hp (.int (jI (rnk o))) hp := by
  refine Sp.of [.int (jI o)] (by decide) (by simp) (Nat.le_of_ble_eq_true rfl) rfl (fun E => ?_)
  refine L_i0 dX11_rank_0 ?_
  refine J_bipush dX11_rank_1 (by decide) ?_
  refine J_icmp_lt 10 dX11_rank_3 rfl (by omega) (by omega) (fun c3 => ?_) (fun c3 => ?_)
  · refine L_i0 dX11_rank_10 ?_
    refine J_bipush dX11_rank_11 (by decide) ?_
    refine J_icmp_ne 20 dX11_rank_13 rfl (by omega) (by omega) (fun c13 => ?_) (fun c13 => ?_)
    · refine L_i0 dX11_rank_20 ?_
      refine J_bipush dX11_rank_21 (by decide) ?_
      refine J_icmp_ne 30 dX11_rank_23 rfl (by omega) (by omega) (fun c23 => ?_) (fun c23 => ?_)
      · refine L_i0 dX11_rank_30 ?_
        refine J_bipush dX11_rank_31 (by decide) ?_
        refine J_icmp_ne 40 dX11_rank_33 rfl (by omega) (by omega) (fun c33 => ?_) (fun c33 => ?_)
        · refine L_i0 dX11_rank_40 ?_
          refine J_bipush dX11_rank_41 (by decide) ?_
          refine J_icmp_lt 50 dX11_rank_43 rfl (by omega) (by omega) (fun c43 => ?_) (fun c43 => ?_)
          · refine L_i0 dX11_rank_50 ?_
            refine J_bipush dX11_rank_51 (by decide) ?_
            refine J_icmp_lt 61 dX11_rank_53 rfl (by omega) (by omega) (fun c53 => ?_) (fun c53 => ?_)
            · refine L_i0 dX11_rank_61 ?_
              refine J_bipush dX11_rank_62 (by decide) ?_
              refine J_icmp_lt 71 dX11_rank_64 rfl (by omega) (by omega) (fun c64 => ?_) (fun c64 => ?_)
              · refine J_bipush dX11_rank_71 (by decide) ?_
                exact R_i rfl dX11_rank_73 rfl (by unfold rnk; repeat' split; all_goals omega)
              · refine J_iconst dX11_rank_67 ?_
                refine E_goto 73 dX11_rank_68 rfl ?_
                exact R_i rfl dX11_rank_73 rfl (by unfold rnk; repeat' split; all_goals omega)
            · refine J_bipush dX11_rank_56 (by decide) ?_
              refine E_goto 73 dX11_rank_58 rfl ?_
              exact R_i rfl dX11_rank_73 rfl (by unfold rnk; repeat' split; all_goals omega)
          · refine J_iconst dX11_rank_46 ?_
            refine E_goto 73 dX11_rank_47 rfl ?_
            exact R_i rfl dX11_rank_73 rfl (by unfold rnk; repeat' split; all_goals omega)
        · refine J_iconst dX11_rank_36 ?_
          refine E_goto 73 dX11_rank_37 rfl ?_
          exact R_i rfl dX11_rank_73 rfl (by unfold rnk; repeat' split; all_goals omega)
      · refine J_iconst dX11_rank_26 ?_
        refine E_goto 73 dX11_rank_27 rfl ?_
        exact R_i rfl dX11_rank_73 rfl (by unfold rnk; repeat' split; all_goals omega)
    · refine J_iconst dX11_rank_16 ?_
      refine E_goto 73 dX11_rank_17 rfl ?_
      exact R_i rfl dX11_rank_73 rfl (by unfold rnk; repeat' split; all_goals omega)
  · refine J_iconst dX11_rank_6 ?_
    refine E_goto 73 dX11_rank_7 rfl ?_
    exact R_i rfl dX11_rank_73 rfl (by unfold rnk; repeat' split; all_goals omega)

set_option maxRecDepth 100000 in
theorem qX11_emit {S T : Nat → Int → Int} {D : List mx_C} {o v : Int} (h1 : 0 ≤ T 36 12 ∧ T 36 12 ≤ 2043) (h2 : 0 ≤ T 36 13 ∧ T 36 13 ≤ 303) : SpV yX11_emit cX11_emit 3 none 0 [.ref 36, .int (jI o), .int (jI v)] (W5 S T D) (W5 S (emT T o v) D) := by
  refine Sp.of [.ref 36, .int (jI o), .int (jI v)] (by decide) (by simp) (Nat.le_of_ble_eq_true rfl) rfl (fun E => ?_)
  refine L_a0 dX11_emit_0 ?_
  refine GW_36_2 fX11_16 dX11_emit_1 ?_
  refine L_a0 dX11_emit_4 ?_
  refine GW_36_12 fX11_152 dX11_emit_5 ?_
  refine J_bipush dX11_emit_8 (by decide) ?_
  refine J_iadd dX11_emit_10 ?_
  refine J_iconst dX11_emit_11 ?_
  refine L_a0 dX11_emit_12 ?_
  refine GW_36_13 fX11_155 dX11_emit_13 ?_
  refine J_imul dX11_emit_16 ?_
  refine J_iadd dX11_emit_17 ?_
  refine L_i1 dX11_emit_18 ?_
  refine AS_39 dX11_emit_19 (by omega) ?_
  refine L_a0 dX11_emit_20 ?_
  refine GW_36_2 fX11_16 dX11_emit_21 ?_
  refine L_a0 dX11_emit_24 ?_
  refine GW_36_12 fX11_152 dX11_emit_25 ?_
  refine J_eqi (b := T 36 12) (congrFun (upS_n (by decide)) 12) ?_
  refine J_bipush dX11_emit_28 (by decide) ?_
  refine J_iadd dX11_emit_30 ?_
  refine J_iconst dX11_emit_31 ?_
  refine L_a0 dX11_emit_32 ?_
  refine GW_36_13 fX11_155 dX11_emit_33 ?_
  refine J_eqi (b := T 36 13) (congrFun (upS_n (by decide)) 13) ?_
  refine J_imul dX11_emit_36 ?_
  refine J_iadd dX11_emit_37 ?_
  refine J_iconst dX11_emit_38 ?_
  refine J_iadd dX11_emit_39 ?_
  refine L_i2 dX11_emit_40 ?_
  refine AS_39 dX11_emit_41 (by omega) ?_
  refine L_a0 dX11_emit_42 ?_
  refine E_dup dX11_emit_43 rfl ?_
  refine GW_36_13 fX11_155 dX11_emit_44 ?_
  refine J_eqi (b := T 36 13) (congrFun ((upS_n (by decide)).trans (upS_n (by decide))) 13) ?_
  refine J_iconst dX11_emit_47 ?_
  refine J_iadd dX11_emit_48 ?_
  refine PW_36_13 fX11_155 dX11_emit_49 ?_
  exact R_v rfl dX11_emit_52 rfl

theorem lX11_settle {E : mx_E} {S T : Nat → Int → Int} {D : List mx_C} {q l : Int} (h_q : 0 ≤ q ∧ q ≤ 3) (h_l : 1 ≤ l ∧ l ≤ 100) {Q : List mx_C → Prop} : ∀ (ps : List Int) (cd : List (Int × Int)) (T1 : Nat → Int → Int), VO ps → PF q T T1 → PZ T1 q cd ps → cd.length + ps.length ≤ 300 → ps.length < 160 → (∀ T' : Nat → Int → Int, PF q T T' → PZ T' q (stl l ps cd).2 (stl l ps cd).1 → Q (W5 S T' D)) → Ev E yX11_settle cX11_settle 2 none (kU E 1 Q) 0 0 0 [.ref 36, .int (jI l)] [] (W5 S T1 D) := by
  intro ps
  induction ps with
  | nil =>
    intro cd T1 hvo hf hz hb hl hq
    have h16 : T1 36 16 = 0 := hz.2.2.2.1
    refine L_a0 dX11_settle_0 ?_
    refine GW_36_16 fX11_165 dX11_settle_1 ?_
    refine J_eqi (b := 0) h16 ?_
    refine J_if_le 93 dX11_settle_4 rfl (by omega) (fun c4 => ?_) (fun c4 => ?_)
    · exact RQ_v rfl dX11_settle_93 (hq T1 hf hz)
    · exfalso; exact absurd c4 (by decide)
  | cons o ps ih =>
    intro cd T1 hvo hf hz hb hl hq
    rw [List.length_cons] at hb hl
    have hz4 := hz.2.2.2.1
    rw [List.length_cons] at hz4
    have h16 : T1 36 16 = ((ps.length + 1 : Nat) : Int) := hz4
    have h41 := hz.2.2.2.2.1.1
    have ho := hvo o List.mem_cons_self
    have hrb := rnk_B o
    have h17 := hz.2.2.2.2.2
    rw [cntO] at h17
    rw [stl] at hq
    have hz1 := hz.1
    have hz2 := hz.2.1
    refine L_a0 dX11_settle_0 ?_
    refine GW_36_16 fX11_165 dX11_settle_1 ?_
    refine J_eqi (b := ((ps.length + 1 : Nat) : Int)) h16 ?_
    refine J_if_le 93 dX11_settle_4 rfl (by omega) (fun c4 => ?_) (fun c4 => ?_)
    · exfalso; omega
    · refine L_a0 dX11_settle_7 ?_
      refine GW_36_15 fX11_29 dX11_settle_8 ?_
      refine L_a0 dX11_settle_11 ?_
      refine GW_36_16 fX11_165 dX11_settle_12 ?_
      refine J_eqi (b := ((ps.length + 1 : Nat) : Int)) h16 ?_
      refine J_iconst dX11_settle_15 ?_
      refine J_isub dX11_settle_16 ?_
      refine J_eqi (b := (ps.length : Int)) (by omega) ?_
      refine AR_41 dX11_settle_17 (by omega) ?_
      refine J_eqi (b := o) h41 ?_
      refine C_s1F vX11_168 dX11_settle_18 (qX11_rank (by omega)) (Nat.le_of_ble_eq_true rfl) (by decide) ?_
      refine L_i1 dX11_settle_21 ?_
      refine J_icmp_lt 93 dX11_settle_22 rfl (by omega) (by omega) (fun c22 => ?_) (fun c22 => ?_)
      · exact RQ_v rfl dX11_settle_93 (hq T1 hf (by rw [if_neg (by omega)]; exact hz))
      · refine L_a0 dX11_settle_25 ?_
        refine E_dup dX11_settle_26 rfl ?_
        refine GW_36_16 fX11_165 dX11_settle_27 ?_
        refine J_eqi (b := ((ps.length + 1 : Nat) : Int)) h16 ?_
        refine J_iconst dX11_settle_30 ?_
        refine J_isub dX11_settle_31 ?_
        refine J_eqi (b := (ps.length : Int)) (by omega) ?_
        refine PW_36_16 fX11_165 dX11_settle_32 ?_
        refine L_a0 dX11_settle_35 ?_
        refine L_a0 dX11_settle_36 ?_
        refine GW_36_15 fX11_29 dX11_settle_37 ?_
        refine L_a0 dX11_settle_40 ?_
        refine GW_36_16 fX11_165 dX11_settle_41 ?_
        refine J_eqi (b := (ps.length : Int)) (by rw [upS_s, up_s]) ?_
        refine AR_41 dX11_settle_44 (by omega) ?_
        refine J_eqi (b := o) (by rw [upS_n (by decide)]; exact h41) ?_
        refine J_iconst dX11_settle_45 ?_
        refine C_v2V vX11_171 dX11_settle_46 (qX11_emit (T := (upS T1 36 (up (T1 36) 16 (ps.length : Int)))) (by rw [uf36 (by decide)]; omega) (by rw [uf36 (by decide)]; omega)) rfl rfl (Nat.le_of_ble_eq_true rfl) (by decide) ?_
        have h16e : emT (upS T1 36 (up (T1 36) 16 (ps.length : Int))) o 0 36 16 = (ps.length : Int) := by show upS _ 36 _ 36 16 = _; rw [upS_s, up_n (by decide), upS_n (by decide), upS_s, up_s]
        have h41e : emT (upS T1 36 (up (T1 36) 16 (ps.length : Int))) o 0 41 (ps.length : Int) = o := by show upS _ 36 _ 41 _ = _; rw [upS_n (by decide), upS_n (by decide), upS_n (by decide)]; exact h41
        refine L_a0 dX11_settle_49 ?_
        refine GW_36_15 fX11_29 dX11_settle_50 ?_
        refine L_a0 dX11_settle_53 ?_
        refine GW_36_16 fX11_165 dX11_settle_54 ?_
        refine J_eqi (b := (ps.length : Int)) h16e ?_
        refine AR_41 dX11_settle_57 (by omega) ?_
        refine J_eqi (b := o) h41e ?_
        refine C_s1F vX11_168 dX11_settle_58 (qX11_rank (by omega)) (Nat.le_of_ble_eq_true rfl) (by decide) ?_
        refine J_bipush dX11_settle_61 (by decide) ?_
        refine J_icmp_eq 80 dX11_settle_63 rfl (by omega) (by omega) (fun c63 => ?_) (fun c63 => ?_)
        · refine L_a0 dX11_settle_80 ?_
          refine E_dup dX11_settle_81 rfl ?_
          refine GW_36_17 fX11_175 dX11_settle_82 ?_
          refine J_iconst dX11_settle_85 ?_
          refine J_isub dX11_settle_86 ?_
          refine PW_36_17 fX11_175 dX11_settle_87 ?_
          refine E_goto 0 dX11_settle_90 rfl ?_
          rw [if_pos (by omega)] at hq
          have hz' : PZ (emT (upS T1 36 (up (T1 36) 16 (ps.length : Int))) o 0) q (cd ++ [(o, 0)]) ps ∨ True := Or.inr trivial
          have hq1 : (upS T1 36 (up (T1 36) 16 (ps.length : Int))) 36 12 = 681 * q := by rw [uf36 (by decide)]; exact hz.1
          have hq2 : (upS T1 36 (up (T1 36) 16 (ps.length : Int))) 36 13 = (cd.length : Int) := by rw [uf36 (by decide)]; exact hz.2.1
          have hpf := hf.trans ((PF_36 q T1 (j := 16) (by omega) _).trans (emT_PF (q := q) (o := o) (v := 0) (cd := cd) hq1 hq2 (by omega)))
          have hcd : CDd (emT (upS T1 36 (up (T1 36) 16 (ps.length : Int))) o 0 39) (681 * q + 73) (cd ++ [(o, 0)]) := by
            show CDd (upS _ 36 _ 39) _ _
            rw [upS_n (by decide), upS_s, hq1, hq2, upS_n (by decide)]
            exact CDd_emit hz.2.2.1
          have e36 : ∀ j : Int, ¬ j = 13 → emT (upS T1 36 (up (T1 36) 16 (ps.length : Int))) o 0 36 j = (upS T1 36 (up (T1 36) 16 (ps.length : Int))) 36 j := fun j hj => by
            show upS _ 36 _ 36 j = _
            rw [upS_s, up_n hj]
            exact congrFun (upS_n (by decide)) j
          have e17 : emT (upS T1 36 (up (T1 36) 16 (ps.length : Int))) o 0 36 17 = cntO ps + 1 := by rw [e36 17 (by decide), uf36 (by decide), h17, if_pos (Or.inr (Or.inl c63))]
          refine ih (cd ++ [(o, 0)]) _ (fun x hx => hvo x (List.mem_cons_of_mem _ hx)) (hpf.trans (PF_36 q (emT (upS T1 36 (up (T1 36) 16 (ps.length : Int))) o 0) (j := 17) (by omega) _)) ⟨?_, ?_, ?_, ?_, ?_, ?_⟩ (by rw [List.length_append]; show cd.length + 1 + ps.length ≤ 300; omega) (by omega) hq
          · rw [uf36 (by decide), e36 12 (by decide)]; exact hq1
          · rw [uf36 (by decide)]; show upS _ 36 _ 36 13 = _; rw [upS_s, up_s, hq2, List.length_append]; rfl
          · rw [upS_n (by decide)]; exact hcd
          · rw [uf36 (by decide), e36 16 (by decide)]; rw [upS_s, up_s]
          · rw [upS_n (by decide)]; show PLd (upS _ 36 _ 41) _; rw [upS_n (by decide), upS_n (by decide), upS_n (by decide)]; exact hz.2.2.2.2.1.2
          · rw [upS_s, up_s, e17]; omega
        · refine L_a0 dX11_settle_66 ?_
          refine GW_36_15 fX11_29 dX11_settle_67 ?_
          refine L_a0 dX11_settle_70 ?_
          refine GW_36_16 fX11_165 dX11_settle_71 ?_
          refine J_eqi (b := (ps.length : Int)) h16e ?_
          refine AR_41 dX11_settle_74 (by omega) ?_
          refine J_eqi (b := o) h41e ?_
          refine J_bipush dX11_settle_75 (by decide) ?_
          refine J_icmp_ne 0 dX11_settle_77 rfl (by omega) (by omega) (fun c77 => ?_) (fun c77 => ?_)
          · rw [if_pos (by omega)] at hq
            have hz' : PZ (upS T1 36 (up (T1 36) 16 (ps.length : Int))) q cd ps := ⟨by rw [uf36 (by decide)]; exact hz.1, by rw [uf36 (by decide)]; exact hz.2.1, by rw [upS_n (by decide)]; exact hz.2.2.1, by rw [upS_s, up_s], by rw [upS_n (by decide)]; exact hz.2.2.2.2.1.2, by rw [uf36 (by decide), h17, if_neg (fun h => by rcases h with h | h | h; (unfold rnk at c22; rw [if_pos h] at c22; omega); (exact c63 h); (exact c77 h))]; omega⟩
            exact ih _ _ (fun x hx => hvo x (List.mem_cons_of_mem _ hx)) (hf.trans ((PF_36 q T1 (j := 16) (by omega) _).trans (emT_PF (q := q) (cd := cd) hz'.1 hz'.2.1 (by omega)))) (emT_PZ hz') (by rw [List.length_append]; show cd.length + 1 + ps.length ≤ 300; omega) (by omega) hq
          · refine L_a0 dX11_settle_80 ?_
            refine E_dup dX11_settle_81 rfl ?_
            refine GW_36_17 fX11_175 dX11_settle_82 ?_
            refine J_iconst dX11_settle_85 ?_
            refine J_isub dX11_settle_86 ?_
            refine PW_36_17 fX11_175 dX11_settle_87 ?_
            refine E_goto 0 dX11_settle_90 rfl ?_
            rw [if_pos (by omega)] at hq
            have hz' : PZ (emT (upS T1 36 (up (T1 36) 16 (ps.length : Int))) o 0) q (cd ++ [(o, 0)]) ps ∨ True := Or.inr trivial
            have hq1 : (upS T1 36 (up (T1 36) 16 (ps.length : Int))) 36 12 = 681 * q := by rw [uf36 (by decide)]; exact hz.1
            have hq2 : (upS T1 36 (up (T1 36) 16 (ps.length : Int))) 36 13 = (cd.length : Int) := by rw [uf36 (by decide)]; exact hz.2.1
            have hpf := hf.trans ((PF_36 q T1 (j := 16) (by omega) _).trans (emT_PF (q := q) (o := o) (v := 0) (cd := cd) hq1 hq2 (by omega)))
            have hcd : CDd (emT (upS T1 36 (up (T1 36) 16 (ps.length : Int))) o 0 39) (681 * q + 73) (cd ++ [(o, 0)]) := by
              show CDd (upS _ 36 _ 39) _ _
              rw [upS_n (by decide), upS_s, hq1, hq2, upS_n (by decide)]
              exact CDd_emit hz.2.2.1
            have e36 : ∀ j : Int, ¬ j = 13 → emT (upS T1 36 (up (T1 36) 16 (ps.length : Int))) o 0 36 j = (upS T1 36 (up (T1 36) 16 (ps.length : Int))) 36 j := fun j hj => by
              show upS _ 36 _ 36 j = _
              rw [upS_s, up_n hj]
              exact congrFun (upS_n (by decide)) j
            have e17 : emT (upS T1 36 (up (T1 36) 16 (ps.length : Int))) o 0 36 17 = cntO ps + 1 := by rw [e36 17 (by decide), uf36 (by decide), h17, if_pos (Or.inr (Or.inr c77))]
            refine ih (cd ++ [(o, 0)]) _ (fun x hx => hvo x (List.mem_cons_of_mem _ hx)) (hpf.trans (PF_36 q (emT (upS T1 36 (up (T1 36) 16 (ps.length : Int))) o 0) (j := 17) (by omega) _)) ⟨?_, ?_, ?_, ?_, ?_, ?_⟩ (by rw [List.length_append]; show cd.length + 1 + ps.length ≤ 300; omega) (by omega) hq
            · rw [uf36 (by decide), e36 12 (by decide)]; exact hq1
            · rw [uf36 (by decide)]; show upS _ 36 _ 36 13 = _; rw [upS_s, up_s, hq2, List.length_append]; rfl
            · rw [upS_n (by decide)]; exact hcd
            · rw [uf36 (by decide), e36 16 (by decide)]; rw [upS_s, up_s]
            · rw [upS_n (by decide)]; show PLd (upS _ 36 _ 41) _; rw [upS_n (by decide), upS_n (by decide), upS_n (by decide)]; exact hz.2.2.2.2.1.2
            · rw [upS_s, up_s, e17]; omega
theorem qX11_settle {S T : Nat → Int → Int} {D : List mx_C} {q l : Int} (h_q : 0 ≤ q ∧ q ≤ 3) (h_l : 1 ≤ l ∧ l ≤ 100) {ps : List Int} {cd : List (Int × Int)} (hvo : VO ps) (hz : PZ T q cd ps) (hb : cd.length + ps.length ≤ 300) (hl : ps.length < 160) : SpU yX11_settle cX11_settle 2 none 1 [.ref 36, .int (jI l)] (W5 S T D) (fun hp' => ∃ T', hp' = W5 S T' D ∧ PF q T T' ∧ PZ T' q (stl l ps cd).2 (stl l ps cd).1) := by
  refine Sp.of [.ref 36, .int (jI l)] (by decide) (by simp) (Nat.le_of_ble_eq_true rfl) rfl (fun E => ?_)
  exact lX11_settle h_q h_l ps cd T hvo (PF.refl q T) hz hb hl (fun T' a b => ⟨T', rfl, a, b⟩)
