/-! ===== the reference: clauses' bodies ===== -/
def TS (B : Nat → Int) (T : Nat → Int → Int) (c : Nat) : Prop := CT B T c ∧ byF T = B ∧ TP T ∧ (lxe B c : Int) ≤ T 36 4
theorem TS.hB {B : Nat → Int} {T : Nat → Int → Int} {c : Nat} (a : TS B T c) : ∀ k, B k ≤ 255 := fun k => by rw [← a.2.1]; exact (byF_B a.2.2.1 k).2
/-- the same tape and token -/
theorem TS.of {B : Nat → Int} {T T1 : Nat → Int → Int} {c : Nat} (a : TS B T c) (e : ∀ j : Int, (j = 4 ∨ (7 ≤ j ∧ j ≤ 11)) → T1 36 j = T 36 j) (e40 : T1 40 = T 40) : TS B T1 c := by
  refine ⟨?_, ?_, ?_, by rw [e 4 (by omega)]; exact a.2.2.2⟩
  · unfold CT
    rw [e 8 (by omega), e 7 (by omega), e 9 (by omega), e 10 (by omega), e 11 (by omega)]
    exact a.1
  · rw [← a.2.1]; funext k; unfold byF; rw [e 4 (by omega), e40]
  · unfold TP; rw [e 4 (by omega), e40]; exact a.2.2.1
theorem TS.nx {B : Nat → Int} {T T1 : Nat → Int → Int} {c : Nat} (a : TS B T c) (hN : NX T T1) (hct : CT (byF T) T1 (lxe B c)) : TS B T1 (lxe B c) := by
  have h4 := a.2.2.1.1
  have he := lxe_hi (byF_neg a.2.2.1) (c := lxe B c) (by have := a.2.2.2; omega)
  rw [a.2.1] at hct he
  exact ⟨hct, by rw [hN.by]; exact a.2.1, hN.tp a.2.2.1, by rw [hN.len]; omega⟩
def fig (k v lo hi : Int) : Int := if ¬ k = 2 then 1 else if lo ≤ v ∧ v ≤ hi then 0 else 2
/-- a number at a place of the texts, one token further -/
def FG (B : Nat → Int) (T T' : Nat → Int → Int) (c : Nat) (x : Int) : Prop := T' 39 = up (T 39) x (lxn B c) ∧ Fr [36, 39] T T' ∧ (∀ j : Int, (j < 7 ∨ 11 < j) → T' 36 j = T 36 j) ∧ TS B T' (lxe B c)
set_option maxRecDepth 100000 in
theorem qX11_figure {S T : Nat → Int → Int} {D : List mx_C} {B : Nat → Int} {c : Nat} (hs : TS B T c) {x lo top : Int} (h_x : 0 ≤ x ∧ x < 2724) (h_lo : 0 ≤ lo ∧ lo ≤ 100) (h_t : 0 ≤ top ∧ top ≤ 100) : SpI yX11_figure cX11_figure 4 (some .int) 2 [.ref 36, .int (jI x), .int (jI lo), .int (jI top)] (W5 S T D) (fun v hp' => ∃ T', hp' = W5 S T' D ∧ v = fig (kd B c) (lxn B c) lo top ∧ ((¬ v = 0 ∧ T' = T) ∨ (v = 0 ∧ FG B T T' c x))) := by
  have hct := hs.1
  have hB := hs.hB
  have ht := lxt_B hB c
  have hln := lxn_B B c
  refine Sp.of [.ref 36, .int (jI x), .int (jI lo), .int (jI top)] (by decide) (by simp) (Nat.le_of_ble_eq_true rfl) rfl (fun E => ?_)
  refine L_a0 dX11_figure_0 ?_
  refine GW_36_9 fX11_114 dX11_figure_1 ?_
  refine J_eqi (b := lxt B c) hct.2.2.1 ?_
  refine J_iconst dX11_figure_4 ?_
  refine J_icmp_eq 10 dX11_figure_5 rfl (by omega) (by omega) (fun c5 => ?_) (fun c5 => ?_)
  · refine L_a0 dX11_figure_10 ?_
    refine GW_36_10 fX11_120 dX11_figure_11 ?_
    refine J_eqi (b := lxn B c) (hct.2.2.2.1 (by omega)) ?_
    refine L_i2 dX11_figure_14 ?_
    refine L_i3 dX11_figure_15 ?_
    refine C_s3F vX11_83 dX11_figure_16 (qX11_isIn (by omega) (by omega) (by omega)) (Nat.le_of_ble_eq_true rfl) (by decide) ?_
    refine J_ifneB 24 dX11_figure_19 rfl (fun c19 => ?_) (fun c19 => ?_)
    · refine L_a0 dX11_figure_24 ?_
      refine GW_36_2 fX11_16 dX11_figure_25 ?_
      refine L_i1 dX11_figure_28 ?_
      refine L_a0 dX11_figure_29 ?_
      refine GW_36_10 fX11_120 dX11_figure_30 ?_
      refine J_eqi (b := lxn B c) (hct.2.2.2.1 (by omega)) ?_
      refine AS_39 dX11_figure_33 (by omega) ?_
      refine L_a0 dX11_figure_34 ?_
      have hs1 : TS B (upS T 39 (up (T 39) x (lxn B c))) c := hs.of (fun j _ => congrFun (upS_n (by decide)) j) (upS_n (by decide))
      refine C_v0U vX11_185 dX11_figure_35 (qX11_nextToken (T := (upS T 39 (up (T 39) x (lxn B c)))) (c := lxe B c) hs1.2.2.1 hs1.1.2.1 hs1.2.2.2) rfl rfl (Nat.le_of_ble_eq_true rfl) (by decide) (fun hp35 hq35 => ?_)
      obtain ⟨T35, rfl, hN35, hct35⟩ := hq35
      refine J_iconst dX11_figure_38 ?_
      exact RQ_i rfl dX11_figure_39 ⟨T35, rfl, by unfold fig; rw [if_neg (fun e => e (kd_2.mpr c5)), if_pos c19], Or.inr ⟨rfl, by rw [hN35.1 39 (by decide), upS_s], (Fr_up T _ (by decide : 39 ∈ [36, 39])).trans (hN35.1.mono (by decide)), fun j hj => (hN35.2 j hj).trans (congrFun (upS_n (by decide)) j), hs1.nx hN35 hct35⟩⟩
    · refine J_iconst dX11_figure_22 ?_
      exact RQ_i rfl dX11_figure_23 ⟨T, rfl, by unfold fig; rw [if_neg (fun e => e (kd_2.mpr c5)), if_neg c19], Or.inl ⟨by decide, rfl⟩⟩
  · refine J_iconst dX11_figure_8 ?_
    exact RQ_i rfl dX11_figure_9 ⟨T, rfl, by unfold fig; rw [if_pos (fun e => c5 (kd_2.mp e))], Or.inl ⟨by decide, rfl⟩⟩

def jnf (B : Nat → Int) (c : Nat) : Int × Nat := if fig (kd B c) (lxn B c) 1 8 = 0 then (if kd B (lxe B c) = 24 then (if fig (kd B (lxe B (lxe B c))) (lxn B (lxe B (lxe B c))) 0 15 = 0 then (0, lxe B (lxe B (lxe B c))) else (fig (kd B (lxe B (lxe B c))) (lxn B (lxe B (lxe B c))) 0 15, lxe B (lxe B c))) else (1, lxe B c)) else (fig (kd B c) (lxn B c) 1 8, c)
/-- what a body changes of the texts: x + 1, x + 2 -/
def JF (T T' : Nat → Int → Int) (x : Int) : Prop := Fr [36, 39] T T' ∧ (∀ j : Int, (j < 7 ∨ 11 < j) → T' 36 j = T 36 j) ∧ ∀ y : Int, ¬ y = x + 1 → ¬ y = x + 2 → T' 39 y = T 39 y
theorem JF.refl (T : Nat → Int → Int) (x : Int) : JF T T x := ⟨Fr.refl _ _, fun _ _ => rfl, fun _ _ _ => rfl⟩
theorem JF.trans {T T1 T2 : Nat → Int → Int} {x : Int} (a : JF T T1 x) (b : JF T1 T2 x) : JF T T2 x := ⟨a.1.trans b.1, fun j hj => (b.2.1 j hj).trans (a.2.1 j hj), fun y h1 h2 => (b.2.2 y h1 h2).trans (a.2.2 y h1 h2)⟩
theorem FG.jf {B : Nat → Int} {T T' : Nat → Int → Int} {c : Nat} {x z : Int} (a : FG B T T' c z) (hz : z = x + 1 ∨ z = x + 2) : JF T T' x := ⟨a.2.1, a.2.2.1, fun y h1 h2 => by rw [a.1, up_n (by omega)]⟩
theorem NX.jf {T T' : Nat → Int → Int} {x : Int} (a : NX T T') : JF T T' x := ⟨a.1.mono (by decide), a.2, fun y _ _ => by rw [a.1 39 (by decide)]⟩
theorem fig_B (k v lo top : Int) : fig k v lo top = 0 ∨ fig k v lo top = 1 ∨ fig k v lo top = 2 := by
  unfold fig
  repeat' split
  all_goals omega
set_option maxRecDepth 100000 in
theorem qX11_joinClause {S T : Nat → Int → Int} {D : List mx_C} {B : Nat → Int} {c : Nat} (hs : TS B T c) {x : Int} (h_x : 0 ≤ x ∧ x < 2720) : SpI yX11_joinClause cX11_joinClause 3 (some .int) 3 [.ref 36, .int (jI x)] (W5 S T D) (fun v hp' => ∃ T', hp' = W5 S T' D ∧ v = (jnf B c).1 ∧ TS B T' (jnf B c).2 ∧ JF T T' x ∧ (v = 0 → T' 39 (x + 1) = lxn B c ∧ T' 39 (x + 2) = lxn B (lxe B (lxe B c)))) := by
  refine Sp.of [.ref 36, .int (jI x), .retAddr 0] (by decide) (by simp) (Nat.le_of_ble_eq_true rfl) rfl (fun E => ?_)
  refine L_a0 dX11_joinClause_0 ?_
  refine L_i1 dX11_joinClause_1 ?_
  refine J_iconst dX11_joinClause_2 ?_
  refine J_iadd dX11_joinClause_3 ?_
  refine J_iconst dX11_joinClause_4 ?_
  refine J_bipush dX11_joinClause_5 (by decide) ?_
  refine C_v3I vX11_232 dX11_joinClause_7 (qX11_figure hs (by omega) (by omega) (by omega)) rfl rfl (Nat.le_of_ble_eq_true rfl) (by decide) (fun v7 hp7 hq7 => ?_)
  obtain ⟨T7, rfl, e7, hh7⟩ := hq7
  have hfb := fig_B (kd B c) (lxn B c) 1 8
  refine S_i2 dX11_joinClause_10 (by decide) rfl ?_
  refine L_i2 dX11_joinClause_11 ?_
  refine J_if_eq 17 dX11_joinClause_12 rfl (by omega) (fun c12 => ?_) (fun c12 => ?_)
  · obtain ⟨hf1, hg⟩ : fig (kd B c) (lxn B c) 1 8 = 0 ∧ FG B T T7 c (x + 1) := by
      rcases hh7 with a | a
      · exact absurd c12 a.1
      · exact ⟨by omega, a.2⟩
    have hs7 := hg.2.2.2
    have hct7 := hs7.1
    have hB := hs7.hB
    refine L_a0 dX11_joinClause_17 ?_
    refine J_bipush dX11_joinClause_18 (by decide) ?_
    refine J_bipush dX11_joinClause_20 (by decide) ?_
    refine C_s2F vX11_136 dX11_joinClause_22 (qX11_w2 (x := 97) (z := 116) (by decide) (by decide)) (Nat.le_of_ble_eq_true rfl) (by decide) ?_
    refine J_eql (b := 24948) (by decide) ?_
    refine C_v1F vX11_203 dX11_joinClause_25 (qX11_isWord hct7 hB (by omega)) rfl rfl (Nat.le_of_ble_eq_true rfl) (by decide) ?_
    refine J_ifneB 33 dX11_joinClause_28 rfl (fun c28 => ?_) (fun c28 => ?_)
    · refine L_a0 dX11_joinClause_33 ?_
      refine C_v0U vX11_185 dX11_joinClause_34 (qX11_nextToken (T := T7) (c := lxe B (lxe B c)) hs7.2.2.1 hct7.2.1 hs7.2.2.2) rfl rfl (Nat.le_of_ble_eq_true rfl) (by decide) (fun hp34 hq34 => ?_)
      obtain ⟨T34, rfl, hN34, hct34⟩ := hq34
      have hs34 := hs7.nx hN34 hct34
      refine L_a0 dX11_joinClause_37 ?_
      refine L_i1 dX11_joinClause_38 ?_
      refine J_iconst dX11_joinClause_39 ?_
      refine J_iadd dX11_joinClause_40 ?_
      refine J_iconst dX11_joinClause_41 ?_
      refine J_bipush dX11_joinClause_42 (by decide) ?_
      refine C_v3I vX11_232 dX11_joinClause_44 (qX11_figure hs34 (by omega) (by omega) (by omega)) rfl rfl (Nat.le_of_ble_eq_true rfl) (by decide) (fun v44 hp44 hq44 => ?_)
      obtain ⟨T44, rfl, e44, hh44⟩ := hq44
      exact RQ_i rfl dX11_joinClause_47 (by
        have hk := kd_24.mpr c28
        rcases hh44 with ⟨hv, eT⟩ | ⟨hv, hg2⟩
        · subst eT
          have hj : jnf B c = (fig (kd B (lxe B (lxe B c))) (lxn B (lxe B (lxe B c))) 0 15, lxe B (lxe B c)) := by unfold jnf; rw [if_pos hf1, if_pos hk, if_neg (by omega)]
          rw [hj]
          exact ⟨_, rfl, e44, hs34, (hg.jf (Or.inl rfl)).trans hN34.jf, fun e => absurd e hv⟩
        · have hj : jnf B c = (0, lxe B (lxe B (lxe B c))) := by unfold jnf; rw [if_pos hf1, if_pos hk, if_pos (by omega)]
          rw [hj]
          exact ⟨_, rfl, hv, hg2.2.2.2, ((hg.jf (Or.inl rfl)).trans hN34.jf).trans (hg2.jf (Or.inr rfl)), fun _ => ⟨by rw [hg2.1, up_n (by omega), hN34.1 39 (by decide), hg.1, up_s], by rw [hg2.1, up_s]⟩⟩)
    · refine J_iconst dX11_joinClause_31 ?_
      exact RQ_i rfl dX11_joinClause_32 (by
        have hj : jnf B c = (1, lxe B c) := by unfold jnf; rw [if_pos hf1, if_neg (fun e => c28 (kd_24.mp e))]
        rw [hj]
        exact ⟨T7, rfl, rfl, hs7, hg.jf (Or.inl rfl), fun e => absurd e (by decide)⟩)
  · refine L_i2 dX11_joinClause_15 ?_
    exact RQ_i rfl dX11_joinClause_16 (by
      obtain ⟨hv, eT⟩ : ¬ v7 = 0 ∧ T7 = T := by
        rcases hh7 with a | a
        · exact a
        · exact absurd a.1 c12
      subst eT
      have hj : jnf B c = (fig (kd B c) (lxn B c) 1 8, c) := by unfold jnf; rw [if_neg (by omega)]
      rw [hj]
      exact ⟨_, rfl, e7, hs, JF.refl _ _, fun e => absurd e hv⟩)

theorem sy_inv {B : Nat → Int} {s0 : Int} : ∀ (m c : Nat) (cd : List (Int × Int)) (ps : List Int) (wh : Int), PI B c cd ps → (sy B s0 m c cd ps wh).2.2.length + 1 ≤ lxp B (sy B s0 m c cd ps wh).2.1 := by
  intro m
  induction m with
  | zero => intro c cd ps wh hi; have := hi.2.2; show cd.length + 1 ≤ lxp B c; omega
  | succ m ih =>
    intro c cd ps wh hi
    have hs := hi.2.2
    rw [sy]
    split
    · split
      · rename_i hf; exact ih _ _ _ _ (bg_inv hi hf).2
      · show cd.length + 1 ≤ lxp B c; omega
    · split
      · rename_i hf; exact ih _ _ _ _ (bh_inv hi hf).2
      · split
        · show cd.length + 1 ≤ lxp B c; omega
        · have := stl_sum 1 ps cd
          show (stl 1 ps cd).2.length + 1 ≤ lxp B c
          omega
/-- tape, token, what is written -/
def RS (B : Nat → Int) (T : Nat → Int → Int) (q : Int) (c : Nat) (cd : List (Int × Int)) : Prop := TS B T c ∧ T 36 12 = 681 * q ∧ T 36 13 = (cd.length : Int) ∧ CDd (T 39) (681 * q + 73) cd
/-- nothing changed but token, pile, written ones, what stands behind x -/
def BF (q x : Int) (T T' : Nat → Int → Int) : Prop := Fr [36, 39, 41] T T' ∧ (∀ j : Int, (j < 7 ∨ j = 12 ∨ j = 14 ∨ 19 ≤ j) → T' 36 j = T 36 j) ∧ ∀ y : Int, (y ≤ x ∨ 681 * q + 681 ≤ y) → T' 39 y = T 39 y
theorem BF.refl (q x : Int) (T : Nat → Int → Int) : BF q x T T := ⟨Fr.refl _ _, fun _ _ => rfl, fun _ _ => rfl⟩
theorem BF.trans {q x : Int} {T T1 T2 : Nat → Int → Int} (a : BF q x T T1) (b : BF q x T1 T2) : BF q x T T2 := ⟨a.1.trans b.1, fun j hj => (b.2.1 j hj).trans (a.2.1 j hj), fun y hy => (b.2.2 y hy).trans (a.2.2 y hy)⟩
theorem JF.bf {q x : Int} {T T' : Nat → Int → Int} (hx : x + 2 < 681 * q + 681) (a : JF T T' x) : BF q x T T' := ⟨a.1.mono (by decide), fun j hj => a.2.1 j (by omega), fun y hy => a.2.2 y (by omega) (by omega)⟩
theorem BF_39 {q x z v : Int} {T : Nat → Int → Int} (hz : x < z ∧ z < 681 * q + 681) : BF q x T (upS T 39 (up (T 39) z v)) := ⟨Fr_up _ _ (by decide), fun j _ => congrFun (upS_n (by decide)) j, fun y hy => by rw [upS_s, up_n (by omega)]⟩
theorem SGr.bf {q x : Int} {T T' : Nat → Int → Int} (hx : x < 681 * q + 73) (a : SGr q T T') : BF q x T T' := ⟨a.1, fun j hj => a.2.1 j (by omega) (by omega) (by omega) (by omega) (by omega), fun y hy => a.2.2 y (by omega)⟩
theorem CDd_out {f g : Int → Int} {b : Int} {cd : List (Int × Int)} (hh : CDd f b cd) (e : ∀ y : Int, b ≤ y → g y = f y) : CDd g b cd := fun i hi => by rw [e _ (by omega), e _ (by omega)]; exact hh i hi
set_option maxRecDepth 100000 in
theorem qX11_lawClause {S T : Nat → Int → Int} {D : List mx_C} {B : Nat → Int} {q s0 x : Int} (h_q : 0 ≤ q ∧ q ≤ 3) (h14 : T 36 14 = s0) (h_s : 0 ≤ s0 ∧ s0 ≤ 10) (h_x : 681 * q + 1 ≤ x ∧ x ≤ 681 * q + 70) {c : Nat} {cd : List (Int × Int)} (hs : RS B T q c cd) (hlt : cd.length + 1 ≤ lxp B c) : SpI yX11_lawClause cX11_lawClause 3 (some .int) 8 [.ref 36, .int (jI x)] (W5 S T D) (fun v hp' => ∃ T', hp' = W5 S T' D ∧ v = (sy B s0 301 c cd [] 0).1 ∧ RS B T' q (sy B s0 301 c cd [] 0).2.1 (sy B s0 301 c cd [] 0).2.2 ∧ BF q x T T' ∧ T' 39 (x + 1) = (cd.length : Int) ∧ T' 39 (x + 2) = ((sy B s0 301 c cd [] 0).2.2.length : Int)) := by
  refine Sp.of [.ref 36, .int (jI x), .retAddr 0] (by decide) (by simp) (Nat.le_of_ble_eq_true rfl) rfl (fun E => ?_)
  refine L_a0 dX11_lawClause_0 ?_
  refine GW_36_2 fX11_16 dX11_lawClause_1 ?_
  refine L_i1 dX11_lawClause_4 ?_
  refine J_iconst dX11_lawClause_5 ?_
  refine J_iadd dX11_lawClause_6 ?_
  refine L_a0 dX11_lawClause_7 ?_
  refine GW_36_13 fX11_155 dX11_lawClause_8 ?_
  refine J_eqi (b := (cd.length : Int)) hs.2.2.1 ?_
  refine AS_39 dX11_lawClause_11 (by omega) ?_
  refine L_a0 dX11_lawClause_12 ?_
  have hs1 : TS B (upS T 39 (up (T 39) (x + 1) (cd.length : Int))) c := hs.1.of (fun j _ => congrFun (upS_n (by decide)) j) (upS_n (by decide))
  have e36 : ∀ j : Int, (upS T 39 (up (T 39) (x + 1) (cd.length : Int))) 36 j = T 36 j := fun j => congrFun (upS_n (by decide)) j
  have hcd1 : CDd ((upS T 39 (up (T 39) (x + 1) (cd.length : Int))) 39) (681 * q + 73) cd := CDd_out hs.2.2.2 (fun y hy => by rw [upS_s, up_n (by omega)])
  refine C_v0I vX11_229 dX11_lawClause_13 (qX11_summed (T := (upS T 39 (up (T 39) (x + 1) (cd.length : Int)))) (s0 := s0) h_q ((e36 14).trans h14) h_s hs1.1 hs1.2.1 hs1.2.2.1 hs1.2.2.2 ((e36 12).trans hs.2.1) ((e36 13).trans hs.2.2.1) hcd1 hlt) rfl rfl (Nat.le_of_ble_eq_true rfl) (by decide) (fun v13 hp13 hq13 => ?_)
  obtain ⟨T13, rfl, g13, e13, hh13⟩ := hq13
  refine S_i2 dX11_lawClause_16 (by decide) rfl ?_
  refine L_a0 dX11_lawClause_17 ?_
  refine GW_36_2 fX11_16 dX11_lawClause_18 ?_
  refine L_i1 dX11_lawClause_21 ?_
  refine J_iconst dX11_lawClause_22 ?_
  refine J_iadd dX11_lawClause_23 ?_
  refine L_a0 dX11_lawClause_24 ?_
  refine GW_36_13 fX11_155 dX11_lawClause_25 ?_
  refine J_eqi (b := ((sy B s0 301 c cd [] 0).2.2.length : Int)) (by obtain ⟨ps', wh', hsy⟩ := hh13; exact hsy.1.2.1) ?_
  refine AS_39 dX11_lawClause_28 (by omega) ?_
  refine L_i2 dX11_lawClause_29 ?_
  exact RQ_i rfl dX11_lawClause_30 (by
    obtain ⟨ps', wh', hsy⟩ := hh13
    have g39 := g13.2.2 (x + 1) (by omega)
    refine ⟨_, rfl, e13, ⟨?_, ?_, ?_, ?_⟩, ((BF_39 (by omega)).trans (g13.bf (by omega))).trans (BF_39 (by omega)), ?_, ?_⟩
    · exact TS.of ⟨hsy.2.1, hsy.2.2.2.1, hsy.2.2.2.2.1, hsy.2.2.2.2.2⟩ (fun j _ => congrFun (upS_n (by decide)) j) (upS_n (by decide))
    · rw [upS_n (by decide)]; exact hsy.1.1
    · rw [upS_n (by decide)]; exact hsy.1.2.1
    · exact CDd_out hsy.1.2.2.1 (fun y hy => by rw [upS_s, up_n (by omega)])
    · rw [upS_s, up_n (by omega), g39, upS_s, up_s]
    · rw [upS_s, up_s])

