/-! ===== calls, each on both sides: those that change ===== -/
set_option maxRecDepth 100000 in
theorem qX11_saidMin {S T : Nat → Int → Int} {D : List mx_C} (hv : MV (T 37)) {n : Int} (hn : n = -2147483648) {b : Int} (h_b : -2147483648 ≤ b ∧ b < 2147483648) : SpF yX11_said cX11_said 3 (some .int) 2 [.ref 36, .int (jI n), .int (jI b)] (W5 S T D) (.int (jI (-2))) (W5 S T D) := by
  have ha := hv.2
  refine Sp.of [.ref 36, .int (jI n), .int (jI b)] (by decide) (by simp) (Nat.le_of_ble_eq_true rfl) rfl (fun E => ?_)
  refine L_i1 dX11_said_0 ?_
  refine J_iconst dX11_said_1 ?_
  refine J_icmp_ne 14 dX11_said_2 rfl (by omega) (by omega) (fun c2 => ?_) (fun c2 => ?_)
  · refine L_i1 dX11_said_14 ?_
    refine J_iconst dX11_said_15 ?_
    refine J_isub dX11_said_16 ?_
    rw [wr1_j]
    have hw : wr1 n = 2147483647 := by unfold wr1; rw [if_pos hn]
    refine C_s1F vX11_87 dX11_said_17 (qX11_isNumber (by omega)) (Nat.le_of_ble_eq_true rfl) (by decide) ?_
    refine J_ifeqB 44 dX11_said_20 rfl (fun c20 => ?_) (fun c20 => ?_)
    · refine J_bipush dX11_said_44 (by decide) ?_
      exact R_i rfl dX11_said_46 rfl rfl
    · exact absurd c20 (by omega)
  · exact absurd c2 (by omega)
theorem SIM.co {n : Nat} {S T S' T' : Nat → Int → Int} {D : List mx_C} (h : SIM n S T D) (hc : COS S' (T' 37)) (h0 : S' 0 10 = S 0 10) (hS : ∀ i, ((1 ≤ i ∧ i ≤ 3) ∨ i = 12 ∨ (21 ≤ i ∧ i ≤ 26) ∨ (28 ≤ i ∧ i ≤ 34)) → S' i = S i) (hT : ∀ i, 38 ≤ i ∧ i ≤ 40 → T' i = T i) (h36 : ∀ j, (j = 4 ∨ j = 5 ∨ j = 6 ∨ j = 23) → T' 36 j = T 36 j) : SIM n S' T' D := by
  obtain ⟨h1, h2, h3, h4, h5, h6, h8, h9, h10, h11, h12⟩ := h
  have e0 : S 0 10 = T 37 0 := h1.2.2.2.1
  have e0' : S' 0 10 = T' 37 0 := hc.2.2.2.1
  have e37 : T' 37 0 = T 37 0 := by omega
  have e38 := hT 38 (by omega)
  have e39 := hT 39 (by omega)
  have e40 := hT 40 (by omega)
  refine ⟨hc, ?_, ?_, fun q hq => ?_, h5.fr (fun i hi => hS i (by omega)), ?_, ?_, ?_, ?_, ?_, ?_⟩
  · rw [e38]; exact h2.fr (fun i hi => hS i (by omega))
  · rw [e37, e38]; exact h3
  · rw [e37] at hq
    obtain ⟨i, els, el, cd, lb, lt, u1, u2, u3, u4⟩ := h4 q hq
    exact ⟨i, els, el, cd, lb, lt, by rw [hS 12 (by omega)]; exact u1, u2, u3, by rw [e39]; exact u4⟩
  · rw [hS 21 (by omega)]; exact h6
  · rw [h36 23 (by omega)]; exact h8
  · rw [e39]; exact h9
  · refine ⟨by rw [hS 1 (by omega), h36 4 (by omega)]; exact h10.1, ?_, fun k hk => by rw [hS 2 (by omega), e40]; exact h10.2.2 k hk⟩
    unfold TP at h10 ⊢
    rw [h36 4 (by omega), e40]
    exact h10.2.1
  · rw [hS 3 (by omega), h36 5 (by omega), h36 6 (by omega)]; exact h11
  · rw [hS 3 (by omega)]; exact h12
theorem SIM.c37 {n : Nat} {S T S' : Nat → Int → Int} {D : List mx_C} {g : Int → Int} (h : SIM n S T D) (hc : COS S' g) (h0 : S' 0 10 = S 0 10) (hS : ∀ i, ((1 ≤ i ∧ i ≤ 3) ∨ i = 12 ∨ (21 ≤ i ∧ i ≤ 26) ∨ (28 ≤ i ∧ i ≤ 34)) → S' i = S i) : SIM n S' (upS T 37 g) D :=
  h.co (T' := upS T 37 g) (by rw [upS_s]; exact hc) h0 hS (fun i hi => upS_n (by omega)) (fun j _ => by rw [upS_n (by decide)])
theorem kf_K {S : Nat → Int → Int} {g : Int → Int} {i : Nat} (h : (1 ≤ i ∧ i ≤ 3) ∨ i = 12 ∨ (21 ≤ i ∧ i ≤ 26) ∨ (28 ≤ i ∧ i ≤ 34)) : upS (stK S) 14 g i = S i := by
  unfold stK
  rw [upS_n (by omega), upS_n (by omega), upS_n (by omega)]
theorem md_sec_wr {a c : Int → Int} {n p : Int} : md_sec a c (wr1 n) p = md_sec a c (n - 1) p := by
  by_cases q : n = -2147483648
  · unfold md_sec
    have : wr1 n = 2147483647 := by unfold wr1; rw [if_pos q]
    rw [if_neg (fun z => by omega), if_neg (fun z => by omega)]
  · rw [wr1_e q]
theorem md_st_wr {a : Int → Int} {n : Int} : md_stands a (wr1 n) ↔ md_stands a (n - 1) := by
  by_cases q : n = -2147483648
  · have : wr1 n = 2147483647 := by unfold wr1; rw [if_pos q]
    exact ⟨fun z => by have := z.1; omega, fun z => by have := z.1; omega⟩
  · rw [wr1_e q]
section
variable {n : Nat} {S T : Nat → Int → Int} {D : List mx_C}
theorem pr_length (h : SIM n S T D) {p : Int} (h_p : -2147483648 ≤ p ∧ p < 2147483648) : PRI vI 0 0 n S T D yX10_length cX10_length 2 (some .boolean) 3 [.ref 0, .int (jI p)] yX11_length cX11_length 2 (some .boolean) 4 [.ref 36, .int (jI p)] := by
  have hl := h.rp.len (n := p)
  refine PRI.f (K := vI) (qX10_length h.rp.1.1 h.st.1 h.st.2 h_p) (NXT.f (K := vI) (qX11_length h.mv h_p) (jb_iff hl.symm) ?_)
  by_cases z : md_lenOk (T 37) p
  · rw [if_pos (hl.mpr z), if_pos z]
    exact (h.c37 (h.1.len z) rfl (fun i hi => kf_K hi)).up1
  · rw [if_neg (fun y => z (hl.mp y)), if_neg z]; exact h.up1
theorem pr_leave (h : SIM n S T D) {p : Int} (h_p : -2147483648 ≤ p ∧ p < 2147483648) : PRI vI 0 0 n S T D yX10_leave cX10_leave 2 (some .boolean) 3 [.ref 0, .int (jI p)] yX11_leave cX11_leave 2 (some .boolean) 3 [.ref 36, .int (jI p)] := by
  have hh := h.rp.2.1.holds h.mv (n := p)
  have h2 : 0 ≤ T 37 2 ∧ T 37 2 ≤ 30 := h.mv.2.2.2.1
  have hw := md_st_wr (a := T 37) (n := p)
  refine PRI.f (K := vI) (qX10_leave h.rp.1.1 h.st.1 h.st.2 h_p) (NXT.f (K := vI) (qX11_leaveW h.mv h.2.2.2.2.2.2.1 h_p) (jb_iff (hw.trans hh.symm)) ?_)
  by_cases z : md_stands (T 37) (p - 1)
  · rw [if_pos (hh.mpr z), if_pos (hw.mpr z)]
    have ew := wr1_e (n := p) (by have := z.1; omega)
    rw [ew]
    have hk := h.1.kept
    have hj := hk.1.leave (k := p - 1) (q := 1) ⟨z.1, by rw [keep_row h2 (by have := z.1; omega)]; exact z.2⟩ (by omega)
    rw [show p - 1 + 1 = p by omega] at hj
    exact (h.c37 (hk.row hj.1 hj.2) rfl (fun i hi => kf_K hi)).up1
  · rw [if_neg (fun y => z (hh.mp y)), if_neg (fun y => z (hw.mp y))]; exact h.up1
theorem pr_turn (h : SIM n S T D) : PRI vI 0 0 n S T D yX10_turn cX10_turn 2 (some .int) 4 [.ref 0] yX11_turn cX11_turn 1 (some .int) 4 [.ref 36] := by
  have e3 : S 14 3 = md_standing (T 37) := h.rp.2.1.2.2.2.2.2.1
  have hb0 := md_standing_B (T 37)
  have hz := pc_zero (x := md_standing (T 37)) (by omega)
  have hk := h.1.kept
  have hj := hk.1.turn
  have e5 : md_standing (md_turn (md_keep (T 37))) = md_standing (T 37) := by
    have q1 : rw_turn (S 14) 3 = md_standing (md_turn (md_keep (T 37))) := hj.1.2.1.2.2.2.2.2.1
    have q2 : rw_turn (S 14) 3 = S 14 3 := by
      have : ∀ (m : Nat) (k : Int) (f : Int → Int) (l : Int), 1 ≤ k → lpF (rw_rvg l) m k f 3 = f 3 := by
        intro m
        induction m with
        | zero => intro k f l _; rfl
        | succ m ih =>
          intro k f l hk
          show lpF (rw_rvg l) m (k + 1) (rw_rvg l k f) 3 = f 3
          rw [ih (k + 1) _ l (by omega)]
          unfold rw_rvg
          split
          · rw [up_n (by omega), up_n (by omega)]
          · rfl
      unfold rw_turn
      rw [up_n (by omega)]
      exact this 8 1 (S 14) (S 14 0 - 1) (by omega)
    rw [← q1, q2, e3]
  refine PRI.f (K := vI) (qX10_turn h.rp.1.1 h.st.1 h.st.2) (NXT.f (K := vI) (qX11_turn h.mv) ?_ ?_)
  · rw [e5, e3]
    by_cases z : md_standing (T 37) = 0
    · rw [if_pos z, if_pos (hz.mpr z)]
    · rw [if_neg z, if_neg (fun y => z (hz.mp y))]
  · rw [e3]
    by_cases z : md_standing (T 37) = 0
    · rw [if_pos z, if_pos (hz.mpr z)]; exact h.up1
    · rw [if_neg z, if_neg (fun y => z (hz.mp y))]
      exact (h.c37 (hk.row hj.1 hj.2) rfl (fun i hi => kf_K hi)).up1
theorem pr_shift (h : SIM n S T D) {p : Int} (h_p : -2147483648 ≤ p ∧ p < 2147483648) : PRI vI 0 0 n S T D yX10_shift cX10_shift 2 (some .boolean) 4 [.ref 0, .int (jI p)] yX11_shift cX11_shift 3 (some .boolean) 5 [.ref 36, .int (jI p)] := by
  have hl := cl_sh_iff h.rp (b := p)
  have hca : md_cs (T 37) p → CA (T 37) p 0 := fun z => ((md_cs_iff h.mv).mp z).2.2.2
  refine PRI.f (K := vI) (qX10_shift h.rp.1.1 h.st.1 h.st.2 h_p (fun z => (CA_CM h.rp.2.1).mpr (hca (hl.mp z)))) (NXT.f (K := vI) (qX11_shift h.mv h_p hca) (jb_iff hl.symm) ?_)
  by_cases z : md_cs (T 37) p
  · rw [if_pos (hl.mpr z), if_pos z]
    exact (h.c37 (h.1.move z) rfl (fun i hi => kf_K hi)).up1
  · rw [if_neg (fun y => z (hl.mp y)), if_neg z]; exact h.up1
theorem pr_undo (h : SIM n S T D) : PRI vI 0 0 n S T D yX10_undo cX10_undo 1 (some .int) 3 [.ref 0] yX11_undo cX11_undo 3 (some .int) 0 [.ref 36] := by
  have e2 : T 37 2 = S 17 2 := h.1.2.1.2.2.1
  by_cases z : S 17 2 = 0
  · refine PRI.f (K := vI) (qX10_undo0 z) (NXT.f (K := vI) (qX11_undo h.mv.2.2.2.1) (by omega) ?_)
    rw [if_pos (by omega)]; exact h.up1
  · refine PRI.f (K := vI) (qX10_undo h.st.1 h.st.2 z) (NXT.f (K := vI) (qX11_undo h.mv.2.2.2.1) (by omega) ?_)
    rw [if_neg (by omega)]
    have hc : COS (stU S) (md_undo (T 37)) := CO.undone h.1 z
    refine (h.c37 hc rfl (fun i hi => ?_)).up1
    unfold stU
    rw [upS_n (by omega), upS_n (by omega)]
theorem pr_image (h : SIM n S T D) : PRI vI 0 0 n S T D yX10_image cX10_image 1 (some .int) 3 [.ref 0] yX11_image cX11_image 1 (some .int) 1 [.ref 36] := by
  have hI := h.1.image h.2.1
  have e4 : T 37 4 = S 14 1 := h.rp.2.1.2.1
  refine PRI.f (K := vI) (qX10_image) (NXT.f (K := vI) (qX11_image) e4 ?_)
  obtain ⟨h1, h2, h3, h4, h5, h6, h8, h9, h10, h11, h12⟩ := id h
  have k : SIM n (imT S (S 0 10) (S 0 11)) (upS T 38 (cpk (T 37) (T 38) 1663)) D := by
    refine ⟨hI.1, hI.2, ?_, fun q hq => ?_, h5.fr (fun i hi => ?_), h6, h8, h9, h10, h11, h12⟩
    · show cpk (T 37) (T 38) 1663 0 ≤ T 37 0
      rw [cpk_in (by omega)]
      exact Int.le_refl _
    · obtain ⟨i, els, el, cd, lb, lt, u1, u2, u3, u4⟩ := h4 q hq
      exact ⟨i, els, el, cd, lb, lt, u1, u2, u3, u4⟩
    · unfold imT
      rw [upS_n (by omega), upS_n (by omega), upS_n (by omega), upS_n (by omega), upS_n (by omega), upS_n (by omega)]
  exact k.up1
theorem pr_back (h : SIM n S T D) : PRI vI 0 0 n S T D yX10_back cX10_back 1 (some .int) 3 [.ref 0] yX11_back cX11_back 1 (some .int) 1 [.ref 36] := by
  have hI := h.1.back h.2.1
  have e4 : T 38 4 = S 30 1 := h.2.1.1.2.1.2.1
  refine PRI.f (K := vI) (qX10_back) (NXT.f (K := vI) (qX11_back) e4 ?_)
  obtain ⟨h1, h2, h3, h4, h5, h6, h8, h9, h10, h11, h12⟩ := id h
  have e0 : cpk (T 38) (T 37) 1663 0 = T 38 0 := cpk_in (by omega)
  have k : SIM n (upS (imG S) 0 (up (up (S 0) 10 (S 28 3)) 11 (S 28 4))) (upS T 37 (cpk (T 38) (T 37) 1663)) D := by
    refine ⟨hI.1, hI.2, ?_, fun q hq => ?_, h5.fr (fun i hi => ?_), h6, h8, h9, h10, h11, h12⟩
    · show T 38 0 ≤ cpk (T 38) (T 37) 1663 0
      rw [e0]
      exact Int.le_refl _
    · have hq' : 0 ≤ q ∧ q < cpk (T 38) (T 37) 1663 0 := hq
      rw [e0] at hq'
      obtain ⟨i, els, el, cd, lb, lt, u1, u2, u3, u4⟩ := h4 q (by omega)
      exact ⟨i, els, el, cd, lb, lt, u1, u2, u3, u4⟩
    · unfold imG
      rw [upS_n (by omega), upS_n (by omega), upS_n (by omega), upS_n (by omega), upS_n (by omega), upS_n (by omega)]
  exact k.up1
theorem pr_by (h : SIM n S T D) {p : Int} (h_p : -2147483648 ≤ p ∧ p < 2147483648) : PRI vI 0 0 n S T D yX10_by cX10_by 2 (some .boolean) 1 [.ref 0, .int (jI p)] yX11_by cX11_by 2 (some .boolean) 1 [.ref 36, .int (jI p)] := by
  have e0 : S 0 10 = T 37 0 := h.1.2.2.2.1
  have b0 := h.mv.2.1
  have hy := h.1.by (n := p)
  have kS : ∀ i, ((1 ≤ i ∧ i ≤ 3) ∨ i = 12 ∨ (21 ≤ i ∧ i ≤ 26) ∨ (28 ≤ i ∧ i ≤ 34)) → upS S 0 (up (S 0) 11 p) i = S i := fun i hi => upS_n (by omega)
  by_cases z : -1 ≤ p ∧ p < T 37 0
  · have hn : NXT vI yX11_by cX11_by 2 (some .boolean) 1 [.ref 36, .int (jI p)] n (upS S 0 (up (S 0) 11 p)) T D 1 := by
      refine NXT.f (K := vI) (qX11_by h.mv h_p) (jb_t (by omega)) ?_
      rw [if_pos (by omega)]
      refine (h.c37 (hy z) ?_ kS).up1
      rw [upS_s, up_n (by omega)]
    by_cases w : p = -1
    · exact PRI.f (K := vI) (qX10_byM w) hn
    · obtain ⟨i, els, el, cd, lb, lt, u1, _⟩ := h.2.2.2.1 p (by omega)
      exact PRI.f (K := vI) (qX10_by (by omega) u1) hn
  · refine PRI.f (K := vI) (qX10_byN h_p (by omega) (by omega)) (NXT.f (K := vI) (qX11_by h.mv h_p) (jb_f (by omega)) ?_)
    rw [if_neg (by omega)]; exact h.up1
theorem pr_said (h : SIM n S T D) {p : Int} (h_p : -2147483648 ≤ p ∧ p < 2147483648) {q : Int} (h_q : -2147483648 ≤ q ∧ q < 2147483648) : PRI vI 0 0 n S T D yX10_said cX10_said 3 (some .int) 1 [.ref 0, .int (jI p), .int (jI q)] yX11_said cX11_said 3 (some .int) 2 [.ref 36, .int (jI p), .int (jI q)] := by
  have e3 : T 37 3 = S 19 1 := h.1.2.2.1.1
  have b3 := h.1.2.2.1.2.1
  by_cases w : p = -1
  · refine PRI.f (K := vI) (qX10_saidM h_p h_q b3 w) (NXT.f (K := vI) (qX11_said h.mv h_p h_q (by omega)) (if_pos w) ?_)
    rw [if_pos w]
    exact (h.c37 h.1.said0 rfl (fun i hi => upS_n (by omega))).up1
  · by_cases z : sd_ok p q (T 37 3)
    · have z1 := z.1
      have z2 := z.2.1
      have z3 := z.2.2
      refine PRI.f (K := vI) (qX10_said h_p h_q b3 ⟨z1, z2, by omega⟩) (NXT.f (K := vI) (qX11_said h.mv h_p h_q (by omega)) ?_ ?_)
      · rw [if_neg w, if_pos z]; omega
      · rw [if_neg w, if_pos z]
        refine (h.c37 (h.1.said z) rfl (fun i hi => ?_)).up1
        unfold syA
        rw [upS_n (by omega), upS_n (by omega)]
    · refine PRI.f (K := vI) (qX10_saidN h_p h_q b3 w (fun y => z ⟨y.1, y.2.1, by have := y.2.2; omega⟩)) ?_
      by_cases m : p = -2147483648
      · exact NXT.f (K := vI) (qX11_saidMin h.mv m h_q) rfl h.up1
      · refine NXT.f (K := vI) (qX11_said h.mv h_p h_q (by omega)) ?_ ?_
        · rw [if_neg w, if_neg z]
        · rw [if_neg w, if_neg z]; exact h.up1
theorem pr_end (h : SIM n S T D) {p : Int} (h_p : -2147483648 ≤ p ∧ p < 2147483648) : PRI vI 0 0 n S T D yX10_end cX10_end 2 (some .int) 0 [.ref 0, .int (jI p)] yX11_end cX11_end 2 (some .int) 1 [.ref 36, .int (jI p)] := by
  have e4 : S 1 1 = T 36 4 := h.2.2.2.2.2.2.2.2.1.1
  have hb := h.2.2.2.2.2.2.2.2.1.2.1.1
  refine PRI.f (K := vI) (qX10_end h_p (by omega)) (NXT.f (K := vI) (qX11_end h_p hb) (by rw [e4]) ?_)
  rw [e4]
  by_cases z : 0 ≤ p ∧ p ≤ T 36 4
  · rw [if_pos z, if_pos z]
    obtain ⟨h1, h2, h3, h4, h5, h6, h8, h9, h10, h11, h12⟩ := id h
    have k : SIM n (upS S 1 (up (S 1) 1 p)) (upF T 36 4 p) D := by
      refine ⟨h1, h2, h3, fun q hq => ?_, h5.fr (fun i hi => upS_n (by omega)), h6, ?_, h9, ⟨?_, ⟨?_, h10.2.1.2⟩, h10.2.2⟩, ?_, h12⟩
      · obtain ⟨i, els, el, cd, lb, lt, u1, u2, u3, u4⟩ := h4 q hq
        exact ⟨i, els, el, cd, lb, lt, u1, u2, u3, u4⟩
      · show up (T 36) 4 p 23 = 1
        rw [up_n (by omega)]; exact h8
      · show up (S 1) 1 p 1 = up (T 36) 4 p 4
        rw [up_s, up_s]
      · show 0 ≤ up (T 36) 4 p 4 ∧ up (T 36) 4 p 4 ≤ 300
        rw [up_s]; omega
      · show S 3 10 = up (T 36) 4 p 5 ∧ S 3 11 = up (T 36) 4 p 6
        rw [up_n (by omega), up_n (by omega)]; exact h11
    exact k.up1
  · rw [if_neg z, if_neg z]; exact h.up1
end
