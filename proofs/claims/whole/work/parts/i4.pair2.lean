/-! ===== calls, each on both sides: rows that could be ===== -/
section
variable {n : Nat} {S T : Nat → Int → Int} {D : List mx_C}
theorem len_nil {α : Type} {l : List α} {k : Nat} (h : l.length = k) : l = [] ↔ k = 0 := by
  rw [← h]
  exact List.length_eq_zero_iff.symm
theorem pr_rows (h : SIM n S T D) (hn : n ≤ 600) {p : Int} (h_p : -2147483648 ≤ p ∧ p < 2147483648) {q : Int} (h_q : -2147483648 ≤ q ∧ q < 2147483648) : PRI vL 0 0 n S T D yX10_rows cX10_rows 4 (some .long) 54 [.ref 0, .int (jI p), .int (jI q)] yX11_rows cX11_rows 3 (some .long) 12 [.ref 36, .int (jI p), .int (jI q)] := by
  obtain ⟨lb, lt, hr, hb, hl⟩ := h.cr
  have h7 := h.2.2.2.2.2.1
  refine PRI.l (qX10_rows h.rp.1.1 h.rp.1.2 hr h.2.2.2.2.1 (by omega) h_p h_q) (fun v hp hq => ?_)
  obtain ⟨S', b, e1, hJ, hf, h7', hbn, ev⟩ := hq
  have h' := h.lf hf hJ h7'
  have hE := StE_of hb h.rp rfl hbn
  refine ⟨S', e1, NXT.l (qX11_rows h'.mi h_p h_q) (fun v' hp' hq' => ?_)⟩
  obtain ⟨e3, T', e4, hsf⟩ := hq'
  refine ⟨?_, T', e4, h'.sf hsf⟩
  dsimp only at ev
  rw [e3, ev]
  exact eq_rows hE.1 p q
theorem pr_fewest (h : SIM n S T D) (hn : n ≤ 600) {p : Int} (h_p : -2147483648 ≤ p ∧ p < 2147483648) : PRI vI 0 0 n S T D yX10_fewest cX10_fewest 4 (some .int) 88 [.ref 0, .int (jI p)] yX11_fewest cX11_fewest 3 (some .int) 12 [.ref 36, .int (jI p)] := by
  obtain ⟨lb, lt, hr, hb, hl⟩ := h.cr
  have h7 := h.2.2.2.2.2.1
  refine PRI.i (qX10_fewest h.rp.1.1 h.rp.1.2 hr h.2.2.2.2.1 (by omega) h_p) (fun v hp hq => ?_)
  obtain ⟨S', b, e1, hJ, hf, h7', hbn, ev⟩ := hq
  have h' := h.lf hf hJ h7'
  have hE := StE_of hb h.rp rfl hbn
  refine ⟨S', e1, NXT.i (qX11_fewest h'.mi h_p) (fun v' hp' hq' => ?_)⟩
  obtain ⟨e3, T', e4, hsf⟩ := hq'
  refine ⟨?_, T', e4, h'.sf hsf⟩
  dsimp only at ev
  rw [e3, ev]
  exact eq_fewest hE.1 p
theorem pr_rounds (h : SIM n S T D) (hn : n ≤ 600) {p : Int} (h_p : -2147483648 ≤ p ∧ p < 2147483648) : PRI vL 0 0 n S T D yX10_rounds cX10_rounds 2 (some .long) 12 [.ref 0, .int (jI p)] yX11_rounds cX11_rounds 6 (some .long) 11 [.ref 36, .int (jI p)] := by
  obtain ⟨lb, lt, hr, hb, hl⟩ := h.cr
  have h7 := h.2.2.2.2.2.1
  refine PRI.l (qX10_rounds h.rp.1.1 h.rp.1.2 hr h.2.2.2.2.1 (by omega) h_p) (fun v hp hq => ?_)
  obtain ⟨S', b, e1, hJ, hf, h7', hbn, ev⟩ := hq
  have h' := h.lf hf hJ h7'
  have hE := StE_of hb h.rp rfl hbn
  refine ⟨S', e1, NXT.l (qX11_rounds h'.mi h_p) (fun v' hp' hq' => ?_)⟩
  obtain ⟨e3, T', e4, hsf⟩ := hq'
  refine ⟨?_, T', e4, h'.sf hsf⟩
  dsimp only at ev
  rw [e3, ev]
  exact eq_rounds hE.1 p
theorem pr_threes (h : SIM n S T D) (hn : n ≤ 600) {p : Int} (h_p : -2147483648 ≤ p ∧ p < 2147483648) : PRI vL 0 0 n S T D yX10_threes cX10_threes 2 (some .long) 9 [.ref 0, .int (jI p)] yX11_threes cX11_threes 2 (some .long) 11 [.ref 36, .int (jI p)] := by
  obtain ⟨lb, lt, hr, hb, hl⟩ := h.cr
  have h7 := h.2.2.2.2.2.1
  refine PRI.l (qX10_threes h.rp.1.1 h.rp.1.2 hr h.2.2.2.2.1 (by omega) h_p) (fun v hp hq => ?_)
  obtain ⟨S', b, e1, hJ, hf, h7', hbn, ev⟩ := hq
  have h' := h.lf hf hJ h7'
  have hE := StE_of hb h.rp rfl hbn
  refine ⟨S', e1, NXT.l (qX11_threes h'.mi h_p) (fun v' hp' hq' => ?_)⟩
  obtain ⟨e3, T', e4, hsf⟩ := hq'
  refine ⟨?_, T', e4, h'.sf hsf⟩
  dsimp only at ev
  rw [e3, ev]
  exact eq_threes hE.1 p
theorem pr_likely (h : SIM n S T D) (hn : n ≤ 600) {p : Int} (h_p : -2147483648 ≤ p ∧ p < 2147483648) {q : Int} (h_q : q = 0 ∨ q = 1) : PRI vL 0 0 n S T D yX10_likely cX10_likely 10 (some .long) 54 [.ref 0, .int (jI p), .int (jI q)] yX11_likely cX11_likely 8 (some .long) 12 [.ref 36, .int (jI p), .int (jI q)] := by
  obtain ⟨lb, lt, hr, hb, hl⟩ := h.cr
  have h7 := h.2.2.2.2.2.1
  refine PRI.l (qX10_likely h.rp.1.1 h.rp.1.2 hr h.2.2.2.2.1 (by omega) h_p h_q) (fun v hp hq => ?_)
  obtain ⟨S', b, e1, hJ, hf, h7', hbn, ev⟩ := hq
  have h' := h.lf hf hJ h7'
  have hE := StE_of hb h.rp rfl hbn
  refine ⟨S', e1, NXT.l (qX11_likely h'.mi h_p h_q) (fun v' hp' hq' => ?_)⟩
  obtain ⟨e3, T', e4, hsf⟩ := hq'
  refine ⟨?_, T', e4, h'.sf hsf⟩
  dsimp only at ev
  rw [e3, ev]
  exact eq_likely hE.1 p q
theorem pr_kinds (h : SIM n S T D) (hn : n ≤ 600) {p : Int} (h_p : -2147483648 ≤ p ∧ p < 2147483648) {q : Int} (h_q : -2147483648 ≤ q ∧ q < 2147483648) : PRI vL 0 0 n S T D yX10_kinds cX10_kinds 4 (some .long) 54 [.ref 0, .int (jI p), .int (jI q)] yX11_kinds cX11_kinds 5 (some .long) 12 [.ref 36, .int (jI p), .int (jI q)] := by
  obtain ⟨lb, lt, hr, hb, hl⟩ := h.cr
  have h7 := h.2.2.2.2.2.1
  refine PRI.l (qX10_kinds h.rp.1.1 h.rp.1.2 hr h.2.2.2.2.1 (by omega) h_p h_q) (fun v hp hq => ?_)
  obtain ⟨S', b, e1, hJ, hf, h7', hbn, ev⟩ := hq
  have h' := h.lf hf hJ h7'
  have hE := StE_of hb h.rp rfl hbn
  refine ⟨S', e1, NXT.l (qX11_kinds h'.mi h_p h_q) (fun v' hp' hq' => ?_)⟩
  obtain ⟨e3, T', e4, hsf⟩ := hq'
  refine ⟨?_, T', e4, h'.sf hsf⟩
  dsimp only at ev
  rw [e3, ev]
  by_cases z : isRow p q
  · rw [if_pos z, if_pos z]; exact eq_kinds hE.1 hE.2.1 z
  · rw [if_neg z, if_neg z]
theorem pr_row (h : SIM n S T D) (hn : n ≤ 600) {p : Int} (h_p : -2147483648 ≤ p ∧ p < 2147483648) {q : Int} (h_q : -2147483648 ≤ q ∧ q < 2147483648) {r : Int} (h_r : -2147483648 ≤ r ∧ r < 2147483648) : PRI vI 0 0 n S T D yX10_row cX10_row 4 (some .int) 57 [.ref 0, .int (jI p), .int (jI q), .int (jI r)] yX11_row cX11_row 4 (some .int) 12 [.ref 36, .int (jI p), .int (jI q), .int (jI r)] := by
  obtain ⟨lb, lt, hr, hb, hl⟩ := h.cr
  have h7 := h.2.2.2.2.2.1
  refine PRI.i (qX10_row h.rp.1.1 h.rp.1.2 hr h.2.2.2.2.1 (by omega) h_p h_q h_r) (fun v hp hq => ?_)
  obtain ⟨S', b, e1, hJ, hf, h7', hbn, ev⟩ := hq
  have h' := h.lf hf hJ h7'
  have hE := StE_of hb h.rp rfl hbn
  refine ⟨S', e1, NXT.i (qX11_row h'.mi h_p h_q h_r) (fun v' hp' hq' => ?_)⟩
  obtain ⟨e3, T', e4, hsf⟩ := hq'
  refine ⟨?_, T', e4, h'.sf hsf⟩
  dsimp only at ev
  rw [e3, ev]
  by_cases z : isRow p q ∧ (0 : Int) ≤ 0 ∧ (0 ≤ r ∧ r < 2 * pc p + q)
  · rw [if_pos z, if_pos ⟨z.1, z.2.1, by have := z.2.2; omega⟩]
    exact eq_rat hE.1 hE.2.1 z.1 z.2.1 z.2.2
  · rw [if_neg z, if_neg (fun y => z ⟨y.1, y.2.1, by have := y.2.2; omega⟩)]
theorem pr_rowAt (h : SIM n S T D) (hn : n ≤ 600) {p : Int} (h_p : -2147483648 ≤ p ∧ p < 2147483648) {q : Int} (h_q : -2147483648 ≤ q ∧ q < 2147483648) {i : Int} (h_i : -2147483648 ≤ i ∧ i < 2147483648) {r : Int} (h_r : -2147483648 ≤ r ∧ r < 2147483648) : PRI vI 0 0 n S T D yX10_rowAt cX10_rowAt 6 (some .int) 56 [.ref 0, .int (jI p), .int (jI q), .int (jI i), .int (jI r)] yX11_rowAt cX11_rowAt 6 (some .int) 11 [.ref 36, .int (jI p), .int (jI q), .int (jI i), .int (jI r)] := by
  obtain ⟨lb, lt, hr, hb, hl⟩ := h.cr
  have h7 := h.2.2.2.2.2.1
  refine PRI.i (qX10_rowAt h.rp.1.1 h.rp.1.2 hr h.2.2.2.2.1 (by omega) h_p h_q h_i h_r) (fun v hp hq => ?_)
  obtain ⟨S', b, e1, hJ, hf, h7', hbn, ev⟩ := hq
  have h' := h.lf hf hJ h7'
  have hE := StE_of hb h.rp rfl hbn
  refine ⟨S', e1, NXT.i (qX11_rowAt h'.mi h_p h_q h_i h_r) (fun v' hp' hq' => ?_)⟩
  obtain ⟨e3, T', e4, hsf⟩ := hq'
  refine ⟨?_, T', e4, h'.sf hsf⟩
  dsimp only at ev
  rw [e3, ev]
  by_cases z : isRow p q ∧ 0 ≤ i ∧ (0 ≤ r ∧ r < 2 * pc p + q)
  · rw [if_pos z, if_pos ⟨z.1, z.2.1, by have := z.2.2; omega⟩]
    exact eq_rat hE.1 hE.2.1 z.1 z.2.1 z.2.2
  · rw [if_neg z, if_neg (fun y => z ⟨y.1, y.2.1, by have := y.2.2; omega⟩)]
theorem pr_often (h : SIM n S T D) (hn : n ≤ 600) {p : Int} (h_p : -2147483648 ≤ p ∧ p < 2147483648) {q : Int} (h_q : -2147483648 ≤ q ∧ q < 2147483648) {k : Int} (h_k : -2147483648 ≤ k ∧ k < 2147483648) {r : Int} (h_r : -2147483648 ≤ r ∧ r < 2147483648) : PRI vL 0 0 n S T D yX10_often cX10_often 7 (some .long) 55 [.ref 0, .int (jI p), .int (jI q), .int (jI k), .int (jI r)] yX11_often cX11_often 9 (some .long) 11 [.ref 36, .int (jI p), .int (jI q), .int (jI k), .int (jI r)] := by
  obtain ⟨lb, lt, hr, hb, hl⟩ := h.cr
  have h7 := h.2.2.2.2.2.1
  refine PRI.l (qX10_often h.rp.1.1 h.rp.1.2 hr h.2.2.2.2.1 (by omega) h_p h_q h_k h_r) (fun v hp hq => ?_)
  obtain ⟨S', b, e1, hJ, hf, h7', hbn, ev⟩ := hq
  have h' := h.lf hf hJ h7'
  have hE := StE_of hb h.rp rfl hbn
  refine ⟨S', e1, NXT.l (qX11_often h'.mi h_p h_q h_k h_r) (fun v' hp' hq' => ?_)⟩
  obtain ⟨e3, T', e4, hsf⟩ := hq'
  refine ⟨?_, T', e4, h'.sf hsf⟩
  dsimp only at ev
  rw [e3, ev]
  by_cases z : isRow p q ∧ (0 ≤ r ∧ r < 2 * pc p + q) ∧ (1 ≤ k ∧ k ≤ 8) ∧ p.toNat.testBit (k - 1).toNat = true
  · have ew := wr1_e (n := k) (by have := z.2.2.1; omega)
    rw [if_pos z, ew, if_pos ⟨z.1, by have := z.2.2.1; omega, (bt_has z.1.1.1).mpr z.2.2.2, by have := z.2.1; omega⟩]
    exact eq_often hE.1 hE.2.2 z.1 z.2.2.1 z.2.2.2 z.2.1
  · rw [if_neg z, if_neg (fun y => z ?_)]
    have ew := wr1_v y.2.1
    rw [ew] at y
    exact ⟨y.1, by have := y.2.2.2; omega, by have := y.2.1; omega, (bt_has y.1.1.1).mp y.2.2.1⟩
theorem pr_pinned (h : SIM n S T D) (hn : n ≤ 600) {p : Int} (h_p : -2147483648 ≤ p ∧ p < 2147483648) {q : Int} (h_q : -2147483648 ≤ q ∧ q < 2147483648) : PRI vI 0 0 n S T D yX10_pinned cX10_pinned 4 (some .int) 92 [.ref 0, .int (jI p), .int (jI q)] yX11_pinned cX11_pinned 3 (some .int) 12 [.ref 36, .int (jI p), .int (jI q)] := by
  obtain ⟨lb, lt, hr, hb, hl⟩ := h.cr
  have h7 := h.2.2.2.2.2.1
  refine PRI.i (qX10_pinned h.rp.1.1 h.rp.1.2 hr h.2.2.2.2.1 (by omega) h_p h_q) (fun v hp hq => ?_)
  obtain ⟨S', b, e1, hJ, hf, h7', hbn, ev⟩ := hq
  have h' := h.lf hf hJ h7'
  have hE := StE_of hb h.rp rfl hbn
  refine ⟨S', e1, NXT.i (qX11_pinned h'.mi h_p h_q) (fun v' hp' hq' => ?_)⟩
  obtain ⟨e3, T', e4, hsf⟩ := hq'
  refine ⟨?_, T', e4, h'.sf hsf⟩
  dsimp only at ev
  rw [e3, ev]
  by_cases z : isRow p q
  · rw [if_pos z]
    have e := eq_pin hE.1 hE.2.1 (s := p.toNat) (pl := (2 * pc p + q).toNat) (by have := z.2.2; omega) (CMP.all _)
    rw [← e]
    show (if isRow p q ∧ ¬ md_rw (T 37) (T 39) p q = [] then _ else _) = (if ¬ md_rw (T 37) (T 39) p q = [] then _ else _)
    by_cases y : md_rw (T 37) (T 39) p q = []
    · rw [if_neg (fun w => w.2 y), if_neg (fun w => w y)]
    · rw [if_pos ⟨z, y⟩, if_pos y]
      rfl
  · rw [if_neg z, if_neg (fun y => z y.1)]
theorem pr_ways (h : SIM n S T D) (hn : n ≤ 600) {p : Int} (h_p : -2147483648 ≤ p ∧ p < 2147483648) : PRI vL 0 0 n S T D yX10_ways cX10_ways 2 (some .long) 54 [.ref 0, .int (jI p)] yX11_ways cX11_ways 2 (some .long) 12 [.ref 36, .int (jI p)] := by
  obtain ⟨lb, lt, hr, hb, hl⟩ := h.cr
  have h7 := h.2.2.2.2.2.1
  refine PRI.l (qX10_ways h.rp.1.1 h.rp.1.2 hr h.2.2.2.2.1 (by omega) h_p) (fun v hp hq => ?_)
  obtain ⟨S', b, e1, hJ, hf, h7', hbn, ev⟩ := hq
  have h' := h.lf hf hJ h7'
  have hE := StE_of hb h.rp rfl hbn
  refine ⟨S', e1, NXT.l (qX11_ways h'.mi h_p) (fun v' hp' hq' => ?_)⟩
  obtain ⟨e3, T', e4, hsf⟩ := hq'
  refine ⟨?_, T', e4, h'.sf hsf⟩
  dsimp only at ev
  rw [e3, ev]
  have b7 : 1 ≤ T 37 7 ∧ T 37 7 ≤ 16 := h.mv.2.2.2.2.2.2.2.2.1
  have hc := h.rp.2.1.cmp h.mv
  have e3' : S 14 3 = md_standing (T 37) := h.rp.2.1.2.2.2.2.2.1
  have ej : jnn (S 14) p = (bdf p (md_standing (T 37))).toNat := by unfold jnn; rw [e3']
  have hcn := wy_cn hE.1 (s := (bdf p (md_standing (T 37))).toNat) (pl := (T 37 7).toNat) (by omega) hc
  rw [ej]
  by_cases z : 0 ≤ p ∧ p ≤ 255
  · rw [if_pos z, if_pos z]
    exact congrArg (fun k : Nat => (k : Int)) hcn
  · rw [if_neg z, if_neg z]
theorem pr_forced (h : SIM n S T D) (hn : n ≤ 600) {p : Int} (h_p : -2147483648 ≤ p ∧ p < 2147483648) : PRI vI 0 0 n S T D yX10_forced cX10_forced 2 (some .int) 92 [.ref 0, .int (jI p)] yX11_forced cX11_forced 2 (some .int) 12 [.ref 36, .int (jI p)] := by
  obtain ⟨lb, lt, hr, hb, hl⟩ := h.cr
  have h7 := h.2.2.2.2.2.1
  refine PRI.i (qX10_forced h.rp.1.1 h.rp.1.2 hr h.2.2.2.2.1 (by omega) h_p) (fun v hp hq => ?_)
  obtain ⟨S', b, e1, hJ, hf, h7', hbn, ev⟩ := hq
  have h' := h.lf hf hJ h7'
  have hE := StE_of hb h.rp rfl hbn
  refine ⟨S', e1, NXT.i (qX11_forced h'.mi h_p) (fun v' hp' hq' => ?_)⟩
  obtain ⟨e3, T', e4, hsf⟩ := hq'
  refine ⟨?_, T', e4, h'.sf hsf⟩
  dsimp only at ev
  rw [e3, ev]
  have b7 : 1 ≤ T 37 7 ∧ T 37 7 ≤ 16 := h.mv.2.2.2.2.2.2.2.2.1
  have hc := h.rp.2.1.cmp h.mv
  have e3' : S 14 3 = md_standing (T 37) := h.rp.2.1.2.2.2.2.2.1
  have ej : jnn (S 14) p = (bdf p (md_standing (T 37))).toNat := by unfold jnn; rw [e3']
  have hcn := wy_cn hE.1 (s := (bdf p (md_standing (T 37))).toNat) (pl := (T 37 7).toNat) (by omega) hc
  rw [ej]
  by_cases z : 0 ≤ p ∧ p ≤ 255
  · rw [if_pos z]
    have e := eq_pin hE.1 hE.2.1 (s := (bdf p (md_standing (T 37))).toNat) (pl := (T 37 7).toNat) (by omega) hc
    rw [← e]
    show (if (0 ≤ p ∧ p ≤ 255) ∧ ¬ md_wy (T 37) (T 39) p = [] then _ else _) = (if ¬ md_wy (T 37) (T 39) p = [] then _ else _)
    by_cases y : md_wy (T 37) (T 39) p = []
    · rw [if_neg (fun w => w.2 y), if_neg (fun w => w y)]
    · rw [if_pos ⟨z, y⟩, if_pos y]
      rfl
  · rw [if_neg z, if_neg (fun y => z y.1)]
theorem pr_fill (h : SIM n S T D) (hn : n ≤ 600) {p : Int} (h_p : -2147483648 ≤ p ∧ p < 2147483648) {k : Int} (h_k : -2147483648 ≤ k ∧ k < 2147483648) : PRI vI 0 0 n S T D yX10_fill cX10_fill 4 (some .int) 92 [.ref 0, .int (jI p), .int (jI k)] yX11_fill cX11_fill 5 (some .int) 12 [.ref 36, .int (jI p), .int (jI k)] := by
  obtain ⟨lb, lt, hr, hb, hl⟩ := h.cr
  have h7 := h.2.2.2.2.2.1
  refine PRI.i (qX10_fill h.rp.1.1 h.rp.1.2 hr h.2.2.2.2.1 (by omega) h_p h_k) (fun v hp hq => ?_)
  obtain ⟨S', b, e1, hJ, hf, h7', hbn, ev⟩ := hq
  have h' := h.lf hf hJ h7'
  have hE := StE_of hb h.rp rfl hbn
  refine ⟨S', e1, NXT.i (qX11_fill h'.mi h_p h_k) (fun v' hp' hq' => ?_)⟩
  obtain ⟨e3, T', e4, hsf⟩ := hq'
  refine ⟨?_, T', e4, h'.sf hsf⟩
  dsimp only at ev
  rw [e3, ev]
  have b7 : 1 ≤ T 37 7 ∧ T 37 7 ≤ 16 := h.mv.2.2.2.2.2.2.2.2.1
  have hc := h.rp.2.1.cmp h.mv
  have e3' : S 14 3 = md_standing (T 37) := h.rp.2.1.2.2.2.2.2.1
  have ej : jnn (S 14) p = (bdf p (md_standing (T 37))).toNat := by unfold jnn; rw [e3']
  have hcn := wy_cn hE.1 (s := (bdf p (md_standing (T 37))).toNat) (pl := (T 37 7).toNat) (by omega) hc
  have hnil : md_wy (T 37) (T 39) p = [] ↔ cn (fa b) (jnn (S 14) p) (vcn (S 14)) = 0 := by rw [ej]; exact len_nil hcn
  by_cases z : (0 ≤ p ∧ p ≤ 255) ∧ (1 ≤ k ∧ k ≤ 8) ∧ ¬ cn (fa b) (jnn (S 14) p) (vcn (S 14)) = 0
  · have ew := wr1_e (n := k) (by have := z.2.1; omega)
    have hh := h.rp.2.1.holds h.mv (n := k)
    have hF := h.rp.fk (k := k - 1) (by have := z.2.1; omega)
    rw [show k - 1 + 1 = k by omega] at hF
    rw [if_pos z, ew]
    by_cases y : md_stands (T 37) (k - 1)
    · rw [if_pos (hh.mpr y), if_pos ⟨⟨z.1, by have := z.2.1; omega, Or.inl y⟩, fun w => z.2.2 (hnil.mp w)⟩]
      unfold md_fil
      rw [if_pos y, hF.1]
    · rw [if_neg (fun w => y (hh.mp w))]
      by_cases x : bt p (k - 1).toNat
      · have hbit : (jnn (S 14) p).testBit (k - 1).toNat = true := by
          rw [ej]
          have := (bt_bdf (a := p) (b := md_standing (T 37)) (i := (k - 1).toNat)).mpr ⟨x, fun w => y ?_⟩
          · exact this
          · have := (bt_standing (a := T 37) (i := (k - 1).toNat) (by have := z.2.1; omega)).mp w
            rw [show (((k - 1).toNat : Nat) : Int) = k - 1 by have := z.2.1; omega] at this
            exact this
        rw [if_pos ⟨⟨z.1, by have := z.2.1; omega, Or.inr ((bt_has z.1.1).mpr x)⟩, fun w => z.2.2 (hnil.mp w)⟩]
        unfold md_fil
        rw [if_neg y]
        have e := eq_lff hE.1 hE.2.1 (pl := (T 37 7).toNat) (by omega) (nb := k) z.2.1.2 8 1 (jnn (S 14) p) (md_taken (T 37)).toNat (vcn (S 14)) rfl (by omega) hc (fun j hj => absurd hj (by simp)) z.2.1.1 hbit z.2.2
        rw [e, ej]
        rfl
      · have hbit : ¬ (jnn (S 14) p).testBit (k - 1).toNat = true := by
          rw [ej]
          exact fun w => x ((bt_bdf (a := p) (b := md_standing (T 37)) (i := (k - 1).toNat)).mp w).1
        rw [lff_none z.2.1.1 8 1 _ _ (by omega) hbit, if_neg (fun w => ?_)]
        rcases w.1.2.2 with u | u
        · exact y u
        · exact x ((bt_has z.1.1).mp u)
  · rw [if_neg z, if_neg (fun y => z ⟨y.1.1, by have := wr1_v y.1.2.1; have := y.1.2.1; omega, fun w => y.2 (hnil.mpr w)⟩)]
theorem pr_stay (h : SIM n S T D) (hn : n ≤ 600) {p : Int} (h_p : -2147483648 ≤ p ∧ p < 2147483648) : PRI vI 0 0 n S T D yX10_stay cX10_stay 6 (some .int) 88 [.ref 0, .int (jI p)] yX11_stay cX11_stay 4 (some .int) 12 [.ref 36, .int (jI p)] := by
  obtain ⟨lb, lt, hr, hb, hl⟩ := h.cr
  have h7 := h.2.2.2.2.2.1
  refine PRI.i (qX10_stay h.rp.1.1 h.rp.1.2 hr h.2.2.2.2.1 (by omega) h_p) (fun v hp hq => ?_)
  obtain ⟨S', b, e1, hJ, hf, h7', hbn, ev⟩ := hq
  have h' := h.lf hf hJ h7'
  have hE := StE_of hb h.rp rfl hbn
  refine ⟨S', e1, NXT.i (qX11_stay h'.mi h_p) (fun v' hp' hq' => ?_)⟩
  obtain ⟨e3, T', e4, hsf⟩ := hq'
  refine ⟨?_, T', e4, h'.sf hsf⟩
  dsimp only at ev
  rw [e3, ev]
  have b7 : 1 ≤ T 37 7 ∧ T 37 7 ≤ 16 := h.mv.2.2.2.2.2.2.2.2.1
  have e3' : S 14 3 = md_standing (T 37) := h.rp.2.1.2.2.2.2.2.1
  have hst := md_standing_B (T 37)
  by_cases z : 0 ≤ p ∧ p ≤ 255
  · rw [if_pos z, if_pos z, e3']
    refine eq_stay (Int.natCast_nonneg _) (fun q hq hd => ?_)
    have hpl := h.rp.2.1.places h.mv (s := q) hq.1 (fun k hk hb => ?_)
    · have hpn : 0 ≤ md_pls (T 37) q := (md_pls_B h.mv q).1
      rw [hpl, show S 14 0 = T 37 7 from h.rp.2.1.1.symm]
      exact len_nil (wy_cn hE.1 (pl := (T 37 7).toNat) (by omega) (CMP_of (by omega) hpn))
    · have hb2 := bdf0 hd hb
      rw [bt_ban] at hb2
      have := (bt_standing (a := T 37) (i := k.toNat) (by omega)).mp hb2.2
      rw [show ((k.toNat : Nat) : Int) = k by omega] at this
      exact this
  · rw [if_neg z, if_neg z]
theorem pr_most (h : SIM n S T D) (hn : n ≤ 600) {p : Int} (h_p : -2147483648 ≤ p ∧ p < 2147483648) {q : Int} (h_q : q = 0 ∨ q = 1) : PRI vI 0 0 n S T D yX10_most cX10_most 4 (some .int) 89 [.ref 0, .int (jI p), .int (jI q)] yX11_most cX11_most 5 (some .int) 12 [.ref 36, .int (jI p), .int (jI q)] := by
  obtain ⟨lb, lt, hr, hb, hl⟩ := h.cr
  have h7 := h.2.2.2.2.2.1
  refine PRI.i (qX10_most h.rp.1.1 h.rp.1.2 hr h.2.2.2.2.1 (by omega) h_p h_q) (fun v hp hq => ?_)
  obtain ⟨S', b, e1, hJ, hf, h7', hbn, ev⟩ := hq
  have h' := h.lf hf hJ h7'
  have hE := StE_of hb h.rp rfl hbn
  refine ⟨S', e1, NXT.i (qX11_most h'.mi h_p h_q) (fun v' hp' hq' => ?_)⟩
  obtain ⟨e3, T', e4, hsf⟩ := hq'
  refine ⟨?_, T', e4, h'.sf hsf⟩
  dsimp only at ev
  rw [e3, ev]
  by_cases z : 1 ≤ p ∧ p ≤ 16
  · rw [if_pos z, if_pos z, eq_most hE.1 z]
  · rw [if_neg z, if_neg z]
theorem pr_game (h : SIM n S T D) (hn : n ≤ 600) {p : Int} (h_p : -2147483648 ≤ p ∧ p < 2147483648) {q : Int} (h_q : -2147483648 ≤ q ∧ q < 2147483648) : PRI vI 0 0 n S T D yX10_game cX10_game 3 (some .int) 29 [.ref 0, .int (jI p), .int (jI q)] yX11_game cX11_game 3 (some .int) 12 [.ref 36, .int (jI p), .int (jI q)] := by
  obtain ⟨lb, lt, hr, hb, hl⟩ := h.cr
  have h7 := h.2.2.2.2.2.1
  refine PRI.i (qX10_game h.rp.1.1 h.rp.1.2 hr h.2.2.2.2.1 (by omega) h_p h_q) (fun v hp hq => ?_)
  obtain ⟨S', b, e1, hJ, hf, h7', hbn, ev⟩ := hq
  have h' := h.lf hf hJ h7'
  have hE := StE_of hb h.rp rfl hbn
  refine ⟨S', e1, NXT.i (qX11_game h'.mi h_p h_q) (fun v' hp' hq' => ?_)⟩
  obtain ⟨e3, T', e4, hsf⟩ := hq'
  refine ⟨?_, T', e4, h'.sf hsf⟩
  dsimp only at ev
  rw [e3, ev]
  by_cases z : isGm p q
  · rw [if_pos z, if_pos z, eq_pf hE.1 hE.2.1 (by have := z.1; omega) z.2.1]
    exact eq_game
  · rw [if_neg z, if_neg z]
theorem pr_play (h : SIM n S T D) (hn : n ≤ 600) {p : Int} (h_p : -2147483648 ≤ p ∧ p < 2147483648) {q : Int} (h_q : -2147483648 ≤ q ∧ q < 2147483648) : PRI vI 0 0 n S T D yX10_play cX10_play 3 (some .int) 31 [.ref 0, .int (jI p), .int (jI q)] yX11_play cX11_play 3 (some .int) 12 [.ref 36, .int (jI p), .int (jI q)] := by
  obtain ⟨lb, lt, hr, hb, hl⟩ := h.cr
  have h7 := h.2.2.2.2.2.1
  refine PRI.i (qX10_play h.rp.1.1 h.rp.1.2 hr h.2.2.2.2.1 (by omega) h_p h_q) (fun v hp hq => ?_)
  obtain ⟨S', b, e1, hJ, hf, h7', hbn, ev⟩ := hq
  have h' := h.lf hf hJ h7'
  have hE := StE_of hb h.rp rfl hbn
  refine ⟨S', e1, NXT.i (qX11_play h'.mi h_p h_q) (fun v' hp' hq' => ?_)⟩
  obtain ⟨e3, T', e4, hsf⟩ := hq'
  refine ⟨?_, T', e4, h'.sf hsf⟩
  dsimp only at ev
  rw [e3, ev]
  by_cases z : isGm p q
  · rw [if_pos z, if_pos z, eq_pf hE.1 hE.2.1 (by have := z.1; omega) z.2.1]
    exact eq_play
  · rw [if_neg z, if_neg z]
end
