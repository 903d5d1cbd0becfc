/-! ===== the whole relation ===== -/
def TXS (S T : Nat → Int → Int) (D : List mx_C) (q : Int) : Prop := ∃ (i : Nat) (els el : List (Int × Int × Int)) (cd : List (Int × Int)) (lb lt : Option (List Int)), tx (S 12 q) = some (i + 54) ∧ CSv D i els lb lt ∧ (∀ x ∈ els, LSm x) ∧ TD (T 39) q els el cd lb lt
def SIM (n : Nat) (S T : Nat → Int → Int) (D : List mx_C) : Prop := COS S (T 37) ∧ COI S (T 38) ∧ T 38 0 ≤ T 37 0 ∧ (∀ q, 0 ≤ q ∧ q < T 37 0 → TXS S T D q) ∧ FJ S ∧ S 21 7 ≤ (n : Int) ∧ T 36 23 = 1 ∧ Bd (T 39) ∧ (S 1 1 = T 36 4 ∧ TP T ∧ ∀ k : Nat, k < 300 → S 2 k % 256 = T 40 k) ∧ (S 3 10 = T 36 5 ∧ S 3 11 = T 36 6) ∧ (0 ≤ S 3 6 ∧ S 3 6 ≤ 300)
def keptS (i : Nat) : Prop := i ≤ 3 ∨ i = 12 ∨ i = 14 ∨ (17 ≤ i ∧ i ≤ 20) ∨ (28 ≤ i ∧ i ≤ 34)
theorem FJ.fr {S S' : Nat → Int → Int} (h : FJ S) (e : ∀ i, 21 ≤ i ∧ i ≤ 26 → S' i = S i) : FJ S' := by
  unfold FJ FI FA FK FE at h ⊢
  rw [e 21 (by omega), e 22 (by omega), e 23 (by omega), e 24 (by omega), e 25 (by omega), e 26 (by omega)]
  exact h
theorem SIM.fr {n n' : Nat} {S T S' T' : Nat → Int → Int} {D : List mx_C} (h : SIM n S T D) (hS : ∀ i, keptS i → S' i = S i) (hJ : FJ S') (h7 : S' 21 7 ≤ (n' : Int)) (hT : ∀ i, 37 ≤ i ∧ i ≤ 40 → T' i = T i) (h36 : ∀ j, (j = 4 ∨ j = 5 ∨ j = 6 ∨ j = 23) → T' 36 j = T 36 j) : SIM n' S' T' D := by
  obtain ⟨h1, h2, h3, h4, h5, h6, h8, h9, h10, h11, h12⟩ := h
  have e37 := hT 37 (by omega)
  have e38 := hT 38 (by omega)
  have e39 := hT 39 (by omega)
  have e40 := hT 40 (by omega)
  refine ⟨?_, ?_, ?_, fun q hq => ?_, hJ, h7, ?_, ?_, ?_, ?_, ?_⟩
  · unfold COS at h1 ⊢
    rw [e37, hS 14 (by unfold keptS; omega), hS 18 (by unfold keptS; omega), hS 17 (by unfold keptS; omega), hS 20 (by unfold keptS; omega), hS 19 (by unfold keptS; omega), hS 0 (by unfold keptS; omega)]
    exact h1
  · rw [e38]
    exact h2.fr (fun i hi => hS i (by unfold keptS; omega))
  · rw [e37, e38]; exact h3
  · rw [e37] at hq
    obtain ⟨i, els, el, cd, lb, lt, u1, u2, u3, u4⟩ := h4 q hq
    exact ⟨i, els, el, cd, lb, lt, by rw [hS 12 (by unfold keptS; omega)]; exact u1, u2, u3, by rw [e39]; exact u4⟩
  · rw [h36 23 (by omega)]; exact h8
  · rw [e39]; exact h9
  · refine ⟨by rw [hS 1 (by unfold keptS; omega), h36 4 (by omega)]; exact h10.1, ?_, fun k hk => by rw [hS 2 (by unfold keptS; omega), e40]; exact h10.2.2 k hk⟩
    unfold TP at h10 ⊢
    rw [h36 4 (by omega), e40]
    exact h10.2.1
  · rw [hS 3 (by unfold keptS; omega), h36 5 (by omega), h36 6 (by omega)]; exact h11
  · rw [hS 3 (by unfold keptS; omega)]; exact h12
theorem SIM.up1 {n : Nat} {S T : Nat → Int → Int} {D : List mx_C} (h : SIM n S T D) : SIM (n + 1) S T D := h.fr (fun _ _ => rfl) h.2.2.2.2.1 (by have := h.2.2.2.2.2.1; omega) (fun _ _ => rfl) (fun _ _ => rfl)
theorem SIM.s35 {n : Nat} {S T S' : Nat → Int → Int} {D : List mx_C} (h : SIM n S T D) (hf : Fr [35] S S') : SIM n S' T D :=
  h.fr (fun i hi => hf i (by unfold keptS at hi; simp; omega)) (h.2.2.2.2.1.fr (fun i hi => hf i (by simp; omega))) (by rw [hf 21 (by decide)]; exact h.2.2.2.2.2.1) (fun _ _ => rfl) (fun _ _ => rfl)
theorem SIM.lf {n : Nat} {S T S' : Nat → Int → Int} {D : List mx_C} (h : SIM n S T D) (hf : Fr LF S S') (hJ : FJ S') (h7 : S' 21 7 ≤ S 21 7 + 1) : SIM (n + 1) S' T D :=
  h.fr (fun i hi => hf i (by unfold keptS at hi; simp; omega)) hJ (by have := h.2.2.2.2.2.1; omega) (fun _ _ => rfl) (fun _ _ => rfl)
theorem SIM.t42 {n : Nat} {S T T' : Nat → Int → Int} {D : List mx_C} (h : SIM n S T D) (hf : Fr [42, 43, 44] T T') : SIM n S T' D :=
  h.fr (fun _ _ => rfl) h.2.2.2.2.1 h.2.2.2.2.2.1 (fun i hi => hf i (by simp; omega)) (fun j _ => by rw [hf 36 (by decide)])
theorem SIM.sf {n : Nat} {S T T' : Nat → Int → Int} {D : List mx_C} (h : SIM n S T D) (hf : SF T T') : SIM n S T' D :=
  h.fr (fun _ _ => rfl) h.2.2.2.2.1 h.2.2.2.2.2.1 (fun i hi => hf.1 i (by unfold LSc; simp; omega)) (fun j hj => hf.2 j (by omega) (by omega))
theorem CSv.c {D : List mx_C} {i : Nat} {els : List (Int × Int × Int)} {lb lt : Option (List Int)} (h : CSv D i els lb lt) {el : List (Int × Int × Int)} {cd : List (Int × Int)} (hj : TJ els el cd lb lt) : CSc D i lb lt := by
  obtain ⟨b1, b2, b3, f1, f2, f3, v4, v5, h1, _, _, _, _, _, h7, h8⟩ := h
  exact ⟨_, _, _, _, v4, v5, h1, h7.w hj.kb, h8.w hj.kt⟩
theorem CSv.k {D : List mx_C} {i : Nat} {els : List (Int × Int × Int)} {lb lt : Option (List Int)} (h : CSv D i els lb lt) : CSk D i els := by
  obtain ⟨b1, b2, b3, f1, f2, f3, v4, v5, h1, h2, h3, h4, h5, h6, _, _⟩ := h
  exact ⟨b1, b2, b3, els.length, els.length, els.length, f1, f2, f3, v4, v5, h1, h2, h3, h4, ⟨Nat.le_refl _, Nat.le_refl _, Nat.le_refl _⟩, ⟨by omega, by omega, by omega⟩, h6⟩
theorem SIM.mv {n : Nat} {S T : Nat → Int → Int} {D : List mx_C} (h : SIM n S T D) : MV (T 37) := h.1.1.2.2.1
theorem SIM.rp {n : Nat} {S T : Nat → Int → Int} {D : List mx_C} (h : SIM n S T D) : RPM (S 14) (T 37) := h.1.1
theorem SIM.st {n : Nat} {S T : Nat → Int → Int} {D : List mx_C} (h : SIM n S T D) : HSt S := ⟨h.1.2.1.1, h.1.2.1.2.1⟩
theorem SIM.sy {n : Nat} {S T : Nat → Int → Int} {D : List mx_C} (h : SIM n S T D) : HSy S := by
  have hy := h.1.2.2.1
  refine ⟨hy.2.1, fun i hi => ?_⟩
  have := hy.2.2 i hi
  omega
theorem SIM.ms {n : Nat} {S T : Nat → Int → Int} {D : List mx_C} (h : SIM n S T D) : MS (T 37) := fun i hi => by
  have hy := h.1.2.2.1
  have := hy.1
  have := hy.2.2 i (by omega)
  exact ⟨this.1, this.2.1⟩
theorem SIM.mi {n : Nat} {S T : Nat → Int → Int} {D : List mx_C} (h : SIM n S T D) : MI T := ⟨h.mv, h.1.1.2.2.2, fun q hq => by
  obtain ⟨i, els, el, cd, lb, lt, u1, u2, u3, u4⟩ := h.2.2.2.1 q hq
  exact u4.txok⟩
/-- who rules -/
theorem SIM.cr {n : Nat} {S T : Nat → Int → Int} {D : List mx_C} (h : SIM n S T D) : ∃ lb lt, CR1 S D lb lt ∧ LWb (T 39) (T 37 1) lb ∧ LWt (T 39) (T 37 1) lt := by
  have hv := h.mv
  have h0 := hv.2.1
  have h1 := hv.2.2.1
  have e0 : S 0 10 = T 37 0 := h.1.2.2.2.1
  have e1 : S 0 11 = T 37 1 := h.1.2.2.2.2
  by_cases q : 0 ≤ T 37 1
  · obtain ⟨i, els, el, cd, lb, lt, u1, u2, u3, u4⟩ := h.2.2.2.1 (T 37 1) (by omega)
    refine ⟨lb, lt, ⟨by omega, by omega, Or.inr ⟨i, by omega, by rw [e1]; exact u1, u2.c u4.2.2.2⟩⟩, (u4.lb q).w, (u4.lt q).w⟩
  · have e2 : T 37 1 = -1 := by omega
    refine ⟨none, none, ⟨by omega, by omega, Or.inl ⟨by omega, rfl, rfl⟩⟩, ?_, ?_⟩
    · rw [e2]; exact (no_lb _).w
    · rw [e2]; exact (no_lt _).w
theorem SIM.txs {n : Nat} {S T : Nat → Int → Int} {D : List mx_C} (h : SIM n S T D) : ∃ tb : Int → Option (List Int), CTx S D tb ∧ ∀ i, 0 ≤ i ∧ i < T 37 0 → LBb (T 39) i (tb i) := by
  have h0 := h.mv.2.1
  have e0 : S 0 10 = T 37 0 := h.1.2.2.2.1
  have ax : ∀ i : Int, ∃ o : Option (List Int), (0 ≤ i ∧ i < T 37 0) → (∃ j : Nat, ∃ lt : Option (List Int), tx (S 12 i) = some (j + 54) ∧ CSc D j o lt) ∧ LBb (T 39) i o := fun i => by
    by_cases q : 0 ≤ i ∧ i < T 37 0
    · obtain ⟨j, els, el, cd, lb, lt, u1, u2, u3, u4⟩ := h.2.2.2.1 i q
      exact ⟨lb, fun _ => ⟨⟨j, lt, u1, u2.c u4.2.2.2⟩, u4.lb q.1⟩⟩
    · exact ⟨none, fun z => absurd z q⟩
  obtain ⟨tb, ht⟩ := Classical.axiomOfChoice ax
  exact ⟨tb, ⟨by omega, fun i hi => (ht i (by omega)).1⟩, fun i hi => (ht i hi).2⟩
/-- what the finder learns is what the reference steps by -/
theorem StE_of {f a c b : Int → Int} {lb : Option (List Int)} {t : Int} (hl : LWb c t lb) (h : RPM f a) (h1 : a 1 = t) (hb : ∀ n, 1 ≤ n ∧ n ≤ 8 → b n = cbt f n lb + 1) : StE a c (fa b) ∧ (∀ k, k < 8 → 1 ≤ fa b k) ∧ ∀ n, 1 ≤ n ∧ n ≤ 8 → 1 ≤ b n := by
  have key : ∀ n, 1 ≤ n ∧ n ≤ 8 → b n = md_btw a c (a 1) (n - 1) + 1 ∧ 0 ≤ md_btw a c (a 1) (n - 1) := fun n hn => by
    have e := hl f a n h.2.1 h.2.2.1 h.2.2.2 h1 hn
    have hB := md_btw_B (a := a) (c := c) (q := a 1) (k := n - 1) (by omega)
    rw [hb n hn, e]
    exact ⟨rfl, by omega⟩
  refine ⟨fun k hk => ?_, fun k hk => ?_, fun n hn => ?_⟩
  · have := key ((k : Int) + 1) (by omega)
    unfold md_st fa
    rw [this.1, show (k : Int) + 1 - 1 = (k : Int) by omega]
  · have := key ((k : Int) + 1) (by omega)
    unfold fa
    omega
  · have := key n hn
    omega
