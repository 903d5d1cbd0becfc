/-! ===== whose; what a script may do ===== -/
theorem eq_says {f a c y : Int → Int} {lb : Option (List Int)} {t sc : Int} (hb : LBb c t lb) (h : RPM f a) (hy : SYq y sc a) : ∀ (m : Nat) (k : Int), 0 ≤ k → k + m = sc → (csA f y lb m k = 0 ∨ csA f y lb m k = 1) ∧ lpF (md_whi a c t) m k 1 = csA f y lb m k := by
  have z0 : ∀ (m : Nat) (k : Int), lpF (md_whi a c t) m k 0 = 0 := by
    intro m
    induction m with
    | zero => intro k; rfl
    | succ m ih =>
      intro k
      show lpF (md_whi a c t) m (k + 1) (md_whi a c t k 0) = 0
      rw [show md_whi a c t k 0 = 0 from if_neg (fun z => z.1 rfl)]
      exact ih (k + 1)
  intro m
  induction m with
  | zero => intro k _ _; exact ⟨Or.inr rfl, rfl⟩
  | succ m ih =>
    intro k h0 hk
    have hi := hy.2.2 k (by omega)
    have e1 : y k / 16 = a (32 + 2 * k) + 1 := by omega
    have e2 : y k % 16 = a (33 + 2 * k) := by omega
    have eb := hb f a (y k / 16) h.2.1 h.2.2.1 h.2.2.2 (by omega)
    rw [show y k / 16 - 1 = a (32 + 2 * k) by omega] at eb
    show ((if cbt f (y k / 16) lb = y k % 16 then csA f y lb m (k + 1) else 0) = 0 ∨ (if cbt f (y k / 16) lb = y k % 16 then csA f y lb m (k + 1) else 0) = 1) ∧ lpF (md_whi a c t) m (k + 1) (md_whi a c t k 1) = (if cbt f (y k / 16) lb = y k % 16 then csA f y lb m (k + 1) else 0)
    rw [eb, e2]
    by_cases q : md_btw a c t (a (32 + 2 * k)) = a (33 + 2 * k)
    · rw [if_pos q, show md_whi a c t k 1 = 1 from if_pos ⟨by decide, q⟩]
      exact ih (k + 1) (by omega) (by omega)
    · rw [if_neg q, show md_whi a c t k 1 = 0 from if_neg (fun z => q z.2), z0]
      exact ⟨Or.inl rfl, rfl⟩
theorem eq_whose {f a c y : Int → Int} {sc : Int} {tb : Int → Option (List Int)} (hb : ∀ i, 0 ≤ i ∧ i < a 0 → LBb c i (tb i)) (h : RPM f a) (hy : SYq y sc a) : lpF (cwg f y sc.toNat tb) (a 0).toNat 0 0 = md_whose a c := by
  have h3 := hy.1
  have hs := hy.2.1
  have h0 := h.2.2.1.2.1
  have key : ∀ (m : Nat) (k acc : Int), 0 ≤ k → k + m ≤ a 0 → 0 ≤ acc → lpF (cwg f y sc.toNat tb) m k acc = lpF (md_whg a c) m k acc := by
    intro m
    induction m with
    | zero => intro k acc _ _ _; rfl
    | succ m ih =>
      intro k acc hk hm ha
      have hh := eq_says (hb k (by omega)) h hy sc.toNat 0 (by omega) (by omega)
      have e : cwg f y sc.toNat tb k acc = md_whg a c k acc := by
        unfold cwg md_whg
        rw [h3, hh.2]
        by_cases q : csA f y (tb k) sc.toNat 0 = 0
        · rw [if_pos q, if_pos q, bor_zero ha]
        · rw [if_neg q, if_neg q]
      show lpF (cwg f y sc.toNat tb) m (k + 1) (cwg f y sc.toNat tb k acc) = lpF (md_whg a c) m (k + 1) (md_whg a c k acc)
      rw [e]
      exact ih (k + 1) _ (by omega) (by omega) (bor_nn _ _)
  exact key _ 0 0 (by omega) (by omega) (by omega)
theorem COS.exS {S : Nat → Int → Int} {a c : Int → Int} {lb lt : Option (List Int)} {t : Int} (hb : LWb c t lb) (hl : LWt c t lt) (h : COS S a) (h1 : a 1 = t) {x : Int × Int × Int} (hx : CLn x) : ∃ a', COS (ccS lb lt x.1 x.2.1 x.2.2 S) a' ∧ a' 1 = t := by
  obtain ⟨k, o, p⟩ := x
  have h2 : 0 ≤ a 2 ∧ a 2 ≤ 30 := h.1.2.2.1.2.2.2.1
  have k1 : md_keep a 1 = t := (keep_row h2 (by omega)).trans h1
  have hk := h.kept
  show ∃ a', COS (ccS lb lt k o p S) a' ∧ a' 1 = t
  unfold ccS
  by_cases q5 : k = 5
  · rw [if_pos q5]
    have hs := h.1.2.1.sec hb h.1.2.2.1 h.1.2.2.2 h1 o p
    unfold cjo
    rw [hs]
    by_cases q : md_sec a c (o - 1) p = -1
    · rw [if_pos q]; exact ⟨a, h, h1⟩
    · rw [if_neg q]
      have hsk := hk.1.2.1.sec hb hk.1.2.2.1 hk.1.2.2.2 k1 o p
      have e5 : md_sec (md_keep a) c (o - 1) p = md_sec a c (o - 1) p := hsk.symm.trans hs
      have hj := hk.1.join (c := c) (k := o - 1) (p := p) (by rw [e5]; exact q)
      rw [show o - 1 + 1 = o by omega, e5] at hj
      exact ⟨_, hk.row hj.1 hj.2, (hj.2 1 (by omega)).trans k1⟩
  · rw [if_neg q5]
    by_cases q6 : k = 6
    · rw [if_pos q6]
      have hh := h.1.2.1.holds h.1.2.2.1 (n := o)
      by_cases q : rw_holds (S 14) o
      · rw [if_pos q]
        have hs := hh.mp q
        have hj := hk.1.leave (k := o - 1) (q := 1) ⟨hs.1, by rw [keep_row h2 (by have := hs.1; omega)]; exact hs.2⟩ (by omega)
        rw [show o - 1 + 1 = o by omega] at hj
        exact ⟨_, hk.row hj.1 hj.2, (hj.2 1 (by omega)).trans k1⟩
      · rw [if_neg q]; exact ⟨a, h, h1⟩
    · rw [if_neg q6]
      by_cases q7 : k = 7
      · rw [if_pos q7]
        by_cases q : pc (S 14 3) = 0
        · rw [if_pos q]; exact ⟨a, h, h1⟩
        · rw [if_neg q]
          have hj := hk.1.turn
          exact ⟨_, hk.row hj.1 hj.2, (hj.2 1 (by omega)).trans k1⟩
      · rw [if_neg q7]
        by_cases q8 : k = 8
        · rw [if_pos q8]
          have hd := COS.days hl o.toNat S a 0 h h1
          have hp := md_aps_P (c := c) (b := 1) o.toNat (a, 0) h.1.2.2.1 h.1.2.2.2
          exact ⟨_, hd.1, hp.2.2.2.trans h1⟩
        · rw [if_neg q8]
          by_cases q9 : k = 9
          · rw [if_pos q9]
            by_cases q : cl_len (S 14) o
            · rw [if_pos q]
              exact ⟨_, h.len (h.1.len.mp q), by rw [up_n (by omega)]; exact k1⟩
            · rw [if_neg q]; exact ⟨a, h, h1⟩
          · rw [if_neg q9]; exact ⟨a, h, h1⟩
theorem cpN_fx {S : Nat → Int → Int} {lt : Option (List Int)} : ∀ (m : Nat) (A : Nat → Int → Int), Fr [14, 17, 18] S A → Fr [14, 17, 18] S (cpN lt m A) := by
  intro m
  induction m with
  | zero => intro A hA; exact hA
  | succ m ih =>
    intro A hA
    show Fr [14, 17, 18] S (if 9999 ≤ A 14 1 then A else cpN lt m (cps lt A))
    split
    · exact hA
    · refine ih _ (fun i hi => ?_)
      have n14 : ¬ i = 14 := fun e => hi (by rw [e]; decide)
      have n17 : ¬ i = 17 := fun e => hi (by rw [e]; decide)
      have n18 : ¬ i = 18 := fun e => hi (by rw [e]; decide)
      show (if i = 14 then _ else if i = 17 then _ else if i = 18 then _ else A i) = S i
      rw [if_neg n14, if_neg n17, if_neg n18]; exact hA i hi
theorem ccS_fx (lb lt : Option (List Int)) (k o p : Int) (S : Nat → Int → Int) : Fr [14, 17, 18] S (ccS lb lt k o p S) := by
  have hK : Fr [14, 17, 18] S (stK S) := fun i hi => by
    have n17 : ¬ i = 17 := fun e => hi (by rw [e]; decide)
    have n18 : ¬ i = 18 := fun e => hi (by rw [e]; decide)
    show (if i = 17 then _ else if i = 18 then _ else S i) = S i
    rw [if_neg n17, if_neg n18]
  have h14 : ∀ (A : Nat → Int → Int) (g : Int → Int), Fr [14, 17, 18] S A → Fr [14, 17, 18] S (upS A 14 g) := fun A g hA i hi => by
    have n14 : ¬ i = 14 := fun e => hi (by rw [e]; decide)
    show (if i = 14 then _ else A i) = S i
    rw [if_neg n14]; exact hA i hi
  have hR : Fr [14, 17, 18] S S := fun _ _ => rfl
  unfold ccS
  split
  · unfold cjo
    split
    · exact hR
    · exact h14 _ _ hK
  · split
    · split
      · exact h14 _ _ hK
      · exact hR
    · split
      · split
        · exact hR
        · exact h14 _ _ hK
      · split
        · exact cpN_fx _ _ hR
        · split
          · split
            · exact h14 _ _ hK
            · exact hR
          · exact hR
theorem cpl_fx {lb lt : Option (List Int)} : ∀ (L : List (Int × Int × Int)) (i : Int) (S : Nat → Int → Int), Fr [14, 17, 18] S (cpl lb lt L i S).2 := by
  intro L
  induction L with
  | nil => intro i S; exact fun _ _ => rfl
  | cons x L ih =>
    intro i S
    have h1 := ccS_fx lb lt x.1 x.2.1 x.2.2 S
    show Fr [14, 17, 18] S (if ccv lb lt x.1 x.2.1 x.2.2 S = 0 then (i, ccS lb lt x.1 x.2.1 x.2.2 S) else cpl lb lt L (i + 1) (ccS lb lt x.1 x.2.1 x.2.2 S)).2
    split
    · exact h1
    · exact fun j hj => (ih (i + 1) _ j hj).trans (h1 j hj)
