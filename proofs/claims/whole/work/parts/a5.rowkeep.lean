/-! ===== the row stays a row, whatever is done to it ===== -/
abbrev RX (f : Int → Int) : Prop := RV f ∧ RLn f
theorem RX_g {f g : Int → Int} (h : RX f) (hB : Bd g) (e : ∀ q, (q = 0 ∨ (6 ≤ q ∧ q ≤ 21)) → g q = f q) (h1 : 0 ≤ g 1 ∧ g 1 ≤ 9999) (h2 : 0 ≤ g 2 ∧ g 2 < 31019) (h3 : 0 ≤ g 3 ∧ g 3 < 256) (h4 : 0 ≤ g 4 ∧ g 4 < 65536) (h5 : 0 ≤ g 5 ∧ g 5 ≤ 25) (h21 : ∀ n, 1 ≤ n ∧ n ≤ 8 → 0 ≤ g (21 + n) ∧ g (21 + n) ≤ 99) (hl : RLn g) : RX g := by
  have e0 := e 0 (Or.inl rfl)
  refine ⟨⟨hB, by rw [e0]; exact h.1.2.1, h1, h2, h3, h4, h5, fun n hn => ?_⟩, hl⟩
  have ha := h.1.at hn
  rw [e0, e (5 + n) (by omega), e (13 + n) (by omega)]
  exact ⟨ha.1, ha.2.1, ha.2.2.1, h21 n hn⟩
theorem RLn_up {f : Int → Int} (hl : RLn f) {q v : Int} (h : q < 30 ∨ 0 ≤ v) : RLn (up f q v) := fun k hk => by
  by_cases hq : 30 + k = q
  · rw [hq, up_s]; omega
  · rw [up_n hq]; exact hl k hk
theorem RX_age {f : Int → Int} {n : Int} (h : RX f) (hn : 1 ≤ n ∧ n ≤ 8) : RX (rw_age f n) := by
  unfold rw_age
  split
  · next hc =>
    have ha := h.1.2
    have hb := h.1.at hn
    have e : ∀ q, ¬ q = 21 + n → up f (21 + n) (f (21 + n) + 1) q = f q := fun q hq => up_n hq
    refine RX_g h (Bd_up h.1.1 (by omega)) (fun q hq => e q (by omega)) (by rw [e 1 (by omega)]; omega) (by rw [e 2 (by omega)]; omega) (by rw [e 3 (by omega)]; omega) (by rw [e 4 (by omega)]; omega) (by rw [e 5 (by omega)]; omega) (fun k hk => ?_) (RLn_up h.2 (Or.inl (by omega)))
    by_cases hq : k = n
    · subst hq
      rw [up_s]
      omega
    · rw [e _ (by omega)]
      exact (h.1.at hk).2.2.2
  · exact h
theorem RX_up2 {f : Int → Int} {v : Int} (h : RX f) (hv : 0 ≤ v ∧ v < 31019) : RX (up f 2 v) := by
  have ha := h.1.2
  have e : ∀ q, ¬ q = 2 → up f 2 v q = f q := fun q hq => up_n hq
  exact RX_g h (Bd_up h.1.1 (by omega)) (fun q hq => e q (by omega)) (by rw [e 1 (by omega)]; omega) (by rw [up_s]; omega) (by rw [e 3 (by omega)]; omega) (by rw [e 4 (by omega)]; omega) (by rw [e 5 (by omega)]; omega) (fun k hk => by rw [e _ (by omega)]; exact (h.1.at hk).2.2.2) (RLn_up h.2 (Or.inl (by omega)))
theorem RX_draw {f : Int → Int} (h : RX f) : RX (up f 2 ((f 2 * 701 + 571).tmod 31019)) := by
  have ha := h.1.2
  refine RX_up2 h ?_
  rw [Int.tmod_eq_emod_of_nonneg (by omega)]
  omega
theorem RX_dawn {f : Int → Int} (h : RX f) (h1 : f 1 < 9999) : RX (up f 1 (f 1 + 1)) := by
  have ha := h.1.2
  have e : ∀ q, ¬ q = 1 → up f 1 (f 1 + 1) q = f q := fun q hq => up_n hq
  exact RX_g h (Bd_up h.1.1 (by omega)) (fun q hq => e q (by omega)) (by rw [up_s]; omega) (by rw [e 2 (by omega)]; omega) (by rw [e 3 (by omega)]; omega) (by rw [e 4 (by omega)]; omega) (by rw [e 5 (by omega)]; omega) (fun k hk => by rw [e _ (by omega)]; exact (h.1.at hk).2.2.2) (RLn_up h.2 (Or.inl (by omega)))
theorem RX_write {f : Int → Int} {n kd p : Int} (h : RX f) (hn : 0 ≤ n ∧ n ≤ 8) (hk : 0 ≤ kd ∧ kd ≤ 2) (hp : 0 ≤ p ∧ p ≤ 15) : RX (rw_write f n kd p) := by
  have ha := h.1.2
  have hb := rw_line_B (f := f) (by omega) hn hk hp
  have e : ∀ q, q < 30 → ¬ q = 5 → rw_write f n kd p q = f q := fun q h1 h2 => rw_write_lo (by omega) h1 h2
  refine RX_g h (rw_write_Bd h.1.1 (by omega) (by omega) hn hk hp) (fun q hq => e q (by omega) (by omega)) (by rw [e 1 (by omega) (by omega)]; omega) (by rw [e 2 (by omega) (by omega)]; omega) (by rw [e 3 (by omega) (by omega)]; omega) (by rw [e 4 (by omega) (by omega)]; omega) ?_ (fun k hk => by rw [e _ (by omega) (by omega)]; exact (h.1.at hk).2.2.2) ?_
  · unfold rw_write
    split
    · rw [up_s]; omega
    · rw [up_s]; omega
  · unfold rw_write
    split
    · refine RLn_up (RLn_up ?_ (Or.inr (by omega))) (Or.inl (by omega))
      intro k hk
      unfold cpy
      split
      · rw [show (31 : Int) + (30 + k - 30) = 30 + (k + 1) by omega]; exact h.2 _ (by omega)
      · exact h.2 k hk
    · exact RLn_up (RLn_up h.2 (Or.inr (by omega))) (Or.inl (by omega))
theorem RX_dep {f g : Int → Int} {n : Int} (h : RX g) (hf : RV f) (hn : 1 ≤ n ∧ n ≤ 8) : RX (rw_dep f n g) := by
  have ha := h.1.2
  have hfa := hf.2
  have b3 := bdf_nn (f 3) (bsh (n - 1))
  have c3 := bdf_le (f 3) (bsh (n - 1)) (by omega)
  have b4 := bdf_nn (f 4) (rw_pair f n)
  have c4 := bdf_le (f 4) (rw_pair f n) (by omega)
  unfold rw_dep
  have e : ∀ q, ¬ q = 3 → ¬ q = 4 → ¬ q = 5 + n → ¬ q = 13 + n → ¬ q = 21 + n → up (up (up (up (up g 3 (bdf (f 3) (bsh (n - 1)))) 4 (bdf (f 4) (rw_pair f n))) (5 + n) (-1)) (13 + n) (-1)) (21 + n) 0 q = g q := fun q a b c d e => by rw [up_n e, up_n d, up_n c, up_n b, up_n a]
  have e0 := e 0 (by omega) (by omega) (by omega) (by omega) (by omega)
  refine ⟨⟨Bd_up (Bd_up (Bd_up (Bd_up (Bd_up h.1.1 (by omega)) (by omega)) (by omega)) (by omega)) (by omega), by rw [e0]; omega, by rw [e 1 (by omega) (by omega) (by omega) (by omega) (by omega)]; omega, by rw [e 2 (by omega) (by omega) (by omega) (by omega) (by omega)]; omega, ?_, ?_, by rw [e 5 (by omega) (by omega) (by omega) (by omega) (by omega)]; omega, fun k hk => ?_⟩, RLn_up (RLn_up (RLn_up (RLn_up (RLn_up h.2 (Or.inl (by omega))) (Or.inl (by omega))) (Or.inl (by omega))) (Or.inl (by omega))) (Or.inl (by omega))⟩
  · rw [up_n (by omega), up_n (by omega), up_n (by omega), up_n (by omega), up_s]; omega
  · rw [up_n (by omega), up_n (by omega), up_n (by omega), up_s]; omega
  · by_cases hq : k = n
    · subst hq
      have a1 : (up (up (up (up (up g 3 (bdf (f 3) (bsh (k - 1)))) 4 (bdf (f 4) (rw_pair f k))) (5 + k) (-1)) (13 + k) (-1)) (21 + k) 0) (5 + k) = -1 := by rw [up_n (by omega), up_n (by omega), up_s]
      have a2 : (up (up (up (up (up g 3 (bdf (f 3) (bsh (k - 1)))) 4 (bdf (f 4) (rw_pair f k))) (5 + k) (-1)) (13 + k) (-1)) (21 + k) 0) (13 + k) = -1 := by rw [up_n (by omega), up_s]
      rw [e0, a1, a2, up_s]
      omega
    · have := h.1.at hk
      rw [e0, e (5 + k) (by omega) (by omega) (by omega) (by omega) (by omega), e (13 + k) (by omega) (by omega) (by omega) (by omega) (by omega), e (21 + k) (by omega) (by omega) (by omega) (by omega) (by omega)]
      exact this
theorem RX_depart {f : Int → Int} {n kd : Int} (h : RX f) (hn : 1 ≤ n ∧ n ≤ 8) (hh : 0 ≤ f (5 + n)) (hk : 0 ≤ kd ∧ kd ≤ 2) : RX (rw_depart f n kd) := by
  have hb := h.1.at hn
  exact RX_dep (RX_write h (by omega) hk (by omega)) h.1 hn
theorem RX_ent {f : Int → Int} {n p s : Int} (h : RX f) (hn : 1 ≤ n ∧ n ≤ 8) (hp : 0 ≤ p ∧ p < s ∧ s < f 0) : RX (rw_ent f n p s) := by
  have ha := h.1.2
  have b3 := bor_nn (f 3) (bsh (n - 1))
  have c3 : bor (f 3) (bsh (n - 1)) < 2 ^ 8 := bor_lt 8 (by omega) (bsh_lt 8 (by omega) (by decide))
  have b4 := bor_nn (f 4) (bor (bsh p) (bsh s))
  have c4 : bor (f 4) (bor (bsh p) (bsh s)) < 2 ^ 16 := bor_lt 16 (by omega) (bor_lt 16 (bsh_lt 16 (by omega) (by decide)) (bsh_lt 16 (by omega) (by decide)))
  unfold rw_ent
  have e : ∀ q, ¬ q = 3 → ¬ q = 4 → ¬ q = 5 + n → ¬ q = 13 + n → up (up (up (up f (5 + n) p) (13 + n) s) 3 (bor (f 3) (bsh (n - 1)))) 4 (bor (f 4) (bor (bsh p) (bsh s))) q = f q := fun q a b c d => by rw [up_n b, up_n a, up_n d, up_n c]
  have e0 := e 0 (by omega) (by omega) (by omega) (by omega)
  refine ⟨⟨Bd_up (Bd_up (Bd_up (Bd_up h.1.1 (by omega)) (by omega)) (by omega)) (by omega), by rw [e0]; omega, by rw [e 1 (by omega) (by omega) (by omega) (by omega)]; omega, by rw [e 2 (by omega) (by omega) (by omega) (by omega)]; omega, ?_, by rw [up_s]; omega, by rw [e 5 (by omega) (by omega) (by omega) (by omega)]; omega, fun k hk => ?_⟩, RLn_up (RLn_up (RLn_up (RLn_up h.2 (Or.inl (by omega))) (Or.inl (by omega))) (Or.inl (by omega))) (Or.inl (by omega))⟩
  · rw [up_n (by omega), up_s]; omega
  · have hb := h.1.at hk
    by_cases hq : k = n
    · subst hq
      have a1 : (up (up (up (up f (5 + k) p) (13 + k) s) 3 (bor (f 3) (bsh (k - 1)))) 4 (bor (f 4) (bor (bsh p) (bsh s)))) (5 + k) = p := by rw [up_n (by omega), up_n (by omega), up_n (by omega), up_s]
      have a2 : (up (up (up (up f (5 + k) p) (13 + k) s) 3 (bor (f 3) (bsh (k - 1)))) 4 (bor (f 4) (bor (bsh p) (bsh s)))) (13 + k) = s := by rw [up_n (by omega), up_n (by omega), up_s]
      rw [e0, e (21 + k) (by omega) (by omega) (by omega) (by omega), a1, a2]
      omega
    · rw [e0, e (5 + k) (by omega) (by omega) (by omega) (by omega), e (13 + k) (by omega) (by omega) (by omega) (by omega), e (21 + k) (by omega) (by omega) (by omega) (by omega)]
      exact hb
theorem RX_enter {f : Int → Int} {n p s : Int} (h : RX f) (hn : 1 ≤ n ∧ n ≤ 8) (hp : 0 ≤ p ∧ p < s ∧ s < f 0) : RX (rw_enter f n p s) := by
  have ha := h.1.2
  exact RX_write (RX_ent h hn hp) (by omega) (by omega) (by omega)
