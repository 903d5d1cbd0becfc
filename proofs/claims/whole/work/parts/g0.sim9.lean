/-! ===== a day, side by side ===== -/
theorem RQ.pk {f a c : Int → Int} {lt : Option (List Int)} {t : Int} (hl : LWt c t lt) (h : RQ f a) (hv : MV a) (hm : ML a) (hvo : ∀ k, 0 ≤ k ∧ k ≤ 7 → MV (md_old a k) ∧ ML (md_old a k)) (h1 : a 1 = t) {k : Int} (hk : 0 ≤ k ∧ k ≤ 7) (x : Int) : RQ (cpd1 lt (k + 1) f) (md_pk c 1 k (a, x)).1 := by
  have hh : rw_holds f (k + 1) ↔ md_stands a k := by
    have := h.holds hv (n := k + 1)
    rw [show k + 1 - 1 = k by omega] at this
    exact this
  unfold cpd1 md_pk
  by_cases q : md_stands a k
  · have ho := h.aged hv q
    have hv2 := hvo k hk
    have e1 : md_old a k 1 = a 1 := by unfold md_old; rw [up_n (by omega), up_n (by omega)]
    have e := hl _ _ (k + 1) ho.bare hv2.1 hv2.2 (by rw [e1]; exact h1) (by omega)
    rw [e1, show k + 1 - 1 = k by omega] at e
    have hso : md_stands (md_old a k) k := ⟨hk, by unfold md_old; rw [up_n (by omega), up_n (by omega)]; exact q.2⟩
    rw [if_pos (hh.mpr q), if_pos q, e, ← h.2.2.1]
    by_cases z : a 5 % 10 < md_tir (md_old a k) c (a 1) k
    · rw [if_pos z, if_pos z]
      exact ho.depart hv2.1 hso (by omega)
    · rw [if_neg z, if_neg z]
      exact ho
  · rw [if_neg (fun z => q (hh.mp z)), if_neg q]
    exact h
