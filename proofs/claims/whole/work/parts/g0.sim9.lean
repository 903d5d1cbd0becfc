/-! ===== a day, side by side ===== -/
theorem RQ.pk {f a c : Int → Int} {lt : Option (List Int)} {t : Int} (hl : LWt c t lt) (h : RQ f a) (hv : MV a) (hm : ML a) (hvo : ∀ k, 0 ≤ k ∧ k ≤ 7 → MV (md_old a k) ∧ ML (md_old a k)) (h1 : a 1 = t) {k : Int} (hk : 0 ≤ k ∧ k ≤ 7) (x : Int) : RQ (cpd1 lt (k + 1) f) (md_pk c 1 k (a, x)).1 := by
  have hh : rw_holds f (k + 1) ↔ md_stands a k := by
    have := h.holds hv (n := k + 1)
    rw [show k + 1 - 1 = k by omega] at this
    exact this
  unfold cpd1 md_pk
  by_cases q : md_stands a k
  · have ho := h.aged hv q
    have hv2 := hvo k hk
    have e1 : md_old a k 1 = a 1 := by unfold md_old; rw [up_n (by omega), up_n (by omega)]
    have e := hl _ _ (k + 1) ho.bare hv2.1 hv2.2 (by rw [e1]; exact h1) (by omega)
    rw [e1, show k + 1 - 1 = k by omega] at e
    have hso : md_stands (md_old a k) k := ⟨hk, by unfold md_old; rw [up_n (by omega), up_n (by omega)]; exact q.2⟩
    rw [if_pos (hh.mpr q), if_pos q, e, ← h.2.2.1]
    by_cases z : a 5 % 10 < md_tir (md_old a k) c (a 1) k
    · rw [if_pos z, if_pos z]
      exact ho.depart hv2.1 hso (by omega)
    · rw [if_neg z, if_neg z]
      exact ho
  · rw [if_neg (fun z => q (hh.mp z)), if_neg q]
    exact h
theorem RQ.pks {c : Int → Int} {lt : Option (List Int)} {t : Int} (hl : LWt c t lt) : ∀ (m : Nat) (k : Int) (f a : Int → Int) (x : Int), RQ f a → MV a → ML a → a 1 = t → k + m = 8 → 0 ≤ k → RQ (lpF (cpd1 lt) m (k + 1) f) (lpF (md_pk c 1) m k (a, x)).1 := by
  intro m
  induction m with
  | zero => intro k f a x h _ _ _ _ _; exact h
  | succ m ih =>
    intro k f a x h hv hm h1 hk h0
    have hp := md_pk_P (c := c) (b := 1) (k := k) (s := (a, x)) (by omega) hv hm
    have hr := h.pk hl hv hm (fun k hk => ⟨md_old_V hv hk, md_old_L hm hk⟩) h1 (k := k) (by omega) x
    show RQ (lpF (cpd1 lt) m (k + 1 + 1) (cpd1 lt (k + 1) f)) (lpF (md_pk c 1) m (k + 1) (md_pk c 1 k (a, x))).1
    rw [show md_pk c 1 k (a, x) = ((md_pk c 1 k (a, x)).1, (md_pk c 1 k (a, x)).2) from rfl]
    exact ih (k + 1) _ _ _ hr hp.1 hp.2.1 (hp.2.2.2.1.trans h1) (by omega) (by omega)
theorem RQ.pass {f a c : Int → Int} {lt : Option (List Int)} {t : Int} (hl : LWt c t lt) (h : RQ f a) (hv : MV a) (hm : ML a) (h1 : a 1 = t) (x : Int) : RQ (cpd lt f) (md_pass c 1 (a, x)).1 := by
  have hr := RQ.pks hl 8 0 f a x h hv hm h1 rfl (by omega)
  have e := hr.2.1
  show RQ (up (lpF (cpd1 lt) 8 1 f) 1 (lpF (cpd1 lt) 8 1 f 1 + 1)) (up (lpF (md_pk c 1) 8 0 (a, x)).1 4 ((lpF (md_pk c 1) 8 0 (a, x)).1 4 + 1))
  have hr2 : RQ (lpF (cpd1 lt) 8 1 f) (lpF (md_pk c 1) 8 0 (a, x)).1 := hr
  have e2 : (lpF (md_pk c 1) 8 0 (a, x)).1 4 = lpF (cpd1 lt) 8 1 f 1 := e
  rw [e2]
  exact hr2.set (Or.inr (Or.inl ⟨rfl, rfl⟩)) _
