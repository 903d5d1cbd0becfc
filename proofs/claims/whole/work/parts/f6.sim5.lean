/-! ===== all move at once, side by side ===== -/
def mdG (φ ψ : Int → Int → Int) (k : Int) (a : Int → Int) : Int → Int := if md_stands a k then up (up a (8 + k) (φ (a (8 + k)) (a (16 + k)))) (16 + k) (ψ (a (8 + k)) (a (16 + k))) else a
def rwG (φ ψ : Int → Int → Int) (n : Int) (f : Int → Int) : Int → Int := if rw_holds f n then up (up f (5 + n) (φ (f (5 + n)) (f (13 + n)))) (13 + n) (ψ (f (5 + n)) (f (13 + n))) else f
theorem mdG_at {φ ψ : Int → Int → Int} : ∀ (m : Nat) (k : Int) (a : Int → Int), k + m = 8 → 0 ≤ k → (∀ i, 0 ≤ i ∧ i ≤ 7 → (lpF (mdG φ ψ) m k a (8 + i) = if k ≤ i ∧ md_stands a i then φ (a (8 + i)) (a (16 + i)) else a (8 + i)) ∧ (lpF (mdG φ ψ) m k a (16 + i) = if k ≤ i ∧ md_stands a i then ψ (a (8 + i)) (a (16 + i)) else a (16 + i))) ∧ ∀ j, ¬ (8 ≤ j ∧ j < 24) → lpF (mdG φ ψ) m k a j = a j := by
  intro m
  induction m with
  | zero =>
    intro k a hk h0
    refine ⟨fun i hi => ?_, fun j _ => rfl⟩
    rw [if_neg (fun z => by omega), if_neg (fun z => by omega)]
    exact ⟨rfl, rfl⟩
  | succ m ih =>
    intro k a hk h0
    show (∀ i, 0 ≤ i ∧ i ≤ 7 → (lpF (mdG φ ψ) m (k + 1) (mdG φ ψ k a) (8 + i) = _) ∧ (lpF (mdG φ ψ) m (k + 1) (mdG φ ψ k a) (16 + i) = _)) ∧ ∀ j, ¬ (8 ≤ j ∧ j < 24) → lpF (mdG φ ψ) m (k + 1) (mdG φ ψ k a) j = a j
    obtain ⟨i1, i2⟩ := ih (k + 1) (mdG φ ψ k a) (by omega) (by omega)
    have g : ∀ j, ¬ j = 8 + k → ¬ j = 16 + k → mdG φ ψ k a j = a j := fun j u v => by
      unfold mdG
      split
      · rw [up_n v, up_n u]
      · rfl
    refine ⟨fun i hi => ?_, fun j hj => by rw [i2 j hj]; exact g j (by omega) (by omega)⟩
    obtain ⟨e1, e2⟩ := i1 i hi
    by_cases e : i = k
    · subst e
      refine ⟨e1.trans ((if_neg (fun z => absurd z.1 (by omega))).trans ?_), e2.trans ((if_neg (fun z => absurd z.1 (by omega))).trans ?_)⟩
      · unfold mdG
        by_cases q : md_stands a i
        · rw [if_pos q, up_n (by omega), up_s, if_pos (show i ≤ i ∧ md_stands a i from ⟨Int.le_refl _, q⟩)]
        · rw [if_neg q, if_neg (show ¬ (i ≤ i ∧ md_stands a i) from fun z => q z.2)]
      · unfold mdG
        by_cases q : md_stands a i
        · rw [if_pos q, up_s, if_pos (show i ≤ i ∧ md_stands a i from ⟨Int.le_refl _, q⟩)]
        · rw [if_neg q, if_neg (show ¬ (i ≤ i ∧ md_stands a i) from fun z => q z.2)]
    · have hs : md_stands (mdG φ ψ k a) i ↔ md_stands a i := by
        constructor
        · rintro ⟨u, v⟩; rw [g (8 + i) (by omega) (by omega)] at v; exact ⟨u, v⟩
        · rintro ⟨u, v⟩; exact ⟨u, by rw [g (8 + i) (by omega) (by omega)]; exact v⟩
      by_cases q : k ≤ i ∧ md_stands a i
      · refine ⟨e1.trans ((if_pos ⟨by omega, hs.mpr q.2⟩).trans ?_), e2.trans ((if_pos ⟨by omega, hs.mpr q.2⟩).trans ?_)⟩
        · rw [if_pos q, g (8 + i) (by omega) (by omega), g (16 + i) (by omega) (by omega)]
        · rw [if_pos q, g (8 + i) (by omega) (by omega), g (16 + i) (by omega) (by omega)]
      · refine ⟨e1.trans ((if_neg (fun z => q ⟨by omega, hs.mp z.2⟩)).trans ?_), e2.trans ((if_neg (fun z => q ⟨by omega, hs.mp z.2⟩)).trans ?_)⟩
        · rw [if_neg q, g (8 + i) (by omega) (by omega)]
        · rw [if_neg q, g (16 + i) (by omega) (by omega)]
theorem rwG_at {φ ψ : Int → Int → Int} : ∀ (m : Nat) (k : Int) (f : Int → Int), k + m = 9 → 1 ≤ k → (∀ i, 1 ≤ i ∧ i ≤ 8 → (lpF (rwG φ ψ) m k f (5 + i) = if k ≤ i ∧ rw_holds f i then φ (f (5 + i)) (f (13 + i)) else f (5 + i)) ∧ (lpF (rwG φ ψ) m k f (13 + i) = if k ≤ i ∧ rw_holds f i then ψ (f (5 + i)) (f (13 + i)) else f (13 + i))) ∧ ∀ j, ¬ (6 ≤ j ∧ j < 22) → lpF (rwG φ ψ) m k f j = f j := by
  intro m
  induction m with
  | zero =>
    intro k f hk h0
    refine ⟨fun i hi => ?_, fun j _ => rfl⟩
    rw [if_neg (fun z => by omega), if_neg (fun z => by omega)]
    exact ⟨rfl, rfl⟩
  | succ m ih =>
    intro k f hk h0
    show (∀ i, 1 ≤ i ∧ i ≤ 8 → (lpF (rwG φ ψ) m (k + 1) (rwG φ ψ k f) (5 + i) = _) ∧ (lpF (rwG φ ψ) m (k + 1) (rwG φ ψ k f) (13 + i) = _)) ∧ ∀ j, ¬ (6 ≤ j ∧ j < 22) → lpF (rwG φ ψ) m (k + 1) (rwG φ ψ k f) j = f j
    obtain ⟨i1, i2⟩ := ih (k + 1) (rwG φ ψ k f) (by omega) (by omega)
    have g : ∀ j, ¬ j = 5 + k → ¬ j = 13 + k → rwG φ ψ k f j = f j := fun j u v => by
      unfold rwG
      split
      · rw [up_n v, up_n u]
      · rfl
    refine ⟨fun i hi => ?_, fun j hj => by rw [i2 j hj]; exact g j (by omega) (by omega)⟩
    obtain ⟨e1, e2⟩ := i1 i hi
    by_cases e : i = k
    · subst e
      refine ⟨e1.trans ((if_neg (fun z => absurd z.1 (by omega))).trans ?_), e2.trans ((if_neg (fun z => absurd z.1 (by omega))).trans ?_)⟩
      · unfold rwG
        by_cases q : rw_holds f i
        · rw [if_pos q, up_n (by omega), up_s, if_pos (show i ≤ i ∧ rw_holds f i from ⟨Int.le_refl _, q⟩)]
        · rw [if_neg q, if_neg (show ¬ (i ≤ i ∧ rw_holds f i) from fun z => q z.2)]
      · unfold rwG
        by_cases q : rw_holds f i
        · rw [if_pos q, up_s, if_pos (show i ≤ i ∧ rw_holds f i from ⟨Int.le_refl _, q⟩)]
        · rw [if_neg q, if_neg (show ¬ (i ≤ i ∧ rw_holds f i) from fun z => q z.2)]
    · have hs : rw_holds (rwG φ ψ k f) i ↔ rw_holds f i := by
        constructor
        · rintro ⟨u, v⟩; rw [g (5 + i) (by omega) (by omega)] at v; exact ⟨u, v⟩
        · rintro ⟨u, v⟩; exact ⟨u, by rw [g (5 + i) (by omega) (by omega)]; exact v⟩
      by_cases q : k ≤ i ∧ rw_holds f i
      · refine ⟨e1.trans ((if_pos ⟨by omega, hs.mpr q.2⟩).trans ?_), e2.trans ((if_pos ⟨by omega, hs.mpr q.2⟩).trans ?_)⟩
        · rw [if_pos q, g (5 + i) (by omega) (by omega), g (13 + i) (by omega) (by omega)]
        · rw [if_pos q, g (5 + i) (by omega) (by omega), g (13 + i) (by omega) (by omega)]
      · refine ⟨e1.trans ((if_neg (fun z => q ⟨by omega, hs.mp z.2⟩)).trans ?_), e2.trans ((if_neg (fun z => q ⟨by omega, hs.mp z.2⟩)).trans ?_)⟩
        · rw [if_neg q, g (5 + i) (by omega) (by omega)]
        · rw [if_neg q, g (13 + i) (by omega) (by omega)]
