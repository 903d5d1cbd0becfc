/-! ===== the two rows side by side ===== -/
theorem bt_ext {x y : Int} (hx : 0 ≤ x) (hy : 0 ≤ y) (h : ∀ i, bt x i ↔ bt y i) : x = y := by
  have := bit_ext (a := x.toNat) (b := y.toNat) h
  omega
theorem bt_lt {x : Int} {n i : Nat} (h : x < 2 ^ n) (hi : n ≤ i) : ¬ bt x i := by
  have h1 : x.toNat < 2 ^ n := by
    have : ((2 ^ n : Nat) : Int) = 2 ^ n := by rw [Int.natCast_pow]; rfl
    have := Nat.two_pow_pos n
    omega
  exact bit_out h1 hi
theorem bt_taken {a : Int → Int} (hv : MV a) {i : Nat} : bt (md_taken a) i ↔ ∃ k : Int, md_stands a k ∧ (a (8 + k) = i ∨ a (16 + k) = i) := by
  have h := bt_lpF (f := fun k => if md_stands a k then md_pl a k else 0) (i := i) 8 0 0
  have e : md_taken a = lpF (fun k acc => bor acc ((fun k => if md_stands a k then md_pl a k else 0) k)) 8 0 0 := rfl
  have hpl : ∀ k, md_stands a k → (bt (md_pl a k) i ↔ (a (8 + k) = i ∨ a (16 + k) = i)) := fun k hs => by
    have h1 := hv.at hs.1
    have h2 : 0 ≤ a (8 + k) := by have := hs.2; omega
    unfold md_pl
    rw [bt_bor, bt_bsh h2, bt_bsh (by have := h1.2.2.1 h2; omega)]
  rw [e, h]
  constructor
  · rintro (h | ⟨j, h1, h2, h3⟩)
    · exact absurd h (bt_0 i)
    · by_cases hs : md_stands a j
      · rw [if_pos hs] at h3
        exact ⟨j, hs, (hpl j hs).mp h3⟩
      · rw [if_neg hs] at h3
        exact absurd h3 (bt_0 i)
  · rintro ⟨k, hs, h1⟩
    refine Or.inr ⟨k, hs.1.1, by have := hs.1.2; omega, ?_⟩
    rw [if_pos hs]
    exact (hpl k hs).mpr h1
theorem bt_pls {a : Int → Int} {st : Int} (h0 : 0 ≤ st) {i : Nat} : bt (md_pls a st) i ↔ ∃ k : Int, (0 ≤ k ∧ k ≤ 7) ∧ bt st k.toNat ∧ bt (md_pl a k) i := by
  have h := bt_lpF (f := fun k : Int => if st / 2 ^ k.toNat % 2 = 1 then md_pl a k else 0) (i := i) 8 0 0
  have e : md_pls a st = lpF (fun k acc => bor acc ((fun k : Int => if st / 2 ^ k.toNat % 2 = 1 then md_pl a k else 0) k)) 8 0 0 := rfl
  rw [e, h]
  constructor
  · rintro (h | ⟨j, h1, h2, h3⟩)
    · exact absurd h (bt_0 i)
    · by_cases hs : st / 2 ^ j.toNat % 2 = 1
      · rw [if_pos hs] at h3
        exact ⟨j, by omega, (bt_has h0).mp hs, h3⟩
      · rw [if_neg hs] at h3
        exact absurd h3 (bt_0 i)
  · rintro ⟨k, hk, h1, h2⟩
    refine Or.inr ⟨k, by omega, by omega, ?_⟩
    rw [if_pos ((bt_has h0).mpr h1)]
    exact h2
theorem CMP_of {n u : Int} (hn : 0 ≤ n) (hu : 0 ≤ u) : CMP n.toNat u.toNat (bdf (bsh n - 1) u).toNat := by
  intro i
  unfold bdf bsh
  rw [Int.toNat_natCast, nd_bit]
  have e : (((2 ^ n.toNat : Nat) : Int) - 1).toNat = 2 ^ n.toNat - 1 := by omega
  rw [e, Nat.testBit_two_pow_sub_one]
/-- a line of the book, on both sides -/
def LNq (x y : Int) : Prop := ∃ d n k p : Int, (0 ≤ d ∧ d ≤ 9999) ∧ (1 ≤ n ∧ n ≤ 8) ∧ (0 ≤ k ∧ k ≤ 2) ∧ (0 ≤ p ∧ p ≤ 15) ∧ x = d * 1024 + n * 64 + k * 16 + p ∧ y = ((d * 9 + n) * 3 + k) * 16 + p
/-- no two stand in one place -/
def DJ (a : Int → Int) : Prop := ∀ k l : Int, md_stands a k → md_stands a l → ¬ k = l → ¬ a (8 + k) = a (8 + l) ∧ ¬ a (8 + k) = a (16 + l) ∧ ¬ a (16 + k) = a (16 + l)
/-- the class's row f and the reference's a -/
def RQ (f a : Int → Int) : Prop := a 7 = f 0 ∧ a 4 = f 1 ∧ a 5 = f 2 ∧ a 6 = f 5 ∧ (∀ k, 0 ≤ k ∧ k ≤ 7 → a (8 + k) = f (6 + k) ∧ a (16 + k) = f (14 + k) ∧ a (24 + k) = f (22 + k)) ∧ f 3 = md_standing a ∧ f 4 = md_taken a ∧ (∀ q, 0 ≤ q ∧ q < f 5 → LNq (f (30 + q)) (a (1638 + q))) ∧ DJ a ∧ ∀ k, 0 ≤ k ∧ k ≤ 7 → ¬ md_stands a k → a (24 + k) = 0
theorem RQ.at {f a : Int → Int} (h : RQ f a) {k : Int} (hk : 0 ≤ k ∧ k ≤ 7) : a (8 + k) = f (6 + k) ∧ a (16 + k) = f (14 + k) ∧ a (24 + k) = f (22 + k) := h.2.2.2.2.1 k hk
theorem RQ.n {f a : Int → Int} (h : RQ f a) {n : Int} (hn : 1 ≤ n ∧ n ≤ 8) : f (5 + n) = a (8 + (n - 1)) ∧ f (13 + n) = a (16 + (n - 1)) ∧ f (21 + n) = a (24 + (n - 1)) := by
  have := h.at (k := n - 1) (by omega)
  rw [show 6 + (n - 1) = 5 + n by omega, show 14 + (n - 1) = 13 + n by omega, show 22 + (n - 1) = 21 + n by omega] at this
  exact ⟨this.1.symm, this.2.1.symm, this.2.2.symm⟩
theorem RQ.holds {f a : Int → Int} (h : RQ f a) (hv : MV a) {n : Int} : rw_holds f n ↔ md_stands a (n - 1) := by
  constructor
  · rintro ⟨h1, h2⟩
    have := h.n h1
    exact ⟨by omega, by omega⟩
  · rintro ⟨h1, h2⟩
    have h3 := h.n (n := n) (by omega)
    have h4 := hv.at h1
    exact ⟨by omega, by omega⟩
theorem RQ.pair {f a : Int → Int} (h : RQ f a) (hv : MV a) {n : Int} : rw_pair f n = if md_stands a (n - 1) then md_pl a (n - 1) else 0 := by
  unfold rw_pair
  by_cases q : rw_holds f n
  · have h3 := h.n q.1
    rw [if_pos q, if_pos ((h.holds hv).mp q), h3.1, h3.2.1]
    rfl
  · rw [if_neg q, if_neg (fun z => q ((h.holds hv).mpr z))]
theorem bt_rwpl {f : Int → Int} {s : Int} {i : Nat} : bt (rw_places f s) i ↔ ∃ n : Int, (1 ≤ n ∧ n ≤ 8) ∧ bt s (n - 1).toNat ∧ bt (rw_pair f n) i := by
  have key : ∀ (m : Nat) (k acc : Int), 1 ≤ k → (bt (lpF (rw_plg f s) m k acc) i ↔ bt acc i ∨ ∃ n : Int, (k ≤ n ∧ n < k + m) ∧ bt s (n - 1).toNat ∧ bt (rw_pair f n) i) := by
    intro m
    induction m with
    | zero =>
      intro k acc _
      show bt acc i ↔ _
      constructor
      · exact Or.inl
      · rintro (h | ⟨n, h1, _⟩)
        · exact h
        · omega
    | succ m ih =>
      intro k acc hk
      show bt (lpF (rw_plg f s) m (k + 1) (rw_plg f s k acc)) i ↔ _
      rw [ih (k + 1) _ (by omega)]
      have hb : bt (rw_plg f s k acc) i ↔ bt acc i ∨ (bt s (k - 1).toNat ∧ bt (rw_pair f k) i) := by
        unfold rw_plg
        have hz : ban s (bsh (k - 1)) = 0 ↔ ¬ bt s (k - 1).toNat := by
          constructor
          · intro e hs
            have := bt_ban (a := s) (b := bsh (k - 1)) (i := (k - 1).toNat)
            rw [e] at this
            exact bt_0 _ (this.mpr ⟨hs, (bt_bsh (by omega)).mpr (by omega)⟩)
          · intro hs
            refine bt_ext (Int.natCast_nonneg _) (by omega) (fun j => ?_)
            rw [bt_ban, bt_bsh (by omega)]
            constructor
            · rintro ⟨h1, h2⟩
              exact absurd (by rw [show (k - 1).toNat = j by omega]; exact h1) hs
            · intro h; exact absurd h (bt_0 j)
        by_cases q : ban s (bsh (k - 1)) = 0
        · rw [if_pos q]
          exact ⟨Or.inl, fun z => z.elim id (fun z => absurd z.1 (hz.mp q))⟩
        · rw [if_neg q, bt_bor]
          have hs : bt s (k - 1).toNat := Classical.byContradiction (fun z => q (hz.mpr z))
          exact ⟨fun z => z.elim Or.inl (fun z => Or.inr ⟨hs, z⟩), fun z => z.elim Or.inl (fun z => Or.inr z.2)⟩
      rw [hb]
      constructor
      · rintro ((h | ⟨h1, h2⟩) | ⟨n, h1, h2⟩)
        · exact Or.inl h
        · exact Or.inr ⟨k, by omega, h1, h2⟩
        · exact Or.inr ⟨n, by omega, h2⟩
      · rintro (h | ⟨n, h1, h2⟩)
        · exact Or.inl (Or.inl h)
        · by_cases e : n = k
          · subst e; exact Or.inl (Or.inr h2)
          · exact Or.inr ⟨n, by omega, h2⟩
  unfold rw_places
  rw [key 8 1 0 (by omega)]
  constructor
  · rintro (h | ⟨n, h1, h2⟩)
    · exact absurd h (bt_0 i)
    · exact ⟨n, by omega, h2⟩
  · rintro ⟨n, h1, h2⟩
    exact Or.inr ⟨n, by omega, h2⟩
theorem rw_places_nn (f : Int → Int) (s : Int) : 0 ≤ rw_places f s := by
  have : ∀ (m : Nat) (k acc : Int), 0 ≤ acc → 0 ≤ lpF (rw_plg f s) m k acc := by
    intro m
    induction m with
    | zero => intro k acc h; exact h
    | succ m ih =>
      intro k acc h
      refine ih (k + 1) _ ?_
      unfold rw_plg
      split
      · exact h
      · exact bor_nn _ _
  exact this 8 1 0 (by omega)
/-- the places of some who stand -/
theorem RQ.places {f a : Int → Int} (h : RQ f a) (hv : MV a) {s : Int} (h0 : 0 ≤ s) (hs : ∀ k : Int, 0 ≤ k ∧ k ≤ 7 → bt s k.toNat → md_stands a k) : rw_places f s = md_pls a s := by
  refine bt_ext (rw_places_nn _ _) ?_ (fun i => ?_)
  · have : ∀ (m : Nat) (k acc : Int), 0 ≤ acc → 0 ≤ lpF (md_plg a s) m k acc := by
      intro m
      induction m with
      | zero => intro k acc h; exact h
      | succ m ih => intro k acc h; exact ih (k + 1) _ (bor_nn _ _)
    exact this 8 0 0 (by omega)
  · rw [bt_rwpl, bt_pls h0]
    constructor
    · rintro ⟨n, h1, h2, h3⟩
      have hst := hs (n - 1) (by omega) h2
      rw [h.pair hv, if_pos hst] at h3
      exact ⟨n - 1, by omega, h2, h3⟩
    · rintro ⟨k, h1, h2, h3⟩
      refine ⟨k + 1, by omega, by rw [show k + 1 - 1 = k by omega]; exact h2, ?_⟩
      rw [h.pair hv, show k + 1 - 1 = k by omega, if_pos (hs k h1 h2)]
      exact h3
theorem RQ.places_all {f a : Int → Int} (h : RQ f a) (hv : MV a) : rw_places f 255 = md_taken a := by
  refine bt_ext (rw_places_nn _ _) (md_taken_B hv).1 (fun i => ?_)
  rw [bt_rwpl, bt_taken hv]
  have hpl : ∀ k, md_stands a k → (bt (md_pl a k) i ↔ (a (8 + k) = i ∨ a (16 + k) = i)) := fun k hs => by
    have h1 := hv.at hs.1
    have h2 : 0 ≤ a (8 + k) := by have := hs.2; omega
    unfold md_pl
    rw [bt_bor, bt_bsh h2, bt_bsh (by have := h1.2.2.1 h2; omega)]
  constructor
  · rintro ⟨n, h1, _, h3⟩
    rw [h.pair hv] at h3
    by_cases q : md_stands a (n - 1)
    · rw [if_pos q] at h3; exact ⟨n - 1, q, (hpl _ q).mp h3⟩
    · rw [if_neg q] at h3; exact absurd h3 (bt_0 i)
  · rintro ⟨k, hs, h1⟩
    refine ⟨k + 1, by have := hs.1; omega, ?_, ?_⟩
    · show (255 : Int).toNat.testBit (k + 1 - 1).toNat = true
      rw [show (255 : Int).toNat = 2 ^ 8 - 1 from rfl, Nat.testBit_two_pow_sub_one, decide_eq_true_iff]
      have := hs.1; omega
    · rw [h.pair hv, show k + 1 - 1 = k by omega, if_pos hs]
      exact (hpl k hs).mpr h1
theorem RQ.cmp {f a : Int → Int} (h : RQ f a) (hv : MV a) : CMP (a 7).toNat (md_taken a).toNat (vcn f) := by
  unfold vcn
  rw [← h.1, h.2.2.2.2.2.2.1]
  have := hv.2.2.2.2.2.2.2.2.1
  exact CMP_of (by omega) (md_taken_B hv).1
