/-! ===== where one may stand, side by side, the laws being alike ===== -/
def LWb (c : Int → Int) (t : Int) (lb : Option (List Int)) : Prop := ∀ (f a : Int → Int) (n : Int), RQ f a → MV a → ML a → a 1 = t → (1 ≤ n ∧ n ≤ 8) → cbt f n lb = md_btw a c (a 1) (n - 1)
def LWt (c : Int → Int) (t : Int) (lt : Option (List Int)) : Prop := ∀ (f a : Int → Int) (n : Int), RQ (up f 5 0) (up a 6 0) → MV a → ML a → a 1 = t → (1 ≤ n ∧ n ≤ 8) → cti f n lt = md_tir a c (a 1) (n - 1)
theorem ban_two {x p z : Int} (hp : 0 ≤ p) (hz : 0 ≤ z) : ban x (bor (bsh p) (bsh z)) = 0 ↔ (¬ bt x p.toNat ∧ ¬ bt x z.toNat) := by
  constructor
  · intro e
    have key : ∀ q : Int, 0 ≤ q → (q = p ∨ q = z) → ¬ bt x q.toNat := fun q hq hqq hb => by
      have := bt_ban (a := x) (b := bor (bsh p) (bsh z)) (i := q.toNat)
      rw [e, bt_bor, bt_bsh hp, bt_bsh hz] at this
      exact bt_0 _ (this.mpr ⟨hb, by omega⟩)
    exact ⟨key p hp (Or.inl rfl), key z hz (Or.inr rfl)⟩
  · rintro ⟨h1, h2⟩
    refine bt_ext (Int.natCast_nonneg _) (by omega) (fun i => ?_)
    rw [bt_ban, bt_bor, bt_bsh hp, bt_bsh hz]
    constructor
    · rintro ⟨h3, h4 | h4⟩
      · exact absurd (by rw [show p.toNat = i by omega]; exact h3) h1
      · exact absurd (by rw [show z.toNat = i by omega]; exact h3) h2
    · intro h; exact absurd h (bt_0 i)
theorem RQ.sec {f a c : Int → Int} {lb : Option (List Int)} {t : Int} (hl : LWb c t lb) (h : RQ f a) (hv : MV a) (hm : ML a) (h1 : a 1 = t) (n p : Int) : csp f n p lb = md_sec a c (n - 1) p := by
  have b7 : 1 ≤ a 7 ∧ a 7 ≤ 16 := hv.2.2.2.2.2.2.2.2.1
  have ht := md_taken_B hv
  by_cases hn : 1 ≤ n ∧ n ≤ 8
  · have e := hl f a n h hv hm h1 hn
    have hb := md_btw_B (a := a) (c := c) (q := a 1) (k := n - 1) (by omega)
    unfold csp md_sec md_sc2
    rw [e, ← h.1, h.2.2.2.2.2.2.1]
    generalize md_btw a c (a 1) (n - 1) = w at hb ⊢
    have hhold : rw_holds f n ↔ ¬ a (8 + (n - 1)) = -1 := by rw [h.holds hv]; exact ⟨fun q => q.2, fun q => ⟨by omega, q⟩⟩
    by_cases hp : 0 ≤ p
    · have h2 := ban_two (x := md_taken a) hp (show 0 ≤ p + w + 1 by omega)
      have h3 := bt_has (s := md_taken a) (k := p) ht.1
      have h4 := bt_has (s := md_taken a) (k := p + w + 1) ht.1
      by_cases q : ((1 ≤ n ∧ n ≤ 8) ∧ ¬ rw_holds f n ∧ (0 ≤ p ∧ p < a 7)) ∧ (p + w + 1 < a 7 ∧ ban (md_taken a) (bor (bsh p) (bsh (p + w + 1))) = 0)
      · have q2 := h2.mp q.2.2
        rw [if_pos q, if_pos ⟨by omega, Classical.byContradiction (fun z => q.1.2.1 (hhold.mpr z)), by omega⟩, if_pos ⟨q.2.1, fun z => q2.1 (h3.mp z), fun z => q2.2 (h4.mp z)⟩]
      · rw [if_neg q]
        by_cases r : (0 ≤ n - 1 ∧ n - 1 ≤ 7) ∧ a (8 + (n - 1)) = -1 ∧ (0 ≤ p ∧ p ≤ 15)
        · rw [if_pos r, if_neg (fun z => q ⟨⟨hn, fun y => hhold.mp y r.2.1, by omega⟩, z.1, h2.mpr ⟨fun y => z.2.1 (h3.mpr y), fun y => z.2.2 (h4.mpr y)⟩⟩)]
        · rw [if_neg r]
    · rw [if_neg (fun q => by omega), if_neg (fun q => by omega)]
  · unfold csp md_sec
    rw [if_neg (fun q => hn q.1.1), if_neg (fun q => by omega)]
theorem up_self (a : Int → Int) (i : Int) : up a i (a i) = a := by
  funext j
  by_cases e : j = i
  · rw [e, up_s]
  · rw [up_n e]
theorem RQ.aged {f a : Int → Int} (h : RQ f a) (hv : MV a) {k : Int} (hs : md_stands a k) : RQ (cgA f (k + 1)) (md_old a k) := by
  have hk := hs.1
  have hA := h.at hk
  have hb := (hv.at hk).2.2.2
  have b5 : 0 ≤ a 5 ∧ a 5 < 31019 := hv.2.2.2.2.2.2.1
  have e5 : (f 2 * 701 + 571).tmod 31019 = md_nx (a 5) := by
    unfold md_nx
    rw [← h.2.2.1, Int.tmod_eq_emod_of_nonneg (by omega)]
  have hh : rw_holds f (k + 1) := (h.holds hv).mpr (by rw [show k + 1 - 1 = k by omega]; exact hs)
  unfold cgA md_old
  rw [e5]
  refine RQ.set ?_ (Or.inr (Or.inr ⟨rfl, rfl⟩)) _
  unfold rw_age
  rw [show 21 + (k + 1) = 22 + k by omega, ← hA.2.2]
  by_cases q : a (24 + k) < 99
  · rw [if_pos ⟨hh, q⟩, show heldI (a (24 + k) + 1) 0 99 = a (24 + k) + 1 from by unfold heldI; rw [if_neg (by omega), if_neg (by omega)]]
    exact h.older hs _
  · rw [if_neg (fun z => q z.2), show heldI (a (24 + k) + 1) 0 99 = a (24 + k) from by unfold heldI; rw [if_neg (by omega), if_pos (by omega)]; omega, up_self]
    exact h
