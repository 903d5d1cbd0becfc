/-! ===== fill, alike on both sides ===== -/
theorem bit_div (n k : Nat) : (n : Int) / 2 ^ k % 2 = 1 ↔ n.testBit k = true := by
  rw [Nat.testBit_eq_decide_div_mod_eq, decide_eq_true_iff]
  have e : (n : Int) / 2 ^ k % 2 = ((n / 2 ^ k % 2 : Nat) : Int) := by
    rw [Int.natCast_emod, Int.natCast_ediv, Int.natCast_pow]; rfl
  rw [e]
  omega
theorem lowF_at {n p0 : Nat} (h1 : n.testBit p0 = true) (h2 : ∀ q, q < p0 → ¬ n.testBit q = true) : ∀ (m p : Nat), p ≤ p0 → p0 < p + m → lowF (n : Int) m (p : Int) = (p0 : Int) := by
  intro m
  induction m with
  | zero => intro p a b; omega
  | succ m ih =>
    intro p a b
    rw [lowF, Int.toNat_natCast]
    by_cases e : p = p0
    · rw [if_pos ((bit_div n p).mpr (by rw [e]; exact h1)), e]
    · rw [if_neg (fun q => h2 p (by omega) ((bit_div n p).mp q))]
      exact ih (p + 1) (by omega) (by omega)
theorem lowF_pm {d p : Nat} (hd : 1 ≤ d) (hp : p < 16) : lowF ((pm d p : Nat) : Int) 31 0 = (p : Int) :=
  lowF_at (pm_bit.mpr (Or.inl rfl)) (fun q hq z => by have := pm_bit.mp z; omega) 31 0 (by omega) (by omega)
theorem flat_first {β : Type} {F : Nat → List β} {d : β} {p0 : Nat} (hp : ¬ F p0 = []) : ∀ l : List Nat, l.Pairwise (· < ·) → p0 ∈ l → (∀ x, x ∈ l → x < p0 → F x = []) → (l.flatMap F).headD d = (F p0).headD d := by
  intro l
  induction l with
  | nil => intro _ h; exact absurd h (by simp)
  | cons x l ih =>
    intro hl h hx
    rw [List.flatMap_cons]
    have h1 := List.pairwise_cons.mp hl
    by_cases e : x = p0
    · subst e
      cases hF : F x with
      | nil => exact absurd hF hp
      | cons z zs => rfl
    · have hm : p0 ∈ l := by
        rcases List.mem_cons.mp h with q | q
        · exact absurd q.symm e
        · exact q
      rw [hx x List.mem_cons_self (h1.1 p0 hm), List.nil_append]
      exact ih h1.2 hm (fun z hz => hx z (List.mem_cons_of_mem _ hz))
theorem memN_hd {s k : Nat} (hs : s.testBit k = true) (hl : ∀ j, j < k → ¬ s.testBit j = true) : ∀ n, k < n → memN s n = k :: memN (nd s (2 ^ k)) n := by
  intro n
  induction n with
  | zero => intro h; omega
  | succ n ih =>
    intro h
    rw [memN, memN, nd_bit, Nat.testBit_two_pow]
    by_cases e : k = n
    · subst e
      have h0 : memN s k = [] := by
        cases hm : memN s k with
        | nil => rfl
        | cons x l =>
          have hx : x ∈ memN s k := by rw [hm]; exact List.mem_cons_self
          have := (memN_mem k x).mp hx
          exact absurd this.2 (hl x this.1)
      have h1 : memN (nd s (2 ^ k)) k = [] := by
        cases hm : memN (nd s (2 ^ k)) k with
        | nil => rfl
        | cons x l =>
          have hx : x ∈ memN (nd s (2 ^ k)) k := by rw [hm]; exact List.mem_cons_self
          have := (memN_mem k x).mp hx
          exact absurd (nd_iff.mp this.2).1 (hl x this.1)
      rw [h0, h1, if_pos hs, hs]
      simp
    · rw [ih (by omega), show decide (k = n) = false from decide_eq_false e, Bool.not_false, Bool.and_true]
      rfl
theorem wy_head {a c b : Int → Int} (h : StE a c (fa b)) {s pl u fr : Nat} {n : Int} (hn : 1 ≤ n ∧ n ≤ 8) (hb : 1 ≤ fa b (n - 1).toNat) (hpl : pl ≤ 16) (hc : CMP pl u fr) (hs : s.testBit (n - 1).toNat = true) (hl : ∀ j, j < (n - 1).toNat → ¬ s.testBit j = true) (hne : ¬ cn (fa b) s fr = 0) : ∃ p : Nat, p < 16 ∧ lfo b s fr n = (p : Int) ∧ ¬ cn (fa b) (nd s (2 ^ (n - 1).toNat)) (nd fr (pm (fa b (n - 1).toNat) p)) = 0 ∧ (wy (opL a c s pl 2) u).headD [] = pm (fa b (n - 1).toNat) p :: (wy (opL a c (nd s (2 ^ (n - 1).toNat)) pl 2) (u ||| pm (fa b (n - 1).toNat) p)).headD [] := by
  have hk : (n - 1).toNat < 8 := by omega
  have hcn := cn_num (a := fa b) hk hs fr
  rcases lpR_cases (g := fun p => if fwv b s fr n p = 0 then none else some p) (d := (-1 : Int)) 16 0 with ⟨h1, h2⟩ | ⟨j, h1, h2, h3⟩
  · exfalso
    refine hne (hcn.trans (lsm_zero (fun p hp => ?_)))
    have hp := List.mem_range.mp hp
    have := h2 (p : Int) (by omega)
    by_cases z : fwv b s fr n (p : Int) = 0
    · have := fwv_0.mp z
      rw [Int.toNat_natCast] at this
      exact this
    · rw [if_neg z] at this; cases this
  · have h1 : 0 ≤ j ∧ j < 16 := by omega
    obtain ⟨p, rfl⟩ : ∃ p : Nat, j = p := ⟨j.toNat, by omega⟩
    have hz : ¬ fwv b s fr n (p : Int) = 0 := fun z => by rw [if_pos z] at h2; cases h2
    have hv : lfo b s fr n = (p : Int) := by
      rw [if_neg hz] at h2
      exact (Option.some.inj h2).symm
    have hcb : ∀ q : Nat, cbn (fa b) s fr (n - 1).toNat q = 0 ↔ fwv b s fr n (q : Int) = 0 := fun q => by rw [fwv_0, Int.toNat_natCast]
    have hp0 : ¬ cbn (fa b) s fr (n - 1).toNat p = 0 := fun z => hz ((hcb p).mp z)
    have hsb : sbs (pm (fa b (n - 1).toNat) p) fr = true := by
      by_cases z : sbs (pm (fa b (n - 1).toNat) p) fr = true
      · exact z
      · exact absurd (if_neg z) hp0
    have hc0 : ¬ cn (fa b) (nd s (2 ^ (n - 1).toNat)) (nd fr (pm (fa b (n - 1).toNat) p)) = 0 := fun z => hp0 ((if_pos hsb).trans z)
    refine ⟨p, by omega, hv, hc0, ?_⟩
    have em : mem s = (n - 1).toNat :: mem (nd s (2 ^ (n - 1).toNat)) := memN_hd hs hl 8 hk
    have e1 : opL a c s pl 2 = opl (fa b (n - 1).toNat) pl 2 :: opL a c (nd s (2 ^ (n - 1).toNat)) pl 2 := by
      unfold opL
      rw [em, List.map_cons, h _ hk]
    have hF : ∀ q : Nat, q + fa b (n - 1).toNat < pl → ((if opm (fa b (n - 1).toNat) 2 q &&& u = 0 then (wy (opL a c (nd s (2 ^ (n - 1).toNat)) pl 2) (u ||| opm (fa b (n - 1).toNat) 2 q)).map (opm (fa b (n - 1).toNat) 2 q :: ·) else []) = [] ↔ cbn (fa b) s fr (n - 1).toNat q = 0) := fun q hq => by
      have hlt : pm (fa b (n - 1).toNat) q < 2 ^ pl := by
        rw [← opm2]
        exact opm_lt2 (by decide) (by omega)
      rw [opm2]
      unfold cbn
      by_cases z : pm (fa b (n - 1).toNat) q &&& u = 0
      · rw [if_pos z, if_pos ((hc.sbs hlt).mp z), List.map_eq_nil_iff, nil_len, wy_cn h hpl hc.go]
      · rw [if_neg z, if_neg (fun k => z ((hc.sbs hlt).mpr k))]
        exact ⟨fun _ => rfl, fun _ => rfl⟩
    have hbit := sbs_pm.mp hsb
    have hpp : p + fa b (n - 1).toNat < pl := by
      rcases Nat.lt_or_ge (p + fa b (n - 1).toNat) pl with k | k
      · exact k
      · exact absurd hbit.2 (bit_out hc.lt k)
    rw [e1]
    show (((List.range (pl - (2 - 1) * fa b (n - 1).toNat)).map (opm (fa b (n - 1).toNat) 2)).flatMap fun m => if m &&& u = 0 then (wy (opL a c (nd s (2 ^ (n - 1).toNat)) pl 2) (u ||| m)).map (m :: ·) else []).headD [] = _
    rw [List.flatMap_map, flat_first (p0 := p) (fun k => hp0 ((hF p hpp).mp k)) _ List.pairwise_lt_range (List.mem_range.mpr (by omega)) (fun x hx hxp => by
      have hx := List.mem_range.mp hx
      refine (hF x (by omega)).mpr ((hcb x).mpr ?_)
      have := h3 (x : Int) (by omega)
      by_cases z : fwv b s fr n (x : Int) = 0
      · exact z
      · rw [if_neg z] at this; cases this)]
    have hz2 : pm (fa b (n - 1).toNat) p &&& u = 0 := (hc.sbs (by rw [← opm2]; exact opm_lt2 (by decide) (by omega))).mpr hsb
    rw [opm2, if_pos hz2]
    have hnn : ¬ wy (opL a c (nd s (2 ^ (n - 1).toNat)) pl 2) (u ||| pm (fa b (n - 1).toNat) p) = [] := by rw [nil_len, wy_cn h hpl hc.go]; exact hc0
    cases hw : wy (opL a c (nd s (2 ^ (n - 1).toNat)) pl 2) (u ||| pm (fa b (n - 1).toNat) p) with
    | nil => exact absurd hw hnn
    | cons w ws => rfl
theorem eq_lff {a c b : Int → Int} (h : StE a c (fa b)) (hb : ∀ k, k < 8 → 1 ≤ fa b k) {pl : Nat} (hpl : pl ≤ 16) {nb : Int} (hnb : nb ≤ 8) : ∀ (m : Nat) (n : Int) (s u fr : Nat), n + m = 9 → 1 ≤ n → CMP pl u fr → (∀ j, j < (n - 1).toNat → ¬ s.testBit j = true) → n ≤ nb → s.testBit (nb - 1).toNat = true → ¬ cn (fa b) s fr = 0 → lff b nb m n s fr = lowF ((((wy (opL a c s pl 2) u).headD []).getD (ixo (nb - 1).toNat (mem s)) 0 : Nat) : Int) 31 0 := by
  intro m
  induction m with
  | zero => intro n s u fr h1 h2 _ _ h3; omega
  | succ m ih =>
    intro n s u fr h1 h2 hc hl h3 hsb hne
    rw [lff]
    by_cases hs : s.testBit (n - 1).toNat = true
    · obtain ⟨p, hp, hv, hc0, hw⟩ := wy_head h (n := n) (by omega) (hb _ (by omega)) hpl hc hs hl hne
      have em : mem s = (n - 1).toNat :: mem (nd s (2 ^ (n - 1).toNat)) := memN_hd hs hl 8 (by omega)
      rw [if_pos hs, hv, hw, em]
      by_cases e : n = nb
      · rw [if_pos (Or.inr e), ixo, if_pos (by rw [e])]
        exact (lowF_pm (hb _ (by omega)) hp).symm
      · rw [if_neg (by omega), ixo, if_neg (by omega), Int.toNat_natCast]
        refine ih (n + 1) _ _ _ (by omega) (by omega) hc.go (fun j hj => ?_) (by omega) ?_ hc0
        · rw [nd_iff]
          intro q
          by_cases ej : j = (n - 1).toNat
          · exact q.2 (by rw [ej, Nat.testBit_two_pow, decide_eq_true_iff])
          · exact hl j (by omega) q.1
        · rw [nd_iff]
          exact ⟨hsb, by rw [Nat.testBit_two_pow, decide_eq_true_iff]; omega⟩
    · rw [if_neg hs]
      have e : ¬ n = nb := fun e => hs (by rw [e]; exact hsb)
      refine ih (n + 1) s u fr (by omega) (by omega) hc (fun j hj => ?_) (by omega) hsb hne
      by_cases ej : j = (n - 1).toNat
      · rw [ej]; exact hs
      · exact hl j (by omega)
