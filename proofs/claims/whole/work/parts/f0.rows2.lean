/-! ===== a row's places, alike on both sides ===== -/
theorem cn_few2 {b : Nat → Nat} (hb : ∀ k, k < 8 → 1 ≤ b k) {s fr : Nat} (hf : fr < 65536) (h : ¬ cn b s fr = 0) : 2 * (mem s).length ≤ pcn 16 fr := by
  have := wg_few (c := 2) (dsl b s) fr hf (fun os ho m hm hlt => by
    obtain ⟨d, h1, h2⟩ := dsl_mem hb ho
    rw [h2] at hm
    obtain ⟨p, _, h4⟩ := List.mem_map.mp hm
    rw [← h4] at hlt ⊢
    exact pm_pc h1 hlt) h
  rw [dsl_len] at this
  exact this
/-- what is left, from place pl - n on -/
def RW (_b : Nat → Nat) (s pl n : Nat) (gaps : Int) (used full s' fr : Nat) : Prop := (n ≤ pl) ∧ (pl ≤ 16) ∧ (∀ k, s'.testBit k = true ↔ (s.testBit k = true ∧ ¬ used.testBit k = true)) ∧ (∀ i, fr.testBit i = true ↔ ((pl - n ≤ i ∧ i < pl) ∧ ¬ full.testBit i = true)) ∧ (gaps = (pcn 16 fr : Int) - 2 * ((mem s').length : Int)) ∧ (0 ≤ gaps)
theorem RW.hn {b : Nat → Nat} {s pl n : Nat} {gaps : Int} {used full s' fr : Nat} (h : RW b s pl n gaps used full s' fr) : n ≤ pl := h.1
theorem RW.hp {b : Nat → Nat} {s pl n : Nat} {gaps : Int} {used full s' fr : Nat} (h : RW b s pl n gaps used full s' fr) : pl ≤ 16 := h.2.1
theorem RW.hs {b : Nat → Nat} {s pl n : Nat} {gaps : Int} {used full s' fr : Nat} (h : RW b s pl n gaps used full s' fr) : ∀ k, s'.testBit k = true ↔ (s.testBit k = true ∧ ¬ used.testBit k = true) := h.2.2.1
theorem RW.hf {b : Nat → Nat} {s pl n : Nat} {gaps : Int} {used full s' fr : Nat} (h : RW b s pl n gaps used full s' fr) : ∀ i, fr.testBit i = true ↔ ((pl - n ≤ i ∧ i < pl) ∧ ¬ full.testBit i = true) := h.2.2.2.1
theorem RW.hg {b : Nat → Nat} {s pl n : Nat} {gaps : Int} {used full s' fr : Nat} (h : RW b s pl n gaps used full s' fr) : gaps = (pcn 16 fr : Int) - 2 * ((mem s').length : Int) := h.2.2.2.2.1
theorem RW.h0 {b : Nat → Nat} {s pl n : Nat} {gaps : Int} {used full s' fr : Nat} (h : RW b s pl n gaps used full s' fr) : 0 ≤ gaps := h.2.2.2.2.2
theorem RW.lt {b : Nat → Nat} {s pl n : Nat} {gaps : Int} {used full s' fr : Nat} (h : RW b s pl n gaps used full s' fr) : fr < 65536 := by
  refine Nat.lt_pow_two_of_testBit fr (n := 16) (fun i hi => ?_)
  have := h.hp
  cases e : fr.testBit i with
  | false => rfl
  | true => have := (h.hf i).mp e; omega
theorem bit_ext {a b : Nat} (h : ∀ i, a.testBit i = true ↔ b.testBit i = true) : a = b := Nat.eq_of_testBit_eq (fun i => by rw [Bool.eq_iff_iff]; exact h i)
theorem RW.full {b : Nat → Nat} {s pl n : Nat} {gaps : Int} {used full s' fr : Nat} (h : RW b s pl (n + 1) gaps used full s' fr) (hb : full.testBit (pl - (n + 1)) = true) : RW b s pl n gaps used full s' fr := by
  refine ⟨by have := h.hn; omega, h.hp, h.hs, fun i => ?_, h.hg, h.h0⟩
  have hn := h.hn
  rw [h.hf i]
  constructor
  · rintro ⟨h1, h2⟩
    refine ⟨⟨?_, h1.2⟩, h2⟩
    by_cases e : i = pl - (n + 1)
    · rw [e] at h2; exact absurd hb h2
    · omega
  · rintro ⟨h1, h2⟩
    exact ⟨by omega, h2⟩
theorem RW.gap {b : Nat → Nat} {s pl n : Nat} {gaps : Int} {used full s' fr : Nat} (h : RW b s pl (n + 1) gaps used full s' fr) (hb : ¬ full.testBit (pl - (n + 1)) = true) (hg : 0 < gaps) : RW b s pl n (gaps - 1) used full s' (nd fr (2 ^ (pl - (n + 1)))) := by
  have hn := h.hn
  have hp := h.hp
  have hpb : fr.testBit (pl - (n + 1)) = true := (h.hf _).mpr ⟨by omega, hb⟩
  have hpc := pcn_p h.lt hpb
  refine ⟨by omega, hp, h.hs, fun i => ?_, by have := h.hg; omega, by omega⟩
  rw [nd_iff, h.hf i, Nat.testBit_two_pow, decide_eq_true_iff]
  constructor
  · rintro ⟨⟨h1, h2⟩, h3⟩
    exact ⟨by omega, h2⟩
  · rintro ⟨h1, h2⟩
    exact ⟨⟨by omega, h2⟩, by omega⟩
theorem RW.pick {b : Nat → Nat} {s pl n k : Nat} {gaps : Int} {used full s' fr : Nat} (h : RW b s pl (n + 1) gaps used full s' fr) (hk8 : k < 8) (hk : s'.testBit k = true) (hb1 : 1 ≤ b k) (hsb : sbs (pm (b k) (pl - (n + 1))) fr = true) : RW b s pl n gaps (used ||| 2 ^ k) (full ||| (2 ^ (pl - (n + 1)) ||| 2 ^ (pl - (n + 1) + b k))) (nd s' (2 ^ k)) (nd fr (pm (b k) (pl - (n + 1)))) := by
  have hn := h.hn
  have hp := h.hp
  have hpc := pcn_pm hb1 h.lt hsb
  have hml := mem_out_len ((memN_mem 8 k).mpr ⟨hk8, hk⟩)
  refine ⟨by omega, hp, fun j => ?_, fun i => ?_, by have := h.hg; omega, h.h0⟩
  · rw [nd_iff, h.hs j, Nat.testBit_or, Bool.or_eq_true, Nat.testBit_two_pow, decide_eq_true_iff]
    constructor
    · rintro ⟨⟨h1, h2⟩, h3⟩; exact ⟨h1, fun q => q.elim h2 h3⟩
    · rintro ⟨h1, h2⟩; exact ⟨⟨h1, fun q => h2 (Or.inl q)⟩, fun q => h2 (Or.inr q)⟩
  · rw [nd_iff, h.hf i, Nat.testBit_or, Bool.or_eq_true]
    have e : (2 ^ (pl - (n + 1)) ||| 2 ^ (pl - (n + 1) + b k)) = pm (b k) (pl - (n + 1)) := rfl
    rw [e, pm_bit]
    constructor
    · rintro ⟨⟨h1, h2⟩, h3⟩
      exact ⟨by omega, fun q => q.elim h2 h3⟩
    · rintro ⟨h1, h2⟩
      exact ⟨⟨by omega, fun q => h2 (Or.inl q)⟩, fun q => h2 (Or.inr q)⟩
theorem RW.pk {b : Nat → Nat} {s pl n k : Nat} {gaps : Int} {used full s' fr : Nat} (h : RW b s pl (n + 1) gaps used full s' fr) (hb : ¬ full.testBit (pl - (n + 1)) = true) : pkB s b pl used full (pl - (n + 1)) (k + 1) gaps = true ↔ (s'.testBit k = true ∧ sbs (pm (b k) (pl - (n + 1))) fr = true) := by
  have hn := h.hn
  unfold pkB
  rw [if_neg (by omega), Nat.add_sub_cancel, sbs_pm, h.hs k, h.hf, h.hf]
  simp only [Bool.and_eq_true, Bool.not_eq_true', decide_eq_true_iff, Bool.not_eq_true]
  rw [Bool.not_eq_true] at hb
  constructor
  · rintro ⟨⟨⟨h1, h2⟩, h3⟩, h4⟩
    exact ⟨⟨h1, h2⟩, ⟨by omega, hb⟩, ⟨by omega, h3⟩, h4⟩
  · rintro ⟨⟨h1, h2⟩, _, h3, h4⟩
    exact ⟨⟨⟨h1, h2⟩, h3.2⟩, h4⟩
/-- how many rows begin with a choice -/
def gch (b : Nat → Nat) (s' fr p : Nat) : Nat → Nat
  | 0 => cn b s' (nd fr (2 ^ p))
  | k + 1 => if s'.testBit k = true then cbn b s' fr k p else 0
theorem lsm_shift (f : Nat → Nat) : ∀ n, lsm f (List.range (n + 1)) = f 0 + lsm (fun k => f (k + 1)) (List.range n) := by
  intro n
  induction n with
  | zero => rfl
  | succ n ih => rw [lsm_rs, ih, lsm_rs]; omega
theorem RW.sum {b : Nat → Nat} (hb : ∀ k, k < 8 → 1 ≤ b k) {s pl n : Nat} {gaps : Int} {used full s' fr : Nat} (h : RW b s pl (n + 1) gaps used full s' fr) (hf : ¬ full.testBit (pl - (n + 1)) = true) : cn b s' fr = lsm (gch b s' fr (pl - (n + 1))) (List.range 9) := by
  have hn := h.hn
  rw [cn_place hb s' h.lt ((h.hf _).mpr ⟨by omega, hf⟩) (fun i hi q => by have := (h.hf i).mp q; omega), lsm_shift, memN_sum]
  rfl
def chR (b : Nat → Nat) (s pl n : Nat) (gaps : Int) (used full : Nat) (c : Nat) : List (List Int) := if pkB s b pl used full (pl - (n + 1)) c gaps = true then (rwl s pl b n (ngap c gaps) (nuse c used) (nful b (pl - (n + 1)) c full)).map ((c : Int) :: ·) else []
theorem rwl_len2 {b : Nat → Nat} (hb : ∀ k, k < 8 → 1 ≤ b k) {s pl : Nat} : ∀ (n : Nat) (gaps : Int) (used full s' fr : Nat), RW b s pl n gaps used full s' fr → (rwl s pl b n gaps used full).length = cn b s' fr ∧ (∀ m, n = m + 1 → ¬ full.testBit (pl - (m + 1)) = true → ∀ c, c < 9 → (chR b s pl m gaps used full c).length = gch b s' fr (pl - (m + 1)) c) := by
  intro n
  induction n with
  | zero =>
    intro gaps used full s' fr h
    refine ⟨?_, fun m hm => by omega⟩
    have hz : fr = 0 := bit_ext (fun i => by rw [h.hf i, Nat.zero_testBit]; constructor; (rintro ⟨q, _⟩; omega); (intro q; cases q))
    have hl : mem s' = [] := by
      have h1 := h.hg
      have h2 := h.h0
      rw [hz, show pcn 16 0 = 0 from rfl] at h1
      exact List.length_eq_zero_iff.mp (by omega)
    unfold cn dsl
    rw [hl]
    rfl
  | succ n ih =>
    intro gaps used full s' fr h
    have hn := h.hn
    have hch : ¬ full.testBit (pl - (n + 1)) = true → ∀ c, c < 9 → (chR b s pl n gaps used full c).length = gch b s' fr (pl - (n + 1)) c := fun hf c hc => by
      unfold chR
      cases c with
      | zero =>
        have epk : pkB s b pl used full (pl - (n + 1)) 0 gaps = decide (0 < gaps) := if_pos rfl
        rw [epk]
        by_cases hg : 0 < gaps
        · rw [if_pos (decide_eq_true hg), List.length_map]
          exact (ih _ _ _ _ _ (h.gap hf hg)).1
        · rw [if_neg (by rw [decide_eq_true_iff]; exact hg)]
          show 0 = cn b s' (nd fr (2 ^ (pl - (n + 1))))
          rcases Nat.eq_zero_or_pos (cn b s' (nd fr (2 ^ (pl - (n + 1))))) with q | q
          · exact q.symm
          · exfalso
            have h1 := cn_few2 hb (nd_lt h.lt) (show ¬ cn b s' (nd fr (2 ^ (pl - (n + 1)))) = 0 by omega)
            have h2 := pcn_p h.lt ((h.hf (pl - (n + 1))).mpr ⟨by omega, hf⟩)
            have h3 := h.hg
            have h4 := h.h0
            omega
      | succ k =>
        have hpk := h.pk (k := k) hf
        show _ = (if s'.testBit k = true then cbn b s' fr k (pl - (n + 1)) else 0)
        by_cases q : pkB s b pl used full (pl - (n + 1)) (k + 1) gaps = true
        · have q2 := hpk.mp q
          rw [if_pos q, List.length_map, if_pos q2.1]
          have h3 := ih _ _ _ _ _ (h.pick (by omega) q2.1 (hb k (by omega)) q2.2)
          unfold cbn
          rw [if_pos q2.2]
          exact h3.1
        · rw [if_neg q]
          by_cases q1 : s'.testBit k = true
          · rw [if_pos q1]
            unfold cbn
            rw [if_neg (fun z => q (hpk.mpr ⟨q1, z⟩))]; rfl
          · rw [if_neg q1]; rfl
    refine ⟨?_, fun m hm => by obtain rfl : n = m := by omega
                               exact hch⟩
    rw [rwl]
    by_cases hf : full.testBit (pl - (n + 1)) = true
    · rw [if_pos hf, List.length_map]
      exact (ih _ _ _ _ _ (h.full hf)).1
    · rw [if_neg hf, h.sum hb hf, len_flat]
      exact lsm_congr (fun c hc => hch hf c (List.mem_range.mp hc))
theorem whc_sel {b : Nat → Nat} {s' fr p : Nat} {F : Nat → List (List Int)} (hF : ∀ c, c < 9 → (F c).length = gch b s' fr p c) : ∀ (j n : Nat) (r : Int), n + j = 8 → 0 ≤ r → r < (((List.range' n (j + 1)).flatMap F).length : Int) → ∃ c r' : Nat, whc b s' fr p j (n : Int) ((gch b s' fr p n : Nat) : Int) r = ((c : Int), (r' : Int)) ∧ c < 9 ∧ r' < (F c).length ∧ ((List.range' n (j + 1)).flatMap F)[r.toNat]? = (F c)[r']? := by
  intro j
  induction j with
  | zero =>
    intro n r hn h0 hr
    rw [List.range'_succ, List.flatMap_cons] at hr ⊢
    rw [show List.range' (n + 1) 0 = [] from rfl, List.flatMap_nil, List.append_nil] at hr ⊢
    exact ⟨n, r.toNat, by rw [whc, show ((r.toNat : Nat) : Int) = r by omega], by omega, by omega, rfl⟩
  | succ j ih =>
    intro n r hn h0 hr
    rw [List.range'_succ, List.flatMap_cons] at hr ⊢
    rw [whc]
    have hl := hF n (by omega)
    by_cases q : r < ((gch b s' fr p n : Nat) : Int)
    · rw [if_pos q]
      refine ⟨n, r.toNat, by rw [show ((r.toNat : Nat) : Int) = r by omega], by omega, by omega, ?_⟩
      rw [List.getElem?_append_left (by omega)]
    · rw [if_neg q]
      rw [List.length_append] at hr
      have := ih (n + 1) (r - ((gch b s' fr p n : Nat) : Int)) (by omega) (by omega) (by omega)
      obtain ⟨c, r', h1, h2, h3, h4⟩ := this
      refine ⟨c, r', ?_, h2, h3, ?_⟩
      · rw [← h1, Int.toNat_natCast]
        show whc b s' fr p j ((n : Int) + 1) (if s'.testBit n = true then ((cbn b s' fr n p : Nat) : Int) else 0) _ = whc b s' fr p j ((n + 1 : Nat) : Int) (((if s'.testBit n = true then cbn b s' fr n p else 0 : Nat)) : Int) _
        by_cases z : s'.testBit n = true
        · rw [if_pos z, if_pos z]; rfl
        · rw [if_neg z, if_neg z]; rfl
      · rw [List.getElem?_append_right (by omega), ← h4]
        exact congrArg _ (by omega)
