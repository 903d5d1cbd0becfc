/-! ===== the class: counting ===== -/
theorem low_at (n : Nat) : ∀ (m p : Nat), (∀ i, i < p → ¬ n.testBit i = true) → (∃ i, p ≤ i ∧ i < p + m ∧ n.testBit i = true) → ∃ q : Nat, q < p + m ∧ lowF (n : Int) m (p : Int) = (q : Int) ∧ n.testBit q = true ∧ ∀ i, i < q → ¬ n.testBit i = true := by
  intro m
  induction m with
  | zero => rintro p _ ⟨i, h1, h2, _⟩; omega
  | succ m ih =>
    intro p h1 h2
    have hb := bt_has (s := (n : Int)) (k := (p : Int)) (by omega)
    unfold bt at hb
    rw [Int.toNat_natCast, Int.toNat_natCast] at hb
    rw [lowF]
    by_cases h : n.testBit p = true
    · rw [if_pos (by rw [Int.toNat_natCast]; exact hb.mpr h)]
      exact ⟨p, by omega, rfl, h, h1⟩
    · rw [if_neg (by rw [Int.toNat_natCast]; exact fun hh => h (hb.mp hh))]
      obtain ⟨i, h3, h4, h5⟩ := h2
      have hne : i ≠ p := fun e => h (e ▸ h5)
      obtain ⟨q, q1, q2, q3⟩ := ih (p + 1) (fun j hj hb => by
        by_cases e : j = p
        · exact h (e ▸ hb)
        · exact h1 j (by omega) hb) ⟨i, by omega, by omega, h5⟩
      exact ⟨q, by omega, q2, q3⟩
theorem low_ok {n : Nat} (h : n ≠ 0) (hn : n < 65536) : ∃ q : Nat, q < 16 ∧ lowF (n : Int) 31 0 = (q : Int) ∧ n.testBit q = true ∧ ∀ i, i < q → ¬ n.testBit i = true := by
  obtain ⟨i, hi⟩ := Nat.exists_testBit_of_ne_zero h
  have := bit_lt hn hi
  obtain ⟨q, _, q2, q3, q4⟩ := low_at n 31 0 (fun j hj => by omega) ⟨i, by omega, by omega, hi⟩
  exact ⟨q, bit_lt hn q3, q2, q3, q4⟩
theorem bt_div {n k i : Nat} : bt ((n : Int) / 2 ^ k) i ↔ n.testBit (i + k) = true := by
  unfold bt
  have e : ((2 : Int) ^ k) = ((2 ^ k : Nat) : Int) := (Int.natCast_pow 2 k).symm
  rw [e, ← Int.natCast_ediv, Int.toNat_natCast, Nat.testBit_div_two_pow]
theorem fsf_bit {a : Int → Int} {n p : Int} {fr : Nat} (hn : 1 ≤ n) (hp : 0 ≤ p) : fsf a n (fr : Int) / 2 ^ p.toNat % 2 = 1 ↔ sbs (pm (fa a (n - 1).toNat) p.toNat) fr = true := by
  rw [bt_has (fsf_B a n (by omega)).1]
  unfold fsf
  rw [bt_ban, bt_div, fa_at a hn, sbs_pm]
  exact Iff.rfl
theorem fsf_sum {a : Int → Int} {n : Int} {fr : Nat} (hn : 1 ≤ n) (h : fr < 65536) : pc (fsf a n (fr : Int)) = ((lsm (fun p => if sbs (pm (fa a (n - 1).toNat) p) fr = true then 1 else 0) (List.range 16) : Nat) : Int) := by
  have h0 := fsf_B a n (fr := (fr : Int)) (by omega)
  unfold pc
  rw [← pcn_sum]
  refine congrArg Int.ofNat (lsm_congr (fun p _ => ?_))
  have h1 := fsf_bit (a := a) (n := n) (p := (p : Int)) (fr := fr) hn (by omega)
  rw [bt_has h0.1, Int.toNat_natCast] at h1
  by_cases h2 : sbs (pm (fa a (n - 1).toNat) p) fr = true
  · rw [if_pos h2, if_pos (h1.mpr h2)]
  · rw [if_neg h2, if_neg (fun hh => h2 (h1.mp hh))]
theorem fpr_pm {a : Int → Int} {n p : Int} (hn : 1 ≤ n) (hp : 0 ≤ p) (ha : 0 ≤ a n) : fpr a n p = ((pm (fa a (n - 1).toNat) p.toNat : Nat) : Int) := by
  unfold fpr pm bor bsh
  rw [fa_at a hn, Int.toNat_natCast, Int.toNat_natCast, show (p + a n).toNat = p.toNat + (a n).toNat from by omega]
theorem akg_bit {a : Int → Int} {n : Int} : ∀ (m : Nat) (o acc : Int) (i : Nat), 1 ≤ o → (bt (lpF (akg a n) m o acc) i ↔ bt acc i ∨ (o - 1 ≤ i ∧ (i : Int) < o - 1 + m ∧ a ((i : Int) + 1) = a n)) := by
  intro m
  induction m with
  | zero => intro o acc i _; exact ⟨fun h => Or.inl h, fun h => h.elim id (fun h => by omega)⟩
  | succ m ih =>
    intro o acc i ho
    rw [lpF, ih (o + 1) _ i (by omega)]
    unfold akg
    by_cases h : a o = a n
    · rw [if_pos h, bt_bor, bt_bsh (by omega)]
      constructor
      · rintro ((h1 | h1) | h1)
        · exact Or.inl h1
        · refine Or.inr ⟨by omega, by omega, ?_⟩
          rw [← h, show (i : Int) + 1 = o from by omega]
        · exact Or.inr ⟨by omega, by omega, h1.2.2⟩
      · rintro (h1 | h1)
        · exact Or.inl (Or.inl h1)
        · by_cases e : (i : Int) = o - 1
          · exact Or.inl (Or.inr e.symm)
          · exact Or.inr ⟨by omega, by omega, h1.2.2⟩
    · rw [if_neg h]
      constructor
      · rintro (h1 | h1)
        · exact Or.inl h1
        · exact Or.inr ⟨by omega, by omega, h1.2.2⟩
      · rintro (h1 | h1)
        · exact Or.inl h1
        · refine Or.inr ⟨?_, by omega, h1.2.2⟩
          by_cases e : (i : Int) = o - 1
          · exact absurd (by rw [← h1.2.2, show (i : Int) + 1 = o from by omega]) h
          · omega
theorem alk_bit {a : Int → Int} {n : Int} {i : Nat} : bt (alk a n) i ↔ i < 8 ∧ a ((i : Int) + 1) = a n := by
  unfold alk
  rw [akg_bit 8 1 0 i (by omega)]
  constructor
  · rintro (h | h)
    · unfold bt at h; rw [show (0 : Int).toNat = 0 from rfl, Nat.zero_testBit] at h; cases h
    · exact ⟨by omega, h.2.2⟩
  · intro h; exact Or.inr ⟨by omega, by omega, h.2⟩
theorem fa_eq {S : Nat → Int → Int} (hA : FA S) {n : Int} (hn : 1 ≤ n ∧ n ≤ 8) {i : Nat} (hi : i < 8) : S 22 ((i : Int) + 1) = S 22 n ↔ fa (S 22) i = fa (S 22) (n - 1).toNat := by
  rw [fa_at (S 22) hn.1]
  have h1 := hA ((i : Int) + 1) (by omega)
  have h2 := hA n hn
  unfold fa
  omega
theorem bsh_bit {s : Nat} {n : Int} : ban (s : Int) (bsh n) = 0 ↔ ¬ s.testBit n.toNat = true := by
  unfold ban bsh
  rw [Int.toNat_natCast, Int.toNat_natCast]
  constructor
  · intro h hb
    have h1 : (s &&& 2 ^ n.toNat).testBit n.toNat = true := by rw [Nat.testBit_and, hb, Nat.testBit_two_pow_self]; rfl
    have h2 : s &&& 2 ^ n.toNat = 0 := by omega
    rw [h2, Nat.zero_testBit] at h1
    cases h1
  · intro h
    have h2 : s &&& 2 ^ n.toNat = 0 := by
      apply bits_ext
      intro i
      rw [Nat.testBit_and, Bool.and_eq_true, Nat.testBit_two_pow, decide_eq_true_iff, Nat.zero_testBit]
      exact ⟨fun hh => absurd (hh.2 ▸ hh.1) h, fun hh => by cases hh⟩
    omega
theorem fsp_iff {S : Nat → Int → Int} (hG : FGo S) {n : Int} (hn : 1 ≤ n ∧ n ≤ 8) {s : Nat} : fsp (S 24) (s : Int) n ↔ spkS (fa (S 22)) s (n - 1).toNat = true := by
  have hk := (hG.k n (by omega)).2
  unfold fsp spkS
  rw [bsh_bit, Bool.and_eq_true, Classical.not_not, spkB_iff, hk]
  refine and_congr_right (fun _ => ?_)
  have hz : ∀ x : Int, 0 ≤ x → (x = 0 ↔ ∀ i, ¬ bt x i) := by
    intro x hx
    constructor
    · rintro rfl i h; unfold bt at h; rw [show (0 : Int).toNat = 0 from rfl, Nat.zero_testBit] at h; cases h
    · intro h
      by_cases h0 : x.toNat = 0
      · omega
      · obtain ⟨i, hi⟩ := Nat.exists_testBit_of_ne_zero h0
        exact absurd hi (h i)
  have hm : ∀ i, bt (bsh (n - 1) - 1) i ↔ i < (n - 1).toNat := by
    intro i
    have hp := bsh_pos (n - 1)
    have e : (bsh (n - 1) - 1).toNat = 2 ^ (n - 1).toNat - 1 := by unfold bsh; omega
    unfold bt
    rw [e, Nat.testBit_two_pow_sub_one, decide_eq_true_iff]
  rw [hz _ (ban_nn _ _)]
  constructor
  · intro h l hl e
    have hl2 := (memN_mem 8 l).mp hl
    rcases Nat.lt_or_ge l (n - 1).toNat with h1 | h1
    · exact absurd (bt_ban.mpr ⟨(show bt (s : Int) l from hl2.2), bt_ban.mpr ⟨alk_bit.mpr ⟨hl2.1, (fa_eq hG.a hn hl2.1).mpr e⟩, (hm l).mpr h1⟩⟩) (h l)
    · exact h1
  · intro h i hi
    obtain ⟨h1, h2⟩ := bt_ban.mp hi
    obtain ⟨h3, h4⟩ := bt_ban.mp h2
    have h5 := alk_bit.mp h3
    have h6 := h i ((memN_mem 8 i).mpr ⟨h5.1, h1⟩) ((fa_eq hG.a hn h5.1).mp h5.2)
    have h7 := (hm i).mp h4
    omega
theorem memN_and (x s : Nat) : ∀ n : Nat, memN (x &&& s) n = (memN s n).filter (fun l => x.testBit l) := by
  intro n
  induction n with
  | zero => rfl
  | succ n ih =>
    rw [memN, memN, List.filter_append, ih]
    congr 1
    rw [Nat.testBit_and]
    cases h1 : x.testBit n <;> cases h2 : s.testBit n <;> simp [h1]
theorem aln_pc {S : Nat → Int → Int} (hG : FGo S) {n : Int} (hn : 1 ≤ n ∧ n ≤ 8) {s : Nat} (hs : s < 256) : pc (ban (S 23 n) (s : Int)) = ((alN (fa (S 22)) s (n - 1).toNat : Nat) : Int) := by
  have hb := ban_le (S 23 n) (s : Int) (by omega)
  have hb0 := ban_nn (S 23 n) (s : Int)
  rw [pc_mem (by omega)]
  unfold alN ban
  rw [Int.toNat_natCast, Int.toNat_natCast]
  unfold mem
  rw [memN_and]
  refine congrArg (fun l : List Nat => Int.ofNat l.length) (List.filter_congr (fun l hl => ?_))
  have hl2 := (memN_mem 8 l).mp hl
  have h1 := alk_bit (a := S 22) (n := n) (i := l)
  rw [← (hG.k n (by omega)).1] at h1
  have h2 := fa_eq hG.a hn hl2.1
  by_cases h3 : fa (S 22) l = fa (S 22) (n - 1).toNat
  · rw [h1.mpr ⟨hl2.1, h2.mpr h3⟩]; exact (beq_iff_eq.mpr h3).symm
  · have h4 : ¬ (S 23 n).toNat.testBit l = true := fun hh => h3 (h2.mp (h1.mp hh).2)
    rw [Bool.not_eq_true] at h4
    rw [h4]
    exact (beq_eq_false_iff_ne.mpr h3).symm
theorem fsp_iffA {S : Nat → Int → Int} (hG : FGo S) {a : Int → Int} (ha : S 22 = a) {n : Int} (hn : 1 ≤ n ∧ n ≤ 8) {s : Nat} : fsp (S 24) (s : Int) n ↔ spkS (fa a) s (n - 1).toNat = true := by rw [← ha]; exact fsp_iff hG hn
theorem aln_pcA {S : Nat → Int → Int} (hG : FGo S) {a : Int → Int} (ha : S 22 = a) {n : Int} (hn : 1 ≤ n ∧ n ≤ 8) {s : Nat} (hs : s < 256) : pc (ban (S 23 n) (s : Int)) = ((alN (fa a) s (n - 1).toNat : Nat) : Int) := by rw [← ha]; exact aln_pc hG hn hs
/-- the scarcest is one that speaks -/
theorem fsc_good {a b : Int → Int} {s fr : Int} : ∀ (m : Nat) (k x z : Int), 1 ≤ k → k + m ≤ 9 → (z < 17 → (1 ≤ x ∧ x ≤ 8) ∧ fsp b s x) → z ≤ 17 → ((∃ n, k ≤ n ∧ n < k + m ∧ fsp b s n) ∨ z < 17) → (1 ≤ (lpF (fsc a b s fr) m k (x, z)).1 ∧ (lpF (fsc a b s fr) m k (x, z)).1 ≤ 8) ∧ fsp b s (lpF (fsc a b s fr) m k (x, z)).1 := by
  intro m
  induction m with
  | zero =>
    intro k x z _ _ h1 _ h2
    rcases h2 with ⟨n, h3, h4, _⟩ | h2
    · omega
    · exact h1 h2
  | succ m ih =>
    intro k x z hk hkm h1 h17 h2
    have hp := pc_B (fsf a k fr)
    rw [lpF]
    unfold fsc
    by_cases h : fsp b s k ∧ pc (fsf a k fr) < (x, z).2
    · rw [if_pos h]
      exact ih (k + 1) _ _ (by omega) (by omega) (fun _ => ⟨by omega, h.1⟩) (by omega) (Or.inr (by omega))
    · rw [if_neg h]
      refine ih (k + 1) _ _ (by omega) (by omega) h1 h17 ?_
      rcases h2 with ⟨n, h3, h4, h5⟩ | h2
      · by_cases e : n = k
        · right
          have h6 : ¬ pc (fsf a k fr) < z := fun hh => h ⟨e ▸ h5, hh⟩
          omega
        · exact Or.inl ⟨n, by omega, by omega, h5⟩
      · exact Or.inr h2
theorem scarce_ok {S : Nat → Int → Int} (hG : FGo S) {s : Nat} (hm : mem s ≠ []) (fr : Int) : (1 ≤ (lpF (fsc (S 22) (S 24) (s : Int) fr) 8 1 (0, 17)).1 ∧ (lpF (fsc (S 22) (S 24) (s : Int) fr) 8 1 (0, 17)).1 ≤ 8) ∧ spkS (fa (S 22)) s ((lpF (fsc (S 22) (S 24) (s : Int) fr) 8 1 (0, 17)).1 - 1).toNat = true := by
  obtain ⟨k, h1, h2⟩ := spk_ex (a := fa (S 22)) hm
  have h3 : fsp (S 24) (s : Int) ((k : Int) + 1) := (fsp_iff hG (by omega)).mpr (by rw [show ((k : Int) + 1 - 1).toNat = k from by omega]; exact h2)
  have h4 := fsc_good (a := S 22) (b := S 24) (s := (s : Int)) (fr := fr) 8 1 0 17 (by omega) (by omega) (fun h => by omega) (by omega) (Or.inl ⟨(k : Int) + 1, by omega, by omega, h3⟩)
  exact ⟨h4.1, (fsp_iff hG h4.1).mp h4.2⟩
theorem mem_ne {s : Nat} (hs : s < 256) (h : s ≠ 0) : mem s ≠ [] := by
  obtain ⟨i, hi⟩ := Nat.exists_testBit_of_ne_zero h
  intro e
  have h1 : i < 8 := by
    rcases Nat.lt_or_ge i 8 with h1 | h1
    · exact h1
    · rw [Nat.testBit_lt_two_pow (Nat.lt_of_lt_of_le hs (Nat.pow_le_pow_right (by decide) h1 : 2 ^ 8 ≤ 2 ^ i))] at hi
      cases hi
  have := (memN_mem 8 i).mpr ⟨h1, hi⟩
  rw [show memN s 8 = [] from e] at this
  cases this
theorem pcn_mem {s : Nat} (hs : s < 256) : pcn 16 s = (mem s).length := pc_memF ⟨s, hs⟩
theorem cn_one {a : Int → Int} {s fr : Nat} (hs : s < 256) (hfr : fr < 65536) (h : pcn 16 s = 1) : ∃ k : Nat, k < 8 ∧ lowF (s : Int) 31 0 = (k : Int) ∧ ((cn (fa a) s fr : Nat) : Int) = pc (fsf a ((k : Int) + 1) (fr : Int)) := by
  have h0 : s ≠ 0 := fun e => by rw [e, pcn_0] at h; omega
  obtain ⟨k, _, k2, k3, _⟩ := low_ok h0 (by omega)
  have hk8 : k < 8 := by
    rcases Nat.lt_or_ge k 8 with h1 | h1
    · exact h1
    · rw [Nat.testBit_lt_two_pow (Nat.lt_of_lt_of_le hs (Nat.pow_le_pow_right (by decide) h1 : 2 ^ 8 ≤ 2 ^ k))] at k3
      cases k3
  refine ⟨k, hk8, k2, ?_⟩
  have hm := mem_out_len ((memN_mem 8 k).mpr ⟨hk8, k3⟩)
  rw [← pcn_mem hs] at hm
  have hm0 : mem (nd s (2 ^ k)) = [] := List.length_eq_zero_iff.mp (by omega)
  rw [fsf_sum (by omega) hfr, show ((k : Int) + 1 - 1).toNat = k from by omega, cn_num hk8 k3]
  refine congrArg Int.ofNat (lsm_congr (fun p _ => ?_))
  have e1 : cn (fa a) (nd s (2 ^ k)) (nd fr (pm (fa a k) p)) = 1 := by unfold cn dsl; rw [hm0]; rfl
  rw [e1]
/-- the contract of counting -/
def CNT (d m : Nat) : Prop := ∀ (S T : Nat → Int → Int) (D : List mx_C) (a : Int → Int), FGo S → S 22 = a → ∀ (s fr : Nat), s < 256 → fr < 65536 → pcn 16 fr ≤ m → SpI yX0_count cX0_count 8 (some .int) d [.ref 21, .int (jI (s : Int)), .int (jI (fr : Int))] (W5 S T D) (CQo S T D ((cn (fa a) s fr : Nat) : Int))
def cbn (a : Nat → Nat) (s fr k p : Nat) : Nat := if sbs (pm (a k) p) fr = true then cn a (nd s (2 ^ k)) (nd fr (pm (a k) p)) else 0
def cbp (a : Nat → Nat) (s fr p k : Nat) : Nat := if spkS a s k = true then alN a s k * (if sbs (pm (a k) p) fr = true then cn a (nd s (2 ^ k)) (nd fr (pm (a k) p)) else 0) else 0
theorem pcn_pm {d p fr : Nat} (hd : 1 ≤ d) (hf : fr < 65536) (h : sbs (pm d p) fr = true) : pcn 16 (nd fr (pm d p)) + 2 = pcn 16 fr := by
  have h1 := pcn_nd 16 h
  rw [pm_pc hd (Nat.lt_of_le_of_lt (sbs_le h) hf)] at h1
  exact h1
theorem pcn_p {p fr : Nat} (hf : fr < 65536) (h : fr.testBit p = true) : pcn 16 (nd fr (2 ^ p)) + 1 = pcn 16 fr := by
  have h1 : sbs (2 ^ p) fr = true := sbs_iff.mpr (fun i hi => by
    rw [Nat.testBit_two_pow, decide_eq_true_iff] at hi
    exact hi ▸ h)
  have h2 := pcn_nd 16 h1
  rw [pcn_pow 16 p (bit_lt hf h)] at h2
  exact h2
theorem bdf_sbs {m fr : Nat} : bdf (m : Int) (fr : Int) = 0 ↔ sbs m fr = true := by
  unfold bdf
  rw [Int.toNat_natCast, Int.toNat_natCast, sbs_iff]
  constructor
  · intro h i hi
    have h0 : nd m fr = 0 := by omega
    by_cases h1 : fr.testBit i = true
    · exact h1
    · have := nd_iff.mpr ⟨hi, h1⟩
      rw [h0, Nat.zero_testBit] at this
      cases this
  · intro h
    have h0 : nd m fr = 0 := by
      apply bits_ext
      intro i
      rw [nd_iff, Nat.zero_testBit]
      exact ⟨fun hh => absurd (h i hh.1) hh.2, fun hh => by cases hh⟩
    omega
theorem fa_le {S : Nat → Int → Int} {a : Int → Int} (hG : FGo S) (ha : S 22 = a) {k : Nat} (hk : k < 8) : fa a k ≤ 15 := by
  have := hG.a ((k : Int) + 1) (by omega)
  rw [ha] at this
  unfold fa
  omega
theorem pm_lt2 {d p : Nat} (hd : 1 ≤ d) (h : d ≤ 15) (hp : p < 16) : ((pm d p : Nat) : Int) < 2147483648 := by
  have : pm d p < 2 ^ 31 := by
    unfold pm
    exact Nat.or_lt_two_pow (Nat.pow_lt_pow_right (by decide) (by omega)) (Nat.pow_lt_pow_right (by decide) (by omega))
  omega
theorem rs_next (f : Nat → Nat) {k : Int} (hk : 0 ≤ k) : lsm f (List.range (k + 1).toNat) = lsm f (List.range k.toNat) + f k.toNat := by
  rw [show (k + 1).toNat = k.toNat + 1 from by omega, lsm_rs]
set_option maxRecDepth 100000 in
theorem lX0_countByNumber {E : mx_E} {d m : Nat} (hC : CNT d m) {S T : Nat → Int → Int} {D : List mx_C} {a : Int → Int} (hG : FGo S) (ha : S 22 = a) {s fr : Nat} (h_s : s < 256) (h_fr : fr < 65536) (hm : pcn 16 fr ≤ m + 2) {n : Int} (h_n : 1 ≤ n ∧ n ≤ 8) : ∀ (j : Nat) (k x : Int) (S1 : Nat → Int → Int), k + j = 16 → 0 ≤ k → Fr [25, 26] S S1 → FGo S1 → x = ((lsm (cbn (fa a) s fr (n - 1).toNat) (List.range k.toNat) : Nat) : Int) → Ev E yX0_countByNumber cX0_countByNumber 7 (some .int) (kI E (d + 1) (CQo S T D ((lsm (cbn (fa a) s fr (n - 1).toNat) (List.range 16) : Nat) : Int))) 0 0 6 [.ref 21, .int (jI (s : Int)), .int (jI (fr : Int)), .int (jI n), .int (jI (fsf a n (fr : Int))), .int (jI x), .int (jI k)] [] (W5 S1 T D) := by
  intro j
  induction j with
  | zero =>
    intro k x S1 hkj hk hF hG1 hx
    have hk16 : k = 16 := by omega
    subst hk16
    refine L_i6 dX0_countByNumber_6 ?_
    refine J_bipush dX0_countByNumber_8 (by decide) ?_
    refine J_icmp_ge 57 dX0_countByNumber_10 rfl (by omega) (by omega) (fun c10 => ?_) (fun c10 => ?_)
    · refine L_i5 dX0_countByNumber_57 ?_
      exact RQ_i rfl dX0_countByNumber_59 ⟨hx, S1, rfl, hG1, hF⟩
    · exfalso; omega
  | succ j ih =>
    intro k x S1 hkj hk hF hG1 hx
    have e22 : S1 22 = a := (hF 22 (by decide)).trans ha
    have hA := hG1.a n h_n
    rw [e22] at hA
    have hfb := fsf_B a n (fr := (fr : Int)) (by omega)
    have hdd := ediv2_B hfb.1 k.toNat
    have hnx := rs_next (cbn (fa a) s fr (n - 1).toNat) hk
    have hd1 : 1 ≤ fa a (n - 1).toNat := by have := hG.o (n - 1).toNat (by omega); rw [ha] at this; exact this
    refine L_i6 dX0_countByNumber_6 ?_
    refine J_bipush dX0_countByNumber_8 (by decide) ?_
    refine J_icmp_ge 57 dX0_countByNumber_10 rfl (by omega) (by omega) (fun c10 => ?_) (fun c10 => ?_)
    · exfalso; omega
    · refine L_i4 dX0_countByNumber_13 ?_
      refine L_i6 dX0_countByNumber_15 ?_
      refine J_iushrG dX0_countByNumber_17 (by omega) (by omega) ?_
      refine J_iconst dX0_countByNumber_18 ?_
      refine J_imask 1 (by decide) (by decide) dX0_countByNumber_19 ?_
      refine J_if_eq 51 dX0_countByNumber_20 rfl (by omega) (fun c20 => ?_) (fun c20 => ?_)
      · refine JI_6 dX0_countByNumber_51 (by decide) rfl ?_
        refine E_goto 6 dX0_countByNumber_54 rfl ?_
        exact ih (k + 1) x S1 (by omega) (by omega) hF hG1 (by rw [hnx, show cbn (fa a) s fr (n - 1).toNat k.toNat = 0 from if_neg (fun hh => by have := (fsf_bit (a := a) (n := n) (p := k) (fr := fr) h_n.1 hk).mpr hh; omega)]; exact hx)
      · refine L_i5 dX0_countByNumber_23 ?_
        refine L_a0 dX0_countByNumber_25 ?_
        refine L_i1 dX0_countByNumber_26 ?_
        refine L_i3 dX0_countByNumber_27 ?_
        refine C_s1F vX0_43 dX0_countByNumber_28 (sX10_bitOf (by omega)) (Nat.le_of_ble_eq_true rfl) (by omega) ?_
        refine J_iconst dX0_countByNumber_31 ?_
        refine J_inot dX0_countByNumber_32 ?_
        refine J_iandD dX0_countByNumber_33 (by omega) (bsh_nn _) ?_
        refine J_eqi (b := ((nd s (2 ^ (n - 1).toNat) : Nat) : Int)) rfl ?_
        refine L_i2 dX0_countByNumber_34 ?_
        refine L_a0 dX0_countByNumber_35 ?_
        refine L_i3 dX0_countByNumber_36 ?_
        refine L_i6 dX0_countByNumber_37 ?_
        refine C_v2F vX0_92 dX0_countByNumber_39 (qX0_pairOf hG1.a h_n (by omega)) rfl rfl (Nat.le_of_ble_eq_true rfl) (by omega) ?_
        refine J_eqi (b := ((pm (fa a (n - 1).toNat) k.toNat : Nat) : Int)) (by rw [e22]; exact fpr_pm h_n.1 hk hA.1) ?_
        refine J_iconst dX0_countByNumber_42 ?_
        refine J_inot dX0_countByNumber_43 ?_
        refine J_iandD dX0_countByNumber_44 (by omega) (by omega) ?_
        refine J_eqi (b := ((nd fr (pm (fa a (n - 1).toNat) k.toNat) : Nat) : Int)) rfl ?_
        refine C_v2I vX0_95 dX0_countByNumber_45 (hC S1 T D a hG1 e22 _ _ (nd_lt h_s) (nd_lt h_fr) (by have := pcn_pm hd1 h_fr ((fsf_bit (a := a) (n := n) (p := k) (fr := fr) h_n.1 hk).mp (by omega)); omega)) rfl rfl (Nat.le_of_ble_eq_true rfl) (by omega) (fun v45 hp45 hq45 => ?_)
        obtain ⟨rfl, S2, rfl, hG2, hF2⟩ := hq45
        refine J_iadd dX0_countByNumber_48 ?_
        refine S_i5 dX0_countByNumber_49 (by decide) rfl ?_
        refine JI_6 dX0_countByNumber_51 (by decide) rfl ?_
        refine E_goto 6 dX0_countByNumber_54 rfl ?_
        exact ih (k + 1) _ S2 (by omega) (by omega) (hF.trans hF2) hG2 (by rw [hnx, show cbn (fa a) s fr (n - 1).toNat k.toNat = cn (fa a) (nd s (2 ^ (n - 1).toNat)) (nd fr (pm (fa a (n - 1).toNat) k.toNat)) from if_pos ((fsf_bit (a := a) (n := n) (p := k) (fr := fr) h_n.1 hk).mp (by omega)), hx]; omega)
set_option maxRecDepth 100000 in
theorem qX0_countByNumber {d m : Nat} (hC : CNT d m) {S T : Nat → Int → Int} {D : List mx_C} {a : Int → Int} (hG : FGo S) (ha : S 22 = a) {s fr : Nat} (h_s : s < 256) (h_fr : fr < 65536) (hm : pcn 16 fr ≤ m + 2) {n : Int} (h_n : 1 ≤ n ∧ n ≤ 8) : SpI yX0_countByNumber cX0_countByNumber 7 (some .int) (d + 1) [.ref 21, .int (jI (s : Int)), .int (jI (fr : Int)), .int (jI n), .int (jI (fsf a n (fr : Int)))] (W5 S T D) (CQo S T D ((lsm (cbn (fa a) s fr (n - 1).toNat) (List.range 16) : Nat) : Int)) := by
  refine Sp.of [.ref 21, .int (jI (s : Int)), .int (jI (fr : Int)), .int (jI n), .int (jI (fsf a n (fr : Int))), .retAddr 0, .retAddr 0] (by decide) (by simp) (Nat.le_of_ble_eq_true rfl) rfl (fun E => ?_)
  refine J_iconst dX0_countByNumber_0 ?_
  refine S_i5 dX0_countByNumber_1 (by decide) rfl ?_
  refine J_iconst dX0_countByNumber_3 ?_
  refine S_i6 dX0_countByNumber_4 (by decide) rfl ?_
  exact lX0_countByNumber hC hG ha h_s h_fr hm h_n 16 0 0 S (by omega) (by omega) (Fr.refl _ _) hG rfl
set_option maxRecDepth 100000 in
theorem lX0_countByPlace {E : mx_E} {d m : Nat} (hC : CNT d m) {S T : Nat → Int → Int} {D : List mx_C} {a : Int → Int} (hG : FGo S) (ha : S 22 = a) {s fr : Nat} (h_s : s < 256) (h_fr : fr < 65536) (hm : pcn 16 fr ≤ m + 1) {p : Nat} (h_p : p < 16) : ∀ (j : Nat) (k x : Int) (S1 : Nat → Int → Int) (u6 : Value), u6.category = 1 → k + j = 9 → 1 ≤ k → Fr [25, 26] S S1 → FGo S1 → x = ((cn (fa a) s (nd fr (2 ^ p)) + lsm (cbp (fa a) s fr p) (List.range (k - 1).toNat) : Nat) : Int) → Ev E yX0_countByPlace cX0_countByPlace 7 (some .int) (kI E (d + 1) (CQo S T D ((cn (fa a) s (nd fr (2 ^ p)) + lsm (cbp (fa a) s fr p) (List.range 8) : Nat) : Int))) 0 0 22 [.ref 21, .int (jI (s : Int)), .int (jI (fr : Int)), .int (jI (p : Int)), .int (jI x), .int (jI k), u6] [] (W5 S1 T D) := by
  intro j
  induction j with
  | zero =>
    intro k x S1 u6 hu hkj hk hF hG1 hx
    have hk9 : k = 9 := by omega
    subst hk9
    refine L_i5 dX0_countByPlace_22 ?_
    refine J_bipush dX0_countByPlace_24 (by decide) ?_
    refine J_icmp_gt 100 dX0_countByPlace_26 rfl (by omega) (by omega) (fun c26 => ?_) (fun c26 => ?_)
    · refine L_i4 dX0_countByPlace_100 ?_
      exact RQ_i rfl dX0_countByPlace_102 ⟨hx, S1, rfl, hG1, hF⟩
    · exfalso; omega
  | succ j ih =>
    intro k x S1 u6 hu hkj hk hF hG1 hx
    have e22 : S1 22 = a := (hF 22 (by decide)).trans ha
    have hA := hG1.a k (by omega)
    rw [e22] at hA
    have hL := hG1.l k (by omega)
    have hk8 : 1 ≤ k ∧ k ≤ 8 := by omega
    have hbl := ban_le (S1 23 k) (s : Int) (by omega)
    have hbn := ban_nn (S1 23 k) (s : Int)
    have hnx := rs_next (cbp (fa a) s fr p) (k := k - 1) (by omega)
    rw [show k - 1 + 1 = k + 1 - 1 from by omega] at hnx
    have hd1 : 1 ≤ fa a (k - 1).toNat := by have := hG.o (k - 1).toNat (by omega); rw [ha] at this; exact this
    refine L_i5 dX0_countByPlace_22 ?_
    refine J_bipush dX0_countByPlace_24 (by decide) ?_
    refine J_icmp_gt 100 dX0_countByPlace_26 rfl (by omega) (by omega) (fun c26 => ?_) (fun c26 => ?_)
    · exfalso; omega
    · refine L_a0 dX0_countByPlace_29 ?_
      refine L_i1 dX0_countByPlace_30 ?_
      refine L_i5 dX0_countByPlace_31 ?_
      refine C_v2F vX0_56 dX0_countByPlace_33 (qX0_speaks hG1.l (by omega) (by omega)) rfl rfl (Nat.le_of_ble_eq_true rfl) (by omega) ?_
      refine J_ifeqB 94 dX0_countByPlace_36 rfl (fun c36 => ?_) (fun c36 => ?_)
      · refine JI_5 dX0_countByPlace_94 (by decide) rfl ?_
        refine E_goto 22 dX0_countByPlace_97 rfl ?_
        exact ih (k + 1) x S1 _ hu (by omega) (by omega) hF hG1 (by rw [hnx, show cbp (fa a) s fr p (k - 1).toNat = 0 from if_neg (fun hh => c36 ((fsp_iffA hG1 e22 hk8).mpr hh)), hx]; rw [Nat.add_zero])
      · refine L_a0 dX0_countByPlace_39 ?_
        refine L_i5 dX0_countByPlace_40 ?_
        refine L_i3 dX0_countByPlace_42 ?_
        refine C_v2F vX0_92 dX0_countByPlace_43 (qX0_pairOf hG1.a (by omega) (by omega)) rfl rfl (Nat.le_of_ble_eq_true rfl) (by omega) ?_
        refine J_eqi (b := ((pm (fa a (k - 1).toNat) p : Nat) : Int)) (by rw [e22]; exact fpr_pm (by omega) (by omega) hA.1) ?_
        refine S_i6 dX0_countByPlace_46 (by decide) rfl ?_
        refine L_i6 dX0_countByPlace_48 ?_
        refine L_i2 dX0_countByPlace_50 ?_
        refine J_iconst dX0_countByPlace_51 ?_
        refine J_inot dX0_countByPlace_52 ?_
        refine J_iandD dX0_countByPlace_53 (by omega) (by omega) ?_
        have hbd := bdf_nn ((pm (fa a (k - 1).toNat) p : Nat) : Int) (fr : Int)
        have hbe := bdf_le ((pm (fa a (k - 1).toNat) p : Nat) : Int) (fr : Int) (by omega)
        have hbf := pm_lt2 hd1 (fa_le hG ha (k := (k - 1).toNat) (by omega)) h_p
        refine J_if_ne 94 dX0_countByPlace_54 rfl (by omega) (fun c54 => ?_) (fun c54 => ?_)
        · refine JI_5 dX0_countByPlace_94 (by decide) rfl ?_
          refine E_goto 22 dX0_countByPlace_97 rfl ?_
          exact ih (k + 1) x S1 _ rfl (by omega) (by omega) hF hG1 (by rw [hnx, show cbp (fa a) s fr p (k - 1).toNat = 0 from by unfold cbp; rw [if_pos ((fsp_iffA hG1 e22 hk8).mp c36), if_neg (fun hh => c54 (bdf_sbs.mpr hh)), Nat.mul_zero], hx]; rw [Nat.add_zero])
        · refine L_i4 dX0_countByPlace_57 ?_
          refine L_a0 dX0_countByPlace_59 ?_
          refine GW_21_1 fX0_15 dX0_countByPlace_60 ?_
          refine L_i5 dX0_countByPlace_63 ?_
          refine AR_23 dX0_countByPlace_65 (by omega) ?_
          refine L_i1 dX0_countByPlace_66 ?_
          refine J_iandG dX0_countByPlace_67 (by omega) (by omega) ?_
          refine C_s1F vX0_60 dX0_countByPlace_68 (sJ_bitCount (by omega)) (Nat.le_of_ble_eq_true rfl) (by omega) ?_
          refine J_eqi (b := ((alN (fa a) s (k - 1).toNat   : Nat) : Int)) (aln_pcA hG1 e22 hk8 h_s) ?_
          refine L_a0 dX0_countByPlace_71 ?_
          refine L_i1 dX0_countByPlace_72 ?_
          refine L_i5 dX0_countByPlace_73 ?_
          refine C_s1F vX0_43 dX0_countByPlace_75 (sX10_bitOf (by omega)) (Nat.le_of_ble_eq_true rfl) (by omega) ?_
          refine J_iconst dX0_countByPlace_78 ?_
          refine J_inot dX0_countByPlace_79 ?_
          refine J_iandD dX0_countByPlace_80 (by omega) (bsh_nn _) ?_
          refine J_eqi (b := ((nd s (2 ^ (k - 1).toNat) : Nat) : Int)) rfl ?_
          refine L_i2 dX0_countByPlace_81 ?_
          refine L_i6 dX0_countByPlace_82 ?_
          refine J_iconst dX0_countByPlace_84 ?_
          refine J_inot dX0_countByPlace_85 ?_
          refine J_iandD dX0_countByPlace_86 (by omega) (by omega) ?_
          refine J_eqi (b := ((nd fr (pm (fa a (k - 1).toNat) p) : Nat) : Int)) rfl ?_
          refine C_v2I vX0_95 dX0_countByPlace_87 (hC S1 T D a hG1 e22 _ _ (nd_lt h_s) (nd_lt h_fr) (by have := pcn_pm hd1 h_fr (bdf_sbs.mp c54); omega)) rfl rfl (Nat.le_of_ble_eq_true rfl) (by omega) (fun v87 hp87 hq87 => ?_)
          obtain ⟨rfl, S2, rfl, hG2, hF2⟩ := hq87
          refine J_imul dX0_countByPlace_90 ?_
          refine J_iadd dX0_countByPlace_91 ?_
          refine S_i4 dX0_countByPlace_92 (by decide) rfl ?_
          refine JI_5 dX0_countByPlace_94 (by decide) rfl ?_
          refine E_goto 22 dX0_countByPlace_97 rfl ?_
          exact ih (k + 1) _ S2 _ rfl (by omega) (by omega) (hF.trans hF2) hG2 (by rw [hnx, show cbp (fa a) s fr p (k - 1).toNat = alN (fa a) s (k - 1).toNat * cn (fa a) (nd s (2 ^ (k - 1).toNat)) (nd fr (pm (fa a (k - 1).toNat) p)) from by unfold cbp; rw [if_pos ((fsp_iffA hG1 e22 hk8).mp c36), if_pos (bdf_sbs.mp c54)], hx]; rw [← Nat.add_assoc]; simp only [Int.natCast_add, Int.natCast_mul])
set_option maxRecDepth 100000 in
theorem qX0_countByPlace {d m : Nat} (hC : CNT d m) {S T : Nat → Int → Int} {D : List mx_C} {a : Int → Int} (hG : FGo S) (ha : S 22 = a) {s fr : Nat} (h_s : s < 256) (h_fr : fr < 65536) (hm : pcn 16 fr ≤ m + 1) (h0 : fr ≠ 0) : SpI yX0_countByPlace cX0_countByPlace 7 (some .int) (d + 1) [.ref 21, .int (jI (s : Int)), .int (jI (fr : Int))] (W5 S T D) (CQo S T D ((cn (fa a) s fr : Nat) : Int)) := by
  obtain ⟨p, h_p, hlow, hpb, hpl⟩ := low_ok h0 h_fr
  have ho : ∀ k, k < 8 → 1 ≤ fa a k := by have := hG.o; rw [ha] at this; exact this
  rw [cn_placeS ho s h_fr hpb hpl]
  refine Sp.of [.ref 21, .int (jI (s : Int)), .int (jI (fr : Int)), .retAddr 0, .retAddr 0, .retAddr 0, .retAddr 0] (by decide) (by simp) (Nat.le_of_ble_eq_true rfl) rfl (fun E => ?_)
  refine L_i2 dX0_countByPlace_0 ?_
  refine C_s1F vX0_51 dX0_countByPlace_1 (sJ_ntz (by omega)) (Nat.le_of_ble_eq_true rfl) (by omega) ?_
  refine J_eqi (b := (p : Int)) hlow ?_
  refine S_i3 dX0_countByPlace_4 (by decide) rfl ?_
  refine L_a0 dX0_countByPlace_5 ?_
  refine L_i1 dX0_countByPlace_6 ?_
  refine L_i2 dX0_countByPlace_7 ?_
  refine J_iconst dX0_countByPlace_8 ?_
  refine L_i3 dX0_countByPlace_9 ?_
  refine J_1shl dX0_countByPlace_10 (by omega) ?_
  refine J_iconst dX0_countByPlace_11 ?_
  refine J_inot dX0_countByPlace_12 ?_
  refine J_iandD dX0_countByPlace_13 (by omega) (bsh_nn _) ?_
  refine J_eqi (b := ((nd fr (2 ^ p) : Nat) : Int)) (by unfold bdf bsh; rw [Int.toNat_natCast, Int.toNat_natCast, Int.toNat_natCast]) ?_
  refine C_v2I vX0_95 dX0_countByPlace_14 (hC S T D a hG ha _ _ h_s (nd_lt h_fr) (by have := pcn_p h_fr hpb; omega)) rfl rfl (Nat.le_of_ble_eq_true rfl) (by omega) (fun v14 hp14 hq14 => ?_)
  obtain ⟨rfl, S17, rfl, hG17, hF17⟩ := hq14
  refine S_i4 dX0_countByPlace_17 (by decide) rfl ?_
  refine J_iconst dX0_countByPlace_19 ?_
  refine S_i5 dX0_countByPlace_20 (by decide) rfl ?_
  exact lX0_countByPlace hC hG ha h_s h_fr hm h_p 8 1 _ S17 _ rfl (by omega) (by omega) hF17 hG17 rfl
set_option maxRecDepth 100000 in
theorem qX0_countAnew {d m : Nat} (hC : CNT d m) {S T : Nat → Int → Int} {D : List mx_C} {a : Int → Int} (hG : FGo S) (ha : S 22 = a) {s fr : Nat} (h_s : s < 256) (h_fr : fr < 65536) (hm : pcn 16 fr ≤ m + 1) (h0 : s ≠ 0) : SpI yX0_countAnew cX0_countAnew 5 (some .int) (d + 2) [.ref 21, .int (jI (s : Int)), .int (jI (fr : Int))] (W5 S T D) (CQo S T D ((cn (fa a) s fr : Nat) : Int)) := by
  have hsc := scarce_ok hG (mem_ne h_s h0) (fr : Int)
  generalize hr : (lpF (fsc (S 22) (S 24) (s : Int) (fr : Int)) 8 1 (0, 17)).1 = r at hsc
  rw [ha] at hsc
  have hrm := spkS_mem (by omega) hsc.2
  have hr2 := (memN_mem 8 (r - 1).toNat).mp hrm
  have hfb := fsf_B a r (fr := (fr : Int)) (by omega)
  have hnum : ((cn (fa a) s fr : Nat) : Int) = ((lsm (cbn (fa a) s fr (r - 1).toNat) (List.range 16) : Nat) : Int) := by rw [cn_num hr2.1 hr2.2 fr]; rfl
  refine Sp.of [.ref 21, .int (jI (s : Int)), .int (jI (fr : Int)), .retAddr 0, .retAddr 0] (by decide) (by simp) (Nat.le_of_ble_eq_true rfl) rfl (fun E => ?_)
  refine L_a0 dX0_countAnew_0 ?_
  refine L_i1 dX0_countAnew_1 ?_
  refine L_i2 dX0_countAnew_2 ?_
  refine C_v2F vX0_82 dX0_countAnew_3 (qX0_scarcest hG.a hG.l (by omega) (by omega)) rfl rfl (Nat.le_of_ble_eq_true rfl) (by omega) ?_
  refine J_eqi (b := r) hr ?_
  refine S_i3 dX0_countAnew_6 (by decide) rfl ?_
  refine L_i3 dX0_countAnew_7 ?_
  refine C_s1F vX0_39 dX0_countAnew_8 (sX10_isNumber (by omega)) (Nat.le_of_ble_eq_true rfl) (by omega) ?_
  refine J_ifneB 16 dX0_countAnew_11 rfl (fun c11 => ?_) (fun c11 => ?_)
  · refine L_a0 dX0_countAnew_16 ?_
    refine L_i3 dX0_countAnew_17 ?_
    refine L_i2 dX0_countAnew_18 ?_
    refine C_v2F vX0_47 dX0_countAnew_19 (qX0_firstsOf hG.a hsc.1 (by omega)) rfl rfl (Nat.le_of_ble_eq_true rfl) (by omega) ?_
    refine J_eqi (b := fsf a r (fr : Int)) (by rw [ha]) ?_
    refine S_i4 dX0_countAnew_22 (by decide) rfl ?_
    refine L_i4 dX0_countAnew_24 ?_
    refine C_s1F vX0_60 dX0_countAnew_26 (sJ_bitCount (by omega)) (Nat.le_of_ble_eq_true rfl) (by omega) ?_
    have hpb := pc_B (fsf a r (fr : Int))
    refine J_iconst dX0_countAnew_29 ?_
    refine J_icmp_gt 45 dX0_countAnew_30 rfl (by omega) (by omega) (fun c30 => ?_) (fun c30 => ?_)
    · refine L_a0 dX0_countAnew_45 ?_
      refine L_i1 dX0_countAnew_46 ?_
      refine L_i2 dX0_countAnew_47 ?_
      refine C_v2I vX0_89 dX0_countAnew_48 (qX0_countByPlace hC hG ha h_s h_fr (by omega) (fun e => by rw [e] at hfb; rw [show fsf a r ((fr : Nat) : Int) = 0 from by rw [e]; have := hfb; omega, pc_0] at c30; omega)) rfl rfl (Nat.le_of_ble_eq_true rfl) (by omega) (fun v48 hp48 hq48 => ?_)
      obtain ⟨rfl, S48, rfl, hG48, hF48⟩ := hq48
      exact RQ_i rfl dX0_countAnew_51 (by first | exact ⟨hnum.symm, S39, rfl, hG39, hF39⟩ | exact ⟨rfl, S48, rfl, hG48, hF48⟩)
    · refine L_a0 dX0_countAnew_33 ?_
      refine L_i1 dX0_countAnew_34 ?_
      refine L_i2 dX0_countAnew_35 ?_
      refine L_i3 dX0_countAnew_36 ?_
      refine L_i4 dX0_countAnew_37 ?_
      refine C_v4I vX0_85 dX0_countAnew_39 (qX0_countByNumber hC hG ha h_s h_fr (by omega) hsc.1) rfl rfl (Nat.le_of_ble_eq_true rfl) (by omega) (fun v39 hp39 hq39 => ?_)
      obtain ⟨rfl, S39, rfl, hG39, hF39⟩ := hq39
      refine E_goto 51 dX0_countAnew_42 rfl ?_
      exact RQ_i rfl dX0_countAnew_51 (by first | exact ⟨hnum.symm, S39, rfl, hG39, hF39⟩ | exact ⟨rfl, S48, rfl, hG48, hF48⟩)
  · exfalso; exact c11 hsc.1
set_option maxRecDepth 100000 in
theorem qX0_countS {d m : Nat} (hC : m = 0 ∨ ∃ n, m = n + 1 ∧ CNT d n) (hd2 : 2 ≤ d) : CNT (d + 3) m := by
  intro S T D a hG ha s fr h_s h_fr hm
  have ho : ∀ k, k < 8 → 1 ≤ fa a k := by have := hG.o; rw [ha] at this; exact this
  have hpcB := pc_B (s : Int)
  have hpfB := pc_B (fr : Int)
  have epc : pc (s : Int) = ((pcn 16 s : Nat) : Int) := rfl
  have epf : pc (fr : Int) = ((pcn 16 fr : Nat) : Int) := rfl
  have hpm := pcn_mem h_s
  have hsl := slt_B (fky (S 21 7) 0 (s : Int) (fr : Int))
  have hkb := hG.kB hsl
  have hyb := fky_B hG.2.2.2 (q := 0) (s := (s : Int)) (fr := (fr : Int)) (by omega) (by omega) (by omega)
  refine Sp.of [.ref 21, .int (jI (s : Int)), .int (jI (fr : Int)), .retAddr 0, .retAddr 0, .retAddr 0, .retAddr 0, .retAddr 0] (by decide) (by simp) (Nat.le_of_ble_eq_true rfl) rfl (fun E => ?_)
  refine L_i1 dX0_count_0 ?_
  refine J_if_ne 6 dX0_count_1 rfl (by omega) (fun c1 => ?_) (fun c1 => ?_)
  · refine L_i1 dX0_count_6 ?_
    refine C_s1F vX0_60 dX0_count_7 (sJ_bitCount (by omega)) (Nat.le_of_ble_eq_true rfl) (by omega) ?_
    refine S_i3 dX0_count_10 (by decide) rfl ?_
    refine L_i3 dX0_count_11 ?_
    refine J_iconst dX0_count_12 ?_
    refine J_icmp_ne 33 dX0_count_13 rfl (by omega) (by omega) (fun c13 => ?_) (fun c13 => ?_)
    · refine L_i2 dX0_count_33 ?_
      refine C_s1F vX0_60 dX0_count_34 (sJ_bitCount (by omega)) (Nat.le_of_ble_eq_true rfl) (by omega) ?_
      refine J_iconst dX0_count_37 ?_
      refine L_i3 dX0_count_38 ?_
      refine J_imul dX0_count_39 ?_
      refine J_icmp_ge 45 dX0_count_40 rfl (by omega) (by omega) (fun c40 => ?_) (fun c40 => ?_)
      · have hmpos : m ≠ 0 := fun e => by have := pcn_pos 16 s (by omega) (by omega); omega
        obtain ⟨m1, hm1, hC⟩ := hC.resolve_left hmpos
        refine L_a0 dX0_count_45 ?_
        refine J_iconst dX0_count_46 ?_
        refine L_i1 dX0_count_47 ?_
        refine L_i2 dX0_count_48 ?_
        refine C_v3F vX0_67 dX0_count_49 (qX0_keyOf hG (by omega) h_s h_fr) rfl rfl (Nat.le_of_ble_eq_true rfl) (by omega) ?_
        refine S_l4 dX0_count_52 (by decide) rfl ?_
        refine L_l4 dX0_count_54 ?_
        refine C_s1F vX0_71 dX0_count_56 qX0_slotOf (Nat.le_of_ble_eq_true rfl) (by omega) ?_
        refine S_i6 dX0_count_59 (by decide) rfl ?_
        refine L_a0 dX0_count_61 ?_
        refine GW_21_3 fX0_21 dX0_count_62 ?_
        refine L_i6 dX0_count_65 ?_
        refine AR_25 dX0_count_67 (by omega) ?_
        refine L_l4 dX0_count_68 ?_
        refine JL_ne 82 dX0_count_70 dX0_count_71 rfl (by omega) (by omega) (fun c71 => ?_) (fun c71 => ?_)
        · refine L_a0 dX0_count_82 ?_
          refine L_i1 dX0_count_83 ?_
          refine L_i2 dX0_count_84 ?_
          refine C_v2I vX0_75 dX0_count_85 (qX0_countAnew hC hG ha h_s h_fr (by omega) (by omega)) rfl rfl (Nat.le_of_ble_eq_true rfl) (by omega) (fun v85 hp85 hq85 => ?_)
          obtain ⟨rfl, S85, rfl, hG85, hF85⟩ := hq85
          refine S_i7 dX0_count_88 (by decide) rfl ?_
          refine L_a0 dX0_count_90 ?_
          refine L_i6 dX0_count_91 ?_
          refine L_l4 dX0_count_93 ?_
          refine L_i7 dX0_count_95 ?_
          refine C_v3V vX0_78 dX0_count_97 (qX0_remember hsl) rfl rfl (Nat.le_of_ble_eq_true rfl) (by omega) ?_
          refine L_i7 dX0_count_100 ?_
          exact RQ_i rfl dX0_count_102 ⟨rfl, _, rfl, by have := (fr22 hF85); have hh := hG85.rem (sl := slt (fky (S 21 7) 0 (s : Int) (fr : Int))) (q := 0) (s := (s : Int)) (fr := (fr : Int)) (v := ((cn (fa a) s fr : Nat) : Int)) (by omega) (by omega) (by omega) (by rw [this.1, ha]; unfold fan; rw [if_pos rfl, Int.toNat_natCast, Int.toNat_natCast]); rw [this.2.1] at hh; exact hh, hF85.trans (frm_Fr S85 _ _ _)⟩
        · refine L_a0 dX0_count_74 ?_
          refine GW_21_4 fX0_25 dX0_count_75 ?_
          refine L_i6 dX0_count_78 ?_
          refine AR_26 dX0_count_80 (by omega) ?_
          exact RQ_i rfl dX0_count_81 ⟨by rw [hG.hit hsl (by omega) (by omega) (by omega) c71, ha]; unfold fan; rw [if_pos rfl, Int.toNat_natCast, Int.toNat_natCast], S, rfl, hG, Fr.refl _ _⟩
      · refine J_iconst dX0_count_43 ?_
        exact RQ_i rfl dX0_count_44 ⟨by rw [cn_few ho h_fr (by omega)]; rfl, S, rfl, hG, Fr.refl _ _⟩
    · obtain ⟨k1, hk8, hlo, hone⟩ := cn_one (a := a) h_s h_fr (by omega)
      have hA1 := hG.a ((k1 : Int) + 1) (by omega)
      have hfb := fsf_B a ((k1 : Int) + 1) (fr := (fr : Int)) (by omega)
      refine L_i2 dX0_count_16 ?_
      refine L_i2 dX0_count_17 ?_
      refine L_a0 dX0_count_18 ?_
      refine GW_21_0 fX0_11 dX0_count_19 ?_
      refine L_i1 dX0_count_22 ?_
      refine C_s1F vX0_64 dX0_count_23 (qX0_lowestOf (by omega)) (Nat.le_of_ble_eq_true rfl) (by omega) ?_
      refine J_eqi (b := (k1 : Int) + 1) (by rw [if_neg (by omega), hlo]) ?_
      refine AR_22 dX0_count_26 (by omega) ?_
      refine J_iushrG dX0_count_27 (by omega) (by omega) ?_
      refine J_iandG dX0_count_28 (by omega) (ediv2_B (by omega) _).1 ?_
      refine J_eqi (b := fsf a ((k1 : Int) + 1) (fr : Int)) (by rw [ha]; rfl) ?_
      refine C_s1F vX0_60 dX0_count_29 (sJ_bitCount (by omega)) (Nat.le_of_ble_eq_true rfl) (by omega) ?_
      exact RQ_i rfl dX0_count_32 ⟨hone.symm, S, rfl, hG, Fr.refl _ _⟩
  · refine J_iconst dX0_count_4 ?_
    exact RQ_i rfl dX0_count_5 ⟨by rw [show s = 0 from by omega]; rfl, S, rfl, hG, Fr.refl _ _⟩
theorem CNT_all : ∀ m : Nat, CNT (3 * m + 5) m := by
  intro m
  induction m with
  | zero => exact qX0_countS (d := 2) (Or.inl rfl) (by omega)
  | succ m ih => exact qX0_countS (d := 3 * m + 5) (Or.inr ⟨m, rfl, ih⟩) (by omega)
theorem qX0_count {S T : Nat → Int → Int} {D : List mx_C} {a : Int → Int} (hG : FGo S) (ha : S 22 = a) {s fr : Nat} (h_s : s < 256) (h_fr : fr < 65536) : SpI yX0_count cX0_count 8 (some .int) 53 [.ref 21, .int (jI (s : Int)), .int (jI (fr : Int))] (W5 S T D) (CQo S T D ((cn (fa a) s fr : Nat) : Int)) := CNT_all 16 S T D a hG ha s fr h_s h_fr (pcn_le 16 fr)
