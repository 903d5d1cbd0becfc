/-! ===== ways, counted otherwise: the round, threes, the game ===== -/
theorem lsm_cyc (f : Nat → Nat) (c : Nat) : lsm (fun q => f ((q + 1) % c)) (List.range c) = lsm f (List.range c) := by
  cases c with
  | zero => rfl
  | succ n =>
    have e : lsm (fun q => f ((q + 1) % (n + 1))) (List.range (n + 1)) = lsm (fun q => f (q + 1)) (List.range n) + f 0 := by
      rw [lsm_rs, Nat.mod_self]
      congr 1
      refine lsm_congr (fun q hq => ?_)
      have := List.mem_range.mp hq
      rw [Nat.mod_eq_of_lt (by omega)]
    rw [e, List.range_succ_eq_map, lsm, lsm_map, Nat.add_comm]
theorem rom_bit {st pl p i : Nat} : (rom st pl p).testBit i = true ↔ p = i ∨ (p + st) % pl = i := by
  unfold rom
  rw [Nat.testBit_or, Bool.or_eq_true, Nat.testBit_two_pow, Nat.testBit_two_pow, decide_eq_true_iff, decide_eq_true_iff]
theorem sbs_rom {st pl p fr : Nat} : sbs (rom st pl p) fr = true ↔ fr.testBit p = true ∧ fr.testBit ((p + st) % pl) = true := by
  rw [sbs_iff]
  constructor
  · intro h; exact ⟨h p (rom_bit.mpr (Or.inl rfl)), h _ (rom_bit.mpr (Or.inr rfl))⟩
  · intro h i hi
    rcases rom_bit.mp hi with e | e
    · exact e ▸ h.1
    · exact e ▸ h.2
theorem mod_add {p w pl : Nat} (hp : p < pl) (hw : w < pl) : (p + w) % pl = if p + w < pl then p + w else p + w - pl := by
  split
  · next h => exact Nat.mod_eq_of_lt h
  · next h => rw [Nat.mod_eq_sub_mod (by omega), Nat.mod_eq_of_lt (by omega)]
theorem rol_ok {st pl : Nat} (hst : st < pl) (hpl : pl ≤ 16) : (∀ fr, fr < 65536 → lsm (fun m => if sbs m fr = true then 1 else 0) (rol st pl) ≤ pcn 16 fr) ∧ ∀ m, m ∈ rol st pl → m < 65536 → pcn 16 m = 2 := by
  constructor
  · intro fr _
    have hc : rcn st pl ≤ 16 := by unfold rcn; split; omega; split <;> omega
    rw [rol, lsm_map, ← pcn_sum]
    have h1 : lsm (fun p => if sbs (rom st pl p) fr = true then 1 else 0) (List.range (rcn st pl)) ≤ lsm (fun p => if fr.testBit p = true then 1 else 0) (List.range (rcn st pl)) := by
      refine lsm_le (fun p _ => ?_)
      by_cases h : sbs (rom st pl p) fr = true
      · rw [if_pos h, if_pos (sbs_rom.mp h).1]; exact Nat.le_refl _
      · rw [if_neg h]; exact Nat.zero_le _
    refine Nat.le_trans h1 ?_
    have e : 16 = rcn st pl + (16 - rcn st pl) := by omega
    rw [e, List.range_add, lsm_append]
    exact Nat.le_add_right _ _
  · intro m hm _
    obtain ⟨p, hp, e⟩ := List.mem_map.mp hm
    have hp := List.mem_range.mp hp
    subst e
    have h0 : st ≠ 0 ∧ p < pl := by
      unfold rcn at hp
      split at hp
      · omega
      · split at hp <;> omega
    have hq := mod_add h0.2 hst
    have hq2 : (p + st) % pl < 16 ∧ (p + st) % pl ≠ p := by rw [hq]; split <;> omega
    unfold rom
    rw [pcn_or, pcn_pow 16 p (by omega), pcn_pow 16 _ hq2.1]
    apply bits_ext
    intro i
    rw [Nat.testBit_and, Bool.and_eq_true, Nat.zero_testBit, Nat.testBit_two_pow, Nat.testBit_two_pow, decide_eq_true_iff, decide_eq_true_iff]
    exact ⟨fun h => absurd (h.2.trans h.1.symm) hq2.2, fun h => absurd h (by decide)⟩
def rsl (a : Nat → Nat) (pl s : Nat) : List (List Nat) := (mem s).map (fun k => rol (a k % pl) pl)
/-- in how many ways all of a set find place in the round -/
def rn (a : Nat → Nat) (pl s fr : Nat) : Nat := wg (rsl a pl s) fr
theorem rsl_len (a : Nat → Nat) (pl s : Nat) : (rsl a pl s).length = (mem s).length := List.length_map _
theorem rsl_mem {a : Nat → Nat} {pl s : Nat} (hpl : 0 < pl) {os : List Nat} (h : os ∈ rsl a pl s) : ∃ d, d < pl ∧ os = rol d pl := by
  obtain ⟨k, h1, h2⟩ := List.mem_map.mp h
  exact ⟨a k % pl, Nat.mod_lt _ hpl, h2.symm⟩
theorem rn_B {a : Nat → Nat} {pl s fr : Nat} (hpl : 0 < pl ∧ pl ≤ 16) (hfr : fr < 65536) : rn a pl s fr ≤ 10321920 :=
  wg_B hfr (by rw [rsl_len]; exact memN_len s 8) (fun os ho => by
    obtain ⟨d, h1, h2⟩ := rsl_mem hpl.1 ho
    rw [h2]
    exact ⟨(rol_ok h1 hpl.2).1, fun m hm hl => by rw [(rol_ok h1 hpl.2).2 m hm hl]; exact Nat.le_refl _⟩)
theorem rn_few {a : Nat → Nat} {pl s fr : Nat} (hpl : 0 < pl ∧ pl ≤ 16) (hfr : fr < 65536) (h : pcn 16 fr < 2 * (mem s).length) : rn a pl s fr = 0 := by
  rcases Nat.eq_zero_or_pos (rn a pl s fr) with h1 | h1
  · exact h1
  · have h2 := wg_few (c := 2) (rsl a pl s) fr hfr (fun os ho m hm hl => by
      obtain ⟨d, h1, h2⟩ := rsl_mem hpl.1 ho
      rw [h2] at hm
      exact (rol_ok h1 hpl.2).2 m hm hl) (Nat.pos_iff_ne_zero.mp h1)
    rw [rsl_len] at h2
    omega
theorem rol_pl {w pl p fr : Nat} (hw : w < pl) (hp : p < pl) (F : Nat → Nat) : lsm (fun m => if (m.testBit p && sbs m fr) = true then F m else 0) (rol w pl) = (if w ≠ 0 ∧ sbs (rom w pl p) fr = true then F (rom w pl p) else 0) + (if rom (pl - w) pl p ≠ rom w pl p ∧ sbs (rom (pl - w) pl p) fr = true then F (rom (pl - w) pl p) else 0) := by
  rw [rol, lsm_map]
  by_cases h0 : w = 0
  · subst h0
    have e : rom (pl - 0) pl p = rom 0 pl p := by unfold rom; rw [Nat.sub_zero, Nat.add_mod_right, Nat.add_zero]
    have e2 : rcn 0 pl = 0 := rfl
    rw [e2, if_neg (fun h => h.1 rfl), if_neg (fun h => h.1 e)]
    rfl
  have hb : (p + (pl - w)) % pl = if p < w then p + (pl - w) else p - w := by
    by_cases h : p < w
    · rw [if_pos h, Nat.mod_eq_of_lt (by omega)]
    · rw [if_neg h, Nat.mod_eq_sub_mod (by omega), Nat.mod_eq_of_lt (by omega)]; omega
  have ho := mod_add hp hw
  by_cases h2 : 2 * w = pl
  · have ec : rcn w pl = w := by unfold rcn; rw [if_neg h0, if_pos h2]; omega
    have e : rom (pl - w) pl p = rom w pl p := by
      have : pl - w = w := by omega
      rw [this]
    rw [if_neg (fun h : rom (pl - w) pl p ≠ rom w pl p ∧ sbs (rom (pl - w) pl p) fr = true => h.1 e), Nat.add_zero, ec]
    let q := if p < w then p else p - w
    have hq : q < w ∧ rom w pl q = rom w pl p := by
      refine ⟨by show (if p < w then p else p - w) < w; split <;> omega, ?_⟩
      apply bits_ext
      intro i
      rw [rom_bit, rom_bit, ho]
      show (if p < w then p else p - w) = i ∨ ((if p < w then p else p - w) + w) % pl = i ↔ _
      by_cases hpw : p < w
      · rw [if_pos hpw, ho]
      · rw [if_neg hpw, mod_add (by omega) hw]
        have e1 : p - w + w < pl := by omega
        rw [if_pos e1, if_neg (by omega)]
        constructor
        · rintro (h | h)
          · right; omega
          · left; omega
        · rintro (h | h)
          · right; omega
          · left; omega
    have hpq : (rom w pl q).testBit p = true := by rw [hq.2]; exact rom_bit.mpr (Or.inl rfl)
    refine (lsm_single (x := q) List.nodup_range (List.mem_range.mpr hq.1) (fun z hz hne => if_neg (fun hh => hne ?_))).trans ?_
    · rw [Bool.and_eq_true] at hh
      have hz := List.mem_range.mp hz
      show z = if p < w then p else p - w
      rcases rom_bit.mp hh.1 with e | e
      · rw [if_pos (by omega)]; exact e
      · rw [mod_add (by omega) hw, if_pos (by omega)] at e
        rw [if_neg (by omega)]; omega
    · rw [hpq, Bool.true_and, hq.2]
      by_cases h3 : sbs (rom w pl p) fr = true
      · rw [if_pos h3, if_pos ⟨h0, h3⟩]
      · rw [if_neg h3, if_neg (fun h => h3 h.2)]
  · have ec : rcn w pl = pl := by unfold rcn; rw [if_neg h0, if_neg h2]
    let q := if p < w then p + (pl - w) else p - w
    have hq : q < pl ∧ q ≠ p ∧ rom w pl q = rom (pl - w) pl p ∧ rom (pl - w) pl p ≠ rom w pl p := by
      refine ⟨by show (if p < w then p + (pl - w) else p - w) < pl; split <;> omega, by show (if p < w then p + (pl - w) else p - w) ≠ p; split <;> omega, ?_, ?_⟩
      · apply bits_ext
        intro i
        rw [rom_bit, rom_bit, hb]
        show (if p < w then p + (pl - w) else p - w) = i ∨ ((if p < w then p + (pl - w) else p - w) + w) % pl = i ↔ _
        by_cases hpw : p < w
        · rw [if_pos hpw, mod_add (by omega) hw, if_neg (by omega)]
          constructor
          · rintro (h | h)
            · exact Or.inr h
            · left; omega
          · rintro (h | h)
            · right; omega
            · exact Or.inl h
        · rw [if_neg hpw, mod_add (by omega) hw, if_pos (by omega)]
          constructor
          · rintro (h | h)
            · exact Or.inr h
            · left; omega
          · rintro (h | h)
            · right; omega
            · exact Or.inl h
      · intro e
        have h3 : (rom w pl p).testBit ((p + (pl - w)) % pl) = true := by rw [← e]; exact rom_bit.mpr (Or.inr rfl)
        rcases rom_bit.mp h3 with h4 | h4
        · rw [hb] at h4; split at h4 <;> omega
        · rw [hb, ho] at h4; split at h4 <;> split at h4 <;> omega
    have hpp : (rom w pl p).testBit p = true := rom_bit.mpr (Or.inl rfl)
    have hqp : (rom (pl - w) pl p).testBit p = true := rom_bit.mpr (Or.inl rfl)
    rw [ec]
    have hsplit : ∀ z, z ∈ List.range pl → (if ((rom w pl z).testBit p && sbs (rom w pl z) fr) = true then F (rom w pl z) else 0) = (if z = p then (if sbs (rom w pl p) fr = true then F (rom w pl p) else 0) else 0) + (if z = q then (if sbs (rom (pl - w) pl p) fr = true then F (rom (pl - w) pl p) else 0) else 0) := by
      intro z hz
      have hz := List.mem_range.mp hz
      by_cases e1 : z = p
      · rw [e1, hpp, Bool.true_and, if_pos (rfl : p = p), if_neg (fun e : p = q => hq.2.1 e.symm), Nat.add_zero]
      · by_cases e2 : z = q
        · rw [if_neg e1, if_pos e2, Nat.zero_add, e2, hq.2.2.1, hqp, Bool.true_and]
        · rw [if_neg e1, if_neg e2, if_neg]
          rw [Bool.and_eq_true]
          intro hh
          rcases rom_bit.mp hh.1 with e | e
          · exact e1 e
          · apply e2
            show z = if p < w then p + (pl - w) else p - w
            rw [mod_add hz hw] at e
            split at e <;> split <;> omega
    rw [lsm_congr hsplit, lsm_add]
    have s1 : lsm (fun z => if z = p then (if sbs (rom w pl p) fr = true then F (rom w pl p) else 0) else 0) (List.range pl) = if sbs (rom w pl p) fr = true then F (rom w pl p) else 0 :=
      (lsm_single (x := p) List.nodup_range (List.mem_range.mpr hp) (fun z _ hne => if_neg hne)).trans (if_pos rfl)
    have s2 : lsm (fun z => if z = q then (if sbs (rom (pl - w) pl p) fr = true then F (rom (pl - w) pl p) else 0) else 0) (List.range pl) = if sbs (rom (pl - w) pl p) fr = true then F (rom (pl - w) pl p) else 0 :=
      (lsm_single (x := q) List.nodup_range (List.mem_range.mpr hq.1) (fun z _ hne => if_neg hne)).trans (if_pos rfl)
    rw [s1, s2]
    congr 1
    · by_cases h3 : sbs (rom w pl p) fr = true
      · rw [if_pos h3, if_pos ⟨h0, h3⟩]
      · rw [if_neg h3, if_neg (fun h => h3 h.2)]
    · by_cases h3 : sbs (rom (pl - w) pl p) fr = true
      · rw [if_pos h3, if_pos ⟨hq.2.2.2, h3⟩]
      · rw [if_neg h3, if_neg (fun h => h3 h.2)]
theorem rn_alike {a : Nat → Nat} {pl s k l : Nat} (hk : k ∈ mem s) (hl : l ∈ mem s) (e : a k = a l) (fr : Nat) : rn a pl (nd s (2 ^ k)) fr = rn a pl (nd s (2 ^ l)) fr := by
  have h1 := (perm_out (memN_nodup s 8) hk).map (fun k => rol (a k % pl) pl)
  have h2 := (perm_out (memN_nodup s 8) hl).map (fun k => rol (a k % pl) pl)
  rw [List.map_cons, ← memN_out] at h1 h2
  rw [e] at h1
  unfold rn rsl
  exact wg_perm ((List.perm_cons _).mp (h1.symm.trans h2)) fr
/-- what one adds at a place of the round -/
def rnc (a : Nat → Nat) (pl s fr p k : Nat) : Nat := (if a k % pl ≠ 0 ∧ sbs (rom (a k % pl) pl p) fr = true then rn a pl (nd s (2 ^ k)) (nd fr (rom (a k % pl) pl p)) else 0) + (if rom (pl - a k % pl) pl p ≠ rom (a k % pl) pl p ∧ sbs (rom (pl - a k % pl) pl p) fr = true then rn a pl (nd s (2 ^ k)) (nd fr (rom (pl - a k % pl) pl p)) else 0)
theorem rn_placeS {a : Nat → Nat} {pl s fr p : Nat} (hpl : 0 < pl ∧ pl ≤ 16) (hfr : fr < 65536) (hp : fr.testBit p = true) (hpp : p < pl) (hm : pcn 16 fr = 2 * (mem s).length) : rn a pl s fr = lsm (fun k => if spkS a s k = true then alN a s k * rnc a pl s fr p k else 0) (List.range 8) := by
  rw [← spk_sumS]
  · unfold rn
    rw [wg_place p]
    have hz : wg (rsl a pl s) (nd fr (2 ^ p)) = 0 := by
      refine rn_few (a := a) (s := s) hpl (nd_lt hfr) ?_
      have h1 : sbs (2 ^ p) fr = true := sbs_iff.mpr (fun i hi => by
        rw [Nat.testBit_two_pow, decide_eq_true_iff] at hi
        exact hi ▸ hp)
      have h2 := pcn_nd 16 h1
      rw [pcn_pow 16 p (bit_lt hfr hp)] at h2
      omega
    rw [hz, Nat.zero_add]
    unfold rsl
    rw [pkl_map, lsm_map, pkl_nodup (memN_nodup s 8), lsm_map]
    refine lsm_congr (fun k hk => ?_)
    show lsm (fun m => if (m.testBit p && sbs m fr) = true then wg (((mem s).filter (fun j => j != k)).map (fun k => rol (a k % pl) pl)) (nd fr m) else 0) (rol (a k % pl) pl) = _
    rw [← memN_out, rol_pl (Nat.mod_lt _ hpl.1) hpp]
    rfl
  · intro k l hk hl e
    unfold rnc
    rw [e, rn_alike hk hl e, rn_alike hk hl e]
/-- the round looks alike from each place -/
theorem wg_rot {pl : Nat} (hpl : 0 < pl) : ∀ (L : List (List Nat)) (fr fr' : Nat), (∀ os, os ∈ L → ∃ d, d < pl ∧ os = rol d pl) → fr < 2 ^ pl → fr' < 2 ^ pl → (∀ i, i < pl → (fr'.testBit ((i + 1) % pl) = true ↔ fr.testBit i = true)) → wg L fr' = wg L fr := by
  intro L
  induction L with
  | nil => intro fr fr' _ _ _ _; rfl
  | cons os L ih =>
    intro fr fr' hL h1 h2 hr
    obtain ⟨w, hw, e⟩ := hL os List.mem_cons_self
    subst e
    rw [wg_cons, wg_cons, rol, lsm_map, lsm_map, ← lsm_cyc]
    refine lsm_congr (fun q hq => ?_)
    have hq := List.mem_range.mp hq
    have h0 : w ≠ 0 ∧ q < pl := by
      unfold rcn at hq
      split at hq
      · omega
      · split at hq <;> omega
    have hmodlt : ∀ x, x % pl < pl := fun x => Nat.mod_lt x hpl
    -- the mask one further on
    have hm : ∀ i, i < pl → ((rom w pl ((q + 1) % rcn w pl)).testBit ((i + 1) % pl) = true ↔ (rom w pl q).testBit i = true) := by
      intro i hi
      rw [rom_bit, rom_bit, mod_add h0.2 hw]
      by_cases h3 : 2 * w = pl
      · have ec : rcn w pl = w := by unfold rcn; rw [if_neg h0.1, if_pos h3]; omega
        rw [ec] at hq ⊢
        have ei : (i + 1) % pl = if i + 1 = pl then 0 else i + 1 := by
          split
          · next h => rw [h, Nat.mod_self]
          · exact Nat.mod_eq_of_lt (by omega)
        have eq : (q + 1) % w = if q + 1 = w then 0 else q + 1 := by
          split
          · next h => rw [h, Nat.mod_self]
          · exact Nat.mod_eq_of_lt (by omega)
        have e5 : (if q + w < pl then q + w else q + w - pl) = q + w := if_pos (by omega)
        rw [ei, eq, e5]
        by_cases h4 : q + 1 = w
        · rw [if_pos h4, Nat.zero_add, Nat.mod_eq_of_lt hw]
          split <;> omega
        · rw [if_neg h4, Nat.mod_eq_of_lt (by omega)]
          split <;> omega
      · have ec : rcn w pl = pl := by unfold rcn; rw [if_neg h0.1, if_neg h3]
        rw [ec]
        have ei : (i + 1) % pl = if i + 1 = pl then 0 else i + 1 := by
          split
          · next h => rw [h, Nat.mod_self]
          · exact Nat.mod_eq_of_lt (by omega)
        have eq : (q + 1) % pl = if q + 1 = pl then 0 else q + 1 := by
          split
          · next h => rw [h, Nat.mod_self]
          · exact Nat.mod_eq_of_lt (by omega)
        rw [ei, mod_add (hmodlt _) hw, eq]
        split <;> split <;> split <;> split <;> omega
    have hsb : sbs (rom w pl ((q + 1) % rcn w pl)) fr' = true ↔ sbs (rom w pl q) fr = true := by
      rw [sbs_iff, sbs_iff]
      constructor
      · intro h i hi
        have hi2 : i < pl := by
          rcases rom_bit.mp hi with e | e
          · omega
          · rw [← e]; exact hmodlt _
        exact (hr i hi2).mp (h _ ((hm i hi2).mpr hi))
      · intro h j hj
        have hj2 : j < pl := by
          have hc : (q + 1) % rcn w pl < rcn w pl := Nat.mod_lt _ (by omega)
          have hc2 : rcn w pl ≤ pl := by unfold rcn; split; omega; split <;> omega
          rcases rom_bit.mp hj with e | e
          · omega
          · rw [← e]; exact hmodlt _
        have hj3 : ((j + (pl - 1)) % pl + 1) % pl = j := by
          rw [Nat.mod_add_mod, show j + (pl - 1) + 1 = j + pl from by omega, Nat.add_mod_right, Nat.mod_eq_of_lt hj2]
        have h5 := hmodlt (j + (pl - 1))
        have h6 := hm _ h5
        rw [hj3] at h6
        have h7 := hr _ h5
        rw [hj3] at h7
        exact h7.mpr (h _ (h6.mp hj))
    by_cases h4 : sbs (rom w pl q) fr = true
    · rw [if_pos h4, if_pos (hsb.mpr h4)]
      refine ih _ _ (fun o ho => hL o (List.mem_cons_of_mem _ ho)) (nd_lt h1) (nd_lt h2) (fun i hi => ?_)
      rw [nd_iff, nd_iff, hr i hi, hm i hi]
    · rw [if_neg h4, if_neg (fun h => h4 (hsb.mp h))]
theorem wg_rotN {pl w : Nat} (hw : w < pl) (hw0 : w ≠ 0) (L : List (List Nat)) (hL : ∀ os, os ∈ L → ∃ d, d < pl ∧ os = rol d pl) : ∀ q, q < rcn w pl → wg L (nd (2 ^ pl - 1) (rom w pl q)) = wg L (nd (2 ^ pl - 1) (rom w pl 0)) := by
  intro q
  have hall : 2 ^ pl - 1 < 2 ^ pl := by have : 0 < 2 ^ pl := Nat.two_pow_pos pl; omega
  have hc2 : rcn w pl ≤ pl := by unfold rcn; split; omega; split <;> omega
  induction q with
  | zero => intro _; rfl
  | succ q ih =>
    intro hq
    rw [← ih (by omega)]
    refine wg_rot (by omega) L _ _ hL (nd_lt hall) (nd_lt hall) (fun i hi => ?_)
    rw [nd_iff, nd_iff, Nat.testBit_two_pow_sub_one, Nat.testBit_two_pow_sub_one, decide_eq_true_iff, decide_eq_true_iff, rom_bit, rom_bit]
    have ei : (i + 1) % pl = if i + 1 = pl then 0 else i + 1 := by
      split
      · next h => rw [h, Nat.mod_self]
      · exact Nat.mod_eq_of_lt (by omega)
    rw [mod_add (by omega) hw, mod_add (by omega) hw, ei]
    split <;> split <;> split <;> omega
theorem rn_round {a : Nat → Nat} {pl s k : Nat} (hpl : 0 < pl) (hk : k < 8) (hs : s.testBit k = true) : rn a pl s (2 ^ pl - 1) = if a k % pl = 0 then 0 else rcn (a k % pl) pl * rn a pl (nd s (2 ^ k)) (nd (2 ^ pl - 1) (rom (a k % pl) pl 0)) := by
  have h := (perm_out (memN_nodup s 8) ((memN_mem 8 k).mpr ⟨hk, hs⟩)).map (fun k => rol (a k % pl) pl)
  rw [List.map_cons, ← memN_out] at h
  unfold rn rsl
  rw [wg_perm h, wg_cons, rol, lsm_map]
  by_cases h0 : a k % pl = 0
  · rw [if_pos h0, h0]; rfl
  · rw [if_neg h0, ← List.length_range (n := rcn (a k % pl) pl), ← lsm_len, List.length_range]
    refine lsm_congr (fun q hq => ?_)
    have hq := List.mem_range.mp hq
    have hw := Nat.mod_lt (a k) hpl
    have hc2 : rcn (a k % pl) pl ≤ pl := by unfold rcn; split; omega; split <;> omega
    rw [if_pos]
    · exact wg_rotN hw h0 _ (fun os ho => rsl_mem (a := a) hpl ho) q hq
    · rw [sbs_rom, Nat.testBit_two_pow_sub_one, Nat.testBit_two_pow_sub_one, decide_eq_true_iff, decide_eq_true_iff]
      exact ⟨by omega, Nat.mod_lt _ hpl⟩
/-! threes -/
def tm (d p : Nat) : Nat := pm d p ||| 2 ^ (p + 2 * d)
theorem tm_bit {d p i : Nat} : (tm d p).testBit i = true ↔ (p = i ∨ p + d = i) ∨ p + 2 * d = i := by
  unfold tm
  rw [Nat.testBit_or, Bool.or_eq_true, pm_bit, Nat.testBit_two_pow, decide_eq_true_iff]
theorem tm_pc {d p : Nat} (hd : 1 ≤ d) (h : tm d p < 65536) : pcn 16 (tm d p) = 3 := by
  have h1 := bit_lt h (tm_bit.mpr (Or.inr rfl) : (tm d p).testBit (p + 2 * d) = true)
  have h2 : pm d p < 65536 := by
    unfold pm
    exact Nat.or_lt_two_pow (Nat.pow_lt_pow_right (by decide) (by omega) : 2 ^ p < 2 ^ 16) (Nat.pow_lt_pow_right (by decide) (by omega))
  unfold tm
  rw [pcn_or, pm_pc hd h2, pcn_pow 16 _ h1]
  apply bits_ext
  intro i
  rw [Nat.testBit_and, Bool.and_eq_true, Nat.zero_testBit, pm_bit, Nat.testBit_two_pow, decide_eq_true_iff]
  exact ⟨fun h => by omega, fun h => absurd h (by decide)⟩
def tls (d : Nat) : List Nat := (List.range 16).map (tm d)
def tsl (a : Nat → Nat) (s : Nat) : List (List Nat) := (mem s).map (fun k => tls (a k))
def tn (a : Nat → Nat) (s fr : Nat) : Nat := wg (tsl a s) fr
theorem tn_zero (a : Nat → Nat) (fr : Nat) : tn a 0 fr = 1 := rfl
theorem tn_alike {a : Nat → Nat} {s k l : Nat} (hk : k ∈ mem s) (hl : l ∈ mem s) (e : a k = a l) (fr : Nat) : tn a (nd s (2 ^ k)) fr = tn a (nd s (2 ^ l)) fr := by
  have h1 := (perm_out (memN_nodup s 8) hk).map (fun k => tls (a k))
  have h2 := (perm_out (memN_nodup s 8) hl).map (fun k => tls (a k))
  rw [List.map_cons, ← memN_out] at h1 h2
  rw [e] at h1
  unfold tn tsl
  exact wg_perm ((List.perm_cons _).mp (h1.symm.trans h2)) fr
theorem tls_B {d : Nat} (fr : Nat) : lsm (fun m => if sbs m fr = true then 1 else 0) (tls d) ≤ pcn 16 fr := by
  rw [tls, lsm_map, ← pcn_sum]
  refine lsm_le (fun p _ => ?_)
  by_cases h : sbs (tm d p) fr = true
  · rw [if_pos h, if_pos (sbs_iff.mp h p (tm_bit.mpr (Or.inl (Or.inl rfl))))]; exact Nat.le_refl _
  · rw [if_neg h]; exact Nat.zero_le _
theorem tsl_mem {a : Nat → Nat} (ha : ∀ k, k < 8 → 1 ≤ a k) {s : Nat} {os : List Nat} (h : os ∈ tsl a s) : ∃ d, 1 ≤ d ∧ os = tls d := by
  obtain ⟨k, h1, h2⟩ := List.mem_map.mp h
  exact ⟨a k, ha k (memN_lt 8 k h1), h2.symm⟩
theorem tn_B {a : Nat → Nat} (ha : ∀ k, k < 8 → 1 ≤ a k) {s fr : Nat} (hfr : fr < 65536) : tn a s fr ≤ 10321920 :=
  wg_B hfr (by unfold tsl; rw [List.length_map]; exact memN_len s 8) (fun os ho => by
    obtain ⟨d, h1, h2⟩ := tsl_mem ha ho
    rw [h2]
    refine ⟨fun fr _ => tls_B fr, fun m hm hl => ?_⟩
    obtain ⟨p, _, e⟩ := List.mem_map.mp hm
    subst e
    rw [tm_pc h1 hl]
    decide)
theorem tn_few {a : Nat → Nat} (ha : ∀ k, k < 8 → 1 ≤ a k) {s fr : Nat} (hfr : fr < 65536) (h : pcn 16 fr < 3 * (mem s).length) : tn a s fr = 0 := by
  rcases Nat.eq_zero_or_pos (tn a s fr) with h1 | h1
  · exact h1
  · have h2 := wg_few (c := 3) (tsl a s) fr hfr (fun os ho m hm hl => by
      obtain ⟨d, h1, h2⟩ := tsl_mem ha ho
      rw [h2] at hm
      obtain ⟨p, _, e⟩ := List.mem_map.mp hm
      subst e
      exact tm_pc h1 hl) (Nat.pos_iff_ne_zero.mp h1)
    unfold tsl at h2
    rw [List.length_map] at h2
    omega
theorem tn_placeS {a : Nat → Nat} (ha : ∀ k, k < 8 → 1 ≤ a k) {s fr p : Nat} (hfr : fr < 65536) (hp : fr.testBit p = true) (hlow : ∀ i, i < p → ¬ fr.testBit i = true) (hm : pcn 16 fr = 3 * (mem s).length) : tn a s fr = lsm (fun k => if spkS a s k = true then alN a s k * (if sbs (tm (a k) p) fr = true then tn a (nd s (2 ^ k)) (nd fr (tm (a k) p)) else 0) else 0) (List.range 8) := by
  rw [← spk_sumS]
  · unfold tn
    rw [wg_place p]
    have hz : wg (tsl a s) (nd fr (2 ^ p)) = 0 := by
      refine tn_few (a := a) (s := s) ha (nd_lt hfr) ?_
      have h1 : sbs (2 ^ p) fr = true := sbs_iff.mpr (fun i hi => by
        rw [Nat.testBit_two_pow, decide_eq_true_iff] at hi
        exact hi ▸ hp)
      have h2 := pcn_nd 16 h1
      rw [pcn_pow 16 p (bit_lt hfr hp)] at h2
      omega
    rw [hz, Nat.zero_add]
    unfold tsl
    rw [pkl_map, lsm_map, pkl_nodup (memN_nodup s 8), lsm_map]
    refine lsm_congr (fun k hk => ?_)
    show lsm (fun m => if (m.testBit p && sbs m fr) = true then wg (((mem s).filter (fun j => j != k)).map (fun k => tls (a k))) (nd fr m) else 0) (tls (a k)) = _
    rw [← memN_out, tls, lsm_map]
    have hk8 := ha k (memN_lt 8 k hk)
    refine (lsm_single (x := p) List.nodup_range (List.mem_range.mpr (bit_lt hfr hp)) (fun z _ hne => if_neg (fun hh => ?_))).trans ?_
    · rw [Bool.and_eq_true] at hh
      have hz := sbs_iff.mp hh.2 z (tm_bit.mpr (Or.inl (Or.inl rfl)))
      rcases tm_bit.mp hh.1 with (e | e) | e
      · exact hne e
      · exact hlow z (by omega) hz
      · exact hlow z (by omega) hz
    · have e : (tm (a k) p).testBit p = true := tm_bit.mpr (Or.inl (Or.inl rfl))
      rw [e, Bool.true_and]
  · intro k l hk hl e
    rw [e, tn_alike hk hl e]
/-! the game -/
def gwd (a : Nat → Nat) : Nat → Nat → Nat → Bool
  | 0, _, _ => false
  | n + 1, s, fr => (mem s).any (fun k => (List.range 16).any (fun p => sbs (pm (a k) p) fr && !gwd a n (nd s (2 ^ k)) (nd fr (pm (a k) p))))
def gw (a : Nat → Nat) (s fr : Nat) : Bool := gwd a (mem s).length s fr
theorem gwd_perm {a : Nat → Nat} : ∀ (n s s' fr : Nat), ((mem s).map a).Perm ((mem s').map a) → gwd a n s fr = gwd a n s' fr := by
  intro n
  induction n with
  | zero => intro s s' fr _; rfl
  | succ n ih =>
    intro s s' fr h
    have half : ∀ s s', ((mem s).map a).Perm ((mem s').map a) → gwd a (n + 1) s fr = true → gwd a (n + 1) s' fr = true := by
      intro s s' h hs
      rw [gwd, List.any_eq_true] at hs ⊢
      obtain ⟨k, hk, hp⟩ := hs
      obtain ⟨k', hk', e⟩ := List.mem_map.mp (h.mem_iff.mp (List.mem_map.mpr ⟨k, hk, rfl⟩))
      refine ⟨k', hk', ?_⟩
      rw [List.any_eq_true] at hp ⊢
      obtain ⟨p, hp1, hp2⟩ := hp
      refine ⟨p, hp1, ?_⟩
      have h1 := (perm_out (memN_nodup s 8) hk).map a
      have h2 := (perm_out (memN_nodup s' 8) hk').map a
      rw [List.map_cons, ← memN_out] at h1 h2
      rw [e] at h2
      rw [e, ← ih (nd s (2 ^ k)) (nd s' (2 ^ k')) _ ((List.perm_cons _).mp (h1.symm.trans (h.trans h2)))]
      exact hp2
    cases h1 : gwd a (n + 1) s fr <;> cases h2 : gwd a (n + 1) s' fr
    · rfl
    · rw [half s' s h.symm h2] at h1; cases h1
    · rw [half s s' h h1] at h2; cases h2
    · rfl
theorem mem_out_len {s k : Nat} (h : k ∈ mem s) : (mem (nd s (2 ^ k))).length + 1 = (mem s).length := by
  have := (perm_out (memN_nodup s 8) h).length_eq
  rw [List.length_cons, ← memN_out] at this
  exact this.symm
theorem gw_zero (a : Nat → Nat) (fr : Nat) : gw a 0 fr = false := rfl
theorem gw_alike {a : Nat → Nat} {s k l : Nat} (hk : k ∈ mem s) (hl : l ∈ mem s) (e : a k = a l) (fr : Nat) : gw a (nd s (2 ^ k)) fr = gw a (nd s (2 ^ l)) fr := by
  have h1 := (perm_out (memN_nodup s 8) hk).map a
  have h2 := (perm_out (memN_nodup s 8) hl).map a
  rw [List.map_cons, ← memN_out] at h1 h2
  rw [e] at h1
  have e1 := mem_out_len hk
  have e2 := mem_out_len hl
  unfold gw
  rw [show (mem (nd s (2 ^ k))).length = (mem (nd s (2 ^ l))).length from by omega]
  exact gwd_perm _ _ _ _ ((List.perm_cons _).mp (h1.symm.trans h2))
/-- a first place by which it is won -/
def gfB (a : Nat → Nat) (s fr k p : Nat) : Bool := sbs (pm (a k) p) fr && !gw a (nd s (2 ^ k)) (nd fr (pm (a k) p))
theorem spkS_mem {a : Nat → Nat} {s k : Nat} (hk : k < 8) (h : spkS a s k = true) : k ∈ mem s := by
  unfold spkS at h
  rw [Bool.and_eq_true] at h
  exact (memN_mem 8 k).mpr ⟨hk, h.1⟩
theorem gw_iff {a : Nat → Nat} {s fr : Nat} : gw a s fr = true ↔ ∃ k, k < 8 ∧ spkS a s k = true ∧ ∃ p, p < 16 ∧ gfB a s fr k p = true := by
  unfold gw
  cases hn : (mem s).length with
  | zero =>
    constructor
    · intro h; cases h
    · rintro ⟨k, h0, h1, _⟩
      have hk := spkS_mem h0 h1
      have : mem s = [] := List.length_eq_zero_iff.mp hn
      rw [this] at hk
      cases hk
  | succ n =>
    rw [gwd, List.any_eq_true]
    constructor
    · rintro ⟨k, hk, hp⟩
      rw [List.any_eq_true] at hp
      obtain ⟨p, hp1, hp2⟩ := hp
      obtain ⟨k', h1, h2, h3⟩ := ex_min (L := mem s) (P := fun j => a k = a j) k hk rfl
      refine ⟨k', memN_lt 8 k' h1, ?_, p, List.mem_range.mp hp1, ?_⟩
      · unfold spkS
        rw [((memN_mem 8 k').mp h1).2, Bool.true_and]
        exact spkB_iff.mpr (fun l h4 h5 => h3 l h4 (h2.trans h5.symm))
      · unfold gfB
        rw [← h2, gw_alike h1 hk h2.symm]
        unfold gw
        rw [show (mem (nd s (2 ^ k))).length = n from by have := mem_out_len hk; omega]
        exact hp2
    · rintro ⟨k, h0, h1, p, hp, h2⟩
      have hk := spkS_mem h0 h1
      refine ⟨k, hk, ?_⟩
      rw [List.any_eq_true]
      refine ⟨p, List.mem_range.mpr hp, ?_⟩
      unfold gfB gw at h2
      rw [show (mem (nd s (2 ^ k))).length = n from by have := mem_out_len hk; omega] at h2
      exact h2
