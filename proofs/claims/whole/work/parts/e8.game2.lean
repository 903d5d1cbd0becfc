/-! ===== the game, alike on both sides ===== -/
theorem ixo_inj {l : List Nat} {k j : Nat} (hk : k ∈ l) (hj : j ∈ l) (e : ixo k l = ixo j l) : k = j := by
  rw [← (ixo_spec hk).2.1, ← (ixo_spec hj).2.1, e]
/-- s' is what is left of s, the numbers of the indices in used being out -/
def REM (s used s' : Nat) : Prop := ∀ k, s'.testBit k = true ↔ k ∈ mem s ∧ ¬ used.testBit (ixo k (mem s)) = true
theorem REM.zero {s : Nat} (hs : s < 256) : REM s 0 s := by
  intro k
  rw [memN_mem, Nat.zero_testBit]
  constructor
  · intro h
    refine ⟨⟨?_, h⟩, by decide⟩
    rcases Nat.lt_or_ge k 8 with q | q
    · exact q
    · exact absurd h (bit_out (pl := 8) hs q)
  · intro h; exact h.1.2
theorem REM.go {s used s' k : Nat} (h : REM s used s') (hk : k ∈ mem s) : REM s (used ||| 2 ^ ixo k (mem s)) (nd s' (2 ^ k)) := by
  intro j
  rw [nd_iff, h j, Nat.testBit_or, Nat.testBit_two_pow, Nat.testBit_two_pow, Bool.or_eq_true, decide_eq_true_iff, decide_eq_true_iff]
  constructor
  · rintro ⟨⟨h1, h2⟩, h3⟩
    exact ⟨h1, fun q => q.elim h2 (fun e => h3 (ixo_inj hk h1 e))⟩
  · rintro ⟨h1, h2⟩
    exact ⟨⟨h1, fun q => h2 (Or.inl q)⟩, fun e => h2 (Or.inr (by rw [e]))⟩
theorem REM.mem {s used s' k : Nat} (h : REM s used s') : k ∈ mem s' ↔ k ∈ mem s ∧ ¬ used.testBit (ixo k (mem s)) = true := by
  rw [memN_mem 8 k, h k]
  exact ⟨fun q => q.2, fun q => ⟨memN_lt 8 k q.1, q⟩⟩
def fstp (ok : Nat → Bool) : Nat → Nat → Option Nat
  | 0, _ => none
  | m + 1, p => if ok p = true then some p else fstp ok m (p + 1)
theorem fstp_c {ok : Nat → Bool} : ∀ m p, (fstp ok m p = none ∧ ∀ q, p ≤ q → q < p + m → ok q = false) ∨ (∃ q, fstp ok m p = some q ∧ (p ≤ q ∧ q < p + m) ∧ ok q = true ∧ ∀ q', p ≤ q' → q' < q → ok q' = false) := by
  intro m
  induction m with
  | zero => intro p; exact Or.inl ⟨rfl, fun q a b => by omega⟩
  | succ m ih =>
    intro p
    rw [fstp]
    by_cases h : ok p = true
    · rw [if_pos h]
      exact Or.inr ⟨p, rfl, by omega, h, fun q' a b => by omega⟩
    · rw [if_neg h]
      have h' : ok p = false := by simpa using h
      rcases ih (p + 1) with ⟨h1, h2⟩ | ⟨q, h1, h2, h3, h4⟩
      · refine Or.inl ⟨h1, fun q a b => ?_⟩
        by_cases e : q = p
        · rw [e]; exact h'
        · exact h2 q (by omega) (by omega)
      · refine Or.inr ⟨q, h1, by omega, h3, fun q' a b => ?_⟩
        by_cases e : q' = p
        · rw [e]; exact h'
        · exact h4 q' (by omega) b
theorem gpO_f {win : Nat → Nat → Bool} {ms : List Nat} {used full i d N : Nat} {dflt : Int} {ok : Nat → Bool} (hd : 1 ≤ d) (hN : N ≤ 16) (hok : ∀ q, q < N → (ok q = true ↔ (full &&& opm d 2 q = 0 ∧ win (used ||| 2 ^ i) (full ||| opm d 2 q) = false))) : ∀ m p, p + m = N → gpO win ms used full i dflt ((List.range' p m).map (opm d 2)) = (match fstp ok m p with | some q => 100 * (((ms.getD i 0 : Nat) : Int) + 1) + (q : Int) | none => dflt) := by
  intro m
  induction m with
  | zero => intro p _; rfl
  | succ m ih =>
    intro p hp
    rw [List.range'_succ, List.map_cons, gpO, fstp]
    by_cases h : ok p = true
    · rw [if_pos h, if_pos ((hok p (by omega)).mp h), opm2, lowF_pm hd (by omega)]
    · rw [if_neg h, if_neg (fun q => h ((hok p (by omega)).mpr q))]
      exact ih (p + 1) (by omega)
def fstk (used : Nat) (s : Nat) (ok : Nat → Nat → Bool) : List Nat → Int
  | [] => -1
  | k :: l => if used.testBit (ixo k (mem s)) = true then fstk used s ok l else (match fstp (ok k) 16 0 with | some q => 100 * ((k : Int) + 1) + (q : Int) | none => fstk used s ok l)
theorem fstp_cut {ok : Nat → Bool} {N : Nat} (hN : N ≤ 16) (h : ∀ q, N ≤ q → q < 16 → ok q = false) : fstp ok 16 0 = fstp ok N 0 := by
  rcases fstp_c (ok := ok) 16 0 with ⟨a1, a2⟩ | ⟨q, a1, a2, a3, a4⟩
  · rcases fstp_c (ok := ok) N 0 with ⟨b1, b2⟩ | ⟨z, b1, b2, b3, b4⟩
    · rw [a1, b1]
    · rw [a2 z (by omega) (by omega)] at b3; cases b3
  · rcases fstp_c (ok := ok) N 0 with ⟨b1, b2⟩ | ⟨z, b1, b2, b3, b4⟩
    · exfalso
      rcases Nat.lt_or_ge q N with k | k
      · rw [b2 q (by omega) (by omega)] at a3; cases a3
      · rw [h q k (by omega)] at a3; cases a3
    · rw [a1, b1]
      rcases Nat.lt_trichotomy q z with k | k | k
      · rw [b4 q (by omega) k] at a3; cases a3
      · rw [k]
      · rw [a4 z (by omega) k] at b3; cases b3
theorem gpI_f {win : Nat → Nat → Bool} {s used full pl : Nat} {st : Nat → Nat} {ok : Nat → Nat → Bool} (hst : ∀ k, k < 8 → 1 ≤ st k) (hpl : pl ≤ 16) (hok : ∀ k q, k ∈ mem s → ¬ used.testBit (ixo k (mem s)) = true → q + st k < pl → (ok k q = true ↔ (full &&& opm (st k) 2 q = 0 ∧ win (used ||| 2 ^ ixo k (mem s)) (full ||| opm (st k) 2 q) = false))) (hno : ∀ k q, k ∈ mem s → pl ≤ q + st k → ok k q = false) : ∀ (M pre : List Nat), pre ++ M = mem s → gpI win (mem s) used full pre.length (M.map (fun k => opl (st k) pl 2)) = fstk used s ok M := by
  intro M
  induction M with
  | nil => intro pre _; rfl
  | cons x M ih =>
    intro pre e
    have hx : x ∈ mem s := by rw [← e]; simp
    have hnd : ¬ x ∈ pre := by
      have := memN_nodup s 8
      rw [show memN s 8 = pre ++ x :: M from e.symm] at this
      have := (List.nodup_append.mp this).2.2
      exact fun q => this x q x List.mem_cons_self rfl
    have hi : ixo x (mem s) = pre.length := by rw [← e]; exact ixo_app pre hnd
    have hg : (mem s).getD pre.length 0 = x := by
      rw [← e, List.getD_eq_getElem?_getD, List.getElem?_append_right (Nat.le_refl _), Nat.sub_self]
      rfl
    have hr := ih (pre ++ [x]) (by rw [List.append_assoc]; exact e)
    rw [List.length_append, List.length_singleton] at hr
    rw [List.map_cons, gpI, fstk, hi]
    by_cases hu : used.testBit pre.length = true
    · rw [if_pos hu, if_pos hu]; exact hr
    · rw [if_neg hu, if_neg hu, hr]
      have hx8 := hst x (memN_lt 8 x hx)
      have hk := hok x
      rw [hi] at hk
      unfold opl
      rw [List.range_eq_range', gpO_f (ok := ok x) hx8 (N := pl - (2 - 1) * st x) (by omega) (fun q hq => hk q hx hu (by omega)) _ 0 (by omega), hg]
      rw [fstp_cut (N := pl - (2 - 1) * st x) (by omega) (fun q a b => hno x q hx (by omega))]
theorem fstk_c {used s : Nat} {ok : Nat → Nat → Bool} : ∀ M : List Nat, (fstk used s ok M = -1 ∧ ∀ k, k ∈ M → ¬ used.testBit (ixo k (mem s)) = true → ∀ q, q < 16 → ok k q = false) ∨ (0 ≤ fstk used s ok M ∧ ∃ k q, k ∈ M ∧ ¬ used.testBit (ixo k (mem s)) = true ∧ q < 16 ∧ ok k q = true) := by
  intro M
  induction M with
  | nil => exact Or.inl ⟨rfl, fun k h => absurd h (by simp)⟩
  | cons x M ih =>
    rw [fstk]
    by_cases hu : used.testBit (ixo x (mem s)) = true
    · rw [if_pos hu]
      rcases ih with ⟨h1, h2⟩ | ⟨h1, k, q, h2, h3⟩
      · refine Or.inl ⟨h1, fun k hk hn => ?_⟩
        rcases List.mem_cons.mp hk with z | z
        · rw [z] at hn; exact absurd hu hn
        · exact h2 k z hn
      · exact Or.inr ⟨h1, k, q, List.mem_cons_of_mem _ h2, h3⟩
    · rw [if_neg hu]
      rcases fstp_c (ok := ok x) 16 0 with ⟨a1, a2⟩ | ⟨q, a1, a2, a3, a4⟩
      · rw [a1]
        rcases ih with ⟨h1, h2⟩ | ⟨h1, k, q, h2, h3⟩
        · refine Or.inl ⟨h1, fun k hk hn => ?_⟩
          rcases List.mem_cons.mp hk with z | z
          · rw [z]; exact fun q hq => a2 q (by omega) (by omega)
          · exact h2 k z hn
        · exact Or.inr ⟨h1, k, q, List.mem_cons_of_mem _ h2, h3⟩
      · rw [a1]
        exact Or.inr ⟨by show (0 : Int) ≤ 100 * ((x : Int) + 1) + (q : Int); omega, x, q, List.mem_cons_self, hu, by omega, a3⟩
/-- one play, on both sides -/
theorem ok_iff {pl full fr d q : Nat} (hc : CMP pl full fr) (hq : q + d < pl) {A B : Bool} (hAB : A = B) : ((sbs (pm d q) fr && !B) = true ↔ (full &&& opm d 2 q = 0 ∧ A = false)) := by
  rw [opm2, Nat.and_comm full, hc.sbs (by rw [← opm2]; exact opm_lt2 (by decide) (by omega)), Bool.and_eq_true, hAB]
  cases B <;> simp
theorem sbs_out {pl fr d q : Nat} (hf : fr < 2 ^ pl) (hq : pl ≤ q + d) : sbs (pm d q) fr = false := by
  cases h : sbs (pm d q) fr with
  | false => rfl
  | true => exact absurd (sbs_pm.mp h).2 (bit_out hf hq)
theorem eq_gwn {a c : Int → Int} {b : Nat → Nat} (h : StE a c b) (hb : ∀ k, k < 8 → 1 ≤ b k) {s pl : Nat} (hpl : pl ≤ 16) : ∀ (n used full s' fr : Nat), REM s used s' → CMP pl full fr → gwn (opL a c s pl 2) (mem s) n used full = gwd b n s' fr := by
  intro n
  induction n with
  | zero => intro used full s' fr _ _; rfl
  | succ n ih =>
    intro used full s' fr hR hc
    have hs : opL a c s pl 2 = (mem s).map (fun k => opl (b k) pl 2) := by
      unfold opL
      exact List.map_congr_left (fun k hk => by rw [h k (memN_lt 8 k hk)])
    have e := gpI_f (win := gwn (opL a c s pl 2) (mem s) n) (s := s) (used := used) (full := full) (pl := pl) (st := b) (ok := fun k q => sbs (pm (b k) q) fr && !gwd b n (nd s' (2 ^ k)) (nd fr (pm (b k) q))) hb hpl (fun k q hk hu hq => ok_iff hc hq (by rw [opm2]; exact ih _ _ _ _ (hR.go hk) hc.go)) (fun k q hk hq => by rw [sbs_out hc.lt hq]; rfl) (mem s) [] rfl
    rw [gwn, gwd, List.length_nil, ← hs] at *
    rw [e]
    rcases fstk_c (used := used) (s := s) (ok := fun k q => sbs (pm (b k) q) fr && !gwd b n (nd s' (2 ^ k)) (nd fr (pm (b k) q))) (mem s) with ⟨h1, h2⟩ | ⟨h1, k, q, h2, h3, h4, h5⟩
    · rw [h1]
      have : (mem s').any (fun k => (List.range 16).any (fun p => sbs (pm (b k) p) fr && !gwd b n (nd s' (2 ^ k)) (nd fr (pm (b k) p)))) = false := by
        rw [List.any_eq_false]
        intro k hk
        have hk2 := hR.mem.mp hk
        rw [Bool.not_eq_true, List.any_eq_false]
        intro p hp
        rw [Bool.not_eq_true]
        exact h2 k hk2.1 hk2.2 p (List.mem_range.mp hp)
      rw [this]
      exact decide_eq_false (fun q => q rfl)
    · have : (mem s').any (fun k => (List.range 16).any (fun p => sbs (pm (b k) p) fr && !gwd b n (nd s' (2 ^ k)) (nd fr (pm (b k) p)))) = true := by
        rw [List.any_eq_true]
        refine ⟨k, hR.mem.mpr ⟨h2, h3⟩, ?_⟩
        rw [List.any_eq_true]
        exact ⟨q, List.mem_range.mpr h4, h5⟩
      rw [this]
      exact decide_eq_true (by omega)
theorem pc_1F : ∀ i : Fin 16, pcn 16 (2 ^ i.val) = 1 := by decide
theorem eq_pf {a c b : Int → Int} (h : StE a c (fa b)) (hb : ∀ k, k < 8 → 1 ≤ fa b k) {pl s : Int} (hpl : 1 ≤ pl ∧ pl ≤ 16) (hs : 0 ≤ s ∧ s ≤ 255) : md_pf a c pl s = fstk 0 s.toNat (fun k q => gfB (fa b) s.toNat (2 ^ pl.toNat - 1) k q) (mem s.toNat) := by
  have hc := CMP.all pl.toNat
  have hR := REM.zero (s := s.toNat) (by omega)
  have es : opL a c s.toNat pl.toNat 2 = (mem s.toNat).map (fun k => opl (fa b k) pl.toNat 2) := by
    unfold opL
    exact List.map_congr_left (fun k hk => by rw [h k (memN_lt 8 k hk)])
  have e := gpI_f (win := gwU (opL a c s.toNat pl.toNat 2) (mem s.toNat)) (s := s.toNat) (used := 0) (full := 0) (pl := pl.toNat) (st := fa b) (ok := fun k q => gfB (fa b) s.toNat (2 ^ pl.toNat - 1) k q) hb (by omega) (fun k q hk hu hq => by
    refine ok_iff hc hq ?_
    have hx := (ixo_spec hk).1
    have hl8 := mem_len8 s.toNat
    have hp1 : pcn 16 (0 ||| 2 ^ ixo k (mem s.toNat)) = 1 := by rw [Nat.zero_or]; exact pc_1F ⟨ixo k (mem s.toNat), by omega⟩
    unfold gwU
    rw [hp1, opL_len, show (mem s.toNat).length - 1 = (mem (nd s.toNat (2 ^ k))).length by have := mem_out_len hk; omega, opm2]
    exact eq_gwn h hb (by omega) _ _ _ _ _ (hR.go hk) hc.go) (fun k q hk hq => by unfold gfB; rw [sbs_out hc.lt hq]; rfl) (mem s.toNat) [] rfl
  rw [List.length_nil, ← es] at e
  exact e
theorem gwf_f {b : Int → Int} {s fr : Nat} {n : Int} : gwf b s fr n = (match fstp (fun q => gfB (fa b) s fr (n - 1).toNat q) 16 0 with | some q => (q : Int) | none => -1) := by
  have key : ∀ (m p : Nat), lpR (gfg b s fr n) m (p : Int) (-1) = (match fstp (fun q => gfB (fa b) s fr (n - 1).toNat q) m p with | some q => (q : Int) | none => -1) := by
    intro m
    induction m with
    | zero => intro p; rfl
    | succ m ih =>
      intro p
      rw [lpR, fstp]
      unfold gfg
      rw [Int.toNat_natCast]
      by_cases z : gfB (fa b) s fr (n - 1).toNat p = true
      · rw [if_pos z, if_pos z]
      · rw [if_neg z, if_neg z]
        exact ih (p + 1)
  exact key 16 0
theorem memN_sorted (s : Nat) : ∀ n, (memN s n).Pairwise (· < ·) := by
  intro n
  induction n with
  | zero => exact List.Pairwise.nil
  | succ n ih =>
    rw [memN]
    refine List.pairwise_append.mpr ⟨ih, ?_, fun x hx z hz => ?_⟩
    · split
      · exact List.pairwise_singleton _ _
      · exact List.Pairwise.nil
    · have h1 := memN_lt n x hx
      by_cases e : s.testBit n = true
      · rw [if_pos e] at hz
        have : z = n := by simpa using hz
        omega
      · rw [if_neg e] at hz; exact absurd hz (by simp)
theorem fstk_v {s : Nat} {ok : Nat → Nat → Bool} : ∀ M : List Nat, M.Pairwise (· < ·) → (fstk 0 s ok M = -1 ∧ ∀ k, k ∈ M → ∀ q, q < 16 → ok k q = false) ∨ (∃ k q : Nat, k ∈ M ∧ fstk 0 s ok M = 100 * ((k : Int) + 1) + (q : Int) ∧ fstp (ok k) 16 0 = some q ∧ q < 16 ∧ ok k q = true ∧ ∀ k', k' ∈ M → k' < k → ∀ q', q' < 16 → ok k' q' = false) := by
  intro M
  induction M with
  | nil => intro _; exact Or.inl ⟨rfl, fun k h => absurd h (by simp)⟩
  | cons x M ih =>
    intro hp
    have h1 := List.pairwise_cons.mp hp
    rw [fstk, if_neg (by rw [Nat.zero_testBit]; decide)]
    rcases fstp_c (ok := ok x) 16 0 with ⟨a1, a2⟩ | ⟨q, a1, a2, a3, a4⟩
    · rw [a1]
      rcases ih h1.2 with ⟨b1, b2⟩ | ⟨k, q, b1, b2, b3, b4, b5, b6⟩
      · refine Or.inl ⟨b1, fun k hk => ?_⟩
        rcases List.mem_cons.mp hk with z | z
        · rw [z]; exact fun q hq => a2 q (by omega) (by omega)
        · exact b2 k z
      · refine Or.inr ⟨k, q, List.mem_cons_of_mem _ b1, b2, b3, b4, b5, fun k' hk hlt => ?_⟩
        rcases List.mem_cons.mp hk with z | z
        · rw [z]; exact fun q hq => a2 q (by omega) (by omega)
        · exact b6 k' z hlt
    · rw [a1]
      refine Or.inr ⟨x, q, List.mem_cons_self, rfl, a1, by omega, a3, fun k' hk hlt => ?_⟩
      rcases List.mem_cons.mp hk with z | z
      · omega
      · have := h1.1 k' z; omega
theorem spk_of {a : Nat → Nat} {s fr k q : Nat} (hk : k ∈ mem s) (h : gfB a s fr k q = true) (hl : ∀ k', k' ∈ mem s → k' < k → gfB a s fr k' q = false) : spkS a s k = true := by
  unfold spkS
  rw [((memN_mem 8 k).mp hk).2, Bool.true_and]
  refine spkB_iff.mpr (fun l h4 h5 => ?_)
  rcases Nat.lt_or_ge l k with z | z
  · have := hl l h4 z
    unfold gfB at this h
    rw [h5, gw_alike h4 hk h5, h] at this
    cases this
  · exact z
theorem eq_play {b : Int → Int} {s fr : Nat} : fstk 0 s (fun k q => gfB (fa b) s fr k q) (mem s) = gwp b s fr := by
  have hsome : ∀ n v, 1 ≤ n ∧ n < 9 → gpg b s fr n = some v → ∃ q, (n - 1).toNat ∈ mem s ∧ q < 16 ∧ gfB (fa b) s fr (n - 1).toNat q = true := fun n v hn hg => by
    unfold gpg at hg
    by_cases hc : spkS (fa b) s (n - 1).toNat = true ∧ ¬ gwf b s fr n = -1
    · have hk := spkS_mem (show (n - 1).toNat < 8 by omega) hc.1
      have hw := hc.2
      rw [gwf_f] at hw
      rcases fstp_c (ok := fun q => gfB (fa b) s fr (n - 1).toNat q) 16 0 with ⟨a1, a2⟩ | ⟨q, a1, a2, a3, a4⟩
      · rw [a1] at hw; exact absurd rfl hw
      · exact ⟨q, hk, by omega, a3⟩
    · rw [if_neg hc] at hg; cases hg
  unfold gwp
  rcases fstk_v (s := s) (ok := fun k q => gfB (fa b) s fr k q) (mem s) (memN_sorted s 8) with ⟨h1, h2⟩ | ⟨k, q, h1, h2, h3, h4, h5, h6⟩
  · rw [h1]
    rcases lpR_cases (g := gpg b s fr) (d := (-1 : Int)) 8 1 with ⟨g1, _⟩ | ⟨n, g1, g2, g3⟩
    · exact g1.symm
    · obtain ⟨q, k1, k2, k3⟩ := hsome n _ (by omega) g2
      rw [h2 _ k1 q k2] at k3; cases k3
  · have hk8 := memN_lt 8 k h1
    have ek : ((k : Int) + 1 - 1).toNat = k := by omega
    have hg : gpg b s fr ((k : Int) + 1) = some (100 * ((k : Int) + 1) + (q : Int)) := by
      unfold gpg
      have hw : gwf b s fr ((k : Int) + 1) = (q : Int) := by rw [gwf_f, ek, h3]
      rw [hw, ek, if_pos ⟨spk_of h1 h5 (fun k' a b => h6 k' a b q h4), by omega⟩]
    rw [h2]
    rcases lpR_cases (g := gpg b s fr) (d := (-1 : Int)) 8 1 with ⟨_, g1⟩ | ⟨n, g1, g2, g3⟩
    · have := g1 ((k : Int) + 1) (by omega)
      rw [hg] at this; cases this
    · obtain ⟨q', k1, k2, k3⟩ := hsome n _ (by omega) g2
      rcases Int.lt_or_le n ((k : Int) + 1) with z | z
      · rw [h6 _ k1 (by omega) q' k2] at k3; cases k3
      · rcases Int.lt_or_le ((k : Int) + 1) n with z2 | z2
        · have := g3 ((k : Int) + 1) (by omega)
          rw [hg] at this; cases this
        · rw [show n = (k : Int) + 1 by omega, hg] at g2
          exact Option.some.inj g2
theorem eq_game {b : Int → Int} {s fr : Nat} : (if fstk 0 s (fun k q => gfB (fa b) s fr k q) (mem s) = -1 then (0 : Int) else 1) = gv b s fr := by
  unfold gv
  rcases fstk_v (s := s) (ok := fun k q => gfB (fa b) s fr k q) (mem s) (memN_sorted s 8) with ⟨h1, h2⟩ | ⟨k, q, h1, h2, h3, h4, h5, h6⟩
  · rw [if_pos h1, if_neg (fun z => by
      obtain ⟨k, k1, k2, p, k3, k4⟩ := gw_iff.mp z
      rw [h2 k (spkS_mem k1 k2) p k3] at k4; cases k4)]
  · rw [if_neg (by omega), if_pos (gw_iff.mpr ⟨k, memN_lt 8 k h1, spk_of h1 h5 (fun k' a b => h6 k' a b q h4), q, h4, h5⟩)]
theorem lff_none {b : Int → Int} {nb : Int} (hnb : 1 ≤ nb) : ∀ (m : Nat) (n : Int) (s fr : Nat), 1 ≤ n → ¬ s.testBit (nb - 1).toNat = true → lff b nb m n s fr = -1 := by
  intro m
  induction m with
  | zero => intro n s fr _ _; rfl
  | succ m ih =>
    intro n s fr hn h
    rw [lff]
    by_cases hs : s.testBit (n - 1).toNat = true
    · rw [if_pos hs]
      have e : ¬ n = nb := fun e => h (by rw [← e]; exact hs)
      by_cases z : lfo b s fr n = -1
      · rw [if_pos (Or.inl z)]; exact z
      · rw [if_neg (by omega)]
        refine ih _ _ _ (by omega) (fun q => h (nd_iff.mp q).1)
    · rw [if_neg hs]
      exact ih _ _ _ (by omega) h
