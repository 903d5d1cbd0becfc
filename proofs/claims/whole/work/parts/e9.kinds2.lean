/-! ===== kinds, alike on both sides: rows and their mirrors ===== -/
def rv : Nat → Nat → Nat
  | 0, _ => 0
  | n + 1, m => 2 * rv n m + (if m.testBit n = true then 1 else 0)
theorem rv_bit (m : Nat) : ∀ n i, (rv n m).testBit i = (decide (i < n) && m.testBit (n - 1 - i)) := by
  intro n
  induction n with
  | zero => intro i; rw [rv, Nat.zero_testBit]; rfl
  | succ n ih =>
    intro i
    rw [rv]
    cases i with
    | zero =>
      rw [show decide (0 < n + 1) = true from decide_eq_true (by omega), Bool.true_and, Nat.testBit_zero, show n + 1 - 1 - 0 = n by omega]
      by_cases h : m.testBit n = true
      · rw [if_pos h, h]; exact decide_eq_true (by omega)
      · rw [if_neg h]
        have : m.testBit n = false := by simpa using h
        rw [this]; exact decide_eq_false (by omega)
    | succ i =>
      rw [Nat.testBit_succ, show (2 * rv n m + (if m.testBit n = true then 1 else 0)) / 2 = rv n m from by split <;> omega, ih i, show n + 1 - 1 - (i + 1) = n - 1 - i by omega]
      by_cases h : i < n
      · rw [decide_eq_true h, decide_eq_true (by omega)]
      · rw [decide_eq_false h, decide_eq_false (by omega)]
theorem rv_rv {n m : Nat} (h : m < 2 ^ n) : rv n (rv n m) = m := by
  refine Nat.eq_of_testBit_eq (fun i => ?_)
  rw [rv_bit, rv_bit]
  by_cases hi : i < n
  · rw [decide_eq_true hi, decide_eq_true (show n - 1 - i < n by omega), Bool.true_and, Bool.true_and, show n - 1 - (n - 1 - i) = i by omega]
  · rw [decide_eq_false hi, Bool.false_and, Nat.testBit_lt_two_pow (Nat.lt_of_lt_of_le h (Nat.pow_le_pow_right (by decide) (by omega)))]
theorem rv_or (n a b : Nat) : rv n (a ||| b) = rv n a ||| rv n b := by
  refine Nat.eq_of_testBit_eq (fun i => ?_)
  rw [Nat.testBit_or, rv_bit, rv_bit, rv_bit, Nat.testBit_or]
  cases decide (i < n) <;> rfl
theorem rv_0 (n : Nat) : rv n 0 = 0 := by
  refine Nat.eq_of_testBit_eq (fun i => ?_)
  rw [rv_bit, Nat.zero_testBit, Nat.zero_testBit, Bool.and_false]
theorem rv_and {n a b : Nat} (h : a &&& b = 0) : rv n a &&& rv n b = 0 := by
  refine Nat.eq_of_testBit_eq (fun i => ?_)
  rw [Nat.testBit_and, rv_bit, rv_bit, Nat.zero_testBit]
  have h1 : (a &&& b).testBit (n - 1 - i) = false := by rw [h]; exact Nat.zero_testBit _
  rw [Nat.testBit_and] at h1
  cases decide (i < n)
  · rfl
  · rw [Bool.true_and, Bool.true_and]; exact h1
theorem rv_pm {pl d p : Nat} (h : p + d < pl) : rv pl (pm d p) = pm d (pl - 1 - d - p) := by
  refine Nat.eq_of_testBit_eq (fun i => ?_)
  rw [rv_bit]
  rw [Bool.eq_iff_iff, Bool.and_eq_true, decide_eq_true_iff, pm_bit, pm_bit]
  omega
theorem opl_rv {pl d m : Nat} (h : m ∈ opl d pl 2) : rv pl m ∈ opl d pl 2 := by
  obtain ⟨p, h1, h2⟩ := List.mem_map.mp h
  have h1 := List.mem_range.mp h1
  rw [← h2, opm2, rv_pm (by omega), ← opm2]
  exact List.mem_map.mpr ⟨pl - 1 - d - p, List.mem_range.mpr (by omega), rfl⟩
theorem wy_rv {pl : Nat} : ∀ (L : List (List Nat)) (u : Nat) (w : List Nat), (∀ os, os ∈ L → ∀ m, m ∈ os → rv pl m ∈ os) → w ∈ wy L u → w.map (rv pl) ∈ wy L (rv pl u) := by
  intro L
  induction L with
  | nil => intro u w _ h; have : w = [] := by simpa [wy] using h
           subst this; simp [wy]
  | cons os L ih =>
    intro u w hL h
    obtain ⟨m, w', rfl, h2, h3, h4⟩ := wy_cm.mp h
    refine wy_cm.mpr ⟨rv pl m, w'.map (rv pl), rfl, hL os List.mem_cons_self m h2, rv_and h3, ?_⟩
    rw [← rv_or]
    exact ih _ _ (fun os' ho => hL os' (List.mem_cons_of_mem _ ho)) h4
theorem wy_lt {pl : Nat} : ∀ (L : List (List Nat)) (u : Nat) (w : List Nat), (∀ os, os ∈ L → ∀ m, m ∈ os → m < 2 ^ pl) → w ∈ wy L u → ∀ m, m ∈ w → m < 2 ^ pl := by
  intro L
  induction L with
  | nil => intro u w _ h m hm; have : w = [] := by simpa [wy] using h
           subst this; exact absurd hm (by simp)
  | cons os L ih =>
    intro u w hL h m hm
    obtain ⟨m0, w', rfl, h2, h3, h4⟩ := wy_cm.mp h
    rcases List.mem_cons.mp hm with q | q
    · rw [q]; exact hL os List.mem_cons_self m0 h2
    · exact ih _ _ (fun os' ho => hL os' (List.mem_cons_of_mem _ ho)) h4 m q
theorem wy_nodup : ∀ (L : List (List Nat)) (u : Nat), (∀ os, os ∈ L → os.Nodup) → (wy L u).Nodup := by
  intro L
  induction L with
  | nil => intro u _; show [[]].Nodup; exact List.nodup_cons.mpr ⟨by simp, List.Pairwise.nil⟩
  | cons os L ih =>
    intro u hL
    show (os.flatMap fun m => if m &&& u = 0 then (wy L (u ||| m)).map (m :: ·) else []).Nodup
    have hos := hL os List.mem_cons_self
    have ihL := fun u => ih u (fun os' ho => hL os' (List.mem_cons_of_mem _ ho))
    clear ih hL
    induction os with
    | nil => exact List.Pairwise.nil
    | cons x os ih2 =>
      rw [List.flatMap_cons]
      have h1 := List.nodup_cons.mp hos
      refine List.nodup_append.mpr ⟨?_, ih2 h1.2, fun w hw w2 hw2 e => ?_⟩
      · split
        · exact (List.pairwise_map.mpr ((ihL _).imp (fun h e => h (by injection e))))
        · exact List.Pairwise.nil
      · subst e
        obtain ⟨m, hm1, hm2⟩ := List.mem_flatMap.mp hw2
        have e1 : ∃ t, w = x :: t := by
          by_cases z : x &&& u = 0
          · rw [if_pos z] at hw; obtain ⟨t, _, ht⟩ := List.mem_map.mp hw; exact ⟨t, ht.symm⟩
          · rw [if_neg z] at hw; exact absurd hw (by simp)
        have e2 : ∃ t, w = m :: t := by
          by_cases z : m &&& u = 0
          · rw [if_pos z] at hm2; obtain ⟨t, _, ht⟩ := List.mem_map.mp hm2; exact ⟨t, ht.symm⟩
          · rw [if_neg z] at hm2; exact absurd hm2 (by simp)
        obtain ⟨t1, e1⟩ := e1
        obtain ⟨t2, e2⟩ := e2
        rw [e1] at e2
        injection e2 with e3
        exact h1.1 (by rw [e3]; exact hm1)
theorem inv_even {α : Type} [DecidableEq α] {f : α → α} : ∀ (n : Nat) (l : List α), l.length = n → l.Nodup → (∀ x, x ∈ l → f x ∈ l ∧ f (f x) = x ∧ ¬ f x = x) → l.length % 2 = 0 := by
  intro n
  induction n using Nat.strongRecOn with
  | ind n ih =>
    intro l hl hn h
    cases l with
    | nil => rfl
    | cons x l =>
      have h1 := List.nodup_cons.mp hn
      obtain ⟨a1, a2, a3⟩ := h x List.mem_cons_self
      have hfx : f x ∈ l := by
        rcases List.mem_cons.mp a1 with q | q
        · exact absurd q a3
        · exact q
      have hlen := List.length_erase_of_mem hfx
      have hpos : 0 < l.length := List.length_pos_of_mem hfx
      rw [List.length_cons] at hl ⊢
      have := ih (l.erase (f x)).length (by omega) (l.erase (f x)) rfl (h1.2.erase _) (fun z hz => by
        have hz1 := (h1.2.mem_erase_iff).mp hz
        obtain ⟨b1, b2, b3⟩ := h z (List.mem_cons_of_mem _ hz1.2)
        refine ⟨(h1.2.mem_erase_iff).mpr ⟨fun e => ?_, ?_⟩, b2, b3⟩
        · have : z = x := by rw [← b2, e, a2]
          rw [this] at hz1
          exact h1.1 hz1.2
        · rcases List.mem_cons.mp b1 with q | q
          · have : z = f x := by rw [← b2, q]
            exact absurd this hz1.1
          · exact q)
      omega
def mfr (s : Nat) : Nat → Nat → List Nat
  | _, 0 => []
  | k, m + 1 => if s.testBit k = true then k :: mfr s (k + 1) m else mfr s (k + 1) m
theorem mfr_mem (s : Nat) : ∀ (m k : Nat), memN s (k + m) = memN s k ++ mfr s k m := by
  intro m
  induction m with
  | zero => intro k; rw [mfr, List.append_nil]; rfl
  | succ m ih =>
    intro k
    rw [show k + (m + 1) = (k + 1) + m by omega, ih (k + 1), mfr, memN]
    by_cases h : s.testBit k = true
    · rw [if_pos h, if_pos h, List.append_assoc]; rfl
    · rw [if_neg h, if_neg h, List.append_nil]
theorem mir_one {st : Int → Int} {b : Nat → Nat} {s pl : Nat} (hst : ∀ k : Nat, k < 8 → st k = (b k : Int)) : ∀ (m k full : Nat) (w : List Nat), k + m = 8 → w ∈ wy ((mfr s k m).map (fun k => opl (b k) pl 2)) full → w.map (rv pl) = w → md_mir st (s : Int) (pl : Int) m (k : Int) (full : Int) = 1 := by
  intro m
  induction m with
  | zero => intro k full w _ _ _; rfl
  | succ m ih =>
    intro k full w hk hw hf
    rw [md_mir, Int.toNat_natCast]
    rw [mfr] at hw
    by_cases h : s.testBit k = true
    · rw [if_pos h, List.map_cons] at hw
      obtain ⟨m0, w', rfl, h2, h3, h4⟩ := wy_cm.mp hw
      obtain ⟨p, q1, q2⟩ := List.mem_map.mp h2
      have q1 := List.mem_range.mp q1
      rw [List.map_cons] at hf
      have hf1 : rv pl m0 = m0 := (List.cons.inj hf).1
      have hf2 : w'.map (rv pl) = w' := (List.cons.inj hf).2
      rw [← q2, opm2, rv_pm (by omega)] at hf1
      have hbit : (pm (b k) (pl - 1 - b k - p)).testBit p = true := by rw [hf1]; exact pm_bit.mpr (Or.inl rfl)
      have hbit2 : (pm (b k) p).testBit (pl - 1 - b k - p) = true := by rw [← hf1]; exact pm_bit.mpr (Or.inl rfl)
      have c1 := pm_bit.mp hbit
      have c2 := pm_bit.mp hbit2
      have hp : 2 * p + b k + 1 = pl := by omega
      rw [if_pos ((bit_div s k).mpr h), hst k (by omega), if_neg (by omega)]
      have e1 : ((pl : Int) - 1 - (b k : Int)) / 2 = (p : Int) := by omega
      rw [e1]
      have e2 : bor (bsh (p : Int)) (bsh ((p : Int) + (b k : Int))) = ((pm (b k) p : Nat) : Int) := by
        unfold bor bsh pm
        rw [Int.toNat_natCast, Int.toNat_natCast, Int.toNat_natCast, show ((p : Int) + (b k : Int)).toNat = p + b k by omega]
      rw [e2]
      have e3 : ban (full : Int) ((pm (b k) p : Nat) : Int) = 0 := by
        unfold ban
        rw [Int.toNat_natCast, Int.toNat_natCast, Nat.and_comm, ← opm2, q2, h3]; rfl
      rw [if_pos e3]
      have e4 : bor (full : Int) ((pm (b k) p : Nat) : Int) = ((full ||| m0 : Nat) : Int) := by
        unfold bor
        rw [Int.toNat_natCast, Int.toNat_natCast, ← opm2, q2]
      rw [e4]
      exact ih (k + 1) (full ||| m0) w' (by omega) h4 hf2
    · rw [if_neg h] at hw
      rw [if_neg (fun q => h ((bit_div s k).mp q))]
      exact ih (k + 1) full w (by omega) hw hf
theorem eq_kinds {a c b : Int → Int} (h : StE a c (fa b)) (hb : ∀ k, k < 8 → 1 ≤ fa b k) {s g : Int} (hr : isRow s g) : (((md_rw a c s g).length : Int) + md_mir (md_stI a c) s (2 * pc s + g) 8 0 0) / 2 = (((cn (fa b) s.toNat (2 ^ (2 * pc s + g).toNat - 1) : Nat) : Int) + 1) / 2 := by
  have hpb := pc_B s
  rw [← eq_rw h hr.2.2]
  rcases md_mir_01 (md_stI a c) s (2 * pc s + g) 8 0 0 with hm | hm
  · have hst : ∀ k : Nat, k < 8 → md_stI a c (k : Int) = ((fa b k : Nat) : Int) := fun k hk => by
      have h1 := h k hk
      have h2 := md_btw_B (a := a) (c := c) (q := a 1) (k := (k : Int)) (by omega)
      unfold md_st at h1
      unfold md_stI
      omega
    have hno : ∀ w, w ∈ md_rw a c s g → ¬ w.map (rv (2 * pc s + g).toNat) = w := fun w hw hf => by
      have := mir_one (s := s.toNat) (pl := (2 * pc s + g).toNat) hst 8 0 0 w rfl (by
        have em : mfr s.toNat 0 8 = mem s.toNat := by have := mfr_mem s.toNat 8 0; rw [Nat.zero_add] at this; exact this.symm
        rw [em]
        unfold md_rw opL at hw
        rw [List.map_congr_left (g := fun k => opl (md_st a c k) (2 * pc s + g).toNat 2) (fun k hk => by rw [h k (memN_lt 8 k hk)])]
        exact hw) hf
      rw [show ((s.toNat : Nat) : Int) = s by omega, show (((2 * pc s + g).toNat : Nat) : Int) = 2 * pc s + g by omega] at this
      have this : md_mir (md_stI a c) s (2 * pc s + g) 8 0 0 = 1 := this
      omega
    have hpos : ∀ os, os ∈ opL a c s.toNat (2 * pc s + g).toNat 2 → ∃ k, k < 8 ∧ os = opl (md_st a c k) (2 * pc s + g).toNat 2 := fun os ho => by
      obtain ⟨k, k1, k2⟩ := List.mem_map.mp ho
      exact ⟨k, memN_lt 8 k k1, k2.symm⟩
    have hev := inv_even (f := fun w : List Nat => w.map (rv (2 * pc s + g).toNat)) _ (md_rw a c s g) rfl (wy_nodup _ _ (fun os ho => by
      obtain ⟨k, k1, rfl⟩ := hpos os ho
      unfold opl
      refine List.pairwise_map.mpr (List.nodup_range.imp_of_mem (fun {x z} hx hz hne e => hne ?_))
      rw [opm2, opm2] at e
      exact pm_inj (by rw [h k k1]; exact hb k k1) e)) (fun w hw => ⟨by
        have := wy_rv (pl := (2 * pc s + g).toNat) _ 0 w (fun os ho m hmm => by
          obtain ⟨k, k1, rfl⟩ := hpos os ho
          exact opl_rv hmm) hw
        rw [rv_0] at this
        exact this, by
        show (w.map _).map _ = w
        rw [List.map_map]
        have hlt := wy_lt (pl := (2 * pc s + g).toNat) _ 0 w (opL_lt (by decide)) hw
        calc w.map ((rv (2 * pc s + g).toNat) ∘ (rv (2 * pc s + g).toNat)) = w.map id := List.map_congr_left (fun m hm => rv_rv (hlt m hm))
          _ = w := List.map_id w, hno w hw⟩)
    omega
  · rw [hm]
