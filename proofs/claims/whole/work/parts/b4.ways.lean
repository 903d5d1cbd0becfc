/-! ===== ways, counted ===== -/
def lsm {α : Type} (f : α → Nat) : List α → Nat
  | [] => 0
  | x :: l => f x + lsm f l
theorem lsm_congr {α : Type} {f g : α → Nat} : ∀ {l : List α}, (∀ x, x ∈ l → f x = g x) → lsm f l = lsm g l := by
  intro l
  induction l with
  | nil => intro _; rfl
  | cons x l ih =>
    intro h
    rw [lsm, lsm, h x List.mem_cons_self, ih (fun y hy => h y (List.mem_cons_of_mem _ hy))]
theorem lsm_zero {α : Type} {f : α → Nat} : ∀ {l : List α}, (∀ x, x ∈ l → f x = 0) → lsm f l = 0 := by
  intro l
  induction l with
  | nil => intro _; rfl
  | cons x l ih =>
    intro h
    rw [lsm, h x List.mem_cons_self, ih (fun y hy => h y (List.mem_cons_of_mem _ hy))]
theorem lsm_nz {α : Type} {f : α → Nat} : ∀ {l : List α}, lsm f l ≠ 0 → ∃ x, x ∈ l ∧ f x ≠ 0 := by
  intro l
  induction l with
  | nil => intro h; exact absurd rfl h
  | cons x l ih =>
    intro h
    by_cases hx : f x = 0
    · rw [lsm, hx, Nat.zero_add] at h
      obtain ⟨y, h1, h2⟩ := ih h
      exact ⟨y, List.mem_cons_of_mem _ h1, h2⟩
    · exact ⟨x, List.mem_cons_self, hx⟩
theorem lsm_le {α : Type} {f g : α → Nat} : ∀ {l : List α}, (∀ x, x ∈ l → f x ≤ g x) → lsm f l ≤ lsm g l := by
  intro l
  induction l with
  | nil => intro _; exact Nat.le_refl _
  | cons x l ih =>
    intro h
    exact Nat.add_le_add (h x List.mem_cons_self) (ih (fun y hy => h y (List.mem_cons_of_mem _ hy)))
theorem lsm_mem {α : Type} {f : α → Nat} : ∀ {l : List α} {x : α}, x ∈ l → f x ≤ lsm f l := by
  intro l
  induction l with
  | nil => intro x h; cases h
  | cons z l ih =>
    intro x h
    rcases List.mem_cons.mp h with rfl | h
    · exact Nat.le_add_right _ _
    · exact Nat.le_trans (ih h) (Nat.le_add_left _ _)
theorem lsm_add {α : Type} (f g : α → Nat) : ∀ l : List α, lsm (fun x => f x + g x) l = lsm f l + lsm g l := by
  intro l
  induction l with
  | nil => rfl
  | cons x l ih => rw [lsm, lsm, lsm, ih]; omega
theorem lsm_mul {α : Type} (c : Nat) (f : α → Nat) : ∀ l : List α, lsm (fun x => c * f x) l = c * lsm f l := by
  intro l
  induction l with
  | nil => rfl
  | cons x l ih => rw [lsm, lsm, ih, Nat.mul_add]
theorem lsm_swap {α β : Type} (f : α → β → Nat) : ∀ (l : List α) (r : List β), lsm (fun x => lsm (f x) r) l = lsm (fun z => lsm (fun x => f x z) l) r := by
  intro l
  induction l with
  | nil => intro r; exact (lsm_zero (fun _ _ => rfl)).symm
  | cons x l ih =>
    intro r
    rw [lsm, ih, ← lsm_add]
    rfl
theorem lsm_map {α β : Type} (f : β → Nat) (g : α → β) : ∀ l : List α, lsm f (l.map g) = lsm (fun x => f (g x)) l := by
  intro l
  induction l with
  | nil => rfl
  | cons x l ih => rw [List.map_cons, lsm, lsm, ih]
theorem lsm_append {α : Type} (f : α → Nat) : ∀ l r : List α, lsm f (l ++ r) = lsm f l + lsm f r := by
  intro l r
  induction l with
  | nil => rw [List.nil_append, lsm, Nat.zero_add]
  | cons x l ih => rw [List.cons_append, lsm, lsm, ih, Nat.add_assoc]
theorem lsm_ifc {α : Type} (c : Bool) (f : α → Nat) (l : List α) : (if c = true then lsm f l else 0) = lsm (fun x => if c = true then f x else 0) l := by
  cases c
  · exact (lsm_zero (fun _ _ => rfl)).symm
  · rfl
theorem lsm_single {α : Type} {f : α → Nat} {x : α} : ∀ {l : List α}, l.Nodup → x ∈ l → (∀ z, z ∈ l → z ≠ x → f z = 0) → lsm f l = f x := by
  intro l
  induction l with
  | nil => intro _ h; cases h
  | cons z l ih =>
    intro hn hx h
    have hn2 := List.nodup_cons.mp hn
    rcases List.mem_cons.mp hx with e | hx
    · subst e
      rw [lsm, lsm_zero (fun w hw => h w (List.mem_cons_of_mem _ hw) (fun e => hn2.1 (e ▸ hw))), Nat.add_zero]
    · rw [lsm, h z List.mem_cons_self (fun e => hn2.1 (e ▸ hx)), Nat.zero_add]
      exact ih hn2.2 hx (fun w hw hne => h w (List.mem_cons_of_mem _ hw) hne)
theorem lsm_filter {α : Type} (c : α → Bool) (f : α → Nat) : ∀ l : List α, lsm f (l.filter c) = lsm (fun x => if c x = true then f x else 0) l := by
  intro l
  induction l with
  | nil => rfl
  | cons x l ih =>
    rw [List.filter_cons, lsm]
    cases h : c x
    · rw [if_neg (by decide), if_neg (by decide), ih, Nat.zero_add]
    · rw [if_pos rfl, if_pos rfl, lsm, ih]
theorem lsm_len {α : Type} (v : Nat) : ∀ l : List α, lsm (fun _ => v) l = l.length * v := by
  intro l
  induction l with
  | nil => exact (Nat.zero_mul v).symm
  | cons x l ih => rw [lsm, ih, List.length_cons, Nat.succ_mul, Nat.add_comm]
/-! masks -/
def sbs (m fr : Nat) : Bool := (m &&& fr) == m
theorem sbs_iff {m fr : Nat} : sbs m fr = true ↔ ∀ i, m.testBit i = true → fr.testBit i = true := by
  unfold sbs
  rw [beq_iff_eq]
  constructor
  · intro h i hi
    rw [← h, Nat.testBit_and, Bool.and_eq_true] at hi
    exact hi.2
  · intro h
    apply Nat.eq_of_testBit_eq
    intro i
    rw [Nat.testBit_and]
    cases hm : m.testBit i with
    | false => rfl
    | true => rw [h i hm]; rfl
theorem nd_iff {m n i : Nat} : (nd m n).testBit i = true ↔ m.testBit i = true ∧ ¬ n.testBit i = true := by
  rw [nd_bit, Bool.and_eq_true, Bool.not_eq_true', Bool.not_eq_true]
theorem sbs_nd {m m' fr : Nat} : sbs m' (nd fr m) = true ↔ sbs m' fr = true ∧ ∀ i, ¬ (m.testBit i = true ∧ m'.testBit i = true) := by
  rw [sbs_iff, sbs_iff]
  constructor
  · intro h
    exact ⟨fun i hi => (nd_iff.mp (h i hi)).1, fun i hi => (nd_iff.mp (h i hi.2)).2 hi.1⟩
  · intro h i hi
    exact nd_iff.mpr ⟨h.1 i hi, fun hm => h.2 i ⟨hm, hi⟩⟩
theorem bits_ext {a b : Nat} (h : ∀ i, a.testBit i = true ↔ b.testBit i = true) : a = b := by
  apply Nat.eq_of_testBit_eq
  intro i
  have := h i
  cases ha : a.testBit i <;> cases hb : b.testBit i
  · rfl
  · rw [ha, hb] at this; exact absurd (this.mpr rfl) (by decide)
  · rw [ha, hb] at this; exact absurd (this.mp rfl) (by decide)
  · rfl
theorem nd_comm (a b c : Nat) : nd (nd a b) c = nd (nd a c) b := by
  apply bits_ext
  intro i
  rw [nd_iff, nd_iff, nd_iff, nd_iff]
  constructor <;> (intro h; exact ⟨⟨h.1.1, h.2⟩, h.1.2⟩)
theorem nd_sbs (fr m : Nat) : sbs (nd fr m) fr = true := sbs_iff.mpr (fun _ hi => (nd_iff.mp hi).1)
theorem sbs_le {m fr : Nat} (h : sbs m fr = true) : m ≤ fr := by
  unfold sbs at h
  rw [beq_iff_eq] at h
  rw [← h]
  exact Nat.and_le_right
theorem sbs_trans {a b c : Nat} (h : sbs a b = true) (h2 : sbs b c = true) : sbs a c = true := sbs_iff.mpr (fun i hi => sbs_iff.mp h2 i (sbs_iff.mp h i hi))
theorem sbs_dis {m m' fr : Nat} (h : sbs m fr = true) : (sbs m' (nd fr m) = true) ↔ (sbs m' fr = true ∧ sbs m (nd fr m') = true) := by
  rw [sbs_nd, sbs_nd]
  constructor
  · intro q; exact ⟨q.1, h, fun i hi => q.2 i ⟨hi.2, hi.1⟩⟩
  · intro q; exact ⟨q.1, fun i hi => q.2.2 i ⟨hi.2, hi.1⟩⟩
/-- in how many ways a mask of each can be taken, none meeting another, all of them free -/
def wg : List (List Nat) → Nat → Nat
  | [], _ => 1
  | os :: L, fr => lsm (fun m => if sbs m fr = true then wg L (nd fr m) else 0) os
theorem wg_nil (fr : Nat) : wg [] fr = 1 := rfl
theorem wg_cons (os : List Nat) (L : List (List Nat)) (fr : Nat) : wg (os :: L) fr = lsm (fun m => if sbs m fr = true then wg L (nd fr m) else 0) os := rfl
theorem wg_swap (a b : List Nat) (L : List (List Nat)) (fr : Nat) : wg (a :: b :: L) fr = wg (b :: a :: L) fr := by
  have key : ∀ (x z : List Nat), wg (x :: z :: L) fr = lsm (fun m => lsm (fun m' => if sbs m fr = true then (if sbs m' (nd fr m) = true then wg L (nd (nd fr m) m') else 0) else 0) z) x := by
    intro x z
    rw [wg_cons]
    refine lsm_congr (fun m _ => ?_)
    rw [wg_cons, lsm_ifc]
  rw [key, key, lsm_swap]
  refine lsm_congr (fun m _ => lsm_congr (fun m' _ => ?_))
  by_cases h1 : sbs m' fr = true
  · by_cases h2 : sbs m fr = true
    · rw [if_pos h1, if_pos h2, nd_comm]
      by_cases h3 : sbs m (nd fr m') = true
      · rw [if_pos h3, if_pos ((sbs_dis h2).mpr ⟨h1, h3⟩)]
      · rw [if_neg h3, if_neg (fun h => h3 ((sbs_dis h2).mp h).2)]
    · rw [if_pos h1, if_neg h2, if_neg (fun h => h2 (sbs_nd.mp h).1)]
  · by_cases h2 : sbs m fr = true
    · rw [if_neg h1, if_pos h2, if_neg (fun h => h1 (sbs_nd.mp h).1)]
    · rw [if_neg h1, if_neg h2]
theorem wg_perm {L L' : List (List Nat)} (h : L.Perm L') : ∀ fr : Nat, wg L fr = wg L' fr := by
  induction h with
  | nil => intro fr; rfl
  | cons x _ ih => intro fr; exact lsm_congr (fun m _ => by rw [ih])
  | swap x z l => intro fr; exact wg_swap _ _ _ _
  | trans _ _ ih1 ih2 => intro fr; rw [ih1, ih2]
/-- all ways to take one out -/
def pkl {α : Type} : List α → List (α × List α)
  | [] => []
  | x :: l => (x, l) :: (pkl l).map (fun q => (q.1, x :: q.2))
theorem wg_place (p : Nat) : ∀ (L : List (List Nat)) (fr : Nat), wg L fr = wg L (nd fr (2 ^ p)) + lsm (fun q => lsm (fun m => if (m.testBit p && sbs m fr) = true then wg q.2 (nd fr m) else 0) q.1) (pkl L) := by
  intro L
  induction L with
  | nil => intro fr; rfl
  | cons os L ih =>
    intro fr
    have key : ∀ m, (if sbs m fr = true then wg L (nd fr m) else 0) = (if sbs m (nd fr (2 ^ p)) = true then wg L (nd (nd fr (2 ^ p)) m) else 0) + ((if (m.testBit p && sbs m fr) = true then wg L (nd fr m) else 0) + lsm (fun q => lsm (fun m' => if (m'.testBit p && sbs m' fr) = true then (if sbs m (nd fr m') = true then wg q.2 (nd (nd fr m') m) else 0) else 0) q.1) (pkl L)) := by
      intro m
      by_cases h1 : sbs m fr = true
      · by_cases h2 : m.testBit p = true
        · have z1 : ¬ sbs m (nd fr (2 ^ p)) = true := fun h => (sbs_nd.mp h).2 p ⟨Nat.testBit_two_pow_self, h2⟩
          have z2 : lsm (fun q => lsm (fun m' => if (m'.testBit p && sbs m' fr) = true then (if sbs m (nd fr m') = true then wg q.2 (nd (nd fr m') m) else 0) else 0) q.1) (pkl L) = 0 := by
            refine lsm_zero (fun q _ => lsm_zero (fun m' _ => ?_))
            by_cases h3 : (m'.testBit p && sbs m' fr) = true
            · rw [if_pos h3, if_neg (fun h => (sbs_nd.mp h).2 p ⟨(Bool.and_eq_true .. ▸ h3).1, h2⟩)]
            · rw [if_neg h3]
          rw [if_pos h1, if_neg z1, if_pos (by rw [h2, h1]; rfl), z2, Nat.zero_add, Nat.add_zero]
        · have z1 : sbs m (nd fr (2 ^ p)) = true := sbs_nd.mpr ⟨h1, fun i hi => by
            have e : p = i := by
              have := hi.1
              rw [Nat.testBit_two_pow] at this
              exact of_decide_eq_true this
            exact h2 (e ▸ hi.2)⟩
          rw [if_pos h1, if_pos z1, if_neg (by rw [Bool.and_eq_true]; exact fun h => h2 h.1), Nat.zero_add, ih, nd_comm]
          congr 1
          refine lsm_congr (fun q _ => lsm_congr (fun m' _ => ?_))
          by_cases h3 : m'.testBit p = true
          · by_cases h4 : sbs m' (nd fr m) = true
            · have h5 := (sbs_dis h1).mp h4
              rw [if_pos (by rw [h3, h4]; rfl), if_pos (by rw [h3, h5.1]; rfl), if_pos h5.2, nd_comm]
            · rw [if_neg (by rw [h3, Bool.true_and]; exact h4)]
              by_cases h6 : sbs m' fr = true
              · rw [if_pos (by rw [h3, h6]; rfl), if_neg (fun h => h4 ((sbs_dis h1).mpr ⟨h6, h⟩))]
              · rw [if_neg (by rw [h3, Bool.true_and]; exact h6)]
          · rw [if_neg (by rw [Bool.and_eq_true]; exact fun h => h3 h.1), if_neg (by rw [Bool.and_eq_true]; exact fun h => h3 h.1)]
      · have z2 : lsm (fun q => lsm (fun m' => if (m'.testBit p && sbs m' fr) = true then (if sbs m (nd fr m') = true then wg q.2 (nd (nd fr m') m) else 0) else 0) q.1) (pkl L) = 0 := by
          refine lsm_zero (fun q _ => lsm_zero (fun m' _ => ?_))
          by_cases h3 : (m'.testBit p && sbs m' fr) = true
          · rw [if_pos h3, if_neg (fun h => h1 (sbs_nd.mp h).1)]
          · rw [if_neg h3]
        rw [if_neg h1, if_neg (fun h => h1 (sbs_nd.mp h).1), if_neg (by rw [Bool.and_eq_true]; exact fun h => h1 h.2), z2]
    rw [wg_cons, lsm_congr (fun m _ => key m), lsm_add, lsm_add, pkl, lsm, lsm_map, ← wg_cons]
    congr 2
    rw [lsm_swap]
    refine lsm_congr (fun q _ => ?_)
    rw [lsm_swap]
    refine lsm_congr (fun m' _ => ?_)
    rw [← lsm_ifc]
    rfl
theorem pkl_map {α β : Type} (f : α → β) : ∀ l : List α, pkl (l.map f) = (pkl l).map (fun q => (f q.1, q.2.map f)) := by
  intro l
  induction l with
  | nil => rfl
  | cons x l ih =>
    rw [List.map_cons, pkl, pkl, ih, List.map_cons, List.map_map, List.map_map]
    rfl
theorem pkl_nodup : ∀ {l : List Nat}, l.Nodup → pkl l = l.map (fun k => (k, l.filter (fun j => j != k))) := by
  intro l
  induction l with
  | nil => intro _; rfl
  | cons x l ih =>
    intro h
    have h2 := List.nodup_cons.mp h
    have e1 : (x :: l).filter (fun j => j != x) = l := by
      rw [List.filter_cons, if_neg (by simp)]
      exact List.filter_eq_self.mpr (fun z hz => by rw [bne_iff_ne]; exact fun e => h2.1 (e ▸ hz))
    rw [pkl, ih h2.2, List.map_cons, e1, List.map_map]
    congr 1
    refine List.map_congr_left (fun k hk => ?_)
    show (k, x :: l.filter _) = _
    rw [List.filter_cons, if_pos (by rw [bne_iff_ne]; exact fun e => h2.1 (e ▸ hk))]
theorem perm_out {l : List Nat} (h : l.Nodup) {k : Nat} (hk : k ∈ l) : l.Perm (k :: l.filter (fun j => j != k)) := by
  have := List.perm_cons_erase hk
  rw [h.erase_eq_filter] at this
  exact this
theorem memN_nodup (s : Nat) : ∀ n, (memN s n).Nodup := by
  intro n
  induction n with
  | zero => exact List.nodup_nil
  | succ n ih =>
    rw [memN]
    refine List.nodup_append.mpr ⟨ih, ?_, ?_⟩
    · split
      · exact List.nodup_cons.mpr ⟨List.not_mem_nil, List.nodup_nil⟩
      · exact List.nodup_nil
    · intro a ha b hb
      have h1 := memN_lt n a ha
      split at hb
      · rw [List.mem_singleton] at hb; omega
      · cases hb
theorem memN_out (s k : Nat) : ∀ n, memN (nd s (2 ^ k)) n = (memN s n).filter (fun j => j != k) := by
  intro n
  induction n with
  | zero => rfl
  | succ n ih =>
    rw [memN, memN, List.filter_append, ih]
    congr 1
    by_cases h : n = k
    · subst h
      rw [if_neg (fun h => (nd_iff.mp h).2 Nat.testBit_two_pow_self)]
      split
      · rw [List.filter_cons, if_neg (by simp)]; rfl
      · rfl
    · have e : (nd s (2 ^ k)).testBit n = s.testBit n := by
        rw [nd_bit, Nat.testBit_two_pow_of_ne (fun e => h e.symm)]
        simp
      rw [e]
      split
      · rw [List.filter_cons, if_pos (by rw [bne_iff_ne]; exact h)]; rfl
      · rfl
/-- the lowest of each kind counted for all of its kind -/
theorem ex_min {L : List Nat} {P : Nat → Prop} : ∀ n : Nat, n ∈ L → P n → ∃ k, k ∈ L ∧ P k ∧ ∀ l, l ∈ L → P l → k ≤ l := by
  intro n
  induction n using Nat.strongRecOn with
  | _ n ih =>
    intro hn hP
    by_cases h : ∃ l, l ∈ L ∧ P l ∧ l < n
    · obtain ⟨l, h1, h2, h3⟩ := h
      exact ih l h3 h1 h2
    · refine ⟨n, hn, hP, fun l h1 h2 => ?_⟩
      rcases Nat.lt_or_ge l n with h3 | h3
      · exact absurd ⟨l, h1, h2, h3⟩ h
      · exact h3
def spkB (a : Nat → Nat) (L : List Nat) (k : Nat) : Bool := L.all (fun l => !(a l == a k) || decide (k ≤ l))
theorem spkB_iff {a : Nat → Nat} {L : List Nat} {k : Nat} : spkB a L k = true ↔ ∀ l, l ∈ L → a l = a k → k ≤ l := by
  unfold spkB
  rw [List.all_eq_true]
  constructor
  · intro h l hl e
    have := h l hl
    rw [e] at this
    simpa using this
  · intro h l hl
    by_cases e : a l = a k
    · have := h l hl e
      simp [this]
    · simp [e]
theorem spk_sum {a g : Nat → Nat} {L : List Nat} (hn : L.Nodup) (hg : ∀ k l, k ∈ L → l ∈ L → a k = a l → g k = g l) : lsm g L = lsm (fun k => if spkB a L k = true then (L.filter (fun l => a l == a k)).length * g k else 0) L := by
  have e1 : ∀ k, k ∈ L → (if spkB a L k = true then (L.filter (fun l => a l == a k)).length * g k else 0) = lsm (fun l => if (spkB a L k && (a l == a k)) = true then g l else 0) L := by
    intro k hk
    by_cases h : spkB a L k = true
    · rw [if_pos h, ← lsm_len, lsm_filter]
      refine lsm_congr (fun l hl => ?_)
      rw [h, Bool.true_and]
      by_cases e : (a l == a k) = true
      · rw [if_pos e, if_pos e]
        exact hg k l hk hl (beq_iff_eq.mp e).symm
      · rw [if_neg e, if_neg e]
    · rw [if_neg h]
      refine (lsm_zero (fun l _ => if_neg ?_)).symm
      rw [Bool.and_eq_true]
      exact fun hh => h hh.1
  rw [lsm_congr e1, lsm_swap]
  refine lsm_congr (fun l hl => ?_)
  obtain ⟨k, h1, h2, h3⟩ := ex_min (L := L) (P := fun k => a l = a k) l hl rfl
  have hk : spkB a L k = true := spkB_iff.mpr (fun l' h4 h5 => h3 l' h4 (h2.trans h5.symm))
  refine ((lsm_single hn h1 (fun z hz hne => if_neg (fun hh => hne ?_))).trans (if_pos ?_)).symm
  · rw [Bool.and_eq_true] at hh
    have h6 := spkB_iff.mp hh.1 k h1 (h2.symm.trans (beq_iff_eq.mp hh.2))
    have h7 := h3 z hz (beq_iff_eq.mp hh.2)
    omega
  · rw [hk, Bool.true_and]
    exact beq_iff_eq.mpr h2
/-! how many bits -/
theorem pcn_nd (k : Nat) {m fr : Nat} (h : sbs m fr = true) : pcn k (nd fr m) + pcn k m = pcn k fr := by
  rw [← pcn_or]
  · congr 1
    apply bits_ext
    intro i
    rw [Nat.testBit_or, Bool.or_eq_true, nd_iff]
    constructor
    · rintro (h1 | h1)
      · exact h1.1
      · exact sbs_iff.mp h i h1
    · intro h1
      by_cases h2 : m.testBit i = true
      · exact Or.inr h2
      · exact Or.inl ⟨h1, h2⟩
  · apply bits_ext
    intro i
    rw [Nat.testBit_and, Bool.and_eq_true, nd_iff, Nat.zero_testBit]
    exact ⟨fun h => absurd h.2 h.1.2, fun h => absurd h (by decide)⟩
theorem nd_lt {fr m n : Nat} (h : fr < n) : nd fr m < n := Nat.lt_of_le_of_lt (nd_le fr m) h
/-- none, where there are not places enough -/
theorem wg_few {c : Nat} : ∀ (L : List (List Nat)) (fr : Nat), fr < 65536 → (∀ os, os ∈ L → ∀ m, m ∈ os → m < 65536 → pcn 16 m = c) → wg L fr ≠ 0 → c * L.length ≤ pcn 16 fr := by
  intro L
  induction L with
  | nil => intro fr _ _ _; exact Nat.zero_le _
  | cons os L ih =>
    intro fr hfr hm hw
    rw [wg_cons] at hw
    obtain ⟨m, h1, h2⟩ := lsm_nz hw
    by_cases h3 : sbs m fr = true
    · rw [if_pos h3] at h2
      have h4 := ih (nd fr m) (nd_lt hfr) (fun o ho => hm o (List.mem_cons_of_mem _ ho)) h2
      have h5 := pcn_nd 16 h3
      rw [hm os List.mem_cons_self m h1 (Nat.lt_of_le_of_lt (sbs_le h3) hfr)] at h5
      rw [List.length_cons, Nat.mul_succ]
      omega
    · rw [if_neg h3] at h2
      exact absurd rfl h2
def dgf : Nat → Nat → Nat
  | 0, _ => 1
  | l + 1, n => n * dgf l (n - 2)
theorem dgf_mono : ∀ (l : Nat) {n m : Nat}, n ≤ m → dgf l n ≤ dgf l m := by
  intro l
  induction l with
  | zero => intro n m _; exact Nat.le_refl _
  | succ l ih => intro n m h; exact Nat.mul_le_mul h (ih (by omega))
theorem dgf_B : ∀ l : Fin 9, dgf l.val 16 ≤ 10321920 := by decide
theorem wg_dgf : ∀ (L : List (List Nat)) (fr : Nat), fr < 65536 → (∀ os, os ∈ L → (∀ fr, fr < 65536 → lsm (fun m => if sbs m fr = true then 1 else 0) os ≤ pcn 16 fr) ∧ ∀ m, m ∈ os → m < 65536 → 2 ≤ pcn 16 m) → wg L fr ≤ dgf L.length (pcn 16 fr) := by
  intro L
  induction L with
  | nil => intro fr _ _; exact Nat.le_refl _
  | cons os L ih =>
    intro fr hfr hm
    have h0 := hm os List.mem_cons_self
    have h1 : ∀ m, m ∈ os → (if sbs m fr = true then wg L (nd fr m) else 0) ≤ dgf L.length (pcn 16 fr - 2) * (if sbs m fr = true then 1 else 0) := by
      intro m hmm
      by_cases h3 : sbs m fr = true
      · rw [if_pos h3, if_pos h3, Nat.mul_one]
        have h5 := pcn_nd 16 h3
        have h6 := h0.2 m hmm (Nat.lt_of_le_of_lt (sbs_le h3) hfr)
        exact Nat.le_trans (ih (nd fr m) (nd_lt hfr) (fun o ho => hm o (List.mem_cons_of_mem _ ho))) (dgf_mono _ (by omega))
      · rw [if_neg h3]
        exact Nat.zero_le _
    refine Nat.le_trans (lsm_le h1) ?_
    rw [lsm_mul, List.length_cons, dgf, Nat.mul_comm]
    exact Nat.mul_le_mul_right _ (h0.1 fr hfr)
theorem wg_B {L : List (List Nat)} {fr : Nat} (hfr : fr < 65536) (hl : L.length ≤ 8) (h : ∀ os, os ∈ L → (∀ fr, fr < 65536 → lsm (fun m => if sbs m fr = true then 1 else 0) os ≤ pcn 16 fr) ∧ ∀ m, m ∈ os → m < 65536 → 2 ≤ pcn 16 m) : wg L fr ≤ 10321920 :=
  Nat.le_trans (wg_dgf L fr hfr h) (Nat.le_trans (dgf_mono _ (pcn_le 16 fr)) (dgf_B ⟨L.length, by omega⟩))
/-- bits, one by one -/
theorem pcn_sum : ∀ (k n : Nat), lsm (fun p => if n.testBit p = true then 1 else 0) (List.range k) = pcn k n := by
  intro k
  induction k with
  | zero => intro n; rfl
  | succ k ih =>
    intro n
    rw [List.range_succ_eq_map, lsm, lsm_map, pcn, ← ih (n / 2)]
    congr 1
    · rw [Nat.testBit_zero]
      rcases Nat.mod_two_eq_zero_or_one n with h | h <;> rw [h] <;> decide
    · exact lsm_congr (fun p _ => by rw [Nat.testBit_succ])
theorem lsm_rs (f : Nat → Nat) (k : Nat) : lsm f (List.range (k + 1)) = lsm f (List.range k) + f k := by
  rw [List.range_succ, lsm_append]; rfl
theorem bit_lt {x i : Nat} (h : x < 65536) (hb : x.testBit i = true) : i < 16 := by
  rcases Nat.lt_or_ge i 16 with h1 | h1
  · exact h1
  · rw [Nat.testBit_lt_two_pow (Nat.lt_of_lt_of_le h (Nat.pow_le_pow_right (by decide) h1 : 2 ^ 16 ≤ 2 ^ i))] at hb
    cases hb
theorem memN_sum (s : Nat) (g : Nat → Nat) : ∀ n : Nat, lsm g (memN s n) = lsm (fun k => if s.testBit k = true then g k else 0) (List.range n) := by
  intro n
  induction n with
  | zero => rfl
  | succ n ih =>
    rw [memN, lsm_append, lsm_rs, ih]
    congr 1
    split <;> rfl
/-! pairs -/
def pm (d p : Nat) : Nat := 2 ^ p ||| 2 ^ (p + d)
theorem pm_bit {d p i : Nat} : (pm d p).testBit i = true ↔ p = i ∨ p + d = i := by
  unfold pm
  rw [Nat.testBit_or, Bool.or_eq_true, Nat.testBit_two_pow, Nat.testBit_two_pow, decide_eq_true_iff, decide_eq_true_iff]
theorem sbs_pm {d p fr : Nat} : sbs (pm d p) fr = true ↔ fr.testBit p = true ∧ fr.testBit (p + d) = true := by
  rw [sbs_iff]
  constructor
  · intro h; exact ⟨h p (pm_bit.mpr (Or.inl rfl)), h (p + d) (pm_bit.mpr (Or.inr rfl))⟩
  · intro h i hi
    rcases pm_bit.mp hi with e | e
    · exact e ▸ h.1
    · exact e ▸ h.2
theorem pm_pc {d p : Nat} (hd : 1 ≤ d) (h : pm d p < 65536) : pcn 16 (pm d p) = 2 := by
  have h1 := bit_lt h (pm_bit.mpr (Or.inr rfl) : (pm d p).testBit (p + d) = true)
  unfold pm
  rw [pcn_or, pcn_pow 16 p (by omega), pcn_pow 16 (p + d) h1]
  apply bits_ext
  intro i
  rw [Nat.testBit_and, Bool.and_eq_true, Nat.zero_testBit, Nat.testBit_two_pow, Nat.testBit_two_pow, decide_eq_true_iff, decide_eq_true_iff]
  exact ⟨fun h => by omega, fun h => absurd h (by decide)⟩
def pls (d : Nat) : List Nat := (List.range 16).map (pm d)
theorem pls_ok {d : Nat} (hd : 1 ≤ d) : (∀ fr, fr < 65536 → lsm (fun m => if sbs m fr = true then 1 else 0) (pls d) ≤ pcn 16 fr) ∧ ∀ m, m ∈ pls d → m < 65536 → 2 ≤ pcn 16 m := by
  constructor
  · intro fr _
    rw [pls, lsm_map, ← pcn_sum]
    refine lsm_le (fun p _ => ?_)
    by_cases h : sbs (pm d p) fr = true
    · rw [if_pos h, if_pos (sbs_pm.mp h).1]; exact Nat.le_refl _
    · rw [if_neg h]; exact Nat.zero_le _
  · intro m hm hl
    obtain ⟨p, _, e⟩ := List.mem_map.mp hm
    subst e
    rw [pm_pc hd hl]
    exact Nat.le_refl _
def dsl (a : Nat → Nat) (s : Nat) : List (List Nat) := (mem s).map (fun k => pls (a k))
/-- in how many ways all of a set find place -/
def cn (a : Nat → Nat) (s fr : Nat) : Nat := wg (dsl a s) fr
theorem cn_zero (a : Nat → Nat) (fr : Nat) : cn a 0 fr = 1 := rfl
theorem dsl_len (a : Nat → Nat) (s : Nat) : (dsl a s).length = (mem s).length := List.length_map _
theorem dsl_mem {a : Nat → Nat} (ha : ∀ k, k < 8 → 1 ≤ a k) {s : Nat} {os : List Nat} (h : os ∈ dsl a s) : ∃ d, 1 ≤ d ∧ os = pls d := by
  obtain ⟨k, h1, h2⟩ := List.mem_map.mp h
  exact ⟨a k, ha k (memN_lt 8 k h1), h2.symm⟩
theorem cn_B {a : Nat → Nat} (ha : ∀ k, k < 8 → 1 ≤ a k) {s fr : Nat} (hfr : fr < 65536) : cn a s fr ≤ 10321920 :=
  wg_B hfr (by rw [dsl_len]; exact memN_len s 8) (fun os ho => by obtain ⟨d, h1, h2⟩ := dsl_mem ha ho; rw [h2]; exact pls_ok h1)
theorem cn_few {a : Nat → Nat} (ha : ∀ k, k < 8 → 1 ≤ a k) {s fr : Nat} (hfr : fr < 65536) (h : pcn 16 fr < 2 * (mem s).length) : cn a s fr = 0 := by
  rcases Nat.eq_zero_or_pos (cn a s fr) with h1 | h1
  · exact h1
  · have h2 := wg_few (c := 2) (dsl a s) fr hfr (fun os ho m hm hl => by
      obtain ⟨d, h1, h2⟩ := dsl_mem ha ho
      rw [h2] at hm
      obtain ⟨p, _, e⟩ := List.mem_map.mp hm
      subst e
      exact pm_pc h1 hl) (Nat.pos_iff_ne_zero.mp h1)
    rw [dsl_len] at h2
    omega
theorem cn_num {a : Nat → Nat} {s k : Nat} (hk : k < 8) (hs : s.testBit k = true) (fr : Nat) : cn a s fr = lsm (fun p => if sbs (pm (a k) p) fr = true then cn a (nd s (2 ^ k)) (nd fr (pm (a k) p)) else 0) (List.range 16) := by
  have h := (perm_out (memN_nodup s 8) ((memN_mem 8 k).mpr ⟨hk, hs⟩)).map (fun k => pls (a k))
  rw [List.map_cons, ← memN_out] at h
  unfold cn dsl
  rw [wg_perm h, wg_cons, pls, lsm_map]
theorem cn_place {a : Nat → Nat} (ha : ∀ k, k < 8 → 1 ≤ a k) (s : Nat) {fr p : Nat} (hfr : fr < 65536) (hp : fr.testBit p = true) (hl : ∀ i, i < p → ¬ fr.testBit i = true) : cn a s fr = cn a s (nd fr (2 ^ p)) + lsm (fun k => if sbs (pm (a k) p) fr = true then cn a (nd s (2 ^ k)) (nd fr (pm (a k) p)) else 0) (mem s) := by
  unfold cn
  rw [wg_place p]
  congr 1
  unfold dsl
  rw [pkl_map, lsm_map, pkl_nodup (memN_nodup s 8), lsm_map]
  refine lsm_congr (fun k hk => ?_)
  show lsm (fun m => if (m.testBit p && sbs m fr) = true then wg (((mem s).filter (fun j => j != k)).map (fun k => pls (a k))) (nd fr m) else 0) (pls (a k)) = _
  rw [← memN_out, pls, lsm_map]
  have hk8 := ha k (memN_lt 8 k hk)
  refine (lsm_single (x := p) List.nodup_range (List.mem_range.mpr (bit_lt hfr hp)) (fun z _ hne => if_neg (fun hh => ?_))).trans ?_
  · rw [Bool.and_eq_true] at hh
    rcases pm_bit.mp hh.1 with e | e
    · exact hne e
    · exact hl z (by omega) (sbs_pm.mp hh.2).1
  · have e : (pm (a k) p).testBit p = true := pm_bit.mpr (Or.inl rfl)
    rw [e, Bool.true_and]
theorem cn_alike {a : Nat → Nat} {s k l : Nat} (hk : k ∈ mem s) (hl : l ∈ mem s) (e : a k = a l) (fr : Nat) : cn a (nd s (2 ^ k)) fr = cn a (nd s (2 ^ l)) fr := by
  have h1 := (perm_out (memN_nodup s 8) hk).map (fun k => pls (a k))
  have h2 := (perm_out (memN_nodup s 8) hl).map (fun k => pls (a k))
  rw [List.map_cons, ← memN_out] at h1 h2
  rw [e] at h1
  unfold cn dsl
  exact wg_perm (List.perm_cons _ |>.mp (h1.symm.trans h2)) fr
def spkS (a : Nat → Nat) (s k : Nat) : Bool := s.testBit k && spkB a (mem s) k
def alN (a : Nat → Nat) (s k : Nat) : Nat := ((mem s).filter (fun l => a l == a k)).length
theorem spk_sumS {a g : Nat → Nat} {s : Nat} (hg : ∀ k l, k ∈ mem s → l ∈ mem s → a k = a l → g k = g l) : lsm g (mem s) = lsm (fun k => if spkS a s k = true then alN a s k * g k else 0) (List.range 8) := by
  rw [spk_sum (memN_nodup s 8) hg, memN_sum]
  refine lsm_congr (fun k _ => ?_)
  unfold spkS alN
  by_cases h : s.testBit k = true
  · rw [if_pos h, h, Bool.true_and]
  · rw [if_neg h, if_neg (by rw [Bool.and_eq_true]; exact fun hh => h hh.1)]
theorem cn_placeS {a : Nat → Nat} (ha : ∀ k, k < 8 → 1 ≤ a k) (s : Nat) {fr p : Nat} (hfr : fr < 65536) (hp : fr.testBit p = true) (hl : ∀ i, i < p → ¬ fr.testBit i = true) : cn a s fr = cn a s (nd fr (2 ^ p)) + lsm (fun k => if spkS a s k = true then alN a s k * (if sbs (pm (a k) p) fr = true then cn a (nd s (2 ^ k)) (nd fr (pm (a k) p)) else 0) else 0) (List.range 8) := by
  rw [cn_place ha s hfr hp hl, spk_sumS]
  intro k l hk hl e
  rw [e]
  by_cases h : sbs (pm (a l) p) fr = true
  · rw [if_pos h, if_pos h, cn_alike hk hl e]
  · rw [if_neg h, if_neg h]
/-- the lowest of a set that isn't empty speaks -/
theorem spk_ex {a : Nat → Nat} {s : Nat} (h : mem s ≠ []) : ∃ k, k < 8 ∧ spkS a s k = true := by
  cases hm : mem s with
  | nil => exact absurd hm h
  | cons x l =>
    have hx : x ∈ mem s := by rw [hm]; exact List.mem_cons_self
    obtain ⟨k, h1, _, h3⟩ := ex_min (L := mem s) (P := fun _ => True) x hx trivial
    have h4 := (memN_mem 8 k).mp h1
    refine ⟨k, h4.1, ?_⟩
    unfold spkS
    rw [h4.2, Bool.true_and]
    exact spkB_iff.mpr (fun l hl _ => h3 l hl trivial)
