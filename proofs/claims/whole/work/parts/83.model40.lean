/-! ===== words and kinds ===== -/
def stw (v x : Nat) : Nat := if v / 2 ^ 48 = 0 then v * 256 + x else 1152921504606846976
def pkF : List Nat → Nat → Nat
  | [], v => v
  | x :: l, v => pkF l (stw v x)
/-- the letters from c on -/
def lsB (B : Nat → Int) : Nat → Nat → List Nat
  | 0, _ => []
  | m + 1, c => if isL (B c) then (B c).toNat :: lsB B m (c + 1) else []
theorem lte_ls (B : Nat → Int) : ∀ m c, lte B m c = c + (lsB B m c).length := by
  intro m
  induction m with
  | zero => intro c; rfl
  | succ m ih =>
    intro c
    rw [lte, lsB]
    split
    · rw [ih, List.length_cons]; omega
    · rfl
theorem ltw_ls (B : Nat → Int) : ∀ m c v, ltw B m c v = pkF (lsB B m c) v := by
  intro m
  induction m with
  | zero => intro c v; rfl
  | succ m ih =>
    intro c v
    rw [ltw, lsB]
    split
    · rw [ih, pkF]; rfl
    · rfl
abbrev LW (l : List Nat) : Prop := ∀ x ∈ l, 65 ≤ x ∧ x ≤ 122
theorem lsB_LW (B : Nat → Int) : ∀ m c, LW (lsB B m c) := by
  intro m
  induction m with
  | zero => intro c x hx; exact absurd hx (by simp [lsB])
  | succ m ih =>
    intro c x hx
    rw [lsB] at hx
    split at hx
    · rename_i hl
      rcases List.mem_cons.mp hx with h | h
      · subst h; omega
      · exact ih _ x h
    · exact absurd hx (by simp)
theorem pkF_app : ∀ (l r : List Nat) (v : Nat), pkF (l ++ r) v = pkF r (pkF l v) := by
  intro l
  induction l with
  | nil => intro r v; rfl
  | cons x l ih => intro r v; exact ih r (stw v x)
theorem snoc_of {l : List Nat} (h : ¬ l = []) : ∃ (k : List Nat) (x : Nat), l = k ++ [x] := by
  rcases List.eq_nil_or_concat l with h1 | ⟨k, x, h1⟩
  · exact absurd h1 h
  · exact ⟨k, x, by rw [h1, List.concat_eq_append]⟩
theorem pkF_B : ∀ (n : Nat) (l : List Nat), l.length = n → LW l → (n ≤ 7 → pkF l 0 < 256 ^ n ∧ (0 < n → 256 ^ (n - 1) ≤ pkF l 0)) ∧ (8 ≤ n → pkF l 0 = 1152921504606846976) := by
  intro n
  induction n with
  | zero =>
    intro l hl _
    have : l = [] := List.eq_nil_of_length_eq_zero hl
    subst this
    exact ⟨fun _ => ⟨by decide, fun h => absurd h (by decide)⟩, fun h => absurd h (by decide)⟩
  | succ n ih =>
    intro l hl hw
    obtain ⟨k, x, rfl⟩ := snoc_of (l := l) (fun h => by rw [h] at hl; exact absurd hl (by simp))
    have hk : k.length = n := by rw [List.length_append] at hl; simp at hl; exact hl
    have hi := ih k hk (fun y hy => hw y (List.mem_append_left _ hy))
    have hx := hw x (List.mem_append_right _ List.mem_cons_self)
    have e : pkF (k ++ [x]) 0 = stw (pkF k 0) x := by rw [pkF_app]; rfl
    rw [e]
    have hpow : ∀ j : Nat, j ≤ 6 → 256 ^ j ≤ 256 ^ 6 := fun j hj => Nat.pow_le_pow_right (by decide) hj
    refine ⟨fun hn => ?_, fun hn => ?_⟩
    · have h1 := hi.1 (by omega)
      have h6 := hpow n (by omega)
      have hz : pkF k 0 / 2 ^ 48 = 0 := by omega
      unfold stw
      rw [if_pos hz]
      have e2 : 256 ^ (n + 1) = 256 ^ n * 256 := Nat.pow_succ _ _
      refine ⟨by omega, fun _ => ?_⟩
      show 256 ^ n ≤ _
      cases n with
      | zero => show 1 ≤ _; omega
      | succ n =>
        have h2 := h1.2 (by omega)
        have e3 : 256 ^ (n + 1) = 256 ^ n * 256 := Nat.pow_succ _ _
        have h2 : 256 ^ n ≤ pkF k 0 := h2
        omega
    · by_cases h7 : n = 7
      · subst h7
        have h1 := hi.1 (by decide)
        have h2 := h1.2 (by decide)
        have h2 : 256 ^ 6 ≤ pkF k 0 := h2
        unfold stw
        rw [if_neg (by omega)]
      · have h1 := hi.2 (by omega)
        rw [h1]
        unfold stw
        rw [if_neg (by decide)]
theorem pkF_inj : ∀ (n : Nat) (l r : List Nat), l.length = n → r.length = n → n ≤ 7 → LW l → LW r → pkF l 0 = pkF r 0 → l = r := by
  intro n
  induction n with
  | zero =>
    intro l r h1 h2 _ _ _ _
    rw [List.eq_nil_of_length_eq_zero h1, List.eq_nil_of_length_eq_zero h2]
  | succ n ih =>
    intro l r h1 h2 hn hl hr he
    obtain ⟨k, x, rfl⟩ := snoc_of (l := l) (fun h => by rw [h] at h1; exact absurd h1 (by simp))
    obtain ⟨j, y, rfl⟩ := snoc_of (l := r) (fun h => by rw [h] at h2; exact absurd h2 (by simp))
    have hk : k.length = n := by rw [List.length_append] at h1; simp at h1; exact h1
    have hj : j.length = n := by rw [List.length_append] at h2; simp at h2; exact h2
    have hlk : LW k := fun z hz => hl z (List.mem_append_left _ hz)
    have hrj : LW j := fun z hz => hr z (List.mem_append_left _ hz)
    have hx := hl x (List.mem_append_right _ List.mem_cons_self)
    have hy := hr y (List.mem_append_right _ List.mem_cons_self)
    have h6 : 256 ^ n ≤ 256 ^ 6 := Nat.pow_le_pow_right (by decide) (by omega)
    have bk := ((pkF_B n k hk hlk).1 (by omega)).1
    have bj := ((pkF_B n j hj hrj).1 (by omega)).1
    rw [pkF_app, pkF_app] at he
    have he : stw (pkF k 0) x = stw (pkF j 0) y := he
    unfold stw at he
    rw [if_pos (by omega), if_pos (by omega)] at he
    have e1 : pkF k 0 = pkF j 0 := by omega
    have e2 : x = y := by omega
    rw [ih k j hk hj (by omega) hlk hrj e1, e2]
theorem pkF_iff {l r : List Nat} (hl : LW l) (hr : LW r) (h7 : r.length ≤ 7) : pkF l 0 = pkF r 0 ↔ l = r := by
  constructor
  · intro h
    have hpow : ∀ a b : Nat, a ≤ b → 256 ^ a ≤ 256 ^ b := fun a b h => Nat.pow_le_pow_right (by decide) h
    have br := (pkF_B r.length r rfl hr).1 h7
    have h256 := hpow r.length 7 h7
    rcases Nat.lt_or_ge l.length 8 with h8 | h8
    · have bl := (pkF_B l.length l rfl hl).1 (by omega)
      have : l.length = r.length := by
        rcases Nat.lt_trichotomy l.length r.length with a | a | a
        · have h1 := br.2 (by omega)
          have h2 := hpow l.length (r.length - 1) (by omega)
          omega
        · exact a
        · have h1 := bl.2 (by omega)
          have h2 := hpow r.length (l.length - 1) (by omega)
          omega
      exact pkF_inj r.length l r this rfl h7 hl hr h
    · have := (pkF_B l.length l rfl hl).2 h8
      omega
  · intro h; rw [h]
/-- the letters of a token -/
def lxl (B : Nat → Int) (c : Nat) : List Nat := lsB B 301 (lxp B c)
theorem lxw_iff {B : Nat → Int} {c : Nat} {r : List Nat} {v : Nat} (hv : pkF r 0 = v) (hr : LW r) (h7 : r.length ≤ 7) : lxw B c = v ↔ lxl B c = r := by
  unfold lxw lxl
  rw [ltw_ls, ← hv]
  exact pkF_iff (lsB_LW B _ _) hr h7
def kwf (l : List Nat) : List (List Nat × Int) → Int
  | [] => 0
  | q :: t => if l = q.1 then q.2 else kwf l t
theorem kwf_ne {l w : List Nat} {k : Int} (hne : ¬ l = w) (hk : ¬ k = 0) : ∀ t : List (List Nat × Int), (∀ q ∈ t, q.2 = k → q.1 = w) → ¬ kwf l t = k := by
  intro t
  induction t with
  | nil => intro _ h; exact hk h.symm
  | cons q t ih =>
    intro h
    rw [kwf]
    split
    · rename_i e
      intro e2
      exact hne (e.trans (h q List.mem_cons_self e2))
    · exact ih (fun r hr => h r (List.mem_cons_of_mem _ hr))
theorem kwf_in {l : List Nat} : ∀ t : List (List Nat × Int), kwf l t = 0 ∨ ∃ q ∈ t, kwf l t = q.2 := by
  intro t
  induction t with
  | nil => exact Or.inl rfl
  | cons q t ih =>
    rw [kwf]
    split
    · exact Or.inr ⟨q, List.mem_cons_self, rfl⟩
    · rcases ih with h | ⟨r, hr, h⟩
      · exact Or.inl h
      · exact Or.inr ⟨r, List.mem_cons_of_mem _ hr, h⟩
def ksf (l : Int) : List (Int × Int) → Int
  | [] => 0
  | q :: t => if l = q.1 then q.2 else ksf l t
theorem ksf_ne {l w : Int} {k : Int} (hne : ¬ l = w) (hk : ¬ k = 0) : ∀ t : List (Int × Int), (∀ q ∈ t, q.2 = k → q.1 = w) → ¬ ksf l t = k := by
  intro t
  induction t with
  | nil => intro _ h; exact hk h.symm
  | cons q t ih =>
    intro h
    rw [ksf]
    split
    · rename_i e
      intro e2
      exact hne (e.trans (h q List.mem_cons_self e2))
    · exact ih (fun r hr => h r (List.mem_cons_of_mem _ hr))
theorem ksf_in {l : Int} : ∀ t : List (Int × Int), ksf l t = 0 ∨ ∃ q ∈ t, ksf l t = q.2 := by
  intro t
  induction t with
  | nil => exact Or.inl rfl
  | cons q t ih =>
    rw [ksf]
    split
    · exact Or.inr ⟨q, List.mem_cons_self, rfl⟩
    · rcases ih with h | ⟨r, hr, h⟩
      · exact Or.inl h
      · exact Or.inr ⟨r, List.mem_cons_of_mem _ hr, h⟩
/-- the kind of a word, of a sign, of a token -/
def kwT : List (List Nat × Int) := [([98, 101, 116, 119, 101, 101, 110], 3), ([116, 105, 114, 101, 115], 4), ([106, 111, 105, 110], 5), ([108, 101, 97, 118, 101], 6), ([116, 117, 114, 110], 7), ([100, 97, 121], 8), ([108, 111, 110, 103], 9), ([110, 117, 109, 98, 101, 114], 10), ([119, 97, 108, 107], 11), ([115, 105, 110, 99, 101], 12), ([102, 105, 114, 115, 116], 13), ([108, 97, 115, 116], 14), ([115, 116, 97, 110, 100, 115], 15), ([102, 114, 101, 101], 16), ([105, 102], 17), ([116, 104, 101, 110], 18), ([101, 108, 115, 101], 19), ([101, 110, 100], 20), ([111, 114], 21), ([97, 110, 100], 22), ([110, 111, 116], 23), ([97, 116], 24)]
def kwl (l : List Nat) : Int := kwf l kwT
def ksT : List (Int × Int) := [(0, 1), (1, 2), (60, 30), (62, 31), (61, 32), (35, 33), (43, 34), (45, 35), (42, 36), (47, 37), (40, 38), (41, 39), (59, 40), (4, 41), (5, 42)]
def ksg (t : Int) : Int := ksf t ksT
def kd (B : Nat → Int) (c : Nat) : Int := if lxt B c = 2 then kwl (lxl B c) else ksg (lxt B c)
theorem kwl_cases (l : List Nat) : kwl l = 0 ∨ (3 ≤ kwl l ∧ kwl l ≤ 24) := by
  rcases kwf_in (l := l) kwT with h | ⟨q, hq, h⟩
  · exact Or.inl h
  · refine Or.inr ?_
    unfold kwl
    rw [h]
    exact (by decide : ∀ q ∈ kwT, 3 ≤ q.2 ∧ q.2 ≤ 24) q hq
theorem ksg_cases (t : Int) : ksg t = 0 ∨ ksg t = 1 ∨ ksg t = 2 ∨ (30 ≤ ksg t ∧ ksg t ≤ 42) := by
  rcases ksf_in (l := t) ksT with h | ⟨q, hq, h⟩
  · exact Or.inl h
  · refine Or.inr ?_
    unfold ksg
    rw [h]
    exact (by decide : ∀ q ∈ ksT, q.2 = 1 ∨ q.2 = 2 ∨ (30 ≤ q.2 ∧ q.2 ≤ 42)) q hq
theorem kwl_3 {l : List Nat} : kwl l = 3 ↔ l = [98, 101, 116, 119, 101, 101, 110] := by
  constructor
  · intro h
    rcases Classical.em (l = [98, 101, 116, 119, 101, 101, 110]) with e | e
    · exact e
    · exact absurd h (kwf_ne e (by decide) kwT (by decide))
  · intro h; subst h; decide
theorem kd_3 {B : Nat → Int} {c : Nat} : kd B c = 3 ↔ lxt B c = 2 ∧ (lxw B c : Int) = 27696098611389806 := by
  have h1 := lxw_iff (B := B) (c := c) (r := [98, 101, 116, 119, 101, 101, 110]) (v := 27696098611389806) (by decide) (by decide) (by decide)
  unfold kd
  by_cases h2 : lxt B c = 2
  · rw [if_pos h2, kwl_3, ← h1]
    constructor
    · intro h; exact ⟨h2, by omega⟩
    · intro h; omega
  · rw [if_neg h2]
    constructor
    · intro h; have := ksg_cases (lxt B c); omega
    · intro h; exact absurd h.1 h2
theorem kwl_4 {l : List Nat} : kwl l = 4 ↔ l = [116, 105, 114, 101, 115] := by
  constructor
  · intro h
    rcases Classical.em (l = [116, 105, 114, 101, 115]) with e | e
    · exact e
    · exact absurd h (kwf_ne e (by decide) kwT (by decide))
  · intro h; subst h; decide
theorem kd_4 {B : Nat → Int} {c : Nat} : kd B c = 4 ↔ lxt B c = 2 ∧ (lxw B c : Int) = 499985311091 := by
  have h1 := lxw_iff (B := B) (c := c) (r := [116, 105, 114, 101, 115]) (v := 499985311091) (by decide) (by decide) (by decide)
  unfold kd
  by_cases h2 : lxt B c = 2
  · rw [if_pos h2, kwl_4, ← h1]
    constructor
    · intro h; exact ⟨h2, by omega⟩
    · intro h; omega
  · rw [if_neg h2]
    constructor
    · intro h; have := ksg_cases (lxt B c); omega
    · intro h; exact absurd h.1 h2
theorem kwl_5 {l : List Nat} : kwl l = 5 ↔ l = [106, 111, 105, 110] := by
  constructor
  · intro h
    rcases Classical.em (l = [106, 111, 105, 110]) with e | e
    · exact e
    · exact absurd h (kwf_ne e (by decide) kwT (by decide))
  · intro h; subst h; decide
theorem kd_5 {B : Nat → Int} {c : Nat} : kd B c = 5 ↔ lxt B c = 2 ∧ (lxw B c : Int) = 1785686382 := by
  have h1 := lxw_iff (B := B) (c := c) (r := [106, 111, 105, 110]) (v := 1785686382) (by decide) (by decide) (by decide)
  unfold kd
  by_cases h2 : lxt B c = 2
  · rw [if_pos h2, kwl_5, ← h1]
    constructor
    · intro h; exact ⟨h2, by omega⟩
    · intro h; omega
  · rw [if_neg h2]
    constructor
    · intro h; have := ksg_cases (lxt B c); omega
    · intro h; exact absurd h.1 h2
theorem kwl_6 {l : List Nat} : kwl l = 6 ↔ l = [108, 101, 97, 118, 101] := by
  constructor
  · intro h
    rcases Classical.em (l = [108, 101, 97, 118, 101]) with e | e
    · exact e
    · exact absurd h (kwf_ne e (by decide) kwT (by decide))
  · intro h; subst h; decide
theorem kd_6 {B : Nat → Int} {c : Nat} : kd B c = 6 ↔ lxt B c = 2 ∧ (lxw B c : Int) = 465557354085 := by
  have h1 := lxw_iff (B := B) (c := c) (r := [108, 101, 97, 118, 101]) (v := 465557354085) (by decide) (by decide) (by decide)
  unfold kd
  by_cases h2 : lxt B c = 2
  · rw [if_pos h2, kwl_6, ← h1]
    constructor
    · intro h; exact ⟨h2, by omega⟩
    · intro h; omega
  · rw [if_neg h2]
    constructor
    · intro h; have := ksg_cases (lxt B c); omega
    · intro h; exact absurd h.1 h2
theorem kwl_7 {l : List Nat} : kwl l = 7 ↔ l = [116, 117, 114, 110] := by
  constructor
  · intro h
    rcases Classical.em (l = [116, 117, 114, 110]) with e | e
    · exact e
    · exact absurd h (kwf_ne e (by decide) kwT (by decide))
  · intro h; subst h; decide
theorem kd_7 {B : Nat → Int} {c : Nat} : kd B c = 7 ↔ lxt B c = 2 ∧ (lxw B c : Int) = 1953854062 := by
  have h1 := lxw_iff (B := B) (c := c) (r := [116, 117, 114, 110]) (v := 1953854062) (by decide) (by decide) (by decide)
  unfold kd
  by_cases h2 : lxt B c = 2
  · rw [if_pos h2, kwl_7, ← h1]
    constructor
    · intro h; exact ⟨h2, by omega⟩
    · intro h; omega
  · rw [if_neg h2]
    constructor
    · intro h; have := ksg_cases (lxt B c); omega
    · intro h; exact absurd h.1 h2
theorem kwl_8 {l : List Nat} : kwl l = 8 ↔ l = [100, 97, 121] := by
  constructor
  · intro h
    rcases Classical.em (l = [100, 97, 121]) with e | e
    · exact e
    · exact absurd h (kwf_ne e (by decide) kwT (by decide))
  · intro h; subst h; decide
theorem kd_8 {B : Nat → Int} {c : Nat} : kd B c = 8 ↔ lxt B c = 2 ∧ (lxw B c : Int) = 6578553 := by
  have h1 := lxw_iff (B := B) (c := c) (r := [100, 97, 121]) (v := 6578553) (by decide) (by decide) (by decide)
  unfold kd
  by_cases h2 : lxt B c = 2
  · rw [if_pos h2, kwl_8, ← h1]
    constructor
    · intro h; exact ⟨h2, by omega⟩
    · intro h; omega
  · rw [if_neg h2]
    constructor
    · intro h; have := ksg_cases (lxt B c); omega
    · intro h; exact absurd h.1 h2
theorem kwl_9 {l : List Nat} : kwl l = 9 ↔ l = [108, 111, 110, 103] := by
  constructor
  · intro h
    rcases Classical.em (l = [108, 111, 110, 103]) with e | e
    · exact e
    · exact absurd h (kwf_ne e (by decide) kwT (by decide))
  · intro h; subst h; decide
theorem kd_9 {B : Nat → Int} {c : Nat} : kd B c = 9 ↔ lxt B c = 2 ∧ (lxw B c : Int) = 1819242087 := by
  have h1 := lxw_iff (B := B) (c := c) (r := [108, 111, 110, 103]) (v := 1819242087) (by decide) (by decide) (by decide)
  unfold kd
  by_cases h2 : lxt B c = 2
  · rw [if_pos h2, kwl_9, ← h1]
    constructor
    · intro h; exact ⟨h2, by omega⟩
    · intro h; omega
  · rw [if_neg h2]
    constructor
    · intro h; have := ksg_cases (lxt B c); omega
    · intro h; exact absurd h.1 h2
theorem kwl_10 {l : List Nat} : kwl l = 10 ↔ l = [110, 117, 109, 98, 101, 114] := by
  constructor
  · intro h
    rcases Classical.em (l = [110, 117, 109, 98, 101, 114]) with e | e
    · exact e
    · exact absurd h (kwf_ne e (by decide) kwT (by decide))
  · intro h; subst h; decide
theorem kd_10 {B : Nat → Int} {c : Nat} : kd B c = 10 ↔ lxt B c = 2 ∧ (lxw B c : Int) = 121450625394034 := by
  have h1 := lxw_iff (B := B) (c := c) (r := [110, 117, 109, 98, 101, 114]) (v := 121450625394034) (by decide) (by decide) (by decide)
  unfold kd
  by_cases h2 : lxt B c = 2
  · rw [if_pos h2, kwl_10, ← h1]
    constructor
    · intro h; exact ⟨h2, by omega⟩
    · intro h; omega
  · rw [if_neg h2]
    constructor
    · intro h; have := ksg_cases (lxt B c); omega
    · intro h; exact absurd h.1 h2
theorem kwl_11 {l : List Nat} : kwl l = 11 ↔ l = [119, 97, 108, 107] := by
  constructor
  · intro h
    rcases Classical.em (l = [119, 97, 108, 107]) with e | e
    · exact e
    · exact absurd h (kwf_ne e (by decide) kwT (by decide))
  · intro h; subst h; decide
theorem kd_11 {B : Nat → Int} {c : Nat} : kd B c = 11 ↔ lxt B c = 2 ∧ (lxw B c : Int) = 2002873451 := by
  have h1 := lxw_iff (B := B) (c := c) (r := [119, 97, 108, 107]) (v := 2002873451) (by decide) (by decide) (by decide)
  unfold kd
  by_cases h2 : lxt B c = 2
  · rw [if_pos h2, kwl_11, ← h1]
    constructor
    · intro h; exact ⟨h2, by omega⟩
    · intro h; omega
  · rw [if_neg h2]
    constructor
    · intro h; have := ksg_cases (lxt B c); omega
    · intro h; exact absurd h.1 h2
theorem kwl_12 {l : List Nat} : kwl l = 12 ↔ l = [115, 105, 110, 99, 101] := by
  constructor
  · intro h
    rcases Classical.em (l = [115, 105, 110, 99, 101]) with e | e
    · exact e
    · exact absurd h (kwf_ne e (by decide) kwT (by decide))
  · intro h; subst h; decide
theorem kd_12 {B : Nat → Int} {c : Nat} : kd B c = 12 ↔ lxt B c = 2 ∧ (lxw B c : Int) = 495690081125 := by
  have h1 := lxw_iff (B := B) (c := c) (r := [115, 105, 110, 99, 101]) (v := 495690081125) (by decide) (by decide) (by decide)
  unfold kd
  by_cases h2 : lxt B c = 2
  · rw [if_pos h2, kwl_12, ← h1]
    constructor
    · intro h; exact ⟨h2, by omega⟩
    · intro h; omega
  · rw [if_neg h2]
    constructor
    · intro h; have := ksg_cases (lxt B c); omega
    · intro h; exact absurd h.1 h2
theorem kwl_13 {l : List Nat} : kwl l = 13 ↔ l = [102, 105, 114, 115, 116] := by
  constructor
  · intro h
    rcases Classical.em (l = [102, 105, 114, 115, 116]) with e | e
    · exact e
    · exact absurd h (kwf_ne e (by decide) kwT (by decide))
  · intro h; subst h; decide
theorem kd_13 {B : Nat → Int} {c : Nat} : kd B c = 13 ↔ lxt B c = 2 ∧ (lxw B c : Int) = 439855772532 := by
  have h1 := lxw_iff (B := B) (c := c) (r := [102, 105, 114, 115, 116]) (v := 439855772532) (by decide) (by decide) (by decide)
  unfold kd
  by_cases h2 : lxt B c = 2
  · rw [if_pos h2, kwl_13, ← h1]
    constructor
    · intro h; exact ⟨h2, by omega⟩
    · intro h; omega
  · rw [if_neg h2]
    constructor
    · intro h; have := ksg_cases (lxt B c); omega
    · intro h; exact absurd h.1 h2
theorem kwl_14 {l : List Nat} : kwl l = 14 ↔ l = [108, 97, 115, 116] := by
  constructor
  · intro h
    rcases Classical.em (l = [108, 97, 115, 116]) with e | e
    · exact e
    · exact absurd h (kwf_ne e (by decide) kwT (by decide))
  · intro h; subst h; decide
theorem kd_14 {B : Nat → Int} {c : Nat} : kd B c = 14 ↔ lxt B c = 2 ∧ (lxw B c : Int) = 1818325876 := by
  have h1 := lxw_iff (B := B) (c := c) (r := [108, 97, 115, 116]) (v := 1818325876) (by decide) (by decide) (by decide)
  unfold kd
  by_cases h2 : lxt B c = 2
  · rw [if_pos h2, kwl_14, ← h1]
    constructor
    · intro h; exact ⟨h2, by omega⟩
    · intro h; omega
  · rw [if_neg h2]
    constructor
    · intro h; have := ksg_cases (lxt B c); omega
    · intro h; exact absurd h.1 h2
theorem kwl_15 {l : List Nat} : kwl l = 15 ↔ l = [115, 116, 97, 110, 100, 115] := by
  constructor
  · intro h
    rcases Classical.em (l = [115, 116, 97, 110, 100, 115]) with e | e
    · exact e
    · exact absurd h (kwf_ne e (by decide) kwT (by decide))
  · intro h; subst h; decide
theorem kd_15 {B : Nat → Int} {c : Nat} : kd B c = 15 ↔ lxt B c = 2 ∧ (lxw B c : Int) = 126943688025203 := by
  have h1 := lxw_iff (B := B) (c := c) (r := [115, 116, 97, 110, 100, 115]) (v := 126943688025203) (by decide) (by decide) (by decide)
  unfold kd
  by_cases h2 : lxt B c = 2
  · rw [if_pos h2, kwl_15, ← h1]
    constructor
    · intro h; exact ⟨h2, by omega⟩
    · intro h; omega
  · rw [if_neg h2]
    constructor
    · intro h; have := ksg_cases (lxt B c); omega
    · intro h; exact absurd h.1 h2
theorem kwl_16 {l : List Nat} : kwl l = 16 ↔ l = [102, 114, 101, 101] := by
  constructor
  · intro h
    rcases Classical.em (l = [102, 114, 101, 101]) with e | e
    · exact e
    · exact absurd h (kwf_ne e (by decide) kwT (by decide))
  · intro h; subst h; decide
theorem kd_16 {B : Nat → Int} {c : Nat} : kd B c = 16 ↔ lxt B c = 2 ∧ (lxw B c : Int) = 1718773093 := by
  have h1 := lxw_iff (B := B) (c := c) (r := [102, 114, 101, 101]) (v := 1718773093) (by decide) (by decide) (by decide)
  unfold kd
  by_cases h2 : lxt B c = 2
  · rw [if_pos h2, kwl_16, ← h1]
    constructor
    · intro h; exact ⟨h2, by omega⟩
    · intro h; omega
  · rw [if_neg h2]
    constructor
    · intro h; have := ksg_cases (lxt B c); omega
    · intro h; exact absurd h.1 h2
theorem kwl_17 {l : List Nat} : kwl l = 17 ↔ l = [105, 102] := by
  constructor
  · intro h
    rcases Classical.em (l = [105, 102]) with e | e
    · exact e
    · exact absurd h (kwf_ne e (by decide) kwT (by decide))
  · intro h; subst h; decide
theorem kd_17 {B : Nat → Int} {c : Nat} : kd B c = 17 ↔ lxt B c = 2 ∧ (lxw B c : Int) = 26982 := by
  have h1 := lxw_iff (B := B) (c := c) (r := [105, 102]) (v := 26982) (by decide) (by decide) (by decide)
  unfold kd
  by_cases h2 : lxt B c = 2
  · rw [if_pos h2, kwl_17, ← h1]
    constructor
    · intro h; exact ⟨h2, by omega⟩
    · intro h; omega
  · rw [if_neg h2]
    constructor
    · intro h; have := ksg_cases (lxt B c); omega
    · intro h; exact absurd h.1 h2
theorem kwl_18 {l : List Nat} : kwl l = 18 ↔ l = [116, 104, 101, 110] := by
  constructor
  · intro h
    rcases Classical.em (l = [116, 104, 101, 110]) with e | e
    · exact e
    · exact absurd h (kwf_ne e (by decide) kwT (by decide))
  · intro h; subst h; decide
theorem kd_18 {B : Nat → Int} {c : Nat} : kd B c = 18 ↔ lxt B c = 2 ∧ (lxw B c : Int) = 1952998766 := by
  have h1 := lxw_iff (B := B) (c := c) (r := [116, 104, 101, 110]) (v := 1952998766) (by decide) (by decide) (by decide)
  unfold kd
  by_cases h2 : lxt B c = 2
  · rw [if_pos h2, kwl_18, ← h1]
    constructor
    · intro h; exact ⟨h2, by omega⟩
    · intro h; omega
  · rw [if_neg h2]
    constructor
    · intro h; have := ksg_cases (lxt B c); omega
    · intro h; exact absurd h.1 h2
theorem kwl_19 {l : List Nat} : kwl l = 19 ↔ l = [101, 108, 115, 101] := by
  constructor
  · intro h
    rcases Classical.em (l = [101, 108, 115, 101]) with e | e
    · exact e
    · exact absurd h (kwf_ne e (by decide) kwT (by decide))
  · intro h; subst h; decide
theorem kd_19 {B : Nat → Int} {c : Nat} : kd B c = 19 ↔ lxt B c = 2 ∧ (lxw B c : Int) = 1701606245 := by
  have h1 := lxw_iff (B := B) (c := c) (r := [101, 108, 115, 101]) (v := 1701606245) (by decide) (by decide) (by decide)
  unfold kd
  by_cases h2 : lxt B c = 2
  · rw [if_pos h2, kwl_19, ← h1]
    constructor
    · intro h; exact ⟨h2, by omega⟩
    · intro h; omega
  · rw [if_neg h2]
    constructor
    · intro h; have := ksg_cases (lxt B c); omega
    · intro h; exact absurd h.1 h2
theorem kwl_20 {l : List Nat} : kwl l = 20 ↔ l = [101, 110, 100] := by
  constructor
  · intro h
    rcases Classical.em (l = [101, 110, 100]) with e | e
    · exact e
    · exact absurd h (kwf_ne e (by decide) kwT (by decide))
  · intro h; subst h; decide
theorem kd_20 {B : Nat → Int} {c : Nat} : kd B c = 20 ↔ lxt B c = 2 ∧ (lxw B c : Int) = 6647396 := by
  have h1 := lxw_iff (B := B) (c := c) (r := [101, 110, 100]) (v := 6647396) (by decide) (by decide) (by decide)
  unfold kd
  by_cases h2 : lxt B c = 2
  · rw [if_pos h2, kwl_20, ← h1]
    constructor
    · intro h; exact ⟨h2, by omega⟩
    · intro h; omega
  · rw [if_neg h2]
    constructor
    · intro h; have := ksg_cases (lxt B c); omega
    · intro h; exact absurd h.1 h2
theorem kwl_21 {l : List Nat} : kwl l = 21 ↔ l = [111, 114] := by
  constructor
  · intro h
    rcases Classical.em (l = [111, 114]) with e | e
    · exact e
    · exact absurd h (kwf_ne e (by decide) kwT (by decide))
  · intro h; subst h; decide
theorem kd_21 {B : Nat → Int} {c : Nat} : kd B c = 21 ↔ lxt B c = 2 ∧ (lxw B c : Int) = 28530 := by
  have h1 := lxw_iff (B := B) (c := c) (r := [111, 114]) (v := 28530) (by decide) (by decide) (by decide)
  unfold kd
  by_cases h2 : lxt B c = 2
  · rw [if_pos h2, kwl_21, ← h1]
    constructor
    · intro h; exact ⟨h2, by omega⟩
    · intro h; omega
  · rw [if_neg h2]
    constructor
    · intro h; have := ksg_cases (lxt B c); omega
    · intro h; exact absurd h.1 h2
theorem kwl_22 {l : List Nat} : kwl l = 22 ↔ l = [97, 110, 100] := by
  constructor
  · intro h
    rcases Classical.em (l = [97, 110, 100]) with e | e
    · exact e
    · exact absurd h (kwf_ne e (by decide) kwT (by decide))
  · intro h; subst h; decide
theorem kd_22 {B : Nat → Int} {c : Nat} : kd B c = 22 ↔ lxt B c = 2 ∧ (lxw B c : Int) = 6385252 := by
  have h1 := lxw_iff (B := B) (c := c) (r := [97, 110, 100]) (v := 6385252) (by decide) (by decide) (by decide)
  unfold kd
  by_cases h2 : lxt B c = 2
  · rw [if_pos h2, kwl_22, ← h1]
    constructor
    · intro h; exact ⟨h2, by omega⟩
    · intro h; omega
  · rw [if_neg h2]
    constructor
    · intro h; have := ksg_cases (lxt B c); omega
    · intro h; exact absurd h.1 h2
theorem kwl_23 {l : List Nat} : kwl l = 23 ↔ l = [110, 111, 116] := by
  constructor
  · intro h
    rcases Classical.em (l = [110, 111, 116]) with e | e
    · exact e
    · exact absurd h (kwf_ne e (by decide) kwT (by decide))
  · intro h; subst h; decide
theorem kd_23 {B : Nat → Int} {c : Nat} : kd B c = 23 ↔ lxt B c = 2 ∧ (lxw B c : Int) = 7237492 := by
  have h1 := lxw_iff (B := B) (c := c) (r := [110, 111, 116]) (v := 7237492) (by decide) (by decide) (by decide)
  unfold kd
  by_cases h2 : lxt B c = 2
  · rw [if_pos h2, kwl_23, ← h1]
    constructor
    · intro h; exact ⟨h2, by omega⟩
    · intro h; omega
  · rw [if_neg h2]
    constructor
    · intro h; have := ksg_cases (lxt B c); omega
    · intro h; exact absurd h.1 h2
theorem kwl_24 {l : List Nat} : kwl l = 24 ↔ l = [97, 116] := by
  constructor
  · intro h
    rcases Classical.em (l = [97, 116]) with e | e
    · exact e
    · exact absurd h (kwf_ne e (by decide) kwT (by decide))
  · intro h; subst h; decide
theorem kd_24 {B : Nat → Int} {c : Nat} : kd B c = 24 ↔ lxt B c = 2 ∧ (lxw B c : Int) = 24948 := by
  have h1 := lxw_iff (B := B) (c := c) (r := [97, 116]) (v := 24948) (by decide) (by decide) (by decide)
  unfold kd
  by_cases h2 : lxt B c = 2
  · rw [if_pos h2, kwl_24, ← h1]
    constructor
    · intro h; exact ⟨h2, by omega⟩
    · intro h; omega
  · rw [if_neg h2]
    constructor
    · intro h; have := ksg_cases (lxt B c); omega
    · intro h; exact absurd h.1 h2
theorem ksg_1 {t : Int} : ksg t = 1 ↔ t = 0 := by
  constructor
  · intro h
    rcases Classical.em (t = 0) with e | e
    · exact e
    · exact absurd h (ksf_ne e (by decide) ksT (by decide))
  · intro h; subst h; decide
theorem kd_1 {B : Nat → Int} {c : Nat} : kd B c = 1 ↔ lxt B c = 0 := by
  unfold kd
  by_cases h2 : lxt B c = 2
  · rw [if_pos h2]
    have := kwl_cases (lxl B c)
    constructor
    · intro h; omega
    · intro h; omega
  · rw [if_neg h2]
    exact ksg_1
theorem ksg_2 {t : Int} : ksg t = 2 ↔ t = 1 := by
  constructor
  · intro h
    rcases Classical.em (t = 1) with e | e
    · exact e
    · exact absurd h (ksf_ne e (by decide) ksT (by decide))
  · intro h; subst h; decide
theorem kd_2 {B : Nat → Int} {c : Nat} : kd B c = 2 ↔ lxt B c = 1 := by
  unfold kd
  by_cases h2 : lxt B c = 2
  · rw [if_pos h2]
    have := kwl_cases (lxl B c)
    constructor
    · intro h; omega
    · intro h; omega
  · rw [if_neg h2]
    exact ksg_2
theorem ksg_30 {t : Int} : ksg t = 30 ↔ t = 60 := by
  constructor
  · intro h
    rcases Classical.em (t = 60) with e | e
    · exact e
    · exact absurd h (ksf_ne e (by decide) ksT (by decide))
  · intro h; subst h; decide
theorem kd_30 {B : Nat → Int} {c : Nat} : kd B c = 30 ↔ lxt B c = 60 := by
  unfold kd
  by_cases h2 : lxt B c = 2
  · rw [if_pos h2]
    have := kwl_cases (lxl B c)
    constructor
    · intro h; omega
    · intro h; omega
  · rw [if_neg h2]
    exact ksg_30
theorem ksg_31 {t : Int} : ksg t = 31 ↔ t = 62 := by
  constructor
  · intro h
    rcases Classical.em (t = 62) with e | e
    · exact e
    · exact absurd h (ksf_ne e (by decide) ksT (by decide))
  · intro h; subst h; decide
theorem kd_31 {B : Nat → Int} {c : Nat} : kd B c = 31 ↔ lxt B c = 62 := by
  unfold kd
  by_cases h2 : lxt B c = 2
  · rw [if_pos h2]
    have := kwl_cases (lxl B c)
    constructor
    · intro h; omega
    · intro h; omega
  · rw [if_neg h2]
    exact ksg_31
theorem ksg_32 {t : Int} : ksg t = 32 ↔ t = 61 := by
  constructor
  · intro h
    rcases Classical.em (t = 61) with e | e
    · exact e
    · exact absurd h (ksf_ne e (by decide) ksT (by decide))
  · intro h; subst h; decide
theorem kd_32 {B : Nat → Int} {c : Nat} : kd B c = 32 ↔ lxt B c = 61 := by
  unfold kd
  by_cases h2 : lxt B c = 2
  · rw [if_pos h2]
    have := kwl_cases (lxl B c)
    constructor
    · intro h; omega
    · intro h; omega
  · rw [if_neg h2]
    exact ksg_32
theorem ksg_33 {t : Int} : ksg t = 33 ↔ t = 35 := by
  constructor
  · intro h
    rcases Classical.em (t = 35) with e | e
    · exact e
    · exact absurd h (ksf_ne e (by decide) ksT (by decide))
  · intro h; subst h; decide
theorem kd_33 {B : Nat → Int} {c : Nat} : kd B c = 33 ↔ lxt B c = 35 := by
  unfold kd
  by_cases h2 : lxt B c = 2
  · rw [if_pos h2]
    have := kwl_cases (lxl B c)
    constructor
    · intro h; omega
    · intro h; omega
  · rw [if_neg h2]
    exact ksg_33
theorem ksg_34 {t : Int} : ksg t = 34 ↔ t = 43 := by
  constructor
  · intro h
    rcases Classical.em (t = 43) with e | e
    · exact e
    · exact absurd h (ksf_ne e (by decide) ksT (by decide))
  · intro h; subst h; decide
theorem kd_34 {B : Nat → Int} {c : Nat} : kd B c = 34 ↔ lxt B c = 43 := by
  unfold kd
  by_cases h2 : lxt B c = 2
  · rw [if_pos h2]
    have := kwl_cases (lxl B c)
    constructor
    · intro h; omega
    · intro h; omega
  · rw [if_neg h2]
    exact ksg_34
theorem ksg_35 {t : Int} : ksg t = 35 ↔ t = 45 := by
  constructor
  · intro h
    rcases Classical.em (t = 45) with e | e
    · exact e
    · exact absurd h (ksf_ne e (by decide) ksT (by decide))
  · intro h; subst h; decide
theorem kd_35 {B : Nat → Int} {c : Nat} : kd B c = 35 ↔ lxt B c = 45 := by
  unfold kd
  by_cases h2 : lxt B c = 2
  · rw [if_pos h2]
    have := kwl_cases (lxl B c)
    constructor
    · intro h; omega
    · intro h; omega
  · rw [if_neg h2]
    exact ksg_35
theorem ksg_36 {t : Int} : ksg t = 36 ↔ t = 42 := by
  constructor
  · intro h
    rcases Classical.em (t = 42) with e | e
    · exact e
    · exact absurd h (ksf_ne e (by decide) ksT (by decide))
  · intro h; subst h; decide
theorem kd_36 {B : Nat → Int} {c : Nat} : kd B c = 36 ↔ lxt B c = 42 := by
  unfold kd
  by_cases h2 : lxt B c = 2
  · rw [if_pos h2]
    have := kwl_cases (lxl B c)
    constructor
    · intro h; omega
    · intro h; omega
  · rw [if_neg h2]
    exact ksg_36
theorem ksg_37 {t : Int} : ksg t = 37 ↔ t = 47 := by
  constructor
  · intro h
    rcases Classical.em (t = 47) with e | e
    · exact e
    · exact absurd h (ksf_ne e (by decide) ksT (by decide))
  · intro h; subst h; decide
theorem kd_37 {B : Nat → Int} {c : Nat} : kd B c = 37 ↔ lxt B c = 47 := by
  unfold kd
  by_cases h2 : lxt B c = 2
  · rw [if_pos h2]
    have := kwl_cases (lxl B c)
    constructor
    · intro h; omega
    · intro h; omega
  · rw [if_neg h2]
    exact ksg_37
theorem ksg_38 {t : Int} : ksg t = 38 ↔ t = 40 := by
  constructor
  · intro h
    rcases Classical.em (t = 40) with e | e
    · exact e
    · exact absurd h (ksf_ne e (by decide) ksT (by decide))
  · intro h; subst h; decide
theorem kd_38 {B : Nat → Int} {c : Nat} : kd B c = 38 ↔ lxt B c = 40 := by
  unfold kd
  by_cases h2 : lxt B c = 2
  · rw [if_pos h2]
    have := kwl_cases (lxl B c)
    constructor
    · intro h; omega
    · intro h; omega
  · rw [if_neg h2]
    exact ksg_38
theorem ksg_39 {t : Int} : ksg t = 39 ↔ t = 41 := by
  constructor
  · intro h
    rcases Classical.em (t = 41) with e | e
    · exact e
    · exact absurd h (ksf_ne e (by decide) ksT (by decide))
  · intro h; subst h; decide
theorem kd_39 {B : Nat → Int} {c : Nat} : kd B c = 39 ↔ lxt B c = 41 := by
  unfold kd
  by_cases h2 : lxt B c = 2
  · rw [if_pos h2]
    have := kwl_cases (lxl B c)
    constructor
    · intro h; omega
    · intro h; omega
  · rw [if_neg h2]
    exact ksg_39
theorem ksg_40 {t : Int} : ksg t = 40 ↔ t = 59 := by
  constructor
  · intro h
    rcases Classical.em (t = 59) with e | e
    · exact e
    · exact absurd h (ksf_ne e (by decide) ksT (by decide))
  · intro h; subst h; decide
theorem kd_40 {B : Nat → Int} {c : Nat} : kd B c = 40 ↔ lxt B c = 59 := by
  unfold kd
  by_cases h2 : lxt B c = 2
  · rw [if_pos h2]
    have := kwl_cases (lxl B c)
    constructor
    · intro h; omega
    · intro h; omega
  · rw [if_neg h2]
    exact ksg_40
theorem ksg_41 {t : Int} : ksg t = 41 ↔ t = 4 := by
  constructor
  · intro h
    rcases Classical.em (t = 4) with e | e
    · exact e
    · exact absurd h (ksf_ne e (by decide) ksT (by decide))
  · intro h; subst h; decide
theorem kd_41 {B : Nat → Int} {c : Nat} : kd B c = 41 ↔ lxt B c = 4 := by
  unfold kd
  by_cases h2 : lxt B c = 2
  · rw [if_pos h2]
    have := kwl_cases (lxl B c)
    constructor
    · intro h; omega
    · intro h; omega
  · rw [if_neg h2]
    exact ksg_41
theorem ksg_42 {t : Int} : ksg t = 42 ↔ t = 5 := by
  constructor
  · intro h
    rcases Classical.em (t = 5) with e | e
    · exact e
    · exact absurd h (ksf_ne e (by decide) ksT (by decide))
  · intro h; subst h; decide
theorem kd_42 {B : Nat → Int} {c : Nat} : kd B c = 42 ↔ lxt B c = 5 := by
  unfold kd
  by_cases h2 : lxt B c = 2
  · rw [if_pos h2]
    have := kwl_cases (lxl B c)
    constructor
    · intro h; omega
    · intro h; omega
  · rw [if_neg h2]
    exact ksg_42
theorem kd_B (B : Nat → Int) (c : Nat) : 0 ≤ kd B c ∧ kd B c ≤ 42 := by
  unfold kd
  split
  · have := kwl_cases (lxl B c); omega
  · have := ksg_cases (lxt B c); omega
set_option maxRecDepth 100000 in
theorem qX11_w2 {hp : List mx_C} {x : Nat} (h_x : x < 256) {z : Nat} (h_z : z < 256) : SpF yX11_w2 cX11_w2 2 (some .long) 0 [.int (jI (x : Int)), .int (jI (z : Int))] hp (.long (jL (((x * 256 + z) : Nat) : Int))) hp := by
  refine Sp.of [.int (jI (x : Int)), .int (jI (z : Int))] (by decide) (by simp) (Nat.le_of_ble_eq_true rfl) rfl (fun E => ?_)
  refine L_i0 dX11_w2_0 ?_
  refine J_i2l dX11_w2_1 (by omega) ?_
  refine J_bipush dX11_w2_2 (by decide) ?_
  refine J_lshl 8 dX11_w2_4 (by decide) ?_
  refine L_i1 dX11_w2_5 ?_
  refine J_i2l dX11_w2_6 (by omega) ?_
  refine J_lpack (by omega) dX11_w2_7 ?_
  exact R_l rfl dX11_w2_8 rfl rfl

set_option maxRecDepth 100000 in
theorem qX11_w3 {hp : List mx_C} {x : Nat} (h_x : x < 256) {z : Nat} (h_z : z < 256) {u : Nat} (h_u : u < 256) : SpF yX11_w3 cX11_w3 3 (some .long) 1 [.int (jI (x : Int)), .int (jI (z : Int)), .int (jI (u : Int))] hp (.long (jL ((((x * 256 + z) * 256 + u) : Nat) : Int))) hp := by
  refine Sp.of [.int (jI (x : Int)), .int (jI (z : Int)), .int (jI (u : Int))] (by decide) (by simp) (Nat.le_of_ble_eq_true rfl) rfl (fun E => ?_)
  refine L_i0 dX11_w3_0 ?_
  refine L_i1 dX11_w3_1 ?_
  refine C_s2F vX11_136 dX11_w3_2 (qX11_w2 h_x h_z) (Nat.le_of_ble_eq_true rfl) (by decide) ?_
  refine J_bipush dX11_w3_5 (by decide) ?_
  refine J_lshl 8 dX11_w3_7 (by decide) ?_
  refine L_i2 dX11_w3_8 ?_
  refine J_i2l dX11_w3_9 (by omega) ?_
  refine J_lpack (by omega) dX11_w3_10 ?_
  exact R_l rfl dX11_w3_11 rfl rfl

set_option maxRecDepth 100000 in
theorem qX11_w4 {hp : List mx_C} {x : Nat} (h_x : x < 256) {z : Nat} (h_z : z < 256) {u : Nat} (h_u : u < 256) {v : Nat} (h_v : v < 256) : SpF yX11_w4 cX11_w4 4 (some .long) 2 [.int (jI (x : Int)), .int (jI (z : Int)), .int (jI (u : Int)), .int (jI (v : Int))] hp (.long (jL (((((x * 256 + z) * 256 + u) * 256 + v) : Nat) : Int))) hp := by
  refine Sp.of [.int (jI (x : Int)), .int (jI (z : Int)), .int (jI (u : Int)), .int (jI (v : Int))] (by decide) (by simp) (Nat.le_of_ble_eq_true rfl) rfl (fun E => ?_)
  refine L_i0 dX11_w4_0 ?_
  refine L_i1 dX11_w4_1 ?_
  refine L_i2 dX11_w4_2 ?_
  refine C_s3F vX11_140 dX11_w4_3 (qX11_w3 h_x h_z h_u) (Nat.le_of_ble_eq_true rfl) (by decide) ?_
  refine J_bipush dX11_w4_6 (by decide) ?_
  refine J_lshl 8 dX11_w4_8 (by decide) ?_
  refine L_i3 dX11_w4_9 ?_
  refine J_i2l dX11_w4_10 (by omega) ?_
  refine J_lpack (by omega) dX11_w4_11 ?_
  exact R_l rfl dX11_w4_12 rfl rfl

set_option maxRecDepth 100000 in
theorem qX11_w5 {hp : List mx_C} {x : Nat} (h_x : x < 256) {z : Nat} (h_z : z < 256) {u : Nat} (h_u : u < 256) {v : Nat} (h_v : v < 256) {t : Nat} (h_t : t < 256) : SpF yX11_w5 cX11_w5 5 (some .long) 3 [.int (jI (x : Int)), .int (jI (z : Int)), .int (jI (u : Int)), .int (jI (v : Int)), .int (jI (t : Int))] hp (.long (jL ((((((x * 256 + z) * 256 + u) * 256 + v) * 256 + t) : Nat) : Int))) hp := by
  refine Sp.of [.int (jI (x : Int)), .int (jI (z : Int)), .int (jI (u : Int)), .int (jI (v : Int)), .int (jI (t : Int))] (by decide) (by simp) (Nat.le_of_ble_eq_true rfl) rfl (fun E => ?_)
  refine L_i0 dX11_w5_0 ?_
  refine L_i1 dX11_w5_1 ?_
  refine L_i2 dX11_w5_2 ?_
  refine L_i3 dX11_w5_3 ?_
  refine C_s4F vX11_144 dX11_w5_4 (qX11_w4 h_x h_z h_u h_v) (Nat.le_of_ble_eq_true rfl) (by decide) ?_
  refine J_bipush dX11_w5_7 (by decide) ?_
  refine J_lshl 8 dX11_w5_9 (by decide) ?_
  refine L_i4 dX11_w5_10 ?_
  refine J_i2l dX11_w5_12 (by omega) ?_
  refine J_lpack (by omega) dX11_w5_13 ?_
  exact R_l rfl dX11_w5_14 rfl rfl

set_option maxRecDepth 100000 in
theorem qX11_w6 {hp : List mx_C} {x : Nat} (h_x : x < 256) {z : Nat} (h_z : z < 256) {u : Nat} (h_u : u < 256) {v : Nat} (h_v : v < 256) {t : Nat} (h_t : t < 256) {r : Nat} (h_r : r < 256) : SpF yX11_w6 cX11_w6 6 (some .long) 4 [.int (jI (x : Int)), .int (jI (z : Int)), .int (jI (u : Int)), .int (jI (v : Int)), .int (jI (t : Int)), .int (jI (r : Int))] hp (.long (jL (((((((x * 256 + z) * 256 + u) * 256 + v) * 256 + t) * 256 + r) : Nat) : Int))) hp := by
  refine Sp.of [.int (jI (x : Int)), .int (jI (z : Int)), .int (jI (u : Int)), .int (jI (v : Int)), .int (jI (t : Int)), .int (jI (r : Int))] (by decide) (by simp) (Nat.le_of_ble_eq_true rfl) rfl (fun E => ?_)
  refine L_i0 dX11_w6_0 ?_
  refine L_i1 dX11_w6_1 ?_
  refine L_i2 dX11_w6_2 ?_
  refine L_i3 dX11_w6_3 ?_
  refine L_i4 dX11_w6_4 ?_
  refine C_s5F vX11_148 dX11_w6_6 (qX11_w5 h_x h_z h_u h_v h_t) (Nat.le_of_ble_eq_true rfl) (by decide) ?_
  refine J_bipush dX11_w6_9 (by decide) ?_
  refine J_lshl 8 dX11_w6_11 (by decide) ?_
  refine L_i5 dX11_w6_12 ?_
  refine J_i2l dX11_w6_14 (by omega) ?_
  refine J_lpack (by omega) dX11_w6_15 ?_
  exact R_l rfl dX11_w6_16 rfl rfl

set_option maxRecDepth 100000 in
theorem qX11_isWord {S T : Nat → Int → Int} {D : List mx_C} {B : Nat → Int} {c : Nat} (hct : CT B T c) (hB : ∀ k, B k ≤ 255) {v : Int} (hv : 0 ≤ v ∧ v < 4611686018427387904) : SpF yX11_isWord cX11_isWord 3 (some .boolean) 0 [.ref 36, .long (jL v)] (W5 S T D) (.int (jI (jb (lxt B c = 2 ∧ (lxw B c : Int) = v)))) (W5 S T D) := by
  have ht := lxt_B hB c
  have hw := lxw_B hB c
  refine Sp.of [.ref 36, .long (jL v), .retAddr 0] (by decide) (by simp) (Nat.le_of_ble_eq_true rfl) rfl (fun E => ?_)
  refine L_a0 dX11_isWord_0 ?_
  refine GW_36_9 fX11_114 dX11_isWord_1 ?_
  refine J_eqi (b := lxt B c) hct.2.2.1 ?_
  refine J_iconst dX11_isWord_4 ?_
  refine J_icmp_ne 21 dX11_isWord_5 rfl (by omega) (by omega) (fun c5 => ?_) (fun c5 => ?_)
  · refine J_iconst dX11_isWord_21 ?_
    exact R_z rfl dX11_isWord_22 (by decide) rfl (by first | exact (jb_t (by omega)).symm | exact (jb_f (by omega)).symm)
  · refine L_a0 dX11_isWord_8 ?_
    refine GW_36_11 fX11_127 dX11_isWord_9 ?_
    refine J_eql (b := (lxw B c : Int)) (hct.2.2.2.2 (by omega)) ?_
    refine L_l1 dX11_isWord_12 ?_
    refine JL_ne 21 dX11_isWord_13 dX11_isWord_14 rfl (by omega) (by omega) (fun c14 => ?_) (fun c14 => ?_)
    · refine J_iconst dX11_isWord_21 ?_
      exact R_z rfl dX11_isWord_22 (by decide) rfl (by first | exact (jb_t (by omega)).symm | exact (jb_f (by omega)).symm)
    · refine J_iconst dX11_isWord_17 ?_
      refine E_goto 22 dX11_isWord_18 rfl ?_
      exact R_z rfl dX11_isWord_22 (by decide) rfl (by first | exact (jb_t (by omega)).symm | exact (jb_f (by omega)).symm)

