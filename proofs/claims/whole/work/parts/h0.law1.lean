/-! ===== a law's code on both sides ===== -/
def cK (v : Int) : Int := if v = 0 then 8 else if v = 1 then 10 else if v = 2 then 9 else if v = 3 then 11 else if v = 4 then 12 else if v = 5 then 13 else 14
def moK (o : Int) : Int := if o = 2 then 15 else if o = 3 then 50 else if o = 4 then 16 else if o = 5 then 51 else if o = 6 then 34 else if o = 7 then 35 else if o = 8 then 36 else if o = 9 then 37 else if o = 10 then 30 else if o = 11 then 41 else if o = 12 then 31 else if o = 13 then 42 else if o = 14 then 32 else if o = 15 then 33 else if o = 20 then 23 else if o = 21 then 22 else 21
def mp (x : Int × Int) : Int := if x.1 = 0 then 100 + x.2 else if x.1 = 1 then cK x.2 else moK x.1
def evL (a nm : Int → Int) : List (Int × Int) → (Int → Int) → Int → (Int → Int) → Int → (Int → Int) × (Int → Int)
  | [], V, _, B, _ => (V, B)
  | x :: l, V, n, B, t => evL a nm l (stV a nm x.1 x.2 V n B t) (dpN x.1 n) (stB x.1 V n B t) (dpT x.1 t)
def dNl : List (Int × Int) → Int → Int
  | [], n => n
  | x :: l, n => dNl l (dpN x.1 n)
def dTl : List (Int × Int) → Int → Int
  | [], t => t
  | x :: l, t => dTl l (dpT x.1 t)
def okS : List (Int × Int) → Int → Int → Prop
  | [], _, _ => True
  | x :: l, n, t => preO x.1 x.2 n t ∧ okS l (dpN x.1 n) (dpT x.1 t)
theorem crn_app (f : Int → Int) (n : Int) : ∀ (l1 l2 st : List Int), crn f n (l1 ++ l2) st = (crn f n l1 st).bind (crn f n l2) := by
  intro l1
  induction l1 with
  | nil => intro l2 st; rfl
  | cons x l ih =>
    intro l2 st
    show (cst1 f n x st).bind (crn f n (l ++ l2)) = ((cst1 f n x st).bind (crn f n l)).bind (crn f n l2)
    cases cst1 f n x st with
    | none => rfl
    | some r => exact ih l2 r
theorem dNl_app : ∀ (c1 c2 : List (Int × Int)) (n : Int), dNl (c1 ++ c2) n = dNl c2 (dNl c1 n) := by
  intro c1
  induction c1 with
  | nil => intro c2 n; rfl
  | cons x l ih => intro c2 n; exact ih c2 _
theorem dTl_app : ∀ (c1 c2 : List (Int × Int)) (n : Int), dTl (c1 ++ c2) n = dTl c2 (dTl c1 n) := by
  intro c1
  induction c1 with
  | nil => intro c2 n; rfl
  | cons x l ih => intro c2 n; exact ih c2 _
theorem evL_app (a nm : Int → Int) : ∀ (c1 c2 : List (Int × Int)) (V : Int → Int) (n : Int) (B : Int → Int) (t : Int), evL a nm (c1 ++ c2) V n B t = evL a nm c2 (evL a nm c1 V n B t).1 (dNl c1 n) (evL a nm c1 V n B t).2 (dTl c1 t) := by
  intro c1
  induction c1 with
  | nil => intro c2 V n B t; rfl
  | cons x l ih => intro c2 V n B t; exact ih c2 _ _ _ _
theorem okS_app : ∀ (c1 c2 : List (Int × Int)) (n t : Int), okS (c1 ++ c2) n t ↔ (okS c1 n t ∧ okS c2 (dNl c1 n) (dTl c1 t)) := by
  intro c1
  induction c1 with
  | nil => intro c2 n t; exact ⟨fun h => ⟨trivial, h⟩, fun h => h.2⟩
  | cons x l ih =>
    intro c2 n t
    show (_ ∧ okS (l ++ c2) _ _) ↔ ((_ ∧ okS l _ _) ∧ okS c2 (dNl l (dpN x.1 n)) (dTl l (dpT x.1 t)))
    rw [ih]
    exact ⟨fun h => ⟨⟨h.1, h.2.1⟩, h.2.2⟩, fun h => ⟨h.1.1, h.1.2, h.2⟩⟩
/-- what a law asks of a row is alike -/
def Rl (s : Int) (f a : Int → Int) (n : Int) : Prop := (∀ v, 0 ≤ v ∧ v ≤ 6 → ofN s v → cnm f n (cK v) = md_nm a (n - 1) v ∧ -1000000 ≤ md_nm a (n - 1) v ∧ md_nm a (n - 1) v ≤ 1000000) ∧ (∀ v, rw_holds f v ↔ ((1 ≤ v ∧ v ≤ 8) ∧ md_stands a (v - 1))) ∧ ∀ v, ((0 ≤ v ∧ v < f 0) ∧ f 4 / 2 ^ v.toNat % 2 = 0) ↔ ((0 ≤ v ∧ v < a 7) ∧ ¬ md_taken a / 2 ^ v.toNat % 2 = 1)
def dvB (b : Bool) : Int := if b = true then 0 else 1
def dbB (b : Bool) : Int := if b = true then 1 else 0
def domB (b : Bool) (v : Int) : Prop := if b = true then (v = 0 ∨ v = 1) else (-1000000 ≤ v ∧ v ≤ 1000000)
def rsB (b : Bool) (W : (Int → Int) × (Int → Int)) (n t : Int) : Int := if b = true then W.2 t else W.1 n
def frB (V : Int → Int) (n : Int) (B : Int → Int) (t : Int) (W : (Int → Int) × (Int → Int)) : Prop := (∀ j, 0 ≤ j ∧ j < n → W.1 j = V j) ∧ ∀ j, 0 ≤ j ∧ j < t → W.2 j = B j
/-- code that gives one value (or one truth) -/
def KC (s : Int) (b : Bool) (cd : List (Int × Int)) : Prop :=
  (∀ x ∈ cd, 0 ≤ mp x ∧ mp x ≤ 10099) ∧
  (∀ f n st, ∃ v, crn f n (cd.map mp) st = some (v :: st)) ∧
  (∀ n t : Int, 0 ≤ n → 0 ≤ t → n + cd.length ≤ 329 → t + cd.length ≤ 329 → okS cd n t) ∧
  (∀ n, dNl cd n = n + dvB b) ∧ (∀ t, dTl cd t = t + dbB b) ∧
  ∀ f a nb, Rl s f a nb → ∀ (st : List Int) (V : Int → Int) (n : Int) (B : Int → Int) (t : Int), 0 ≤ n → 0 ≤ t → ∃ v, domB b v ∧ crn f nb (cd.map mp) st = some (v :: st) ∧ rsB b (evL a (md_nm a (nb - 1)) cd V n B t) n t = v ∧ frB V n B t (evL a (md_nm a (nb - 1)) cd V n B t)
/-- code that gives two of a kind -/
def KD (s : Int) (b : Bool) (cd : List (Int × Int)) : Prop :=
  (∀ x ∈ cd, 0 ≤ mp x ∧ mp x ≤ 10099) ∧
  (∀ f n st, ∃ v w, crn f n (cd.map mp) st = some (w :: v :: st)) ∧
  (∀ n t : Int, 0 ≤ n → 0 ≤ t → n + cd.length ≤ 329 → t + cd.length ≤ 329 → okS cd n t) ∧
  (∀ n, dNl cd n = n + 2 * dvB b) ∧ (∀ t, dTl cd t = t + 2 * dbB b) ∧ 2 ≤ cd.length ∧
  ∀ f a nb, Rl s f a nb → ∀ (st : List Int) (V : Int → Int) (n : Int) (B : Int → Int) (t : Int), 0 ≤ n → 0 ≤ t → ∃ v w, domB b v ∧ domB b w ∧ crn f nb (cd.map mp) st = some (w :: v :: st) ∧ rsB b (evL a (md_nm a (nb - 1)) cd V n B t) n t = v ∧ rsB b (evL a (md_nm a (nb - 1)) cd V n B t) (n + dvB b) (t + dbB b) = w ∧ frB V n B t (evL a (md_nm a (nb - 1)) cd V n B t)
theorem dvb (b : Bool) : (dvB b = 0 ∧ dbB b = 1 ∧ b = true) ∨ (dvB b = 1 ∧ dbB b = 0 ∧ b = false) := by cases b <;> decide
theorem KC.len {s : Int} {b : Bool} {cd : List (Int × Int)} (h : KC s b cd) : 1 ≤ cd.length := by
  cases cd with
  | nil =>
    have h1 := h.2.2.2.1 0
    have h2 := h.2.2.2.2.1 0
    have e1 : dNl [] 0 = 0 := rfl
    have e2 : dTl [] 0 = 0 := rfl
    have := dvb b
    omega
  | cons x l => exact Nat.succ_le_succ (Nat.zero_le _)
theorem KC.two {s : Int} {b : Bool} {c1 c2 : List (Int × Int)} (h1 : KC s b c1) (h2 : KC s b c2) : KD s b (c1 ++ c2) := by
  have l1 := h1.len
  have l2 := h2.len
  have hb := dvb b
  refine ⟨fun x hx => ?_, fun f n st => ?_, fun n t hn ht k1 k2 => ?_, fun n => ?_, fun t => ?_, ?_, fun f a nb hr st V n B t hn ht => ?_⟩
  · rcases List.mem_append.mp hx with q | q
    · exact h1.1 x q
    · exact h2.1 x q
  · obtain ⟨v, e1⟩ := h1.2.1 f n st
    obtain ⟨w, e2⟩ := h2.2.1 f n (v :: st)
    refine ⟨v, w, ?_⟩
    rw [List.map_append, crn_app, e1]
    exact e2
  · rw [List.length_append] at k1 k2
    refine (okS_app c1 c2 n t).mpr ⟨h1.2.2.1 n t hn ht (by omega) (by omega), ?_⟩
    rw [h1.2.2.2.1, h1.2.2.2.2.1]
    exact h2.2.2.1 _ _ (by omega) (by omega) (by omega) (by omega)
  · rw [dNl_app, h1.2.2.2.1, h2.2.2.2.1]; omega
  · rw [dTl_app, h1.2.2.2.2.1, h2.2.2.2.2.1]; omega
  · rw [List.length_append]; omega
  · obtain ⟨v, d1, e1, r1, f1⟩ := h1.2.2.2.2.2 f a nb hr st V n B t hn ht
    obtain ⟨w, d2, e2, r2, f2⟩ := h2.2.2.2.2.2 f a nb hr (v :: st) (evL a (md_nm a (nb - 1)) c1 V n B t).1 (n + dvB b) (evL a (md_nm a (nb - 1)) c1 V n B t).2 (t + dbB b) (by omega) (by omega)
    have ee : evL a (md_nm a (nb - 1)) (c1 ++ c2) V n B t = evL a (md_nm a (nb - 1)) c2 (evL a (md_nm a (nb - 1)) c1 V n B t).1 (n + dvB b) (evL a (md_nm a (nb - 1)) c1 V n B t).2 (t + dbB b) := by
      rw [evL_app, h1.2.2.2.1, h1.2.2.2.2.1]
    refine ⟨v, w, d1, d2, ?_, ?_, ?_, ?_⟩
    · rw [List.map_append, crn_app, e1]
      exact e2
    · rw [ee, ← r1]
      unfold rsB
      cases b with
      | true =>
        rw [if_pos rfl, if_pos rfl]
        have q1 : dvB true = 0 := rfl
        have q2 : dbB true = 1 := rfl
        exact f2.2 t (by omega)
      | false =>
        rw [if_neg (by decide), if_neg (by decide)]
        have q1 : dvB false = 1 := rfl
        have q2 : dbB false = 0 := rfl
        exact f2.1 n (by omega)
    · rw [ee]; exact r2
    · rw [ee]
      exact ⟨fun j hj => (f2.1 j (by omega)).trans (f1.1 j hj), fun j hj => (f2.2 j (by omega)).trans (f1.2 j hj)⟩
