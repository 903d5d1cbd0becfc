/-! ===== what a text says, alike ===== -/
def TJ (els el : List (Int × Int × Int)) (cd : List (Int × Int)) (lb lt : Option (List Int)) : Prop :=
  els.length = el.length ∧ el.length ≤ 24 ∧ cd.length ≤ 300 ∧
  (∀ j : Nat, j < el.length → LNp (els.getD j (0, 0, 0)) (el.getD j (0, 0, 0)).1 (el.getD j (0, 0, 0)).2.1 (el.getD j (0, 0, 0)).2.2) ∧
  (∀ j : Nat, j < el.length → TIe lb lt cd (el.getD j (0, 0, 0))) ∧
  (¬ lb = none → ∃ j : Nat, j < el.length ∧ (el.getD j (0, 0, 0)).1 = 0) ∧ (¬ lt = none → ∃ j : Nat, j < el.length ∧ (el.getD j (0, 0, 0)).1 = 1)
theorem TI.tj {B : Nat → Int} (hB : ∀ k, 300 ≤ k → B k < 0) {c : Nat} {els el : List (Int × Int × Int)} {on : Int} {cd : List (Int × Int)} {lb lt : Option (List Int)} (h : TI B c els el on cd lb lt) : TJ els el cd lb lt := by
  obtain ⟨t1, t2, t3, t4, t5, t6, _, _, _, ta, tb⟩ := h
  exact ⟨t1, t2, Nat.le_trans t3 (lxp_hi hB t4), t5, t6, ta, tb⟩
/-- a text in the reference's cells -/
def TD (c : Int → Int) (q : Int) (els el : List (Int × Int × Int)) (cd : List (Int × Int)) (lb lt : Option (List Int)) : Prop := c (681 * q) = (el.length : Int) ∧ ER c q el ∧ CDd c (681 * q + 73) cd ∧ TJ els el cd lb lt
theorem TD.ex {c c' : Int → Int} {q : Int} {els el : List (Int × Int × Int)} {cd : List (Int × Int)} {lb lt : Option (List Int)} (h : TD c q els el cd lb lt) (e : ∀ y, 681 * q ≤ y ∧ y < 681 * q + 681 → c' y = c y) : TD c' q els el cd lb lt := by
  obtain ⟨h1, h2, h3, h4⟩ := h
  have hl := h4.2.1
  have hc := h4.2.2.1
  refine ⟨(e _ (by omega)).trans h1, fun i hi => ?_, fun i hi => ?_, h4⟩
  · have := h2 i hi
    unfold CLr at this ⊢
    rw [e _ (by omega), e _ (by omega), e _ (by omega)]
    exact this
  · have := h3 i hi
    rw [e _ (by omega), e _ (by omega)]
    exact this
theorem okC_of {c : Int → Int} {b : Int} : ∀ (code : List (Int × Int)) (i n t : Int), (∀ j : Nat, j < code.length → c (b + 2 * (i + j)) = (code.getD j (0, 0)).1 ∧ c (b + 2 * (i + j) + 1) = (code.getD j (0, 0)).2) → okS code n t → dNl code n = 1 → dTl code t = 0 → okC c b code.length i n t := by
  intro code
  induction code with
  | nil => intro i n t _ _ h1 h2; exact ⟨h1, h2⟩
  | cons x l ih =>
    intro i n t hc ho h1 h2
    have h0 := hc 0 (Nat.succ_pos _)
    rw [show i + ((0 : Nat) : Int) = i by omega] at h0
    have e1 : c (b + 2 * i) = x.1 := h0.1
    have e2 : c (b + 2 * i + 1) = x.2 := h0.2
    show preO (c (b + 2 * i)) (c (b + 2 * i + 1)) n t ∧ okC c b l.length (i + 1) (dpN (c (b + 2 * i)) n) (dpT (c (b + 2 * i)) t)
    rw [e1, e2]
    refine ⟨ho.1, ih (i + 1) _ _ (fun j hj => ?_) ho.2 h1 h2⟩
    have := hc (j + 1) (Nat.succ_lt_succ hj)
    rw [show i + ((j + 1 : Nat) : Int) = i + 1 + (j : Int) by omega] at this
    exact this
theorem evC_of {a nm c : Int → Int} {b : Int} : ∀ (code : List (Int × Int)) (i : Int) (V : Int → Int) (n : Int) (B : Int → Int) (t : Int), (∀ j : Nat, j < code.length → c (b + 2 * (i + j)) = (code.getD j (0, 0)).1 ∧ c (b + 2 * (i + j) + 1) = (code.getD j (0, 0)).2) → evC a nm c b code.length i V n B t = (evL a nm code V n B t).1 0 := by
  intro code
  induction code with
  | nil => intro i V n B t _; rfl
  | cons x l ih =>
    intro i V n B t hc
    have h0 := hc 0 (Nat.succ_pos _)
    rw [show i + ((0 : Nat) : Int) = i by omega] at h0
    have e1 : c (b + 2 * i) = x.1 := h0.1
    have e2 : c (b + 2 * i + 1) = x.2 := h0.2
    show evC a nm c b l.length (i + 1) (stV a nm (c (b + 2 * i)) (c (b + 2 * i + 1)) V n B t) (dpN (c (b + 2 * i)) n) (stB (c (b + 2 * i)) V n B t) (dpT (c (b + 2 * i)) t) = _
    rw [e1, e2]
    refine ih (i + 1) _ _ _ _ (fun j hj => ?_)
    have := hc (j + 1) (Nat.succ_lt_succ hj)
    rw [show i + ((j + 1 : Nat) : Int) = i + 1 + (j : Int) by omega] at this
    exact this
/-- a clause that is a law, in the cells -/
theorem TD.law {c : Int → Int} {q : Int} {els el : List (Int × Int × Int)} {cd : List (Int × Int)} {lb lt : Option (List Int)} (h : TD c q els el cd lb lt) {j : Nat} (hj : j < el.length) (hs : c (lwX q j) ≤ 1) : ∃ code : List (Int × Int), KC (c (lwX q j)) false code ∧ (if c (lwX q j) = 0 then lb else lt) = some (code.map mp) ∧ (0 ≤ c (lwX q j + 1) ∧ c (lwX q j + 2) = c (lwX q j + 1) + (code.length : Int) ∧ c (lwX q j + 2) ≤ 300) ∧ ∀ i : Nat, i < code.length → c (681 * q + 73 + 2 * (c (lwX q j + 1) + i)) = (code.getD i (0, 0)).1 ∧ c (681 * q + 73 + 2 * (c (lwX q j + 1) + i) + 1) = (code.getD i (0, 0)).2 := by
  obtain ⟨h1, h2, h3, h4⟩ := h
  have hE : CLr c (lwX q j) (el.getD j (0, 0, 0)) := h2 j hj
  obtain ⟨e1, e2, e3⟩ := hE
  rw [e1] at hs ⊢
  obtain ⟨A, code, Z, u1, u2, u3, u4, u5⟩ := h4.2.2.2.2.1 j hj hs
  have f1 : c (lwX q j + 1) = (A.length : Int) := (e2 (by omega)).trans u2
  have f2 : c (lwX q j + 2) = (A.length : Int) + (code.length : Int) := (e3 (Or.inl hs)).trans u3
  have hlen : cd.length = A.length + code.length + Z.length := by rw [u1, List.length_append, List.length_append]
  have h300 := h4.2.2.1
  refine ⟨code, u4, u5, ⟨by omega, by omega, by omega⟩, fun i hi => ?_⟩
  rw [f1]
  have := h3 (A.length + i) (by omega)
  have eg : cd.getD (A.length + i) (0, 0) = code.getD i (0, 0) := by
    rw [u1, List.getD_eq_getElem?_getD, List.getD_eq_getElem?_getD, List.append_assoc, List.getElem?_append_right (by omega), List.getElem?_append_left (by omega)]
    congr 2
    omega
  rw [eg] at this
  rw [show ((A.length + i : Nat) : Int) = (A.length : Int) + (i : Int) by omega] at this
  exact this
theorem TD.txok {c : Int → Int} {q : Int} {els el : List (Int × Int × Int)} {cd : List (Int × Int)} {lb lt : Option (List Int)} (h : TD c q els el cd lb lt) : (0 ≤ c (681 * q) ∧ c (681 * q) ≤ 24) ∧ ∀ k, 0 ≤ k ∧ k < c (681 * q) → (0 ≤ c (lwX q k) ∧ c (lwX q k) ≤ 6) ∧ (c (lwX q k) ≤ 1 → LawOk c q k) := by
  have h1 := h.1
  have h24 := h.2.2.2.2.1
  refine ⟨by omega, fun k hk => ?_⟩
  obtain ⟨j, rfl⟩ : ∃ j : Nat, k = j := ⟨k.toNat, by omega⟩
  have hj : j < el.length := by omega
  have e1 : c (lwX q j) = (el.getD j (0, 0, 0)).1 := (h.2.1 j hj).1
  have hl := h.2.2.2.2.2.2.1 j hj
  refine ⟨?_, fun hs => ?_⟩
  · rw [e1]
    unfold LNp at hl
    omega
  · obtain ⟨code, k1, k2, k3, k4⟩ := h.law hj hs
    refine ⟨by omega, ?_⟩
    rw [show (c (lwX q (j : Int) + 2) - c (lwX q (j : Int) + 1)).toNat = code.length by omega]
    exact okC_of code _ 0 0 k4 (k1.2.2.1 0 0 (by omega) (by omega) (by omega) (by omega)) (k1.2.2.2.1 0) (k1.2.2.2.2.1 0)
theorem syF_c {c : Int → Int} {q s : Int} : ∀ (m : Nat) (k : Int), (syF c q s m k = none ∧ ∀ j, k ≤ j ∧ j < k + m → ¬ c (lwX q j) = s) ∨ (∃ j, (k ≤ j ∧ j < k + m) ∧ syF c q s m k = some j ∧ c (lwX q j) = s) := by
  intro m
  induction m with
  | zero => intro k; exact Or.inl ⟨rfl, fun j hj => by omega⟩
  | succ m ih =>
    intro k
    show ((if c (lwX q k) = s then some k else syF c q s m (k + 1)) = none ∧ _) ∨ _
    by_cases z : c (lwX q k) = s
    · refine Or.inr ⟨k, by omega, ?_, z⟩
      show (if c (lwX q k) = s then some k else syF c q s m (k + 1)) = some k
      rw [if_pos z]
    · rw [if_neg z]
      rcases ih (k + 1) with ⟨h1, h2⟩ | ⟨j, h1, h2, h3⟩
      · refine Or.inl ⟨h1, fun j hj => ?_⟩
        by_cases e : j = k
        · rw [e]; exact z
        · exact h2 j (by omega)
      · refine Or.inr ⟨j, by omega, ?_, h3⟩
        show (if c (lwX q k) = s then some k else syF c q s m (k + 1)) = some j
        rw [if_neg z]; exact h2
theorem TD.says {c : Int → Int} {q : Int} {els el : List (Int × Int × Int)} {cd : List (Int × Int)} {lb lt : Option (List Int)} (h : TD c q els el cd lb lt) (hq : 0 ≤ q) {s : Int} (hs : s = 0 ∨ s = 1) {f a : Int → Int} {n : Int} (hr : Rl s f a n) (wo top : Int) : syV a (md_nm a (n - 1)) c q s wo top = match (if s = 0 then lb else lt) with | none => wo | some l => heldI (crv f n l) 0 top := by
  have h1 := h.1
  have hlen : ((c (681 * q)).toNat : Int) = (el.length : Int) := by omega
  unfold syV
  rw [if_neg (by omega)]
  rcases syF_c (c := c) (q := q) (s := s) (c (681 * q)).toNat 0 with ⟨e, hn⟩ | ⟨j, hj, e, hs2⟩
  · rw [e]
    have hno : (if s = 0 then lb else lt) = none := by
      refine Classical.byContradiction (fun z => ?_)
      have : ∃ j : Nat, j < el.length ∧ (el.getD j (0, 0, 0)).1 = s := by
        rcases hs with rfl | rfl
        · rw [if_pos rfl] at z; exact h.2.2.2.2.2.2.2.2.1 z
        · rw [if_neg (by decide)] at z; exact h.2.2.2.2.2.2.2.2.2 z
      obtain ⟨j, hj, e1⟩ := this
      exact hn j (by omega) ((h.2.1 j hj).1.trans e1)
    rw [hno]
  · obtain ⟨i, rfl⟩ : ∃ i : Nat, j = i := ⟨j.toNat, by omega⟩
    rw [e]
    have hi : i < el.length := by omega
    obtain ⟨code, k1, k2, k3, k4⟩ := h.law hi (by omega)
    rw [hs2] at k1 k2
    rw [k2]
    show heldI (lwEv a (md_nm a (n - 1)) c q (i : Int)) 0 top = heldI (crv f n (code.map mp)) 0 top
    have ev : lwEv a (md_nm a (n - 1)) c q (i : Int) = crv f n (code.map mp) := by
      unfold lwEv
      rw [show (c (lwX q (i : Int) + 2) - c (lwX q (i : Int) + 1)).toNat = code.length by omega, evC_of code _ _ 0 _ 0 k4]
      obtain ⟨v, d1, c1, r1, f1⟩ := k1.2.2.2.2.2 f a n hr [] (fun _ => 0) 0 (fun _ => 0) 0 (by omega) (by omega)
      unfold crv
      rw [c1]
      exact r1
    rw [ev]
