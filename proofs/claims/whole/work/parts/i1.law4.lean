/-! ===== what a law asks of a row, alike ===== -/
theorem lpR_skip {α : Type} {g : Int → Option α} : ∀ (p m : Nat) (k : Int) (s : α), (∀ j, k ≤ j ∧ j < k + p → g j = none) → lpR g (p + m) k s = lpR g m (k + p) s := by
  intro p
  induction p with
  | zero => intro m k s _; rw [Nat.zero_add, show k + ((0 : Nat) : Int) = k by omega]
  | succ p ih =>
    intro m k s h
    rw [show p + 1 + m = p + m + 1 by omega, lpR_no (h k (by omega)), ih m (k + 1) s (fun j hj => h j (by omega)), show k + 1 + (p : Int) = k + ((p + 1 : Nat) : Int) by omega]
theorem lpR_shd {α : Type} {g h : Int → Option α} {d lo hi : Int} (e : ∀ k, lo ≤ k ∧ k < hi → g (k + d) = h k) : ∀ (m : Nat) (k : Int) (s : α), lo ≤ k → k + m ≤ hi → lpR g m (k + d) s = lpR h m k s := by
  intro m
  induction m with
  | zero => intro k s _ _; rfl
  | succ m ih =>
    intro k s h1 h2
    have e1 := e k (by omega)
    have e2 := ih (k + 1) s (by omega) (by omega)
    show (match g (k + d) with | some r => r | none => lpR g m (k + d + 1) s) = (match h k with | some r => r | none => lpR h m (k + 1) s)
    rw [e1, show k + d + 1 = k + 1 + d by omega, e2]
theorem eq_latest {f a : Int → Int} (h : RQ f a) (hv : MV a) : rw_latest f = md_latest a := by
  have h6 : a 6 = f 5 := h.2.2.2.1
  have hb : 0 ≤ a 6 ∧ a 6 ≤ 25 := hv.2.2.2.2.2.2.2.1
  have hL := h.2.2.2.2.2.2.2.1
  unfold rw_latest md_latest
  have e := lpR_skip (g := rw_lag f) (25 - (a 6).toNat) (a 6).toNat 0 0 (fun j hj => by
    unfold rw_lag
    rw [if_neg (fun z => by omega)])
  rw [show 25 - (a 6).toNat + (a 6).toNat = 25 by omega] at e
  rw [e]
  refine lpR_shd (d := ((25 - (a 6).toNat : Nat) : Int)) (lo := 0) (hi := a 6) (fun k hk => ?_) (a 6).toNat 0 0 (by omega) (by omega)
  unfold rw_lag md_lag
  have e24 : 24 - (k + ((25 - (a 6).toNat : Nat) : Int)) = a 6 - 1 - k := by omega
  rw [e24]
  have hq := hL (a 6 - 1 - k) (by omega)
  have k2 : f (30 + (a 6 - 1 - k)) / 16 % 4 = md_ln (a (1638 + (a 6 - 1 - k))) 2 := hq.ln 2
  have k1 : f (30 + (a 6 - 1 - k)) / 64 % 16 = md_ln (a (1638 + (a 6 - 1 - k))) 1 := hq.ln 1
  rw [k1, k2]
  by_cases z : md_ln (a (1638 + (a 6 - 1 - k))) 2 = 0
  · rw [if_pos ⟨by omega, z⟩, if_pos z]
  · rw [if_neg (fun y => z y.2), if_neg z]
/-- what is common to both kinds of law -/
theorem Rl_of {s : Int} {f a : Int → Int} {n : Int} (hv : MV a) (hl : ML a) (hn : 1 ≤ n ∧ n ≤ 8) (h0 : f 0 = a 7) (h1 : f 1 = a 4) (h3 : f 3 = md_standing a) (h4 : f 4 = md_taken a) (hh : ∀ v, rw_holds f v ↔ md_stands a (v - 1)) (hF : f (5 + n) = a (8 + (n - 1))) (hS : f (21 + n) = a (24 + (n - 1))) (h6 : ofN s 6 → rw_latest f = md_latest a) : Rl s f a n := by
  have ht := md_taken_B hv
  refine ⟨fun v hv6 ho => ?_, fun v => ?_, fun v => ?_⟩
  · have hB := md_nm_B hv hl (k := n - 1) (by omega) v
    refine ⟨?_, hB⟩
    rcases (show v = 0 ∨ v = 1 ∨ v = 2 ∨ v = 3 ∨ v = 4 ∨ v = 5 ∨ v = 6 by omega) with rfl | rfl | rfl | rfl | rfl | rfl | rfl
    · show f 1 = a 4; exact h1
    · show n = n - 1 + 1; omega
    · show f 0 = a 7; exact h0
    · show pc (f 3) = pc (md_standing a); rw [h3]
    · show rw_since f n = a (24 + (n - 1))
      unfold rw_since
      rw [if_pos hn]; exact hS
    · show rw_first f n = a (8 + (n - 1))
      unfold rw_first
      rw [if_pos hn]; exact hF
    · show rw_latest f = md_latest a
      exact h6 ho
  · rw [hh v]
    exact ⟨fun z => ⟨by have := z.1; omega, z⟩, fun z => z.2⟩
  · rw [h0, h4]
    constructor
    · rintro ⟨z1, z2⟩
      exact ⟨z1, by omega⟩
    · rintro ⟨z1, z2⟩
      refine ⟨z1, ?_⟩
      have : md_taken a / 2 ^ v.toNat % 2 = 0 ∨ md_taken a / 2 ^ v.toNat % 2 = 1 := by omega
      omega
theorem Rl_0 {f a : Int → Int} {n : Int} (h : RQ f a) (hv : MV a) (hl : ML a) (hn : 1 ≤ n ∧ n ≤ 8) : Rl 0 f a n := by
  have e := h.n hn
  exact Rl_of hv hl hn h.1.symm h.2.1.symm h.2.2.2.2.2.1 h.2.2.2.2.2.2.1 (fun v => h.holds hv) e.1 e.2.2 (fun _ => eq_latest h hv)
theorem Rl_1 {f a : Int → Int} {n : Int} (h : RQ (up f 5 0) (up a 6 0)) (hv : MV a) (hl : ML a) (hn : 1 ≤ n ∧ n ≤ 8) : Rl 1 f a n := by
  have e := h.n hn
  rw [up_n (by omega), up_n (by omega), up_n (by omega), up_n (by omega), up_n (by omega), up_n (by omega)] at e
  have hc := st_congr (a := up a 6 0) (b := a) (fun q hq => up_n (by omega))
  refine Rl_of hv hl hn ?_ ?_ ?_ ?_ (fun v => ?_) e.1 e.2.2 (fun z => ?_)
  · have := h.1
    rw [up_n (by omega), up_n (by omega)] at this
    exact this.symm
  · have := h.2.1
    rw [up_n (by omega), up_n (by omega)] at this
    exact this.symm
  · have := h.2.2.2.2.2.1
    rw [up_n (by omega), hc.1] at this
    exact this
  · have := h.2.2.2.2.2.2.1
    rw [up_n (by omega), hc.2] at this
    exact this
  · have := h.holds (MV_60 hv) (n := v)
    rw [RB0.stands] at this
    rw [← this]
    constructor
    · rintro ⟨z1, z2⟩; exact ⟨z1, by rw [up_n (by omega)]; exact z2⟩
    · rintro ⟨z1, z2⟩; rw [up_n (by omega)] at z2; exact ⟨z1, z2⟩
  · exfalso
    unfold ofN at z
    omega
theorem TD.lb {c : Int → Int} {q : Int} {els el : List (Int × Int × Int)} {cd : List (Int × Int)} {lb lt : Option (List Int)} (h : TD c q els el cd lb lt) (hq : 0 ≤ q) : LBb c q lb := fun f a n hr hv hl hn => by
  unfold md_btw
  rw [h.says hq (Or.inl rfl) (Rl_0 hr hv hl hn) (n - 1 + 1) 14, if_pos rfl, show n - 1 + 1 = n by omega]
  cases lb with
  | none => rfl
  | some l => rfl
theorem TD.lt {c : Int → Int} {q : Int} {els el : List (Int × Int × Int)} {cd : List (Int × Int)} {lb lt : Option (List Int)} (h : TD c q els el cd lb lt) (hq : 0 ≤ q) : LBt c q lt := fun f a n hr hv hl hn => by
  unfold md_tir
  rw [h.says hq (Or.inr rfl) (Rl_1 hr hv hl hn) 1 10, if_neg (by decide)]
  cases lt with
  | none => rfl
  | some l => rfl
theorem no_lb (c : Int → Int) : LBb c (-1) none := fun f a n hr hv hl hn => by
  unfold md_btw syV
  rw [if_pos (by decide)]
  show n = n - 1 + 1
  omega
theorem no_lt (c : Int → Int) : LBt c (-1) none := fun f a n hr hv hl hn => by
  unfold md_tir syV
  rw [if_pos (by decide)]
  rfl
/-- lines of a script -/
theorem TD.ln {c : Int → Int} {q : Int} {els el : List (Int × Int × Int)} {cd : List (Int × Int)} {lb lt : Option (List Int)} (h : TD c q els el cd lb lt) : ∀ j : Nat, j < els.length → LNp (els.getD j (0, 0, 0)) (c (lwX q (0 + j))) (c (lwX q (0 + j) + 1)) (c (lwX q (0 + j) + 2)) := fun j hj => by
  have hl := h.2.2.2.1
  have hj' : j < el.length := by omega
  have hE : CLr c (lwX q j) (el.getD j (0, 0, 0)) := h.2.1 j hj'
  have hL := h.2.2.2.2.2.2.1 j hj'
  rw [show (0 : Int) + (j : Int) = j by omega]
  obtain ⟨e1, e2, e3⟩ := hE
  unfold LNp at hL ⊢
  rw [e1]
  rcases hL with ⟨u1, u2⟩ | ⟨u1, u2⟩ | ⟨u1, u2, u3⟩ | ⟨u1, u2, u3, u4, u5, u6⟩ | ⟨u1, u2, u3, u5, u6⟩ | ⟨u1, u2⟩ | ⟨u1, u2, u3, u4⟩
  · exact Or.inl ⟨u1, u2⟩
  · exact Or.inr (Or.inl ⟨u1, u2⟩)
  · have w := e2 (by omega)
    exact Or.inr (Or.inr (Or.inl ⟨u1, u2, by omega⟩))
  · have w := e2 (by omega)
    have w2 := e3 (Or.inr u2)
    exact Or.inr (Or.inr (Or.inr (Or.inl ⟨u1, u2, by omega, by omega, by omega, by omega⟩)))
  · have w := e2 (by omega)
    exact Or.inr (Or.inr (Or.inr (Or.inr (Or.inl ⟨u1, u2, by omega, by omega, by omega⟩))))
  · exact Or.inr (Or.inr (Or.inr (Or.inr (Or.inr (Or.inl ⟨u1, u2⟩)))))
  · have w := e2 (by omega)
    exact Or.inr (Or.inr (Or.inr (Or.inr (Or.inr (Or.inr ⟨u1, u2, by omega, by omega⟩)))))
/-- lines are small numbers -/
theorem cBd_v (B : Nat → Int) (k : Int) (c : Nat) : (0 ≤ (cBd B k c).2.2.1 ∧ (cBd B k c).2.2.1 ≤ 10000) ∧ (0 ≤ (cBd B k c).2.2.2 ∧ (cBd B k c).2.2.2 ≤ 10000) := by
  have h1 := lxv_B B c
  have h2 := lxv_B B (lxe B (lxe B c))
  have h0 : 0 ≤ (0 : Int) ∧ (0 : Int) ≤ 10000 := by decide
  unfold cBd
  repeat' split
  all_goals exact ⟨by first | exact h1 | exact h0, by first | exact h2 | exact h0⟩
def LSm (x : Int × Int × Int) : Prop := (0 ≤ x.1 ∧ x.1 ≤ 42) ∧ (0 ≤ x.2.1 ∧ x.2.1 ≤ 10000) ∧ (0 ≤ x.2.2 ∧ x.2.2 ≤ 10000)
theorem LSm.cln {x : Int × Int × Int} (h : LSm x) : CLn x := by
  obtain ⟨h1, h2, h3⟩ := h
  exact ⟨by omega, by omega, by omega, fun _ => h2.1⟩
theorem cRd_v {B : Nat → Int} : ∀ (m : Nat) (r : RC), (∀ x ∈ r.2.2.1, LSm x) → ∀ x ∈ (cRd B m r).2.2.1, LSm x := by
  intro m
  induction m with
  | zero => intro r h; exact h
  | succ m ih =>
    intro r h
    rw [cRd]
    split
    · refine ih _ (fun x hx => ?_)
      unfold cCl at hx
      split at hx
      · exact h x hx
      · split at hx
        · exact h x hx
        · split at hx
          · exact h x hx
          · rcases List.mem_append.mp hx with q | q
            · exact h x q
            · rw [List.mem_singleton.mp q]
              have := cBd_v B (kd B r.2.1) (lxe B r.2.1)
              exact ⟨kd_B B _, this.1, this.2⟩
    · exact h
/-- a law's cells, good -/
theorem CLv.w {D : List mx_C} {v : Value} {s : Int} {lb : Option (List Int)} (h : CLv D v lb) (hk : ∀ l, lb = some l → ∃ code, l = code.map mp ∧ KC s false code) : CLw D v lb := by
  cases lb with
  | none => exact h
  | some l =>
    obtain ⟨code, rfl, k⟩ := hk l rfl
    obtain ⟨a, b, fc, h1, h2, h3, h4, h5⟩ := h
    refine ⟨a, b, fc, h1, h2, h3, h4, h5, fun x hx => ?_, fun f n => ?_⟩
    · obtain ⟨y, hy, rfl⟩ := List.mem_map.mp hx
      exact k.1 y hy
    · obtain ⟨w, e⟩ := k.2.1 f n []
      exact ⟨w, [], e⟩
theorem TJ.kb {els el : List (Int × Int × Int)} {cd : List (Int × Int)} {lb lt : Option (List Int)} (h : TJ els el cd lb lt) : ∀ l, lb = some l → ∃ code, l = code.map mp ∧ KC 0 false code := fun l e => by
  obtain ⟨j, hj, ej⟩ := h.2.2.2.2.2.1 (by rw [e]; simp)
  obtain ⟨A, code, Z, u1, u2, u3, u4, u5⟩ := h.2.2.2.2.1 j hj (by omega)
  rw [ej] at u4 u5
  rw [if_pos rfl, e] at u5
  exact ⟨code, Option.some.inj u5, u4⟩
theorem TJ.kt {els el : List (Int × Int × Int)} {cd : List (Int × Int)} {lb lt : Option (List Int)} (h : TJ els el cd lb lt) : ∀ l, lt = some l → ∃ code, l = code.map mp ∧ KC 1 false code := fun l e => by
  obtain ⟨j, hj, ej⟩ := h.2.2.2.2.2.2 (by rw [e]; simp)
  obtain ⟨A, code, Z, u1, u2, u3, u4, u5⟩ := h.2.2.2.2.1 j hj (by omega)
  rw [ej] at u4 u5
  rw [if_neg (by decide), e] at u5
  exact ⟨code, Option.some.inj u5, u4⟩
