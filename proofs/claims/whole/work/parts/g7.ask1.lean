/-! ===== what is asked of the row as it is, alike ===== -/
theorem lpF_sh {α : Type} {g h : Int → α → α} {lo hi : Int} (e : ∀ k s, lo ≤ k ∧ k < hi → g (k + 1) s = h k s) : ∀ (m : Nat) (k : Int) (s : α), lo ≤ k → k + m ≤ hi → lpF g m (k + 1) s = lpF h m k s := by
  intro m
  induction m with
  | zero => intro k s _ _; rfl
  | succ m ih =>
    intro k s h1 h2
    show lpF g m (k + 1 + 1) (g (k + 1) s) = lpF h m (k + 1) (h k s)
    rw [e k s (by omega)]
    exact ih (k + 1) _ (by omega) (by omega)
theorem lpR_sh {α : Type} {g h : Int → Option α} {lo hi : Int} (e : ∀ k, lo ≤ k ∧ k < hi → g (k + 1) = h k) : ∀ (m : Nat) (k : Int) (s : α), lo ≤ k → k + m ≤ hi → lpR g m (k + 1) s = lpR h m k s := by
  intro m
  induction m with
  | zero => intro k s _ _; rfl
  | succ m ih =>
    intro k s h1 h2
    have e1 := e k (by omega)
    show (match g (k + 1) with | some r => r | none => lpR g m (k + 1 + 1) s) = (match h k with | some r => r | none => lpR h m (k + 1) s)
    rw [e1, ih (k + 1) s (by omega) (by omega)]
theorem RPM.hk {f a : Int → Int} (h : RPM f a) (k : Int) : rw_holds f (k + 1) ↔ md_stands a k := by
  have := h.2.1.holds h.2.2.1 (n := k + 1)
  rw [show k + 1 - 1 = k by omega] at this
  exact this
theorem RPM.fk {f a : Int → Int} (h : RPM f a) {k : Int} (hk : 0 ≤ k ∧ k ≤ 7) : rw_first f (k + 1) = a (8 + k) ∧ rw_second f (k + 1) = a (16 + k) ∧ rw_since f (k + 1) = a (24 + k) := by
  have e := h.2.1.n (n := k + 1) (by omega)
  rw [show k + 1 - 1 = k by omega] at e
  unfold rw_first rw_second rw_since
  rw [if_pos (by omega), if_pos (by omega), if_pos (by omega)]
  exact e
theorem eq_at {f a : Int → Int} (h : RPM f a) (n : Int) : (if 0 ≤ n ∧ n < f 0 then rw_who f n else -1) = md_at a n := by
  have h7 := h.2.1.1
  unfold md_at
  by_cases q : 0 ≤ n ∧ n < f 0
  · rw [if_pos q, if_pos (by omega)]
    unfold rw_who
    refine lpR_sh (lo := 0) (hi := 8) (fun k hk => ?_) 8 0 0 (by omega) (by omega)
    have hF := h.fk (k := k) (by omega)
    unfold rw_whg md_atg
    rw [hF.1, hF.2.1]
    by_cases z : md_stands a k
    · have hb := bt_pl h.2.2.1 z (i := n.toNat)
      have hpn : 0 ≤ md_pl a k := bor_nn _ _
      have hb2 := bt_has (s := md_pl a k) (k := n) hpn
      by_cases w : a (8 + k) = n ∨ a (16 + k) = n
      · rw [if_pos ⟨(h.hk k).mpr z, w⟩, if_pos ⟨z, hb2.mpr (hb.mpr (by omega))⟩]
      · rw [if_neg (fun y => w y.2), if_neg (fun y => w (by have := hb.mp (hb2.mp y.2); omega))]
    · rw [if_neg (fun y => z ((h.hk k).mp y.1)), if_neg (fun y => z y.1)]
  · rw [if_neg q, if_neg (by omega)]
theorem eq_is {f a : Int → Int} (h : RPM f a) (n : Int) : (if n = 0 then f 1 else if n = 1 then f 2 else if n = 2 then f 0 else if n = 3 then f 3 else if n = 4 then bdf (bsh (f 0) - 1) (f 4) else -2) = md_is a n := by
  obtain ⟨h7, h4, h5, h6, hA, h3, ht, _⟩ := id h.2.1
  unfold md_is
  by_cases q0 : n = 0
  · rw [if_pos q0, if_pos (by omega), q0]; exact h4.symm
  · rw [if_neg q0]
    by_cases q1 : n = 1
    · rw [if_pos q1, if_pos (by omega), q1]; exact h5.symm
    · rw [if_neg q1, if_neg (show ¬ (0 ≤ n ∧ n ≤ 1) by omega), h7, h3, ht]
theorem eq_of {f a c : Int → Int} {lb lt : Option (List Int)} {t : Int} (hb : LWb c t lb) (hl : LWt c t lt) (h : RPM f a) (h1 : a 1 = t) {n : Int} (hn : -2147483648 ≤ n ∧ n < 2147483648) (q : Int) : cof f n q lb lt = md_of c a (wr1 n) q := by
  unfold cof md_of
  by_cases w : 1 ≤ n ∧ n ≤ 8
  · have e := wr1_e (n := n) (by omega)
    have hF := h.fk (k := n - 1) (by omega)
    rw [show n - 1 + 1 = n by omega] at hF
    have e1 := hb f a n h.2.1 h.2.2.1 h.2.2.2 h1 w
    have e2 := hl f a n h.2.1.bare h.2.2.1 h.2.2.2 h1 w
    rw [if_neg (fun z => z w), e, if_pos (show 0 ≤ n - 1 ∧ n - 1 ≤ 7 by omega), hF.1, hF.2.1, hF.2.2, e1, e2]
  · rw [if_pos w, if_neg (fun z => w (by have := wr1_v z; omega))]
theorem LNq.ln {x y : Int} (h : LNq x y) (q : Int) : cl_ln x q = md_ln y q := by
  obtain ⟨d, n, k, p, hd, hn, hk, hp, rfl, rfl⟩ := h
  have a0 : (d * 1024 + n * 64 + k * 16 + p) / 1024 = d := by omega
  have b0 : (((d * 9 + n) * 3 + k) * 16 + p) / 432 = d := by omega
  have a1 : (d * 1024 + n * 64 + k * 16 + p) / 64 % 16 = n := by
    rw [show (d * 1024 + n * 64 + k * 16 + p) / 64 = d * 16 + n by omega]; omega
  have b1 : (((d * 9 + n) * 3 + k) * 16 + p) / 48 % 9 = n := by
    rw [show (((d * 9 + n) * 3 + k) * 16 + p) / 48 = d * 9 + n by omega]; omega
  have a2 : (d * 1024 + n * 64 + k * 16 + p) / 16 % 4 = k := by
    rw [show (d * 1024 + n * 64 + k * 16 + p) / 16 = (d * 16 + n) * 4 + k by omega]; omega
  have b2 : (((d * 9 + n) * 3 + k) * 16 + p) / 16 % 3 = k := by
    rw [show (((d * 9 + n) * 3 + k) * 16 + p) / 16 = (d * 9 + n) * 3 + k by omega]; omega
  have a3 : (d * 1024 + n * 64 + k * 16 + p) % 16 = p := by omega
  have b3 : (((d * 9 + n) * 3 + k) * 16 + p) % 16 = p := by omega
  unfold cl_ln md_ln
  rw [a0, a1, a2, a3, b0, b1, b2, b3]
theorem eq_book {f a : Int → Int} (h : RPM f a) (i q : Int) : (if i = -1 then f 5 else if (0 ≤ i ∧ i < f 5) ∧ (0 ≤ q ∧ q ≤ 3) then cl_ln (f (30 + i)) q else -2) = (if i = -1 then a 6 else if (0 ≤ i ∧ i < a 6) ∧ (0 ≤ q ∧ q ≤ 3) then md_ln (a (1638 + i)) q else -2) := by
  have h6 : a 6 = f 5 := h.2.1.2.2.2.1
  rw [h6]
  by_cases w : i = -1
  · rw [if_pos w, if_pos w]
  · rw [if_neg w, if_neg w]
    by_cases z : (0 ≤ i ∧ i < f 5) ∧ (0 ≤ q ∧ q ≤ 3)
    · rw [if_pos z, if_pos z]; exact (h.2.1.2.2.2.2.2.2.2.1 i z.1).ln q
    · rw [if_neg z, if_neg z]
theorem eq_ledger {f a : Int → Int} (h : RPM f a) (q : Int) : cl_ledger f q = md_ledger a q := by
  have h6 : a 6 = f 5 := h.2.1.2.2.2.1
  have hb : 0 ≤ f 5 ∧ f 5 ≤ 25 := h.1.1.2.2.2.2.2.2.1
  unfold cl_ledger md_ledger
  rw [h6]
  refine lpF_congr (lo := 0) (hi := f 5) (fun k s hk => ?_) _ 0 0 (by omega) (by omega)
  unfold cl_ldg md_ldg
  have e : f (30 + k) / 16 % 4 = md_ln (a (1638 + k)) 2 := (h.2.1.2.2.2.2.2.2.2.1 k hk).ln 2
  rw [e]
theorem eq_best {f a : Int → Int} (h : RPM f a) {g1 g2 : Int → Int → Int} (e : ∀ k acc, 0 ≤ k ∧ k < 8 → (acc = -1 ∨ (0 ≤ acc ∧ acc ≤ 7)) → g1 (k + 1) (if acc = -1 then -1 else acc + 1) = (if g2 k acc = -1 then -1 else g2 k acc + 1) ∧ (g2 k acc = -1 ∨ (0 ≤ g2 k acc ∧ g2 k acc ≤ 7))) : ∀ (m : Nat) (k acc : Int), 0 ≤ k → k + m ≤ 8 → (acc = -1 ∨ (0 ≤ acc ∧ acc ≤ 7)) → lpF g1 m (k + 1) (if acc = -1 then -1 else acc + 1) = (if lpF g2 m k acc = -1 then -1 else lpF g2 m k acc + 1) := by
  intro m
  induction m with
  | zero => intro k acc _ _ _; rfl
  | succ m ih =>
    intro k acc h0 hk ha
    have := e k acc (by omega) ha
    show lpF g1 m (k + 1 + 1) (g1 (k + 1) (if acc = -1 then -1 else acc + 1)) = (if lpF g2 m (k + 1) (g2 k acc) = -1 then -1 else lpF g2 m (k + 1) (g2 k acc) + 1)
    rw [this.1]
    exact ih (k + 1) _ (by omega) (by omega) this.2
theorem eq_eldest {f a : Int → Int} (h : RPM f a) : lpF (cl_elg f) 8 1 (-1) = md_eldest a := by
  suffices hh : ∀ k acc, 0 ≤ k ∧ k < 8 → (acc = -1 ∨ (0 ≤ acc ∧ acc ≤ 7)) → cl_elg f (k + 1) (if acc = -1 then -1 else acc + 1) = (if md_elg a k acc = -1 then -1 else md_elg a k acc + 1) ∧ (md_elg a k acc = -1 ∨ (0 ≤ md_elg a k acc ∧ md_elg a k acc ≤ 7)) by
    have h2 := eq_best h hh 8 0 (-1) (by omega) (by omega) (Or.inl rfl)
    rw [show (0 : Int) + 1 = 1 from rfl, if_pos (show (-1 : Int) = -1 from rfl)] at h2
    unfold md_eldest
    exact h2
  intro k acc hk ha
  have hF := h.fk (k := k) (by omega)
  have key : cl_elc f (k + 1) (if acc = -1 then -1 else acc + 1) ↔ md_elc a k acc := by
    unfold cl_elc md_elc
    rw [h.hk k, hF.2.2]
    rcases ha with e | e
    · rw [if_pos e, e]; exact ⟨fun z => ⟨z.1, Or.inl rfl⟩, fun z => ⟨z.1, Or.inl rfl⟩⟩
    · have hG := h.fk (k := acc) e
      rw [if_neg (by omega), hG.2.2]
      exact ⟨fun z => ⟨z.1, z.2.elim (fun y => absurd y (by omega)) Or.inr⟩, fun z => ⟨z.1, z.2.elim (fun y => absurd y (by omega)) Or.inr⟩⟩
  unfold cl_elg md_elg
  by_cases q : md_elc a k acc
  · rw [if_pos (key.mpr q), if_pos q, if_neg (by omega)]; exact ⟨rfl, by omega⟩
  · rw [if_neg (fun z => q (key.mp z)), if_neg q]; exact ⟨rfl, ha⟩
theorem eq_widest {f a : Int → Int} (h : RPM f a) : lpF (cl_wig f) 8 1 (-1) = md_widest a := by
  suffices hh : ∀ k acc, 0 ≤ k ∧ k < 8 → (acc = -1 ∨ (0 ≤ acc ∧ acc ≤ 7)) → cl_wig f (k + 1) (if acc = -1 then -1 else acc + 1) = (if md_wig a k acc = -1 then -1 else md_wig a k acc + 1) ∧ (md_wig a k acc = -1 ∨ (0 ≤ md_wig a k acc ∧ md_wig a k acc ≤ 7)) by
    have h2 := eq_best h hh 8 0 (-1) (by omega) (by omega) (Or.inl rfl)
    rw [show (0 : Int) + 1 = 1 from rfl, if_pos (show (-1 : Int) = -1 from rfl)] at h2
    unfold md_widest
    exact h2
  intro k acc hk ha
  have hF := h.fk (k := k) (by omega)
  have key : cl_wic f (k + 1) (if acc = -1 then -1 else acc + 1) ↔ md_wic a k acc := by
    unfold cl_wic md_wic md_ap
    rw [h.hk k, hF.1, hF.2.1]
    rcases ha with e | e
    · rw [if_pos e, e]; exact ⟨fun z => ⟨z.1, Or.inl rfl⟩, fun z => ⟨z.1, Or.inl rfl⟩⟩
    · have hG := h.fk (k := acc) e
      rw [if_neg (by omega), hG.1, hG.2.1]
      exact ⟨fun z => ⟨z.1, z.2.elim (fun y => absurd y (by omega)) Or.inr⟩, fun z => ⟨z.1, z.2.elim (fun y => absurd y (by omega)) Or.inr⟩⟩
  unfold cl_wig md_wig
  by_cases q : md_wic a k acc
  · rw [if_pos (key.mpr q), if_pos q, if_neg (by omega)]; exact ⟨rfl, by omega⟩
  · rw [if_neg (fun z => q (key.mp z)), if_neg q]; exact ⟨rfl, ha⟩
theorem eq_mirror {f a : Int → Int} (h : RPM f a) : cl_mirror f = md_mirror a := by
  unfold cl_mirror md_mirror
  refine lpR_sh (lo := 0) (hi := 8) (fun k hk => ?_) 8 0 1 (by omega) (by omega)
  have hF := h.fk (k := k) (by omega)
  unfold cl_mig md_mig
  rw [hF.1, hF.2.1, h.2.1.1]
  by_cases z : md_stands a k ∧ ¬ a (8 + k) + a (16 + k) = f 0 - 1
  · rw [if_pos ⟨(h.hk k).mpr z.1, z.2⟩, if_pos z]
  · rw [if_neg (fun y => z ⟨(h.hk k).mp y.1, y.2⟩), if_neg z]
theorem eq_spread {f a : Int → Int} (h : RPM f a) : (if f 4 = 0 then 0 else topF (f 4) 16 - lowF (f 4) 31 0) = md_spread a := by
  have ht : f 4 = md_taken a := h.2.1.2.2.2.2.2.2.1
  have hb := md_taken_B h.2.2.1
  unfold md_spread md_spr
  rw [ht]
  by_cases q : md_taken a = 0
  · rw [if_pos q, q]; decide
  · rw [if_neg q, if_neg (fun z => by
      have := topF_all (s := md_taken a) (by omega)
      omega)]
theorem eq_room {f a : Int → Int} (h : RPM f a) : cl_room f = md_room a := by
  have h7 := h.2.1.1
  have ht : f 4 = md_taken a := h.2.1.2.2.2.2.2.2.1
  have hb := md_taken_B h.2.2.1
  have b7 : 1 ≤ a 7 ∧ a 7 ≤ 16 := h.2.2.1.2.2.2.2.2.2.2.2.1
  unfold cl_room md_room
  rw [← h7, ht]
  refine congrArg Prod.fst (lpF_congr (lo := 0) (hi := a 7) (fun k s hk => ?_) _ 0 _ (by omega) (by omega))
  have key : bdf (bsh (a 7) - 1) (md_taken a) / 2 ^ k.toNat % 2 = 0 ↔ md_taken a / 2 ^ k.toNat % 2 = 1 := by
    have h1 := bt_has (s := bdf (bsh (a 7) - 1) (md_taken a)) (k := k) (bdf_nn _ _)
    have h2 := bt_has (s := md_taken a) (k := k) hb.1
    rw [bt_bdf, bt_allI (by omega)] at h1
    rw [h2]
    constructor
    · intro e
      exact Classical.byContradiction (fun z => by
        have := h1.mpr ⟨by omega, z⟩
        omega)
    · intro e
      have : ¬ bdf (bsh (a 7) - 1) (md_taken a) / 2 ^ k.toNat % 2 = 1 := fun z => (h1.mp z).2 e
      omega
  unfold cl_rog md_rmg md_rn
  by_cases q : md_taken a / 2 ^ k.toNat % 2 = 1
  · rw [if_pos (key.mpr q), if_pos q]
  · rw [if_neg (fun z => q (key.mp z)), if_neg q]
