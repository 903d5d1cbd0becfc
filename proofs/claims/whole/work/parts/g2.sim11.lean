/-! ===== what both keep, as one relation; the small changes ===== -/
def RPM (f a : Int → Int) : Prop := RX f ∧ RQ f a ∧ MV a ∧ ML a
theorem RPM.rp {f a : Int → Int} (h : RPM f a) : RP f a := ⟨h.1, h.2.1, h.2.2.1.mr, h.2.2.2⟩
def OpF (a a' : Int → Int) : Prop := ∀ j, (j < 4 ∨ (32 ≤ j ∧ j < 1638)) → a' j = a j
theorem OpF.t {a b c : Int → Int} (h : OpF a b) (k : OpF b c) : OpF a c := fun j hj => (k j hj).trans (h j hj)
theorem OpF.r (a : Int → Int) : OpF a a := fun _ _ => rfl
theorem OpF_up {a b : Int → Int} {i x : Int} (h : OpF a b) (hi : (4 ≤ i ∧ i < 32) ∨ 1638 ≤ i) : OpF a (up b i x) := fun j hj => by
  rw [up_n (by omega)]; exact h j hj
/-- the sayings -/
def SYq (y : Int → Int) (sc : Int) (a : Int → Int) : Prop := a 3 = sc ∧ (0 ≤ sc ∧ sc ≤ 8) ∧ ∀ i, 0 ≤ i ∧ i < sc → (0 ≤ a (32 + 2 * i) ∧ a (32 + 2 * i) ≤ 7) ∧ (0 ≤ a (33 + 2 * i) ∧ a (33 + 2 * i) ≤ 14) ∧ y i = (a (32 + 2 * i) + 1) * 16 + a (33 + 2 * i)
theorem SYq.ex {y y' : Int → Int} {sc : Int} {a a' : Int → Int} (h : SYq y sc a) (h3 : a' 3 = a 3) (ha : ∀ j, 32 ≤ j ∧ j < 48 → a' j = a j) (hy : ∀ j, 0 ≤ j ∧ j < 8 → y' j = y j) : SYq y' sc a' := by
  refine ⟨h3.trans h.1, h.2.1, fun i hi => ?_⟩
  have := h.2.1
  rw [ha _ (by omega), ha _ (by omega), hy i (by omega)]
  exact h.2.2 i hi
def CO (f g : Int → Int) (nx ct : Int) (y : Int → Int) (sc tc ru : Int) (a : Int → Int) : Prop := RPM f a ∧ SRq g nx ct a ∧ SYq y sc a ∧ tc = a 0 ∧ ru = a 1
theorem CO.row {f g : Int → Int} {nx ct : Int} {y : Int → Int} {sc tc ru : Int} {a f' a' : Int → Int} (h : CO f g nx ct y sc tc ru a) (hp : RPM f' a') (ho : OpF a a') : CO f' g nx ct y sc tc ru a' :=
  ⟨hp, h.2.1.exA hp.2.2.1.1 (ho 2 (by omega)) (fun j hj => ho j (by omega)), h.2.2.1.ex (ho 3 (by omega)) (fun j hj => ho j (by omega)) (fun _ _ => rfl), h.2.2.2.1.trans (ho 0 (by omega)).symm, h.2.2.2.2.trans (ho 1 (by omega)).symm⟩
theorem CO.kept {f g : Int → Int} {nx ct : Int} {y : Int → Int} {sc tc ru : Int} {a : Int → Int} (h : CO f g nx ct y sc tc ru a) : CO f (cpy f g 0 (nx * 55) 55) ((nx + 1) % 30) (if ct + 1 < 30 then ct + 1 else 30) y sc tc ru (md_keep a) := by
  have hv := h.1.2.2.1
  have h2 : 0 ≤ a 2 ∧ a 2 ≤ 30 := hv.2.2.2.1
  have hk := md_keep_V hv
  exact ⟨⟨h.1.1, h.1.2.1.exA h.1.1.1.2.2.2.2.2.2.1.2 (fun j hj => keep_row h2 (by omega)), hk, md_keep_L hv h.1.2.2.2⟩, h.2.1.keep h.1.rp, h.2.2.1.ex (keep_row h2 (by omega)) (fun j hj => keep_row h2 (by omega)) (fun _ _ => rfl), h.2.2.2.1.trans (keep_row h2 (by omega)).symm, h.2.2.2.2.trans (keep_row h2 (by omega)).symm⟩
theorem CO.undone {f g : Int → Int} {nx ct : Int} {y : Int → Int} {sc tc ru : Int} {a : Int → Int} (h : CO f g nx ct y sc tc ru a) (hc : ¬ ct = 0) : CO (cpy g f ((nx + 30 - 1) % 30 * 55) 0 55) g ((nx + 30 - 1) % 30) (ct - 1) y sc tc ru (md_undo a) := by
  have hv := h.1.2.2.1
  have hu := h.2.1.undo hv.1 h.1.1.1.1 hc
  have hx : ∀ j, (¬ j = 2 ∧ j < 4) ∨ (32 ≤ j ∧ j < 1638) → md_undo a j = a j := fun j hj => by
    unfold md_undo blit
    rw [if_neg (by omega), if_neg (by omega), up_n (by omega)]
  have h0 := hv.2.1
  have h1 := hv.2.2.1
  have h3 := hv.2.2.2.2.1
  have hct := h.2.1.2.1
  refine ⟨⟨hu.1.1, hu.1.2.1, hu.1.2.2.1.mv ?_ ?_ ?_ ?_, hu.1.2.2.2⟩, hu.2, h.2.2.1.ex (hx 3 (by omega)) (fun j hj => hx j (by omega)) (fun _ _ => rfl), h.2.2.2.1.trans (hx 0 (by omega)).symm, h.2.2.2.2.trans (hx 1 (by omega)).symm⟩
  · rw [hx 0 (by omega)]; exact h0
  · rw [hx 0 (by omega), hx 1 (by omega)]; exact h1
  · rw [hu.2.2.2.1]; omega
  · rw [hx 3 (by omega)]; exact h3
/-- RX from what is known of the other side -/
theorem RX_of {f a : Int → Int} (h : RQ f a) (hv : MV a) (hB : Bd f) (hl : RLn f) : RX f := by
  have hst := md_standing_B a
  have htk := md_taken_B hv
  obtain ⟨h7, h4, h5, h6, hA, h3, ht, _⟩ := id h
  refine ⟨⟨hB, ?_, ?_, ?_, ?_, ?_, ?_, fun n hn => ?_⟩, hl⟩
  · rw [← h7]; exact hv.2.2.2.2.2.2.2.2.1
  · rw [← h4]; exact hv.2.2.2.2.2.1
  · rw [← h5]; exact hv.2.2.2.2.2.2.1
  · rw [h3]; exact hst
  · rw [ht]; exact htk
  · rw [← h6]; exact hv.2.2.2.2.2.2.2.1
  · have e := h.n hn
    rw [e.1, e.2.1, e.2.2, ← h7]
    exact hv.at (k := n - 1) (by omega)
theorem OpF_write {a : Int → Int} (hv : MV a) (k q : Int) : OpF a (md_write a k q) := fun j hj => by
  have := hv.2.2.2.2.2.2.2.1
  unfold md_write
  split
  · rw [up_n (by omega), up_n (by omega), up_n (by omega)]
    unfold md_sh
    rw [if_neg (by omega)]
  · rw [up_n (by omega), up_n (by omega)]
theorem OpF_leave {a : Int → Int} (hv : MV a) {k q : Int} (hk : 0 ≤ k ∧ k ≤ 7) : OpF a (md_leave a k q) :=
  OpF_up (OpF_up (OpF_up (OpF_write hv k q) (by omega)) (by omega)) (by omega)
theorem RPM.leave {f a : Int → Int} (h : RPM f a) {k q : Int} (hs : md_stands a k) (hq : 0 ≤ q ∧ q ≤ 2) : RPM (rw_depart f (k + 1) q) (md_leave a k q) ∧ OpF a (md_leave a k q) := by
  have hh : rw_holds f (k + 1) := (h.2.1.holds h.2.2.1).mpr (by rw [show k + 1 - 1 = k by omega]; exact hs)
  exact ⟨⟨RX_depart h.1 hh.1 hh.2 hq, h.2.1.depart h.2.2.1 hs hq, md_leave_V h.2.2.1 hs.1 hq, md_leave_L h.2.2.1 h.2.2.2 hs.1 hq⟩, OpF_leave h.2.2.1 hs.1⟩
theorem sec_facts {a c : Int → Int} (hv : MV a) {k p : Int} (h : ¬ md_sec a c k p = -1) : (0 ≤ k ∧ k ≤ 7) ∧ a (8 + k) = -1 ∧ (0 ≤ p ∧ p < md_sec a c k p ∧ md_sec a c k p < a 7) ∧ ¬ bt (md_taken a) p.toNat ∧ ¬ bt (md_taken a) (md_sec a c k p).toNat := by
  have ht := md_taken_B hv
  by_cases q : (0 ≤ k ∧ k ≤ 7) ∧ a (8 + k) = -1 ∧ (0 ≤ p ∧ p ≤ 15)
  · have hb := md_btw_B (a := a) (c := c) (q := a 1) (k := k) (by omega)
    unfold md_sec at h ⊢
    rw [if_pos q] at h ⊢
    unfold md_sc2 at h ⊢
    by_cases z : p + md_btw a c (a 1) k + 1 < a 7 ∧ ¬ md_taken a / 2 ^ p.toNat % 2 = 1 ∧ ¬ md_taken a / 2 ^ (p + md_btw a c (a 1) k + 1).toNat % 2 = 1
    · rw [if_pos z]
      refine ⟨q.1, q.2.1, by omega, fun y => z.2.1 ((bt_has ht.1).mpr y), fun y => z.2.2 ((bt_has ht.1).mpr y)⟩
    · rw [if_neg z] at h; exact absurd rfl h
  · unfold md_sec at h
    rw [if_neg q] at h; exact absurd rfl h
theorem RPM.join {f a c : Int → Int} (h : RPM f a) {k p : Int} (hs : ¬ md_sec a c k p = -1) : RPM (rw_enter f (k + 1) p (md_sec a c k p)) (md_join a c k p) ∧ OpF a (md_join a c k p) := by
  have hF := sec_facts h.2.2.1 hs
  have hr := h.2.1.enter h.2.2.1 hF.1 hF.2.1 hF.2.2.1 hF.2.2.2
  have hv' := MV_came h.2.2.1 hF.1 hF.2.2.1
  have h0 : f 0 = a 7 := h.2.1.1.symm
  refine ⟨⟨RX_enter h.1 (by omega) (by rw [h0]; exact hF.2.2.1), hr, md_join_V h.2.2.1 hs, md_join_L h.2.2.1 h.2.2.2 hs⟩, ?_⟩
  have := OpF_write hv' k 0
  exact OpF.t (OpF_up (OpF_up (OpF_up (OpF.r a) (by omega)) (by omega)) (by omega)) this
theorem OpF_tng {a : Int → Int} {k : Int} (hk : 0 ≤ k ∧ k ≤ 7) : OpF a (md_tng k a) := by
  unfold md_tng
  split
  · exact OpF_up (OpF_up (OpF.r a) (by omega)) (by omega)
  · exact OpF.r a
theorem OpF_mvg {a : Int → Int} {b k : Int} (hk : 0 ≤ k ∧ k ≤ 7) : OpF a (md_mvg b k a) := by
  unfold md_mvg
  split
  · exact OpF_up (OpF_up (OpF.r a) (by omega)) (by omega)
  · exact OpF.r a
theorem OpF_lp {g : Int → (Int → Int) → (Int → Int)} (hg : ∀ k a, 0 ≤ k ∧ k ≤ 7 → OpF a (g k a)) : ∀ (m : Nat) (k : Int) (a : Int → Int), k + m = 8 → 0 ≤ k → OpF a (lpF g m k a) := by
  intro m
  induction m with
  | zero => intro k a _ _; exact OpF.r a
  | succ m ih =>
    intro k a hk h0
    exact (hg k a (by omega)).t (ih (k + 1) (g k a) (by omega) (by omega))
theorem RPM.turn {f a : Int → Int} (h : RPM f a) : RPM (rw_turn f) (md_turn a) ∧ OpF a (md_turn a) :=
  ⟨⟨RX_turn h.1, h.2.1.turn h.2.2.1, md_turn_V h.2.2.1 8 0 rfl (by omega), md_turn_L h.2.2.2 8 0 rfl (by omega)⟩, OpF_lp (fun _ _ hk => OpF_tng hk) 8 0 a rfl (by omega)⟩
