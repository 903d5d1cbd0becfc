/-! ===== days foretold; what happens in years ===== -/
theorem MV_60 {a : Int → Int} (hv : MV a) : MV (up a 6 0) := by
  refine MV_of hv (fun j => ?_) (up_n (by omega)) (up_n (by omega)) ?_ (up_n (by omega)) ?_ ?_ ?_ ?_ (fun k hk => ?_)
  · unfold up
    split
    · omega
    · exact hv.1 j
  · rw [up_n (by omega)]; exact hv.2.2.2.1
  · rw [up_n (by omega)]; exact hv.2.2.2.2.2.1
  · rw [up_n (by omega)]; exact hv.2.2.2.2.2.2.1
  · rw [up_s]; omega
  · rw [up_n (by omega)]; exact hv.2.2.2.2.2.2.2.2.1
  · rw [up_n (by omega), up_n (by omega), up_n (by omega), up_n (by omega)]; exact hv.at hk
def RB0 (f a : Int → Int) : Prop := RQ (up f 5 0) (up a 6 0)
theorem cgA_5 (f : Int → Int) {n : Int} (hn : 1 ≤ n ∧ n ≤ 8) : cgA (up f 5 0) n = up (cgA f n) 5 0 := by
  have e1 : rw_holds (up f 5 0) n ↔ rw_holds f n := by
    unfold rw_holds
    rw [up_n (by omega)]
  unfold cgA rw_age
  rw [up_n (show ¬ (2 : Int) = 5 by omega), up_n (show ¬ 21 + n = 5 by omega)]
  by_cases q : rw_holds f n ∧ f (21 + n) < 99
  · rw [if_pos ⟨e1.mpr q.1, q.2⟩, if_pos q, up_swap (show ¬ (5 : Int) = 21 + n by omega), up_swap (show ¬ (5 : Int) = 2 by omega)]
  · rw [if_neg (fun z => q ⟨e1.mp z.1, z.2⟩), if_neg q, up_swap (show ¬ (5 : Int) = 2 by omega)]
theorem md_old_6 (a : Int → Int) {k : Int} (hk : 0 ≤ k ∧ k ≤ 7) : md_old (up a 6 0) k = up (md_old a k) 6 0 := by
  unfold md_old
  rw [up_n (show ¬ 24 + k = 6 by omega), up_n (show ¬ (5 : Int) = 6 by omega), up_swap (show ¬ (6 : Int) = 24 + k by omega), up_swap (show ¬ (6 : Int) = 5 by omega)]
theorem RB0.stands {a : Int → Int} {k : Int} : md_stands (up a 6 0) k ↔ md_stands a k := by
  constructor
  · rintro ⟨u, v⟩; rw [up_n (by omega)] at v; exact ⟨u, v⟩
  · rintro ⟨u, v⟩; exact ⟨u, by rw [up_n (by omega)]; exact v⟩
theorem RB0.aged {f a : Int → Int} (h : RB0 f a) (hv : MV a) {k : Int} (hs : md_stands a k) : RB0 (cgA f (k + 1)) (md_old a k) := by
  have := RQ.aged h (MV_60 hv) (RB0.stands.mpr hs)
  rw [cgA_5 f (by have := hs.1; omega), md_old_6 a hs.1] at this
  exact this
theorem RB0.gone {f a : Int → Int} (h : RB0 f a) (hx : RX f) (hv : MV a) {k q : Int} (hs : md_stands a k) : RB0 (rw_depart f (k + 1) q) (md_lvw 0 a k q) := by
  have hk := hs.1
  have h5 : 0 ≤ f 5 ∧ f 5 ≤ 25 := hx.1.2.2.2.2.2.2.1
  have hg := RQ.gone h (MV_60 hv) (RB0.stands.mpr hs)
  have hpr := RQ.pair h (MV_60 hv) (n := k + 1)
  rw [show k + 1 - 1 = k by omega, if_pos (RB0.stands.mpr hs)] at hpr
  have hpc : rw_pair (up f 5 0) (k + 1) = rw_pair f (k + 1) := rw_pair_congr (up_n (by omega)) (up_n (by omega))
  refine RQ.ext hg ?_ (fun j hj => ?_) (fun j hj => ?_)
  · rw [up_n (by omega), up_n (by omega), up_n (by omega), up_n (by omega), up_n (by omega), up_s]
  · rw [← hpr, hpc, up_n (show ¬ (3 : Int) = 5 by omega), up_n (show ¬ (4 : Int) = 5 by omega)]
    unfold rw_depart rw_dep
    rw [show k + 1 - 1 = k by omega, show 5 + (k + 1) = 6 + k by omega, show 13 + (k + 1) = 14 + k by omega, show 21 + (k + 1) = 22 + k by omega]
    by_cases e5 : j = 5
    · rw [e5, up_s, up_n (by omega), up_n (by omega), up_n (by omega), up_n (by omega), up_n (by omega), up_s]
    · rw [up_n e5]
      by_cases e1 : j = 22 + k
      · rw [e1, up_s, up_s]
      · rw [up_n e1, up_n e1]
        by_cases e2 : j = 14 + k
        · rw [e2, up_s, up_s]
        · rw [up_n e2, up_n e2]
          by_cases e3 : j = 6 + k
          · rw [e3, up_s, up_s]
          · rw [up_n e3, up_n e3]
            by_cases e4 : j = 4
            · rw [e4, up_s, up_s]
            · rw [up_n e4, up_n e4]
              by_cases e6 : j = 3
              · rw [e6, up_s, up_s]
              · rw [up_n e6, up_n e6, up_n e5, rw_write_lo h5.1 (by omega) e5]
  · unfold md_lvw
    rw [if_neg (by decide)]
    by_cases e6 : j = 6
    · rw [e6, up_s, up_n (by omega), up_n (by omega), up_n (by omega), up_s]
    · rw [up_n e6]
      by_cases e1 : j = 24 + k
      · rw [e1, up_s, up_s]
      · rw [up_n e1, up_n e1]
        by_cases e2 : j = 16 + k
        · rw [e2, up_s, up_s]
        · rw [up_n e2, up_n e2]
          by_cases e3 : j = 8 + k
          · rw [e3, up_s, up_s]
          · rw [up_n e3, up_n e3, up_n e6]
theorem RB0.pk {f a c : Int → Int} {lt : Option (List Int)} {t : Int} (hl : LWt c t lt) (hx : RX f) (h : RB0 f a) (hv : MV a) (hm : ML a) (h1 : a 1 = t) {k : Int} (hk : 0 ≤ k ∧ k ≤ 7) (x : Int) : RB0 (cpd1 lt (k + 1) f) (md_pk c 0 k (a, x)).1 := by
  have hh : rw_holds f (k + 1) ↔ md_stands a k := by
    have := RQ.holds h (MV_60 hv) (n := k + 1)
    rw [show k + 1 - 1 = k by omega, RB0.stands] at this
    rw [← this]
    unfold rw_holds
    rw [up_n (by omega)]
  have e2 : f 2 = a 5 := by
    have := h.2.2.1
    rw [up_n (by omega), up_n (by omega)] at this
    exact this.symm
  unfold cpd1 md_pk
  by_cases q : md_stands a k
  · have ho := h.aged hv q
    have e1 : md_old a k 1 = a 1 := by unfold md_old; rw [up_n (by omega), up_n (by omega)]
    have e := hl _ _ (k + 1) ho (md_old_V hv hk) (md_old_L hm hk) (by rw [e1]; exact h1) (by omega)
    rw [e1, show k + 1 - 1 = k by omega] at e
    have hso : md_stands (md_old a k) k := ⟨hk, by unfold md_old; rw [up_n (by omega), up_n (by omega)]; exact q.2⟩
    rw [if_pos (hh.mpr q), if_pos q, e, e2]
    by_cases z : a 5 % 10 < md_tir (md_old a k) c (a 1) k
    · rw [if_pos z, if_pos z]
      exact ho.gone (RX_cgA hx (by omega)) (md_old_V hv hk) hso
    · rw [if_neg z, if_neg z]
      exact ho
  · rw [if_neg (fun z => q (hh.mp z)), if_neg q]
    exact h
theorem RB0.pks {c : Int → Int} {lt : Option (List Int)} {t : Int} (hl : LWt c t lt) : ∀ (m : Nat) (k : Int) (f a : Int → Int) (x : Int), RX f → RB0 f a → MV a → ML a → a 1 = t → k + m = 8 → 0 ≤ k → RB0 (lpF (cpd1 lt) m (k + 1) f) (lpF (md_pk c 0) m k (a, x)).1 := by
  intro m
  induction m with
  | zero => intro k f a x _ h _ _ _ _ _; exact h
  | succ m ih =>
    intro k f a x hx h hv hm h1 hk h0
    have hp := md_pk_P (c := c) (b := 0) (k := k) (s := (a, x)) (by omega) hv hm
    have hr := h.pk hl hx hv hm h1 (k := k) (by omega) x
    show RB0 (lpF (cpd1 lt) m (k + 1 + 1) (cpd1 lt (k + 1) f)) (lpF (md_pk c 0) m (k + 1) (md_pk c 0 k (a, x))).1
    rw [show md_pk c 0 k (a, x) = ((md_pk c 0 k (a, x)).1, (md_pk c 0 k (a, x)).2) from rfl]
    exact ih (k + 1) _ _ _ (RX_cpd1 hx (by omega)).1 hr hp.1 hp.2.1 (hp.2.2.2.1.trans h1) (by omega) (by omega)
theorem RB0.pass {f a c : Int → Int} {lt : Option (List Int)} {t : Int} (hl : LWt c t lt) (hx : RX f) (h : RB0 f a) (hv : MV a) (hm : ML a) (h1 : a 1 = t) (x : Int) : RB0 (cpd lt f) (md_pass c 0 (a, x)).1 := by
  have hr := RB0.pks hl 8 0 f a x hx h hv hm h1 rfl (by omega)
  have e := hr.2.1
  rw [up_n (by omega), up_n (by omega)] at e
  have e2 : (lpF (md_pk c 0) 8 0 (a, x)).1 4 = lpF (cpd1 lt) 8 1 f 1 := e
  show RQ (up (up (lpF (cpd1 lt) 8 1 f) 1 (lpF (cpd1 lt) 8 1 f 1 + 1)) 5 0) (up (up (lpF (md_pk c 0) 8 0 (a, x)).1 4 ((lpF (md_pk c 0) 8 0 (a, x)).1 4 + 1)) 6 0)
  rw [e2, up_swap (show ¬ (1 : Int) = 5 by omega), up_swap (show ¬ (4 : Int) = 6 by omega)]
  exact RQ.set hr (Or.inr (Or.inl ⟨rfl, rfl⟩)) _
theorem md_for_stop {c : Int → Int} : ∀ (m : Nat) (a : Int → Int), ¬ a 4 < 9999 → md_for c m a = a := by
  intro m
  induction m with
  | zero => intro a _; rfl
  | succ m ih =>
    intro a h
    show md_for c m (if a 4 < 9999 then (md_pass c 0 (a, 0)).1 else a) = a
    rw [if_neg h]; exact ih a h
theorem RB0.fore {c : Int → Int} {lt : Option (List Int)} {t : Int} (hl : LWt c t lt) : ∀ (m : Nat) (f a : Int → Int), RX f → RB0 f a → MV a → ML a → a 1 = t → cfN lt m f 3 = md_standing (md_for c m a) := by
  intro m
  induction m with
  | zero =>
    intro f a hx h hv hm h1
    have := h.2.2.2.2.2.1
    rw [up_n (by omega), (st_congr (a := up a 6 0) (b := a) (fun j hj => up_n (by omega))).1] at this
    exact this
  | succ m ih =>
    intro f a hx h hv hm h1
    have e4 : a 4 = f 1 := by
      have := h.2.1
      rw [up_n (by omega), up_n (by omega)] at this
      exact this
    show (if 9999 ≤ f 1 then f else cfN lt m (cpd lt f)) 3 = md_standing (md_for c m (if a 4 < 9999 then (md_pass c 0 (a, 0)).1 else a))
    by_cases q : a 4 < 9999
    · have hp := md_pass_P (c := c) (b := 0) (s := (a, 0)) hv hm q
      rw [if_neg (by omega), if_pos q]
      exact ih _ _ (RX_cpd hx (by omega)).1 (h.pass hl hx hv hm h1 0) hp.1 hp.2.1 (hp.2.2.2.1.trans h1)
    · rw [if_pos (by omega), if_neg q, md_for_stop m a q]
      have := h.2.2.2.2.2.1
      rw [up_n (by omega), (st_congr (a := up a 6 0) (b := a) (fun j hj => up_n (by omega))).1] at this
      exact this
theorem RPM.fore {f a c : Int → Int} {lt : Option (List Int)} {t : Int} (hl : LWt c t lt) (h : RPM f a) (h1 : a 1 = t) (m : Nat) : cfN lt m f 3 = md_standing (md_for c m a) :=
  RB0.fore hl m f a h.1 h.2.1.bare h.2.2.1 h.2.2.2 h1
theorem RPM.hap {f a c : Int → Int} {lb lt : Option (List Int)} {t : Int} (hb : LWb c t lb) (hl : LWt c t lt) (h : RPM f a) (h1 : a 1 = t) {x : Int} (hx : 0 ≤ x) : RPM (chp lb lt x f) (md_hap c a x) ∧ OpF a (md_hap c a x) := by
  have hsec := h.2.1.sec hb h.2.2.1 h.2.2.2 h1 (1 + x / 6 % 8) (x % 16)
  rw [show 1 + x / 6 % 8 - 1 = x / 6 % 8 by omega] at hsec
  have hh := h.2.1.holds h.2.2.1 (n := 1 + x / 6 % 8)
  rw [show 1 + x / 6 % 8 - 1 = x / 6 % 8 by omega] at hh
  have e4 : a 4 = f 1 := h.2.1.2.1
  unfold chp md_hap
  rw [hsec]
  by_cases q1 : x % 6 ≤ 1
  · rw [if_pos (show x % 6 = 0 ∨ x % 6 = 1 by omega), if_pos q1]
    by_cases q2 : md_sec a c (x / 6 % 8) (x % 16) = -1
    · rw [if_pos q2, if_pos q2]; exact ⟨h, OpF.r a⟩
    · rw [if_neg q2, if_neg q2, show 1 + x / 6 % 8 = x / 6 % 8 + 1 by omega]
      exact h.join q2
  · rw [if_neg (show ¬ (x % 6 = 0 ∨ x % 6 = 1) by omega), if_neg q1]
    by_cases q2 : x % 6 = 2
    · rw [if_pos q2, if_pos q2]
      by_cases q3 : x % 4 = 0 ∧ md_stands a (x / 6 % 8)
      · rw [if_pos ⟨q3.1, hh.mpr q3.2⟩, if_pos q3, show 1 + x / 6 % 8 = x / 6 % 8 + 1 by omega]
        exact h.leave q3.2 (by omega)
      · rw [if_neg (fun z => q3 ⟨z.1, hh.mp z.2⟩), if_neg q3]; exact ⟨h, OpF.r a⟩
    · rw [if_neg q2, if_neg q2]
      by_cases q3 : x % 6 = 3
      · rw [if_pos q3, if_pos q3]
        by_cases q4 : x % 4 = 1
        · rw [if_pos q4, if_pos q4]; exact h.turn
        · rw [if_neg q4, if_neg q4]; exact ⟨h, OpF.r a⟩
      · rw [if_neg q3, if_neg q3]
        by_cases q4 : a 4 < 9999
        · rw [if_pos (by omega), if_pos q4]; exact h.pass hl h1 q4 0
        · rw [if_neg (by omega), if_neg q4]; exact ⟨h, OpF.r a⟩
theorem RPM.set2 {f a : Int → Int} (h : RPM f a) {x : Int} (hx : 0 ≤ x ∧ x < 31019) : RPM (up f 2 x) (up a 5 x) ∧ OpF a (up a 5 x) :=
  ⟨⟨RX_up2 h.1 hx, h.2.1.set (Or.inr (Or.inr ⟨rfl, rfl⟩)) x, MV_5 h.2.2.1 hx, ML_up h.2.2.2 (by omega)⟩, OpF_up (OpF.r a) (by omega)⟩
theorem RPM.yrs {c : Int → Int} {lb lt : Option (List Int)} {t : Int} (hb : LWb c t lb) (hl : LWt c t lt) : ∀ (m : Nat) (f a : Int → Int), RPM f a → a 1 = t → RPM (cyN lb lt m f) (md_yrs c m a) ∧ OpF a (md_yrs c m a) := by
  intro m
  induction m with
  | zero => intro f a h _; exact ⟨h, OpF.r a⟩
  | succ m ih =>
    intro f a h h1
    have b5 : 0 ≤ a 5 ∧ a 5 < 31019 := h.2.2.1.2.2.2.2.2.2.1
    have e2 : a 5 = f 2 := h.2.1.2.2.1
    have e5 : (f 2 * 701 + 571).tmod 31019 = md_nx (a 5) := by
      unfold md_nx
      rw [← e2, Int.tmod_eq_emod_of_nonneg (by omega)]
    show RPM (cyN lb lt m (chp lb lt (f 2) (up f 2 ((f 2 * 701 + 571).tmod 31019)))) (md_yrs c m (md_hap c (up a 5 (md_nx (a 5))) (a 5))) ∧ OpF a (md_yrs c m (md_hap c (up a 5 (md_nx (a 5))) (a 5)))
    rw [e5, ← e2]
    have hs := h.set2 (x := md_nx (a 5)) (by unfold md_nx; omega)
    have h1' : (up a 5 (md_nx (a 5))) 1 = t := by rw [up_n (by omega)]; exact h1
    have hh := hs.1.hap hb hl h1' (x := a 5) b5.1
    have hi := ih _ _ hh.1 ((hh.2 1 (by omega)).trans h1')
    exact ⟨hi.1, hs.2.t (hh.2.t hi.2)⟩
