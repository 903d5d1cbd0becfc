/-! ===== days, side by side ===== -/
theorem pcd_F : ∀ s : Fin 256, ∀ k : Fin 8, s.val.testBit k.val = true → pc (bdf (s.val : Int) (bsh (k.val : Int))) + 1 = pc (s.val : Int) := by decide +kernel
theorem pcd {s : Nat} {k : Nat} (hs : s < 256) (hk : k < 8) (h : s.testBit k = true) : pc (bdf (s : Int) (bsh (k : Int))) + 1 = pc (s : Int) := pcd_F ⟨s, hs⟩ ⟨k, hk⟩ h
theorem pc_del {x k : Int} (hx : 0 ≤ x ∧ x < 256) (hk : 0 ≤ k ∧ k ≤ 7) (h : bt x k.toNat) : pc (bdf x (bsh k)) + 1 = pc x := by
  have := pcd (s := x.toNat) (k := k.toNat) (by omega) (by omega) h
  rw [show ((x.toNat : Nat) : Int) = x by omega, show ((k.toNat : Nat) : Int) = k by omega] at this
  exact this
theorem std_lvw {b : Int} {a : Int → Int} {k q : Int} (hv : MV a) (hs : md_stands a k) : md_standing (md_lvw b a k q) = bdf (md_standing a) (bsh k) := by
  have hb := md_standing_B a
  have h6 := hv.2.2.2.2.2.2.2.1
  have hk := hs.1
  have hw : ∀ j, 8 ≤ j ∧ j < 24 → (if b = 1 then md_write a k q else a) j = a j := fun j hj => by
    split
    · unfold md_write
      split
      · rw [up_n (by omega), up_n (by omega), up_n (by omega)]
        unfold md_sh
        rw [if_neg (by omega)]
      · rw [up_n (by omega), up_n (by omega)]
    · rfl
  have hle : bdf (md_standing a) (bsh k) ≤ md_standing a := bdf_le _ _ hb.1
  refine (std_ext (bdf_nn _ _) (by omega) (fun i hi => ?_)).symm
  rw [bt_bdf, bt_bsh hk.1, bt_standing hi]
  unfold md_lvw
  constructor
  · rintro ⟨⟨h1, h2⟩, h3⟩
    refine ⟨h1, ?_⟩
    rw [up_n (by omega), up_n (by omega), up_n (by omega), hw _ (by omega)]
    exact h2
  · rintro ⟨h1, h2⟩
    by_cases e : k = (i : Int)
    · rw [up_n (by omega), up_n (by omega), e, up_s] at h2
      exact absurd rfl h2
    · rw [up_n (by omega), up_n (by omega), up_n (by omega), hw _ (by omega)] at h2
      exact ⟨⟨h1, h2⟩, e⟩
theorem std_old {a : Int → Int} {k : Int} (hk : 0 ≤ k ∧ k ≤ 7) : md_standing (md_old a k) = md_standing a := by
  refine (st_congr (fun j hj => ?_)).1
  unfold md_old
  rw [up_n (by omega), up_n (by omega)]
theorem md_pk_gone {c : Int → Int} {b k : Int} {s : (Int → Int) × Int} (hk : 0 ≤ k ∧ k ≤ 7) (hv : MV s.1) : (md_pk c b k s).2 + pc (md_standing (md_pk c b k s).1) = s.2 + pc (md_standing s.1) := by
  unfold md_pk
  split
  · next hs =>
    split
    · have hso : md_stands (md_old s.1 k) k := ⟨hk, by unfold md_old; rw [up_n (by omega), up_n (by omega)]; exact hs.2⟩
      show s.2 + 1 + pc (md_standing (md_lvw b (md_old s.1 k) k 2)) = _
      rw [std_lvw (md_old_V hv hk) hso, std_old hk]
      have hb := md_standing_B s.1
      have h8 : k.toNat < 8 := by omega
      have := pc_del hb hk ((bt_standing h8).mpr (by rw [show ((k.toNat : Nat) : Int) = k by omega]; exact hs))
      omega
    · show s.2 + pc (md_standing (md_old s.1 k)) = _
      rw [std_old hk]
  · rfl
theorem md_pk_op {c : Int → Int} {b k : Int} {s : (Int → Int) × Int} (hk : 0 ≤ k ∧ k ≤ 7) (hv : MV s.1) : OpF s.1 (md_pk c b k s).1 := by
  have ho : OpF s.1 (md_old s.1 k) := OpF_up (OpF_up (OpF.r _) (by omega)) (by omega)
  unfold md_pk
  split
  · split
    · refine ho.t ?_
      show OpF _ (md_lvw b (md_old s.1 k) k 2)
      unfold md_lvw
      refine OpF_up (OpF_up (OpF_up ?_ (by omega)) (by omega)) (by omega)
      split
      · exact OpF_write (md_old_V hv hk) k 2
      · exact OpF.r _
    · exact ho
  · exact OpF.r _
theorem md_pks_go {c : Int → Int} {b : Int} : ∀ (m : Nat) (k : Int) (s : (Int → Int) × Int), MV s.1 → ML s.1 → k + m = 8 → 0 ≤ k → (lpF (md_pk c b) m k s).2 + pc (md_standing (lpF (md_pk c b) m k s).1) = s.2 + pc (md_standing s.1) ∧ OpF s.1 (lpF (md_pk c b) m k s).1 := by
  intro m
  induction m with
  | zero => intro k s _ _ _ _; exact ⟨rfl, OpF.r _⟩
  | succ m ih =>
    intro k s hv hl hk h0
    have hp := md_pk_P (c := c) (b := b) (k := k) (s := s) (by omega) hv hl
    have h := ih (k + 1) (md_pk c b k s) hp.1 hp.2.1 (by omega) (by omega)
    exact ⟨h.1.trans (md_pk_gone (by omega) hv), (md_pk_op (by omega) hv).t h.2⟩
theorem md_pass_go {c : Int → Int} {b : Int} {s : (Int → Int) × Int} (hv : MV s.1) (hl : ML s.1) : (md_pass c b s).2 + pc (md_standing (md_pass c b s).1) = s.2 + pc (md_standing s.1) ∧ OpF s.1 (md_pass c b s).1 := by
  have h := md_pks_go (c := c) (b := b) 8 0 s hv hl rfl (by omega)
  constructor
  · show (lpF (md_pk c b) 8 0 s).2 + pc (md_standing (up (lpF (md_pk c b) 8 0 s).1 4 _)) = _
    rw [(st_congr (a := up (lpF (md_pk c b) 8 0 s).1 4 ((lpF (md_pk c b) 8 0 s).1 4 + 1)) (b := (lpF (md_pk c b) 8 0 s).1) (fun j hj => up_n (by omega))).1]
    exact h.1
  · exact OpF_up h.2 (by omega)
theorem RPM.pass {f a c : Int → Int} {lt : Option (List Int)} {t : Int} (hl : LWt c t lt) (h : RPM f a) (h1 : a 1 = t) (h4 : a 4 < 9999) (x : Int) : RPM (cpd lt f) (md_pass c 1 (a, x)).1 ∧ OpF a (md_pass c 1 (a, x)).1 := by
  have hp := md_pass_P (c := c) (b := 1) (s := (a, x)) h.2.2.1 h.2.2.2 h4
  exact ⟨⟨(RX_cpd h.1 (by rw [← h.2.1.2.1]; exact h4)).1, h.2.1.pass hl h.2.2.1 h.2.2.2 h1 x, hp.1, hp.2.1⟩, (md_pass_go (s := (a, x)) h.2.2.1 h.2.2.2).2⟩
/-- S beside a -/
def COS (S : Nat → Int → Int) (a : Int → Int) : Prop := CO (S 14) (S 18) (S 17 1) (S 17 2) (S 20) (S 19 1) (S 0 10) (S 0 11) a
theorem COS.kept {S : Nat → Int → Int} {a : Int → Int} (h : COS S a) : COS (stK S) (md_keep a) := by
  have := CO.kept h
  exact this
theorem COS.row {S : Nat → Int → Int} {a f' a' : Int → Int} (h : COS S a) (hp : RPM f' a') (ho : OpF a a') : COS (upS S 14 f') a' := by
  have := CO.row h hp ho
  exact this
theorem COS.fr {S S' : Nat → Int → Int} {a : Int → Int} (h : COS S a) (hf : Fr [35] S S') : COS S' a := by
  unfold COS
  rw [hf 14 (by decide), hf 18 (by decide), hf 17 (by decide), hf 20 (by decide), hf 19 (by decide), hf 0 (by decide)]
  exact h
theorem COS.pass {S : Nat → Int → Int} {a c : Int → Int} {lt : Option (List Int)} {t : Int} (hl : LWt c t lt) (h : COS S a) (h1 : a 1 = t) (h4 : a 4 < 9999) (x : Int) : COS (cps lt S) (md_pass c 1 (md_keep a, x)).1 := by
  have h2 : 0 ≤ a 2 ∧ a 2 ≤ 30 := h.1.2.2.1.2.2.2.1
  have hk := h.kept
  have hp := RPM.pass hl (f := S 14) hk.1 ((keep_row h2 (by omega)).trans h1) (by rw [keep_row h2 (by omega)]; exact h4) x
  exact hk.row hp.1 hp.2
theorem COS.days {c : Int → Int} {lt : Option (List Int)} {t : Int} (hl : LWt c t lt) : ∀ (m : Nat) (S : Nat → Int → Int) (a : Int → Int) (x : Int), COS S a → a 1 = t → COS (cpN lt m S) (md_aps c 1 m (a, x)).2.1 ∧ (md_aps c 1 m (a, x)).1 = jb (S 14 1 + m ≤ 9999) ∧ (md_aps c 1 m (a, x)).2.2 + pc (cpN lt m S 14 3) = x + pc (S 14 3) := by
  intro m
  induction m with
  | zero =>
    intro S a x h h1
    have : 0 ≤ S 14 1 ∧ S 14 1 ≤ 9999 := h.1.1.1.2.2.1
    refine ⟨h, ?_, rfl⟩
    show (1 : Int) = _
    unfold jb
    rw [if_pos (by omega)]
  | succ m ih =>
    intro S a x h h1
    have e4 : a 4 = S 14 1 := h.1.2.1.2.1
    have hb : 0 ≤ S 14 1 ∧ S 14 1 ≤ 9999 := h.1.1.1.2.2.1
    unfold md_aps cpN
    by_cases q : a 4 = 9999
    · rw [if_pos q, if_pos (by omega)]
      refine ⟨h, ?_, rfl⟩
      show (0 : Int) = _
      unfold jb
      rw [if_neg (by omega)]
    · have hv := h.1.2.2.1
      have hm := h.1.2.2.2
      rw [if_neg q, if_neg (by omega)]
      have hp := h.pass hl h1 (by omega) x
      have hk := md_kp_P (c := c) (b := 1) (z := x) hv hm q
      have hi := ih (cps lt S) (md_pass c 1 (md_keep a, x)).1 (md_pass c 1 (md_keep a, x)).2 hp (hk.2.2.2.1.trans h1)
      have e5 : cps lt S 14 1 = S 14 1 + 1 := by
        rw [← hp.1.2.1.2.1, hk.2.2.2.2, e4]
      have hg := (md_pass_go (c := c) (b := 1) (s := (md_keep a, x)) (md_keep_V hv) (md_keep_L hv hm)).1
      have e6 : cps lt S 14 3 = md_standing (md_pass c 1 (md_keep a, x)).1 := hp.1.2.1.2.2.2.2.2.1
      have e7 : S 14 3 = md_standing (md_keep a) := h.kept.1.2.1.2.2.2.2.2.1
      refine ⟨hi.1, ?_, ?_⟩
      · rw [show (md_pass c 1 (md_keep a, x)) = ((md_pass c 1 (md_keep a, x)).1, (md_pass c 1 (md_keep a, x)).2) from rfl, hi.2.1, e5]
        unfold jb
        by_cases w : S 14 1 + 1 + (m : Int) ≤ 9999
        · rw [if_pos w, if_pos (by omega)]
        · rw [if_neg w, if_neg (by omega)]
      · have := hi.2.2
        rw [e6] at this
        rw [e7]
        have hg' : (md_pass c 1 (md_keep a, x)).2 + pc (md_standing (md_pass c 1 (md_keep a, x)).1) = x + pc (md_standing (md_keep a)) := hg
        rw [show (md_aps c 1 m (md_pass c 1 (md_keep a, x))).2.2 = (md_aps c 1 m ((md_pass c 1 (md_keep a, x)).1, (md_pass c 1 (md_keep a, x)).2)).2.2 from rfl]
        omega
