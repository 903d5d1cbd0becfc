/-! ===== length, shift, sayings, by, image ===== -/
theorem RPM.len {f a : Int → Int} (h : RPM f a) {n : Int} : cl_len f n ↔ md_lenOk a n := by
  show ((1 ≤ n ∧ n ≤ 16) ∧ ¬ n = f 0 ∧ f 4 / 2 ^ n.toNat = 0) ↔ ((1 ≤ n ∧ n ≤ 16) ∧ ¬ n = a 7 ∧ md_taken a / 2 ^ n.toNat = 0)
  rw [h.2.1.1, h.2.1.2.2.2.2.2.2.1]
theorem Bd_up1 {f : Int → Int} (h : Bd f) {i x : Int} (hx : -2147483648 ≤ x ∧ x < 2147483648) : Bd (up f i x) := fun j => by
  unfold up
  split
  · exact hx
  · exact h j
theorem RLn_up1 {f : Int → Int} (h : RLn f) {i x : Int} (hi : i < 30) : RLn (up f i x) := fun q hq => by rw [up_n (by omega)]; exact h q hq
theorem COS.len {S : Nat → Int → Int} {a : Int → Int} (h : COS S a) {n : Int} (hn : md_lenOk a n) : COS (upS (stK S) 14 (up (stK S 14) 0 n)) (up (md_keep a) 7 n) := by
  have hk := h.kept
  have hq := hk.1.2.1.set (i := 0) (j := 7) (Or.inl ⟨rfl, rfl⟩) n
  have hv := md_len_V h.1.2.2.1 hn
  exact hk.row ⟨RX_of hq hv (Bd_up1 hk.1.1.1.1 (by have := hn.1; omega)) (RLn_up1 hk.1.1.2 (by omega)), hq, hv, ML_up hk.1.2.2.2 (by omega)⟩ (OpF_up (OpF.r _) (by omega))
/-- none falls out -/
theorem bt_mul {x : Int} (hx : 0 ≤ x) {b i : Nat} : bt (x * 2 ^ b) i ↔ b ≤ i ∧ bt x (i - b) := by
  obtain ⟨n, rfl⟩ : ∃ n : Nat, x = n := ⟨x.toNat, by omega⟩
  unfold bt
  have e : ((n : Int) * 2 ^ b).toNat = n * 2 ^ b := by
    have : ((n * 2 ^ b : Nat) : Int) = (n : Int) * 2 ^ b := by rw [Int.natCast_mul, Int.natCast_pow]; rfl
    omega
  rw [e, Int.toNat_natCast, ← Nat.shiftLeft_eq, Nat.testBit_shiftLeft]
  constructor
  · intro h
    rw [Bool.and_eq_true, decide_eq_true_iff] at h
    exact ⟨h.1, h.2⟩
  · rintro ⟨h1, h2⟩
    rw [Bool.and_eq_true, decide_eq_true_iff]
    exact ⟨h1, h2⟩
theorem bt_allI {n : Int} (hn : 0 ≤ n) {j : Nat} : bt (bsh n - 1) j ↔ (j : Int) < n := by
  unfold bsh bt
  have : (((2 ^ n.toNat : Nat) : Int) - 1).toNat = 2 ^ n.toNat - 1 := by omega
  rw [this, Nat.testBit_two_pow_sub_one, decide_eq_true_iff]
  omega
theorem int_zero {x : Int} (hx : 0 ≤ x) (h : ∀ i, ¬ bt x i) : x = 0 := bt_ext hx (by omega) (fun i => ⟨fun z => absurd z (h i), fun z => absurd z (bt_0 i)⟩)
theorem std_zero {a : Int → Int} (hv : MV a) : md_taken a = 0 ↔ md_standing a = 0 := by
  have hb := md_standing_B a
  have ht := md_taken_B hv
  constructor
  · intro e
    refine int_zero hb.1 (fun i hi => ?_)
    rcases Nat.lt_or_ge i 8 with q | q
    · have hs := (bt_standing q).mp hi
      have h1 := hv.at hs.1
      have h2 := hs.2
      have := (bt_taken hv (i := (a (8 + (i : Int))).toNat)).mpr ⟨(i : Int), hs, Or.inl (by omega)⟩
      rw [e] at this
      exact bt_0 _ this
    · exact bt_lt (n := 8) hb.2 q hi
  · intro e
    refine int_zero ht.1 (fun i hi => ?_)
    obtain ⟨k, hs, _⟩ := (bt_taken hv).mp hi
    have := (bt_standing (a := a) (i := k.toNat) (by have := hs.1; omega)).mpr (by rw [show ((k.toNat : Nat) : Int) = k by have := hs.1; omega]; exact hs)
    rw [e] at this
    exact bt_0 _ this
theorem md_cs_iff {a : Int → Int} (hv : MV a) {b : Int} : md_cs a b ↔ ((-15 ≤ b ∧ b ≤ 15) ∧ ¬ b = 0 ∧ ¬ md_standing a = 0 ∧ CA a b 0) := by
  have ht := md_taken_B hv
  have b7 : 1 ≤ a 7 ∧ a 7 ≤ 16 := hv.2.2.2.2.2.2.2.2.1
  have key : ¬ b = 0 → ((if 0 < b then bdf (md_taken a * 2 ^ b.toNat) (bsh (a 7) - 1) = 0 else ban (md_taken a) (bsh (-b) - 1) = 0) ↔ CA a b 0) := fun hb => by
    by_cases q : 0 < b
    · rw [if_pos q]
      constructor
      · intro e n hn h0
        have h1 := hv.at (k := n) (by omega)
        have h2 := h1.2.2.1 h0
        refine ⟨by omega, ?_⟩
        have hs : md_stands a n := ⟨by omega, by omega⟩
        refine Classical.byContradiction (fun hc => ?_)
        have hz := bt_bdf (a := md_taken a * 2 ^ b.toNat) (b := bsh (a 7) - 1) (i := (a (16 + n) + b).toNat)
        rw [e, bt_mul ht.1, bt_allI (by omega)] at hz
        refine bt_0 _ (hz.mpr ⟨⟨by omega, ?_⟩, by omega⟩)
        rw [show (a (16 + n) + b).toNat - b.toNat = (a (16 + n)).toNat by omega]
        exact (bt_taken hv).mpr ⟨n, hs, Or.inr (by omega)⟩
      · intro hc
        refine int_zero (bdf_nn _ _) (fun i hi => ?_)
        rw [bt_bdf, bt_mul ht.1, bt_allI (by omega)] at hi
        obtain ⟨k, hs, hk⟩ := (bt_taken hv).mp hi.1.2
        have h1 := hv.at hs.1
        have h2 := hs.2
        have h3 := h1.2.2.1 (by omega)
        have h4 := hc k (by have := hs.1; omega) (by omega)
        omega
    · rw [if_neg q]
      constructor
      · intro e n hn h0
        have h1 := hv.at (k := n) (by omega)
        have h2 := h1.2.2.1 h0
        refine ⟨?_, by omega⟩
        have hs : md_stands a n := ⟨by omega, by omega⟩
        refine Classical.byContradiction (fun hc => ?_)
        have hz := bt_ban (a := md_taken a) (b := bsh (-b) - 1) (i := (a (8 + n)).toNat)
        rw [e, bt_allI (by omega)] at hz
        exact bt_0 _ (hz.mpr ⟨(bt_taken hv).mpr ⟨n, hs, Or.inl (by omega)⟩, by omega⟩)
      · intro hc
        refine int_zero (Int.natCast_nonneg _) (fun i hi => ?_)
        rw [bt_ban, bt_allI (by omega)] at hi
        obtain ⟨k, hs, hk⟩ := (bt_taken hv).mp hi.1
        have h1 := hv.at hs.1
        have h2 := hs.2
        have h3 := h1.2.2.1 (by omega)
        have h4 := hc k (by have := hs.1; omega) (by omega)
        omega
  constructor
  · rintro ⟨h1, h2, h3, h4⟩
    exact ⟨h1, h2, fun z => h3 ((std_zero hv).mpr z), (key h2).mp h4⟩
  · rintro ⟨h1, h2, h3, h4⟩
    exact ⟨h1, h2, fun z => h3 ((std_zero hv).mp z), (key h2).mpr h4⟩
theorem CA_CM {f a : Int → Int} (h : RQ f a) {b : Int} : CM f b 1 ↔ CA a b 0 := by
  have h7 := h.1
  constructor
  · intro hc n hn h0
    have e := h.n (n := n + 1) (by omega)
    rw [show n + 1 - 1 = n by omega] at e
    have := hc (n + 1) (by omega) (by omega)
    omega
  · intro hc n hn h0
    have e := h.n (n := n) (by omega)
    have := hc (n - 1) (by omega) (by omega)
    omega
theorem cl_sh_iff {f a : Int → Int} (h : RPM f a) {b : Int} : cl_sh f b ↔ md_cs a b := by
  have h3 : f 3 = md_standing a := h.2.1.2.2.2.2.2.1
  rw [md_cs_iff h.2.2.1, ← CA_CM h.2.1, ← h3]
  have key : rw_canMove f b = 1 ↔ (¬ f 3 = 0 ∧ CM f b 1) := by
    unfold rw_canMove
    rcases lpR_cases (g := rw_cmg f b) (d := jb (¬ f 3 = 0)) 8 1 with ⟨e, hn⟩ | ⟨j, hj, e, _⟩
    · have hcm : CM f b 1 := fun n hn1 h0 => by
        have := hn n (by omega)
        unfold rw_cmg at this
        have hq : ¬ (rw_holds f n ∧ (rw_first f n + b < 0 ∨ f 0 ≤ rw_second f n + b)) := fun z => by rw [if_pos z] at this; exact absurd this (by simp)
        have hh : rw_holds f n := ⟨by omega, h0⟩
        have e1 : rw_first f n = f (5 + n) := if_pos (by omega)
        have e2 : rw_second f n = f (13 + n) := if_pos (by omega)
        rw [e1, e2] at hq
        constructor
        · exact Classical.byContradiction (fun z => hq ⟨hh, Or.inl (by omega)⟩)
        · exact Classical.byContradiction (fun z => hq ⟨hh, Or.inr (by omega)⟩)
      rw [e]
      unfold jb
      by_cases z : f 3 = 0
      · rw [if_neg (fun y => y z)]; exact ⟨fun y => absurd y (by decide), fun y => absurd z y.1⟩
      · rw [if_pos z]; exact ⟨fun _ => ⟨z, hcm⟩, fun _ => rfl⟩
    · unfold rw_cmg at e
      by_cases z : rw_holds f j ∧ (rw_first f j + b < 0 ∨ f 0 ≤ rw_second f j + b)
      · rw [if_pos z] at e
        have e0 : lpR (rw_cmg f b) 8 1 (jb (¬ f 3 = 0)) = 0 := by
          have := Option.some.inj e
          exact this.symm
        rw [e0]
        refine ⟨fun y => absurd y (by decide), fun y => ?_⟩
        have e1 : rw_first f j = f (5 + j) := if_pos (by omega)
        have e2 : rw_second f j = f (13 + j) := if_pos (by omega)
        have := y.2 j (by omega) z.1.2
        rw [e1, e2] at z
        omega
      · rw [if_neg z] at e; exact absurd e (by simp)
  constructor
  · rintro ⟨h1, h2, h4⟩
    have := key.mp h4
    exact ⟨by omega, h1, this.1, this.2⟩
  · rintro ⟨h1, h2, h4, h5⟩
    exact ⟨h2, by omega, key.mpr ⟨h4, h5⟩⟩
theorem md_mvs_V {b : Int} : ∀ (m : Nat) (k : Int) (a : Int → Int), MV a → CA a b k → k + m = 8 → 0 ≤ k → MV (lpF (md_mvg b) m k a) := by
  intro m
  induction m with
  | zero => intro k a hv _ _ _; exact hv
  | succ m ih =>
    intro k a hv hc hk h0
    have := md_mvg_V hv hc (by omega)
    exact ih (k + 1) _ this.1 this.2 (by omega) (by omega)
theorem md_mvs_L {b : Int} : ∀ (m : Nat) (k : Int) (a : Int → Int), ML a → k + m = 8 → 0 ≤ k → ML (lpF (md_mvg b) m k a) := by
  intro m
  induction m with
  | zero => intro k a hv _ _; exact hv
  | succ m ih =>
    intro k a hv hk h0
    refine ih (k + 1) _ ?_ (by omega) (by omega)
    unfold md_mvg
    split
    · exact ML_up (ML_up hv (by omega)) (by omega)
    · exact hv
theorem rw_mvs_X {b : Int} (hb : -16 < b ∧ b < 16) : ∀ (m : Nat) (k : Int) (f : Int → Int), RX f → CM f b k → k + m = 9 → 1 ≤ k → RX (lpF (rw_mvg b) m k f) := by
  intro m
  induction m with
  | zero => intro k f hx _ _ _; exact hx
  | succ m ih =>
    intro k f hx hc hk h1
    have hv := rw_mvg_V hx.1 hc (by omega) hb
    refine ih (k + 1) _ ⟨hv.1, ?_⟩ hv.2 (by omega) (by omega)
    unfold rw_mvg
    split
    · exact RLn_up1 (RLn_up1 hx.2 (by omega)) (by omega)
    · exact hx.2
theorem COS.move {S : Nat → Int → Int} {a : Int → Int} (h : COS S a) {b : Int} (hb : md_cs a b) : COS (upS (stK S) 14 (rw_move (stK S 14) b)) (lpF (md_mvg b) 8 0 (md_keep a)) := by
  have hk := h.kept
  have h2 : 0 ≤ a 2 ∧ a 2 ≤ 30 := h.1.2.2.1.2.2.2.1
  have hc := ((md_cs_iff h.1.2.2.1).mp hb)
  have hck : CA (md_keep a) b 0 := fun n hn h0 => by
    rw [keep_row h2 (by omega)] at h0 ⊢
    rw [keep_row h2 (by omega), keep_row h2 (by omega)]
    exact hc.2.2.2 n hn h0
  have hv := md_mvs_V 8 0 (md_keep a) hk.1.2.2.1 hck rfl (by omega)
  have hq := hk.1.2.1.move hk.1.2.2.1 hck hv
  have hX := rw_mvs_X (b := b) (by have := hc.1; omega) 8 1 (stK S 14) hk.1.1 ((CA_CM hk.1.2.1).mpr hck) rfl (by omega)
  exact hk.row ⟨RX_up4 hX (rw_places_B hX.1 255), hq, hv, md_mvs_L 8 0 _ hk.1.2.2.2 rfl (by omega)⟩ (OpF_lp (fun _ _ hk => OpF_mvg hk) 8 0 _ rfl (by omega))
