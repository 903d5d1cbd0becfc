/-! ===== sayings, by, image and back; scripts played ===== -/
theorem CO.ex {f g : Int → Int} {nx ct : Int} {y : Int → Int} {sc tc ru : Int} {a f' g' y' a' : Int → Int} (h : CO f g nx ct y sc tc ru a) (hF : Bd f') (hf : ∀ j, 0 ≤ j ∧ j < 55 → f' j = f j) (hg : ∀ j, 0 ≤ j ∧ j < 1650 → g' j = g j) (hy : ∀ j, 0 ≤ j ∧ j < 8 → y' j = y j) (hB : Bd a') (ha : ∀ j, 0 ≤ j ∧ j < 1663 → a' j = a j) : CO f' g' nx ct y' sc tc ru a' := by
  have hv := h.1.2.2.1
  have hp := (h.1.rp.exF hF hf).exA hB (fun j hj => ha j (by omega))
  refine ⟨⟨hp.1, hp.2.1, hp.2.2.1.mv ?_ ?_ ?_ ?_, hp.2.2.2⟩, (h.2.1.exG hg).exA hB (ha 2 (by omega)) (fun j hj => ha j (by omega)), h.2.2.1.ex (ha 3 (by omega)) (fun j hj => ha j (by omega)) hy, h.2.2.2.1.trans (ha 0 (by omega)).symm, h.2.2.2.2.trans (ha 1 (by omega)).symm⟩
  · rw [ha 0 (by omega)]; exact hv.2.1
  · rw [ha 0 (by omega), ha 1 (by omega)]; exact hv.2.2.1
  · rw [ha 2 (by omega)]; exact hv.2.2.2.1
  · rw [ha 3 (by omega)]; exact hv.2.2.2.2.1
def COI (S : Nat → Int → Int) (a : Int → Int) : Prop := CO (S 30) (S 32) (S 31 1) (S 31 2) (S 34) (S 33 1) (S 28 3) (S 28 4) a
theorem cpk_in {f g : Int → Int} {n j : Int} (h : 0 ≤ j ∧ j < n) : cpk f g n j = f j := if_pos h
theorem Bd_cpk {f g : Int → Int} (hf : Bd f) (hg : Bd g) (n : Int) : Bd (cpk f g n) := fun j => by
  unfold cpk
  split
  · exact hf j
  · exact hg j
theorem Bd_cpy0 {f g : Int → Int} (hf : Bd f) (hg : Bd g) (n : Int) : Bd (cpy f g 0 0 n) := fun j => by
  unfold cpy
  split
  · exact hf _
  · exact hg j
theorem cpy0 {f g : Int → Int} {n j : Int} (h : 0 ≤ j ∧ j < n) : cpy f g 0 0 n j = f j := by
  unfold cpy
  rw [if_pos (by omega)]
  congr 1
  omega
theorem COS.image {S : Nat → Int → Int} {a m : Int → Int} (h : COS S a) (hi : COI S m) : COS (imT S (S 0 10) (S 0 11)) a ∧ COI (imT S (S 0 10) (S 0 11)) (cpk a m 1663) := by
  constructor
  · exact h
  · have := CO.ex (f' := cpy (S 14) (S 30) 0 0 55) (g' := cpy (S 18) (S 32) 0 0 1650) (y' := cpy (S 20) (S 34) 0 0 8) (a' := cpk a m 1663) h (Bd_cpy0 h.1.1.1.1 hi.1.1.1.1 55) (fun j hj => cpy0 hj) (fun j hj => cpy0 hj) (fun j hj => cpy0 hj) (Bd_cpk h.1.2.2.1.1 hi.1.2.2.1.1 _) (fun j hj => cpk_in hj)
    exact this
theorem COS.back {S : Nat → Int → Int} {a m : Int → Int} (h : COS S a) (hi : COI S m) : COS (upS (imG S) 0 (up (up (S 0) 10 (S 28 3)) 11 (S 28 4))) (cpk m a 1663) ∧ COI (upS (imG S) 0 (up (up (S 0) 10 (S 28 3)) 11 (S 28 4))) m := by
  constructor
  · have := CO.ex (f' := cpy (S 30) (S 14) 0 0 55) (g' := cpy (S 32) (S 18) 0 0 1650) (y' := cpy (S 34) (S 20) 0 0 8) (a' := cpk m a 1663) hi (Bd_cpy0 hi.1.1.1.1 h.1.1.1.1 55) (fun j hj => cpy0 hj) (fun j hj => cpy0 hj) (fun j hj => cpy0 hj) (Bd_cpk hi.1.2.2.1.1 h.1.2.2.1.1 _) (fun j hj => cpk_in hj)
    exact this
  · exact hi
theorem COI.fr {S S' : Nat → Int → Int} {a : Int → Int} (h : COI S a) (e : ∀ i, 28 ≤ i ∧ i ≤ 34 → S' i = S i) : COI S' a := by
  unfold COI
  rw [e 30 (by omega), e 32 (by omega), e 31 (by omega), e 34 (by omega), e 33 (by omega), e 28 (by omega)]
  exact h
theorem MV_hd {a : Int → Int} (h : MV a) {i x : Int} (hi : i = 0 ∨ i = 1 ∨ i = 3) (hx : (i = 0 → a 0 ≤ x ∧ x ≤ 4) ∧ (i = 1 → -1 ≤ x ∧ x < a 0) ∧ (i = 3 → 0 ≤ x ∧ x ≤ 8)) : MV (up a i x) := by
  have h0 := h.2.1
  have h1 := h.2.2.1
  have h2 := h.2.2.2.1
  have h3 := h.2.2.2.2.1
  have hB : Bd (up a i x) := Bd_up1 h.1 (by omega)
  refine (h.mr.ex hB (fun j hj => up_n (by omega))).mv ?_ ?_ ?_ ?_
  · by_cases e : 0 = i
    · rw [← e, up_s]; omega
    · rw [up_n e]; exact h0
  · by_cases e : 0 = i
    · rw [← e, up_s, up_n (by omega)]; omega
    · rw [up_n e]
      by_cases e1 : 1 = i
      · rw [← e1, up_s]; omega
      · rw [up_n e1]; exact h1
  · rw [up_n (by omega)]; exact h2
  · by_cases e : 3 = i
    · rw [← e, up_s]; omega
    · rw [up_n e]; exact h3
theorem RPM.hd {f a : Int → Int} (h : RPM f a) {i x : Int} (hi : i = 0 ∨ i = 1 ∨ i = 3) (hx : (i = 0 → a 0 ≤ x ∧ x ≤ 4) ∧ (i = 1 → -1 ≤ x ∧ x < a 0) ∧ (i = 3 → 0 ≤ x ∧ x ≤ 8)) : RPM f (up a i x) := by
  have hv := MV_hd h.2.2.1 hi hx
  exact ⟨h.1, h.2.1.exA h.1.1.2.2.2.2.2.2.1.2 (fun j hj => up_n (by omega)), hv, ML_up h.2.2.2 (by omega)⟩
theorem COS.by {S : Nat → Int → Int} {a : Int → Int} (h : COS S a) {n : Int} (hn : -1 ≤ n ∧ n < a 0) : COS (upS S 0 (up (S 0) 11 n)) (up a 1 n) := by
  have hp := h.1.hd (i := 1) (x := n) (by omega) ⟨fun e => by omega, fun _ => hn, fun e => by omega⟩
  exact ⟨hp, h.2.1.exA hp.2.2.1.1 (up_n (by omega)) (fun j hj => up_n (by omega)), h.2.2.1.ex (up_n (by omega)) (fun j hj => up_n (by omega)) (fun _ _ => rfl), by rw [up_n (by omega)]; exact h.2.2.2.1, by rw [up_s]; rfl⟩
/-- a text more -/
theorem COS.more {S : Nat → Int → Int} {a : Int → Int} (h : COS S a) (hn : a 0 < 4) : COS (upS S 0 (up (S 0) 10 (S 0 10 + 1))) (up a 0 (a 0 + 1)) := by
  have hp := h.1.hd (i := 0) (x := a 0 + 1) (by omega) ⟨fun _ => by omega, fun e => by omega, fun e => by omega⟩
  refine ⟨hp, h.2.1.exA hp.2.2.1.1 (up_n (by omega)) (fun j hj => up_n (by omega)), h.2.2.1.ex (up_n (by omega)) (fun j hj => up_n (by omega)) (fun _ _ => rfl), ?_, ?_⟩
  · show S 0 10 + 1 = _
    rw [up_s, h.2.2.2.1]
  · show S 0 11 = _
    rw [up_n (by omega)]; exact h.2.2.2.2
theorem COS.said0 {S : Nat → Int → Int} {a : Int → Int} (h : COS S a) : COS (upS S 19 (up (S 19) 1 0)) (up a 3 0) := by
  have hp := h.1.hd (i := 3) (x := 0) (by omega) ⟨fun e => by omega, fun e => by omega, fun _ => by omega⟩
  refine ⟨hp, h.2.1.exA hp.2.2.1.1 (up_n (by omega)) (fun j hj => up_n (by omega)), ⟨?_, ?_, fun i hi => ?_⟩, ?_, ?_⟩
  · rw [up_s]; rfl
  · show 0 ≤ (0 : Int) ∧ (0 : Int) ≤ 8; omega
  · have : 0 ≤ i ∧ i < (0 : Int) := hi
    omega
  · rw [up_n (by omega)]; exact h.2.2.2.1
  · rw [up_n (by omega)]; exact h.2.2.2.2
theorem COS.said {S : Nat → Int → Int} {a : Int → Int} (h : COS S a) {n b : Int} (hs : sd_ok n b (a 3)) : COS (syA S n b) (md_said a n b) := by
  have h3 : a 3 = S 19 1 := h.2.2.1.1
  have hb3 := h.2.2.1.2.1
  have hv := h.1.2.2.1
  have q1 := hs.1
  have q2 := hs.2.1
  have q3 := hs.2.2
  have e16 : bor (n * 16) b = n * 16 + b := by
    have := bor_mul (x := n) (y := b) 4 (by omega) (by omega) (by omega)
    exact this
  have hB : Bd (up (up a (32 + 2 * a 3) (n - 1)) (32 + 2 * a 3 + 1) b) := Bd_up1 (Bd_up1 hv.1 (by omega)) (by omega)
  have hv1 : MV (up (up a (32 + 2 * a 3) (n - 1)) (32 + 2 * a 3 + 1) b) := MV_row hv hB (fun j hj _ => by rw [up_n (by omega), up_n (by omega)]) (by rw [up_n (by omega), up_n (by omega)]; exact hv.2.2.2.1)
  have hp1 : RPM (S 14) (up (up a (32 + 2 * a 3) (n - 1)) (32 + 2 * a 3 + 1) b) := ⟨h.1.1, h.1.2.1.exA h.1.1.1.2.2.2.2.2.2.1.2 (fun j hj => by rw [up_n (by omega), up_n (by omega)]), hv1, ML_up (ML_up h.1.2.2.2 (by omega)) (by omega)⟩
  have hp := hp1.hd (i := 3) (x := a 3 + 1) (by omega) ⟨fun e => by omega, fun e => by omega, fun _ => by omega⟩
  unfold md_said
  refine ⟨hp, h.2.1.exA hp.2.2.1.1 ?_ (fun j hj => ?_), ⟨?_, ?_, fun i hi => ?_⟩, ?_, ?_⟩
  · rw [up_n (by omega), up_n (by omega), up_n (by omega)]
  · rw [up_n (by omega), up_n (by omega), up_n (by omega)]
  · rw [up_s]
    show a 3 + 1 = S 19 1 + 1
    omega
  · show 0 ≤ S 19 1 + 1 ∧ S 19 1 + 1 ≤ 8; omega
  · have hi' : 0 ≤ i ∧ i < S 19 1 + 1 := hi
    rw [up_n (by omega), up_n (show ¬ 33 + 2 * i = 3 by omega)]
    show _ ∧ _ ∧ up (S 20) (S 19 1) (bor (n * 16) b) i = _
    by_cases e : i = S 19 1
    · have e1 : 32 + 2 * i = 32 + 2 * a 3 := by omega
      have e2 : 33 + 2 * i = 32 + 2 * a 3 + 1 := by omega
      rw [e1, e2, up_s, up_n (by omega), up_s, e, up_s, e16]
      omega
    · rw [up_n (by omega), up_n (by omega), up_n (show ¬ 33 + 2 * i = 32 + 2 * a 3 + 1 by omega), up_n (show ¬ 33 + 2 * i = 32 + 2 * a 3 by omega), up_n e]
      exact h.2.2.1.2.2 i (by omega)
  · rw [up_n (by omega), up_n (by omega), up_n (by omega)]; exact h.2.2.2.1
  · rw [up_n (by omega), up_n (by omega), up_n (by omega)]; exact h.2.2.2.2
/-- a line of a script, on both sides -/
def LNp (x : Int × Int × Int) (s v w : Int) : Prop := (x.1 = 3 ∧ s = 0) ∨ (x.1 = 4 ∧ s = 1) ∨ (x.1 = 9 ∧ s = 2 ∧ x.2.1 = v) ∨ (x.1 = 5 ∧ s = 3 ∧ x.2.1 = v ∧ x.2.2 = w ∧ 1 ≤ v ∧ v ≤ 8) ∨ (x.1 = 6 ∧ s = 4 ∧ x.2.1 = v ∧ 1 ≤ v ∧ v ≤ 8) ∨ (x.1 = 7 ∧ s = 5) ∨ (x.1 = 8 ∧ s = 6 ∧ x.2.1 = v ∧ 0 ≤ v)
theorem COS.ply {S : Nat → Int → Int} {a c : Int → Int} {lb lt : Option (List Int)} {t : Int} (hb : LWb c t lb) (hl : LWt c t lt) (h : COS S a) (h1 : a 1 = t) {x : Int × Int × Int} {z : Int} (hx : LNp x (c z) (c (z + 1)) (c (z + 2))) : COS (ccS lb lt x.1 x.2.1 x.2.2 S) (md_ply c a z).2 ∧ (md_ply c a z).1 = ccv lb lt x.1 x.2.1 x.2.2 S := by
  obtain ⟨k, o, p⟩ := x
  have h2 : 0 ≤ a 2 ∧ a 2 ≤ 30 := h.1.2.2.1.2.2.2.1
  unfold md_ply ccS ccv
  rcases hx with ⟨e1, e2⟩ | ⟨e1, e2⟩ | ⟨e1, e2, e3⟩ | ⟨e1, e2, e3, e4, e5, e6⟩ | ⟨e1, e2, e3, e5, e6⟩ | ⟨e1, e2⟩ | ⟨e1, e2, e3, e4⟩
  · have e1 : k = 3 := e1
    subst e1
    rw [e2]
    exact ⟨h, rfl⟩
  · have e1 : k = 4 := e1
    subst e1
    rw [e2]
    exact ⟨h, rfl⟩
  · have e1 : k = 9 := e1
    have e3 : o = c (z + 1) := e3
    subst e1
    rw [e2, ← e3]
    show COS (if cl_len (S 14) o then _ else S) (if md_lenOk a o then _ else (0, a)).2 ∧ (if md_lenOk a o then _ else (0, a)).1 = jb (cl_len (S 14) o)
    by_cases q : md_lenOk a o
    · rw [if_pos (h.1.len.mpr q), if_pos q, jb_t (h.1.len.mpr q)]; exact ⟨h.len q, rfl⟩
    · rw [if_neg (fun z => q (h.1.len.mp z)), if_neg q, jb_f (fun z => q (h.1.len.mp z))]; exact ⟨h, rfl⟩
  · have e1 : k = 5 := e1
    have e3 : o = c (z + 1) := e3
    have e4 : p = c (z + 2) := e4
    subst e1
    rw [e2, ← e3, ← e4, wr1_e (by omega)]
    have hs := h.1.2.1.sec hb h.1.2.2.1 h.1.2.2.2 h1 o p
    show COS (cjo S o p lb) (if md_sec a c (o - 1) p = -1 then (0, a) else (1, md_join (md_keep a) c (o - 1) p)).2 ∧ (if md_sec a c (o - 1) p = -1 then (0, a) else (1, md_join (md_keep a) c (o - 1) p)).1 = jb (¬ csp (S 14) o p lb = -1)
    unfold cjo
    rw [hs]
    by_cases q : md_sec a c (o - 1) p = -1
    · rw [if_pos q, if_pos q, jb_f (fun z => z q)]; exact ⟨h, rfl⟩
    · rw [if_neg q, if_neg q, jb_t q]
      refine ⟨?_, rfl⟩
      have hk := h.kept
      have hsk := hk.1.2.1.sec hb hk.1.2.2.1 hk.1.2.2.2 ((keep_row h2 (by omega)).trans h1) o p
      have e5 : md_sec (md_keep a) c (o - 1) p = md_sec a c (o - 1) p := hsk.symm.trans hs
      have hj := hk.1.join (c := c) (k := o - 1) (p := p) (by rw [e5]; exact q)
      rw [show o - 1 + 1 = o by omega, e5] at hj
      exact hk.row hj.1 hj.2
  · have e1 : k = 6 := e1
    have e3 : o = c (z + 1) := e3
    subst e1
    rw [e2, ← e3, wr1_e (by omega)]
    have hh := h.1.2.1.holds h.1.2.2.1 (n := o)
    show COS (if rw_holds (S 14) o then _ else S) (if md_stands a (o - 1) then _ else (0, a)).2 ∧ (if md_stands a (o - 1) then _ else (0, a)).1 = jb (rw_holds (S 14) o)
    by_cases q : md_stands a (o - 1)
    · rw [if_pos (hh.mpr q), if_pos q, jb_t (hh.mpr q)]
      refine ⟨?_, rfl⟩
      have hk := h.kept
      have hj := hk.1.leave (k := o - 1) (q := 1) ⟨q.1, by rw [keep_row h2 (by have := q.1; omega)]; exact q.2⟩ (by omega)
      rw [show o - 1 + 1 = o by omega] at hj
      exact hk.row hj.1 hj.2
    · rw [if_neg (fun z => q (hh.mp z)), if_neg q, jb_f (fun z => q (hh.mp z))]; exact ⟨h, rfl⟩
  · have e1 : k = 7 := e1
    subst e1
    rw [e2]
    have e3 : S 14 3 = md_standing a := h.1.2.1.2.2.2.2.2.1
    have hb0 := md_standing_B a
    have hz := pc_zero (x := md_standing a) (by omega)
    rw [if_neg (show ¬ (7 : Int) = 5 by decide), if_neg (show ¬ (7 : Int) = 6 by decide), if_pos (show (7 : Int) = 7 from rfl), if_neg (show ¬ (5 : Int) = 2 by decide), if_neg (show ¬ (5 : Int) = 3 by decide), if_neg (show ¬ (5 : Int) = 4 by decide), if_pos (show (5 : Int) = 5 from rfl), if_neg (show ¬ (7 : Int) = 5 by decide), if_neg (show ¬ (7 : Int) = 6 by decide), if_pos (show (7 : Int) = 7 from rfl), e3]
    by_cases q : md_standing a = 0
    · rw [if_pos (hz.mpr q), if_pos q, jb_f (fun z => z (hz.mpr q))]; exact ⟨h, rfl⟩
    · rw [if_neg (fun z => q (hz.mp z)), if_neg q, jb_t (show ¬ pc (md_standing a) = 0 from fun z => q (hz.mp z))]
      have hk := h.kept
      have hj := hk.1.turn
      exact ⟨hk.row hj.1 hj.2, rfl⟩
  · have e1 : k = 8 := e1
    have e3 : o = c (z + 1) := e3
    subst e1
    rw [e2, ← e3]
    have hd := COS.days hl o.toNat S a 0 h h1
    refine ⟨hd.1, hd.2.1.trans ?_⟩
    rw [show ((o.toNat : Nat) : Int) = o by omega]
    rfl
theorem COS.pld {c : Int → Int} {lb lt : Option (List Int)} {t q : Int} (hb : LWb c t lb) (hl : LWt c t lt) : ∀ (L : List (Int × Int × Int)) (k : Int) (S : Nat → Int → Int) (a : Int → Int), COS S a → a 1 = t → (∀ j : Nat, j < L.length → LNp (L.getD j (0, 0, 0)) (c (lwX q (k + j))) (c (lwX q (k + j) + 1)) (c (lwX q (k + j) + 2))) → COS (cpl lb lt L k S).2 (md_pld c q L.length k a).2 ∧ (md_pld c q L.length k a).1 = (cpl lb lt L k S).1 := by
  intro L
  induction L with
  | nil => intro k S a h _ _; exact ⟨h, rfl⟩
  | cons x L ih =>
    intro k S a h h1 hL
    have hx := hL 0 (Nat.succ_pos _)
    rw [show k + ((0 : Nat) : Int) = k by omega] at hx
    have hp := COS.ply hb hl h h1 (x := x) (z := lwX q k) hx
    have hP := md_ply_P (c := c) (a := a) (x := lwX q k) h.1.2.2.1 h.1.2.2.2
    show COS (if ccv lb lt x.1 x.2.1 x.2.2 S = 0 then (k, ccS lb lt x.1 x.2.1 x.2.2 S) else cpl lb lt L (k + 1) (ccS lb lt x.1 x.2.1 x.2.2 S)).2 (if (md_ply c a (lwX q k)).1 = 0 then (k, (md_ply c a (lwX q k)).2) else md_pld c q L.length (k + 1) (md_ply c a (lwX q k)).2).2 ∧ (if (md_ply c a (lwX q k)).1 = 0 then (k, (md_ply c a (lwX q k)).2) else md_pld c q L.length (k + 1) (md_ply c a (lwX q k)).2).1 = (if ccv lb lt x.1 x.2.1 x.2.2 S = 0 then (k, ccS lb lt x.1 x.2.1 x.2.2 S) else cpl lb lt L (k + 1) (ccS lb lt x.1 x.2.1 x.2.2 S)).1
    rw [← hp.2]
    by_cases z : (md_ply c a (lwX q k)).1 = 0
    · rw [if_pos z, if_pos z]; exact ⟨hp.1, rfl⟩
    · rw [if_neg z, if_neg z]
      refine ih (k + 1) _ _ hp.1 (hP.2.2.2.trans h1) (fun j hj => ?_)
      have := hL (j + 1) (Nat.succ_lt_succ hj)
      rw [show k + ((j + 1 : Nat) : Int) = k + 1 + (j : Int) by omega] at this
      exact this
