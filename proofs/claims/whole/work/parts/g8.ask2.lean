/-! ===== crossed, nested, can, whose; what a script may do ===== -/
theorem cl_two_x (u : Int → Int → Int) : cl_two (fun n q acc => acc + u n q) = 0 + u 1 2 + u 1 3 + u 1 4 + u 1 5 + u 1 6 + u 1 7 + u 1 8 + u 2 3 + u 2 4 + u 2 5 + u 2 6 + u 2 7 + u 2 8 + u 3 4 + u 3 5 + u 3 6 + u 3 7 + u 3 8 + u 4 5 + u 4 6 + u 4 7 + u 4 8 + u 5 6 + u 5 7 + u 5 8 + u 6 7 + u 6 8 + u 7 8 := rfl
theorem md_lt_x (u : Int → Int → Int) : lpF (fun k acc => lpF (fun l acc => acc + u k l) k.toNat 0 acc) 8 0 0 = 0 + u 1 0 + u 2 0 + u 2 1 + u 3 0 + u 3 1 + u 3 2 + u 4 0 + u 4 1 + u 4 2 + u 4 3 + u 5 0 + u 5 1 + u 5 2 + u 5 3 + u 5 4 + u 6 0 + u 6 1 + u 6 2 + u 6 3 + u 6 4 + u 6 5 + u 7 0 + u 7 1 + u 7 2 + u 7 3 + u 7 4 + u 7 5 + u 7 6 := rfl
set_option maxRecDepth 100000 in
theorem md_all_x (u : Int → Int → Int) : lpF (fun k acc => lpF (fun l acc => acc + u k l) 8 0 acc) 8 0 0 = 0 + u 0 0 + u 0 1 + u 0 2 + u 0 3 + u 0 4 + u 0 5 + u 0 6 + u 0 7 + u 1 0 + u 1 1 + u 1 2 + u 1 3 + u 1 4 + u 1 5 + u 1 6 + u 1 7 + u 2 0 + u 2 1 + u 2 2 + u 2 3 + u 2 4 + u 2 5 + u 2 6 + u 2 7 + u 3 0 + u 3 1 + u 3 2 + u 3 3 + u 3 4 + u 3 5 + u 3 6 + u 3 7 + u 4 0 + u 4 1 + u 4 2 + u 4 3 + u 4 4 + u 4 5 + u 4 6 + u 4 7 + u 5 0 + u 5 1 + u 5 2 + u 5 3 + u 5 4 + u 5 5 + u 5 6 + u 5 7 + u 6 0 + u 6 1 + u 6 2 + u 6 3 + u 6 4 + u 6 5 + u 6 6 + u 6 7 + u 7 0 + u 7 1 + u 7 2 + u 7 3 + u 7 4 + u 7 5 + u 7 6 + u 7 7 := rfl
theorem RPM.ins {f a : Int → Int} (h : RPM f a) {k l : Int} (hk : 0 ≤ k ∧ k ≤ 7) (hl : 0 ≤ l ∧ l ≤ 7) (x : Int) (hx : 1 ≤ x) : rw_inside f (l + 1) (k + 1) = x ↔ (md_stands a k ∧ md_stands a l ∧ md_in a k l = x) := by
  have hF := h.fk hk
  have hG := h.fk hl
  unfold rw_inside
  rw [hF.1, hF.2.1, hG.1, hG.2.1]
  by_cases q : md_stands a k ∧ md_stands a l
  · rw [if_pos ⟨(h.hk l).mpr q.2, (h.hk k).mpr q.1⟩]
    have e : jb (a (8 + l) < a (8 + k) ∧ a (8 + k) < a (16 + l)) + jb (a (8 + l) < a (16 + k) ∧ a (16 + k) < a (16 + l)) = md_in a k l := by
      unfold md_in jb
      congr 1
      · split <;> split <;> omega
      · split <;> split <;> omega
    rw [e]
    exact ⟨fun z => ⟨q.1, q.2, z⟩, fun z => z.2.2⟩
  · rw [if_neg (fun z => q ⟨(h.hk k).mp z.2, (h.hk l).mp z.1⟩)]
    exact ⟨fun z => by omega, fun z => absurd ⟨z.1, z.2.1⟩ q⟩
theorem jb_iff {P Q : Prop} [Decidable P] [Decidable Q] (h : P ↔ Q) : jb P = jb Q := by
  unfold jb
  by_cases q : Q
  · rw [if_pos q, if_pos (h.mpr q)]
  · rw [if_neg q, if_neg (fun z => q (h.mp z))]
theorem eq_crossed {f a : Int → Int} (h : RPM f a) : cl_two (cl_crg f) = md_crossed a := by
  have e1 : cl_two (cl_crg f) = cl_two (fun n q acc => acc + (fun n q => jb (rw_inside f n q = 1)) n q) := rfl
  have e2 : md_crossed a = lpF (fun k acc => lpF (fun l acc => acc + (fun k l => jb (md_crc a k l)) k l) k.toNat 0 acc) 8 0 0 := rfl
  have key : ∀ k l : Int, 0 ≤ k ∧ k ≤ 7 → 0 ≤ l ∧ l ≤ 7 → jb (md_crc a k l) = jb (rw_inside f (l + 1) (k + 1) = 1) := fun k l hk hl => jb_iff (h.ins hk hl 1 (by omega)).symm
  rw [e1, e2, cl_two_x, md_lt_x]
  have g1 : (fun k l => jb (md_crc a k l)) = fun k l => jb (md_crc a k l) := rfl
  have q10 := key 1 0 (by omega) (by omega)
  have q20 := key 2 0 (by omega) (by omega)
  have q21 := key 2 1 (by omega) (by omega)
  have q30 := key 3 0 (by omega) (by omega)
  have q31 := key 3 1 (by omega) (by omega)
  have q32 := key 3 2 (by omega) (by omega)
  have q40 := key 4 0 (by omega) (by omega)
  have q41 := key 4 1 (by omega) (by omega)
  have q42 := key 4 2 (by omega) (by omega)
  have q43 := key 4 3 (by omega) (by omega)
  have q50 := key 5 0 (by omega) (by omega)
  have q51 := key 5 1 (by omega) (by omega)
  have q52 := key 5 2 (by omega) (by omega)
  have q53 := key 5 3 (by omega) (by omega)
  have q54 := key 5 4 (by omega) (by omega)
  have q60 := key 6 0 (by omega) (by omega)
  have q61 := key 6 1 (by omega) (by omega)
  have q62 := key 6 2 (by omega) (by omega)
  have q63 := key 6 3 (by omega) (by omega)
  have q64 := key 6 4 (by omega) (by omega)
  have q65 := key 6 5 (by omega) (by omega)
  have q70 := key 7 0 (by omega) (by omega)
  have q71 := key 7 1 (by omega) (by omega)
  have q72 := key 7 2 (by omega) (by omega)
  have q73 := key 7 3 (by omega) (by omega)
  have q74 := key 7 4 (by omega) (by omega)
  have q75 := key 7 5 (by omega) (by omega)
  have q76 := key 7 6 (by omega) (by omega)
  simp only [q10, q20, q21, q30, q31, q32, q40, q41, q42, q43, q50, q51, q52, q53, q54, q60, q61, q62, q63, q64, q65, q70, q71, q72, q73, q74, q75, q76]
  simp only [show (0 : Int) + 1 = 1 from rfl, show (1 : Int) + 1 = 2 from rfl, show (2 : Int) + 1 = 3 from rfl, show (3 : Int) + 1 = 4 from rfl, show (4 : Int) + 1 = 5 from rfl, show (5 : Int) + 1 = 6 from rfl, show (6 : Int) + 1 = 7 from rfl, show (7 : Int) + 1 = 8 from rfl]
  omega
theorem eq_nested {f a : Int → Int} (h : RPM f a) : cl_two (cl_neg f) = md_nested a := by
  have e1 : cl_two (cl_neg f) = cl_two (fun n q acc => acc + (fun n q => jb (rw_inside f n q = 2 ∨ rw_inside f q n = 2)) n q) := rfl
  have e2 : md_nested a = lpF (fun k acc => lpF (fun l acc => acc + (fun k l => jb (md_nec a k l)) k l) 8 0 acc) 8 0 0 := rfl
  have ex : ∀ n q : Int, ¬ (rw_inside f n q = 2 ∧ rw_inside f q n = 2) := fun n q => by
    rintro ⟨z1, z2⟩
    unfold rw_inside at z1 z2
    split at z1
    · split at z2
      · unfold jb at z1 z2
        split at z1 <;> split at z1 <;> split at z2 <;> split at z2 <;> omega
      · omega
    · omega
  have key : ∀ k l : Int, 0 ≤ k ∧ k ≤ 7 → 0 ≤ l ∧ l ≤ 7 → ¬ k = l → jb (md_nec a k l) = jb (rw_inside f (l + 1) (k + 1) = 2) := fun k l hk hl hn => jb_iff ⟨fun z => (h.ins hk hl 2 (by omega)).mpr z.2, fun z => ⟨hn, (h.ins hk hl 2 (by omega)).mp z⟩⟩
  have kee : ∀ k : Int, jb (md_nec a k k) = 0 := fun k => jb_f (fun z => z.1 rfl)
  have two : ∀ n q : Int, jb (rw_inside f n q = 2 ∨ rw_inside f q n = 2) = jb (rw_inside f n q = 2) + jb (rw_inside f q n = 2) := fun n q => by
    have := ex n q
    unfold jb
    by_cases z1 : rw_inside f n q = 2
    · have z2 : ¬ rw_inside f q n = 2 := fun z => this ⟨z1, z⟩
      rw [if_pos (Or.inl z1), if_pos z1, if_neg z2]; rfl
    · by_cases z2 : rw_inside f q n = 2
      · rw [if_pos (Or.inr z2), if_neg z1, if_pos z2]; rfl
      · rw [if_neg (fun z => z.elim z1 z2), if_neg z1, if_neg z2]; rfl
  rw [e1, e2, cl_two_x, md_all_x]
  have q01 := key 0 1 (by omega) (by omega) (by omega)
  have q02 := key 0 2 (by omega) (by omega) (by omega)
  have q03 := key 0 3 (by omega) (by omega) (by omega)
  have q04 := key 0 4 (by omega) (by omega) (by omega)
  have q05 := key 0 5 (by omega) (by omega) (by omega)
  have q06 := key 0 6 (by omega) (by omega) (by omega)
  have q07 := key 0 7 (by omega) (by omega) (by omega)
  have q10 := key 1 0 (by omega) (by omega) (by omega)
  have q12 := key 1 2 (by omega) (by omega) (by omega)
  have q13 := key 1 3 (by omega) (by omega) (by omega)
  have q14 := key 1 4 (by omega) (by omega) (by omega)
  have q15 := key 1 5 (by omega) (by omega) (by omega)
  have q16 := key 1 6 (by omega) (by omega) (by omega)
  have q17 := key 1 7 (by omega) (by omega) (by omega)
  have q20 := key 2 0 (by omega) (by omega) (by omega)
  have q21 := key 2 1 (by omega) (by omega) (by omega)
  have q23 := key 2 3 (by omega) (by omega) (by omega)
  have q24 := key 2 4 (by omega) (by omega) (by omega)
  have q25 := key 2 5 (by omega) (by omega) (by omega)
  have q26 := key 2 6 (by omega) (by omega) (by omega)
  have q27 := key 2 7 (by omega) (by omega) (by omega)
  have q30 := key 3 0 (by omega) (by omega) (by omega)
  have q31 := key 3 1 (by omega) (by omega) (by omega)
  have q32 := key 3 2 (by omega) (by omega) (by omega)
  have q34 := key 3 4 (by omega) (by omega) (by omega)
  have q35 := key 3 5 (by omega) (by omega) (by omega)
  have q36 := key 3 6 (by omega) (by omega) (by omega)
  have q37 := key 3 7 (by omega) (by omega) (by omega)
  have q40 := key 4 0 (by omega) (by omega) (by omega)
  have q41 := key 4 1 (by omega) (by omega) (by omega)
  have q42 := key 4 2 (by omega) (by omega) (by omega)
  have q43 := key 4 3 (by omega) (by omega) (by omega)
  have q45 := key 4 5 (by omega) (by omega) (by omega)
  have q46 := key 4 6 (by omega) (by omega) (by omega)
  have q47 := key 4 7 (by omega) (by omega) (by omega)
  have q50 := key 5 0 (by omega) (by omega) (by omega)
  have q51 := key 5 1 (by omega) (by omega) (by omega)
  have q52 := key 5 2 (by omega) (by omega) (by omega)
  have q53 := key 5 3 (by omega) (by omega) (by omega)
  have q54 := key 5 4 (by omega) (by omega) (by omega)
  have q56 := key 5 6 (by omega) (by omega) (by omega)
  have q57 := key 5 7 (by omega) (by omega) (by omega)
  have q60 := key 6 0 (by omega) (by omega) (by omega)
  have q61 := key 6 1 (by omega) (by omega) (by omega)
  have q62 := key 6 2 (by omega) (by omega) (by omega)
  have q63 := key 6 3 (by omega) (by omega) (by omega)
  have q64 := key 6 4 (by omega) (by omega) (by omega)
  have q65 := key 6 5 (by omega) (by omega) (by omega)
  have q67 := key 6 7 (by omega) (by omega) (by omega)
  have q70 := key 7 0 (by omega) (by omega) (by omega)
  have q71 := key 7 1 (by omega) (by omega) (by omega)
  have q72 := key 7 2 (by omega) (by omega) (by omega)
  have q73 := key 7 3 (by omega) (by omega) (by omega)
  have q74 := key 7 4 (by omega) (by omega) (by omega)
  have q75 := key 7 5 (by omega) (by omega) (by omega)
  have q76 := key 7 6 (by omega) (by omega) (by omega)
  simp only [two, kee, q01, q02, q03, q04, q05, q06, q07, q10, q12, q13, q14, q15, q16, q17, q20, q21, q23, q24, q25, q26, q27, q30, q31, q32, q34, q35, q36, q37, q40, q41, q42, q43, q45, q46, q47, q50, q51, q52, q53, q54, q56, q57, q60, q61, q62, q63, q64, q65, q67, q70, q71, q72, q73, q74, q75, q76]
  simp only [show (0 : Int) + 1 = 1 from rfl, show (1 : Int) + 1 = 2 from rfl, show (2 : Int) + 1 = 3 from rfl, show (3 : Int) + 1 = 4 from rfl, show (4 : Int) + 1 = 5 from rfl, show (5 : Int) + 1 = 6 from rfl, show (6 : Int) + 1 = 7 from rfl, show (7 : Int) + 1 = 8 from rfl]
  omega
def LBb (c : Int → Int) (t : Int) (lb : Option (List Int)) : Prop := ∀ (f a : Int → Int) (n : Int), RQ f a → MV a → ML a → (1 ≤ n ∧ n ≤ 8) → cbt f n lb = md_btw a c t (n - 1)
def LBt (c : Int → Int) (t : Int) (lt : Option (List Int)) : Prop := ∀ (f a : Int → Int) (n : Int), RQ (up f 5 0) (up a 6 0) → MV a → ML a → (1 ≤ n ∧ n ≤ 8) → cti f n lt = md_tir a c t (n - 1)
theorem LBb.w {c : Int → Int} {t : Int} {lb : Option (List Int)} (h : LBb c t lb) : LWb c t lb := fun f a n h1 h2 h3 h4 h5 => by rw [h4]; exact h f a n h1 h2 h3 h5
theorem LBt.w {c : Int → Int} {t : Int} {lt : Option (List Int)} (h : LBt c t lt) : LWt c t lt := fun f a n h1 h2 h3 h4 h5 => by rw [h4]; exact h f a n h1 h2 h3 h5
theorem eq_can {f a c : Int → Int} {lb : Option (List Int)} {t : Int} (hb : LWb c t lb) (h : RPM f a) (h1 : a 1 = t) {n : Int} (hn : -2147483648 ≤ n ∧ n < 2147483648) : ccn f n lb = (if 0 ≤ wr1 n ∧ wr1 n ≤ 7 then lpF (md_cang a c (wr1 n)) 16 0 0 else -1) := by
  have hv := h.2.2.1
  have htk := md_taken_B hv
  have h7 := h.2.1.1
  have b7 : 1 ≤ a 7 ∧ a 7 ≤ 16 := hv.2.2.2.2.2.2.2.2.1
  have ht : f 4 = md_taken a := h.2.1.2.2.2.2.2.2.1
  unfold ccn
  by_cases w : 1 ≤ n ∧ n ≤ 8
  · have e := wr1_e (n := n) (by omega)
    have hB := md_btw_B (a := a) (c := c) (q := a 1) (k := n - 1) (by omega)
    have eb := hb f a n h.2.1 hv h.2.2.2 h1 w
    have hh := h.2.1.holds hv (n := n)
    rw [if_neg (fun z => z w), e, if_pos (show 0 ≤ n - 1 ∧ n - 1 ≤ 7 by omega), eb, ← h7, ht]
    have hlp : ∀ i : Nat, bt (lpF (md_cang a c (n - 1)) 16 0 0) i ↔ (i < 16 ∧ ¬ md_sec a c (n - 1) (i : Int) = -1) := fun i => by
      have := bt_lpF (f := fun p => if md_sec a c (n - 1) p = -1 then 0 else bsh p) (i := i) 16 0 0
      rw [show lpF (md_cang a c (n - 1)) 16 0 0 = lpF (fun k acc => bor acc ((fun p => if md_sec a c (n - 1) p = -1 then 0 else bsh p) k)) 16 0 0 from rfl, this]
      constructor
      · rintro (z | ⟨j, z1, z2, z3⟩)
        · exact absurd z (bt_0 i)
        · by_cases y : md_sec a c (n - 1) j = -1
          · rw [if_pos y] at z3; exact absurd z3 (bt_0 i)
          · rw [if_neg y, bt_bsh z1] at z3
            rw [← z3]
            exact ⟨by omega, y⟩
      · rintro ⟨z1, z2⟩
        refine Or.inr ⟨(i : Int), by omega, by omega, ?_⟩
        rw [if_neg z2, bt_bsh (by omega)]
    have hnn : 0 ≤ lpF (md_cang a c (n - 1)) 16 0 0 := by
      have : ∀ (m : Nat) (k acc : Int), 0 ≤ acc → 0 ≤ lpF (md_cang a c (n - 1)) m k acc := by
        intro m
        induction m with
        | zero => intro k acc z; exact z
        | succ m ih => intro k acc _; exact ih (k + 1) _ (bor_nn _ _)
      exact this 16 0 0 (by omega)
    by_cases q : rw_holds f n
    · have hs := hh.mp q
      rw [if_pos q]
      refine (int_zero hnn (fun i hi => ?_)).symm
      have := sec_facts hv ((hlp i).mp hi).2
      exact hs.2 this.2.1
    · have hs : a (8 + (n - 1)) = -1 := Classical.byContradiction (fun z => q (hh.mpr ⟨by omega, z⟩))
      rw [if_neg q]
      refine bt_ext (Int.natCast_nonneg _) hnn (fun i => ?_)
      have hvac : ∀ j : Nat, bt (bdf (bsh (a 7) - 1) (md_taken a)) j ↔ ((j : Int) < a 7 ∧ ¬ bt (md_taken a) j) := fun j => by rw [bt_bdf, bt_allI (by omega)]
      have hdv : bt (bdf (bsh (a 7) - 1) (md_taken a) / 2 ^ (md_btw a c (a 1) (n - 1) + 1).toNat) i ↔ bt (bdf (bsh (a 7) - 1) (md_taken a)) (i + (md_btw a c (a 1) (n - 1) + 1).toNat) := by
        have := bt_div (n := (bdf (bsh (a 7) - 1) (md_taken a)).toNat) (k := (md_btw a c (a 1) (n - 1) + 1).toNat) (i := i)
        rw [show (((bdf (bsh (a 7) - 1) (md_taken a)).toNat : Nat) : Int) = bdf (bsh (a 7) - 1) (md_taken a) from Int.toNat_of_nonneg (bdf_nn _ _)] at this
        exact this
      rw [bt_ban, hdv, hvac, hvac, hlp]
      have hsx : md_sec a c (n - 1) (i : Int) = if (0 ≤ n - 1 ∧ n - 1 ≤ 7) ∧ a (8 + (n - 1)) = -1 ∧ (0 ≤ (i : Int) ∧ (i : Int) ≤ 15) then md_sc2 a ((i : Int) + md_btw a c (a 1) (n - 1) + 1) (i : Int) else -1 := rfl
      generalize md_btw a c (a 1) (n - 1) = b at hB hsx ⊢
      have hx1 := bt_has (s := md_taken a) (k := (i : Int)) htk.1
      have hx2 := bt_has (s := md_taken a) (k := (i : Int) + b + 1) htk.1
      rw [Int.toNat_natCast] at hx1
      rw [show ((i : Int) + b + 1).toNat = i + (b + 1).toNat by omega] at hx2
      constructor
      · rintro ⟨⟨z1, z2⟩, z3, z4⟩
        refine ⟨by omega, ?_⟩
        rw [hsx, if_pos ⟨by omega, hs, by omega⟩]
        unfold md_sc2
        rw [if_pos]
        · omega
        · refine ⟨by omega, fun y => z2 ?_, fun y => z4 ?_⟩
          · rw [Int.toNat_natCast] at y; exact hx1.mp y
          · rw [show ((i : Int) + b + 1).toNat = i + (b + 1).toNat by omega] at y; exact hx2.mp y
      · rintro ⟨z1, z2⟩
        rw [hsx] at z2
        by_cases y : (0 ≤ n - 1 ∧ n - 1 ≤ 7) ∧ a (8 + (n - 1)) = -1 ∧ (0 ≤ (i : Int) ∧ (i : Int) ≤ 15)
        · rw [if_pos y] at z2
          unfold md_sc2 at z2
          by_cases y2 : (i : Int) + b + 1 < a 7 ∧ ¬ md_taken a / 2 ^ (i : Int).toNat % 2 = 1 ∧ ¬ md_taken a / 2 ^ ((i : Int) + b + 1).toNat % 2 = 1
          · obtain ⟨u1, u2, u3⟩ := y2
            rw [Int.toNat_natCast] at u2
            rw [show ((i : Int) + b + 1).toNat = i + (b + 1).toNat by omega] at u3
            exact ⟨⟨by omega, fun v => u2 (hx1.mpr v)⟩, by omega, fun v => u3 (hx2.mpr v)⟩
          · rw [if_neg y2] at z2; exact absurd rfl z2
        · rw [if_neg y] at z2; exact absurd rfl z2
  · rw [if_pos w, if_neg (fun z => w (by have := wr1_v z; omega))]
