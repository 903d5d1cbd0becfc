/-! ===== who stands where in a row, alike on both sides ===== -/
theorem rwF_tail {st : Nat → Nat} {t : Int} {x : Int} {row : List Int} {p J : Nat} : rwF (fun j => (x :: row).getD (j - (p : Int)).toNat (-1)) st t J ((p : Int) + 1) = rwF (fun j => row.getD (j - ((p + 1 : Nat) : Int)).toNat (-1)) st t J ((p + 1 : Nat) : Int) := by
  rw [show ((p + 1 : Nat) : Int) = (p : Int) + 1 by omega]
  refine rwF_congr J _ (fun j hj => ?_)
  show (x :: row).getD (j - (p : Int)).toNat (-1) = row.getD (j - ((p : Int) + 1)).toNat (-1)
  rw [show (j - (p : Int)).toNat = (j - ((p : Int) + 1)).toNat + 1 by omega]
  rfl
theorem eq_whl {b : Int → Int} (hb : ∀ k, k < 8 → 1 ≤ fa b k) {s pl t : Nat} (ht : t < pl) : ∀ (J n : Nat) (gaps : Int) (used full s' fr : Nat) (r : Int) (f : Int → Int), RW (fa b) s pl n gaps used full s' fr → pl - n + J = t + 1 → 0 ≤ r → r < ((cn (fa b) s' fr : Nat) : Int) → (∀ j : Nat, pl - n ≤ j → j < 16 → (f (j : Int) = 0 ↔ ¬ full.testBit j = true)) → ∃ row, (rwl s pl (fa b) n gaps used full)[r.toNat]? = some row ∧ whl b J (pl - n) s' fr r f (t : Int) = (if f (t : Int) = 0 then rwF (fun j => row.getD (j - ((pl - n : Nat) : Int)).toNat (-1)) (fa b) (t : Int) J ((pl - n : Nat) : Int) else f (t : Int)) := by
  intro J
  induction J with
  | zero =>
    intro n gaps used full s' fr r f h hJ h0 hr hf
    have hl := (rwl_len2 hb n gaps used full s' fr h).1
    have hlt : r.toNat < (rwl s pl (fa b) n gaps used full).length := by omega
    refine ⟨_, List.getElem?_eq_getElem hlt, ?_⟩
    show f (t : Int) = if f (t : Int) = 0 then 0 else f (t : Int)
    by_cases e : f (t : Int) = 0
    · rw [if_pos e]; exact e
    · rw [if_neg e]
  | succ J ih =>
    intro n gaps used full s' fr r f h hJ h0 hr hf
    have hn := h.hn
    have hp := h.hp
    obtain ⟨m, rfl⟩ : ∃ m, n = m + 1 := ⟨n - 1, by omega⟩
    have hp1 : pl - (m + 1) + 1 = pl - m := by omega
    have hfp := hf (pl - (m + 1)) (Nat.le_refl _) (by omega)
    rw [rwl, whl]
    by_cases hfull : full.testBit (pl - (m + 1)) = true
    · rw [if_pos hfull, if_neg (fun q => (hfp.mp q) hfull), hp1]
      obtain ⟨row, h1, h2⟩ := ih m gaps used full s' fr r f (h.full hfull) (by omega) h0 hr (fun j a c => hf j (by omega) c)
      refine ⟨-1 :: row, by rw [List.getElem?_map, h1]; rfl, ?_⟩
      rw [h2, rwF]
      have e0 : ((-1 : Int) :: row).getD (((pl - (m + 1) : Nat) : Int) - ((pl - (m + 1) : Nat) : Int)).toNat (-1) = -1 := by rw [Int.sub_self]; rfl
      rw [if_neg (show ¬ (0 < ((-1 : Int) :: row).getD (((pl - (m + 1) : Nat) : Int) - ((pl - (m + 1) : Nat) : Int)).toNat (-1) ∧ _) from by rw [e0]; omega), rwF_tail, hp1]
    · have hfp0 := hfp.mpr hfull
      rw [if_neg hfull, if_pos hfp0]
      have hch := (rwl_len2 hb (m + 1) gaps used full s' fr h).2 m rfl hfull
      have hlen : (((List.range 9).flatMap (chR (fa b) s pl m gaps used full)).length : Int) = ((cn (fa b) s' fr : Nat) : Int) := by
        have := (rwl_len2 hb (m + 1) gaps used full s' fr h).1
        rw [rwl, if_neg hfull] at this
        rw [← this]
        rfl
      obtain ⟨c, r', k1, k2, k3, k4⟩ := whc_sel (F := chR (fa b) s pl m gaps used full) hch 8 0 r rfl h0 (by rw [← List.range_eq_range']; show r < (((List.range 9).flatMap (chR (fa b) s pl m gaps used full)).length : Int); omega)
      rw [← List.range_eq_range'] at k4
      have k4 : ((List.range 9).flatMap (chR (fa b) s pl m gaps used full))[r.toNat]? = (chR (fa b) s pl m gaps used full c)[r']? := k4
      have k1 : whc (fa b) s' fr (pl - (m + 1)) 8 0 ((cn (fa b) s' (nd fr (2 ^ (pl - (m + 1)))) : Nat) : Int) r = ((c : Int), (r' : Int)) := k1
      rw [k1]
      have hcl := hch c k2
      show ∃ row, ((List.range 9).flatMap (chR (fa b) s pl m gaps used full))[r.toNat]? = some row ∧ (if (c : Int) = 0 then whl b J (pl - (m + 1) + 1) s' (nd fr (2 ^ (pl - (m + 1)))) (r' : Int) f else whl b J (pl - (m + 1) + 1) (nd s' (2 ^ ((c : Int) - 1).toNat)) (nd fr (pm (fa b ((c : Int) - 1).toNat) (pl - (m + 1)))) (r' : Int) (lyg b (c : Int) ((pl - (m + 1) : Nat) : Int) f)) (t : Int) = _
      rw [k4, hp1]
      cases c with
      | zero =>
        rw [if_pos (show ((0 : Nat) : Int) = 0 from rfl)]
        have hcr : chR (fa b) s pl m gaps used full 0 = (rwl s pl (fa b) m (gaps - 1) used full).map ((0 : Int) :: ·) ∧ 0 < gaps := by
          have epk : pkB s (fa b) pl used full (pl - (m + 1)) 0 gaps = decide (0 < gaps) := if_pos rfl
          unfold chR at k3 ⊢
          rw [epk] at k3 ⊢
          by_cases hg : 0 < gaps
          · rw [if_pos (decide_eq_true hg)]; exact ⟨rfl, hg⟩
          · rw [if_neg (by rw [decide_eq_true_iff]; exact hg)] at k3; exact absurd k3 (Nat.not_lt_zero _)
        have hlt : (r' : Int) < ((cn (fa b) s' (nd fr (2 ^ (pl - (m + 1)))) : Nat) : Int) := by
          have : (chR (fa b) s pl m gaps used full 0).length = cn (fa b) s' (nd fr (2 ^ (pl - (m + 1)))) := hcl
          omega
        obtain ⟨row, h1, h2⟩ := ih m (gaps - 1) used full s' _ (r' : Int) f (h.gap hfull hcr.2) (by omega) (by omega) hlt (fun j a c => hf j (by omega) c)
        rw [Int.toNat_natCast] at h1
        refine ⟨0 :: row, by rw [hcr.1, List.getElem?_map, h1]; rfl, ?_⟩
        rw [h2, rwF]
        have e0 : ((0 : Int) :: row).getD (((pl - (m + 1) : Nat) : Int) - ((pl - (m + 1) : Nat) : Int)).toNat (-1) = 0 := by rw [Int.sub_self]; rfl
        rw [if_neg (show ¬ (0 < ((0 : Int) :: row).getD (((pl - (m + 1) : Nat) : Int) - ((pl - (m + 1) : Nat) : Int)).toNat (-1) ∧ _) from by rw [e0]; omega), rwF_tail, hp1]
      | succ k =>
        have hk8 : k < 8 := by omega
        have ek : (((k + 1 : Nat) : Int) - 1).toNat = k := by omega
        rw [if_neg (by omega), ek]
        have hcr : chR (fa b) s pl m gaps used full (k + 1) = (rwl s pl (fa b) m gaps (used ||| 2 ^ k) (full ||| (2 ^ (pl - (m + 1)) ||| 2 ^ (pl - (m + 1) + fa b k)))).map (((k + 1 : Nat) : Int) :: ·) ∧ (s'.testBit k = true ∧ sbs (pm (fa b k) (pl - (m + 1))) fr = true) := by
          unfold chR at k3 ⊢
          by_cases q : pkB s (fa b) pl used full (pl - (m + 1)) (k + 1) gaps = true
          · rw [if_pos q]; exact ⟨rfl, (h.pk hfull).mp q⟩
          · rw [if_neg q] at k3; exact absurd k3 (Nat.not_lt_zero _)
        obtain ⟨hcr, hsk, hsb⟩ := hcr
        have hlt : (r' : Int) < ((cn (fa b) (nd s' (2 ^ k)) (nd fr (pm (fa b k) (pl - (m + 1)))) : Nat) : Int) := by
          have e1 : (chR (fa b) s pl m gaps used full (k + 1)).length = (if s'.testBit k = true then cbn (fa b) s' fr k (pl - (m + 1)) else 0) := hcl
          rw [if_pos hsk] at e1
          unfold cbn at e1
          rw [if_pos hsb] at e1
          omega
        have hbk := hb k hk8
        have hbI : b ((k + 1 : Nat) : Int) = ((fa b k : Nat) : Int) := by
          have : fa b k = (b ((k : Int) + 1)).toNat := rfl
          rw [show ((k + 1 : Nat) : Int) = (k : Int) + 1 by omega]
          omega
        have hbits := sbs_pm.mp hsb
        have hin := (h.hf _).mp hbits.2
        have hly : lyg b ((k + 1 : Nat) : Int) ((pl - (m + 1) : Nat) : Int) f = up (up f ((pl - (m + 1) : Nat) : Int) ((k + 1 : Nat) : Int)) ((pl - (m + 1) + fa b k : Nat) : Int) ((k + 1 : Nat) : Int) := by
          unfold lyg
          rw [hbI, if_pos (by omega), show ((pl - (m + 1) : Nat) : Int) + ((fa b k : Nat) : Int) = ((pl - (m + 1) + fa b k : Nat) : Int) by omega]
        rw [hly]
        have hfd := hf (pl - (m + 1) + fa b k) (by omega) (by omega)
        have hf' : ∀ j : Nat, pl - m ≤ j → j < 16 → ((up (up f ((pl - (m + 1) : Nat) : Int) ((k + 1 : Nat) : Int)) ((pl - (m + 1) + fa b k : Nat) : Int) ((k + 1 : Nat) : Int)) (j : Int) = 0 ↔ ¬ (full ||| (2 ^ (pl - (m + 1)) ||| 2 ^ (pl - (m + 1) + fa b k))).testBit j = true) := fun j a c => by
          have e2 : (2 ^ (pl - (m + 1)) ||| 2 ^ (pl - (m + 1) + fa b k)) = pm (fa b k) (pl - (m + 1)) := rfl
          rw [Nat.testBit_or, Bool.or_eq_true, e2, pm_bit]
          by_cases ej : j = pl - (m + 1) + fa b k
          · rw [ej, up_s]
            constructor
            · intro q; omega
            · intro q; exact absurd (Or.inr (Or.inr rfl)) q
          · rw [up_n (by omega), up_n (by omega), hf j (by omega) c]
            constructor
            · intro q z
              rcases z with z | z | z
              · exact q z
              · omega
              · omega
            · intro q z; exact q (Or.inl z)
        obtain ⟨row, h1, h2⟩ := ih m gaps _ _ _ _ (r' : Int) _ (h.pick hk8 hsk hbk hsb) (by omega) (by omega) hlt hf'
        rw [Int.toNat_natCast] at h1
        refine ⟨((k + 1 : Nat) : Int) :: row, by rw [hcr, List.getElem?_map, h1]; rfl, ?_⟩
        rw [h2, rwF]
        have e0 : (((k + 1 : Nat) : Int) :: row).getD (((pl - (m + 1) : Nat) : Int) - ((pl - (m + 1) : Nat) : Int)).toNat (-1) = ((k + 1 : Nat) : Int) := by rw [Int.sub_self]; rfl
        rw [rwF_tail, hp1]
        simp only [e0, ek]
        by_cases et : t = pl - (m + 1)
        · rw [et, hfp0, if_pos rfl, up_n (by omega), up_s, if_neg (by omega), if_pos ⟨by omega, Or.inl rfl⟩]
        · by_cases et2 : t = pl - (m + 1) + fa b k
          · rw [et2, up_s, if_neg (by omega), if_pos (hfd.mpr hin.2), if_pos ⟨by omega, Or.inr (by omega)⟩]
          · rw [up_n (by omega), up_n (by omega)]
            rw [if_neg (show ¬ (0 < ((k + 1 : Nat) : Int) ∧ (((pl - (m + 1) : Nat) : Int) = (t : Int) ∨ ((pl - (m + 1) : Nat) : Int) + ((fa b k : Nat) : Int) = (t : Int))) by omega)]

theorem flat_congr {α β : Type} {f g : α → List β} : ∀ {l : List α}, (∀ x, x ∈ l → f x = g x) → l.flatMap f = l.flatMap g := by
  intro l
  induction l with
  | nil => intro _; rfl
  | cons x l ih => intro h; rw [List.flatMap_cons, List.flatMap_cons, h x List.mem_cons_self, ih (fun z hz => h z (List.mem_cons_of_mem _ hz))]
theorem rwl_B8 {s pl : Nat} {st : Nat → Nat} : ∀ (n : Nat) (gaps : Int) (used full : Nat) (row : List Int), row ∈ rwl s pl st n gaps used full → ∀ x, x ∈ row → x ≤ 8 := by
  intro n
  induction n with
  | zero => intro gaps used full row h x hx; have : row = [] := by simpa [rwl] using h
            subst this; exact absurd hx (by simp)
  | succ n ih =>
    intro gaps used full row h x hx
    rw [rwl] at h
    by_cases hf : full.testBit (pl - (n + 1)) = true
    · rw [if_pos hf] at h
      obtain ⟨r, h1, h2⟩ := List.mem_map.mp h
      rw [← h2] at hx
      rcases List.mem_cons.mp hx with q | q
      · omega
      · exact ih _ _ _ r h1 x q
    · rw [if_neg hf] at h
      obtain ⟨c, h1, h2⟩ := List.mem_flatMap.mp h
      have h1 := List.mem_range.mp h1
      by_cases hp : pkB s st pl used full (pl - (n + 1)) c gaps = true
      · rw [if_pos hp] at h2
        obtain ⟨r, h3, h4⟩ := List.mem_map.mp h2
        rw [← h4] at hx
        rcases List.mem_cons.mp hx with q | q
        · omega
        · exact ih _ _ _ r h3 x q
      · rw [if_neg hp] at h2; exact absurd h2 (by simp)
theorem eq_rat {a c b : Int → Int} (h : StE a c (fa b)) (hb : ∀ k, k < 8 → 1 ≤ fa b k) {s g i p : Int} (hr : isRow s g) (hi : 0 ≤ i) (hp : 0 ≤ p ∧ p < 2 * pc s + g) : md_rat a c s g i p = (if i < ((cn (fa b) s.toNat (2 ^ (2 * pc s + g).toNat - 1) : Nat) : Int) then whl b (p + 1).toNat 0 s.toNat (2 ^ (2 * pc s + g).toNat - 1) i (fun _ => 0) p else -1) := by
  have hpb := pc_B s
  have hR : RW (fa b) s.toNat (2 * pc s + g).toNat (2 * pc s + g).toNat g 0 0 s.toNat (2 ^ (2 * pc s + g).toNat - 1) := by
    refine ⟨Nat.le_refl _, by have := hr.2.2; omega, fun k => by rw [Nat.zero_testBit]; simp, fun j => ?_, ?_, hr.2.1.1⟩
    · rw [Nat.testBit_two_pow_sub_one, decide_eq_true_iff, Nat.zero_testBit, Nat.sub_self]
      constructor
      · intro q; exact ⟨⟨by omega, q⟩, by decide⟩
      · intro q; exact q.1.2
    · rw [pc_all (by have := hr.2.2; omega)]
      have := pc_mem hr.1
      have := hr.2.1.1
      omega
  have hst : md_rws a c s g = rwl s.toNat (2 * pc s + g).toNat (fa b) (2 * pc s + g).toNat g 0 0 := by
    have key : ∀ (n : Nat) (gaps : Int) (used full : Nat), rwl s.toNat (2 * pc s + g).toNat (md_st a c) n gaps used full = rwl s.toNat (2 * pc s + g).toNat (fa b) n gaps used full := by
      intro n
      induction n with
      | zero => intro _ _ _; rfl
      | succ n ih =>
        intro gaps used full
        rw [rwl, rwl, ih]
        by_cases hf : full.testBit ((2 * pc s + g).toNat - (n + 1)) = true
        · rw [if_pos hf, if_pos hf]
        · rw [if_neg hf, if_neg hf]
          have : ∀ x, x ∈ List.range 9 → (if pkB s.toNat (md_st a c) (2 * pc s + g).toNat used full ((2 * pc s + g).toNat - (n + 1)) x gaps = true then (rwl s.toNat (2 * pc s + g).toNat (md_st a c) n (ngap x gaps) (nuse x used) (nful (md_st a c) ((2 * pc s + g).toNat - (n + 1)) x full)).map ((x : Int) :: ·) else []) = (if pkB s.toNat (fa b) (2 * pc s + g).toNat used full ((2 * pc s + g).toNat - (n + 1)) x gaps = true then (rwl s.toNat (2 * pc s + g).toNat (fa b) n (ngap x gaps) (nuse x used) (nful (fa b) ((2 * pc s + g).toNat - (n + 1)) x full)).map ((x : Int) :: ·) else []) := fun x hx => by
            have hx := List.mem_range.mp hx
            rw [ih]
            cases x with
            | zero => rfl
            | succ k =>
              have e := h k (by omega)
              rw [show pkB s.toNat (md_st a c) (2 * pc s + g).toNat used full ((2 * pc s + g).toNat - (n + 1)) (k + 1) gaps = pkB s.toNat (fa b) (2 * pc s + g).toNat used full ((2 * pc s + g).toNat - (n + 1)) (k + 1) gaps from by unfold pkB; rw [Nat.add_sub_cancel, e], show nful (md_st a c) ((2 * pc s + g).toNat - (n + 1)) (k + 1) full = nful (fa b) ((2 * pc s + g).toNat - (n + 1)) (k + 1) full from by unfold nful nmsk; rw [Nat.add_sub_cancel, e]]
          exact flat_congr this
    exact key _ _ _ _
  unfold md_rat
  rw [hst]
  have hl := (rwl_len2 hb _ _ _ _ _ _ hR).1
  by_cases hlt : i < ((cn (fa b) s.toNat (2 ^ (2 * pc s + g).toNat - 1) : Nat) : Int)
  · obtain ⟨row, h1, h2⟩ := eq_whl hb (t := p.toNat) (by omega) (p + 1).toNat (2 * pc s + g).toNat g 0 0 s.toNat _ i (fun _ => 0) hR (by omega) hi hlt (fun j _ _ => by rw [Nat.zero_testBit]; simp)
    rw [Nat.sub_self, if_pos rfl, show ((p.toNat : Nat) : Int) = p by omega] at h2
    rw [h1, if_pos hlt, h2]
    show rwF (fun j => row.getD j.toNat (-1)) (md_st a c) p (p + 1).toNat 0 = rwF (fun j => row.getD (j - ((0 : Nat) : Int)).toNat (-1)) (fa b) p (p + 1).toNat ((0 : Nat) : Int)
    have key : ∀ (f : Int → Int), (∀ j, f j ≤ 8) → ∀ (m : Nat) (q : Int), rwF f (md_st a c) p m q = rwF f (fa b) p m q := fun f hf m => by
      induction m with
      | zero => intro q; rfl
      | succ m ih =>
        intro q
        rw [rwF, rwF, ih]
        by_cases h0 : 0 < f q
        · have := hf q
          rw [h (f q - 1).toNat (by omega)]
        · rw [if_neg (fun z => h0 z.1), if_neg (fun z => h0 z.1)]
    rw [key _ (fun j => ?_)]
    · refine rwF_congr _ _ (fun j _ => ?_)
      show row.getD j.toNat (-1) = row.getD (j - ((0 : Nat) : Int)).toNat (-1)
      rw [show j - ((0 : Nat) : Int) = j by omega]
    · show row.getD j.toNat (-1) ≤ 8
      have hm : row ∈ rwl s.toNat (2 * pc s + g).toNat (fa b) (2 * pc s + g).toNat g 0 0 := List.mem_of_getElem? h1
      rcases Nat.lt_or_ge j.toNat row.length with q | q
      · exact rwl_B8 _ _ _ _ _ hm _ (getD_mem (d := (-1 : Int)) q)
      · rw [List.getD_eq_getElem?_getD, List.getElem?_eq_none q]; decide
  · rw [if_neg hlt, List.getElem?_eq_none (by omega)]
