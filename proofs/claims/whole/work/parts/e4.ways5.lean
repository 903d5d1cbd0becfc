/-! ===== most, stay, alike on both sides ===== -/
set_option maxRecDepth 100000 in
theorem pc0F : ∀ s : Fin 256, pcn 16 s.val = 0 → s.val = 0 := by decide
theorem pc_pos {x : Int} (h : 1 ≤ x ∧ x ≤ 255) : 1 ≤ pc x := by
  have hb := pc_B x
  rcases Nat.eq_zero_or_pos (pcn 16 x.toNat) with h0 | h0
  · have := pc0F ⟨x.toNat, by omega⟩ h0
    have : x.toNat = 0 := this
    omega
  · unfold pc; omega
theorem pcz0 : pc 0 = 0 := rfl
theorem pc_allF : ∀ p : Fin 17, pcn 16 (2 ^ p.val - 1) = p.val := by decide
theorem pc_all {p : Nat} (h : p ≤ 16) : pcn 16 (2 ^ p - 1) = p := pc_allF ⟨p, by omega⟩
/-- the first of those with the most members -/
def Bst (F : Int → Prop) (t r : Int) : Prop := F r ∧ r ≤ t ∧ ∀ x, 0 ≤ x ∧ x < t → F x → pc x < pc r ∨ (pc x = pc r ∧ r ≤ x)
theorem eq_mst {a c : Int → Int} {pl : Int} {F : Int → Prop} (hF : ∀ s, 0 ≤ s ∧ s ≤ 255 → (F s ↔ (2 * pc s ≤ pl ∧ ¬ wy (opL a c s.toNat pl.toNat 2) 0 = []))) : ∀ (m : Nat) (s b : Int), s + m = 256 → 0 ≤ s → Bst F s b → Bst F 256 (md_mst a c pl m s b) := by
  intro m
  induction m with
  | zero =>
    intro s b hs h0 h
    rw [show s = 256 by omega] at h
    exact h
  | succ m ih =>
    intro s b hs h0 h
    rw [md_mst]
    refine ih (s + 1) _ (by omega) (by omega) ?_
    have hf := hF s (by omega)
    by_cases hc : pc b < pc s ∧ 2 * pc s ≤ pl ∧ ¬ wy (opL a c s.toNat pl.toNat 2) 0 = []
    · rw [if_pos hc]
      refine ⟨hf.mpr hc.2, by omega, fun x hx hfx => ?_⟩
      by_cases ex : x = s
      · rw [ex]; exact Or.inr ⟨rfl, Int.le_refl _⟩
      · rcases h.2.2 x (by omega) hfx with q | q
        · exact Or.inl (by omega)
        · exact Or.inl (by omega)
    · rw [if_neg hc]
      refine ⟨h.1, by have := h.2.1; omega, fun x hx hfx => ?_⟩
      by_cases ex : x = s
      · rw [ex] at hfx ⊢
        have hx2 := hf.mp hfx
        have hle : ¬ pc b < pc s := fun q => hc ⟨q, hx2⟩
        have := h.2.1
        by_cases e : pc s = pc b
        · exact Or.inr ⟨e, this⟩
        · exact Or.inl (by omega)
      · exact h.2.2 x (by omega) hfx
theorem eq_lgo {b : Int → Int} {fr : Nat} : ∀ m : Nat, (lgo b fr m = 0 ∧ ∀ x, 1 ≤ x ∧ x ≤ 255 → ¬ cn (fa b) x.toNat fr = 0 → ¬ pc x ≤ m) ∨ ((1 ≤ lgo b fr m ∧ lgo b fr m ≤ 255) ∧ ¬ cn (fa b) (lgo b fr m).toNat fr = 0 ∧ pc (lgo b fr m) ≤ m ∧ ∀ x, 1 ≤ x ∧ x ≤ 255 → ¬ cn (fa b) x.toNat fr = 0 → pc x ≤ m → pc x < pc (lgo b fr m) ∨ (pc x = pc (lgo b fr m) ∧ lgo b fr m ≤ x)) := by
  intro m
  induction m with
  | zero => exact Or.inl ⟨rfl, fun x hx _ q => by have := pc_pos hx; omega⟩
  | succ m ih =>
    rw [lgo]
    rcases lpR_cases (g := lgg b fr ((m : Int) + 1)) (d := 0) 255 1 with ⟨h1, h2⟩ | ⟨j, h1, h2, h3⟩
    · rw [if_pos h1]
      have no : ∀ x, 1 ≤ x ∧ x ≤ 255 → ¬ cn (fa b) x.toNat fr = 0 → ¬ pc x = (m : Int) + 1 := fun x hx hc he => by
        have := h2 x (by omega)
        unfold lgg at this
        rw [if_pos ⟨he, hc⟩] at this
        cases this
      rcases ih with ⟨i1, i2⟩ | ⟨i1, i2, i3, i4⟩
      · exact Or.inl ⟨i1, fun x hx hc q => by have := i2 x hx hc; have := no x hx hc; omega⟩
      · exact Or.inr ⟨i1, i2, by omega, fun x hx hc q => i4 x hx hc (by have := no x hx hc; omega)⟩
    · have e : j = lpR (lgg b fr ((m : Int) + 1)) 255 1 0 ∧ pc j = (m : Int) + 1 ∧ ¬ cn (fa b) j.toNat fr = 0 := by
        unfold lgg at h2
        by_cases hc : pc j = (m : Int) + 1 ∧ ¬ cn (fa b) j.toNat fr = 0
        · rw [if_pos hc] at h2
          exact ⟨Option.some.inj h2, hc⟩
        · rw [if_neg hc] at h2; cases h2
      rw [← e.1, if_neg (by omega)]
      refine Or.inr ⟨by omega, e.2.2, by omega, fun x hx hc q => ?_⟩
      by_cases ex : pc x = (m : Int) + 1
      · refine Or.inr ⟨by omega, ?_⟩
        rcases Int.lt_or_le x j with q2 | q2
        · have := h3 x (by omega)
          unfold lgg at this
          rw [if_pos ⟨ex, hc⟩] at this
          cases this
        · exact q2
      · exact Or.inl (by omega)
theorem eq_most {a c b : Int → Int} (h : StE a c (fa b)) {pl : Int} (hp : 1 ≤ pl ∧ pl ≤ 16) : md_mst a c pl 256 0 0 = lgo b (2 ^ pl.toNat - 1) (pcn 16 (2 ^ pl.toNat - 1) / 2) := by
  rw [pc_all (by omega)]
  have hw : ∀ s : Int, wy (opL a c s.toNat pl.toNat 2) 0 = [] ↔ cn (fa b) s.toNat (2 ^ pl.toNat - 1) = 0 := fun s => by rw [nil_len, wy_cn h (by omega) (CMP.all _)]
  have hc0 : ¬ cn (fa b) (0 : Int).toNat (2 ^ pl.toNat - 1) = 0 := by rw [show (0 : Int).toNat = 0 from rfl, cn_zero]; decide
  have hB := eq_mst (a := a) (c := c) (pl := pl) (F := fun s => (0 ≤ s ∧ s ≤ 255) ∧ 2 * pc s ≤ pl ∧ ¬ cn (fa b) s.toNat (2 ^ pl.toNat - 1) = 0) (fun s hs => by
    rw [hw s]
    exact ⟨fun q => q.2, fun q => ⟨hs, q⟩⟩) 256 0 0 rfl (by omega) ⟨⟨by omega, by rw [pcz0]; omega, hc0⟩, by omega, fun x hx => by omega⟩
  generalize md_mst a c pl 256 0 0 = r at hB ⊢
  obtain ⟨⟨r0, r1, r2⟩, r3, r4⟩ := hB
  rcases eq_lgo (b := b) (fr := 2 ^ pl.toNat - 1) (pl.toNat / 2) with ⟨h1, h2⟩ | ⟨h1, h2, h3, h4⟩
  · rw [h1]
    rcases Int.lt_or_le 0 r with q | q
    · exact absurd (by omega) (h2 r (by omega) r2)
    · omega
  · generalize lgo b (2 ^ pl.toNat - 1) (pl.toNat / 2) = z at h1 h2 h3 h4 ⊢
    have k1 := r4 z (by omega) ⟨by omega, by omega, h2⟩
    rcases Int.lt_or_le 0 r with q | q
    · have k2 := h4 r (by omega) r2 (by omega)
      omega
    · have e : r = 0 := by omega
      rw [e, pcz0] at k1
      have := pc_pos h1
      omega
theorem pc_sub {q h : Int} (hq : 0 ≤ q) (hh : 0 ≤ h) (h0 : bdf q h = 0) : pc q ≤ pc h := by
  obtain ⟨m, rfl⟩ : ∃ m : Nat, q = m := ⟨q.toNat, by omega⟩
  obtain ⟨n, rfl⟩ : ∃ n : Nat, h = n := ⟨h.toNat, by omega⟩
  have := pcn_nd 16 (bdf_sbs.mp h0)
  rw [pc_nat, pc_nat]
  omega
theorem eq_sty {a c : Int → Int} {s h : Int} {F : Int → Prop} (hF : ∀ q, 0 ≤ q ∧ q ≤ h → (F q ↔ (bdf q h = 0 ∧ ¬ md_cst a c s q = []))) : ∀ (m : Nat) (b : Int), (m : Int) ≤ h + 1 → ((b = -1 ∧ ∀ x, (m : Int) ≤ x ∧ x ≤ h → ¬ F x) ∨ (F b ∧ ((m : Int) ≤ b ∧ b ≤ h) ∧ ∀ x, (m : Int) ≤ x ∧ x ≤ h → F x → pc x < pc b ∨ (pc x = pc b ∧ b ≤ x))) → ((md_sty a c s h m b = -1 ∧ ∀ x, 0 ≤ x ∧ x ≤ h → ¬ F x) ∨ (F (md_sty a c s h m b) ∧ (0 ≤ md_sty a c s h m b ∧ md_sty a c s h m b ≤ h) ∧ ∀ x, 0 ≤ x ∧ x ≤ h → F x → pc x < pc (md_sty a c s h m b) ∨ (pc x = pc (md_sty a c s h m b) ∧ md_sty a c s h m b ≤ x))) := by
  intro m
  induction m with
  | zero => intro b _ h; exact h
  | succ m ih =>
    intro b hm hP
    rw [md_sty]
    have hf := hF (m : Int) (by omega)
    refine ih _ (by omega) ?_
    by_cases hc : bdf (m : Int) h = 0 ∧ (b = -1 ∨ pc b ≤ pc (m : Int)) ∧ ¬ md_cst a c s (m : Int) = []
    · rw [if_pos hc]
      have hfm := hf.mpr ⟨hc.1, hc.2.2⟩
      refine Or.inr ⟨hfm, by omega, fun x hx hfx => ?_⟩
      by_cases ex : x = (m : Int)
      · rw [ex]; exact Or.inr ⟨rfl, Int.le_refl _⟩
      · rcases hP with ⟨p1, p2⟩ | ⟨p1, p2, p3⟩
        · exact absurd hfx (p2 x (by omega))
        · rcases hc.2.1 with q | q
          · omega
          · rcases p3 x (by omega) hfx with k | k
            · exact Or.inl (by omega)
            · by_cases e : pc x = pc (m : Int)
              · exact Or.inr ⟨e, by omega⟩
              · exact Or.inl (by omega)
    · rw [if_neg hc]
      rcases hP with ⟨p1, p2⟩ | ⟨p1, p2, p3⟩
      · refine Or.inl ⟨p1, fun x hx hfx => ?_⟩
        by_cases ex : x = (m : Int)
        · rw [ex] at hfx
          have := hf.mp hfx
          exact hc ⟨this.1, Or.inl p1, this.2⟩
        · exact p2 x (by omega) hfx
      · refine Or.inr ⟨p1, by omega, fun x hx hfx => ?_⟩
        by_cases ex : x = (m : Int)
        · rw [ex] at hfx ⊢
          have := hf.mp hfx
          have hle : ¬ pc b ≤ pc (m : Int) := fun q => hc ⟨this.1, Or.inr q, this.2⟩
          exact Or.inl (by omega)
        · exact p3 x (by omega) hfx
theorem eq_sto {b f : Int → Int} {s h : Int} (h0 : 0 ≤ h) {F : Int → Prop} (hF : ∀ q, 0 ≤ q ∧ q ≤ h → (F q ↔ (bdf q h = 0 ∧ ¬ cn (fa b) (bdf s q).toNat (bdf (bsh (f 0) - 1) (rw_places f q)).toNat = 0))) : ∀ m : Nat, ((sto b f s h m = -1 ∧ ∀ x, 0 ≤ x ∧ x ≤ h → pc x < m → ¬ F x) ∨ (F (sto b f s h m) ∧ (0 ≤ sto b f s h m ∧ sto b f s h m ≤ h) ∧ ∀ x, 0 ≤ x ∧ x ≤ h → pc x < m → F x → pc x < pc (sto b f s h m) ∨ (pc x = pc (sto b f s h m) ∧ sto b f s h m ≤ x))) := by
  intro m
  induction m with
  | zero => exact Or.inl ⟨rfl, fun x hx q => by have := pc_B x; omega⟩
  | succ m ih =>
    rw [sto]
    rcases lpR_cases (g := sti b f s h (m : Int)) (d := -1) (h + 1).toNat 0 with ⟨h1, h2⟩ | ⟨j, h1, h2, h3⟩
    · rw [if_pos h1]
      have no : ∀ x, 0 ≤ x ∧ x ≤ h → F x → ¬ pc x = (m : Int) := fun x hx hfx he => by
        have k := h2 x (by omega)
        have k2 := (hF x hx).mp hfx
        unfold sti at k
        rw [if_pos ⟨k2.1, he, k2.2⟩] at k
        cases k
      rcases ih with ⟨i1, i2⟩ | ⟨i1, i2, i3⟩
      · exact Or.inl ⟨i1, fun x hx q hfx => i2 x hx (by have := no x hx hfx; omega) hfx⟩
      · exact Or.inr ⟨i1, i2, fun x hx q hfx => i3 x hx (by have := no x hx hfx; omega) hfx⟩
    · have e : j = lpR (sti b f s h (m : Int)) (h + 1).toNat 0 (-1) ∧ bdf j h = 0 ∧ pc j = (m : Int) ∧ ¬ cn (fa b) (bdf s j).toNat (bdf (bsh (f 0) - 1) (rw_places f j)).toNat = 0 := by
        unfold sti at h2
        by_cases hc : bdf j h = 0 ∧ pc j = (m : Int) ∧ ¬ cn (fa b) (bdf s j).toNat (bdf (bsh (f 0) - 1) (rw_places f j)).toNat = 0
        · rw [if_pos hc] at h2
          exact ⟨Option.some.inj h2, hc⟩
        · rw [if_neg hc] at h2; cases h2
      rw [← e.1, if_neg (by omega)]
      refine Or.inr ⟨(hF j (by omega)).mpr ⟨e.2.1, e.2.2.2⟩, by omega, fun x hx q hfx => ?_⟩
      by_cases ex : pc x = (m : Int)
      · refine Or.inr ⟨by omega, ?_⟩
        rcases Int.lt_or_le x j with q2 | q2
        · have k := h3 x (by omega)
          have k2 := (hF x hx).mp hfx
          unfold sti at k
          rw [if_pos ⟨k2.1, ex, k2.2⟩] at k
          cases k
        · exact q2
      · exact Or.inl (by omega)
theorem eq_stay {a c b f : Int → Int} {s h : Int} (h0 : 0 ≤ h) (hF : ∀ q, 0 ≤ q ∧ q ≤ h → bdf q h = 0 → (md_cst a c s q = [] ↔ cn (fa b) (bdf s q).toNat (bdf (bsh (f 0) - 1) (rw_places f q)).toNat = 0)) : md_sty a c s h (h + 1).toNat (-1) = sto b f s h (pc h + 1).toNat := by
  have hpb := pc_B h
  have A := eq_sty (a := a) (c := c) (s := s) (h := h) (F := fun q => bdf q h = 0 ∧ ¬ md_cst a c s q = []) (fun q _ => Iff.rfl) (h + 1).toNat (-1) (by omega) (Or.inl ⟨rfl, fun x hx => by omega⟩)
  have B := eq_sto (b := b) (f := f) (s := s) h0 (F := fun q => bdf q h = 0 ∧ ¬ md_cst a c s q = []) (fun q hq => ⟨fun k => ⟨k.1, fun z => k.2 ((hF q hq k.1).mpr z)⟩, fun k => ⟨k.1, fun z => k.2 ((hF q hq k.1).mp z)⟩⟩) (pc h + 1).toNat
  generalize md_sty a c s h (h + 1).toNat (-1) = x at A ⊢
  generalize sto b f s h (pc h + 1).toNat = z at B ⊢
  have le : ∀ q, 0 ≤ q → bdf q h = 0 → pc q < ((pc h + 1).toNat : Int) := fun q hq k => by have := pc_sub hq h0 k; omega
  rcases A with ⟨a1, a2⟩ | ⟨a1, a2, a3⟩
  · rcases B with ⟨b1, b2⟩ | ⟨b1, b2, b3⟩
    · omega
    · exact absurd b1 (a2 z b2)
  · rcases B with ⟨b1, b2⟩ | ⟨b1, b2, b3⟩
    · exact absurd a1 (b2 x a2 (le x a2.1 a1.1))
    · have k1 := a3 z b2 b1
      have k2 := b3 x a2 (le x a2.1 a1.1) a1
      omega
