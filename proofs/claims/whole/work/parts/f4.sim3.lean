/-! ===== who goes and who comes, side by side ===== -/
theorem std_ext {x : Int} {a : Int → Int} (h0 : 0 ≤ x) (h1 : x < 256) (h : ∀ i : Nat, i < 8 → (bt x i ↔ md_stands a i)) : x = md_standing a := by
  have hb := md_standing_B a
  refine bt_ext h0 hb.1 (fun i => ?_)
  rcases Nat.lt_or_ge i 8 with q | q
  · rw [h i q, bt_standing q]
  · exact ⟨fun z => absurd z (bt_lt (n := 8) h1 q), fun z => absurd z (bt_lt (n := 8) hb.2 q)⟩
theorem bt_pl {a : Int → Int} (hv : MV a) {k : Int} (hs : md_stands a k) {i : Nat} : bt (md_pl a k) i ↔ (a (8 + k) = i ∨ a (16 + k) = i) := by
  have h1 := hv.at hs.1
  have h2 : 0 ≤ a (8 + k) := by have := hs.2; omega
  unfold md_pl
  rw [bt_bor, bt_bsh h2, bt_bsh (by have := h1.2.2.1 h2; omega)]
theorem RQ.gone {g b : Int → Int} (h : RQ g b) (hv : MV b) {k : Int} (hs : md_stands b k) : RQ (up (up (up (up (up g 3 (bdf (g 3) (bsh k))) 4 (bdf (g 4) (md_pl b k))) (6 + k) (-1)) (14 + k) (-1)) (22 + k) 0) (up (up (up b (8 + k) (-1)) (16 + k) (-1)) (24 + k) 0) := by
  obtain ⟨h7, h4, h5, h6, hA, h3, ht, hL, hD, hZ⟩ := id h
  have hk := hs.1
  have hv' : MV (up (up (up b (8 + k) (-1)) (16 + k) (-1)) (24 + k) 0) := MV_gone hv hk
  have lo : ∀ j, ¬ j = 8 + k → ¬ j = 16 + k → ¬ j = 24 + k → (up (up (up b (8 + k) (-1)) (16 + k) (-1)) (24 + k) 0) j = b j := fun j u v w => by rw [up_n w, up_n v, up_n u]
  have l8 : (up (up (up b (8 + k) (-1)) (16 + k) (-1)) (24 + k) 0) (8 + k) = -1 := by rw [up_n (by omega), up_n (by omega), up_s]
  have l16 : (up (up (up b (8 + k) (-1)) (16 + k) (-1)) (24 + k) 0) (16 + k) = -1 := by rw [up_n (by omega), up_s]
  have l24 : (up (up (up b (8 + k) (-1)) (16 + k) (-1)) (24 + k) 0) (24 + k) = 0 := by rw [up_s]
  generalize (up (up (up b (8 + k) (-1)) (16 + k) (-1)) (24 + k) 0) = a' at hv' lo l8 l16 l24 ⊢
  have lf : ∀ j, ¬ j = 3 → ¬ j = 4 → ¬ j = 6 + k → ¬ j = 14 + k → ¬ j = 22 + k → (up (up (up (up (up g 3 (bdf (g 3) (bsh k))) 4 (bdf (g 4) (md_pl b k))) (6 + k) (-1)) (14 + k) (-1)) (22 + k) 0) j = g j := fun j u v w x z => by rw [up_n z, up_n x, up_n w, up_n v, up_n u]
  have f3 : (up (up (up (up (up g 3 (bdf (g 3) (bsh k))) 4 (bdf (g 4) (md_pl b k))) (6 + k) (-1)) (14 + k) (-1)) (22 + k) 0) 3 = bdf (g 3) (bsh k) := by rw [up_n (by omega), up_n (by omega), up_n (by omega), up_n (by omega), up_s]
  have f4 : (up (up (up (up (up g 3 (bdf (g 3) (bsh k))) 4 (bdf (g 4) (md_pl b k))) (6 + k) (-1)) (14 + k) (-1)) (22 + k) 0) 4 = bdf (g 4) (md_pl b k) := by rw [up_n (by omega), up_n (by omega), up_n (by omega), up_s]
  have f6 : (up (up (up (up (up g 3 (bdf (g 3) (bsh k))) 4 (bdf (g 4) (md_pl b k))) (6 + k) (-1)) (14 + k) (-1)) (22 + k) 0) (6 + k) = -1 := by rw [up_n (by omega), up_n (by omega), up_s]
  have f14 : (up (up (up (up (up g 3 (bdf (g 3) (bsh k))) 4 (bdf (g 4) (md_pl b k))) (6 + k) (-1)) (14 + k) (-1)) (22 + k) 0) (14 + k) = -1 := by rw [up_n (by omega), up_s]
  have f22 : (up (up (up (up (up g 3 (bdf (g 3) (bsh k))) 4 (bdf (g 4) (md_pl b k))) (6 + k) (-1)) (14 + k) (-1)) (22 + k) 0) (22 + k) = 0 := by rw [up_s]
  generalize (up (up (up (up (up g 3 (bdf (g 3) (bsh k))) 4 (bdf (g 4) (md_pl b k))) (6 + k) (-1)) (14 + k) (-1)) (22 + k) 0) = g' at lf f3 f4 f6 f14 f22 ⊢
  have hst : ∀ j, md_stands a' j ↔ (md_stands b j ∧ ¬ j = k) := fun j => by
    constructor
    · rintro ⟨u, v⟩
      have hjk : ¬ j = k := fun e => v (by rw [e]; exact l8)
      rw [lo (8 + j) (by omega) (by omega) (by omega)] at v
      exact ⟨⟨u, v⟩, hjk⟩
    · rintro ⟨⟨u, v⟩, hjk⟩
      exact ⟨u, by rw [lo (8 + j) (by omega) (by omega) (by omega)]; exact v⟩
  refine ⟨?_, ?_, ?_, ?_, fun j hj => ?_, ?_, ?_, fun j hj => ?_, fun j l u v w => ?_, fun j hj hn => ?_⟩
  · rw [lo 7 (by omega) (by omega) (by omega), lf 0 (by omega) (by omega) (by omega) (by omega) (by omega)]; exact h7
  · rw [lo 4 (by omega) (by omega) (by omega), lf 1 (by omega) (by omega) (by omega) (by omega) (by omega)]; exact h4
  · rw [lo 5 (by omega) (by omega) (by omega), lf 2 (by omega) (by omega) (by omega) (by omega) (by omega)]; exact h5
  · rw [lo 6 (by omega) (by omega) (by omega), lf 5 (by omega) (by omega) (by omega) (by omega) (by omega)]; exact h6
  · by_cases e : j = k
    · rw [e, l8, l16, l24, f6, f14, f22]; exact ⟨rfl, rfl, rfl⟩
    · rw [lo _ (by omega) (by omega) (by omega), lo _ (by omega) (by omega) (by omega), lo _ (by omega) (by omega) (by omega), lf _ (by omega) (by omega) (by omega) (by omega) (by omega), lf _ (by omega) (by omega) (by omega) (by omega) (by omega), lf _ (by omega) (by omega) (by omega) (by omega) (by omega)]
      exact hA j hj
  · rw [f3, h3]
    have hb := md_standing_B b
    refine std_ext (bdf_nn _ _) (by have := bdf_le (md_standing b) (bsh k) hb.1; omega) (fun i hi => ?_)
    rw [bt_bdf, bt_standing hi, bt_bsh hk.1, hst]
    constructor
    · rintro ⟨u, v⟩; exact ⟨u, fun e => v e.symm⟩
    · rintro ⟨u, v⟩; exact ⟨u, fun e => v e.symm⟩
  · rw [f4, ht]
    refine bt_ext (bdf_nn _ _) (md_taken_B hv').1 (fun i => ?_)
    rw [bt_bdf, bt_taken hv, bt_taken hv', bt_pl hv hs]
    constructor
    · rintro ⟨⟨j, u, v⟩, w⟩
      have hjk : ¬ j = k := fun e => w (by rw [← e]; exact v)
      refine ⟨j, (hst j).mpr ⟨u, hjk⟩, ?_⟩
      have := u.1
      rw [lo (8 + j) (by omega) (by omega) (by omega), lo (16 + j) (by omega) (by omega) (by omega)]
      exact v
    · rintro ⟨j, u, v⟩
      obtain ⟨u1, hjk⟩ := (hst j).mp u
      have := u1.1
      rw [lo (8 + j) (by omega) (by omega) (by omega), lo (16 + j) (by omega) (by omega) (by omega)] at v
      refine ⟨⟨j, u1, v⟩, fun z => ?_⟩
      have d1 := hD j k u1 hs hjk
      have d2 := hD k j hs u1 (fun e => hjk e.symm)
      omega
  · rw [lf 5 (by omega) (by omega) (by omega) (by omega) (by omega)] at hj
    rw [lf _ (by omega) (by omega) (by omega) (by omega) (by omega), lo _ (by omega) (by omega) (by omega)]
    exact hL j hj
  · obtain ⟨u1, u2⟩ := (hst j).mp u
    obtain ⟨v1, v2⟩ := (hst l).mp v
    have := u1.1
    have := v1.1
    rw [lo (8 + j) (by omega) (by omega) (by omega), lo (8 + l) (by omega) (by omega) (by omega), lo (16 + j) (by omega) (by omega) (by omega), lo (16 + l) (by omega) (by omega) (by omega)]
    exact hD j l u1 v1 w
  · by_cases e : j = k
    · rw [e]; exact l24
    · rw [lo (24 + j) (by omega) (by omega) (by omega)]
      exact hZ j hj (fun z => hn ((hst j).mpr ⟨z, e⟩))
theorem RQ.depart {f a : Int → Int} (h : RQ f a) (hv : MV a) {k q : Int} (hs : md_stands a k) (hq : 0 ≤ q ∧ q ≤ 2) : RQ (rw_depart f (k + 1) q) (md_leave a k q) := by
  have hk := hs.1
  have h0 : 0 ≤ a (8 + k) := by have := hs.2; have := (hv.at hk).1; omega
  have hw := h.write hv hk hq h0
  have hb6 : 0 ≤ a 6 ∧ a 6 ≤ 25 := hv.2.2.2.2.2.2.2.1
  have hst : md_stands (md_write a k q) k := ⟨hk, by rw [md_write_at hb6 (by omega) (Or.inl (by omega))]; exact hs.2⟩
  have hg := hw.gone (md_write_V hv hk hq) hst
  have e5 : f (5 + (k + 1)) = a (8 + k) := by rw [(h.n (n := k + 1) (by omega)).1, show k + 1 - 1 = k by omega]
  have hf5 : 0 ≤ f 5 := by rw [← h.2.2.2.1]; exact hb6.1
  have ep : rw_pair f (k + 1) = md_pl (md_write a k q) k := by
    rw [h.pair hv, show k + 1 - 1 = k by omega, if_pos hs]
    unfold md_pl
    rw [md_write_at hb6 (by omega) (Or.inl (by omega)), md_write_at hb6 (by omega) (Or.inl (by omega))]
  unfold rw_depart rw_dep md_leave
  rw [e5, ep, show k + 1 - 1 = k by omega, show 5 + (k + 1) = 6 + k by omega, show 13 + (k + 1) = 14 + k by omega, show 21 + (k + 1) = 22 + k by omega]
  rw [rw_write_lo hf5 (show (3 : Int) < 30 by omega) (by omega), rw_write_lo hf5 (show (4 : Int) < 30 by omega) (by omega)] at hg
  exact hg
theorem RQ.came {f a : Int → Int} (h : RQ f a) (hv : MV a) {k p z : Int} (hk : 0 ≤ k ∧ k ≤ 7) (hn : a (8 + k) = -1) (hp : 0 ≤ p ∧ p < z ∧ z < a 7) (hfr : ¬ bt (md_taken a) p.toNat ∧ ¬ bt (md_taken a) z.toNat) : RQ (up (up (up (up f (6 + k) p) (14 + k) z) 3 (bor (f 3) (bsh k))) 4 (bor (f 4) (bor (bsh p) (bsh z)))) (up (up (up a (8 + k) p) (16 + k) z) (24 + k) 0) := by
  obtain ⟨h7, h4, h5, h6, hA, h3, ht, hL, hD, hZ⟩ := id h
  have b7 : 1 ≤ a 7 ∧ a 7 ≤ 16 := hv.2.2.2.2.2.2.2.2.1
  have hv' : MV (up (up (up a (8 + k) p) (16 + k) z) (24 + k) 0) := MV_came hv hk hp
  have hns : ¬ md_stands a k := fun q => q.2 hn
  have lo : ∀ j, ¬ j = 8 + k → ¬ j = 16 + k → ¬ j = 24 + k → (up (up (up a (8 + k) p) (16 + k) z) (24 + k) 0) j = a j := fun j u v w => by rw [up_n w, up_n v, up_n u]
  have l8 : (up (up (up a (8 + k) p) (16 + k) z) (24 + k) 0) (8 + k) = p := by rw [up_n (by omega), up_n (by omega), up_s]
  have l16 : (up (up (up a (8 + k) p) (16 + k) z) (24 + k) 0) (16 + k) = z := by rw [up_n (by omega), up_s]
  have l24 : (up (up (up a (8 + k) p) (16 + k) z) (24 + k) 0) (24 + k) = 0 := by rw [up_s]
  generalize (up (up (up a (8 + k) p) (16 + k) z) (24 + k) 0) = a' at hv' lo l8 l16 l24 ⊢
  have lf : ∀ j, ¬ j = 3 → ¬ j = 4 → ¬ j = 6 + k → ¬ j = 14 + k → (up (up (up (up f (6 + k) p) (14 + k) z) 3 (bor (f 3) (bsh k))) 4 (bor (f 4) (bor (bsh p) (bsh z)))) j = f j := fun j u v w x => by rw [up_n v, up_n u, up_n x, up_n w]
  have f3 : (up (up (up (up f (6 + k) p) (14 + k) z) 3 (bor (f 3) (bsh k))) 4 (bor (f 4) (bor (bsh p) (bsh z)))) 3 = bor (f 3) (bsh k) := by rw [up_n (by omega), up_s]
  have f4 : (up (up (up (up f (6 + k) p) (14 + k) z) 3 (bor (f 3) (bsh k))) 4 (bor (f 4) (bor (bsh p) (bsh z)))) 4 = bor (f 4) (bor (bsh p) (bsh z)) := by rw [up_s]
  have f6 : (up (up (up (up f (6 + k) p) (14 + k) z) 3 (bor (f 3) (bsh k))) 4 (bor (f 4) (bor (bsh p) (bsh z)))) (6 + k) = p := by rw [up_n (by omega), up_n (by omega), up_n (by omega), up_s]
  have f14 : (up (up (up (up f (6 + k) p) (14 + k) z) 3 (bor (f 3) (bsh k))) 4 (bor (f 4) (bor (bsh p) (bsh z)))) (14 + k) = z := by rw [up_n (by omega), up_n (by omega), up_s]
  generalize (up (up (up (up f (6 + k) p) (14 + k) z) 3 (bor (f 3) (bsh k))) 4 (bor (f 4) (bor (bsh p) (bsh z)))) = g' at lf f3 f4 f6 f14 ⊢
  have hst : ∀ j, md_stands a' j ↔ (md_stands a j ∨ j = k) := fun j => by
    constructor
    · rintro ⟨u, v⟩
      by_cases e : j = k
      · exact Or.inr e
      · rw [lo (8 + j) (by omega) (by omega) (by omega)] at v
        exact Or.inl ⟨u, v⟩
    · rintro (⟨u, v⟩ | e)
      · have e : ¬ j = k := fun e => hns (by rw [← e]; exact ⟨u, v⟩)
        exact ⟨u, by rw [lo (8 + j) (by omega) (by omega) (by omega)]; exact v⟩
      · rw [e]; exact ⟨hk, by rw [l8]; omega⟩
  have hof : ∀ j, md_stands a j → ¬ j = k ∧ ¬ a (8 + j) = p ∧ ¬ a (8 + j) = z ∧ ¬ a (16 + j) = p ∧ ¬ a (16 + j) = z := fun j u => by
    refine ⟨fun e => hns (by rw [← e]; exact u), fun e => hfr.1 ((bt_taken hv).mpr ⟨j, u, ?_⟩), fun e => hfr.2 ((bt_taken hv).mpr ⟨j, u, ?_⟩), fun e => hfr.1 ((bt_taken hv).mpr ⟨j, u, ?_⟩), fun e => hfr.2 ((bt_taken hv).mpr ⟨j, u, ?_⟩)⟩
    · exact Or.inl (by omega)
    · exact Or.inl (by omega)
    · exact Or.inr (by omega)
    · exact Or.inr (by omega)
  refine ⟨?_, ?_, ?_, ?_, fun j hj => ?_, ?_, ?_, fun j hj => ?_, fun j l u v w => ?_, fun j hj hn2 => ?_⟩
  · rw [lo 7 (by omega) (by omega) (by omega), lf 0 (by omega) (by omega) (by omega) (by omega)]; exact h7
  · rw [lo 4 (by omega) (by omega) (by omega), lf 1 (by omega) (by omega) (by omega) (by omega)]; exact h4
  · rw [lo 5 (by omega) (by omega) (by omega), lf 2 (by omega) (by omega) (by omega) (by omega)]; exact h5
  · rw [lo 6 (by omega) (by omega) (by omega), lf 5 (by omega) (by omega) (by omega) (by omega)]; exact h6
  · by_cases e : j = k
    · rw [e, l8, l16, l24, f6, f14, lf _ (by omega) (by omega) (by omega) (by omega), ← (hA k hk).2.2, hZ k hk hns]; exact ⟨rfl, rfl, rfl⟩
    · rw [lo _ (by omega) (by omega) (by omega), lo _ (by omega) (by omega) (by omega), lo _ (by omega) (by omega) (by omega), lf _ (by omega) (by omega) (by omega) (by omega), lf _ (by omega) (by omega) (by omega) (by omega), lf _ (by omega) (by omega) (by omega) (by omega)]
      exact hA j hj
  · rw [f3, h3]
    have hb := md_standing_B a
    refine std_ext (bor_nn _ _) (bor_lt 8 hb.2 (bsh_lt 8 (by omega) (by omega))) (fun i hi => ?_)
    rw [bt_bor, bt_standing hi, bt_bsh hk.1, hst]
    constructor
    · rintro (u | u)
      · exact Or.inl u
      · exact Or.inr u.symm
    · rintro (u | u)
      · exact Or.inl u
      · exact Or.inr u.symm
  · rw [f4, ht]
    refine bt_ext (bor_nn _ _) (md_taken_B hv').1 (fun i => ?_)
    rw [bt_bor, bt_bor, bt_bsh hp.1, bt_bsh (by omega), bt_taken hv, bt_taken hv']
    constructor
    · rintro (⟨j, u, v⟩ | v)
      · have e := (hof j u).1
        have := u.1
        refine ⟨j, (hst j).mpr (Or.inl u), ?_⟩
        rw [lo (8 + j) (by omega) (by omega) (by omega), lo (16 + j) (by omega) (by omega) (by omega)]
        exact v
      · exact ⟨k, (hst k).mpr (Or.inr rfl), by rw [l8, l16]; exact v⟩
    · rintro ⟨j, u, v⟩
      rcases (hst j).mp u with u1 | u1
      · have e := (hof j u1).1
        have := u1.1
        rw [lo (8 + j) (by omega) (by omega) (by omega), lo (16 + j) (by omega) (by omega) (by omega)] at v
        exact Or.inl ⟨j, u1, v⟩
      · rw [u1, l8, l16] at v
        exact Or.inr v
  · rw [lf 5 (by omega) (by omega) (by omega) (by omega)] at hj
    rw [lf _ (by omega) (by omega) (by omega) (by omega), lo _ (by omega) (by omega) (by omega)]
    exact hL j hj
  · have uj := u.1
    have ul := v.1
    rcases (hst j).mp u with u1 | u1
    · have e1 := hof j u1
      rw [lo (8 + j) (by omega) (by omega) (by omega), lo (16 + j) (by omega) (by omega) (by omega)]
      rcases (hst l).mp v with v1 | v1
      · have e2 := hof l v1
        rw [lo (8 + l) (by omega) (by omega) (by omega), lo (16 + l) (by omega) (by omega) (by omega)]
        exact hD j l u1 v1 w
      · rw [v1, l8, l16]; omega
    · rcases (hst l).mp v with v1 | v1
      · have e2 := hof l v1
        rw [u1, l8, l16, lo (8 + l) (by omega) (by omega) (by omega), lo (16 + l) (by omega) (by omega) (by omega)]; omega
      · omega
  · have e : ¬ j = k := fun e => hn2 ((hst j).mpr (Or.inr e))
    rw [lo (24 + j) (by omega) (by omega) (by omega)]
    exact hZ j hj (fun q => hn2 ((hst j).mpr (Or.inl q)))
