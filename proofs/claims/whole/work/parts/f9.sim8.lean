/-! ===== rows without their books ===== -/
theorem RQ.ext {f f' a a' : Int → Int} (h : RQ f a) (h5 : f 5 = 0) (hf : ∀ j, 0 ≤ j ∧ j < 30 → f' j = f j) (ha : ∀ j, 4 ≤ j ∧ j < 32 → a' j = a j) : RQ f' a' := by
  obtain ⟨h7, h4, h5', h6, hA, h3, ht, hL, hD, hZ⟩ := id h
  have hc := st_congr (a := a') (b := a) (fun q hq => ha q (by omega))
  have hst : ∀ q, md_stands a' q ↔ md_stands a q := fun q => by
    constructor
    · rintro ⟨u, v⟩; rw [ha _ (by omega)] at v; exact ⟨u, v⟩
    · rintro ⟨u, v⟩; exact ⟨u, by rw [ha _ (by omega)]; exact v⟩
  refine ⟨?_, ?_, ?_, ?_, fun k hk => ?_, ?_, ?_, fun q hq => ?_, fun k l u v w => ?_, fun k hk hn => ?_⟩
  · rw [ha 7 (by omega), hf 0 (by omega)]; exact h7
  · rw [ha 4 (by omega), hf 1 (by omega)]; exact h4
  · rw [ha 5 (by omega), hf 2 (by omega)]; exact h5'
  · rw [ha 6 (by omega), hf 5 (by omega)]; exact h6
  · rw [ha _ (by omega), ha _ (by omega), ha _ (by omega), hf _ (by omega), hf _ (by omega), hf _ (by omega)]; exact hA k hk
  · rw [hf 3 (by omega), hc.1]; exact h3
  · rw [hf 4 (by omega), hc.2]; exact ht
  · rw [hf 5 (by omega), h5] at hq; omega
  · have := u.1
    have := v.1
    rw [ha _ (by omega), ha (8 + l) (by omega), ha (16 + k) (by omega), ha (16 + l) (by omega)]
    exact hD k l ((hst k).mp u) ((hst l).mp v) w
  · rw [ha _ (by omega)]; exact hZ k hk (fun z => hn ((hst k).mpr z))
theorem RQ.bare {f a : Int → Int} (h : RQ f a) : RQ (up f 5 0) (up a 6 0) := by
  obtain ⟨h7, h4, h5, h6, hA, h3, ht, hL, hD, hZ⟩ := id h
  have hc := st_congr (a := up a 6 0) (b := a) (fun q hq => up_n (by omega))
  have hst : ∀ q, md_stands (up a 6 0) q ↔ md_stands a q := fun q => by
    constructor
    · rintro ⟨u, v⟩; rw [up_n (by omega)] at v; exact ⟨u, v⟩
    · rintro ⟨u, v⟩; exact ⟨u, by rw [up_n (by omega)]; exact v⟩
  refine ⟨?_, ?_, ?_, ?_, fun k hk => ?_, ?_, ?_, fun q hq => ?_, fun k l u v w => ?_, fun k hk hn => ?_⟩
  · rw [up_n (by omega), up_n (by omega)]; exact h7
  · rw [up_n (by omega), up_n (by omega)]; exact h4
  · rw [up_n (by omega), up_n (by omega)]; exact h5
  · rw [up_s, up_s]
  · rw [up_n (by omega), up_n (by omega), up_n (by omega), up_n (by omega), up_n (by omega), up_n (by omega)]; exact hA k hk
  · rw [up_n (by omega), hc.1]; exact h3
  · rw [up_n (by omega), hc.2]; exact ht
  · rw [up_s] at hq; omega
  · have := u.1
    have := v.1
    rw [up_n (by omega), up_n (by omega), up_n (by omega), up_n (by omega)]
    exact hD k l ((hst k).mp u) ((hst l).mp v) w
  · rw [up_n (by omega)]; exact hZ k hk (fun z => hn ((hst k).mpr z))
