/-! ===== small steps side by side ===== -/
theorem RQ.enter {f a : Int → Int} (h : RQ f a) (hv : MV a) {k p z : Int} (hk : 0 ≤ k ∧ k ≤ 7) (hn : a (8 + k) = -1) (hp : 0 ≤ p ∧ p < z ∧ z < a 7) (hfr : ¬ bt (md_taken a) p.toNat ∧ ¬ bt (md_taken a) z.toNat) : RQ (rw_enter f (k + 1) p z) (md_write (up (up (up a (8 + k) p) (16 + k) z) (24 + k) 0) k 0) := by
  have h1 := h.came hv hk hn hp hfr
  have hv' := MV_came hv hk hp
  have l8 : (up (up (up a (8 + k) p) (16 + k) z) (24 + k) 0) (8 + k) = p := by rw [up_n (by omega), up_n (by omega), up_s]
  have h2 := h1.write hv' hk (q := 0) (by omega) (by rw [l8]; omega)
  rw [l8] at h2
  unfold rw_enter rw_ent
  rw [show 5 + (k + 1) = 6 + k by omega, show 13 + (k + 1) = 14 + k by omega, show k + 1 - 1 = k by omega]
  exact h2
theorem RQ.set {f a : Int → Int} (h : RQ f a) {i j : Int} (hij : (i = 0 ∧ j = 7) ∨ (i = 1 ∧ j = 4) ∨ (i = 2 ∧ j = 5)) (x : Int) : RQ (up f i x) (up a j x) := by
  obtain ⟨h7, h4, h5, h6, hA, h3, ht, hL, hD, hZ⟩ := id h
  have hc := st_congr (a := up a j x) (b := a) (fun q hq => up_n (by omega))
  have e : ∀ u v : Int, ((u = 0 ∧ v = 7) ∨ (u = 1 ∧ v = 4) ∨ (u = 2 ∧ v = 5)) → a v = f u → up a j x v = up f i x u := fun u v huv q => by
    by_cases z : u = i
    · have z2 : v = j := by omega
      rw [z, z2, up_s, up_s]
    · rw [up_n z, up_n (show ¬ v = j by omega)]; exact q
  have hst : ∀ q, md_stands (up a j x) q ↔ md_stands a q := fun q => by
    constructor
    · rintro ⟨u, v⟩; rw [up_n (by omega)] at v; exact ⟨u, v⟩
    · rintro ⟨u, v⟩; exact ⟨u, by rw [up_n (by omega)]; exact v⟩
  refine ⟨e 0 7 (by omega) h7, e 1 4 (by omega) h4, e 2 5 (by omega) h5, ?_, fun k hk => ?_, ?_, ?_, fun q hq => ?_, fun k l u v w => ?_, fun k hk hn => ?_⟩
  · rw [up_n (by omega), up_n (by omega)]; exact h6
  · rw [up_n (by omega), up_n (by omega), up_n (by omega), up_n (by omega), up_n (by omega), up_n (by omega)]; exact hA k hk
  · rw [up_n (by omega), hc.1]; exact h3
  · rw [up_n (by omega), hc.2]; exact ht
  · rw [up_n (by omega)] at hq
    rw [up_n (by omega), up_n (by omega)]; exact hL q hq
  · have := u.1
    have := v.1
    rw [up_n (by omega), up_n (by omega), up_n (by omega), up_n (by omega)]
    exact hD k l ((hst k).mp u) ((hst l).mp v) w
  · rw [up_n (by omega)]; exact hZ k hk (fun z => hn ((hst k).mpr z))
theorem RQ.older {f a : Int → Int} (h : RQ f a) {k : Int} (hs : md_stands a k) (x : Int) : RQ (up f (22 + k) x) (up a (24 + k) x) := by
  obtain ⟨h7, h4, h5, h6, hA, h3, ht, hL, hD, hZ⟩ := id h
  have hk := hs.1
  have hc := st_congr (a := up a (24 + k) x) (b := a) (fun q hq => up_n (by omega))
  have hst : ∀ q, md_stands (up a (24 + k) x) q ↔ md_stands a q := fun q => by
    constructor
    · rintro ⟨u, v⟩; rw [up_n (by omega)] at v; exact ⟨u, v⟩
    · rintro ⟨u, v⟩; exact ⟨u, by rw [up_n (by omega)]; exact v⟩
  refine ⟨?_, ?_, ?_, ?_, fun q hq => ?_, ?_, ?_, fun q hq => ?_, fun q l u v w => ?_, fun q hq hn => ?_⟩
  · rw [up_n (by omega), up_n (by omega)]; exact h7
  · rw [up_n (by omega), up_n (by omega)]; exact h4
  · rw [up_n (by omega), up_n (by omega)]; exact h5
  · rw [up_n (by omega), up_n (by omega)]; exact h6
  · have h1 := hA q hq
    rw [up_n (show ¬ 8 + q = 24 + k by omega), up_n (show ¬ 16 + q = 24 + k by omega), up_n (show ¬ 6 + q = 22 + k by omega), up_n (show ¬ 14 + q = 22 + k by omega)]
    refine ⟨h1.1, h1.2.1, ?_⟩
    by_cases e : q = k
    · rw [e, up_s, up_s]
    · rw [up_n (by omega), up_n (by omega)]; exact h1.2.2
  · rw [up_n (by omega), hc.1]; exact h3
  · rw [up_n (by omega), hc.2]; exact ht
  · rw [up_n (by omega)] at hq
    rw [up_n (by omega), up_n (by omega)]; exact hL q hq
  · have := u.1
    have := v.1
    rw [up_n (by omega), up_n (by omega), up_n (by omega), up_n (by omega)]
    exact hD q l ((hst q).mp u) ((hst l).mp v) w
  · have hq2 : ¬ md_stands a q := fun z => hn ((hst q).mpr z)
    have e : ¬ q = k := fun e => hq2 (by rw [e]; exact hs)
    rw [up_n (by omega)]; exact hZ q hq hq2
