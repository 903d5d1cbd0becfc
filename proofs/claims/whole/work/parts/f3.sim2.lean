/-! ===== the rows' steps side by side ===== -/
theorem bor_mul {x y : Int} (m : Nat) (hx : 0 ≤ x) (hy : 0 ≤ y) (h : y < 2 ^ m) : bor (x * 2 ^ m) y = x * 2 ^ m + y := by
  obtain ⟨a, rfl⟩ : ∃ a : Nat, x = a := ⟨x.toNat, by omega⟩
  obtain ⟨b, rfl⟩ : ∃ b : Nat, y = b := ⟨y.toNat, by omega⟩
  have e : (a : Int) * 2 ^ m = ((2 ^ m * a : Nat) : Int) := by rw [Int.natCast_mul, Int.natCast_pow, Int.mul_comm]; rfl
  have hb : b < 2 ^ m := by
    have : ((2 ^ m : Nat) : Int) = 2 ^ m := by rw [Int.natCast_pow]; rfl
    omega
  unfold bor
  rw [e, Int.toNat_natCast, Int.toNat_natCast, ← Nat.two_pow_add_eq_or_of_lt hb a]
  omega
theorem rw_line_e {f : Int → Int} {n k p : Int} (h1 : 0 ≤ f 1) (hn : 1 ≤ n ∧ n ≤ 8) (hk : 0 ≤ k ∧ k ≤ 2) (hp : 0 ≤ p ∧ p ≤ 15) : rw_line f n k p = f 1 * 1024 + n * 64 + k * 16 + p := by
  unfold rw_line
  have e1 : bor (f 1 * 1024) (n * 64) = f 1 * 1024 + n * 64 := bor_mul 10 h1 (by omega) (by omega)
  have e2 : bor (f 1 * 1024 + n * 64) (k * 16) = f 1 * 1024 + n * 64 + k * 16 := by
    have := bor_mul (x := f 1 * 16 + n) (y := k * 16) 6 (by omega) (by omega) (by omega)
    rw [show (f 1 * 16 + n) * 2 ^ 6 = f 1 * 1024 + n * 64 by omega] at this
    exact this
  have e3 : bor (f 1 * 1024 + n * 64 + k * 16) p = f 1 * 1024 + n * 64 + k * 16 + p := by
    have := bor_mul (x := f 1 * 64 + n * 4 + k) (y := p) 4 (by omega) (by omega) (by omega)
    rw [show (f 1 * 64 + n * 4 + k) * 2 ^ 4 = f 1 * 1024 + n * 64 + k * 16 by omega] at this
    exact this
  rw [e1, e2, e3]
theorem md_write_lo {a : Int → Int} {k q j : Int} (h6 : 0 ≤ a 6) (h : j < 1638) (hj : ¬ j = 6) : md_write a k q j = a j := by
  unfold md_write
  split
  · rw [up_n hj, up_n (by omega), up_n hj]
    unfold md_sh
    rw [if_neg (by omega)]
  · rw [up_n hj, up_n (by omega)]
theorem st_congr {a b : Int → Int} (h : ∀ j, 8 ≤ j ∧ j < 24 → a j = b j) : md_standing a = md_standing b ∧ md_taken a = md_taken b := by
  have hst : ∀ j, md_stands a j ↔ md_stands b j := fun j => by
    constructor
    · rintro ⟨u, v⟩; exact ⟨u, by rw [← h (8 + j) (by omega)]; exact v⟩
    · rintro ⟨u, v⟩; exact ⟨u, by rw [h (8 + j) (by omega)]; exact v⟩
  constructor
  · unfold md_standing
    exact lpF_congr (lo := 0) (hi := 8) (fun j s hj => by
      unfold md_stg
      by_cases z : md_stands a j
      · rw [if_pos z, if_pos ((hst j).mp z)]
      · rw [if_neg z, if_neg (fun y => z ((hst j).mpr y))]) 8 0 0 (by omega) (by omega)
  · unfold md_taken
    exact lpF_congr (lo := 0) (hi := 8) (fun j s hj => by
      unfold md_tkg
      by_cases z : md_stands a j
      · rw [if_pos z, if_pos ((hst j).mp z)]
        unfold md_pl
        rw [h (8 + j) (by omega), h (16 + j) (by omega)]
      · rw [if_neg z, if_neg (fun y => z ((hst j).mpr y))]) 8 0 0 (by omega) (by omega)
theorem RQ.write {f a : Int → Int} (h : RQ f a) (hv : MV a) {k q : Int} (hk : 0 ≤ k ∧ k ≤ 7) (hq : 0 ≤ q ∧ q ≤ 2) (hp : 0 ≤ a (8 + k)) : RQ (rw_write f (k + 1) q (a (8 + k))) (md_write a k q) := by
  obtain ⟨h7, h4, h5, h6, hA, h3, ht, hL, hD, hZ⟩ := id h
  have hv2 := hv.2
  have hpb := (hv.at hk).1
  have b6 : 0 ≤ a 6 ∧ a 6 ≤ 25 := hv2.2.2.2.2.2.2.1
  have b4 : 0 ≤ a 4 ∧ a 4 ≤ 9999 := hv2.2.2.2.2.1
  have lo : ∀ j, j < 1638 → ¬ j = 6 → md_write a k q j = a j := fun j u v => md_write_lo b6.1 u v
  have lf : ∀ j, j < 30 → ¬ j = 5 → rw_write f (k + 1) q (a (8 + k)) j = f j := fun j u v => rw_write_lo (by omega) u v
  have hst : ∀ j, md_stands (md_write a k q) j ↔ md_stands a j := fun j => by
    constructor
    · rintro ⟨u, v⟩; rw [lo (8 + j) (by omega) (by omega)] at v; exact ⟨u, v⟩
    · rintro ⟨u, v⟩; exact ⟨u, by rw [lo (8 + j) (by omega) (by omega)]; exact v⟩
  have hst2 := st_congr (a := md_write a k q) (b := a) (fun j hj => lo j (by omega) (by omega))
  have es := hst2.1
  have et := hst2.2
  have hln : LNq (rw_line f (k + 1) q (a (8 + k))) (md_wl a k q) := by
    refine ⟨a 4, k + 1, q, a (8 + k), b4, by omega, hq, by omega, ?_, ?_⟩
    · rw [rw_line_e (by omega) (by omega) hq (by omega), ← h4]
    · unfold md_wl; omega
  refine ⟨?_, ?_, ?_, ?_, fun j hj => ?_, ?_, ?_, fun j hj => ?_, fun j l u v w => ?_, fun j hj hn => ?_⟩
  · rw [lo 7 (by omega) (by omega), lf 0 (by omega) (by omega)]; exact h7
  · rw [lo 4 (by omega) (by omega), lf 1 (by omega) (by omega)]; exact h4
  · rw [lo 5 (by omega) (by omega), lf 2 (by omega) (by omega)]; exact h5
  · unfold rw_write md_write
    by_cases z : a 6 = 25
    · rw [if_pos z, if_pos (by omega), up_s, up_s]
    · rw [if_neg z, if_neg (by omega), up_s, up_s, h6]
  · rw [lo _ (by omega) (by omega), lo _ (by omega) (by omega), lo _ (by omega) (by omega), lf _ (by omega) (by omega), lf _ (by omega) (by omega), lf _ (by omega) (by omega)]; exact hA j hj
  · rw [lf 3 (by omega) (by omega), es]; exact h3
  · rw [lf 4 (by omega) (by omega), et]; exact ht
  · unfold rw_write at hj ⊢
    unfold md_write
    by_cases z : a 6 = 25
    · rw [if_pos (show 25 ≤ f 5 by omega)] at hj ⊢
      rw [if_pos z]
      rw [up_s] at hj
      rw [up_n (show ¬ 30 + j = 5 by omega), up_n (show ¬ 1638 + j = 6 by omega)]
      by_cases e : j = 24
      · subst e
        rw [show (30 : Int) + 24 = 54 from rfl, show (1638 : Int) + 24 = 1662 from rfl, up_s, up_s]; exact hln
      · rw [up_n (by omega), up_n (by omega), up_n (by omega)]
        unfold cpy md_sh
        rw [if_pos (by omega), if_pos (by omega), show 31 + (30 + j - 30) = 30 + (j + 1) by omega, show 1638 + j + 1 = 1638 + (j + 1) by omega]
        exact hL (j + 1) (by omega)
    · rw [if_neg (show ¬ 25 ≤ f 5 by omega)] at hj ⊢
      rw [if_neg z]
      rw [up_s] at hj
      rw [up_n (show ¬ 30 + j = 5 by omega), up_n (show ¬ 1638 + j = 6 by omega), h6]
      by_cases e : j = f 5
      · subst e
        rw [up_s, up_s]; exact hln
      · rw [up_n (by omega), up_n (by omega)]
        exact hL j (by omega)
  · rw [lo _ (by have := u.1; omega) (by have := u.1; omega), lo (8 + l) (by have := v.1; omega) (by have := v.1; omega), lo (16 + j) (by have := u.1; omega) (by have := u.1; omega), lo (16 + l) (by have := v.1; omega) (by have := v.1; omega)]
    exact hD j l ((hst j).mp u) ((hst l).mp v) w
  · rw [lo (24 + j) (by omega) (by omega)]
    exact hZ j hj (fun z => hn ((hst j).mpr z))
