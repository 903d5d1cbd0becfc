/-! ===== as both begin ===== -/
theorem iS_14 : iS 14 = rw0 := by funext j; simp [iS]
theorem iS_30 : iS 30 = rw0 := by funext j; simp [iS]
theorem iS_z {x : Nat} (h : x = 1 ∨ x = 2 ∨ x = 17 ∨ x = 18 ∨ x = 19 ∨ x = 20 ∨ x = 22 ∨ x = 25 ∨ (31 ≤ x ∧ x ≤ 34)) (j : Int) : iS x j = 0 := by
  unfold iS
  rw [if_neg (by omega), if_neg (by omega), if_neg (by omega), if_neg (by omega), if_neg (by omega), if_neg (by omega)]
theorem a0_e : iT 37 = iTi 8 37 := upS_n (by decide)
theorem a0_v (j : Int) : iTi 8 37 j = if j = 7 then 8 else if j = 1 then -1 else if j = 5 then 443 else if (8 ≤ j ∧ j < 16) ∨ (16 ≤ j ∧ j < 24) then -1 else 0 := by
  show (if (37 : Nat) = 37 then _ else _) = _
  rw [if_pos rfl]
  rfl
theorem a0_z {j : Int} (h : ¬ j = 7 ∧ ¬ j = 1 ∧ ¬ j = 5 ∧ ¬ (8 ≤ j ∧ j < 24)) : iTi 8 37 j = 0 := by
  rw [a0_v, if_neg h.1, if_neg h.2.1, if_neg h.2.2.1, if_neg (by omega)]
theorem a0_p {j : Int} (h : 8 ≤ j ∧ j < 24) : iTi 8 37 j = -1 := by
  rw [a0_v, if_neg (by omega), if_neg (by omega), if_neg (by omega), if_pos (by omega)]
theorem a0_7 : iTi 8 37 7 = 8 := by rw [a0_v, if_pos rfl]
theorem a0_1 : iTi 8 37 1 = -1 := by rw [a0_v, if_neg (by decide), if_pos rfl]
theorem a0_5 : iTi 8 37 5 = 443 := by rw [a0_v, if_neg (by decide), if_neg (by decide), if_pos rfl]
theorem rw0_z {j : Int} (h : ¬ j = 0 ∧ ¬ j = 2 ∧ ¬ (6 ≤ j ∧ j ≤ 21)) : rw0 j = 0 := by
  unfold rw0
  rw [if_neg h.1, if_neg h.2.1, if_neg h.2.2]
theorem rw0_p {j : Int} (h : 6 ≤ j ∧ j ≤ 21) : rw0 j = -1 := by
  unfold rw0
  rw [if_neg (by omega), if_neg (by omega), if_pos h]
theorem rw0_0 : rw0 0 = 8 := by decide
theorem rw0_2 : rw0 2 = 443 := by decide
theorem rw0_B : Bd rw0 := fun j => by
  unfold rw0
  split
  · omega
  · split
    · omega
    · split <;> omega
theorem a0_B : Bd (iTi 8 37) := fun j => by
  rw [a0_v]
  split
  · omega
  · split
    · omega
    · split
      · omega
      · split <;> omega
theorem a0_MV : MV (iTi 8 37) := by
  refine ⟨a0_B, ?_, ?_, ?_, ?_, ?_, ?_, ?_, ?_, fun k hk => ?_⟩
  · rw [a0_z (by omega)]; omega
  · rw [a0_1, a0_z (by omega)]; omega
  · rw [a0_z (by omega)]; omega
  · rw [a0_z (by omega)]; omega
  · rw [a0_z (by omega)]; omega
  · rw [a0_5]; omega
  · rw [a0_z (by omega)]; omega
  · rw [a0_7]; omega
  · rw [a0_p (j := 8 + k) (by omega), a0_p (j := 16 + k) (by omega), a0_z (j := 24 + k) (by omega), a0_7]; omega
theorem a0_ns (k : Int) : ¬ md_stands (iTi 8 37) k := fun z => z.2 (a0_p (by have := z.1; omega))
theorem start_rp : RPM rw0 (iTi 8 37) := by
  have hs : md_standing (iTi 8 37) = 0 := (std_ext (by omega) (by omega) (fun i hi => ⟨fun z => absurd z (bt_0 i), fun z => absurd z (a0_ns _)⟩)).symm
  have ht : md_taken (iTi 8 37) = 0 := (std_zero a0_MV).mpr hs
  have hq : RQ rw0 (iTi 8 37) := by
    refine ⟨?_, ?_, ?_, ?_, fun k hk => ?_, ?_, ?_, fun q hq => ?_, fun k l u => absurd u (a0_ns k), fun k hk _ => a0_z (by omega)⟩
    · rw [a0_7, rw0_0]
    · rw [a0_z (by omega), rw0_z (by omega)]
    · rw [a0_5, rw0_2]
    · rw [a0_z (by omega), rw0_z (by omega)]
    · rw [a0_p (by omega), a0_p (by omega), a0_z (by omega), rw0_p (by omega), rw0_p (by omega), rw0_z (by omega)]
      exact ⟨rfl, rfl, rfl⟩
    · rw [rw0_z (by omega), hs]
    · rw [rw0_z (by omega), ht]
    · rw [rw0_z (by omega)] at hq; omega
  have hl : ML (iTi 8 37) := fun q hq => by rw [a0_z (by omega)]; omega
  exact ⟨RX_of hq a0_MV rw0_B (fun q hq => by rw [rw0_z (by omega)]; omega), hq, a0_MV, hl⟩
theorem start_co : COS iS (iTi 8 37) := by
  have z : ∀ x j, (x = 17 ∨ x = 18 ∨ x = 19 ∨ x = 20) → iS x j = 0 := fun x j h => iS_z (by omega) j
  unfold COS
  rw [iS_14, z 17 1 (by omega), z 17 2 (by omega), z 19 1 (by omega)]
  refine ⟨start_rp, ⟨by omega, by omega, a0_z (by omega), fun i hi => by omega⟩, ⟨a0_z (by omega), by omega, fun i hi => by omega⟩, ?_, ?_⟩
  · rw [a0_z (by omega)]; decide
  · rw [a0_1]; decide
theorem start_im : COI iS (iT 38) := by
  have e : iT 38 = cpk (iTi 8 37) (iTi 8 38) 1663 := upS_s _ _ _
  have hB : Bd (iTi 8 38) := fun j => by
    have : iTi 8 38 j = 0 := by
      show (if (38 : Nat) = 37 then _ else iT0 38 j) = 0
      rw [if_neg (by decide)]
      unfold iT0
      rw [if_neg (by omega), if_neg (by omega)]
    rw [this]; omega
  have h := start_co
  unfold COS at h
  have hc := CO.ex (f' := iS 30) (g' := iS 32) (y' := iS 34) (a' := iT 38) h (by rw [iS_30]; exact rw0_B) (fun j _ => by rw [iS_30, iS_14]) (fun j _ => by rw [iS_z (by omega), iS_z (by omega)]) (fun j _ => by rw [iS_z (by omega), iS_z (by omega)]) (by rw [e]; exact Bd_cpk a0_B hB _) (fun j hj => by rw [e]; exact cpk_in hj)
  exact hc
theorem start_sim : SIM 0 iS iT [] := by
  have t40 : ∀ j : Int, iT 40 j = 0 := fun j => rfl
  refine ⟨by rw [a0_e]; exact start_co, start_im, ?_, fun q hq => ?_, ⟨⟨fun n hn => ?_, fun z => absurd z (by decide), Or.inr (by decide), by decide, fun i _ => Or.inl (iS_z (by omega) i)⟩, fun z => absurd z (by decide)⟩, by decide, by decide, fun y => ?_, ⟨by decide, ⟨by decide, fun j _ => ?_⟩, fun k _ => ?_⟩, by decide, by decide⟩
  · have e : iT 38 0 = iTi 8 37 0 := by
      show upS (iTi 8) 38 (cpk (iTi 8 37) (iTi 8 38) 1663) 38 0 = _
      rw [upS_s]; exact cpk_in (by omega)
    rw [e, a0_e]; exact Int.le_refl _
  · rw [a0_e, a0_z (by omega)] at hq; omega
  · rw [iS_z (by omega)]; omega
  · have : iT 39 y = 0 := rfl
    rw [this]; omega
  · rw [t40]; omega
  · rw [t40, iS_z (by omega)]; rfl
