/-! ===== what both keep: rows, steps, sayings ===== -/
theorem RQ.exA {f a a' : Int → Int} (h : RQ f a) (h5 : f 5 ≤ 25) (ha : ∀ j, (4 ≤ j ∧ j < 32) ∨ (1638 ≤ j ∧ j < 1663) → a' j = a j) : RQ f a' := by
  obtain ⟨h7, h4, h5', h6, hA, h3, ht, hL, hD, hZ⟩ := id h
  have hc := st_congr (a := a') (b := a) (fun q hq => ha q (by omega))
  have hst : ∀ q, md_stands a' q ↔ md_stands a q := fun q => by
    constructor
    · rintro ⟨u, v⟩; rw [ha _ (by omega)] at v; exact ⟨u, v⟩
    · rintro ⟨u, v⟩; exact ⟨u, by rw [ha _ (by omega)]; exact v⟩
  refine ⟨?_, ?_, ?_, ?_, fun k hk => ?_, ?_, ?_, fun q hq => ?_, fun k l u v w => ?_, fun k hk hn => ?_⟩
  · rw [ha 7 (by omega)]; exact h7
  · rw [ha 4 (by omega)]; exact h4
  · rw [ha 5 (by omega)]; exact h5'
  · rw [ha 6 (by omega)]; exact h6
  · rw [ha _ (by omega), ha _ (by omega), ha _ (by omega)]; exact hA k hk
  · rw [hc.1]; exact h3
  · rw [hc.2]; exact ht
  · rw [ha _ (by omega)]; exact hL q hq
  · have := u.1
    have := v.1
    rw [ha _ (by omega), ha (8 + l) (by omega), ha (16 + k) (by omega), ha (16 + l) (by omega)]
    exact hD k l ((hst k).mp u) ((hst l).mp v) w
  · rw [ha _ (by omega)]; exact hZ k hk (fun z => hn ((hst k).mpr z))
theorem RQ.exF {f f' a : Int → Int} (h : RQ f a) (h5 : f 5 ≤ 25) (hf : ∀ j, 0 ≤ j ∧ j < 55 → f' j = f j) : RQ f' a := by
  obtain ⟨h7, h4, h5', h6, hA, h3, ht, hL, hD, hZ⟩ := id h
  refine ⟨?_, ?_, ?_, ?_, fun k hk => ?_, ?_, ?_, fun q hq => ?_, hD, hZ⟩
  · rw [hf 0 (by omega)]; exact h7
  · rw [hf 1 (by omega)]; exact h4
  · rw [hf 2 (by omega)]; exact h5'
  · rw [hf 5 (by omega)]; exact h6
  · rw [hf _ (by omega), hf _ (by omega), hf _ (by omega)]; exact hA k hk
  · rw [hf 3 (by omega)]; exact h3
  · rw [hf 4 (by omega)]; exact ht
  · rw [hf 5 (by omega)] at hq; rw [hf _ (by omega)]; exact hL q hq
/-- the row's part of MV -/
def MR (a : Int → Int) : Prop := Bd a ∧ (0 ≤ a 4 ∧ a 4 ≤ 9999) ∧ (0 ≤ a 5 ∧ a 5 < 31019) ∧ (0 ≤ a 6 ∧ a 6 ≤ 25) ∧ (1 ≤ a 7 ∧ a 7 ≤ 16) ∧ ∀ k, 0 ≤ k ∧ k ≤ 7 → (-1 ≤ a (8 + k) ∧ a (8 + k) ≤ 15) ∧ (-1 ≤ a (16 + k) ∧ a (16 + k) ≤ 15) ∧ (0 ≤ a (8 + k) → a (8 + k) < a (16 + k) ∧ a (16 + k) < a 7) ∧ (0 ≤ a (24 + k) ∧ a (24 + k) ≤ 99)
theorem MV.mr {a : Int → Int} (h : MV a) : MR a := ⟨h.1, h.2.2.2.2.2.1, h.2.2.2.2.2.2.1, h.2.2.2.2.2.2.2.1, h.2.2.2.2.2.2.2.2.1, h.2.2.2.2.2.2.2.2.2⟩
theorem MR.mv {a : Int → Int} (h : MR a) (h0 : 0 ≤ a 0 ∧ a 0 ≤ 4) (h1 : -1 ≤ a 1 ∧ a 1 < a 0) (h2 : 0 ≤ a 2 ∧ a 2 ≤ 30) (h3 : 0 ≤ a 3 ∧ a 3 ≤ 8) : MV a := ⟨h.1, h0, h1, h2, h3, h.2.1, h.2.2.1, h.2.2.2.1, h.2.2.2.2.1, h.2.2.2.2.2⟩
theorem MR.ex {a a' : Int → Int} (h : MR a) (hB : Bd a') (ha : ∀ j, 4 ≤ j ∧ j < 32 → a' j = a j) : MR a' := by
  obtain ⟨_, h4, h5, h6, h7, hA⟩ := h
  refine ⟨hB, ?_, ?_, ?_, ?_, fun k hk => ?_⟩
  · rw [ha 4 (by omega)]; exact h4
  · rw [ha 5 (by omega)]; exact h5
  · rw [ha 6 (by omega)]; exact h6
  · rw [ha 7 (by omega)]; exact h7
  · rw [ha (8 + k) (by omega), ha (16 + k) (by omega), ha (24 + k) (by omega), ha 7 (by omega)]; exact hA k hk
theorem ML.ex {a a' : Int → Int} (h : ML a) (ha : ∀ j, 1638 ≤ j ∧ j < 1663 → a' j = a j) : ML a' := fun q hq => by
  rw [ha _ (by omega)]; exact h q hq
/-- a row and its like -/
def RP (f a : Int → Int) : Prop := RX f ∧ RQ f a ∧ MR a ∧ ML a
theorem RP.exA {f a a' : Int → Int} (h : RP f a) (hB : Bd a') (ha : ∀ j, (4 ≤ j ∧ j < 32) ∨ (1638 ≤ j ∧ j < 1663) → a' j = a j) : RP f a' :=
  ⟨h.1, h.2.1.exA h.1.1.2.2.2.2.2.2.1.2 ha, h.2.2.1.ex hB (fun j hj => ha j (Or.inl hj)), h.2.2.2.ex (fun j hj => ha j (Or.inr hj))⟩
theorem RP.exF {f f' a : Int → Int} (h : RP f a) (hB : Bd f') (hf : ∀ j, 0 ≤ j ∧ j < 55 → f' j = f j) : RP f' a :=
  ⟨RX_ag h.1 hB hf, h.2.1.exF h.1.1.2.2.2.2.2.2.1.2 hf, h.2.2⟩
/-- a row in the ring -/
def rr (g : Int → Int) (p : Int) : Int → Int := fun j => if 0 ≤ j ∧ j < 55 then g (p * 55 + j) else 0
/-- a step in the reference's list, as a row -/
def sA (a : Int → Int) (i : Int) : Int → Int := fun j => if 4 ≤ j ∧ j < 32 then a (48 + 53 * i + (j - 4)) else if 1638 ≤ j ∧ j < 1663 then a (48 + 53 * i + 28 + (j - 1638)) else a j
theorem sA_Bd {a : Int → Int} (h : Bd a) (i : Int) : Bd (sA a i) := fun j => by
  unfold sA
  split
  · exact h _
  · split <;> exact h _
theorem rr_Bd {f g : Int → Int} {p : Int} (h : RX f) (e : ∀ j, 0 ≤ j ∧ j < 55 → rr g p j = f j) : Bd (rr g p) := fun j => by
  by_cases hj : 0 ≤ j ∧ j < 55
  · rw [e j hj]; exact h.1.1 j
  · unfold rr; rw [if_neg hj]; omega
def SRq (g : Int → Int) (nx ct : Int) (a : Int → Int) : Prop := (0 ≤ nx ∧ nx ≤ 29) ∧ (0 ≤ ct ∧ ct ≤ 30) ∧ a 2 = ct ∧ ∀ i, 0 ≤ i ∧ i < ct → RP (rr g ((nx + 30 - ct + i) % 30)) (sA a i)
theorem SRq.exA {g : Int → Int} {nx ct : Int} {a a' : Int → Int} (h : SRq g nx ct a) (hB : Bd a') (h2 : a' 2 = a 2) (ha : ∀ j, 48 ≤ j ∧ j < 1638 → a' j = a j) : SRq g nx ct a' := by
  refine ⟨h.1, h.2.1, h2.trans h.2.2.1, fun i hi => (h.2.2.2 i hi).exA (sA_Bd hB i) (fun j hj => ?_)⟩
  have := h.2.1
  unfold sA
  rcases hj with hj | hj
  · rw [if_pos hj, if_pos hj]; exact ha _ (by omega)
  · rw [if_neg (by omega), if_pos hj, if_neg (by omega), if_pos hj]; exact ha _ (by omega)
theorem SRq.exG {g g' : Int → Int} {nx ct : Int} {a : Int → Int} (h : SRq g nx ct a) (hg : ∀ j, 0 ≤ j ∧ j < 1650 → g' j = g j) : SRq g' nx ct a := by
  refine ⟨h.1, h.2.1, h.2.2.1, fun i hi => ?_⟩
  have h1 := h.1
  have hr := h.2.2.2 i hi
  have e : rr g' ((nx + 30 - ct + i) % 30) = rr g ((nx + 30 - ct + i) % 30) := by
    funext j
    unfold rr
    by_cases hj : 0 ≤ j ∧ j < 55
    · rw [if_pos hj, if_pos hj]; exact hg _ (by omega)
    · rw [if_neg hj, if_neg hj]
  rw [e]; exact hr
theorem kpf_B {b : Int → Int} (h : Bd b) (h2 : 0 ≤ b 2 ∧ b 2 ≤ 30) : Bd (kp_fin b) := fun j => by
  unfold kp_fin up
  split
  · omega
  · unfold blit
    split
    · split
      · exact h _
      · exact h _
    · split
      · exact h _
      · exact h _
theorem kpf_n {b : Int → Int} {j : Int} (hj : ¬ j = 2) (hk : ¬ (kp_x b ≤ j ∧ j < kp_x b + 53)) : kp_fin b j = b j := by
  unfold kp_fin
  rw [up_n hj]
  unfold blit
  rw [if_neg (by omega), if_neg (by omega)]
theorem kpf_lo {b : Int → Int} {j : Int} (h2 : 0 ≤ b 2 ∧ b 2 ≤ 29) (hk : 4 ≤ j ∧ j < 32) : kp_fin b (kp_x b + (j - 4)) = b j := by
  unfold kp_fin
  rw [up_n (by unfold kp_x; omega)]
  unfold blit
  rw [if_neg (by omega), if_pos (by omega)]
  congr 1
  omega
theorem kpf_hi {b : Int → Int} {j : Int} (h2 : 0 ≤ b 2 ∧ b 2 ≤ 29) (hk : 1638 ≤ j ∧ j < 1663) : kp_fin b (kp_x b + 28 + (j - 1638)) = b j := by
  unfold kp_fin
  rw [up_n (by unfold kp_x; omega)]
  unfold blit
  have : kp_x b ≤ 48 + 53 * 29 := by unfold kp_x; omega
  have : 48 ≤ kp_x b := by unfold kp_x; omega
  rw [if_pos (by omega), if_neg (by omega)]
  congr 1
  omega
theorem kpf_2 (b : Int → Int) : kp_fin b 2 = b 2 + 1 := by unfold kp_fin; rw [up_s]
/-- a step kept, the list not being full -/
theorem SRq.keep0 {f g : Int → Int} {nx ct : Int} {a : Int → Int} (h : SRq g nx ct a) (hp : RP f a) (hc : ct ≤ 29) : SRq (cpy f g 0 (nx * 55) 55) ((nx + 1) % 30) (ct + 1) (kp_fin a) := by
  obtain ⟨h1, h2, h3, h4⟩ := h
  have hB : Bd (kp_fin a) := kpf_B hp.2.2.1.1 (by omega)
  have hx : kp_x a = 48 + 53 * ct := by unfold kp_x; omega
  refine ⟨by omega, by omega, by rw [kpf_2]; omega, fun i hi => ?_⟩
  by_cases hl : i = ct
  · have e : ((nx + 1) % 30 + 30 - (ct + 1) + i) % 30 = nx := by omega
    rw [e]
    have er : ∀ j, 0 ≤ j ∧ j < 55 → rr (cpy f g 0 (nx * 55) 55) nx j = f j := fun j hj => by
      unfold rr cpy
      rw [if_pos hj, if_pos (by omega)]
      congr 1
      omega
    refine (hp.exF (rr_Bd hp.1 er) er).exA (sA_Bd hB i) (fun j hj => ?_)
    unfold sA
    rcases hj with hj | hj
    · rw [if_pos hj, hl, ← hx]; exact kpf_lo (by omega) hj
    · rw [if_neg (by omega), if_pos hj, hl, ← hx]; exact kpf_hi (by omega) hj
  · have hr := h4 i (by omega)
    have e : ((nx + 1) % 30 + 30 - (ct + 1) + i) % 30 = (nx + 30 - ct + i) % 30 := by omega
    rw [e]
    have hne : ¬ (nx + 30 - ct + i) % 30 = nx := by omega
    have er : ∀ j, 0 ≤ j ∧ j < 55 → rr (cpy f g 0 (nx * 55) 55) ((nx + 30 - ct + i) % 30) j = rr g ((nx + 30 - ct + i) % 30) j := fun j hj => by
      unfold rr cpy
      rw [if_pos hj, if_pos hj, if_neg (by omega)]
    refine (hr.exF (rr_Bd hr.1 er) er).exA (sA_Bd hB i) (fun j hj => ?_)
    unfold sA
    rcases hj with hj | hj
    · rw [if_pos hj, if_pos hj]; exact kpf_n (by omega) (by omega)
    · rw [if_neg (by omega), if_pos hj, if_neg (by omega), if_pos hj]; exact kpf_n (by omega) (by omega)
/-- the eldest step goes -/
theorem SRq.drop {g : Int → Int} {nx : Int} {a : Int → Int} (h : SRq g nx 30 a) (hB : Bd a) : SRq g nx 29 (up (blit a 101 48 1537) 2 29) := by
  obtain ⟨h1, h2, h3, h4⟩ := h
  have hB2 : Bd (up (blit a 101 48 1537) 2 29) := fun j => by
    unfold up
    split
    · omega
    · unfold blit; split <;> exact hB _
  refine ⟨h1, by omega, by rw [up_s], fun i hi => ?_⟩
  have hr := h4 (i + 1) (by omega)
  have e : (nx + 30 - 29 + i) % 30 = (nx + 30 - 30 + (i + 1)) % 30 := by omega
  rw [e]
  refine hr.exA (sA_Bd hB2 i) (fun j hj => ?_)
  unfold sA
  rcases hj with hj | hj
  · rw [if_pos hj, if_pos hj, up_n (by omega)]
    unfold blit
    rw [if_pos (by omega)]
    congr 1
    omega
  · rw [if_neg (by omega), if_pos hj, if_neg (by omega), if_pos hj, up_n (by omega)]
    unfold blit
    rw [if_pos (by omega)]
    congr 1
    omega
theorem SRq.keep {f g : Int → Int} {nx ct : Int} {a : Int → Int} (h : SRq g nx ct a) (hp : RP f a) : SRq (cpy f g 0 (nx * 55) 55) ((nx + 1) % 30) (if ct + 1 < 30 then ct + 1 else 30) (md_keep a) := by
  have h2 := h.2.1
  have h3 := h.2.2.1
  unfold md_keep
  by_cases hc : ct = 30
  · have q1 : a 2 = 30 := by omega
    have q2 : ¬ ct + 1 < 30 := by omega
    rw [if_pos q1, if_neg q2]
    rw [hc] at h
    have hd := h.drop hp.2.2.1.1
    have hB2 : Bd (up (blit a 101 48 1537) 2 29) := fun j => by
      unfold up
      split
      · omega
      · unfold blit; split <;> exact hp.2.2.1.1 _
    refine hd.keep0 (hp.exA hB2 (fun j hj => ?_)) (by omega)
    rw [up_n (by omega)]
    unfold blit
    rw [if_neg (by omega)]
  · have q1 : ¬ a 2 = 30 := by omega
    rw [if_neg q1]
    have := h.keep0 hp (by omega)
    have e : (if ct + 1 < 30 then ct + 1 else 30) = ct + 1 := by split <;> omega
    rw [e]; exact this
theorem keep_row {a : Int → Int} (h2 : 0 ≤ a 2 ∧ a 2 ≤ 30) {j : Int} (hj : (¬ j = 2 ∧ j < 48) ∨ 1638 ≤ j) : md_keep a j = a j := by
  unfold md_keep
  split
  · rw [kpf_n (by omega) (by unfold kp_x; rw [up_s]; omega), up_n (by omega)]
    unfold blit
    rw [if_neg (by omega)]
  · rw [kpf_n (by omega) (by unfold kp_x; omega)]
/-- the latest step taken back -/
theorem SRq.undo {f g : Int → Int} {nx ct : Int} {a : Int → Int} (h : SRq g nx ct a) (hB : Bd a) (hF : Bd f) (hc : ¬ ct = 0) : RP (cpy g f ((nx + 30 - 1) % 30 * 55) 0 55) (md_undo a) ∧ SRq g ((nx + 30 - 1) % 30) (ct - 1) (md_undo a) := by
  obtain ⟨h1, h2, h3, h4⟩ := id h
  have hBu : Bd (md_undo a) := fun j => by
    unfold md_undo blit
    split
    · split
      · unfold up; split
        · omega
        · exact hB _
      · unfold up; split
        · omega
        · exact hB _
    · split
      · unfold up; split
        · omega
        · exact hB _
      · unfold up; split
        · omega
        · exact hB _
  have hx : ud_x a = 48 + 53 * (ct - 1) := by unfold ud_x; omega
  have hmid : ∀ j, 32 ≤ j ∧ j < 1638 → md_undo a j = a j := fun j hj => by
    unfold md_undo blit
    rw [if_neg (by omega), if_neg (by omega), up_n (by omega)]
  constructor
  · have hr := h4 (ct - 1) (by omega)
    have e : (nx + 30 - ct + (ct - 1)) % 30 = (nx + 30 - 1) % 30 := by omega
    rw [e] at hr
    have er : ∀ j, 0 ≤ j ∧ j < 55 → cpy g f ((nx + 30 - 1) % 30 * 55) 0 55 j = rr g ((nx + 30 - 1) % 30) j := fun j hj => by
      unfold rr cpy
      rw [if_pos hj, if_pos (by omega)]
      congr 1
      omega
    have hBc : Bd (cpy g f ((nx + 30 - 1) % 30 * 55) 0 55) := fun j => by
      by_cases hj : 0 ≤ j ∧ j < 55
      · rw [er j hj]; exact hr.1.1.1 j
      · unfold cpy; rw [if_neg (by omega)]; exact hF j
    refine (hr.exF hBc er).exA hBu (fun j hj => ?_)
    unfold sA md_undo blit
    rcases hj with hj | hj
    · rw [if_neg (by omega), if_pos (by omega), if_pos hj, up_n (by omega), hx]
    · rw [if_pos (by omega), if_neg (by omega), if_neg (by omega), if_pos hj, up_n (by omega), hx]
  · refine ⟨by omega, by omega, ?_, fun i hi => ?_⟩
    · unfold md_undo blit
      rw [if_neg (by omega), if_neg (by omega), up_s]; omega
    · have hr := h4 i (by omega)
      have e : ((nx + 30 - 1) % 30 + 30 - (ct - 1) + i) % 30 = (nx + 30 - ct + i) % 30 := by omega
      rw [e]
      refine hr.exA (sA_Bd hBu i) (fun j hj => ?_)
      unfold sA
      rcases hj with hj | hj
      · rw [if_pos hj, if_pos hj]; exact hmid _ (by omega)
      · rw [if_neg (by omega), if_pos hj, if_neg (by omega), if_pos hj]; exact hmid _ (by omega)
