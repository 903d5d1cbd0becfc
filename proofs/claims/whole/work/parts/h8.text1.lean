/-! ===== clauses, read by both ===== -/
theorem sy_hi {B : Nat → Int} {s0 : Int} (hB : ∀ k, 300 ≤ k → B k < 0) : ∀ (n c : Nat) (cd : List (Int × Int)) (ps : List Int) (wh : Int), c ≤ 300 → (sy B s0 n c cd ps wh).2.1 ≤ 300 := by
  intro n
  induction n with
  | zero => intro c cd ps wh h; exact h
  | succ n ih =>
    intro c cd ps wh h
    have hle := lxe_hi hB h
    rw [sy]
    split
    · split
      · exact ih _ _ _ _ hle
      · exact h
    · split
      · exact ih _ _ _ _ hle
      · split
        · exact h
        · exact h
theorem fig_gn (B : Nat → Int) (c : Nat) {lo hi : Int} (h : hi ≤ 9999) : fig (kd B c) (lxn B c) lo hi = gnF B lo hi c := by
  have := lxn_B B c
  unfold fig gnF
  by_cases q : kd B c = 2
  · rw [if_neg (fun z => z q), if_pos q]
    have e : (lo ≤ lxv B c ∧ lxv B c ≤ hi) ↔ (lo ≤ lxn B c ∧ lxn B c ≤ hi) := by unfold lxv; omega
    by_cases z : lo ≤ lxn B c ∧ lxn B c ≤ hi
    · rw [if_pos z, if_pos (e.mpr z)]
    · rw [if_neg z, if_neg (fun y => z (e.mp y))]
  · rw [if_pos q, if_neg q]
theorem gnF_v {B : Nat → Int} {c : Nat} {lo hi : Int} (h : hi ≤ 9999) (hg : gnF B lo hi c = 0) : lxv B c = lxn B c ∧ lo ≤ lxn B c ∧ lxn B c ≤ hi := by
  have := lxn_B B c
  unfold gnF at hg
  by_cases q : kd B c = 2
  · rw [if_pos q] at hg
    by_cases z : lo ≤ lxv B c ∧ lxv B c ≤ hi
    · unfold lxv at z ⊢; omega
    · rw [if_neg z] at hg; omega
  · rw [if_neg q] at hg; omega
theorem srK_k {k : Int} (h : 3 ≤ k ∧ k ≤ 9) : srK k = (if k = 3 then 0 else if k = 4 then 1 else if k = 9 then 2 else if k = 5 then 3 else if k = 6 then 4 else if k = 7 then 5 else 6) := by
  unfold srK
  rcases (show k = 3 ∨ k = 4 ∨ k = 5 ∨ k = 6 ∨ k = 7 ∨ k = 8 ∨ k = 9 by omega) with rfl | rfl | rfl | rfl | rfl | rfl | rfl <;> rfl
theorem srK_n {k : Int} (h : k < 3 ∨ 9 < k) : srK k = -1 := by
  unfold srK
  rw [if_neg (by omega), if_neg (by omega), if_neg (by omega), if_neg (by omega), if_neg (by omega), if_neg (by omega), if_neg (by omega)]
/-- a clause's body -/
def BDq (B : Nat → Int) (k s : Int) (c : Nat) (cd : List (Int × Int)) : Prop := (bdy B s c cd).1 = (cBd B k c).1 ∧ (bdy B s c cd).2.1 = (cBd B k c).2.1 ∧ (cBd B k c).2.1 ≤ 300 ∧ ((cBd B k c).1 = 0 → LNp (k, (cBd B k c).2.2) s (bdy B s c cd).2.2.1.1 (bdy B s c cd).2.2.1.2 ∧ ∃ code, (bdy B s c cd).2.2.2 = cd ++ code ∧ code.length + lxp B c ≤ lxp B (cBd B k c).2.1 ∧ (s ≤ 1 → KC s false code ∧ (bdy B s c cd).2.2.1.1 = (cd.length : Int) ∧ (bdy B s c cd).2.2.1.2 = (cd.length : Int) + (code.length : Int) ∧ (cLw B k c).2.2 = code.map mp))
theorem gnC_hi {B : Nat → Int} (hB : ∀ k, 300 ≤ k → B k < 0) {c : Nat} (hc : c ≤ 300) (lo hi : Int) : gnC B lo hi c ≤ 300 ∧ lxp B c ≤ lxp B (gnC B lo hi c) := by
  unfold gnC
  split
  · exact ⟨lxe_hi hB hc, lxp_mono B c⟩
  · exact ⟨hc, Nat.le_refl _⟩
theorem bdq_fig {B : Nat → Int} (hB : ∀ k, 300 ≤ k → B k < 0) {c : Nat} (hc : c ≤ 300) (cd : List (Int × Int)) {k s lo hi : Int} (hh : hi ≤ 9999) (hs : ¬ s ≤ 1) (e1 : bdy B s c cd = fgs B c cd lo hi) (e2 : cBd B k c = (gnF B lo hi c, gnC B lo hi c, lxv B c, 0)) (hl : ∀ v, lo ≤ v → v ≤ hi → LNp (k, v, 0) s v 0) : BDq B k s c cd := by
  have hg := gnC_hi hB hc lo hi
  have ef : fig (kd B c) (lxn B c) lo hi = gnF B lo hi c := fig_gn B c hh
  unfold BDq
  rw [e1, e2]
  unfold fgs
  rw [ef]
  refine ⟨rfl, ?_, hg.1, fun h0 => ⟨?_, [], (List.append_nil _).symm, ?_, fun z => absurd z hs⟩⟩
  · show (if gnF B lo hi c = 0 then lxe B c else c) = gnC B lo hi c
    rfl
  · have hv := gnF_v hh h0
    show LNp (k, lxv B c, 0) s (lxn B c) 0
    rw [hv.1]
    exact hl _ hv.2.1 hv.2.2
  · show 0 + lxp B c ≤ lxp B (gnC B lo hi c)
    omega
theorem bd_law {B : Nat → Int} (hB : ∀ k, 300 ≤ k → B k < 0) {c : Nat} (hc : c ≤ 300) (cd : List (Int × Int)) {s : Int} (hs : s = 0 ∨ s = 1) : BDq B (s + 3) s c cd := by
  have e1 : bdy B s c cd = ((sy B s 301 c cd [] 0).1, (sy B s 301 c cd [] 0).2.1, ((cd.length : Int), ((sy B s 301 c cd [] 0).2.2.length : Int)), (sy B s 301 c cd [] 0).2.2) := by
    unfold bdy
    rw [if_neg (by omega), if_neg (by omega), if_neg (by omega), if_neg (by omega), if_neg (by omega)]
  have e2 : cBd B (s + 3) c = ((cLw B (s + 3) c).1, (cLw B (s + 3) c).2.1, 0, 0) := by
    unfold cBd
    rw [if_neg (by omega), if_neg (by omega), if_neg (by omega), if_neg (by omega), if_neg (by omega)]
  have hl := law_ok hB hs c
  have hhi := sy_hi (s0 := s) hB 301 c cd [] 0 hc
  unfold BDq
  rw [e1, e2]
  by_cases z : (cLw B (s + 3) c).1 = 0
  · obtain ⟨code, u1, u2, u3, u4⟩ := hl.2 z
    have hr := (u4 cd).at hB hc
    refine ⟨hr.1.trans z.symm, hr.2.1, by rw [hr.2.1] at hhi; exact hhi, fun _ => ⟨?_, code, hr.2.2 rfl, u3, fun _ => ⟨u2, rfl, ?_, u1⟩⟩⟩
    · rcases hs with rfl | rfl
      · exact Or.inl ⟨rfl, rfl⟩
      · exact Or.inr (Or.inl ⟨rfl, rfl⟩)
    · show ((sy B s 301 c cd [] 0).2.2.length : Int) = _
      rw [hr.2.2 rfl, List.length_append]
      omega
  · have hr := (hl.1 z cd []).at hB hc
    exact ⟨hr.1, hr.2.1, by rw [hr.2.1] at hhi; exact hhi, fun h => absurd h z⟩
theorem bd_all {B : Nat → Int} (hB : ∀ k, 300 ≤ k → B k < 0) {c : Nat} (hc : c ≤ 300) (cd : List (Int × Int)) {k : Int} (hk : 3 ≤ k ∧ k ≤ 9) : BDq B k (srK k) c cd := by
  rcases (show k = 3 ∨ k = 4 ∨ k = 5 ∨ k = 6 ∨ k = 7 ∨ k = 8 ∨ k = 9 by omega) with rfl | rfl | rfl | rfl | rfl | rfl | rfl
  · exact bd_law hB hc cd (s := 0) (Or.inl rfl)
  · exact bd_law hB hc cd (s := 1) (Or.inr rfl)
  · show BDq B 5 3 c cd
    have e1 : bdy B 3 c cd = ((jnf B c).1, (jnf B c).2, (lxn B c, lxn B (lxe B (lxe B c))), cd) := by
      unfold bdy
      rw [if_neg (by decide), if_pos rfl]
    have e2 : cBd B 5 c = (if gnF B 1 8 c = 0 then (if kd B (lxe B c) = 24 then (gnF B 0 15 (lxe B (lxe B c)), gnC B 0 15 (lxe B (lxe B c)), lxv B c, lxv B (lxe B (lxe B c))) else (1, lxe B c, 0, 0)) else (gnF B 1 8 c, c, 0, 0)) := by
      unfold cBd
      rw [if_neg (by decide), if_neg (by decide), if_neg (by decide), if_neg (by decide), if_pos rfl]
    have h1 := lxe_hi hB hc
    have h2 := lxe_hi hB h1
    have h3 := lxe_hi hB h2
    have m1 := lxp_mono B c
    have m2 := lxp_mono B (lxe B c)
    have m3 := lxp_mono B (lxe B (lxe B c))
    unfold BDq
    rw [e1, e2]
    unfold jnf
    rw [fig_gn B c (by decide), fig_gn B (lxe B (lxe B c)) (by decide)]
    by_cases z1 : gnF B 1 8 c = 0
    · rw [if_pos z1, if_pos z1]
      by_cases z2 : kd B (lxe B c) = 24
      · rw [if_pos z2, if_pos z2]
        by_cases z3 : gnF B 0 15 (lxe B (lxe B c)) = 0
        · rw [if_pos z3]
          have ec : gnC B 0 15 (lxe B (lxe B c)) = lxe B (lxe B (lxe B c)) := by unfold gnC; rw [if_pos z3]
          rw [ec, z3]
          have v1 := gnF_v (by decide) z1
          have v2 := gnF_v (by decide) z3
          refine ⟨rfl, rfl, h3, fun _ => ⟨?_, [], (List.append_nil _).symm, ?_, fun z => absurd z (by decide)⟩⟩
          · refine Or.inr (Or.inr (Or.inr (Or.inl ⟨rfl, rfl, v1.1, v2.1, v1.2⟩)))
          · show 0 + lxp B c ≤ lxp B (lxe B (lxe B (lxe B c)))
            omega
        · rw [if_neg z3]
          have ec : gnC B 0 15 (lxe B (lxe B c)) = lxe B (lxe B c) := by unfold gnC; rw [if_neg z3]
          rw [ec]
          exact ⟨rfl, rfl, h2, fun z => absurd z z3⟩
      · rw [if_neg z2, if_neg z2]
        exact ⟨rfl, rfl, h1, fun z => absurd z (show ¬ (1 : Int) = 0 by decide)⟩
    · rw [if_neg z1, if_neg z1]
      exact ⟨rfl, rfl, hc, fun z => absurd z z1⟩
  · refine bdq_fig (lo := 1) (hi := 8) hB hc cd (by decide) (by decide) rfl rfl (fun v h1 h2 => Or.inr (Or.inr (Or.inr (Or.inr (Or.inl ⟨rfl, rfl, rfl, h1, h2⟩)))))
  · show BDq B 7 5 c cd
    exact ⟨rfl, rfl, hc, fun _ => ⟨Or.inr (Or.inr (Or.inr (Or.inr (Or.inr (Or.inl ⟨rfl, rfl⟩))))), [], (List.append_nil _).symm, by show 0 + lxp B c ≤ lxp B c; omega, fun z => absurd z (by decide)⟩⟩
  · refine bdq_fig (lo := 1) (hi := 60) hB hc cd (by decide) (by decide) rfl rfl (fun v h1 h2 => Or.inr (Or.inr (Or.inr (Or.inr (Or.inr (Or.inr ⟨rfl, rfl, rfl, show 0 ≤ v by omega⟩))))))
  · refine bdq_fig (lo := 1) (hi := 16) hB hc cd (by decide) (by decide) rfl rfl (fun v h1 h2 => Or.inr (Or.inr (Or.inl ⟨rfl, rfl, rfl⟩)))
