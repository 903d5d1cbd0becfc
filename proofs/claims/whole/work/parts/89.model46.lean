/-! ===== the reference: what goes on behind one ===== -/
def bhl (o : Int) : Int := if rnk o = 4 then 5 else rnk o
/-- whether it goes on; the state behind it -/
def bhf (k : Int) (ps : List Int) : Bool := decide (0 ≤ btK k ps ∨ 0 ≤ ptK (opn ps) k ps)
def bhs (k : Int) (cd : List (Int × Int)) (ps : List Int) : List (Int × Int) × List Int × Int := if 0 ≤ btK k ps then ((stl (bhl (btK k ps)) ps cd).2, btK k ps :: (stl (bhl (btK k ps)) ps cd).1, 0) else if 0 < ptK (opn ps) k ps then ((stl 1 ps cd).2, ptK (opn ps) k ps :: (stl 1 ps cd).1.tail, 0) else ((stl 7 (stl 1 ps cd).1.tail (if opn ps = 43 then (stl 1 ps cd).2 ++ [(3, 0)] else (stl 1 ps cd).2)).2, (stl 7 (stl 1 ps cd).1.tail (if opn ps = 43 then (stl 1 ps cd).2 ++ [(3, 0)] else (stl 1 ps cd).2)).1, 1)
theorem cpK_B (k : Int) : cpK k = -1 ∨ (10 ≤ cpK k ∧ cpK k ≤ 15) := by
  unfold cpK
  repeat' split
  all_goals omega
theorem btK_B (k : Int) (ps : List Int) : btK k ps = -1 ∨ (6 ≤ btK k ps ∧ btK k ps ≤ 15) ∨ btK k ps = 21 ∨ btK k ps = 22 := by
  have := cpK_B k
  unfold btK
  repeat' split
  all_goals omega
theorem ptK_B (o k : Int) (ps : List Int) : (ptK o k ps = -1 ∨ ptK o k ps = 0 ∨ ptK o k ps = 42 ∨ ptK o k ps = 43) ∧ (0 ≤ ptK o k ps → 40 ≤ o) := by
  unfold ptK
  repeat' split
  all_goals omega
theorem bin_r {o : Int} (h1 : (6 ≤ o ∧ o ≤ 15) ∨ o = 21 ∨ o = 22) : ¬ isO o ∧ 1 ≤ rnk o ∧ rnk o ≤ 6 ∧ (rnk o = 4 ↔ 10 ≤ o ∧ o ≤ 15) := by
  have hr : rnk o = (if o = 22 then 1 else if o = 21 then 2 else if 10 ≤ o then 4 else if 8 ≤ o then 6 else 5) := by
    unfold rnk
    rw [if_neg (by omega)]
    by_cases e : o = 22
    · rw [if_pos e, if_pos e]
    · rw [if_neg e, if_neg e]
      by_cases e1 : o = 21
      · rw [if_pos e1, if_pos e1]
      · rw [if_neg e1, if_neg e1, if_neg (by omega)]
        by_cases e2 : 10 ≤ o
        · rw [if_pos e2, if_pos e2]
        · rw [if_neg e2, if_neg e2]
          by_cases e3 : 8 ≤ o
          · rw [if_pos e3, if_pos e3]
          · rw [if_neg e3, if_neg e3, if_pos (by omega)]
  have h3 : 1 ≤ rnk o ∧ rnk o ≤ 6 := by rw [hr]; repeat' split
                                        all_goals omega
  refine ⟨fun e => by rcases e with e | e | e <;> omega, h3.1, h3.2, ?_⟩
  rw [hr]
  repeat' split
  all_goals omega
theorem bhl_B {o : Int} (h1 : (6 ≤ o ∧ o ≤ 15) ∨ o = 21 ∨ o = 22) : 1 ≤ bhl o ∧ bhl o ≤ 6 := by
  have := bin_r h1
  unfold bhl
  split <;> omega
theorem cm_stl : ∀ (ps : List Int) (cd : List (Int × Int)), cmB ps = false → hrk (stl 5 ps cd).1 < 4 := by
  intro ps
  induction ps with
  | nil => intro cd _; show (0 : Int) < 4; decide
  | cons o ps ih =>
    intro cd hc
    rw [cmB] at hc
    rw [stl]
    split
    · rename_i h5
      rw [if_pos (by omega)] at hc
      exact ih _ hc
    · rename_i h5
      show rnk o < 4
      by_cases e : 4 < rnk o
      · omega
      · rw [if_neg e] at hc
        have := of_decide_eq_false hc
        omega
/-- the state stays in order -/
def PI (B : Nat → Int) (c : Nat) (cd : List (Int × Int)) (ps : List Int) : Prop := okP ps ∧ cntO ps ≤ 8 ∧ cd.length + ps.length + 1 ≤ lxp B c
theorem lx_next {B : Nat → Int} {c : Nat} (hne : ¬ kd B c = 1) : lxp B c + 1 ≤ lxp B (lxe B c) := by
  have h1 := lxe_lo (B := B) (c := c) (fun e => hne (kd_1.mpr e))
  have h2 := lxp_le B (lxe B c)
  omega
theorem bg_inv {B : Nat → Int} {c : Nat} {s0 : Int} {cd : List (Int × Int)} {ps : List Int} (hi : PI B c cd ps) (hf : bgf (kd B c) (lxn B c) s0 ps = 0) : ¬ kd B c = 1 ∧ PI B (lxe B c) (bgs (kd B c) (lxn B c) cd ps).1 (bgs (kd B c) (lxn B c) cd ps).2.1 := by
  have hne : ¬ kd B c = 1 := fun e => by rw [e] at hf; unfold bgf at hf; rw [if_neg (by decide), if_neg (by decide), if_pos (by unfold opK; simp)] at hf; exact absurd hf (by decide)
  have hnx := lx_next hne
  refine ⟨hne, ?_⟩
  have hstl : ∀ x : Int × Int, PI B (lxe B c) (stl 7 ps (cd ++ [x])).2 (stl 7 ps (cd ++ [x])).1 := fun x => by
    have h1 := stl_ok (l := 7) (by decide) ps (cd ++ [x]) hi.1
    have h2 := stl_sum 7 ps (cd ++ [x])
    have h3 : (cd ++ [x]).length = cd.length + 1 := by simp
    exact ⟨h1.1, Int.le_trans h1.2.1 hi.2.1, by have := hi.2.2; omega⟩
  unfold bgs
  by_cases e2 : kd B c = 2
  · rw [if_pos e2]; exact hstl _
  · rw [if_neg e2]
    by_cases en : 0 ≤ nmK (kd B c)
    · rw [if_pos en]; exact hstl _
    · rw [if_neg en]
      unfold bgf at hf
      rw [if_neg e2, if_neg en] at hf
      by_cases eo : opK (kd B c) ps = -1
      · rw [if_pos eo] at hf; exact absurd hf (by decide)
      · rw [if_neg eo] at hf
        have ho := opK_ok eo
        have hc : ¬ cntO ps = 8 := fun e => by rw [if_pos e] at hf; exact absurd hf (by decide)
        refine ⟨⟨hi.1, ho.1, Or.inl ho.2⟩, ?_, ?_⟩
        · show cntO (opK (kd B c) ps :: ps) ≤ 8
          rw [cntO, if_pos ho.2]; have := hi.2.1; omega
        · show cd.length + (ps.length + 1) + 1 ≤ _; have := hi.2.2; omega
theorem bh_inv {B : Nat → Int} {c : Nat} {cd : List (Int × Int)} {ps : List Int} (hi : PI B c cd ps) (hf : bhf (kd B c) ps = true) : ¬ kd B c = 1 ∧ PI B (lxe B c) (bhs (kd B c) cd ps).1 (bhs (kd B c) cd ps).2.1 := by
  have hf := of_decide_eq_true hf
  have hne : ¬ kd B c = 1 := fun e => by
    rw [e] at hf
    have h1 : btK 1 ps = -1 := by unfold btK; simp [cpK]
    have h2 : ptK (opn ps) 1 ps = -1 := by unfold ptK; simp
    omega
  have hnx := lx_next hne
  refine ⟨hne, ?_⟩
  have hbB := btK_B (kd B c) ps
  have hs := hi.2.2
  unfold bhs
  by_cases eb : 0 ≤ btK (kd B c) ps
  · rw [if_pos eb]
    have hr := bin_r (o := btK (kd B c) ps) (by omega)
    have hl := bhl_B (o := btK (kd B c) ps) (by omega)
    have h1 := stl_ok hl.1 ps cd hi.1
    have h2 := stl_sum (bhl (btK (kd B c) ps)) ps cd
    refine ⟨⟨h1.1, by omega, Or.inr ?_⟩, ?_, ?_⟩
    · by_cases e4 : rnk (btK (kd B c) ps) = 4
      · have hcm : cmB ps = false := by
          have h10 := hr.2.2.2.mp e4
          unfold btK at h10
          cases hcb : cmB ps with
          | false => rfl
          | true =>
            exfalso
            rw [hcb] at h10
            simp only [not_true_eq_false, if_false] at h10
            repeat' split at h10
            all_goals omega
        have := cm_stl ps cd hcm
        unfold bhl
        rw [if_pos e4, e4]
        exact this
      · have := h1.2.2
        unfold bhl at this ⊢
        rw [if_neg e4] at this ⊢
        exact this
    · show cntO (btK (kd B c) ps :: _) ≤ 8
      rw [cntO, if_neg hr.1]; have := hi.2.1; omega
    · show (stl (bhl (btK (kd B c) ps)) ps cd).2.length + ((stl (bhl (btK (kd B c) ps)) ps cd).1.length + 1) + 1 ≤ _
      omega
  · rw [if_neg eb]
    have hpB := ptK_B (opn ps) (kd B c) ps
    have hpt : 0 ≤ ptK (opn ps) (kd B c) ps := by omega
    obtain ⟨tl, htl⟩ := stl1_top (ps := ps) cd (hpB.2 hpt)
    have h1 := stl_ok (l := 1) (by decide) ps cd hi.1
    have h2 := stl_sum 1 ps cd
    rw [htl] at h1 h2
    rw [List.length_cons] at h2
    have hO1 : isO (opn ps) := Or.inl (hpB.2 hpt)
    have hcn : cntO (opn ps :: tl) = cntO tl + 1 := by rw [cntO, if_pos hO1]
    have h8 := hi.2.1
    by_cases e0 : 0 < ptK (opn ps) (kd B c) ps
    · rw [if_pos e0, htl]
      have hO2 : isO (ptK (opn ps) (kd B c) ps) := Or.inl (by omega)
      refine ⟨⟨h1.1.1, by omega, Or.inl hO2⟩, ?_, ?_⟩
      · show cntO (ptK (opn ps) (kd B c) ps :: tl) ≤ 8
        rw [cntO, if_pos hO2]; have := h1.2.1; omega
      · show (stl 1 ps cd).2.length + (tl.length + 1) + 1 ≤ _
        omega
    · rw [if_neg e0, htl]
      have h3 := stl_ok (l := 7) (by decide) tl (if opn ps = 43 then (stl 1 ps cd).2 ++ [(3, 0)] else (stl 1 ps cd).2) h1.1.1
      have h4 := stl_sum 7 tl (if opn ps = 43 then (stl 1 ps cd).2 ++ [(3, 0)] else (stl 1 ps cd).2)
      have h5 : (if opn ps = 43 then (stl 1 ps cd).2 ++ [((3 : Int), (0 : Int))] else (stl 1 ps cd).2).length ≤ (stl 1 ps cd).2.length + 1 := by
        split
        · rw [List.length_append]; exact Nat.le_refl _
        · omega
      refine ⟨h3.1, ?_, ?_⟩
      · show cntO (stl 7 tl _).1 ≤ 8
        have := h1.2.1; have := h3.2.1; omega
      · show (stl 7 tl _).2.length + (stl 7 tl _).1.length + 1 ≤ _
        omega
