/-! ===== sums from ones; what is asked ===== -/
def P1 (B : Nat → Int) (m : Nat) (c : Nat) (ps : List Int) : Prop := cntO ps + (m : Int) = 8 ∧ (kd B c = 23 → akB ps = false)
def E7 (ps : List Int) (cd : List (Int × Int)) : List Int × List (Int × Int) := stl 7 ps cd
def XT (_ : Int) : Prop := True
def XP (k : Int) : Prop := XT k ∧ pTi k = false
def XS (k : Int) : Prop := XP k ∧ pPl k = false
theorem XS.n {k : Int} (h : XS k) : ¬ k = 34 ∧ ¬ k = 35 ∧ ¬ k = 36 ∧ ¬ k = 37 := by
  have h1 := h.1.2
  have h2 := h.2
  unfold pTi at h1
  unfold pPl at h2
  rw [decide_eq_false_iff_not] at h1 h2
  omega
theorem SO_one7 {B : Nat → Int} {s0 : Int} {m : Nat} {G : RR → RR} (h : SO B s0 G (P1 B m) E7 XT) : SO B s0 G (PX B m (6 + 1)) EI0 XT := by
  intro c l
  have hS := h c l
  refine ⟨fun z cd ps CD hp => hS.1 z cd ps CD ⟨hp.1, hp.2.2⟩, fun z => ?_⟩
  obtain ⟨code, e1, k1, l1, x1, st⟩ := hS.2 z
  refine ⟨code, e1, k1, l1, x1, fun cd ps F C CD hp hr => st cd ps F C CD ⟨hp.1, hp.2.2⟩ ?_⟩
  unfold E7
  have hh : hrk ps < 7 := hp.2.1
  rw [stl_id hh]
  exact hr
theorem SO_sum {B : Nat → Int} {s0 : Int} (hB : ∀ k, 300 ≤ k → B k < 0) {m : Nat} {G : RR → RR} (h : SO B s0 G (P1 B m) E7 XT) : SO B s0 (tSu B G) (PX B m 5) EI0 XS := by
  have h6 : SO B s0 (tPr B G) (PX B m 6) EI0 XP := by
    refine SO_lp hB (L := 6) (Or.inr rfl) (P := pTi) (fun k hk => ?_) (SO_one7 h) (fun k ps _ hb => ?_)
    · unfold pTi at hk
      rw [decide_eq_true_iff] at hk
      rcases hk with rfl | rfl <;> decide
    · exact (bhl_B (by have := btK_B k ps; omega)).2
  refine SO_lp hB (L := 5) (Or.inl rfl) (P := pPl) (fun k hk => ?_) h6 (fun k ps hx hb => ?_)
  · unfold pPl at hk
    rw [decide_eq_true_iff] at hk
    rcases hk with rfl | rfl <;> decide
  · have h1 := hx.2
    unfold pTi at h1
    rw [decide_eq_false_iff_not] at h1
    have h2 := btK_B k ps
    have h3 : ¬ btK k ps = 8 ∧ ¬ btK k ps = 9 := by
      have hc := cpK_B k
      unfold btK
      repeat' split
      all_goals omega
    have h4 : ∀ o : Int, (o = 6 ∨ o = 7 ∨ (10 ≤ o ∧ o ≤ 15) ∨ o = 21 ∨ o = 22) → bhl o ≤ 5 := fun o ho => by
      unfold bhl rnk
      repeat' split
      all_goals omega
    exact h4 _ (by omega)
def emP (pl : List Int) : List (Int × Int) := pl.map (fun o => (o, 0))
def PDp (lo : Int) (pl : List Int) : Prop := (∃ o tl, pl = o :: tl ∧ 10 ≤ o ∧ o ≤ 15) ∧ ∀ o ∈ pl, lo ≤ rnk o ∧ o < 40
theorem stl_pl {l : Int} : ∀ (pl ps : List Int) (cd : List (Int × Int)), (∀ o ∈ pl, l ≤ rnk o) → stl l (pl ++ ps) cd = stl l ps (cd ++ emP pl) := by
  intro pl
  induction pl with
  | nil => intro ps cd _; show stl l ps cd = stl l ps (cd ++ []); rw [List.append_nil]
  | cons o pl ih =>
    intro ps cd h
    show stl l (o :: (pl ++ ps)) cd = _
    rw [stl_c (h o (List.mem_cons_self ..)), ih ps _ (fun x hx => h x (List.mem_cons_of_mem _ hx))]
    show stl l ps (cd ++ [(o, 0)] ++ emP pl) = stl l ps (cd ++ ((o, 0) :: emP pl))
    rw [List.append_assoc]
    rfl
theorem opn_pl : ∀ (pl ps : List Int), (∀ o ∈ pl, o < 40) → opn (pl ++ ps) = opn ps := by
  intro pl
  induction pl with
  | nil => intro ps _; rfl
  | cons o pl ih =>
    intro ps h
    show opn (o :: (pl ++ ps)) = _
    rw [opn_c (by have := h o (List.mem_cons_self ..); omega)]
    exact ih ps (fun x hx => h x (List.mem_cons_of_mem _ hx))
theorem rnk_cmp {o : Int} (h : 10 ≤ o ∧ o ≤ 15) : rnk o = 4 := by
  unfold rnk
  rw [if_neg (by omega), if_neg (by omega), if_neg (by omega), if_neg (by omega), if_pos (by omega)]
theorem PDp.cm {lo : Int} {pl : List Int} (h : PDp lo pl) (ps : List Int) : cmB (pl ++ ps) = true := by
  obtain ⟨o, tl, rfl, h1⟩ := h.1
  show (if 4 < rnk o then cmB (tl ++ ps) else decide (rnk o = 4)) = true
  rw [rnk_cmp h1]
  rfl
theorem PDp.mono {lo lo' : Int} {pl : List Int} (h : PDp lo pl) (hl : lo' ≤ lo) : PDp lo' pl := ⟨h.1, fun o ho => ⟨by have := (h.2 o ho).1; omega, (h.2 o ho).2⟩⟩
theorem PDp.add {lo o : Int} {pl : List Int} (h : PDp lo pl) (hl : lo ≤ rnk o) (ho : o < 40) : PDp lo (pl ++ [o]) := by
  obtain ⟨p, tl, rfl, h1⟩ := h.1
  refine ⟨⟨p, tl ++ [o], rfl, h1⟩, fun x hx => ?_⟩
  rcases List.mem_append.mp hx with q | q
  · exact h.2 x q
  · rw [List.mem_singleton.mp q]; exact ⟨hl, ho⟩
theorem emP_add (pl : List Int) (o : Int) : emP (pl ++ [o]) = emP pl ++ [(o, 0)] := by
  unfold emP
  rw [List.map_append]
  rfl
/-- a reader of what is asked beside the other: what waits is pl -/
def SB (B : Nat → Int) (s0 : Int) (G : RR → RR) (P : Nat → List Int → Prop) (lo : Int) (X : Int → Prop) : Prop :=
  ∀ (c : Nat) (l : List Int),
    (¬ (G (0, c, l)).1 = 0 → ∀ cd ps CD, P c ps → Rs B s0 c cd ps 0 (G (0, c, l)).1 (G (0, c, l)).2.1 CD) ∧
    ((G (0, c, l)).1 = 0 → ∃ (code : List (Int × Int)) (pl : List Int), (G (0, c, l)).2.2 = l ++ (code ++ emP pl).map mp ∧ KC s0 true (code ++ emP pl) ∧ PDp lo pl ∧ (code ++ emP pl).length + lxp B c ≤ lxp B (G (0, c, l)).2.1 ∧ X (kd B (G (0, c, l)).2.1) ∧ ∀ cd ps F C CD, P c ps → Rs B s0 (G (0, c, l)).2.1 (cd ++ code) (pl ++ ps) 1 F C CD → Rs B s0 c cd ps 0 F C CD)
def PC (B : Nat → Int) (m : Nat) (c : Nat) (ps : List Int) : Prop := cntO ps + (m : Int) = 8 ∧ opn ps = 41 ∧ hrk ps < 4 ∧ ¬ kd B c = 23
def PBk (m : Nat) (L : Int) (_ : Nat) (ps : List Int) : Prop := cntO ps + (m : Int) = 8 ∧ opn ps = 41 ∧ hrk ps < L ∧ akB ps = true
theorem cm_lo {ps : List Int} (h : hrk ps < 4) : cmB ps = false := by
  cases ps with
  | nil => rfl
  | cons o ps =>
    have h : rnk o < 4 := h
    show (if 4 < rnk o then cmB ps else decide (rnk o = 4)) = false
    rw [if_neg (by omega), decide_eq_false_iff_not]
    omega
theorem cpK_k {k : Int} (h : isRl k) : (10 ≤ cpK k ∧ cpK k ≤ 15) ∧ mp (cpK k, 0) = k := by
  rcases (show k = 30 ∨ k = 31 ∨ k = 32 ∨ k = 33 ∨ k = 41 ∨ k = 42 by unfold isRl at h; omega) with rfl | rfl | rfl | rfl | rfl | rfl <;> decide
theorem cpK_n {k : Int} (h : ¬ isRl k) : cpK k = -1 := by
  unfold isRl at h
  unfold cpK
  rw [if_neg (by omega), if_neg (by omega), if_neg (by omega), if_neg (by omega), if_neg (by omega), if_neg (by omega)]
theorem btK_41 {k : Int} {ps : List Int} (hx : XS k) (h1 : opn ps = 41) (h2 : cmB ps = false) : btK k ps = cpK k := by
  have := hx.n
  unfold btK
  rw [if_neg (by omega), if_neg (by omega), if_neg (by omega), if_neg (by omega), if_neg (fun z => z h1), if_pos (by rw [h2]; decide)]
theorem SB_cmp {B : Nat → Int} {s0 : Int} {m : Nat} {G : RR → RR} (h : SO B s0 (tSu B G) (PX B m 5) EI0 XS) : SB B s0 (tCm B G) (PC B m) 3 XS := by
  intro c l
  have h1 := h c l
  by_cases z1 : (tSu B G (0, c, l)).1 = 0
  · obtain ⟨code1, e1, k1, n1, x1, st1⟩ := h1.2 z1
    have hx5 : ∀ ps, PC B m c ps → PX B m 5 c ps := fun ps hp => ⟨hp.1, by have := hp.2.2.1; omega, fun q => absurd q hp.2.2.2⟩
    by_cases z2 : isRl (kd B (tSu B G (0, c, l)).2.1)
    · have ho := cpK_k z2
      have hr4 := rnk_cmp ho.1
      have hnx : ¬ kd B (tSu B G (0, c, l)).2.1 = 1 := by unfold isRl at z2; omega
      have hn2 := lx_next hnx
      have e0 : tCm B G (0, c, l) = GE (kd B (tSu B G (0, c, l)).2.1) (tSu B G (0, lxe B (tSu B G (0, c, l)).2.1, (tSu B G (0, c, l)).2.2)) := by
        unfold tCm
        rw [if_pos z1, if_pos z2]
      rw [e0, e1]
      have h2 := h (lxe B (tSu B G (0, c, l)).2.1) (l ++ code1.map mp)
      have step : ∀ cd ps F C CD, PC B m c ps → Rs B s0 (lxe B (tSu B G (0, c, l)).2.1) (cd ++ code1) (cpK (kd B (tSu B G (0, c, l)).2.1) :: ps) 0 F C CD → Rs B s0 c cd ps 0 F C CD := fun cd ps F C CD hp hr => by
        refine st1 cd ps F C CD (hx5 ps hp) ?_
        have eb := btK_41 x1 hp.2.1 (cm_lo hp.2.2.1)
        refine Rs.beh ?_ ?_
        · unfold bhf
          rw [decide_eq_true_iff, show (EI0 ps (cd ++ code1)).1 = ps from rfl, eb]
          exact Or.inl (by omega)
        · have e5 : bhs (kd B (tSu B G (0, c, l)).2.1) (cd ++ code1) ps = (cd ++ code1, cpK (kd B (tSu B G (0, c, l)).2.1) :: ps, 0) := by
            unfold bhs
            rw [eb, if_pos (by omega), show bhl (cpK (kd B (tSu B G (0, c, l)).2.1)) = 5 from by unfold bhl; rw [if_pos hr4], stl_id (by have := hp.2.2.1; omega)]
          show Rs B s0 _ (bhs (kd B (tSu B G (0, c, l)).2.1) (cd ++ code1) ps).1 (bhs (kd B (tSu B G (0, c, l)).2.1) (cd ++ code1) ps).2.1 (bhs (kd B (tSu B G (0, c, l)).2.1) (cd ++ code1) ps).2.2 F C CD
          rw [e5]
          exact hr
      have hpx : ∀ ps, PC B m c ps → PX B m 5 (lxe B (tSu B G (0, c, l)).2.1) (cpK (kd B (tSu B G (0, c, l)).2.1) :: ps) := fun ps hp => by
        refine ⟨?_, ?_, fun _ => akB_n (by omega) (by omega) ps⟩
        · rw [cntO_b (by unfold isO; omega)]; exact hp.1
        · show rnk _ < 5; omega
      by_cases z3 : (tSu B G (0, lxe B (tSu B G (0, c, l)).2.1, l ++ code1.map mp)).1 = 0
      · obtain ⟨code2, e2, k2, n2, x2, st2⟩ := h2.2 z3
        have eg : GE (kd B (tSu B G (0, c, l)).2.1) (tSu B G (0, lxe B (tSu B G (0, c, l)).2.1, l ++ code1.map mp)) = (0, (tSu B G (0, lxe B (tSu B G (0, c, l)).2.1, l ++ code1.map mp)).2.1, l ++ ((code1 ++ code2) ++ emP [cpK (kd B (tSu B G (0, c, l)).2.1)]).map mp) := by
          unfold GE
          rw [if_pos z3, e2]
          rw [show emP [cpK (kd B (tSu B G (0, c, l)).2.1)] = [(cpK (kd B (tSu B G (0, c, l)).2.1), 0)] from rfl, List.map_append, List.map_append, List.map_singleton, ho.2]
          simp only [List.append_assoc]
        rw [eg]
        refine ⟨fun q => absurd rfl q, fun _ => ⟨code1 ++ code2, [cpK (kd B (tSu B G (0, c, l)).2.1)], rfl, (k1.two k2).cm ho.1, ⟨⟨_, [], rfl, ho.1⟩, fun o hq => ?_⟩, ?_, x2, fun cd ps F C CD hp hr => ?_⟩⟩
        · rw [List.mem_singleton.mp hq]; omega
        · rw [List.length_append, List.length_append]
          have q1 : (emP [cpK (kd B (tSu B G (0, c, l)).2.1)]).length = 1 := rfl
          show code1.length + code2.length + (emP [cpK (kd B (tSu B G (0, c, l)).2.1)]).length + lxp B c ≤ lxp B (tSu B G (0, lxe B (tSu B G (0, c, l)).2.1, l ++ code1.map mp)).2.1
          omega
        · refine step cd ps F C CD hp (st2 _ _ F C CD (hpx ps hp) ?_)
          show Rs B s0 _ (cd ++ code1 ++ code2) (cpK (kd B (tSu B G (0, c, l)).2.1) :: ps) 1 F C CD
          rw [List.append_assoc]
          exact hr
      · have eg : GE (kd B (tSu B G (0, c, l)).2.1) (tSu B G (0, lxe B (tSu B G (0, c, l)).2.1, l ++ code1.map mp)) = tSu B G (0, lxe B (tSu B G (0, c, l)).2.1, l ++ code1.map mp) := by
          unfold GE
          rw [if_neg z3]
        rw [eg]
        exact ⟨fun q cd ps CD hp => step cd ps _ _ CD hp (h2.1 z3 _ _ CD (hpx ps hp)), fun q => absurd q z3⟩
    · have e0 : tCm B G (0, c, l) = (1, (tSu B G (0, c, l)).2.1, (tSu B G (0, c, l)).2.2) := by
        unfold tCm
        rw [if_pos z1, if_neg z2]
      rw [e0]
      refine ⟨fun _ cd ps CD hp => st1 cd ps _ _ CD (hx5 ps hp) ?_, fun q => absurd q (show ¬ (1 : Int) = 0 by decide)⟩
      show Rs B s0 _ (cd ++ code1) ps 1 1 _ CD
      have eb := btK_41 x1 hp.2.1 (cm_lo hp.2.2.1)
      refine Rs.behF ?_ (by rw [hp.2.1]; decide)
      unfold bhf
      rw [decide_eq_false_iff_not, eb, cpK_n z2, hp.2.1]
      have ept : ptK 41 (kd B (tSu B G (0, c, l)).2.1) ps = -1 := by
        unfold ptK
        rw [if_neg (by decide), if_pos rfl, if_neg (fun y => by rw [cm_lo hp.2.2.1] at y; exact absurd y.2 (by decide))]
      rw [ept]
      decide
  · have e0 : tCm B G (0, c, l) = tSu B G (0, c, l) := by
      unfold tCm
      rw [if_neg z1]
    rw [e0]
    exact ⟨fun _ cd ps CD hp => h1.1 z1 cd ps CD ⟨hp.1, by have := hp.2.2.1; omega, fun q => absurd q hp.2.2.2⟩, fun q => absurd q z1⟩
