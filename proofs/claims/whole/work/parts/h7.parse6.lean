/-! ===== one, at every depth; the readers agree ===== -/
theorem nmK_k {k : Int} (h : 8 ≤ k ∧ k ≤ 14) : (0 ≤ nmK k ∧ nmK k ≤ 6) ∧ cK (nmK k) = k := by
  rcases (show k = 8 ∨ k = 9 ∨ k = 10 ∨ k = 11 ∨ k = 12 ∨ k = 13 ∨ k = 14 by omega) with rfl | rfl | rfl | rfl | rfl | rfl | rfl <;> decide
theorem nmK_n {k : Int} (h : ¬ (8 ≤ k ∧ k ≤ 14)) : nmK k < 0 := by
  unfold nmK
  rw [if_neg (by omega), if_neg (by omega), if_neg (by omega), if_neg (by omega), if_neg (by omega), if_neg (by omega), if_neg (by omega)]
  decide
theorem wrN_k {k s0 : Int} (h : 8 ≤ k ∧ k ≤ 14) (hs : s0 = 0 ∨ s0 = 1) : wrN k (s0 + 3) ↔ ¬ ofN s0 (nmK k) := by
  unfold wrN ofN
  rcases hs with rfl | rfl <;> rcases (show k = 8 ∨ k = 9 ∨ k = 10 ∨ k = 11 ∨ k = 12 ∨ k = 13 ∨ k = 14 by omega) with rfl | rfl | rfl | rfl | rfl | rfl | rfl <;> decide
theorem tOne_f {B : Nat → Int} {s : Int} {p : Option ((RR → RR) × (RR → RR))} (r : RR) (h : ¬ r.1 = 0) : tOne B s p r = r := by
  unfold tOne
  rw [if_neg h]
/-- numbers, names and what is no one -/
theorem SO_leaf {B : Nat → Int} {s0 : Int} (hs : s0 = 0 ∨ s0 = 1) {m : Nat} {p : Option ((RR → RR) × (RR → RR))} {c : Nat} (hk : ¬ opK2 (kd B c)) (l : List Int) :
    (¬ (tOne B (s0 + 3) p (0, c, l)).1 = 0 → ∀ cd ps CD, P1 B m c ps → Rs B s0 c cd ps 0 (tOne B (s0 + 3) p (0, c, l)).1 (tOne B (s0 + 3) p (0, c, l)).2.1 CD) ∧
    ((tOne B (s0 + 3) p (0, c, l)).1 = 0 → ∃ code : List (Int × Int), (tOne B (s0 + 3) p (0, c, l)).2.2 = l ++ code.map mp ∧ KC s0 false code ∧ code.length + lxp B c ≤ lxp B (tOne B (s0 + 3) p (0, c, l)).2.1 ∧ XT (kd B (tOne B (s0 + 3) p (0, c, l)).2.1) ∧ ∀ cd ps F C CD, P1 B m c ps → Rs B s0 (tOne B (s0 + 3) p (0, c, l)).2.1 (E7 ps (cd ++ code)).2 (E7 ps (cd ++ code)).1 1 F C CD → Rs B s0 c cd ps 0 F C CD) := by
  have hB := lxn_B B c
  by_cases q2 : kd B c = 2
  · have hnx := lx_next (B := B) (c := c) (by omega)
    by_cases q9 : 9999 < lxv B c
    · have e : tOne B (s0 + 3) p (0, c, l) = (2, c, l) := by
        unfold tOne
        rw [if_pos rfl, if_pos q2, if_pos q9]
      rw [e]
      refine ⟨fun _ cd ps CD hp => ?_, fun y => absurd y (show ¬ (2 : Int) = 0 by decide)⟩
      refine Rs.begF ?_ (show ¬ (2 : Int) = 0 by decide)
      unfold bgf
      rw [if_pos q2, if_pos (by unfold lxv at q9; omega)]
    · have ev : lxv B c = lxn B c := by unfold lxv at q9 ⊢; omega
      have e : tOne B (s0 + 3) p (0, c, l) = (0, lxe B c, l ++ [100 + lxn B c]) := by
        unfold tOne
        rw [if_pos rfl, if_pos q2, if_neg q9, ev]
      rw [e]
      refine ⟨fun y => absurd rfl y, fun _ => ⟨[(0, lxn B c)], rfl, KC.num (by omega), ?_, trivial, fun cd ps F C CD hp hr => Rs.beg ?_ ?_⟩⟩
      · show 1 + lxp B c ≤ lxp B (lxe B c)
        omega
      · unfold bgf
        rw [if_pos q2, if_neg (by omega)]
      · have e3 : bgs (kd B c) (lxn B c) cd ps = ((stl 7 ps (cd ++ [(0, lxn B c)])).2, (stl 7 ps (cd ++ [(0, lxn B c)])).1, 1) := by
          unfold bgs
          rw [if_pos q2]
        rw [e3]; exact hr
  · by_cases qn : 8 ≤ kd B c ∧ kd B c ≤ 14
    · have hnx := lx_next (B := B) (c := c) (by omega)
      have hn := nmK_k qn
      have hw := wrN_k qn hs
      by_cases qw : ofN s0 (nmK (kd B c))
      · have e : tOne B (s0 + 3) p (0, c, l) = (0, lxe B c, l ++ [kd B c]) := by
          unfold tOne
          rw [if_pos rfl, if_neg q2, if_pos qn, if_neg (fun z => (hw.mp z) qw)]
        rw [e]
        refine ⟨fun y => absurd rfl y, fun _ => ⟨[(1, nmK (kd B c))], ?_, KC.name hn.1 qw, ?_, trivial, fun cd ps F C CD hp hr => Rs.beg ?_ ?_⟩⟩
        · show l ++ [kd B c] = l ++ [cK (nmK (kd B c))]
          rw [hn.2]
        · show 1 + lxp B c ≤ lxp B (lxe B c)
          omega
        · unfold bgf
          rw [if_neg q2, if_pos hn.1.1, if_pos qw]
        · have e3 : bgs (kd B c) (lxn B c) cd ps = ((stl 7 ps (cd ++ [(1, nmK (kd B c))])).2, (stl 7 ps (cd ++ [(1, nmK (kd B c))])).1, 1) := by
            unfold bgs
            rw [if_neg q2, if_pos hn.1.1]
          rw [e3]; exact hr
      · have e : tOne B (s0 + 3) p (0, c, l) = (5, c, l) := by
          unfold tOne
          rw [if_pos rfl, if_neg q2, if_pos qn, if_pos (hw.mpr qw)]
        rw [e]
        refine ⟨fun _ cd ps CD hp => ?_, fun y => absurd y (show ¬ (5 : Int) = 0 by decide)⟩
        refine Rs.begF ?_ (show ¬ (5 : Int) = 0 by decide)
        unfold bgf
        rw [if_neg q2, if_pos hn.1.1, if_neg qw]
    · have e : tOne B (s0 + 3) p (0, c, l) = (1, c, l) := by
        unfold tOne
        rw [if_pos rfl, if_neg q2, if_neg qn, if_neg hk]
      rw [e]
      refine ⟨fun _ cd ps CD hp => ?_, fun y => absurd y (show ¬ (1 : Int) = 0 by decide)⟩
      refine Rs.begF (bg_no q2 (nmK_n qn) ?_) (show ¬ (1 : Int) = 0 by decide)
      unfold opK2 at hk
      unfold opK
      rw [if_neg (by omega), if_neg (by omega), if_neg (by omega), if_neg (by omega), if_neg (by omega), if_neg (fun z => by rw [hp.2 z.1] at z; exact absurd z.2 (by decide))]
theorem SO_one0 {B : Nat → Int} {s0 : Int} (hs : s0 = 0 ∨ s0 = 1) : SO B s0 (tOne B (s0 + 3) none) (P1 B 0) E7 XT := by
  intro c l
  by_cases hk : opK2 (kd B c)
  · have hk' : kd B c = 38 ∨ kd B c = 35 ∨ kd B c = 15 ∨ kd B c = 16 ∨ kd B c = 17 := hk
    have e : tOne B (s0 + 3) none (0, c, l) = (3, c, l) := by
      unfold tOne
      rw [if_pos rfl, if_neg (show ¬ kd B c = 2 by omega), if_neg (show ¬ (8 ≤ kd B c ∧ kd B c ≤ 14) by omega), if_pos hk]
    rw [e]
    refine ⟨fun _ cd ps CD hp => ?_, fun y => absurd y (show ¬ (3 : Int) = 0 by decide)⟩
    have h8 : cntO ps = 8 := by
      have : cntO ps + ((0 : Nat) : Int) = 8 := hp.1
      omega
    refine Rs.open8 (o := opK (kd B c) ps) (by omega) (nmK_n (by omega)) rfl ?_ h8
    rcases hk' with h | h | h | h | h <;> rw [h] <;> unfold opK <;> simp
  · exact SO_leaf hs hk l
theorem SO_oneS {B : Nat → Int} {s0 : Int} (hB : ∀ k, 300 ≤ k → B k < 0) (hs : s0 = 0 ∨ s0 = 1) {m : Nat} {p : (RR → RR) × (RR → RR)} (hf : ∀ r : RR, ¬ r.1 = 0 → p.1 r = r) (h1 : SO B s0 p.1 (P1 B m) E7 XT) (h2 : SB B s0 p.2 (PBk m 4) 3 XS) : SO B s0 (tOne B (s0 + 3) (some p)) (P1 B (m + 1)) E7 XT := by
  intro c l
  have hsum := SO_sum hB h1
  by_cases hk : opK2 (kd B c)
  · have hk' : kd B c = 38 ∨ kd B c = 35 ∨ kd B c = 15 ∨ kd B c = 16 ∨ kd B c = 17 := hk
    have e : tOne B (s0 + 3) (some p) (0, c, l) = tOp B p (0, c, l) := by
      unfold tOne
      rw [if_pos rfl, if_neg (show ¬ kd B c = 2 by omega), if_neg (show ¬ (8 ≤ kd B c ∧ kd B c ≤ 14) by omega), if_pos hk]
    rw [e]
    by_cases q38 : kd B c = 38
    · have e2 : tOp B p (0, c, l) = GX B 39 (tSu B p.1 (0, lxe B c, l)) := by
        unfold tOp
        rw [if_pos q38]
      rw [e2]
      exact SO_par hsum q38 l
    · by_cases q17 : kd B c = 17
      · have e2 : tOp B p (0, c, l) = GE 50 (GX B 20 (tSu B p.1 (GX B 19 (tSu B p.1 (GX B 18 (tEi B p.2 (0, lxe B c, l))))))) := by
          unfold tOp
          rw [if_neg q38, if_pos q17]
        rw [e2]
        exact SO_if hf hsum (SB_ei hB h2) q17 l
      · have e2 : tOp B p (0, c, l) = GE (if kd B c = 35 then 51 else kd B c) (p.1 (0, lxe B c, l)) := by
          unfold tOp
          rw [if_neg q38, if_neg q17]
        rw [e2]
        by_cases q35 : kd B c = 35
        · rw [if_pos q35]
          exact SO_una h1 (o := 5) (Or.inl ⟨q35, rfl, rfl⟩) l
        · rw [if_neg q35]
          by_cases q15 : kd B c = 15
          · rw [q15]
            exact SO_una h1 (o := 2) (w := 15) (Or.inr (Or.inl ⟨q15, rfl, rfl⟩)) l
          · have q16 : kd B c = 16 := by omega
            rw [q16]
            exact SO_una h1 (o := 4) (w := 16) (Or.inr (Or.inr ⟨q16, rfl, rfl⟩)) l
  · exact SO_leaf hs hk l
theorem fam_ok {B : Nat → Int} {s0 : Int} (hB : ∀ k, 300 ≤ k → B k < 0) (hs : s0 = 0 ∨ s0 = 1) : ∀ m : Nat, SO B s0 (fam B (s0 + 3) m).1 (P1 B m) E7 XT ∧ SB B s0 (fam B (s0 + 3) m).2 (PBk m 4) 3 XS ∧ ∀ r : RR, ¬ r.1 = 0 → (fam B (s0 + 3) m).1 r = r := by
  intro m
  induction m with
  | zero =>
    have h1 : SO B s0 (fam B (s0 + 3) 0).1 (P1 B 0) E7 XT := SO_one0 hs
    exact ⟨h1, SB_ask0 (SB_cmp (SO_sum hB h1)), fun r hr => tOne_f (B := B) (s := s0 + 3) (p := none) r hr⟩
  | succ m ih =>
    have h1 : SO B s0 (fam B (s0 + 3) (m + 1)).1 (P1 B (m + 1)) E7 XT := SO_oneS hB hs ih.2.2 ih.1 ih.2.1
    exact ⟨h1, SB_askS (SB_cmp (SO_sum hB h1)) ih.2.1, fun r hr => tOne_f (B := B) (s := s0 + 3) (p := some (fam B (s0 + 3) m)) r hr⟩
theorem law_ok {B : Nat → Int} {s0 : Int} (hB : ∀ k, 300 ≤ k → B k < 0) (hs : s0 = 0 ∨ s0 = 1) (c : Nat) :
    (¬ (cLw B (s0 + 3) c).1 = 0 → ∀ cd CD, Rs B s0 c cd [] 0 (cLw B (s0 + 3) c).1 (cLw B (s0 + 3) c).2.1 CD) ∧
    ((cLw B (s0 + 3) c).1 = 0 → ∃ code : List (Int × Int), (cLw B (s0 + 3) c).2.2 = code.map mp ∧ KC s0 false code ∧ code.length + lxp B c ≤ lxp B (cLw B (s0 + 3) c).2.1 ∧ ∀ cd, Rs B s0 c cd [] 0 0 (cLw B (s0 + 3) c).2.1 (cd ++ code)) := by
  have h := SO_sum hB (fam_ok hB hs 8).1 c []
  have hp : PX B 8 5 c [] := ⟨rfl, by show (0 : Int) < 5; decide, fun _ => rfl⟩
  refine ⟨fun z cd CD => h.1 z cd [] CD hp, fun z => ?_⟩
  obtain ⟨code, u1, u2, u3, u4, u5⟩ := h.2 z
  refine ⟨code, u1.trans (List.nil_append _), u2, u3, fun cd => u5 cd [] 0 _ _ hp ?_⟩
  have hn : bhf (kd B (tSu B (fam B (s0 + 3) 8).1 (0, c, [])).2.1) [] = false := by
    have := u4.n
    unfold bhf
    rw [decide_eq_false_iff_not]
    have e1 : btK (kd B (tSu B (fam B (s0 + 3) 8).1 (0, c, [])).2.1) [] = -1 := by
      unfold btK
      rw [if_neg (by omega), if_neg (by omega), if_neg (by omega), if_neg (by omega), if_pos (by decide)]
    have e2 : ptK (opn []) (kd B (tSu B (fam B (s0 + 3) 8).1 (0, c, [])).2.1) [] = -1 := rfl
    rw [e1, e2]
    decide
  exact Rs.fin hn (show ¬ 0 ≤ opn [] by decide)
theorem bgf_1 {v s0 : Int} {ps : List Int} : bgf 1 v s0 ps = 1 := bg_no (by decide) (by decide) (by
  unfold opK
  rw [if_neg (by decide), if_neg (by decide), if_neg (by decide), if_neg (by decide), if_neg (by decide), if_neg (fun z => absurd z.1 (by decide))])
theorem bhf_1 {ps : List Int} : bhf 1 ps = false := by
  have e1 : btK 1 ps = -1 := by
    unfold btK
    rw [if_neg (by decide), if_neg (by decide), if_neg (by decide), if_neg (by decide), if_neg (show ¬ (1 : Int) = 22 by decide), if_neg (show ¬ (1 : Int) = 21 by decide)]
    split
    · rfl
    · split
      · rfl
      · rfl
  have e2 : ∀ o, ptK o 1 ps = -1 := fun o => by
    unfold ptK
    rw [if_neg (show ¬ (1 : Int) = 39 by decide), if_neg (show ¬ ((1 : Int) = 18 ∧ cmB ps = true) from fun z => absurd z.1 (by decide)), if_neg (show ¬ (1 : Int) = 19 by decide), if_neg (show ¬ (1 : Int) = 20 by decide)]
    repeat' split
    all_goals rfl
  unfold bhf
  rw [decide_eq_false_iff_not, e1, e2]
  decide
theorem sy_fuel {B : Nat → Int} {s0 : Int} (hB : ∀ k, 300 ≤ k → B k < 0) : ∀ (n k c : Nat) (cd : List (Int × Int)) (ps : List Int) (wh : Int), c ≤ 300 → 301 ≤ n + lxp B c → sy B s0 (n + k) c cd ps wh = sy B s0 n c cd ps wh := by
  intro n
  induction n with
  | zero =>
    intro k c cd ps wh hc h
    have := lxp_hi hB hc
    omega
  | succ n ih =>
    intro k c cd ps wh hc h
    have hle := lxe_hi hB hc
    rw [show n + 1 + k = n + k + 1 by omega, sy, sy]
    by_cases q : kd B c = 1
    · rw [q, bgf_1, bhf_1, if_neg (show ¬ (1 : Int) = 0 by decide), if_neg (show ¬ (false = true) by decide), if_neg (show ¬ (1 : Int) = 0 by decide), if_neg (show ¬ (false = true) by decide)]
    · have hn := lx_next q
      rw [ih k (lxe B c) _ _ _ hle (by omega), ih k (lxe B c) _ _ _ hle (by omega)]
theorem Rs.at {B : Nat → Int} {s0 : Int} (hB : ∀ k, 300 ≤ k → B k < 0) {c : Nat} (hc : c ≤ 300) {cd CD : List (Int × Int)} {ps : List Int} {wh F : Int} {C : Nat} (h : Rs B s0 c cd ps wh F C CD) : (sy B s0 301 c cd ps wh).1 = F ∧ (sy B s0 301 c cd ps wh).2.1 = C ∧ (F = 0 → (sy B s0 301 c cd ps wh).2.2 = CD) := by
  obtain ⟨n0, h⟩ := h
  have := h (301 + n0) (by omega)
  rw [sy_fuel hB 301 n0 c cd ps wh hc (by omega)] at this
  exact this
