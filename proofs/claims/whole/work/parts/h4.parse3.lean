/-! ===== what is asked, its and's and or's ===== -/
section
variable {B : Nat → Int} {s0 : Int} {c : Nat} {cd CD : List (Int × Int)} {ps : List Int} {F : Int} {C : Nat}
theorem Rs.open_ {o : Int} (h2 : ¬ kd B c = 2) (hn : nmK (kd B c) < 0) (ho : opK (kd B c) ps = o) (hne : ¬ o = -1) (h8 : ¬ cntO ps = 8) (h : Rs B s0 (lxe B c) cd (o :: ps) 0 F C CD) : Rs B s0 c cd ps 0 F C CD := by
  have e := bg_open (k := kd B c) (v := lxn B c) (s0 := s0) (cd := cd) (ps := ps) h2 hn ho hne
  rw [if_neg h8] at e
  refine Rs.beg e.1 ?_
  rw [e.2]
  exact h
theorem Rs.open8 {o : Int} (h2 : ¬ kd B c = 2) (hn : nmK (kd B c) < 0) (ho : opK (kd B c) ps = o) (hne : ¬ o = -1) (h8 : cntO ps = 8) : Rs B s0 c cd ps 0 3 c CD := by
  have e := bg_open (k := kd B c) (v := lxn B c) (s0 := s0) (cd := cd) (ps := ps) h2 hn ho hne
  rw [if_pos h8] at e
  exact Rs.begF e.1 (by decide)
end
theorem opK_23 {ps : List Int} (h : akB ps = true) : opK 23 ps = 20 := by
  unfold opK
  rw [if_neg (by decide), if_neg (by decide), if_neg (by decide), if_neg (by decide), if_neg (by decide), if_pos ⟨rfl, h⟩]
theorem SB_ask0 {B : Nat → Int} {s0 : Int} {G : RR → RR} (h : SB B s0 (tCm B G) (PC B 0) 3 XS) : SB B s0 (tAk B none G) (PBk 0 4) 3 XS := by
  intro c l
  by_cases q : kd B c = 23
  · have e : tAk B none G (0, c, l) = (3, c, l) := by
      unfold tAk
      rw [if_pos rfl, if_pos q]
    rw [e]
    refine ⟨fun _ cd ps CD hp => ?_, fun z => absurd z (show ¬ (3 : Int) = 0 by decide)⟩
    have h8 : cntO ps = 8 := by
      have : cntO ps + ((0 : Nat) : Int) = 8 := hp.1
      omega
    exact Rs.open8 (o := 20) (by omega) (by rw [q]; decide) (by rw [q]; exact opK_23 hp.2.2.2) (by decide) h8
  · have e : tAk B none G (0, c, l) = tCm B G (0, c, l) := by
      unfold tAk
      rw [if_pos rfl, if_neg q]
    rw [e]
    have hS := h c l
    refine ⟨fun z cd ps CD hp => hS.1 z cd ps CD ⟨hp.1, hp.2.1, hp.2.2.1, q⟩, fun z => ?_⟩
    obtain ⟨code, pl, u1, u2, u3, u4, u5, u6⟩ := hS.2 z
    exact ⟨code, pl, u1, u2, u3, u4, u5, fun cd ps F C CD hp hr => u6 cd ps F C CD ⟨hp.1, hp.2.1, hp.2.2.1, q⟩ hr⟩
theorem SB_askS {B : Nat → Int} {s0 : Int} {m : Nat} {G : RR → RR} {p : (RR → RR) × (RR → RR)} (h : SB B s0 (tCm B G) (PC B (m + 1)) 3 XS) (hA : SB B s0 p.2 (PBk m 4) 3 XS) : SB B s0 (tAk B (some p) G) (PBk (m + 1) 4) 3 XS := by
  intro c l
  by_cases q : kd B c = 23
  · have hnx := lx_next (B := B) (c := c) (by omega)
    have e : tAk B (some p) G (0, c, l) = GE 23 (p.2 (0, lxe B c, l)) := by
      unfold tAk
      rw [if_pos rfl, if_pos q]
    rw [e]
    have hS := hA (lxe B c) l
    have r20 : rnk 20 = 3 := by decide
    have open20 : ∀ cd ps F C CD, PBk (m + 1) 4 c ps → Rs B s0 (lxe B c) cd (20 :: ps) 0 F C CD → Rs B s0 c cd ps 0 F C CD := fun cd ps F C CD hp hr => by
      have h8 : ¬ cntO ps = 8 := by
        have : cntO ps + ((m + 1 : Nat) : Int) = 8 := hp.1
        omega
      exact Rs.open_ (by omega) (by rw [q]; decide) (by rw [q]; exact opK_23 hp.2.2.2) (by decide) h8 hr
    have ctx : ∀ ps, PBk (m + 1) 4 c ps → PBk m 4 (lxe B c) (20 :: ps) := fun ps hp => by
      have e1 : opn (20 :: ps) = 41 := (opn_c (by decide)).trans hp.2.1
      refine ⟨?_, e1, ?_, ?_⟩
      · have : cntO ps + ((m + 1 : Nat) : Int) = 8 := hp.1
        rw [cntO_o (by decide)]; omega
      · show rnk 20 < 4; omega
      · show decide (opn (20 :: ps) = 41 ∧ (40 ≤ (20 : Int) ∨ (1 ≤ rnk 20 ∧ rnk 20 ≤ 3))) = true
        rw [decide_eq_true_iff]
        exact ⟨e1, Or.inr (by omega)⟩
    by_cases z : (p.2 (0, lxe B c, l)).1 = 0
    · obtain ⟨code, pl, u1, u2, u3, u4, u5, u6⟩ := hS.2 z
      have ee : code ++ emP (pl ++ [20]) = code ++ emP pl ++ [(20, 0)] := by rw [emP_add, List.append_assoc]
      have eg : GE 23 (p.2 (0, lxe B c, l)) = (0, (p.2 (0, lxe B c, l)).2.1, l ++ (code ++ emP (pl ++ [20])).map mp) := by
        unfold GE
        rw [if_pos z, u1, ee, List.map_append (l₁ := code ++ emP pl), List.append_assoc]
        rfl
      rw [eg]
      refine ⟨fun y => absurd rfl y, fun _ => ⟨code, pl ++ [20], rfl, ?_, u3.add (by omega) (by decide), ?_, u5, fun cd ps F C CD hp hr => ?_⟩⟩
      · rw [ee]; exact u2.no
      · rw [ee, List.length_append]
        show (code ++ emP pl).length + 1 + lxp B c ≤ lxp B (p.2 (0, lxe B c, l)).2.1
        omega
      · refine open20 cd ps F C CD hp (u6 cd (20 :: ps) F C CD (ctx ps hp) ?_)
        rw [show pl ++ 20 :: ps = pl ++ [20] ++ ps by simp]
        exact hr
    · have eg : GE 23 (p.2 (0, lxe B c, l)) = p.2 (0, lxe B c, l) := by
        unfold GE
        rw [if_neg z]
      rw [eg]
      exact ⟨fun _ cd ps CD hp => open20 cd ps _ _ CD hp (hS.1 z cd _ CD (ctx ps hp)), fun y => absurd y z⟩
  · have e : tAk B (some p) G (0, c, l) = tCm B G (0, c, l) := by
      unfold tAk
      rw [if_pos rfl, if_neg q]
    rw [e]
    have hS := h c l
    refine ⟨fun z cd ps CD hp => hS.1 z cd ps CD ⟨hp.1, hp.2.1, hp.2.2.1, q⟩, fun z => ?_⟩
    obtain ⟨code, pl, u1, u2, u3, u4, u5, u6⟩ := hS.2 z
    exact ⟨code, pl, u1, u2, u3, u4, u5, fun cd ps F C CD hp hr => u6 cd ps F C CD ⟨hp.1, hp.2.1, hp.2.2.1, q⟩ hr⟩
theorem SB_lp {B : Nat → Int} {s0 : Int} (hB : ∀ k, 300 ≤ k → B k < 0) {m0 : Nat} {L LF loF kk o : Int} (hko : (kk = 22 ∧ o = 21 ∧ L = 2) ∨ (kk = 21 ∧ o = 22 ∧ L = 1)) (hLF : L < LF) (hlo : L ≤ loF) {P : Int → Bool} (hP : ∀ k, P k = true ↔ k = kk) {F : RR → RR} {XF : Int → Prop} (hF : SB B s0 F (PBk m0 LF) loF XF) : SB B s0 (fun r => tLp B P F 300 (F r)) (PBk m0 L) L (fun k => XF k ∧ P k = false) := by
  have ho : o = 21 ∨ o = 22 := by omega
  have hrk0 : rnk o = L := by rcases hko with ⟨_, rfl, rfl⟩ | ⟨_, rfl, rfl⟩ <;> decide
  have hbl : bhl o = L := by rcases hko with ⟨_, rfl, rfl⟩ | ⟨_, rfl, rfl⟩ <;> decide
  have hmp : mp (o, 0) = kk := by rcases hko with ⟨rfl, rfl, _⟩ | ⟨rfl, rfl, _⟩ <;> decide
  have hnO : ¬ isO o := by rcases ho with rfl | rfl <;> decide
  have h40 : ¬ 40 ≤ o := by omega
  have hkk1 : ¬ kk = 1 := by omega
  have bk : ∀ qs, opn qs = 41 → cmB qs = true → btK kk qs = o := fun qs h1 h2 => by
    unfold btK
    rw [h1, h2]
    rcases hko with ⟨rfl, rfl, _⟩ | ⟨rfl, rfl, _⟩ <;> rfl
  have step : ∀ c' cd code pl ps F0 C CD, kd B c' = kk → PDp L pl → opn ps = 41 → hrk ps < L → Rs B s0 (lxe B c') (cd ++ (code ++ emP pl)) (o :: ps) 0 F0 C CD → Rs B s0 c' (cd ++ code) (pl ++ ps) 1 F0 C CD := fun c' cd code pl ps F0 C CD hk hpl h1 h2 hr => by
    have e1 : opn (pl ++ ps) = 41 := (opn_pl pl ps (fun x hx => (hpl.2 x hx).2)).trans h1
    have eb := bk (pl ++ ps) e1 (hpl.cm ps)
    refine Rs.beh ?_ ?_
    · unfold bhf
      rw [decide_eq_true_iff, hk, eb]
      exact Or.inl (by omega)
    · have e5 : bhs (kd B c') (cd ++ code) (pl ++ ps) = (cd ++ (code ++ emP pl), o :: ps, 0) := by
        unfold bhs
        rw [hk, eb, if_pos (by omega), hbl, stl_pl pl ps _ (fun x hx => (hpl.2 x hx).1), stl_id h2, List.append_assoc]
      rw [e5]
      exact hr
  have ctx : ∀ c' ps, cntO ps + (m0 : Int) = 8 → opn ps = 41 → PBk m0 LF c' (o :: ps) := fun c' ps h1 h2 => by
    have e1 : opn (o :: ps) = 41 := (opn_c h40).trans h2
    refine ⟨by rw [cntO_b hnO]; exact h1, e1, by show rnk o < LF; omega, ?_⟩
    show decide (opn (o :: ps) = 41 ∧ (40 ≤ o ∨ (1 ≤ rnk o ∧ rnk o ≤ 3))) = true
    rw [decide_eq_true_iff]
    exact ⟨e1, Or.inr (by omega)⟩
  have loop : ∀ (m c' : Nat) (l : List Int) (code : List (Int × Int)) (pl : List Int), KC s0 true (code ++ emP pl) → PDp L pl → XF (kd B c') → 301 ≤ m + lxp B c' →
      (¬ (tLp B P F m (0, c', l ++ (code ++ emP pl).map mp)).1 = 0 → ∀ cd ps CD, cntO ps + (m0 : Int) = 8 → opn ps = 41 → hrk ps < L → Rs B s0 c' (cd ++ code) (pl ++ ps) 1 (tLp B P F m (0, c', l ++ (code ++ emP pl).map mp)).1 (tLp B P F m (0, c', l ++ (code ++ emP pl).map mp)).2.1 CD) ∧
      ((tLp B P F m (0, c', l ++ (code ++ emP pl).map mp)).1 = 0 → ∃ (code2 : List (Int × Int)) (pl2 : List Int), (tLp B P F m (0, c', l ++ (code ++ emP pl).map mp)).2.2 = l ++ (code2 ++ emP pl2).map mp ∧ KC s0 true (code2 ++ emP pl2) ∧ PDp L pl2 ∧ (code2 ++ emP pl2).length + lxp B c' ≤ (code ++ emP pl).length + lxp B (tLp B P F m (0, c', l ++ (code ++ emP pl).map mp)).2.1 ∧ (XF (kd B (tLp B P F m (0, c', l ++ (code ++ emP pl).map mp)).2.1) ∧ P (kd B (tLp B P F m (0, c', l ++ (code ++ emP pl).map mp)).2.1) = false) ∧ ∀ cd ps F0 C CD, cntO ps + (m0 : Int) = 8 → opn ps = 41 → hrk ps < L → Rs B s0 (tLp B P F m (0, c', l ++ (code ++ emP pl).map mp)).2.1 (cd ++ code2) (pl2 ++ ps) 1 F0 C CD → Rs B s0 c' (cd ++ code) (pl ++ ps) 1 F0 C CD) := by
    intro m
    induction m with
    | zero =>
      intro c' l code pl hk hpl hx hm
      have hn : P (kd B c') = false := by
        cases q : P (kd B c') with
        | false => rfl
        | true =>
          have := lxp_300 hB (c := c') (by rw [(hP _).mp q]; exact hkk1)
          omega
      exact ⟨fun z => absurd rfl z, fun _ => ⟨code, pl, rfl, hk, hpl, Nat.le_refl _, ⟨hx, hn⟩, fun _ _ _ _ _ _ _ _ h => h⟩⟩
    | succ m ih =>
      intro c' l code pl hk hpl hx hm
      by_cases q : P (kd B c') = true
      · have hkk : kd B c' = kk := (hP _).mp q
        have hnx := lx_next (B := B) (c := c') (by rw [hkk]; exact hkk1)
        have e0 : tLp B P F (m + 1) (0, c', l ++ (code ++ emP pl).map mp) = tLp B P F m (GE (kd B c') (F (0, lxe B c', l ++ (code ++ emP pl).map mp))) := by
          rw [tLp, if_pos ⟨rfl, q⟩]
        rw [e0]
        have hS := hF (lxe B c') (l ++ (code ++ emP pl).map mp)
        by_cases z : (F (0, lxe B c', l ++ (code ++ emP pl).map mp)).1 = 0
        · obtain ⟨code1, pl1, e1, k1, p1, ln1, x1, st1⟩ := hS.2 z
          have ef : (code ++ emP pl ++ code1) ++ emP (pl1 ++ [o]) = (code ++ emP pl) ++ (code1 ++ emP pl1) ++ [(o, 0)] := by
            rw [emP_add]
            simp only [List.append_assoc]
          have eg : GE (kd B c') (F (0, lxe B c', l ++ (code ++ emP pl).map mp)) = (0, (F (0, lxe B c', l ++ (code ++ emP pl).map mp)).2.1, l ++ ((code ++ emP pl ++ code1) ++ emP (pl1 ++ [o])).map mp) := by
            unfold GE
            rw [if_pos z, e1, ef, List.map_append (l₁ := (code ++ emP pl) ++ (code1 ++ emP pl1)), List.map_append (l₁ := code ++ emP pl), List.map_singleton, hmp, hkk]
            simp only [List.append_assoc]
          have hkn : KC s0 true ((code ++ emP pl ++ code1) ++ emP (pl1 ++ [o])) := by
            rw [ef]; exact (hk.two k1).jn ho
          have hpn : PDp L (pl1 ++ [o]) := (p1.mono hlo).add (by omega) (by omega)
          have hI := ih (F (0, lxe B c', l ++ (code ++ emP pl).map mp)).2.1 l _ _ hkn hpn x1 (by omega)
          rw [← eg] at hI
          have back : ∀ cd ps F0 C CD, cntO ps + (m0 : Int) = 8 → opn ps = 41 → hrk ps < L → Rs B s0 (F (0, lxe B c', l ++ (code ++ emP pl).map mp)).2.1 (cd ++ (code ++ emP pl ++ code1)) ((pl1 ++ [o]) ++ ps) 1 F0 C CD → Rs B s0 c' (cd ++ code) (pl ++ ps) 1 F0 C CD := fun cd ps F0 C CD h1 h2 h3 hr => by
            refine step c' cd code pl ps F0 C CD hkk hpl h2 h3 (st1 _ _ F0 C CD (ctx _ ps h1 h2) ?_)
            rw [show cd ++ (code ++ emP pl) ++ code1 = cd ++ (code ++ emP pl ++ code1) by simp only [List.append_assoc], show pl1 ++ o :: ps = (pl1 ++ [o]) ++ ps by simp]
            exact hr
          refine ⟨fun hf cd ps CD h1 h2 h3 => back cd ps _ _ CD h1 h2 h3 (hI.1 hf cd ps CD h1 h2 h3), fun hf => ?_⟩
          obtain ⟨code2, pl2, u1, u2, u3, u4, u5, u6⟩ := hI.2 hf
          refine ⟨code2, pl2, u1, u2, u3, ?_, u5, fun cd ps F0 C CD h1 h2 h3 hr => back cd ps F0 C CD h1 h2 h3 (u6 cd ps F0 C CD h1 h2 h3 hr)⟩
          rw [ef, List.length_append (as := (code ++ emP pl) ++ (code1 ++ emP pl1)), List.length_append (as := code ++ emP pl)] at u4
          have u4' : (code2 ++ emP pl2).length + lxp B (F (0, lxe B c', l ++ (code ++ emP pl).map mp)).2.1 ≤ (code ++ emP pl).length + (code1 ++ emP pl1).length + 1 + lxp B (tLp B P F m (GE (kd B c') (F (0, lxe B c', l ++ (code ++ emP pl).map mp)))).2.1 := u4
          omega
        · have eg : GE (kd B c') (F (0, lxe B c', l ++ (code ++ emP pl).map mp)) = F (0, lxe B c', l ++ (code ++ emP pl).map mp) := by
            unfold GE
            rw [if_neg z]
          rw [eg, tLp_f m z]
          exact ⟨fun _ cd ps CD h1 h2 h3 => step c' cd code pl ps _ _ CD hkk hpl h2 h3 (hS.1 z _ _ CD (ctx _ ps h1 h2)), fun hf => absurd hf z⟩
      · have hn : P (kd B c') = false := by
          cases w : P (kd B c') with
          | false => rfl
          | true => exact absurd w q
        have e0 : tLp B P F (m + 1) (0, c', l ++ (code ++ emP pl).map mp) = (0, c', l ++ (code ++ emP pl).map mp) := by
          rw [tLp, if_neg (fun z => q z.2)]
        rw [e0]
        exact ⟨fun z => absurd rfl z, fun _ => ⟨code, pl, rfl, hk, hpl, Nat.le_refl _, ⟨hx, hn⟩, fun _ _ _ _ _ _ _ _ h => h⟩⟩
  intro c l
  have hS := hF c l
  have up_ : ∀ ps, PBk m0 L c ps → PBk m0 LF c ps := fun ps hp => ⟨hp.1, hp.2.1, Int.lt_trans hp.2.2.1 hLF, hp.2.2.2⟩
  show (¬ (tLp B P F 300 (F (0, c, l))).1 = 0 → _) ∧ ((tLp B P F 300 (F (0, c, l))).1 = 0 → _)
  by_cases z : (F (0, c, l)).1 = 0
  · obtain ⟨code1, pl1, e1, k1, p1, ln1, x1, st1⟩ := hS.2 z
    have hl1 := k1.len
    have eF : F (0, c, l) = (0, (F (0, c, l)).2.1, l ++ (code1 ++ emP pl1).map mp) := Prod.ext z (Prod.ext rfl e1)
    have hfu : 301 ≤ 300 + lxp B (F (0, c, l)).2.1 := by omega
    have hI := loop 300 (F (0, c, l)).2.1 l code1 pl1 k1 (p1.mono hlo) x1 hfu
    rw [← eF] at hI
    refine ⟨fun hf cd ps CD hp => st1 cd ps _ _ CD (up_ ps hp) (hI.1 hf cd ps CD hp.1 hp.2.1 hp.2.2.1), fun hf => ?_⟩
    obtain ⟨code2, pl2, u1, u2, u3, u4, u5, u6⟩ := hI.2 hf
    exact ⟨code2, pl2, u1, u2, u3, show (code2 ++ emP pl2).length + lxp B c ≤ lxp B (tLp B P F 300 (F (0, c, l))).2.1 by omega, u5, fun cd ps F0 C CD hp hr => st1 cd ps F0 C CD (up_ ps hp) (u6 cd ps F0 C CD hp.1 hp.2.1 hp.2.2.1 hr)⟩
  · have e : tLp B P F 300 (F (0, c, l)) = F (0, c, l) := tLp_f 300 z
    refine ⟨fun _ cd ps CD hp => ?_, fun hf => absurd (by rw [e] at hf; exact hf) z⟩
    show Rs B s0 c cd ps 0 (tLp B P F 300 (F (0, c, l))).1 (tLp B P F 300 (F (0, c, l))).2.1 CD
    rw [e]
    exact hS.1 z cd ps CD (up_ ps hp)
def XE (k : Int) : Prop := (XS k ∧ pAn k = false) ∧ pOr k = false
theorem SB_ei {B : Nat → Int} {s0 : Int} (hB : ∀ k, 300 ≤ k → B k < 0) {m : Nat} {G : RR → RR} (h : SB B s0 G (PBk m 4) 3 XS) : SB B s0 (tEi B G) (PBk m 1) 1 XE := by
  have h2 : SB B s0 (tBo B G) (PBk m 2) 2 (fun k => XS k ∧ pAn k = false) :=
    SB_lp hB (kk := 22) (o := 21) (L := 2) (Or.inl ⟨rfl, rfl, rfl⟩) (by decide) (by decide) (P := pAn) (fun k => by unfold pAn; rw [decide_eq_true_iff]) h
  exact SB_lp hB (kk := 21) (o := 22) (L := 1) (Or.inr ⟨rfl, rfl, rfl⟩) (by decide) (by decide) (P := pOr) (fun k => by unfold pOr; rw [decide_eq_true_iff]) h2
