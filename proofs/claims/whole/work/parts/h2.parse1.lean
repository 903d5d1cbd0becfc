/-! ===== the two readers of a sum, side by side: steps and loops ===== -/
def Rs (B : Nat → Int) (s0 : Int) (c : Nat) (cd : List (Int × Int)) (ps : List Int) (wh : Int) (F : Int) (C : Nat) (CD : List (Int × Int)) : Prop := ∃ n0 : Nat, ∀ n, n0 ≤ n → (sy B s0 n c cd ps wh).1 = F ∧ (sy B s0 n c cd ps wh).2.1 = C ∧ (F = 0 → (sy B s0 n c cd ps wh).2.2 = CD)
section
variable {B : Nat → Int} {s0 : Int} {c : Nat} {cd CD : List (Int × Int)} {ps : List Int} {F : Int} {C : Nat}
theorem Rs.beg (hf : bgf (kd B c) (lxn B c) s0 ps = 0) (h : Rs B s0 (lxe B c) (bgs (kd B c) (lxn B c) cd ps).1 (bgs (kd B c) (lxn B c) cd ps).2.1 (bgs (kd B c) (lxn B c) cd ps).2.2 F C CD) : Rs B s0 c cd ps 0 F C CD := by
  obtain ⟨n0, h⟩ := h
  refine ⟨n0 + 1, fun n hn => ?_⟩
  obtain ⟨m, rfl⟩ : ∃ m, n = m + 1 := ⟨n - 1, by omega⟩
  have e : sy B s0 (m + 1) c cd ps 0 = sy B s0 m (lxe B c) (bgs (kd B c) (lxn B c) cd ps).1 (bgs (kd B c) (lxn B c) cd ps).2.1 (bgs (kd B c) (lxn B c) cd ps).2.2 := by
    rw [sy, if_pos rfl, if_pos hf]
  rw [e]
  exact h m (by omega)
theorem Rs.begF (hf : bgf (kd B c) (lxn B c) s0 ps = F) (hF : ¬ F = 0) : Rs B s0 c cd ps 0 F c CD := by
  refine ⟨1, fun n hn => ?_⟩
  obtain ⟨m, rfl⟩ : ∃ m, n = m + 1 := ⟨n - 1, by omega⟩
  have e : sy B s0 (m + 1) c cd ps 0 = (F, c, cd) := by
    rw [sy, if_pos rfl, if_neg (by rw [hf]; exact hF), hf]
  rw [e]
  exact ⟨rfl, rfl, fun z => absurd z hF⟩
theorem Rs.beh (hf : bhf (kd B c) ps = true) (h : Rs B s0 (lxe B c) (bhs (kd B c) cd ps).1 (bhs (kd B c) cd ps).2.1 (bhs (kd B c) cd ps).2.2 F C CD) : Rs B s0 c cd ps 1 F C CD := by
  obtain ⟨n0, h⟩ := h
  refine ⟨n0 + 1, fun n hn => ?_⟩
  obtain ⟨m, rfl⟩ : ∃ m, n = m + 1 := ⟨n - 1, by omega⟩
  have e : sy B s0 (m + 1) c cd ps 1 = sy B s0 m (lxe B c) (bhs (kd B c) cd ps).1 (bhs (kd B c) cd ps).2.1 (bhs (kd B c) cd ps).2.2 := by
    rw [sy, if_neg (by decide), if_pos hf]
  rw [e]
  exact h m (by omega)
theorem Rs.behF (hf : bhf (kd B c) ps = false) (ho : 0 ≤ opn ps) : Rs B s0 c cd ps 1 1 c CD := by
  refine ⟨1, fun n hn => ?_⟩
  obtain ⟨m, rfl⟩ : ∃ m, n = m + 1 := ⟨n - 1, by omega⟩
  have e : sy B s0 (m + 1) c cd ps 1 = (1, c, cd) := by
    rw [sy, if_neg (by decide), if_neg (by rw [hf]; decide), if_pos ho]
  rw [e]
  exact ⟨rfl, rfl, fun z => absurd z (by decide)⟩
theorem Rs.fin (hf : bhf (kd B c) ps = false) (ho : ¬ 0 ≤ opn ps) : Rs B s0 c cd ps 1 0 c (stl 1 ps cd).2 := by
  refine ⟨1, fun n hn => ?_⟩
  obtain ⟨m, rfl⟩ : ∃ m, n = m + 1 := ⟨n - 1, by omega⟩
  have e : sy B s0 (m + 1) c cd ps 1 = (0, c, (stl 1 ps cd).2) := by
    rw [sy, if_neg (by decide), if_neg (by rw [hf]; decide), if_neg ho]
  rw [e]
  exact ⟨rfl, rfl, fun _ => rfl⟩
theorem stl_id {l : Int} (h : hrk ps < l) : stl l ps cd = (ps, cd) := by
  cases ps with
  | nil => rfl
  | cons o ps =>
    have h : rnk o < l := h
    show (if l ≤ rnk o then _ else _) = _
    rw [if_neg (by omega)]
theorem stl_c {l o : Int} (h : l ≤ rnk o) : stl l (o :: ps) cd = stl l ps (cd ++ [(o, 0)]) := by
  show (if l ≤ rnk o then _ else _) = _
  rw [if_pos h]
theorem opn_c {o : Int} (h : ¬ 40 ≤ o) : opn (o :: ps) = opn ps := by
  show (if 40 ≤ o then _ else _) = _
  rw [if_neg h]
theorem cmB_c {o : Int} (h : 4 < rnk o) : cmB (o :: ps) = cmB ps := by
  show (if 4 < rnk o then _ else _) = _
  rw [if_pos h]
theorem btK_x {k : Int} {ps qs : List Int} (h1 : opn ps = opn qs) (h2 : cmB ps = cmB qs) : btK k ps = btK k qs := by
  unfold btK
  rw [h1, h2]
theorem ptK_x {o k : Int} {ps qs : List Int} (h2 : cmB ps = cmB qs) : ptK o k ps = ptK o k qs := by
  unfold ptK
  rw [h2]
theorem bhf_x {k : Int} {ps qs : List Int} (h1 : opn ps = opn qs) (h2 : cmB ps = cmB qs) : bhf k ps = bhf k qs := by
  unfold bhf
  rw [btK_x h1 h2, h1, ptK_x h2]
/-- what waits may as well have been written -/
theorem Rs.norm {o : Int} (ho : ¬ 40 ≤ o) (hr : 5 ≤ rnk o) (hL : 0 ≤ btK (kd B c) ps → bhl (btK (kd B c) ps) ≤ rnk o) (h : Rs B s0 c (cd ++ [(o, 0)]) ps 1 F C CD) : Rs B s0 c cd (o :: ps) 1 F C CD := by
  obtain ⟨n0, h⟩ := h
  have h1 : opn (o :: ps) = opn ps := opn_c ho
  have h2 : cmB (o :: ps) = cmB ps := cmB_c (by omega)
  have e1 : btK (kd B c) (o :: ps) = btK (kd B c) ps := btK_x h1 h2
  have e2 : ∀ q, ptK q (kd B c) (o :: ps) = ptK q (kd B c) ps := fun q => ptK_x h2
  have e3 : bhf (kd B c) (o :: ps) = bhf (kd B c) ps := bhf_x h1 h2
  have s1 : stl 1 (o :: ps) cd = stl 1 ps (cd ++ [(o, 0)]) := stl_c (by omega)
  have e4 : bhs (kd B c) cd (o :: ps) = bhs (kd B c) (cd ++ [(o, 0)]) ps := by
    unfold bhs
    rw [e1, h1, e2, s1]
    by_cases q : 0 ≤ btK (kd B c) ps
    · rw [if_pos q, if_pos q, stl_c (hL q)]
    · rw [if_neg q, if_neg q]
  refine ⟨n0 + 1, fun n hn => ?_⟩
  have hh := h n (by omega)
  obtain ⟨m, rfl⟩ : ∃ m, n = m + 1 := ⟨n - 1, by omega⟩
  rw [sy, if_neg (by decide)] at hh ⊢
  rw [e3, e4, h1, s1]
  by_cases q : bhf (kd B c) ps = true
  · rw [if_pos q] at hh ⊢; exact hh
  · rw [if_neg q] at hh ⊢
    by_cases z : 0 ≤ opn ps
    · rw [if_pos z] at hh ⊢
      exact ⟨hh.1, hh.2.1, fun y => absurd (hh.1.trans y) (show ¬ (1 : Int) = 0 by decide)⟩
    · rw [if_neg z] at hh ⊢; exact hh
end
/-- a reader of a sum beside the other -/
def SO (B : Nat → Int) (s0 : Int) (G : RR → RR) (P : Nat → List Int → Prop) (E : List Int → List (Int × Int) → List Int × List (Int × Int)) (X : Int → Prop) : Prop :=
  ∀ (c : Nat) (l : List Int),
    (¬ (G (0, c, l)).1 = 0 → ∀ cd ps CD, P c ps → Rs B s0 c cd ps 0 (G (0, c, l)).1 (G (0, c, l)).2.1 CD) ∧
    ((G (0, c, l)).1 = 0 → ∃ code : List (Int × Int), (G (0, c, l)).2.2 = l ++ code.map mp ∧ KC s0 false code ∧ code.length + lxp B c ≤ lxp B (G (0, c, l)).2.1 ∧ X (kd B (G (0, c, l)).2.1) ∧ ∀ cd ps F C CD, P c ps → Rs B s0 (G (0, c, l)).2.1 (E ps (cd ++ code)).2 (E ps (cd ++ code)).1 1 F C CD → Rs B s0 c cd ps 0 F C CD)
def PX (B : Nat → Int) (m : Nat) (L : Int) (c : Nat) (ps : List Int) : Prop := cntO ps + (m : Int) = 8 ∧ hrk ps < L ∧ (kd B c = 23 → akB ps = false)
def EI0 (ps : List Int) (cd : List (Int × Int)) : List Int × List (Int × Int) := (ps, cd)
theorem tLp_f {B : Nat → Int} {P : Int → Bool} {F : RR → RR} (m : Nat) {r : RR} (h : ¬ r.1 = 0) : tLp B P F m r = r := by
  cases m with
  | zero => rfl
  | succ m => rw [tLp, if_neg (fun z => h z.1)]
theorem cntO_b {o : Int} (h : ¬ isO o) (ps : List Int) : cntO (o :: ps) = cntO ps := by
  show cntO ps + (if isO o then 1 else 0) = _
  rw [if_neg h]; omega
theorem cntO_o {o : Int} (h : isO o) (ps : List Int) : cntO (o :: ps) = cntO ps + 1 := by
  show cntO ps + (if isO o then 1 else 0) = _
  rw [if_pos h]
theorem akB_n {o : Int} (h1 : ¬ 40 ≤ o) (h2 : 4 ≤ rnk o) (ps : List Int) : akB (o :: ps) = false := by
  show decide (opn (o :: ps) = 41 ∧ (40 ≤ o ∨ (1 ≤ rnk o ∧ rnk o ≤ 3))) = false
  rw [decide_eq_false_iff_not]
  omega
theorem lxp_300 {B : Nat → Int} (hB : ∀ k, 300 ≤ k → B k < 0) {c : Nat} (h : ¬ kd B c = 1) : lxp B c < 300 := by
  refine Classical.byContradiction (fun z => h ?_)
  rw [kd_1]
  unfold lxt
  rw [if_pos (hB _ (by omega))]
theorem SO_lp {B : Nat → Int} {s0 : Int} (hB : ∀ k, 300 ≤ k → B k < 0) {m0 : Nat} {L : Int} (hL : L = 5 ∨ L = 6) {P : Int → Bool} (hP : ∀ k, P k = true → (34 ≤ k ∧ k ≤ 37) ∧ rnk (k - 28) = L) {F : RR → RR} {XF : Int → Prop} (hF : SO B s0 F (PX B m0 (L + 1)) EI0 XF) (hX : ∀ k ps, XF k → 0 ≤ btK k ps → bhl (btK k ps) ≤ L) : SO B s0 (fun r => tLp B P F 300 (F r)) (PX B m0 L) EI0 (fun k => XF k ∧ P k = false) := by
  have hL4 : 4 ≤ L := by omega
  have hL5 : 5 ≤ L := by omega
  have hL0 : 0 < L := by omega
  have hLL : L < L + 1 := by omega
  have step : ∀ (k : Int) (ps : List Int) (cd : List (Int × Int)), P k = true → hrk ps < L → btK k ps = k - 28 ∧ bhf k ps = true ∧ bhs k cd ps = (cd, (k - 28) :: ps, 0) ∧ ¬ isO (k - 28) ∧ ¬ 40 ≤ k - 28 ∧ mp (k - 28, 0) = k ∧ 6 ≤ k - 28 ∧ k - 28 ≤ 9 := fun k ps cd hk hh => by
    have h1 := hP k hk
    have e1 : btK k ps = k - 28 := by
      unfold btK
      rcases (show k = 34 ∨ k = 35 ∨ k = 36 ∨ k = 37 by omega) with rfl | rfl | rfl | rfl <;> rfl
    have e2 : bhl (k - 28) = L := by
      unfold bhl
      rw [if_neg (by omega), h1.2]
    refine ⟨e1, ?_, ?_, ?_, by omega, ?_, by omega, by omega⟩
    · unfold bhf
      rw [decide_eq_true_iff, e1]; omega
    · unfold bhs
      rw [e1, if_pos (by omega), e2, stl_id hh]
    · have := h1.2
      unfold isO
      omega
    · rcases (show k = 34 ∨ k = 35 ∨ k = 36 ∨ k = 37 by omega) with rfl | rfl | rfl | rfl <;> rfl
  have loop : ∀ (m c' : Nat) (l : List Int) (code : List (Int × Int)), KC s0 false code → XF (kd B c') → 301 ≤ m + lxp B c' →
      (¬ (tLp B P F m (0, c', l ++ code.map mp)).1 = 0 → ∀ cd ps CD, (cntO ps + (m0 : Int) = 8 ∧ hrk ps < L) → Rs B s0 c' (cd ++ code) ps 1 (tLp B P F m (0, c', l ++ code.map mp)).1 (tLp B P F m (0, c', l ++ code.map mp)).2.1 CD) ∧
      ((tLp B P F m (0, c', l ++ code.map mp)).1 = 0 → ∃ code2 : List (Int × Int), (tLp B P F m (0, c', l ++ code.map mp)).2.2 = l ++ code2.map mp ∧ KC s0 false code2 ∧ code2.length + lxp B c' ≤ code.length + lxp B (tLp B P F m (0, c', l ++ code.map mp)).2.1 ∧ (XF (kd B (tLp B P F m (0, c', l ++ code.map mp)).2.1) ∧ P (kd B (tLp B P F m (0, c', l ++ code.map mp)).2.1) = false) ∧ ∀ cd ps F0 C CD, (cntO ps + (m0 : Int) = 8 ∧ hrk ps < L) → Rs B s0 (tLp B P F m (0, c', l ++ code.map mp)).2.1 (cd ++ code2) ps 1 F0 C CD → Rs B s0 c' (cd ++ code) ps 1 F0 C CD) := by
    intro m
    induction m with
    | zero =>
      intro c' l code hk hx hm
      have hn : P (kd B c') = false := by
        cases q : P (kd B c') with
        | false => rfl
        | true =>
          have := lxp_300 hB (c := c') (by have := (hP _ q).1; omega)
          omega
      exact ⟨fun z => absurd rfl z, fun _ => ⟨code, rfl, hk, by show code.length + lxp B c' ≤ code.length + lxp B c'; omega, ⟨hx, hn⟩, fun _ _ _ _ _ _ h => h⟩⟩
    | succ m ih =>
      intro c' l code hk hx hm
      by_cases q : P (kd B c') = true
      · have hne : ¬ kd B c' = 1 := by have := (hP _ q).1; omega
        have hnx := lx_next hne
        have e0 : tLp B P F (m + 1) (0, c', l ++ code.map mp) = tLp B P F m (GE (kd B c') (F (0, lxe B c', l ++ code.map mp))) := by
          rw [tLp, if_pos ⟨rfl, q⟩]
        rw [e0]
        have hS := hF (lxe B c') (l ++ code.map mp)
        by_cases z : (F (0, lxe B c', l ++ code.map mp)).1 = 0
        · obtain ⟨code1, e1, k1, ln1, x1, st1⟩ := hS.2 z
          have eg : GE (kd B c') (F (0, lxe B c', l ++ code.map mp)) = (0, (F (0, lxe B c', l ++ code.map mp)).2.1, l ++ (code ++ code1 ++ [(kd B c' - 28, 0)]).map mp) := by
            unfold GE
            rw [if_pos z, e1]
            have := (step (kd B c') [] [] q hL0).2.2.2.2.2.1
            rw [List.map_append, List.map_append, List.map_singleton, this]
            simp only [List.append_assoc]
          have hst := step (kd B c') [] [] q hL0
          have hkn : KC s0 false (code ++ code1 ++ [(kd B c' - 28, 0)]) := (hk.two k1).ar ⟨hst.2.2.2.2.2.2.1, hst.2.2.2.2.2.2.2⟩
          have hI := ih (F (0, lxe B c', l ++ code.map mp)).2.1 l _ hkn x1 (by omega)
          rw [← eg] at hI
          have back : ∀ cd ps F0 C CD, (cntO ps + (m0 : Int) = 8 ∧ hrk ps < L) → Rs B s0 (F (0, lxe B c', l ++ code.map mp)).2.1 (cd ++ (code ++ code1 ++ [(kd B c' - 28, 0)])) ps 1 F0 C CD → Rs B s0 c' (cd ++ code) ps 1 F0 C CD := fun cd ps F0 C CD hc hr => by
            obtain ⟨b1, b2, b3, b4, b5, b6, b7, b8⟩ := step (kd B c') ps (cd ++ code) q hc.2
            refine Rs.beh b2 ?_
            rw [b3]
            show Rs B s0 (lxe B c') (cd ++ code) ((kd B c' - 28) :: ps) 0 F0 C CD
            have hrk' : rnk (kd B c' - 28) = L := (hP _ q).2
            refine st1 (cd ++ code) ((kd B c' - 28) :: ps) F0 C CD ⟨by rw [cntO_b b4]; exact hc.1, by show rnk (kd B c' - 28) < L + 1; rw [hrk']; exact hLL, fun _ => akB_n b5 (by rw [hrk']; exact hL4) ps⟩ ?_
            show Rs B s0 _ (cd ++ code ++ code1) ((kd B c' - 28) :: ps) 1 F0 C CD
            refine Rs.norm b5 (by rw [hrk']; exact hL5) (fun hh => ?_) ?_
            · rw [hrk']; exact hX _ ps x1 hh
            · rw [show cd ++ code ++ code1 ++ [(kd B c' - 28, 0)] = cd ++ (code ++ code1 ++ [(kd B c' - 28, 0)]) by simp only [List.append_assoc]]
              exact hr
          refine ⟨fun hf cd ps CD hc => back cd ps _ _ CD hc (hI.1 hf cd ps CD hc), fun hf => ?_⟩
          obtain ⟨code2, u1, u2, u3, u4, u5⟩ := hI.2 hf
          refine ⟨code2, u1, u2, ?_, u4, fun cd ps F0 C CD hc hr => back cd ps F0 C CD hc (u5 cd ps F0 C CD hc hr)⟩
          rw [List.length_append, List.length_append] at u3
          have u3' : code2.length + lxp B (F (0, lxe B c', l ++ code.map mp)).2.1 ≤ code.length + code1.length + 1 + lxp B (tLp B P F m (GE (kd B c') (F (0, lxe B c', l ++ code.map mp)))).2.1 := u3
          omega
        · have eg : GE (kd B c') (F (0, lxe B c', l ++ code.map mp)) = F (0, lxe B c', l ++ code.map mp) := by
            unfold GE
            rw [if_neg z]
          rw [eg, tLp_f m z]
          refine ⟨fun _ cd ps CD hc => ?_, fun hf => absurd hf z⟩
          obtain ⟨b1, b2, b3, b4, b5, b6, b7, b8⟩ := step (kd B c') ps (cd ++ code) q hc.2
          refine Rs.beh b2 ?_
          rw [b3]
          have hrk' : rnk (kd B c' - 28) = L := (hP _ q).2
          exact hS.1 z (cd ++ code) ((kd B c' - 28) :: ps) CD ⟨by rw [cntO_b b4]; exact hc.1, by show rnk (kd B c' - 28) < L + 1; rw [hrk']; exact hLL, fun _ => akB_n b5 (by rw [hrk']; exact hL4) ps⟩
      · have hn : P (kd B c') = false := by
          cases w : P (kd B c') with
          | false => rfl
          | true => exact absurd w q
        have e0 : tLp B P F (m + 1) (0, c', l ++ code.map mp) = (0, c', l ++ code.map mp) := by
          rw [tLp, if_neg (fun z => q z.2)]
        rw [e0]
        exact ⟨fun z => absurd rfl z, fun _ => ⟨code, rfl, hk, by show code.length + lxp B c' ≤ code.length + lxp B c'; omega, ⟨hx, hn⟩, fun _ _ _ _ _ _ h => h⟩⟩
  intro c l
  have hS := hF c l
  show (¬ (tLp B P F 300 (F (0, c, l))).1 = 0 → _) ∧ ((tLp B P F 300 (F (0, c, l))).1 = 0 → _)
  by_cases z : (F (0, c, l)).1 = 0
  · obtain ⟨code1, e1, k1, ln1, x1, st1⟩ := hS.2 z
    have hl1 := k1.len
    have eF : F (0, c, l) = (0, (F (0, c, l)).2.1, l ++ code1.map mp) := Prod.ext z (Prod.ext rfl e1)
    have hfu : 301 ≤ 300 + lxp B (F (0, c, l)).2.1 := by omega
    have hI := loop 300 (F (0, c, l)).2.1 l code1 k1 x1 hfu
    rw [← eF] at hI
    refine ⟨fun hf cd ps CD hc => st1 cd ps _ _ CD ⟨hc.1, Int.lt_trans hc.2.1 hLL, hc.2.2⟩ (hI.1 hf cd ps CD ⟨hc.1, hc.2.1⟩), fun hf => ?_⟩
    obtain ⟨code2, u1, u2, u3, u4, u5⟩ := hI.2 hf
    exact ⟨code2, u1, u2, show code2.length + lxp B c ≤ lxp B (tLp B P F 300 (F (0, c, l))).2.1 by omega, u4, fun cd ps F0 C CD hc hr => st1 cd ps F0 C CD ⟨hc.1, Int.lt_trans hc.2.1 hLL, hc.2.2⟩ (u5 cd ps F0 C CD ⟨hc.1, hc.2.1⟩ hr)⟩
  · have e : tLp B P F 300 (F (0, c, l)) = F (0, c, l) := tLp_f 300 z
    refine ⟨fun _ cd ps CD hc => ?_, fun hf => absurd (by rw [e] at hf; exact hf) z⟩
    show Rs B s0 c cd ps 0 (tLp B P F 300 (F (0, c, l))).1 (tLp B P F 300 (F (0, c, l))).2.1 CD
    rw [e]
    exact hS.1 z cd ps CD ⟨hc.1, Int.lt_trans hc.2.1 hLL, hc.2.2⟩
