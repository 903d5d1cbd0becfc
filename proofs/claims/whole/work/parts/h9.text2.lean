/-! ===== texts, read by both ===== -/
def TIe (lb lt : Option (List Int)) (cd : List (Int × Int)) (e : Int × Int × Int) : Prop := e.1 ≤ 1 → ∃ A code Z : List (Int × Int), cd = A ++ code ++ Z ∧ e.2.1 = (A.length : Int) ∧ e.2.2 = (A.length : Int) + (code.length : Int) ∧ KC e.1 false code ∧ (if e.1 = 0 then lb else lt) = some (code.map mp)
def TI (B : Nat → Int) (c : Nat) (els el : List (Int × Int × Int)) (on : Int) (cd : List (Int × Int)) (lb lt : Option (List Int)) : Prop :=
  els.length = el.length ∧ el.length ≤ 24 ∧ cd.length ≤ lxp B c ∧ c ≤ 300 ∧
  (∀ j : Nat, j < el.length → LNp (els.getD j (0, 0, 0)) (el.getD j (0, 0, 0)).1 (el.getD j (0, 0, 0)).2.1 (el.getD j (0, 0, 0)).2.2) ∧
  (∀ j : Nat, j < el.length → TIe lb lt cd (el.getD j (0, 0, 0))) ∧
  0 ≤ on ∧ (bt on 0 ↔ ¬ lb = none) ∧ (bt on 1 ↔ ¬ lt = none) ∧
  (¬ lb = none → ∃ j : Nat, j < el.length ∧ (el.getD j (0, 0, 0)).1 = 0) ∧ (¬ lt = none → ∃ j : Nat, j < el.length ∧ (el.getD j (0, 0, 0)).1 = 1)
theorem getD_app1 {α : Type} (l : List α) (x d : α) {j : Nat} (h : j < l.length) : (l ++ [x]).getD j d = l.getD j d := by
  rw [List.getD_eq_getElem?_getD, List.getD_eq_getElem?_getD, List.getElem?_append_left h]
theorem getD_app2 {α : Type} (l : List α) (x d : α) : (l ++ [x]).getD l.length d = x := by
  rw [List.getD_eq_getElem?_getD, List.getElem?_append_right (Nat.le_refl _)]
  simp
theorem TIe.more {lb lt : Option (List Int)} {cd : List (Int × Int)} {e : Int × Int × Int} (h : TIe lb lt cd e) (c2 : List (Int × Int)) : TIe lb lt (cd ++ c2) e := fun he => by
  obtain ⟨A, code, Z, u1, u2, u3, u4, u5⟩ := h he
  exact ⟨A, code, Z ++ c2, by rw [u1]; simp only [List.append_assoc], u2, u3, u4, u5⟩
theorem bt01 {on : Int} (s : Nat) (hs : s = 0 ∨ s = 1) (j : Nat) : bt (bor on (bsh (s : Int))) j ↔ bt on j ∨ s = j := by
  rw [bt_bor, bt_bsh (by omega)]
  constructor
  · rintro (h | h)
    · exact Or.inl h
    · exact Or.inr (by omega)
  · rintro (h | h)
    · exact Or.inl h
    · exact Or.inr (by omega)
theorem cl_step {B : Nat → Int} (hB : ∀ k, 300 ≤ k → B k < 0) {c : Nat} {els el : List (Int × Int × Int)} {on : Int} {cd : List (Int × Int)} {lb lt : Option (List Int)} (h : TI B c els el on cd lb lt) :
    (cCl B (0, c, els, lb, lt)).1 = (clf B c el on cd).1 ∧ (cCl B (0, c, els, lb, lt)).2.1 = (clf B c el on cd).2 ∧
    ((cCl B (0, c, els, lb, lt)).1 = 0 → (cCl B (0, c, els, lb, lt)).2.2.1.length = els.length + 1 ∧ TI B (cCl B (0, c, els, lb, lt)).2.1 (cCl B (0, c, els, lb, lt)).2.2.1 (clE B (srK (kd B c)) c cd el) (clO (srK (kd B c)) on) (bdy B (srK (kd B c)) (lxe B c) cd).2.2.2 (cCl B (0, c, els, lb, lt)).2.2.2.1 (cCl B (0, c, els, lb, lt)).2.2.2.2) := by
  obtain ⟨t1, t2, t3, t4, t5, t6, t7, t8, t9, ta, tb⟩ := id h
  by_cases q1 : kd B c < 3 ∨ 9 < kd B c
  · have e1 : cCl B (0, c, els, lb, lt) = (1, c, els, lb, lt) := by unfold cCl; rw [if_pos q1]
    have e2 : clf B c el on cd = (1, c) := by unfold clf; rw [srK_n q1, if_pos (by decide)]
    rw [e1, e2]
    exact ⟨rfl, rfl, fun z => absurd z (show ¬ (1 : Int) = 0 by decide)⟩
  · have hk : 3 ≤ kd B c ∧ kd B c ≤ 9 := by omega
    have hsr := srK_k hk
    have hs0 : 0 ≤ srK (kd B c) ∧ srK (kd B c) ≤ 6 := by
      rw [hsr]
      repeat' split
      all_goals omega
    have hs01 : (kd B c = 3 ↔ srK (kd B c) = 0) ∧ (kd B c = 4 ↔ srK (kd B c) = 1) := by
      rw [hsr]
      constructor
      · constructor
        · intro z; rw [if_pos z]
        · intro z
          refine Classical.byContradiction (fun y => ?_)
          rw [if_neg y] at z
          revert z
          repeat' split
          all_goals omega
      · constructor
        · intro z; rw [if_neg (by omega), if_pos z]
        · intro z
          refine Classical.byContradiction (fun y => ?_)
          by_cases y3 : kd B c = 3
          · rw [if_pos y3] at z; omega
          · rw [if_neg y3, if_neg y] at z
            revert z
            repeat' split
            all_goals omega
    have hdup : ((kd B c = 3 ∧ ¬ lb = none) ∨ (kd B c = 4 ∧ ¬ lt = none)) ↔ (srK (kd B c) ≤ 1 ∧ on / 2 ^ (srK (kd B c)).toNat % 2 = 1) := by
      constructor
      · rintro (⟨z, y⟩ | ⟨z, y⟩)
        · have e := hs01.1.mp z
          refine ⟨by omega, ?_⟩
          rw [bt_has t7, e]; exact t8.mpr y
        · have e := hs01.2.mp z
          refine ⟨by omega, ?_⟩
          rw [bt_has t7, e]; exact t9.mpr y
      · rintro ⟨z, y⟩
        rw [bt_has t7] at y
        rcases (show srK (kd B c) = 0 ∨ srK (kd B c) = 1 by omega) with e | e
        · rw [e] at y; exact Or.inl ⟨hs01.1.mpr e, t8.mp y⟩
        · rw [e] at y; exact Or.inr ⟨hs01.2.mpr e, t9.mp y⟩
    by_cases q2 : (kd B c = 3 ∧ ¬ lb = none) ∨ (kd B c = 4 ∧ ¬ lt = none)
    · have e1 : cCl B (0, c, els, lb, lt) = (4, c, els, lb, lt) := by unfold cCl; rw [if_neg q1, if_pos q2]
      have e2 : clf B c el on cd = (4, c) := by unfold clf; rw [if_neg (by omega), if_pos (hdup.mp q2)]
      rw [e1, e2]
      exact ⟨rfl, rfl, fun z => absurd z (show ¬ (4 : Int) = 0 by decide)⟩
    · by_cases q3 : 24 ≤ els.length
      · have e1 : cCl B (0, c, els, lb, lt) = (6, c, els, lb, lt) := by unfold cCl; rw [if_neg q1, if_neg q2, if_pos q3]
        have e2 : clf B c el on cd = (6, c) := by unfold clf; rw [if_neg (by omega), if_neg (fun z => q2 (hdup.mpr z)), if_pos (by omega)]
        rw [e1, e2]
        exact ⟨rfl, rfl, fun z => absurd z (show ¬ (6 : Int) = 0 by decide)⟩
      · have hle := lxe_hi hB t4
        have hne : ¬ kd B c = 1 := by omega
        have hn1 := lx_next hne
        obtain ⟨b1, b2, b3, b4⟩ := bd_all hB hle cd hk
        have e2 : clf B c el on cd = cl1 B (srK (kd B c)) c cd := by unfold clf; rw [if_neg (by omega), if_neg (fun z => q2 (hdup.mpr z)), if_neg (by omega)]
        have e1 : cCl B (0, c, els, lb, lt) = ((GX B 40 ((cBd B (kd B c) (lxe B c)).1, (cBd B (kd B c) (lxe B c)).2.1, [])).1, (GX B 40 ((cBd B (kd B c) (lxe B c)).1, (cBd B (kd B c) (lxe B c)).2.1, [])).2.1, els ++ [(kd B c, (cBd B (kd B c) (lxe B c)).2.2)], (if kd B c = 3 then some (cLw B (kd B c) (lxe B c)).2.2 else lb), (if kd B c = 4 then some (cLw B (kd B c) (lxe B c)).2.2 else lt)) := by
          unfold cCl
          rw [if_neg q1, if_neg q2, if_neg q3]
        rw [e1, e2]
        unfold cl1
        rw [b1, b2]
        by_cases z1 : (cBd B (kd B c) (lxe B c)).1 = 0
        · rw [if_pos z1]
          by_cases z2 : kd B (cBd B (kd B c) (lxe B c)).2.1 = 40
          · have eg : GX B 40 ((cBd B (kd B c) (lxe B c)).1, (cBd B (kd B c) (lxe B c)).2.1, []) = (0, lxe B (cBd B (kd B c) (lxe B c)).2.1, []) := GX_y z1 z2
            rw [if_pos z2, eg]
            have hn2 := lx_next (B := B) (c := (cBd B (kd B c) (lxe B c)).2.1) (by omega)
            have hle2 := lxe_hi hB b3
            obtain ⟨l1, code, l2, l3, l4⟩ := b4 z1
            refine ⟨rfl, rfl, fun _ => ⟨by rw [List.length_append]; rfl, ?_⟩⟩
            have elen : (clE B (srK (kd B c)) c cd el).length = el.length + 1 := by unfold clE; rw [List.length_append]; rfl
            have g1 : ∀ j : Nat, j < el.length → (clE B (srK (kd B c)) c cd el).getD j (0, 0, 0) = el.getD j (0, 0, 0) := fun j hj => getD_app1 _ _ _ hj
            have g2 : (clE B (srK (kd B c)) c cd el).getD el.length (0, 0, 0) = (srK (kd B c), (bdy B (srK (kd B c)) (lxe B c) cd).2.2.1.1, (bdy B (srK (kd B c)) (lxe B c) cd).2.2.1.2) := getD_app2 _ _ _
            have nb0 : kd B c = 3 → lb = none := fun z => Classical.byContradiction (fun y => q2 (Or.inl ⟨z, y⟩))
            have nb1 : kd B c = 4 → lt = none := fun z => Classical.byContradiction (fun y => q2 (Or.inr ⟨z, y⟩))
            have old : ∀ e, TIe lb lt cd e → TIe (if kd B c = 3 then some (cLw B (kd B c) (lxe B c)).2.2 else lb) (if kd B c = 4 then some (cLw B (kd B c) (lxe B c)).2.2 else lt) (cd ++ code) e := fun e he h1 => by
              obtain ⟨A, co, Z, u1, u2, u3, u4, u5⟩ := (he.more code) h1
              refine ⟨A, co, Z, u1, u2, u3, u4, ?_⟩
              by_cases y : e.1 = 0
              · rw [if_pos y] at u5 ⊢
                by_cases w : kd B c = 3
                · rw [nb0 w] at u5; exact absurd u5 (by simp)
                · rw [if_neg w]; exact u5
              · rw [if_neg y] at u5 ⊢
                by_cases w : kd B c = 4
                · rw [nb1 w] at u5; exact absurd u5 (by simp)
                · rw [if_neg w]; exact u5
            have new : TIe (if kd B c = 3 then some (cLw B (kd B c) (lxe B c)).2.2 else lb) (if kd B c = 4 then some (cLw B (kd B c) (lxe B c)).2.2 else lt) (cd ++ code) (srK (kd B c), (bdy B (srK (kd B c)) (lxe B c) cd).2.2.1.1, (bdy B (srK (kd B c)) (lxe B c) cd).2.2.1.2) := fun h1 => by
              obtain ⟨v1, v2, v3, v4⟩ := l4 h1
              refine ⟨cd, code, [], (List.append_nil _).symm, v2, v3, v1, ?_⟩
              show (if srK (kd B c) = 0 then _ else _) = _
              by_cases y : srK (kd B c) = 0
              · rw [if_pos y, if_pos (hs01.1.mpr y), v4]
              · have h1' : srK (kd B c) ≤ 1 := h1
                rw [if_neg y, if_pos (hs01.2.mpr (by omega)), v4]
            refine ⟨?_, ?_, ?_, hle2, fun j hj => ?_, fun j hj => ?_, ?_, ?_, ?_, ?_, ?_⟩
            · rw [elen, List.length_append, t1]; rfl
            · rw [elen]; omega
            · rw [l2, List.length_append]
              show cd.length + code.length ≤ lxp B (lxe B (cBd B (kd B c) (lxe B c)).2.1)
              omega
            · rw [elen] at hj
              by_cases w : j < el.length
              · rw [g1 j w, getD_app1 _ _ _ (by omega)]; exact t5 j w
              · have ej : j = el.length := by omega
                rw [ej, g2, ← t1, getD_app2]
                exact l1
            · rw [elen] at hj
              rw [l2]
              by_cases w : j < el.length
              · rw [g1 j w]; exact old _ (t6 j w)
              · have ej : j = el.length := by omega
                rw [ej, g2]; exact new
            · unfold clO
              split
              · exact bor_nn _ _
              · exact t7
            · unfold clO
              by_cases w : kd B c = 3
              · have e := hs01.1.mp w
                rw [if_pos w, e, if_pos (by decide)]
                exact ⟨fun _ => by simp, fun _ => (bt01 0 (Or.inl rfl) 0).mpr (Or.inr rfl)⟩
              · rw [if_neg w]
                by_cases w4 : kd B c = 4
                · have e := hs01.2.mp w4
                  rw [e, if_pos (by decide)]
                  have hb := bt01 (on := on) 1 (Or.inr rfl) 0
                  exact ⟨fun z => t8.mp ((hb.mp z).elim id (fun y => absurd y (by decide))), fun z => hb.mpr (Or.inl (t8.mpr z))⟩
                · rw [if_neg (fun z => by
                    rcases (show srK (kd B c) = 0 ∨ srK (kd B c) = 1 by omega) with e | e
                    · exact w (hs01.1.mpr e)
                    · exact w4 (hs01.2.mpr e))]
                  exact t8
            · unfold clO
              by_cases w : kd B c = 4
              · have e := hs01.2.mp w
                rw [if_pos w, e, if_pos (by decide)]
                exact ⟨fun _ => by simp, fun _ => (bt01 1 (Or.inr rfl) 1).mpr (Or.inr rfl)⟩
              · rw [if_neg w]
                by_cases w3 : kd B c = 3
                · have e := hs01.1.mp w3
                  rw [e, if_pos (by decide)]
                  have hb := bt01 (on := on) 0 (Or.inl rfl) 1
                  exact ⟨fun z => t9.mp ((hb.mp z).elim id (fun y => absurd y (by decide))), fun z => hb.mpr (Or.inl (t9.mpr z))⟩
                · rw [if_neg (fun z => by
                    rcases (show srK (kd B c) = 0 ∨ srK (kd B c) = 1 by omega) with e | e
                    · exact w3 (hs01.1.mpr e)
                    · exact w (hs01.2.mpr e))]
                  exact t9
            · intro y
              by_cases w : kd B c = 3
              · exact ⟨el.length, by omega, by rw [g2]; exact hs01.1.mp w⟩
              · rw [if_neg w] at y
                obtain ⟨j, hj, e⟩ := ta y
                exact ⟨j, by omega, by rw [g1 j hj]; exact e⟩
            · intro y
              by_cases w : kd B c = 4
              · exact ⟨el.length, by omega, by rw [g2]; exact hs01.2.mp w⟩
              · rw [if_neg w] at y
                obtain ⟨j, hj, e⟩ := tb y
                exact ⟨j, by omega, by rw [g1 j hj]; exact e⟩
          · have eg : GX B 40 ((cBd B (kd B c) (lxe B c)).1, (cBd B (kd B c) (lxe B c)).2.1, []) = (1, (cBd B (kd B c) (lxe B c)).2.1, []) := GX_n z1 z2
            rw [if_neg z2, eg]
            exact ⟨rfl, rfl, fun z => absurd z (show ¬ (1 : Int) = 0 by decide)⟩
        · have eg : GX B 40 ((cBd B (kd B c) (lxe B c)).1, (cBd B (kd B c) (lxe B c)).2.1, []) = ((cBd B (kd B c) (lxe B c)).1, (cBd B (kd B c) (lxe B c)).2.1, []) := GX_f z1
          rw [if_neg z1, eg]
          exact ⟨rfl, rfl, fun z => absurd z z1⟩
theorem rd_ok {B : Nat → Int} (hB : ∀ k, 300 ≤ k → B k < 0) : ∀ (m n c : Nat) (els el : List (Int × Int × Int)) (on : Int) (cd : List (Int × Int)) (lb lt : Option (List Int)), TI B c els el on cd lb lt → els.length + m = 25 → m ≤ n →
    (cRd B m (0, c, els, lb, lt)).1 = (rdt B n c el on cd).1 ∧ (cRd B m (0, c, els, lb, lt)).2.1 = (rdt B n c el on cd).2.1 ∧
    ((cRd B m (0, c, els, lb, lt)).1 = 0 → ∃ on', TI B (cRd B m (0, c, els, lb, lt)).2.1 (cRd B m (0, c, els, lb, lt)).2.2.1 (rdt B n c el on cd).2.2.1 on' (rdt B n c el on cd).2.2.2 (cRd B m (0, c, els, lb, lt)).2.2.2.1 (cRd B m (0, c, els, lb, lt)).2.2.2.2) := by
  intro m
  induction m with
  | zero =>
    intro n c els el on cd lb lt h hm _
    have := h.1
    have := h.2.1
    omega
  | succ m ih =>
    intro n c els el on cd lb lt h hm hn
    obtain ⟨k, rfl⟩ : ∃ k, n = k + 1 := ⟨n - 1, by omega⟩
    by_cases q : kd B c = 1
    · have e1 : cRd B (m + 1) (0, c, els, lb, lt) = (0, c, els, lb, lt) := by rw [cRd, if_neg (fun z => z.2 q)]
      have e2 : rdt B (k + 1) c el on cd = (0, c, el, cd) := by rw [rdt, if_pos q]
      rw [e1, e2]
      exact ⟨rfl, rfl, fun _ => ⟨on, h⟩⟩
    · have hs := cl_step hB h
      have e1 : cRd B (m + 1) (0, c, els, lb, lt) = cRd B m (cCl B (0, c, els, lb, lt)) := by rw [cRd, if_pos ⟨rfl, q⟩]
      rw [e1]
      by_cases z : (cCl B (0, c, els, lb, lt)).1 = 0
      · have e2 : rdt B (k + 1) c el on cd = rdt B k (clf B c el on cd).2 (clE B (srK (kd B c)) c cd el) (clO (srK (kd B c)) on) (bdy B (srK (kd B c)) (lxe B c) cd).2.2.2 := by
          rw [rdt, if_neg q, if_pos (by rw [← hs.1]; exact z)]
        rw [e2]
        have h3 := hs.2.2 z
        have ec : cCl B (0, c, els, lb, lt) = (0, (cCl B (0, c, els, lb, lt)).2.1, (cCl B (0, c, els, lb, lt)).2.2.1, (cCl B (0, c, els, lb, lt)).2.2.2.1, (cCl B (0, c, els, lb, lt)).2.2.2.2) := Prod.ext z rfl
        have hI := ih k (cCl B (0, c, els, lb, lt)).2.1 (cCl B (0, c, els, lb, lt)).2.2.1 (clE B (srK (kd B c)) c cd el) (clO (srK (kd B c)) on) (bdy B (srK (kd B c)) (lxe B c) cd).2.2.2 (cCl B (0, c, els, lb, lt)).2.2.2.1 (cCl B (0, c, els, lb, lt)).2.2.2.2 h3.2 (by omega) (by omega)
        rw [← ec, hs.2.1] at hI
        exact hI
      · have e2 : rdt B (k + 1) c el on cd = ((clf B c el on cd).1, (clf B c el on cd).2, el, cd) := by
          rw [rdt, if_neg q, if_neg (by rw [← hs.1]; exact z)]
        have e3 : cRd B m (cCl B (0, c, els, lb, lt)) = cCl B (0, c, els, lb, lt) := by
          cases m with
          | zero => rfl
          | succ m => rw [cRd, if_neg (fun y => z y.1)]
        rw [e2, e3]
        exact ⟨hs.1, hs.2.1, fun y => absurd y z⟩
