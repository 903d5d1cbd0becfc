/-! ===== text, on both sides ===== -/
def nrF (f : Int → Int) : Int → Int := fun y => (jI (f y)).toInt
theorem nrF_B (f : Int → Int) : Bd (nrF f) := fun y => ⟨Int32.le_toInt _, Int32.toInt_lt _⟩
theorem nrF_e {f : Int → Int} {y x : Int} (h : f y = x) (hx : -2147483648 ≤ x ∧ x < 2147483648) : nrF f y = x := by
  unfold nrF
  rw [h]
  exact jI_toInt hx
theorem W5_nrF (S T : Nat → Int → Int) (D : List mx_C) : W5 S (upS T 39 (nrF (T 39))) D = W5 S T D := by
  have e : ia 2724 (nrF (T 39)) = ia 2724 (T 39) := by
    have : (fun q : Nat => jI (nrF (T 39) (q : Int))) = fun q : Nat => jI (T 39 (q : Int)) := by
      funext q
      exact jI_back _
    show (Sum.inl (0, 2724, Sum.inl (fun q : Nat => jI (nrF (T 39) (q : Int)))) : mx_C) = _
    rw [this]
  rw [← WS_39 S T D (nrF (T 39)), e, WE_39]
theorem CLv.more {D D' : List mx_C} {v : Value} {lb : Option (List Int)} (h : CLv D v lb) : CLv (D ++ D') v lb := by
  cases lb with
  | none => exact h
  | some l =>
    obtain ⟨a, b, fc, h1, h2, h3, h4, h5⟩ := h
    have ga : ∀ (k : Nat) (x : mx_C), D[k]? = some x → (D ++ D')[k]? = some x := fun k x hk => by
      rw [List.getElem?_append_left (by
        have := List.getElem?_eq_some_iff.mp hk
        exact this.1)]
      exact hk
    exact ⟨a, b, fc, h1, ga _ _ h2, ga _ _ h3, h4, h5⟩
theorem CSv.more {D D' : List mx_C} {i : Nat} {els : List (Int × Int × Int)} {lb lt : Option (List Int)} (h : CSv D i els lb lt) : CSv (D ++ D') i els lb lt := by
  obtain ⟨b1, b2, b3, f1, f2, f3, v4, v5, h1, h2, h3, h4, h5, h6, h7, h8⟩ := h
  have ga : ∀ (k : Nat) (x : mx_C), D[k]? = some x → (D ++ D')[k]? = some x := fun k x hk => by
    rw [List.getElem?_append_left (by
      have := List.getElem?_eq_some_iff.mp hk
      exact this.1)]
    exact hk
  exact ⟨b1, b2, b3, f1, f2, f3, v4, v5, ga _ _ h1, ga _ _ h2, ga _ _ h3, ga _ _ h4, h5, h6, h7.more, h8.more⟩
theorem SIM.text {n : Nat} {S T S' T' : Nat → Int → Int} {D D' : List mx_C} (h : SIM n S T D) (fS : Fr [0, 1, 3, 4, 5, 6, 7, 8, 9, 10, 11, 12] S S') (e1 : S' 1 = up (S 1) 1 0) (b6 : 0 ≤ S' 3 6 ∧ S' 3 6 ≤ 300) (fT : Fr [36, 37, 39, 41] T T') (e4 : T' 36 4 = 0) (e23 : T' 36 23 = T 36 23) (e5 : S' 3 10 = T' 36 5) (e6 : S' 3 11 = T' 36 6) (hB : Bd (T' 39)) (hc : COS S' (T' 37)) (h38 : T 38 0 ≤ T' 37 0) (hx : ∀ q, 0 ≤ q ∧ q < T' 37 0 → TXS S' T' (D ++ D') q) : SIM n S' T' (D ++ D') := by
  obtain ⟨h1, h2, h3', h4, h5, h6, h8, h9, h10, h11, h12⟩ := h
  refine ⟨hc, ?_, ?_, hx, h5.fr (fun i hi => fS i (by simp; omega)), ?_, e23.trans h8, hB, ⟨?_, ⟨?_, ?_⟩, fun k hk => ?_⟩, ⟨e5, e6⟩, b6⟩
  · rw [fT 38 (by decide)]
    exact h2.fr (fun i hi => fS i (by simp; omega))
  · rw [fT 38 (by decide)]; exact h38
  · rw [fS 21 (by decide)]; exact h6
  · rw [e1, up_s, e4]
  · rw [e4]; omega
  · rw [fT 40 (by decide)]; exact h10.2.1.2
  · rw [fS 2 (by decide), fT 40 (by decide)]; exact h10.2.2 k hk
theorem COS.cells {S S' : Nat → Int → Int} {a : Int → Int} (h : COS S a) (e : ∀ i, (i = 0 ∨ i = 14 ∨ (17 ≤ i ∧ i ≤ 20)) → S' i = S i) : COS S' a := by
  unfold COS at h ⊢
  rw [e 14 (by omega), e 18 (by omega), e 17 (by omega), e 20 (by omega), e 19 (by omega), e 0 (by omega)]
  exact h
/-- the new text in the cells, made small -/
theorem TD_new {c : Int → Int} {q : Int} {els el : List (Int × Int × Int)} {cd : List (Int × Int)} {lb lt : Option (List Int)} (h0 : c (681 * q) = (el.length : Int)) (h1 : ER c q el) (h2 : CDd c (681 * q + 73) cd) (hj : TJ els el cd lb lt) (hl : ∀ x ∈ els, LSm x) (hb : ∀ x ∈ cd, EBd x) : TD (nrF c) q els el cd lb lt := by
  obtain ⟨j1, j2, j3, j4, j5, j6, j7⟩ := id hj
  refine ⟨nrF_e h0 (by omega), fun i hi => ?_, fun i hi => ?_, hj⟩
  · obtain ⟨u1, u2, u3⟩ := h1 i hi
    have hL := j4 i hi
    have hT := j5 i hi
    have hm : els.getD i (0, 0, 0) ∈ els := by
      rw [List.getD_eq_getElem?_getD, List.getElem?_eq_getElem (by omega)]
      exact List.getElem_mem _
    have hS := hl _ hm
    obtain ⟨s1, s2, s3⟩ := hS
    generalize el.getD i (0, 0, 0) = e at u1 u2 u3 hL hT
    generalize els.getD i (0, 0, 0) = x at hL s1 s2 s3
    unfold LNp at hL
    have hlaw : e.1 ≤ 1 → (0 ≤ e.2.1 ∧ e.2.1 ≤ 300) ∧ (0 ≤ e.2.2 ∧ e.2.2 ≤ 300) := fun he => by
      obtain ⟨A, code, Z, w1, w2, w3, _, _⟩ := hT he
      have hlen : cd.length = A.length + code.length + Z.length := by rw [w1, List.length_append, List.length_append]
      omega
    refine ⟨nrF_e u1 (by omega), fun he => nrF_e (u2 he) ?_, fun he => nrF_e (u3 he) ?_⟩
    · by_cases k : e.1 ≤ 1
      · have := hlaw k; omega
      · omega
    · by_cases k : e.1 ≤ 1
      · have := hlaw k; omega
      · omega
  · obtain ⟨u1, u2⟩ := h2 i hi
    have hm : cd.getD i (0, 0) ∈ cd := by
      rw [List.getD_eq_getElem?_getD, List.getElem?_eq_getElem hi]
      exact List.getElem_mem _
    have hE := hb _ hm
    exact ⟨nrF_e u1 (by have := hE.1; omega), nrF_e u2 (by have := hE.2; omega)⟩
theorem pr_text {n : Nat} {S T : Nat → Int → Int} {D : List mx_C} (h : SIM n S T D) : PRI vI 54 7603 n S T D yX10_text cX10_text 2 (some .int) 74 [.ref 0] yX11_text cX11_text 1 (some .int) 12 [.ref 36] := by
  have e4 : S 1 1 = T 36 4 := h.2.2.2.2.2.2.2.2.1.1
  have htp := h.2.2.2.2.2.2.2.2.1.2.1
  have hb4 := htp.1
  have e0 : S 0 10 = T 37 0 := h.1.2.2.2.1
  have b0 := h.mv.2.1
  have eB : cbF S = byF T := by
    funext k
    unfold cbF byF
    rw [e4]
    by_cases w : (k : Int) < T 36 4
    · rw [if_pos w, if_pos w]; exact h.2.2.2.2.2.2.2.2.1.2.2 k (by omega)
    · rw [if_neg w, if_neg w]
  have hB : ∀ k, 300 ≤ k → byF T k < 0 := fun k hk => by
    unfold byF
    rw [if_neg (by omega)]
    decide
  have hTI : TI (byF T) 0 [] [] 0 [] none none := ⟨rfl, by decide, Nat.zero_le _, by omega, fun j hj => absurd hj (by simp), fun j hj => absurd hj (by simp), by decide, ⟨fun z => absurd z (bt_0 0), fun z => absurd rfl z⟩, ⟨fun z => absurd z (bt_0 1), fun z => absurd rfl z⟩, fun z => absurd rfl z, fun z => absurd rfl z⟩
  have hrd := rd_ok hB 25 302 0 [] [] 0 [] none none hTI rfl (by decide)
  have hv := cRd_v (B := byF T) 25 (0, 0, [], none, none) (fun x hx => absurd hx (by simp))
  have hbd := rdt_bd (B := byF T) 302 0 [] 0 [] (fun x hx => absurd hx (by simp))
  refine Sp.mono (qX10_text (S := S) (T := T) (D := D) (by omega) h.2.2.2.2.2.2.2.2.2.2 (by omega)) (fun r hp q => ?_)
  obtain ⟨v, er, S', D', ehp, hcase⟩ := q
  rw [eB] at hcase
  generalize cRd (byF T) 25 (0, 0, [], none, none) = rc at hrd hv hcase
  refine ⟨v, S', D ++ D', er, ehp, NXT.i (qX11_text htp h.mv) (fun v' hp' hq' => ?_)⟩
  obtain ⟨T', e2, hT⟩ := hq'
  generalize rdt (byF T) 302 0 [] 0 [] = rr at hrd hbd hT
  rcases hcase with ⟨k1, k2, k3, k4⟩ | ⟨k1, fS, eS1, b6, bF, eS3, hS⟩
  · rcases hT with ⟨m1, m2, m3⟩ | ⟨m1, _⟩
    · rw [k3, List.append_nil, k4]
      rw [k3, List.append_nil, k4, m3] at e2
      exact ⟨m2.trans k2.symm, T, e2, h.up1⟩
    · exact absurd (by omega) m1
  · rcases hT with ⟨m1, _, _⟩ | ⟨m1, fT, g36, g4, g5, g6, g39, hT2⟩
    · exact absurd m1 (by omega)
    · have eW : hp' = W5 S' (upS T' 39 (nrF (T' 39))) (D ++ D') := by rw [W5_nrF]; exact e2
      have u36 : ∀ j : Int, upS T' 39 (nrF (T' 39)) 36 j = T' 36 j := fun j => by rw [upS_n (by decide)]
      have u37 : upS T' 39 (nrF (T' 39)) 37 = T' 37 := upS_n (by decide)
      have u39 : upS T' 39 (nrF (T' 39)) 39 = nrF (T' 39) := upS_s _ _ _
      have fT2 : Fr [36, 37, 39, 41] T (upS T' 39 (nrF (T' 39))) := fun i hi => by
        rw [upS_n (fun z => hi (by rw [z]; decide))]; exact fT i hi
      have oldTD : ∀ q els el cd lb lt, 0 ≤ q ∧ q < T 37 0 → TD (T 39) q els el cd lb lt → TD (nrF (T' 39)) q els el cd lb lt := fun q els el cd lb lt hq hd => by
        refine hd.ex (fun y hy => ?_)
        exact nrF_e (g39 y (by omega)) (h.2.2.2.2.2.2.2.1 y)
      rcases hS with ⟨n0, ev, eS0, eS12, eS11⟩ | ⟨n0, ev, eS0, eS11, i, eS12, hcs⟩
      · have n1 : ¬ rr.1 = 0 := by rw [← hrd.1]; exact n0
        rcases hT2 with ⟨m2, _⟩ | ⟨_, ev', eT37⟩
        · exact absurd m2 n1
        · refine ⟨ev'.trans ev.symm, _, eW, ?_⟩
          refine (h.text (T' := upS T' 39 (nrF (T' 39))) fS eS1 b6 fT2 (by rw [u36]; exact g4) (by rw [u36]; exact g36 23 (by omega)) ?_ ?_ (by rw [u39]; exact nrF_B _) ?_ ?_ (fun q hq => ?_)).up1
          · rw [u36, g5, eS3, hrd.1]
          · rw [u36, g6, if_neg n1, eS11, hrd.2.1]
          · rw [u37, eT37]
            exact h.1.cells (fun j hj => by
              by_cases w : j = 0
              · rw [w]; exact eS0
              · exact fS j (by simp; omega))
          · rw [u37, eT37]; exact h.2.2.1
          · rw [u37, eT37] at hq
            obtain ⟨i, els, el, cd, lb, lt, w1, w2, w3, w4⟩ := h.2.2.2.1 q hq
            exact ⟨i, els, el, cd, lb, lt, by rw [eS12]; exact w1, w2.more, w3, by rw [u39]; exact oldTD q els el cd lb lt hq w4⟩
      · have n1 : rr.1 = 0 := by rw [← hrd.1]; exact n0
        rcases hT2 with ⟨_, ev', eT37, eT0, eER, eCD⟩ | ⟨m2, _⟩
        · obtain ⟨on', hti⟩ := hrd.2.2 n0
          refine ⟨by rw [ev', ev, e0], _, eW, ?_⟩
          have hmore := h.1.more (by omega)
          refine (h.text (T' := upS T' 39 (nrF (T' 39))) fS eS1 b6 fT2 (by rw [u36]; exact g4) (by rw [u36]; exact g36 23 (by omega)) ?_ ?_ (by rw [u39]; exact nrF_B _) ?_ ?_ (fun q hq => ?_)).up1
          · rw [u36, g5, eS3, hrd.1]
          · rw [u36, g6, if_pos n1, eS11]
          · rw [u37, eT37]
            exact hmore.cells (fun j hj => by
              by_cases w : j = 0
              · rw [w, upS_s]; exact eS0
              · rw [upS_n w]; exact fS j (by simp; omega))
          · rw [u37, eT37, up_s]
            have := h.2.2.1
            omega
          · rw [u37, eT37, up_s] at hq
            by_cases w : q = T 37 0
            · refine ⟨i, rc.2.2.1, rr.2.2.1, rr.2.2.2, rc.2.2.2.1, rc.2.2.2.2, ?_, hcs, hv, ?_⟩
              · rw [eS12, w, ← e0, up_s]
                exact tx_nat _
              · rw [u39, w]
                exact TD_new eT0 eER eCD (hti.tj hB) hv hbd
            · obtain ⟨k, els, el, cd, lb, lt, w1, w2, w3, w4⟩ := h.2.2.2.1 q (by omega)
              exact ⟨k, els, el, cd, lb, lt, by rw [eS12, up_n (by omega)]; exact w1, w2.more, w3, by rw [u39]; exact oldTD q els el cd lb lt (by omega) w4⟩
        · exact absurd n1 m2
