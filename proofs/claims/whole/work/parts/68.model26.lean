/-! ===== the reference: all ways, the search itself ===== -/
/-- the search's state: the picks so far, and the ways found -/
def FS (T0 T : Nat → Int → Int) (L : List (List Nat)) (tr pre : List Nat) (ws : List (List Nat)) : Prop := Fr [36, 50, 51] T0 T ∧ (∀ j, ¬ j = 33 → T 36 j = T0 36 j) ∧ (0 ≤ T 36 33 ∧ T 36 33 < 256) ∧ tr.length = pre.length ∧ (∀ j : Nat, j < tr.length → T 50 j = ((tr.getD j 0 : Nat) : Int) ∧ tr.getD j 0 < (L.getD j []).length ∧ (L.getD j []).getD (tr.getD j 0) 0 = pre.getD j 0) ∧ (∀ j : Nat, j < L.length → KWj T ws j) ∧ (∀ j : Nat, (ws.headD []).getD j 0 < 65536)
theorem FS_50 {T0 T : Nat → Int → Int} {L : List (List Nat)} {tr pre : List Nat} {ws : List (List Nat)} (h : FS T0 T L tr pre ws) {i : Nat} (hi : tr.length ≤ i) (x : Int) : FS T0 (upF T 50 i x) L tr pre ws := by
  refine ⟨h.1.trans (Fr_up _ _ (by decide)), h.2.1, h.2.2.1, h.2.2.2.1, fun j hj => ?_, h.2.2.2.2.2.1, h.2.2.2.2.2.2⟩
  have := h.2.2.2.2.1 j hj
  refine ⟨?_, this.2⟩
  show up (T 50) i x j = _
  rw [up_n (by omega)]
  exact this.1
theorem FS_pop {T0 T : Nat → Int → Int} {L : List (List Nat)} {tr pre : List Nat} {o m : Nat} {ws : List (List Nat)} (hl : tr.length = pre.length) (h : FS T0 T L (tr ++ [o]) (pre ++ [m]) ws) : FS T0 T L tr pre ws ∧ T 50 tr.length = (o : Int) := by
  refine ⟨⟨h.1, h.2.1, h.2.2.1, hl, fun j hj => ?_, h.2.2.2.2.2.1, h.2.2.2.2.2.2⟩, ?_⟩
  · have := h.2.2.2.2.1 j (by rw [List.length_append]; omega)
    rw [getD_append_l hj, getD_append_l (by omega)] at this
    exact this
  · have := h.2.2.2.2.1 tr.length (by rw [List.length_append]; show _ < _ + 1; omega)
    rw [getD_append_r] at this
    exact this.1
theorem FS_push {T0 T : Nat → Int → Int} {L : List (List Nat)} {tr pre : List Nat} {o m : Nat} {ws : List (List Nat)} (h : FS T0 T L tr pre ws) (ht : T 50 tr.length = (o : Int)) (ho : o < (L.getD tr.length []).length) (hm : (L.getD tr.length []).getD o 0 = m) : FS T0 T L (tr ++ [o]) (pre ++ [m]) ws := by
  have hl := h.2.2.2.1
  refine ⟨h.1, h.2.1, h.2.2.1, by rw [List.length_append, List.length_append, hl]; rfl, fun j hj => ?_, h.2.2.2.2.2.1, h.2.2.2.2.2.2⟩
  rw [List.length_append] at hj
  by_cases e : j = tr.length
  · subst e
    rw [getD_append_r, hl, getD_append_r, ← hl]
    exact ⟨ht, ho, hm⟩
  · have hj2 : j < tr.length := by
      have : j < tr.length + 1 := hj
      omega
    rw [getD_append_l hj2, getD_append_l (by omega)]
    exact h.2.2.2.2.1 j hj2
theorem getD_lt_of {l : List Nat} {b : Nat} (hb : 0 < b) (h : ∀ x ∈ l, x < b) (i : Nat) : l.getD i 0 < b := by
  rcases Nat.lt_or_ge i l.length with hi | hi
  · exact h _ (getD_mem hi)
  · rw [List.getD_eq_getElem?_getD, List.getElem?_eq_none hi]; exact hb
theorem FS_pre {T0 T : Nat → Int → Int} {L : List (List Nat)} {tr pre : List Nat} {ws : List (List Nat)} (h : FS T0 T L tr pre ws) (hPB : PB L) (hle : tr.length ≤ L.length) (j : Nat) : pre.getD j 0 < 65536 := by
  rcases Nat.lt_or_ge j tr.length with hj | hj
  · have := h.2.2.2.2.1 j hj
    rw [← this.2.2]
    exact (hPB.2 j (by omega)).2 _ (getD_mem this.2.1)
  · rw [List.getD_eq_getElem?_getD, List.getElem?_eq_none (by rw [← h.2.2.2.1]; exact hj)]; decide
/-- what the search answers -/
def FQ (S T0 : Nat → Int → Int) (D : List mx_C) (L : List (List Nat)) (al : Int) (tot : List (List Nat)) (v : Int) (hp' : List mx_C) : Prop := v = (if al = 1 then (tot.length : Int) else if tot = [] then 0 else 1) ∧ ∃ T', hp' = W5 S T' D ∧ FS T0 T' L [] [] (if al = 1 then tot else tot.take 1)
def wyf (L : List (List Nat)) (u m : Nat) : List (List Nat) := if m &&& u = 0 then (wy L (u ||| m)).map (m :: ·) else []
theorem wy_cons (os : List Nat) (L : List (List Nat)) (u : Nat) : wy (os :: L) u = os.flatMap (wyf L u) := rfl
theorem wyf_no {L : List (List Nat)} {u m : Nat} (h : ¬ m &&& u = 0) : wyf L u m = [] := if_neg h
theorem wyf_yes {L : List (List Nat)} {u m : Nat} (h : m &&& u = 0) : wyf L u m = (wy L (u ||| m)).map (m :: ·) := if_pos h
theorem map_pre (pre : List Nat) (m : Nat) (X : List (List Nat)) : (X.map (m :: ·)).map (pre ++ ·) = X.map ((pre ++ [m]) ++ ·) := by
  rw [List.map_map]
  apply List.map_congr_left
  intro x _
  show pre ++ (m :: x) = (pre ++ [m]) ++ x
  rw [List.append_assoc]
  rfl
theorem fit_main {E : mx_E} {S T0 : Nat → Int → Int} {D : List mx_C} {u0 al : Int} {L tot : List (List Nat)} (hPB : PB L) (hPO : PO T0 L L.length) (hmm : T0 36 32 = (L.length : Int)) (hal : al = 0 ∨ al = 1) (hB : (tot.length : Int) < 4611686018427387904) : ∀ (L' : List (List Nat)) (i : Nat) (tr pre : List Nat) (u : Nat) (ws rest : List (List Nat)) (T : Nat → Int → Int), L.drop i = L' → L' ≠ [] → tr.length = i → FS T0 T L tr pre ws → T 50 i = -1 → u < 65536 → tot = ws ++ (wy L' u).map (pre ++ ·) ++ rest → (al = 0 → ws = []) → (∀ T' : Nat → Int → Int, FS T0 T' L tr pre (ws ++ (wy L' u).map (pre ++ ·)) → (al = 0 → ws ++ (wy L' u).map (pre ++ ·) = []) → Ev E yX11_fitted cX11_fitted 7 (some .long) (kL E 2 (FQ S T0 D L al tot)) 0 0 36 [.ref 36, .int (jI u0), .int (jI al), .long (jL (((ws ++ (wy L' u).map (pre ++ ·)).length : Nat) : Int)), .retAddr 0, .int (jI (u : Int)), .int (jI ((i : Int) - 1))] [] (W5 S T' D)) → Ev E yX11_fitted cX11_fitted 7 (some .long) (kL E 2 (FQ S T0 D L al tot)) 0 0 36 [.ref 36, .int (jI u0), .int (jI al), .long (jL ((ws.length : Nat) : Int)), .retAddr 0, .int (jI (u : Int)), .int (jI (i : Int))] [] (W5 S T D) := by
  intro L'
  induction L' with
  | nil => intro i tr pre u ws rest T _ h; exact absurd rfl h
  | cons os L'' ihL =>
    intro i tr pre u ws rest T hdr _ htr hF ht hu htot hws hK
    obtain ⟨hil, hgi, hdr2⟩ := drop_cons (d := []) hdr
    have hPi := hPO i hil
    rw [hgi] at hPi
    have hPBi := hPB.2 i hil
    rw [hgi] at hPBi
    have hl8 := hPB.1
    have inner : ∀ (os' : List Nat) (o : Nat) (ws1 : List (List Nat)) (T1 : Nat → Int → Int), os.drop o = os' → o ≤ os.length → FS T0 T1 L tr pre ws1 → T1 50 i = (o : Int) → tot = ws1 ++ (os'.flatMap (wyf L'' u)).map (pre ++ ·) ++ rest → (al = 0 → ws1 = []) → (∀ T' : Nat → Int → Int, FS T0 T' L tr pre (ws1 ++ (os'.flatMap (wyf L'' u)).map (pre ++ ·)) → (al = 0 → ws1 ++ (os'.flatMap (wyf L'' u)).map (pre ++ ·) = []) → Ev E yX11_fitted cX11_fitted 7 (some .long) (kL E 2 (FQ S T0 D L al tot)) 0 0 36 [.ref 36, .int (jI u0), .int (jI al), .long (jL (((ws1 ++ (os'.flatMap (wyf L'' u)).map (pre ++ ·)).length : Nat) : Int)), .retAddr 0, .int (jI (u : Int)), .int (jI ((i : Int) - 1))] [] (W5 S T' D)) → Ev E yX11_fitted cX11_fitted 7 (some .long) (kL E 2 (FQ S T0 D L al tot)) 0 0 87 [.ref 36, .int (jI u0), .int (jI al), .long (jL ((ws1.length : Nat) : Int)), .retAddr 0, .int (jI (u : Int)), .int (jI (i : Int))] [] (W5 S T1 D) := by
      intro os'
      induction os' with
      | nil =>
        intro o ws1 T1 hdo hoL hF1 ht1 htot1 hws1 hK1
        have hol := drop_nil hdo
        have e49 : T1 49 i = ((os.length : Nat) : Int) := by rw [hF1.1 49 (by decide)]; exact hPi.1
        have e : o = os.length := by omega
        have hK2 := hK1 (upF T1 50 i (-1)) (by rw [List.flatMap_nil, List.map_nil, List.append_nil]; exact FS_50 hF1 (by omega) (-1)) (by rw [List.flatMap_nil, List.map_nil, List.append_nil]; exact hws1)
        rw [List.flatMap_nil, List.map_nil, List.append_nil] at hK2
        exact fS4 (m := 0) (by omega) (by omega) hPBi.1 ht1 e49 e hK2
      | cons m r ihO =>
        intro o ws1 T1 hdo hoL hF1 ht1 htot1 hws1 hK1
        obtain ⟨hol, hgo, hdo2⟩ := drop_cons (d := 0) hdo
        have e49 : T1 49 i = ((os.length : Nat) : Int) := by rw [hF1.1 49 (by decide)]; exact hPi.1
        have e48 : T1 48 (16 * (i : Int) + (o : Int)) = (m : Int) := by rw [hF1.1 48 (by decide), hPi.2 o hol, hgo]
        have hm6 : m < 65536 := by rw [← hgo]; exact hPBi.2 _ (getD_mem hol)
        have hum : u ||| m < 65536 := or_lt (n := 16) hu hm6
        have h36 : T1 36 32 = ((L.length : Nat) : Int) := (hF1.2.1 32 (by decide)).trans hmm
        rw [List.flatMap_cons, List.map_append, ← List.append_assoc] at htot1 hK1
        by_cases hz : m &&& u = 0
        · rw [wyf_yes hz, map_pre] at htot1 hK1
          -- behind a pick: on to the next option
          have next : ∀ (ws2 : List (List Nat)) (T2 : Nat → Int → Int), ws2 = ws1 ++ (wy L'' (u ||| m)).map ((pre ++ [m]) ++ ·) → FS T0 T2 L tr pre ws2 → T2 50 i = (o : Int) → (al = 0 → ws2 = []) → Ev E yX11_fitted cX11_fitted 7 (some .long) (kL E 2 (FQ S T0 D L al tot)) 0 0 36 [.ref 36, .int (jI u0), .int (jI al), .long (jL ((ws2.length : Nat) : Int)), .retAddr 0, .int (jI ((u ||| m : Nat) : Int)), .int (jI (i : Int))] [] (W5 S T2 D) := by
            intro ws2 T2 hws2 hF2 ht2 hal2
            subst hws2
            have e48' : T2 48 (16 * (i : Int) + (o : Int)) = (m : Int) := by rw [hF2.1 48 (by decide), hPi.2 o hol, hgo]
            refine fS2 (by omega) (by omega) ht2 e48' hz ?_
            exact ihO (o + 1) _ _ hdo2 (by omega) (FS_50 hF2 (by omega) _) (by show up (T2 50) i _ i = _; rw [up_s]; rfl) htot1 hal2 hK1
          by_cases hL2 : L'' = []
          · subst hL2
            have hii : i + 1 = L.length := by have := drop_nil hdr2; omega
            have hw1 : (wy [] (u ||| m)).map ((pre ++ [m]) ++ ·) = [pre ++ [m]] := by show [(pre ++ [m]) ++ []] = _; rw [List.append_nil]
            rw [hw1] at htot1 next
            have hFp := FS_push hF1 (o := o) (m := m) (by rw [htr]; exact ht1) (by rw [htr, hgi]; exact hol) (by rw [htr, hgi]; exact hgo)
            have hlen : (tr ++ [o]).length = L.length := by rw [List.length_append, htr]; exact hii
            have hnl : (ws1.length : Int) < 4611686018427387904 := by
              have h2 := congrArg List.length htot1
              rw [List.length_append, List.length_append, List.length_append] at h2
              omega
            have hvB : ∀ j : Nat, (pre ++ [m]).getD j 0 < 65536 := fun j => FS_pre hFp hPB (by omega) j
            have done : ∀ T' : Nat → Int → Int, Fr [36, 51] T1 T' → (∀ j, ¬ j = 33 → T' 36 j = T1 36 j) → (0 ≤ T' 36 33 ∧ T' 36 33 < 256) → (∀ j : Nat, j < L.length → KWj T' (ws1 ++ [pre ++ [m]]) j) → FS T0 T' L tr pre (ws1 ++ [pre ++ [m]]) ∧ T' 50 i = (o : Int) := by
              intro T' f o' a k'
              have e50 := f 50 (by decide)
              refine ⟨⟨hF1.1.trans (f.mono (by decide)), fun j hj => (o' j hj).trans (hF1.2.1 j hj), a, hF1.2.2.2.1, ?_, k', ?_⟩, by rw [e50]; exact ht1⟩
              · rw [e50]; exact hF1.2.2.2.2.1
              · intro j
                by_cases hn : ws1 = []
                · rw [hn]; exact hvB j
                · rw [headD_app hn]; exact hF1.2.2.2.2.2.2 j
            refine fS6 (by omega) (by omega) hPBi.1 ht1 e49 hol e48 h36 hl8 hu hz hii (v := pre ++ [m]) (ws := ws1) hal (fun j hj => ?_) hvB hF1.2.2.2.2.2.2 hnl hF1.2.2.1 hF1.2.2.2.2.2.1 (fun ha0 T' f o' a k' => ?_) (fun ha1 T' f o' a k' => ?_)
            · have hj2 := hFp.2.2.2.2.1 j (by omega)
              have hb := (hPB.2 j hj).1
              have hq := (hPO j hj).2 _ hj2.2.1
              rw [hj2.1, hF1.1 48 (by decide), hq, hj2.2.2]
              exact ⟨by omega, rfl⟩
            · have hd := done T' f o' a k'
              have hw0 := hws1 ha0
              refine ⟨?_, T', rfl, ?_⟩
              · rw [if_neg (by omega), if_neg (by rw [htot1, hw0]; simp), hw0]; rfl
              · rw [if_neg (by omega)]
                have e1 : tot.take 1 = ws1 ++ [pre ++ [m]] := by rw [htot1, hw0]; rfl
                rw [e1]
                exact ⟨hd.1.1, hd.1.2.1, hd.1.2.2.1, rfl, fun j hj => absurd hj (Nat.not_lt_zero _), hd.1.2.2.2.2.2.1, hd.1.2.2.2.2.2.2⟩
            · have hd := done T' f o' a k'
              have := next (ws1 ++ [pre ++ [m]]) T' rfl hd.1 hd.2 (fun h => by omega)
              rw [List.length_append] at this
              exact this
          · have hii : i + 1 < L.length := by
              rcases Nat.lt_or_ge (i + 1) L.length with h | h
              · exact h
              · exact absurd (hdr2.symm.trans (List.drop_eq_nil_of_le h)) hL2
            refine fS5 (by omega) (by omega) hPBi.1 ht1 e49 hol e48 h36 hl8 hu hz hii ?_
            have hF50 := FS_50 hF1 (i := i + 1) (by omega) (-1)
            have hFp := FS_push hF50 (o := o) (m := m) (by rw [htr]; show up (T1 50) _ _ _ = _; rw [up_n (by omega)]; exact ht1) (by rw [htr, hgi]; exact hol) (by rw [htr, hgi]; exact hgo)
            exact ihL (i + 1) (tr ++ [o]) (pre ++ [m]) (u ||| m) ws1 ((r.flatMap (wyf L'' u)).map (pre ++ ·) ++ rest) _ hdr2 hL2 (by rw [List.length_append, htr]; rfl) hFp (by show up (T1 50) _ _ _ = _; exact up_s _ _ _) hum (by rw [← List.append_assoc]; exact htot1) hws1 (fun T' hF' ha' => by
              have hp := FS_pop hF1.2.2.2.1 hF'
              rw [htr] at hp
              have := next _ T' rfl hp.1 hp.2 ha'
              rw [show ((i + 1 : Nat) : Int) - 1 = (i : Int) by omega]
              exact this)
        · rw [wyf_no hz, List.map_nil, List.append_nil] at htot1 hK1
          exact fS3 (by omega) (by omega) hPBi.1 ht1 e49 hol e48 hu hz (ihO (o + 1) ws1 _ hdo2 (by omega) (FS_50 hF1 (by omega) _) (by show up (T1 50) i _ i = _; rw [up_s]; rfl) htot1 hws1 hK1)
    refine fS1 (by omega) ht ?_
    exact inner os 0 ws _ rfl (Nat.zero_le _) (FS_50 hF (by omega) _) (by show up (T 50) i _ i = _; rw [up_s]; rfl) htot hws hK
