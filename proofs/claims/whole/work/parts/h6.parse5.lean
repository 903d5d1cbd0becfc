/-! ===== if then else end ===== -/
theorem tSu_f {B : Nat → Int} {G : RR → RR} (hG : ∀ r : RR, ¬ r.1 = 0 → G r = r) {r : RR} (h : ¬ r.1 = 0) : tSu B G r = r := by
  have h1 : ∀ r : RR, ¬ r.1 = 0 → tPr B G r = r := fun r h => by
    unfold tPr
    rw [hG r h, tLp_f 300 h]
  unfold tSu
  rw [h1 r h, tLp_f 300 h]
theorem ctx_o {B : Nat → Int} {m c : Nat} {O : Int} (hO : 40 ≤ O ∧ ¬ O = 41) {ps : List Int} (h : cntO ps + ((m + 1 : Nat) : Int) = 8) : PX B m 5 c (O :: ps) := by
  refine ⟨by rw [cntO_o (Or.inl hO.1)]; omega, by show rnk O < 5; rw [rnk_0 hO.1]; decide, fun _ => ?_⟩
  show decide (opn (O :: ps) = 41 ∧ (40 ≤ O ∨ (1 ≤ rnk O ∧ rnk O ≤ 3))) = false
  rw [decide_eq_false_iff_not, opn_o hO.1]
  exact fun z => hO.2 z.1
section
variable {B : Nat → Int} {s0 : Int} {m : Nat} {G : RR → RR}
theorem SO_else (hG : SO B s0 (tSu B G) (PX B m 5) EI0 XS) (c : Nat) (l : List Int) :
    (¬ (GE 50 (GX B 20 (tSu B G (0, c, l)))).1 = 0 → ∀ cd ps CD, cntO ps + ((m + 1 : Nat) : Int) = 8 → Rs B s0 c cd (43 :: ps) 0 (GE 50 (GX B 20 (tSu B G (0, c, l)))).1 (GE 50 (GX B 20 (tSu B G (0, c, l)))).2.1 CD) ∧
    ((GE 50 (GX B 20 (tSu B G (0, c, l)))).1 = 0 → ∃ code : List (Int × Int), (GE 50 (GX B 20 (tSu B G (0, c, l)))).2.2 = l ++ code.map mp ++ [50] ∧ KC s0 false code ∧ code.length + 1 + lxp B c ≤ lxp B (GE 50 (GX B 20 (tSu B G (0, c, l)))).2.1 ∧ ∀ cd ps F C CD, cntO ps + ((m + 1 : Nat) : Int) = 8 → Rs B s0 (GE 50 (GX B 20 (tSu B G (0, c, l)))).2.1 (E7 ps (cd ++ code ++ [(3, 0)])).2 (E7 ps (cd ++ code ++ [(3, 0)])).1 1 F C CD → Rs B s0 c cd (43 :: ps) 0 F C CD) := by
  have hS := hG c l
  by_cases z1 : (tSu B G (0, c, l)).1 = 0
  · obtain ⟨code, e1, k1, n1, x1, st1⟩ := hS.2 z1
    by_cases z2 : kd B (tSu B G (0, c, l)).2.1 = 20
    · have hn2 := lx_next (B := B) (c := (tSu B G (0, c, l)).2.1) (by omega)
      have eg : GE 50 (GX B 20 (tSu B G (0, c, l))) = (0, lxe B (tSu B G (0, c, l)).2.1, l ++ code.map mp ++ [50]) := by
        rw [GX_y z1 z2, e1]; rfl
      rw [eg]
      refine ⟨fun y => absurd rfl y, fun _ => ⟨code, rfl, k1, ?_, fun cd ps F C CD hp hr => st1 cd _ F C CD (ctx_o (by decide) hp) ?_⟩⟩
      · show code.length + 1 + lxp B c ≤ lxp B (lxe B (tSu B G (0, c, l)).2.1)
        omega
      · exact Rs.clS (O := 43) (by decide) x1 (by rw [z2]; rfl) hr
    · have eg : GE 50 (GX B 20 (tSu B G (0, c, l))) = (1, (tSu B G (0, c, l)).2.1, (tSu B G (0, c, l)).2.2) := by
        rw [GX_n z1 z2]; rfl
      rw [eg]
      refine ⟨fun _ cd ps CD hp => st1 cd _ _ _ CD (ctx_o (by decide) hp) ?_, fun y => absurd y (show ¬ (1 : Int) = 0 by decide)⟩
      refine Rs.clF (O := 43) (by decide) x1 ?_
      unfold ptK
      rw [if_neg (by decide), if_neg (by decide), if_neg (by decide), if_pos rfl, if_neg z2]
  · have eg : GE 50 (GX B 20 (tSu B G (0, c, l))) = tSu B G (0, c, l) := by rw [GX_f z1, GE_f z1]
    rw [eg]
    exact ⟨fun _ cd ps CD hp => hS.1 z1 cd _ CD (ctx_o (by decide) hp), fun y => absurd y z1⟩
theorem SO_then (hf : ∀ r : RR, ¬ r.1 = 0 → G r = r) (hG : SO B s0 (tSu B G) (PX B m 5) EI0 XS) (c : Nat) (l : List Int) :
    (¬ (GE 50 (GX B 20 (tSu B G (GX B 19 (tSu B G (0, c, l)))))).1 = 0 → ∀ cd ps CD, cntO ps + ((m + 1 : Nat) : Int) = 8 → Rs B s0 c cd (42 :: ps) 0 (GE 50 (GX B 20 (tSu B G (GX B 19 (tSu B G (0, c, l)))))).1 (GE 50 (GX B 20 (tSu B G (GX B 19 (tSu B G (0, c, l)))))).2.1 CD) ∧
    ((GE 50 (GX B 20 (tSu B G (GX B 19 (tSu B G (0, c, l)))))).1 = 0 → ∃ code : List (Int × Int), (GE 50 (GX B 20 (tSu B G (GX B 19 (tSu B G (0, c, l)))))).2.2 = l ++ code.map mp ++ [50] ∧ KD s0 false code ∧ code.length + 1 + lxp B c ≤ lxp B (GE 50 (GX B 20 (tSu B G (GX B 19 (tSu B G (0, c, l)))))).2.1 ∧ ∀ cd ps F C CD, cntO ps + ((m + 1 : Nat) : Int) = 8 → Rs B s0 (GE 50 (GX B 20 (tSu B G (GX B 19 (tSu B G (0, c, l)))))).2.1 (E7 ps (cd ++ code ++ [(3, 0)])).2 (E7 ps (cd ++ code ++ [(3, 0)])).1 1 F C CD → Rs B s0 c cd (42 :: ps) 0 F C CD) := by
  have hS := hG c l
  by_cases z1 : (tSu B G (0, c, l)).1 = 0
  · obtain ⟨code1, e1, k1, n1, x1, st1⟩ := hS.2 z1
    by_cases z2 : kd B (tSu B G (0, c, l)).2.1 = 19
    · have hn2 := lx_next (B := B) (c := (tSu B G (0, c, l)).2.1) (by omega)
      rw [GX_y z1 z2, e1]
      have h3 := SO_else hG (lxe B (tSu B G (0, c, l)).2.1) (l ++ code1.map mp)
      have step : ∀ cd ps F C CD, cntO ps + ((m + 1 : Nat) : Int) = 8 → Rs B s0 (lxe B (tSu B G (0, c, l)).2.1) (cd ++ code1) (43 :: ps) 0 F C CD → Rs B s0 c cd (42 :: ps) 0 F C CD := fun cd ps F C CD hp hr => by
        refine st1 cd _ F C CD (ctx_o (by decide) hp) ?_
        exact Rs.clN (O := 42) (q := 43) (by decide) x1 (by rw [z2]; rfl) (by decide) hr
      refine ⟨fun y cd ps CD hp => step cd ps _ _ CD hp (h3.1 y _ ps CD hp), fun y => ?_⟩
      obtain ⟨code2, u1, u2, u3, u4⟩ := h3.2 y
      refine ⟨code1 ++ code2, ?_, k1.two u2, ?_, fun cd ps F C CD hp hr => step cd ps F C CD hp (u4 _ ps F C CD hp ?_)⟩
      · rw [u1, List.map_append]
        simp only [List.append_assoc]
      · rw [List.length_append]; omega
      · rw [List.append_assoc cd]; exact hr
    · have eg : GE 50 (GX B 20 (tSu B G (GX B 19 (tSu B G (0, c, l))))) = (1, (tSu B G (0, c, l)).2.1, (tSu B G (0, c, l)).2.2) := by
        rw [GX_n z1 z2, tSu_f hf (show ¬ (1 : Int) = 0 by decide)]; rfl
      rw [eg]
      refine ⟨fun _ cd ps CD hp => st1 cd _ _ _ CD (ctx_o (by decide) hp) ?_, fun y => absurd y (show ¬ (1 : Int) = 0 by decide)⟩
      refine Rs.clF (O := 42) (by decide) x1 ?_
      unfold ptK
      rw [if_neg (by decide), if_neg (by decide), if_pos rfl, if_neg z2]
  · have eg : GE 50 (GX B 20 (tSu B G (GX B 19 (tSu B G (0, c, l))))) = tSu B G (0, c, l) := by rw [GX_f z1, tSu_f hf z1, GX_f z1, GE_f z1]
    rw [eg]
    exact ⟨fun _ cd ps CD hp => hS.1 z1 cd _ CD (ctx_o (by decide) hp), fun y => absurd y z1⟩
theorem SO_if {A : RR → RR} (hf : ∀ r : RR, ¬ r.1 = 0 → G r = r) (hG : SO B s0 (tSu B G) (PX B m 5) EI0 XS) (hA : SB B s0 (tEi B A) (PBk m 1) 1 XE) {c : Nat} (hk : kd B c = 17) (l : List Int) :
    (¬ (GE 50 (GX B 20 (tSu B G (GX B 19 (tSu B G (GX B 18 (tEi B A (0, lxe B c, l)))))))).1 = 0 → ∀ cd ps CD, P1 B (m + 1) c ps → Rs B s0 c cd ps 0 (GE 50 (GX B 20 (tSu B G (GX B 19 (tSu B G (GX B 18 (tEi B A (0, lxe B c, l)))))))).1 (GE 50 (GX B 20 (tSu B G (GX B 19 (tSu B G (GX B 18 (tEi B A (0, lxe B c, l)))))))).2.1 CD) ∧
    ((GE 50 (GX B 20 (tSu B G (GX B 19 (tSu B G (GX B 18 (tEi B A (0, lxe B c, l)))))))).1 = 0 → ∃ code : List (Int × Int), (GE 50 (GX B 20 (tSu B G (GX B 19 (tSu B G (GX B 18 (tEi B A (0, lxe B c, l)))))))).2.2 = l ++ code.map mp ∧ KC s0 false code ∧ code.length + lxp B c ≤ lxp B (GE 50 (GX B 20 (tSu B G (GX B 19 (tSu B G (GX B 18 (tEi B A (0, lxe B c, l)))))))).2.1 ∧ XT (kd B (GE 50 (GX B 20 (tSu B G (GX B 19 (tSu B G (GX B 18 (tEi B A (0, lxe B c, l)))))))).2.1) ∧ ∀ cd ps F C CD, P1 B (m + 1) c ps → Rs B s0 (GE 50 (GX B 20 (tSu B G (GX B 19 (tSu B G (GX B 18 (tEi B A (0, lxe B c, l)))))))).2.1 (E7 ps (cd ++ code)).2 (E7 ps (cd ++ code)).1 1 F C CD → Rs B s0 c cd ps 0 F C CD) := by
  have hnx := lx_next (B := B) (c := c) (by omega)
  have op : ∀ cd ps F C CD, P1 B (m + 1) c ps → Rs B s0 (lxe B c) cd (41 :: ps) 0 F C CD → Rs B s0 c cd ps 0 F C CD := fun cd ps F C CD hp hr => by
    have h8 : cntO ps + ((m + 1 : Nat) : Int) = 8 := hp.1
    exact Rs.open_ (o := 41) (by omega) (by rw [hk]; decide) (by rw [hk]; rfl) (by decide) (by omega) hr
  have ctx : ∀ ps, P1 B (m + 1) c ps → PBk m 1 (lxe B c) (41 :: ps) := fun ps hp => by
    have h8 : cntO ps + ((m + 1 : Nat) : Int) = 8 := hp.1
    have e1 : opn (41 :: ps) = 41 := opn_o (by decide)
    refine ⟨by rw [cntO_o (by decide)]; omega, e1, by show rnk 41 < 1; decide, ?_⟩
    show decide (opn (41 :: ps) = 41 ∧ (40 ≤ (41 : Int) ∨ (1 ≤ rnk 41 ∧ rnk 41 ≤ 3))) = true
    rw [decide_eq_true_iff]
    exact ⟨e1, Or.inl (by decide)⟩
  have hS := hA (lxe B c) l
  by_cases z1 : (tEi B A (0, lxe B c, l)).1 = 0
  · obtain ⟨code1, pl, e1, k1, p1, n1, x1, st1⟩ := hS.2 z1
    have ho41 : ∀ ps, opn (pl ++ 41 :: ps) = 41 := fun ps => (opn_pl pl _ (fun x hx => (p1.2 x hx).2)).trans (opn_o (by decide))
    by_cases z2 : kd B (tEi B A (0, lxe B c, l)).2.1 = 18
    · have hn2 := lx_next (B := B) (c := (tEi B A (0, lxe B c, l)).2.1) (by omega)
      rw [GX_y z1 z2, e1]
      have h3 := SO_then hf hG (lxe B (tEi B A (0, lxe B c, l)).2.1) (l ++ (code1 ++ emP pl).map mp)
      have step : ∀ cd ps F C CD, P1 B (m + 1) c ps → Rs B s0 (lxe B (tEi B A (0, lxe B c, l)).2.1) (cd ++ (code1 ++ emP pl)) (42 :: ps) 0 F C CD → Rs B s0 c cd ps 0 F C CD := fun cd ps F C CD hp hr => by
        refine op cd ps F C CD hp (st1 cd _ F C CD (ctx ps hp) ?_)
        have eb := btK_then (qs := pl ++ 41 :: ps) x1 (ho41 ps) (p1.cm _)
        have ep : ptK 41 (kd B (tEi B A (0, lxe B c, l)).2.1) (pl ++ 41 :: ps) = 42 := by
          unfold ptK
          rw [if_neg (by decide), if_pos rfl, if_pos ⟨z2, p1.cm _⟩]
        refine Rs.beh ?_ ?_
        · unfold bhf
          rw [decide_eq_true_iff, ho41, ep]
          exact Or.inr (by decide)
        · have e5 : bhs (kd B (tEi B A (0, lxe B c, l)).2.1) (cd ++ code1) (pl ++ 41 :: ps) = (cd ++ (code1 ++ emP pl), 42 :: ps, 0) := by
            unfold bhs
            rw [eb, if_neg (by decide), ho41, ep, if_pos (by decide), stl_pl pl _ _ (fun x hx => (p1.2 x hx).1), stl1_o (by decide), List.append_assoc]
            rfl
          rw [e5]
          exact hr
      refine ⟨fun y cd ps CD hp => step cd ps _ _ CD hp (h3.1 y _ ps CD hp.1), fun y => ?_⟩
      obtain ⟨code2, u1, u2, u3, u4⟩ := h3.2 y
      refine ⟨(code1 ++ emP pl) ++ code2 ++ [(3, 0)], ?_, k1.sel u2, ?_, trivial, fun cd ps F C CD hp hr => step cd ps F C CD hp (u4 _ ps F C CD hp.1 ?_)⟩
      · rw [u1, List.map_append (l₁ := (code1 ++ emP pl) ++ code2), List.map_append (l₁ := code1 ++ emP pl)]
        show l ++ (code1 ++ emP pl).map mp ++ code2.map mp ++ [50] = l ++ ((code1 ++ emP pl).map mp ++ code2.map mp ++ [50])
        simp only [List.append_assoc]
      · rw [List.length_append (as := (code1 ++ emP pl) ++ code2), List.length_append (as := code1 ++ emP pl)]
        show (code1 ++ emP pl).length + code2.length + 1 + lxp B c ≤ _
        omega
      · rw [show cd ++ (code1 ++ emP pl) ++ code2 ++ [(3, 0)] = cd ++ ((code1 ++ emP pl) ++ code2 ++ [(3, 0)]) by simp only [List.append_assoc]]
        exact hr
    · have eg : GE 50 (GX B 20 (tSu B G (GX B 19 (tSu B G (GX B 18 (tEi B A (0, lxe B c, l))))))) = (1, (tEi B A (0, lxe B c, l)).2.1, (tEi B A (0, lxe B c, l)).2.2) := by
        rw [GX_n z1 z2]
        have hr : ¬ ((1, (tEi B A (0, lxe B c, l)).2.1, (tEi B A (0, lxe B c, l)).2.2) : RR).1 = 0 := (show ¬ (1 : Int) = 0 by decide)
        rw [tSu_f hf hr, GX_f hr, tSu_f hf hr, GX_f hr, GE_f hr]
      rw [eg]
      refine ⟨fun _ cd ps CD hp => op cd ps _ _ CD hp (st1 cd _ _ _ CD (ctx ps hp) ?_), fun y => absurd y (show ¬ (1 : Int) = 0 by decide)⟩
      have eb := btK_then (qs := pl ++ 41 :: ps) x1 (ho41 ps) (p1.cm _)
      refine Rs.behF ?_ (by rw [ho41]; decide)
      unfold bhf
      have ep : ptK 41 (kd B (tEi B A (0, lxe B c, l)).2.1) (pl ++ 41 :: ps) = -1 := by
        unfold ptK
        rw [if_neg (by decide), if_pos rfl, if_neg (fun w => z2 w.1)]
      rw [decide_eq_false_iff_not, eb, ho41, ep]
      decide
  · have eg : GE 50 (GX B 20 (tSu B G (GX B 19 (tSu B G (GX B 18 (tEi B A (0, lxe B c, l))))))) = tEi B A (0, lxe B c, l) := by rw [GX_f z1, tSu_f hf z1, GX_f z1, tSu_f hf z1, GX_f z1, GE_f z1]
    rw [eg]
    exact ⟨fun _ cd ps CD hp => op cd ps _ _ CD hp (hS.1 z1 cd _ CD (ctx ps hp)), fun y => absurd y z1⟩
end
