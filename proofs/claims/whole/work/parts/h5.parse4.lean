/-! ===== one: numbers, names, what is opened ===== -/
theorem opK_40 : ∀ o : Int, 40 ≤ o → rnk o = 0 := fun o h => rnk_0 h
theorem btK_o {k O : Int} {ps : List Int} (hO : 40 ≤ O ∧ ¬ O = 41) (hx : XS k) : btK k (O :: ps) = -1 := by
  have := hx.n
  have e : opn (O :: ps) = O := by
    show (if 40 ≤ O then O else opn ps) = O
    rw [if_pos hO.1]
  unfold btK
  rw [if_neg (by omega), if_neg (by omega), if_neg (by omega), if_neg (by omega), e, if_pos hO.2]
section
variable {B : Nat → Int} {s0 : Int} {c : Nat} {cd CD : List (Int × Int)} {ps : List Int} {F : Int} {C : Nat} {O : Int}
theorem opn_o (h : 40 ≤ O) : opn (O :: ps) = O := by
  show (if 40 ≤ O then O else opn ps) = O
  rw [if_pos h]
theorem stl1_o (h : 40 ≤ O) : stl 1 (O :: ps) cd = (O :: ps, cd) := stl_id (by show rnk O < 1; rw [rnk_0 h]; decide)
theorem Rs.clF (hO : 40 ≤ O ∧ ¬ O = 41) (hx : XS (kd B c)) (hp : ptK O (kd B c) (O :: ps) = -1) : Rs B s0 c cd (O :: ps) 1 1 c CD := by
  refine Rs.behF ?_ (by rw [opn_o hO.1]; omega)
  unfold bhf
  rw [decide_eq_false_iff_not, btK_o hO hx, opn_o hO.1, hp]
  decide
theorem Rs.clN {q : Int} (hO : 40 ≤ O ∧ ¬ O = 41) (hx : XS (kd B c)) (hp : ptK O (kd B c) (O :: ps) = q) (hq : 0 < q) (h : Rs B s0 (lxe B c) cd (q :: ps) 0 F C CD) : Rs B s0 c cd (O :: ps) 1 F C CD := by
  refine Rs.beh ?_ ?_
  · unfold bhf
    rw [decide_eq_true_iff, opn_o hO.1, hp]
    exact Or.inr (by omega)
  · have e : bhs (kd B c) cd (O :: ps) = (cd, q :: ps, 0) := by
      unfold bhs
      rw [btK_o hO hx, if_neg (by decide), opn_o hO.1, hp, if_pos hq, stl1_o hO.1]
      rfl
    rw [e]; exact h
theorem Rs.clS (hO : 40 ≤ O ∧ ¬ O = 41) (hx : XS (kd B c)) (hp : ptK O (kd B c) (O :: ps) = 0) (h : Rs B s0 (lxe B c) (stl 7 ps (if O = 43 then cd ++ [(3, 0)] else cd)).2 (stl 7 ps (if O = 43 then cd ++ [(3, 0)] else cd)).1 1 F C CD) : Rs B s0 c cd (O :: ps) 1 F C CD := by
  refine Rs.beh ?_ ?_
  · unfold bhf
    rw [decide_eq_true_iff, opn_o hO.1, hp]
    exact Or.inr (by decide)
  · have e : bhs (kd B c) cd (O :: ps) = ((stl 7 ps (if O = 43 then cd ++ [(3, 0)] else cd)).2, (stl 7 ps (if O = 43 then cd ++ [(3, 0)] else cd)).1, 1) := by
      unfold bhs
      rw [btK_o hO hx, if_neg (by decide), opn_o hO.1, hp, if_neg (by decide), stl1_o hO.1]
      rfl
    rw [e]; exact h
end
theorem XE.n {k : Int} (h : XE k) : ¬ k = 21 ∧ ¬ k = 22 := by
  have h1 := h.1.2
  have h2 := h.2
  unfold pAn at h1
  unfold pOr at h2
  rw [decide_eq_false_iff_not] at h1 h2
  omega
theorem btK_then {k : Int} {qs : List Int} (hx : XE k) (h1 : opn qs = 41) (h2 : cmB qs = true) : btK k qs = -1 := by
  have := hx.1.1.n
  have := hx.n
  unfold btK
  rw [if_neg (by omega), if_neg (by omega), if_neg (by omega), if_neg (by omega), if_neg (fun z => z h1), if_neg (fun z => z h2), if_neg (by omega), if_neg (by omega)]
theorem GX_f {B : Nat → Int} {k : Int} {r : RR} (h : ¬ r.1 = 0) : GX B k r = r := by unfold GX; rw [if_neg h]
theorem GE_f {k : Int} {r : RR} (h : ¬ r.1 = 0) : GE k r = r := by unfold GE; rw [if_neg h]
theorem GX_y {B : Nat → Int} {k : Int} {r : RR} (h : r.1 = 0) (hk : kd B r.2.1 = k) : GX B k r = (0, lxe B r.2.1, r.2.2) := by unfold GX; rw [if_pos h, if_pos hk]
theorem GX_n {B : Nat → Int} {k : Int} {r : RR} (h : r.1 = 0) (hk : ¬ kd B r.2.1 = k) : GX B k r = (1, r.2.1, r.2.2) := by unfold GX; rw [if_pos h, if_neg hk]
/-- in brackets -/
theorem SO_par {B : Nat → Int} {s0 : Int} {m : Nat} {G : RR → RR} (hG : SO B s0 (tSu B G) (PX B m 5) EI0 XS) {c : Nat} (hk : kd B c = 38) (l : List Int) :
    (¬ (GX B 39 (tSu B G (0, lxe B c, l))).1 = 0 → ∀ cd ps CD, P1 B (m + 1) c ps → Rs B s0 c cd ps 0 (GX B 39 (tSu B G (0, lxe B c, l))).1 (GX B 39 (tSu B G (0, lxe B c, l))).2.1 CD) ∧
    ((GX B 39 (tSu B G (0, lxe B c, l))).1 = 0 → ∃ code : List (Int × Int), (GX B 39 (tSu B G (0, lxe B c, l))).2.2 = l ++ code.map mp ∧ KC s0 false code ∧ code.length + lxp B c ≤ lxp B (GX B 39 (tSu B G (0, lxe B c, l))).2.1 ∧ XT (kd B (GX B 39 (tSu B G (0, lxe B c, l))).2.1) ∧ ∀ cd ps F C CD, P1 B (m + 1) c ps → Rs B s0 (GX B 39 (tSu B G (0, lxe B c, l))).2.1 (E7 ps (cd ++ code)).2 (E7 ps (cd ++ code)).1 1 F C CD → Rs B s0 c cd ps 0 F C CD) := by
  have hS := hG (lxe B c) l
  have hnx := lx_next (B := B) (c := c) (by omega)
  have op : ∀ cd ps F C CD, P1 B (m + 1) c ps → Rs B s0 (lxe B c) cd (40 :: ps) 0 F C CD → Rs B s0 c cd ps 0 F C CD := fun cd ps F C CD hp hr => by
    have h8 : cntO ps + ((m + 1 : Nat) : Int) = 8 := hp.1
    exact Rs.open_ (by omega) (by rw [hk]; decide) (by rw [hk]; rfl) (by decide) (by omega) hr
  have ctx : ∀ ps, P1 B (m + 1) c ps → PX B m 5 (lxe B c) (40 :: ps) := fun ps hp => by
    have h8 : cntO ps + ((m + 1 : Nat) : Int) = 8 := hp.1
    refine ⟨by rw [cntO_o (by decide)]; omega, by show rnk 40 < 5; decide, fun _ => ?_⟩
    show decide (opn (40 :: ps) = 41 ∧ (40 ≤ (40 : Int) ∨ (1 ≤ rnk 40 ∧ rnk 40 ≤ 3))) = false
    rw [decide_eq_false_iff_not, opn_o (by decide)]
    exact fun z => absurd z.1 (by decide)
  by_cases z1 : (tSu B G (0, lxe B c, l)).1 = 0
  · obtain ⟨code, e1, k1, n1, x1, st1⟩ := hS.2 z1
    by_cases z2 : kd B (tSu B G (0, lxe B c, l)).2.1 = 39
    · rw [GX_y z1 z2]
      have hn2 := lx_next (B := B) (c := (tSu B G (0, lxe B c, l)).2.1) (by omega)
      refine ⟨fun y => absurd rfl y, fun _ => ⟨code, e1, k1, ?_, trivial, fun cd ps F C CD hp hr => op cd ps F C CD hp (st1 cd _ F C CD (ctx ps hp) ?_)⟩⟩
      · show code.length + lxp B c ≤ lxp B (lxe B (tSu B G (0, lxe B c, l)).2.1)
        omega
      · exact Rs.clS (O := 40) (by decide) x1 (by rw [z2]; rfl) hr
    · rw [GX_n z1 z2]
      refine ⟨fun _ cd ps CD hp => op cd ps _ _ CD hp (st1 cd _ _ _ CD (ctx ps hp) ?_), fun y => absurd y (show ¬ (1 : Int) = 0 by decide)⟩
      refine Rs.clF (O := 40) (by decide) x1 ?_
      unfold ptK
      rw [if_pos rfl, if_neg z2]
  · rw [GX_f z1]
    exact ⟨fun _ cd ps CD hp => op cd ps _ _ CD hp (hS.1 z1 cd _ CD (ctx ps hp)), fun y => absurd y z1⟩
/-- a sign ahead of one -/
theorem SO_una {B : Nat → Int} {s0 : Int} {m : Nat} {G : RR → RR} (hG : SO B s0 G (P1 B m) E7 XT) {c : Nat} {o w : Int} (hk : (kd B c = 35 ∧ o = 5 ∧ w = 51) ∨ (kd B c = 15 ∧ o = 2 ∧ w = 15) ∨ (kd B c = 16 ∧ o = 4 ∧ w = 16)) (l : List Int) :
    (¬ (GE w (G (0, lxe B c, l))).1 = 0 → ∀ cd ps CD, P1 B (m + 1) c ps → Rs B s0 c cd ps 0 (GE w (G (0, lxe B c, l))).1 (GE w (G (0, lxe B c, l))).2.1 CD) ∧
    ((GE w (G (0, lxe B c, l))).1 = 0 → ∃ code : List (Int × Int), (GE w (G (0, lxe B c, l))).2.2 = l ++ code.map mp ∧ KC s0 false code ∧ code.length + lxp B c ≤ lxp B (GE w (G (0, lxe B c, l))).2.1 ∧ XT (kd B (GE w (G (0, lxe B c, l))).2.1) ∧ ∀ cd ps F C CD, P1 B (m + 1) c ps → Rs B s0 (GE w (G (0, lxe B c, l))).2.1 (E7 ps (cd ++ code)).2 (E7 ps (cd ++ code)).1 1 F C CD → Rs B s0 c cd ps 0 F C CD) := by
  have hnx := lx_next (B := B) (c := c) (by omega)
  have ho : o = 2 ∨ o = 4 ∨ o = 5 := by omega
  have hr7 : rnk o = 7 := by rcases ho with rfl | rfl | rfl <;> decide
  have hmp : mp (o, 0) = w := by rcases hk with ⟨_, rfl, rfl⟩ | ⟨_, rfl, rfl⟩ | ⟨_, rfl, rfl⟩ <;> rfl
  have hok : ∀ ps, opK (kd B c) ps = o := fun ps => by rcases hk with ⟨h, rfl, _⟩ | ⟨h, rfl, _⟩ | ⟨h, rfl, _⟩ <;> rw [h] <;> rfl
  have hnm : nmK (kd B c) < 0 := by rcases hk with ⟨h, _⟩ | ⟨h, _⟩ | ⟨h, _⟩ <;> rw [h] <;> decide
  have op : ∀ cd ps F C CD, P1 B (m + 1) c ps → Rs B s0 (lxe B c) cd (o :: ps) 0 F C CD → Rs B s0 c cd ps 0 F C CD := fun cd ps F C CD hp hr => by
    have h8 : cntO ps + ((m + 1 : Nat) : Int) = 8 := hp.1
    exact Rs.open_ (by omega) hnm (hok ps) (by omega) (by omega) hr
  have ctx : ∀ ps, P1 B (m + 1) c ps → P1 B m (lxe B c) (o :: ps) := fun ps hp => by
    have h8 : cntO ps + ((m + 1 : Nat) : Int) = 8 := hp.1
    exact ⟨by rw [cntO_o (Or.inr (Or.inl hr7))]; omega, fun _ => akB_n (by omega) (by omega) ps⟩
  have hS := hG (lxe B c) l
  by_cases z1 : (G (0, lxe B c, l)).1 = 0
  · obtain ⟨code, e1, k1, n1, x1, st1⟩ := hS.2 z1
    have eg : GE w (G (0, lxe B c, l)) = (0, (G (0, lxe B c, l)).2.1, l ++ (code ++ [(o, 0)]).map mp) := by
      unfold GE
      rw [if_pos z1, e1, List.map_append, List.map_singleton, hmp, List.append_assoc]
    rw [eg]
    refine ⟨fun y => absurd rfl y, fun _ => ⟨code ++ [(o, 0)], rfl, k1.one ho, ?_, trivial, fun cd ps F C CD hp hr => op cd ps F C CD hp (st1 cd _ F C CD (ctx ps hp) ?_)⟩⟩
    · rw [List.length_append]
      show code.length + 1 + lxp B c ≤ lxp B (G (0, lxe B c, l)).2.1
      omega
    · unfold E7 at hr ⊢
      rw [stl_c (by omega), List.append_assoc]
      exact hr
  · rw [GE_f z1]
    exact ⟨fun _ cd ps CD hp => op cd ps _ _ CD hp (hS.1 z1 cd _ CD (ctx ps hp)), fun y => absurd y z1⟩
