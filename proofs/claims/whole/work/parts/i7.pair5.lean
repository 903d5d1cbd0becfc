/-! ===== calls, each on both sides: feed, text ===== -/
def TAq (S T : Nat → Int → Int) : Prop := S 1 1 = T 36 4 ∧ 0 ≤ T 36 4 ∧ (∀ j : Nat, j < 300 → 0 ≤ T 40 j ∧ T 40 j ≤ 255) ∧ ∀ k : Nat, k < 300 → S 2 k % 256 = T 40 k
theorem TAq.one {S T : Nat → Int → Int} (h : TAq S T) (y : Int) : TAq (pt1 S (sb y)) (md_t1 T (y % 256)) := by
  obtain ⟨h1, h2, h3, h4⟩ := h
  have e1 : md_t1 T (y % 256) 36 4 = T 36 4 + 1 := by unfold md_t1; rw [upS_s, up_s]
  have e2 : md_t1 T (y % 256) 40 = up (T 40) (T 36 4) (y % 256) := by unfold md_t1; rw [upS_n (by decide), upS_s]
  have e3 : pt1 S (sb y) 2 = up (S 2) (S 1 1) (sb y) := by unfold pt1; rw [upS_n (by decide), upS_s]
  refine ⟨by rw [pt1_1, e1, h1], by rw [e1]; omega, fun j hj => ?_, fun k hk => ?_⟩
  · rw [e2]
    by_cases q : (j : Int) = T 36 4
    · rw [q, up_s]; omega
    · rw [up_n q]; exact h3 j hj
  · rw [e2, e3, h1]
    by_cases q : (k : Int) = T 36 4
    · rw [q, up_s, up_s, sb_m]
    · rw [up_n q, up_n q]; exact h4 k hk
theorem TAq.four (v : Int) : ∀ (m : Nat) (S T : Nat → Int → Int), TAq S T → TAq (ptN v m S) (md_four v m T) := by
  intro m
  induction m with
  | zero => intro S T h; exact h
  | succ m ih => intro S T h; exact ih _ _ (h.one _)
theorem ptN_fr (v : Int) : ∀ (m : Nat) (S : Nat → Int → Int) (i : Nat), ¬ i = 1 → ¬ i = 2 → ptN v m S i = S i := by
  intro m
  induction m with
  | zero => intro S i _ _; rfl
  | succ m ih =>
    intro S i h1 h2
    show ptN v m (pt1 S _) i = S i
    rw [ih _ i h1 h2]
    unfold pt1
    rw [upS_n h1, upS_n h2]
theorem md_four_fr (v : Int) : ∀ (m : Nat) (T : Nat → Int → Int), (∀ i : Nat, ¬ i = 36 → ¬ i = 40 → md_four v m T i = T i) ∧ ∀ j : Int, ¬ j = 4 → md_four v m T 36 j = T 36 j := by
  intro m
  induction m with
  | zero => intro T; exact ⟨fun _ _ _ => rfl, fun _ _ => rfl⟩
  | succ m ih =>
    intro T
    have h := ih (md_t1 T (v / 2 ^ (8 * m) % 256))
    refine ⟨fun i h1 h2 => ?_, fun j hj => ?_⟩
    · show md_four v m (md_t1 T _) i = T i
      rw [h.1 i h1 h2]
      unfold md_t1
      rw [upS_n h1, upS_n h2]
    · show md_four v m (md_t1 T _) 36 j = T 36 j
      rw [h.2 j hj]
      unfold md_t1
      rw [upS_s, up_n hj]
theorem SIM.tape {n : Nat} {S T S' T' : Nat → Int → Int} {D : List mx_C} (h : SIM n S T D) (ht : TAq S' T') (h3 : T' 36 4 ≤ 300) (hS : ∀ i, ¬ i = 1 → ¬ i = 2 → S' i = S i) (hT : ∀ i, ¬ i = 36 → ¬ i = 40 → T' i = T i) (h36 : ∀ j : Int, ¬ j = 4 → T' 36 j = T 36 j) : SIM n S' T' D := by
  obtain ⟨h1, h2, h3', h4, h5, h6, h8, h9, h10, h11, h12⟩ := h
  refine ⟨?_, ?_, ?_, fun q hq => ?_, h5.fr (fun i hi => hS i (by omega) (by omega)), ?_, ?_, ?_, ⟨ht.1, ⟨⟨ht.2.1, h3⟩, ht.2.2.1⟩, ht.2.2.2⟩, ?_, ?_⟩
  · unfold COS at h1 ⊢
    rw [hT 37 (by decide) (by decide), hS 14 (by decide) (by decide), hS 18 (by decide) (by decide), hS 17 (by decide) (by decide), hS 20 (by decide) (by decide), hS 19 (by decide) (by decide), hS 0 (by decide) (by decide)]
    exact h1
  · rw [hT 38 (by decide) (by decide)]
    exact h2.fr (fun i hi => hS i (by omega) (by omega))
  · rw [hT 37 (by decide) (by decide), hT 38 (by decide) (by decide)]; exact h3'
  · rw [hT 37 (by decide) (by decide)] at hq
    obtain ⟨i, els, el, cd, lb, lt, u1, u2, u3, u4⟩ := h4 q hq
    exact ⟨i, els, el, cd, lb, lt, by rw [hS 12 (by decide) (by decide)]; exact u1, u2, u3, by rw [hT 39 (by decide) (by decide)]; exact u4⟩
  · rw [hS 21 (by decide) (by decide)]; exact h6
  · rw [h36 23 (by omega)]; exact h8
  · rw [hT 39 (by decide) (by decide)]; exact h9
  · rw [hS 3 (by decide) (by decide), h36 5 (by omega), h36 6 (by omega)]; exact h11
  · rw [hS 3 (by decide) (by decide)]; exact h12
theorem pr_feed {n : Nat} {S T : Nat → Int → Int} {D : List mx_C} (h : SIM n S T D) {p : Int} (h_p : -2147483648 ≤ p ∧ p < 2147483648) {q : Int} (h_q : -2147483648 ≤ q ∧ q < 2147483648) {r : Int} (h_r : -2147483648 ≤ r ∧ r < 2147483648) {u : Int} (h_u : -2147483648 ≤ u ∧ u < 2147483648) {w : Int} (h_w : -2147483648 ≤ w ∧ w < 2147483648) : PRI vI 0 0 n S T D yX10_feed cX10_feed 6 (some .int) 1 [.ref 0, .int (jI p), .int (jI q), .int (jI r), .int (jI u), .int (jI w)] yX11_feed cX11_feed 6 (some .int) 1 [.ref 36, .int (jI p), .int (jI q), .int (jI r), .int (jI u), .int (jI w)] := by
  have e4 : S 1 1 = T 36 4 := h.2.2.2.2.2.2.2.2.1.1
  have hb := h.2.2.2.2.2.2.2.2.1.2.1.1
  by_cases z : 280 < T 36 4
  · exact PRI.f (K := vI) (qX10_feedN (by omega) (by omega)) (NXT.f (K := vI) (qX11_feedN hb z) rfl h.up1)
  · refine PRI.f (K := vI) (qX10_feed h_p h_q h_r h_u h_w (by omega)) (NXT.f (K := vI) (qX11_feed h_p h_q h_r h_u h_w (by omega)) (by omega) ?_)
    have h0 : TAq S T := ⟨e4, hb.1, h.2.2.2.2.2.2.2.2.1.2.1.2, h.2.2.2.2.2.2.2.2.1.2.2⟩
    have h5 := TAq.four w 4 _ _ (TAq.four u 4 _ _ (TAq.four r 4 _ _ (TAq.four q 4 _ _ (TAq.four p 4 _ _ h0))))
    have hsz : md_feed T p q r u w 36 4 = T 36 4 + 20 := by
      unfold md_feed
      rw [md_four_sz, md_four_sz, md_four_sz, md_four_sz, md_four_sz]
      omega
    refine (h.tape (S' := cl_feed S p q r u w) (T' := md_feed T p q r u w) h5 (by omega) (fun i h1 h2 => ?_) (fun i h1 h2 => ?_) (fun j hj => ?_)).up1
    · unfold cl_feed
      rw [ptN_fr _ 4 _ i h1 h2, ptN_fr _ 4 _ i h1 h2, ptN_fr _ 4 _ i h1 h2, ptN_fr _ 4 _ i h1 h2, ptN_fr _ 4 _ i h1 h2]
    · unfold md_feed
      rw [(md_four_fr _ 4 _).1 i h1 h2, (md_four_fr _ 4 _).1 i h1 h2, (md_four_fr _ 4 _).1 i h1 h2, (md_four_fr _ 4 _).1 i h1 h2, (md_four_fr _ 4 _).1 i h1 h2]
    · unfold md_feed
      rw [(md_four_fr _ 4 _).2 j hj, (md_four_fr _ 4 _).2 j hj, (md_four_fr _ 4 _).2 j hj, (md_four_fr _ 4 _).2 j hj, (md_four_fr _ 4 _).2 j hj]
/-! what is written down is small -/
def EBd (x : Int × Int) : Prop := (0 ≤ x.1 ∧ x.1 ≤ 43) ∧ (0 ≤ x.2 ∧ x.2 ≤ 9999)
def PBd (ps : List Int) : Prop := ∀ o ∈ ps, 0 ≤ o ∧ o ≤ 43
theorem stl_bd {l : Int} : ∀ (ps : List Int) (cd : List (Int × Int)), PBd ps → (∀ x ∈ cd, EBd x) → PBd (stl l ps cd).1 ∧ ∀ x ∈ (stl l ps cd).2, EBd x := by
  intro ps
  induction ps with
  | nil => intro cd h1 h2; exact ⟨h1, h2⟩
  | cons o ps ih =>
    intro cd h1 h2
    show PBd (if l ≤ rnk o then stl l ps (cd ++ [(o, 0)]) else (o :: ps, cd)).1 ∧ ∀ x ∈ (if l ≤ rnk o then stl l ps (cd ++ [(o, 0)]) else (o :: ps, cd)).2, EBd x
    split
    · refine ih _ (fun x hx => h1 x (List.mem_cons_of_mem _ hx)) (fun x hx => ?_)
      rcases List.mem_append.mp hx with q | q
      · exact h2 x q
      · rw [List.mem_singleton.mp q]
        exact ⟨h1 o (List.mem_cons_self ..), show 0 ≤ (0 : Int) ∧ (0 : Int) ≤ 9999 by decide⟩
    · exact ⟨h1, h2⟩
theorem ebd_app {cd : List (Int × Int)} {x : Int × Int} (h : ∀ y ∈ cd, EBd y) (hx : EBd x) : ∀ y ∈ cd ++ [x], EBd y := fun y hy => by
  rcases List.mem_append.mp hy with q | q
  · exact h y q
  · rw [List.mem_singleton.mp q]; exact hx
theorem pbd_c {o : Int} {ps : List Int} (h : PBd ps) (ho : 0 ≤ o ∧ o ≤ 43) : PBd (o :: ps) := fun x hx => by
  rcases List.mem_cons.mp hx with q | q
  · rw [q]; exact ho
  · exact h x q
theorem pbd_t {ps : List Int} (h : PBd ps) : PBd ps.tail := fun x hx => h x (List.mem_of_mem_tail hx)
theorem sy_bd {B : Nat → Int} {s0 : Int} : ∀ (n c : Nat) (cd : List (Int × Int)) (ps : List Int) (wh : Int), PBd ps → (∀ x ∈ cd, EBd x) → ∀ x ∈ (sy B s0 n c cd ps wh).2.2, EBd x := by
  intro n
  induction n with
  | zero => intro c cd ps wh _ h; exact h
  | succ n ih =>
    intro c cd ps wh hp h
    rw [sy]
    split
    · split
      · next hf =>
        unfold bgs
        by_cases q2 : kd B c = 2
        · rw [if_pos q2]
          have hl : ¬ 9999 < lxn B c := fun z => by
            unfold bgf at hf
            rw [if_pos q2, if_pos z] at hf
            exact absurd hf (by decide)
          have hB := lxn_B B c
          have hs := stl_bd (l := 7) ps (cd ++ [(0, lxn B c)]) hp (ebd_app h ⟨show 0 ≤ (0 : Int) ∧ (0 : Int) ≤ 43 by decide, show 0 ≤ lxn B c ∧ lxn B c ≤ 9999 by omega⟩)
          exact ih _ _ _ _ hs.1 hs.2
        · rw [if_neg q2]
          by_cases qn : 0 ≤ nmK (kd B c)
          · rw [if_pos qn]
            have hB := nmK_B (kd B c)
            have hs := stl_bd (l := 7) ps (cd ++ [(1, nmK (kd B c))]) hp (ebd_app h ⟨show 0 ≤ (1 : Int) ∧ (1 : Int) ≤ 43 by decide, show 0 ≤ nmK (kd B c) ∧ nmK (kd B c) ≤ 9999 by omega⟩)
            exact ih _ _ _ _ hs.1 hs.2
          · rw [if_neg qn]
            have ho : ¬ opK (kd B c) ps = -1 := fun z => by
              unfold bgf at hf
              rw [if_neg q2, if_neg qn, if_pos z] at hf
              exact absurd hf (by decide)
            have hk := opK_ok ho
            exact ih _ _ _ _ (pbd_c hp (by omega)) h
      · exact h
    · split
      · unfold bhs
        have hs1 := stl_bd (l := 1) ps cd hp h
        by_cases qb : 0 ≤ btK (kd B c) ps
        · rw [if_pos qb]
          have hs := stl_bd (l := bhl (btK (kd B c) ps)) ps cd hp h
          have hB := btK_B (kd B c) ps
          exact ih _ _ _ _ (pbd_c hs.1 (by omega)) hs.2
        · rw [if_neg qb]
          by_cases qp : 0 < ptK (opn ps) (kd B c) ps
          · rw [if_pos qp]
            have hB := (ptK_B (opn ps) (kd B c) ps).1
            exact ih _ _ _ _ (pbd_c (pbd_t hs1.1) (by omega)) hs1.2
          · rw [if_neg qp]
            have hx : ∀ x ∈ (if opn ps = 43 then (stl 1 ps cd).2 ++ [(3, 0)] else (stl 1 ps cd).2), EBd x := by
              split
              · exact ebd_app hs1.2 ⟨by decide, by decide⟩
              · exact hs1.2
            have hs := stl_bd (l := 7) (stl 1 ps cd).1.tail _ (pbd_t hs1.1) hx
            exact ih _ _ _ _ hs.1 hs.2
      · split
        · exact h
        · exact (stl_bd (l := 1) ps cd hp h).2
theorem bdy_bd {B : Nat → Int} {s : Int} {c : Nat} {cd : List (Int × Int)} (h : ∀ x ∈ cd, EBd x) : ∀ x ∈ (bdy B s c cd).2.2.2, EBd x := by
  unfold bdy fgs
  split
  · exact h
  · split
    · exact h
    · split
      · exact h
      · split
        · exact h
        · split
          · exact h
          · exact sy_bd 301 c cd [] 0 (fun _ hx => absurd hx (by simp)) h
theorem rdt_bd {B : Nat → Int} : ∀ (n c : Nat) (el : List (Int × Int × Int)) (on : Int) (cd : List (Int × Int)), (∀ x ∈ cd, EBd x) → ∀ x ∈ (rdt B n c el on cd).2.2.2, EBd x := by
  intro n
  induction n with
  | zero => intro c el on cd h; exact h
  | succ n ih =>
    intro c el on cd h
    rw [rdt]
    split
    · exact h
    · split
      · exact ih _ _ _ _ (bdy_bd h)
      · exact h
