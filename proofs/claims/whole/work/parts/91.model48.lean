/-! ===== the reference: a sum, a number ===== -/
def sy (B : Nat → Int) (s0 : Int) : Nat → Nat → List (Int × Int) → List Int → Int → Int × Nat × List (Int × Int)
  | 0, c, cd, _, _ => (1, c, cd)
  | m + 1, c, cd, ps, wh => if wh = 0 then (if bgf (kd B c) (lxn B c) s0 ps = 0 then sy B s0 m (lxe B c) (bgs (kd B c) (lxn B c) cd ps).1 (bgs (kd B c) (lxn B c) cd ps).2.1 (bgs (kd B c) (lxn B c) cd ps).2.2 else (bgf (kd B c) (lxn B c) s0 ps, c, cd)) else (if bhf (kd B c) ps = true then sy B s0 m (lxe B c) (bhs (kd B c) cd ps).1 (bhs (kd B c) cd ps).2.1 (bhs (kd B c) cd ps).2.2 else if 0 ≤ opn ps then (1, c, cd) else (0, c, (stl 1 ps cd).2))
theorem lxp_lxe (B : Nat → Int) (c : Nat) : lxp B c ≤ lxe B c := by
  rcases Classical.em (lxt B c = 0) with e | e
  · unfold lxt at e
    by_cases h1 : B (lxp B c) < 0
    · unfold lxe; rw [if_pos h1]; exact Nat.le_refl _
    · exact Nat.le_of_lt (lxe_lo (fun e2 => by
        unfold lxt at e2
        rw [if_neg h1] at e2
        by_cases h2 : isD (B (lxp B c))
        · rw [if_pos h2] at e2; omega
        · rw [if_neg h2] at e2
          by_cases h3 : isL (B (lxp B c))
          · rw [if_pos h3] at e2; omega
          · rw [if_neg h3] at e2
            by_cases h4 : (B (lxp B c) = 60 ∨ B (lxp B c) = 62) ∧ B (lxp B c + 1) = 61
            · rw [if_pos h4] at e2; split at e2 <;> omega
            · rw [if_neg h4] at e2; split at e2 <;> omega))
  · exact Nat.le_of_lt (lxe_lo e)
theorem bgs_w (k v : Int) (cd : List (Int × Int)) (ps : List Int) : (bgs k v cd ps).2.2 = 0 ∨ (bgs k v cd ps).2.2 = 1 := by
  unfold bgs
  split
  · exact Or.inr rfl
  · split
    · exact Or.inr rfl
    · exact Or.inl rfl
theorem bhs_w (k : Int) (cd : List (Int × Int)) (ps : List Int) : (bhs k cd ps).2.2 = 0 ∨ (bhs k cd ps).2.2 = 1 := by
  unfold bhs
  split
  · exact Or.inl rfl
  · split
    · exact Or.inl rfl
    · exact Or.inr rfl
theorem bgf_B (k v s0 : Int) (ps : List Int) : 0 ≤ bgf k v s0 ps ∧ bgf k v s0 ps ≤ 5 := by
  unfold bgf
  repeat' split
  all_goals omega
theorem lX11_summed {E : mx_E} {S T : Nat → Int → Int} {D : List mx_C} {B : Nat → Int} {q s0 : Int} (h_q : 0 ≤ q ∧ q ≤ 3) (h14 : T 36 14 = s0) (h_s : 0 ≤ s0 ∧ s0 ≤ 10) {r : Int × Nat × List (Int × Int)} : ∀ (m c : Nat) (cd : List (Int × Int)) (ps : List Int) (wh : Int) (T1 : Nat → Int → Int) (u1 : Value), u1.category = 1 → SY B T1 q c cd ps wh → SGr q T T1 → PI B c cd ps → (wh = 0 ∨ wh = 1) → T1 36 4 < lxp B c + m → sy B s0 m c cd ps wh = r → Ev E yX11_summed cX11_summed 2 (some .int) (kI E 7 (fun v hp' => ∃ T', hp' = W5 S T' D ∧ SGr q T T' ∧ v = r.1 ∧ ∃ ps' wh', SY B T' q r.2.1 r.2.2 ps' wh')) 0 0 15 [.ref 36, u1] [] (W5 S T1 D) := by
  intro m
  induction m with
  | zero =>
    intro c cd ps wh T1 u1 hu1 hs g hi hw hm hr
    have := lxp_lxe B c
    have := hs.2.2.2.2.2
    exfalso; omega
  | succ m ih =>
    intro c cd ps wh T1 u1 hu1 hs g hi hw hm hr
    have hpe := lxp_lxe B c
    have hen := hs.2.2.2.2.2
    have h4 := hs.2.2.2.2.1.1
    have hct := hs.2.1
    have hvo := okP_vo hi.1
    have hlen := okP_160 hi.1 hi.2.1
    have hsum := hi.2.2
    have h16 := hs.1.2.2.2.1
    have hpl := hs.1.2.2.2.2.1
    have hob := opn_B ps hvo
    have h14' : T1 36 14 = s0 := (g.2.1 14 (by omega) (by decide) (by decide) (by decide) (by decide)).trans h14
    have hbB := bgf_B (kd B c) (lxn B c) s0 ps
    rw [sy] at hr
    refine L_a0 dX11_summed_15 ?_
    refine GW_36_18 fX11_194 dX11_summed_16 ?_
    refine J_eqi (b := wh) hs.2.2.1 ?_
    refine J_if_eq 48 dX11_summed_19 rfl (by omega) (fun c19 => ?_) (fun c19 => ?_)
    · refine L_a0 dX11_summed_48 ?_
      refine C_v0I vX11_226 dX11_summed_49 (qX11_beginOne h_q (by rw [show wh = 0 by omega] at hs; exact hs) hi.1 hi.2.1 (by omega) (by omega)) rfl rfl (Nat.le_of_ble_eq_true rfl) (by decide) (fun v49 hp49 hq49 => ?_)
      obtain ⟨T49, rfl, g49, e49, hh49⟩ := hq49
      rw [h14'] at e49
      refine S_i1 dX11_summed_52 (by decide) rfl ?_
      refine L_i1 dX11_summed_53 ?_
      refine J_if_eq 59 dX11_summed_54 rfl (by omega) (fun c54 => ?_) (fun c54 => ?_)
      · refine E_goto 15 dX11_summed_59 rfl ?_
        obtain ⟨hbf, hs2⟩ : bgf (kd B c) (lxn B c) s0 ps = 0 ∧ SY B T49 q (lxe B c) (bgs (kd B c) (lxn B c) cd ps).1 (bgs (kd B c) (lxn B c) cd ps).2.1 (bgs (kd B c) (lxn B c) cd ps).2.2 := by
          rcases hh49 with e | e
          · exact absurd c54 e.1
          · exact ⟨by omega, e.2⟩
        rw [if_pos c19, if_pos hbf] at hr
        have hin := bg_inv (s0 := s0) hi hbf
        have hnx := lx_next hin.1
        have e4 : T49 36 4 = T1 36 4 := g49.2.1 4 (by omega) (by decide) (by decide) (by decide) (by decide)
        exact ih _ _ _ _ T49 _ rfl hs2 (g.trans g49) hin.2 (bgs_w _ _ _ _) (by omega) hr
      · refine L_i1 dX11_summed_57 ?_
        exact RQ_i rfl dX11_summed_58 (by
          obtain ⟨hv0, eT⟩ : ¬ v49 = 0 ∧ T49 = T1 := by
            rcases hh49 with e | e
            · exact e
            · exact absurd e.1 c54
          subst eT
          rw [if_pos c19, if_neg (by omega)] at hr
          subst hr
          exact ⟨_, rfl, g, e49, ps, wh, hs⟩)
    · refine L_a0 dX11_summed_22 ?_
      refine C_v0I vX11_223 dX11_summed_23 (qX11_behindOne h_q (by rw [show wh = 1 by omega] at hs; exact hs) hi (by omega)) rfl rfl (Nat.le_of_ble_eq_true rfl) (by decide) (fun v23 hp23 hq23 => ?_)
      obtain ⟨T23, rfl, g23, hh23⟩ := hq23
      have hv01 : v23 = 0 ∨ v23 = 1 := by rcases hh23 with e | e; exact Or.inl e.2.1; exact Or.inr e.2.1
      refine J_if_eq 32 dX11_summed_26 rfl (by omega) (fun c26 => ?_) (fun c26 => ?_)
      · obtain ⟨hbf, hv0, eT⟩ : bhf (kd B c) ps = false ∧ v23 = 0 ∧ T23 = T1 := by
          rcases hh23 with e | e
          · exact e
          · exact absurd e.2.1 (by omega)
        subst eT
        rw [if_neg c19, if_neg (by rw [hbf]; decide)] at hr
        refine L_a0 dX11_summed_32 ?_
        refine C_v0F vX11_182 dX11_summed_33 (qX11_openNow hvo hs.1.2.2.2.1 hs.1.2.2.2.2.1 (by omega)) rfl rfl (Nat.le_of_ble_eq_true rfl) (by decide) ?_
        refine J_if_lt 41 dX11_summed_36 rfl (by omega) (fun c36 => ?_) (fun c36 => ?_)
        · refine L_a0 dX11_summed_41 ?_
          refine J_iconst dX11_summed_42 ?_
          refine C_v1U vX11_197 dX11_summed_43 (qX11_settle (l := 1) h_q (by omega) hvo hs.1 (by omega) (by omega)) rfl rfl (Nat.le_of_ble_eq_true rfl) (by decide) (fun hp43 hq43 => ?_)
          obtain ⟨T43, rfl, hp43, hz43⟩ := hq43
          refine J_iconst dX11_summed_46 ?_
          exact RQ_i rfl dX11_summed_47 (by rw [if_neg (by omega)] at hr; subst hr; exact ⟨_, rfl, g.trans hp43.sg, rfl, _, wh, hs.pf hp43 hz43⟩)
        · refine J_iconst dX11_summed_39 ?_
          exact RQ_i rfl dX11_summed_40 (by rw [if_pos c36] at hr; subst hr; exact ⟨_, rfl, g, rfl, ps, wh, hs⟩)
      · refine E_goto 15 dX11_summed_29 rfl ?_
        obtain ⟨hbf, hv1, hs2⟩ : bhf (kd B c) ps = true ∧ v23 = 1 ∧ SY B T23 q (lxe B c) (bhs (kd B c) cd ps).1 (bhs (kd B c) cd ps).2.1 (bhs (kd B c) cd ps).2.2 := by
          rcases hh23 with e | e
          · exact absurd e.2.1 c26
          · exact e
        rw [if_neg c19, if_pos hbf] at hr
        have hin := bh_inv hi hbf
        have hnx := lx_next hin.1
        have e4 : T23 36 4 = T1 36 4 := g23.2.1 4 (by omega) (by decide) (by decide) (by decide) (by decide)
        exact ih _ _ _ _ T23 _ hu1 hs2 (g.trans g23) hin.2 (bhs_w _ _ _) (by omega) hr
theorem sum_0 {T : Nat → Int → Int} {B : Nat → Int} {q : Int} {c : Nat} {cd : List (Int × Int)} (hct : CT B T c) (hby : byF T = B) (htp : TP T) (hen : (lxe B c : Int) ≤ T 36 4) (h12 : T 36 12 = 681 * q) (h13 : T 36 13 = (cd.length : Int)) (hcd : CDd (T 39) (681 * q + 73) cd) {T1 : Nat → Int → Int} (e36 : ∀ j : Int, ¬ j = 16 → ¬ j = 17 → ¬ j = 18 → T1 36 j = T 36 j) (e16 : T1 36 16 = 0) (e17 : T1 36 17 = 0) (e18 : T1 36 18 = 0) (eo : ∀ i : Nat, ¬ i = 36 → T1 i = T i) : SY B T1 q c cd [] 0 := by
  have e := fun j a b d => e36 j a b d
  refine ⟨⟨by rw [e 12 (by decide) (by decide) (by decide)]; exact h12, by rw [e 13 (by decide) (by decide) (by decide)]; exact h13, by rw [eo 39 (by decide)]; exact hcd, e16, trivial, e17⟩, ?_, e18, ?_, ?_, ?_⟩
  · unfold CT
    rw [e 8 (by decide) (by decide) (by decide), e 7 (by decide) (by decide) (by decide), e 9 (by decide) (by decide) (by decide), e 10 (by decide) (by decide) (by decide), e 11 (by decide) (by decide) (by decide)]
    exact hct
  · rw [← hby]; funext k; unfold byF; rw [e 4 (by decide) (by decide) (by decide), eo 40 (by decide)]
  · unfold TP; rw [e 4 (by decide) (by decide) (by decide), eo 40 (by decide)]; exact htp
  · rw [e 4 (by decide) (by decide) (by decide)]; exact hen
set_option maxRecDepth 100000 in
theorem qX11_summed {S T : Nat → Int → Int} {D : List mx_C} {B : Nat → Int} {q s0 : Int} (h_q : 0 ≤ q ∧ q ≤ 3) (h14 : T 36 14 = s0) (h_s : 0 ≤ s0 ∧ s0 ≤ 10) {c : Nat} {cd : List (Int × Int)} (hct : CT B T c) (hby : byF T = B) (htp : TP T) (hen : (lxe B c : Int) ≤ T 36 4) (h12 : T 36 12 = 681 * q) (h13 : T 36 13 = (cd.length : Int)) (hcd : CDd (T 39) (681 * q + 73) cd) (hlt : cd.length + 1 ≤ lxp B c) : SpI yX11_summed cX11_summed 2 (some .int) 7 [.ref 36] (W5 S T D) (fun v hp' => ∃ T', hp' = W5 S T' D ∧ SGr q T T' ∧ v = (sy B s0 301 c cd [] 0).1 ∧ ∃ ps' wh', SY B T' q (sy B s0 301 c cd [] 0).2.1 (sy B s0 301 c cd [] 0).2.2 ps' wh') := by
  refine Sp.of [.ref 36, .retAddr 0] (by decide) (by simp) (Nat.le_of_ble_eq_true rfl) rfl (fun E => ?_)
  refine L_a0 dX11_summed_0 ?_
  refine J_iconst dX11_summed_1 ?_
  refine PW_36_16 fX11_165 dX11_summed_2 ?_
  refine L_a0 dX11_summed_5 ?_
  refine J_iconst dX11_summed_6 ?_
  refine PW_36_17 fX11_175 dX11_summed_7 ?_
  refine L_a0 dX11_summed_10 ?_
  refine J_iconst dX11_summed_11 ?_
  refine PW_36_18 fX11_194 (by decide) dX11_summed_12 ?_
  have hs := sum_0 (T1 := (upS (upS (upS T 36 (up (T 36) 16 0)) 36 (up ((upS T 36 (up (T 36) 16 0)) 36) 17 0)) 36 (up ((upS (upS T 36 (up (T 36) 16 0)) 36 (up ((upS T 36 (up (T 36) 16 0)) 36) 17 0)) 36) 18 0))) hct hby htp hen h12 h13 hcd (fun j a b d => by simp [upS, up, a, b, d]) (by simp [upS, up]) (by simp [upS, up]) (by simp [upS, up]) (fun i a => by simp [upS, a])
  have hg : SGr q T (upS (upS (upS T 36 (up (T 36) 16 0)) 36 (up ((upS T 36 (up (T 36) 16 0)) 36) 17 0)) 36 (up ((upS (upS T 36 (up (T 36) 16 0)) 36 (up ((upS T 36 (up (T 36) 16 0)) 36) 17 0)) 36) 18 0)) := ⟨fun i hh => by simp only [List.mem_cons, List.not_mem_nil, or_false, not_or] at hh; simp [upS, hh.1], fun j _ _ a b d => by simp [upS, up, a, b, d], fun x _ => by simp [upS]⟩
  have h4 := htp.1
  have e4 : (upS (upS (upS T 36 (up (T 36) 16 0)) 36 (up ((upS T 36 (up (T 36) 16 0)) 36) 17 0)) 36 (up ((upS (upS T 36 (up (T 36) 16 0)) 36 (up ((upS T 36 (up (T 36) 16 0)) 36) 17 0)) 36) 18 0)) 36 4 = T 36 4 := by simp [upS, up]
  exact lX11_summed h_q h14 h_s 301 c cd [] 0 _ _ rfl hs hg ⟨trivial, by decide, by show cd.length + 0 + 1 ≤ _; omega⟩ (Or.inl rfl) (by rw [e4]; omega) rfl

