/-! ===== the reference: the state of a sum; what begins one ===== -/
def hrk : List Int → Int
  | [] => 0
  | o :: _ => rnk o
def okP : List Int → Prop
  | [] => True
  | o :: ps => okP ps ∧ (2 ≤ o ∧ o ≤ 43) ∧ (isO o ∨ hrk ps < rnk o)
def xtr : List Int → Int
  | [] => 0
  | o :: _ => if isO o then 0 else rnk o
theorem cntO_nn : ∀ ps : List Int, 0 ≤ cntO ps := by
  intro ps
  induction ps with
  | nil => exact Int.le_refl 0
  | cons o ps ih => rw [cntO]; split <;> omega
theorem okP_vo : ∀ {ps : List Int}, okP ps → VO ps := by
  intro ps
  induction ps with
  | nil => intro _ o ho; exact absurd ho (by simp)
  | cons x ps ih =>
    intro hk o ho
    rcases List.mem_cons.mp ho with e | e
    · subst e; have := hk.2.1; omega
    · exact ih hk.1 o e
theorem okP_len : ∀ {ps : List Int}, okP ps → (ps.length : Int) ≤ 7 * cntO ps + xtr ps := by
  intro ps
  induction ps with
  | nil => intro _; show (0 : Int) ≤ 7 * 0 + 0; omega
  | cons x ps ih =>
    intro hk
    have hi := ih hk.1
    rw [List.length_cons, cntO, xtr]
    have hx : xtr ps ≤ 6 := by
      cases ps with
      | nil => show (0 : Int) ≤ 6; omega
      | cons z r =>
        rw [xtr]
        have := rnk_B z
        split
        · omega
        · rename_i hz
          have : ¬ rnk z = 7 := fun e => hz (Or.inr (Or.inl e))
          omega
    by_cases hO : isO x
    · rw [if_pos hO, if_pos hO]; omega
    · rw [if_neg hO, if_neg hO]
      have h2 : hrk ps < rnk x := by rcases hk.2.2 with e | e; exact absurd e hO; exact e
      have h3 : xtr ps ≤ hrk ps := by
        cases ps with
        | nil => exact Int.le_refl 0
        | cons z r => rw [xtr, hrk]; have := rnk_B z; split <;> omega
      omega
theorem okP_160 {ps : List Int} (hk : okP ps) (h8 : cntO ps ≤ 8) : ps.length ≤ 63 := by
  have h1 := okP_len hk
  have h2 : xtr ps ≤ 7 := by
    cases ps with
    | nil => show (0 : Int) ≤ 7; omega
    | cons z r => rw [xtr]; have := rnk_B z; split <;> omega
  omega
theorem stl_ok {l : Int} (hl : 1 ≤ l) : ∀ (ps : List Int) (cd : List (Int × Int)), okP ps → okP (stl l ps cd).1 ∧ cntO (stl l ps cd).1 ≤ cntO ps ∧ hrk (stl l ps cd).1 < l := by
  intro ps
  induction ps with
  | nil => intro cd _; exact ⟨trivial, Int.le_refl _, by show (0 : Int) < l; omega⟩
  | cons o ps ih =>
    intro cd hk
    rw [stl]
    split
    · have := ih (cd ++ [(o, 0)]) hk.1
      refine ⟨this.1, ?_, this.2.2⟩
      rw [cntO]
      split <;> omega
    · rename_i hlt
      exact ⟨hk, Int.le_refl _, by show rnk o < l; omega⟩
theorem rnk_1 {o : Int} (hlt : o < 40) : 1 ≤ rnk o := by
  unfold rnk
  rw [if_neg (by omega)]
  repeat' split
  all_goals omega
theorem rnk_0 {o : Int} (hge : 40 ≤ o) : rnk o = 0 := by unfold rnk; rw [if_pos hge]
theorem stl1_top : ∀ {ps : List Int} (cd : List (Int × Int)), 40 ≤ opn ps → ∃ tl, (stl 1 ps cd).1 = opn ps :: tl := by
  intro ps
  induction ps with
  | nil => intro cd hh; exact absurd hh (by decide)
  | cons o ps ih =>
    intro cd hh
    rw [opn] at hh ⊢
    rw [stl]
    by_cases h40 : 40 ≤ o
    · rw [if_pos h40, if_neg (by rw [rnk_0 h40]; omega)]
      exact ⟨ps, rfl⟩
    · rw [if_neg h40] at hh ⊢
      rw [if_pos (rnk_1 (by omega))]
      exact ih _ hh
/-- what a sum may change -/
def SGr (q : Int) (T T' : Nat → Int → Int) : Prop := Fr [36, 39, 41] T T' ∧ (∀ j : Int, (j < 7 ∨ 11 < j) → ¬ j = 13 → ¬ j = 16 → ¬ j = 17 → ¬ j = 18 → T' 36 j = T 36 j) ∧ ∀ x : Int, (x < 681 * q + 73 ∨ 681 * q + 681 ≤ x) → T' 39 x = T 39 x
theorem SGr.refl (q : Int) (T : Nat → Int → Int) : SGr q T T := ⟨Fr.refl _ _, fun _ _ _ _ _ _ => rfl, fun _ _ => rfl⟩
theorem SGr.trans {q : Int} {T T1 T2 : Nat → Int → Int} (a : SGr q T T1) (b : SGr q T1 T2) : SGr q T T2 := ⟨a.1.trans b.1, fun j h1 h2 h3 h4 h5 => (b.2.1 j h1 h2 h3 h4 h5).trans (a.2.1 j h1 h2 h3 h4 h5), fun x hx => (b.2.2 x hx).trans (a.2.2 x hx)⟩
theorem PF.sg {q : Int} {T T1 : Nat → Int → Int} (a : PF q T T1) : SGr q T T1 := ⟨a.1, fun j _ h2 h3 h4 _ => a.2.1 j h2 h3 h4, a.2.2⟩
theorem NX.sg {q : Int} {T T1 : Nat → Int → Int} (a : NX T T1) : SGr q T T1 := ⟨a.1.mono (by decide), fun j h1 _ _ _ _ => a.2 j h1, fun x _ => by rw [a.1 39 (by decide)]⟩
theorem NX.pz {q : Int} {T T1 : Nat → Int → Int} (a : NX T T1) {cd : List (Int × Int)} {ps : List Int} (hz : PZ T q cd ps) : PZ T1 q cd ps := by
  unfold PZ
  rw [a.2 12 (by omega), a.2 13 (by omega), a.2 16 (by omega), a.2 17 (by omega), a.1 39 (by decide), a.1 41 (by decide)]
  exact hz
theorem SG_18 (q : Int) (T : Nat → Int → Int) (x : Int) : SGr q T (upS T 36 (up (T 36) 18 x)) := ⟨Fr_up _ _ (by decide), fun j _ _ _ _ h5 => uf36 h5, fun z _ => congrFun (upS_n (by decide)) z⟩
/-- the state of a sum -/
def SY (B : Nat → Int) (T : Nat → Int → Int) (q : Int) (c : Nat) (cd : List (Int × Int)) (ps : List Int) (wh : Int) : Prop := PZ T q cd ps ∧ CT B T c ∧ T 36 18 = wh ∧ byF T = B ∧ TP T ∧ (lxe B c : Int) ≤ T 36 4
theorem SY.pf {B : Nat → Int} {T T1 : Nat → Int → Int} {q : Int} {c : Nat} {cd cd1 : List (Int × Int)} {ps ps1 : List Int} {wh : Int} (hs : SY B T q c cd ps wh) (a : PF q T T1) (hz : PZ T1 q cd1 ps1) : SY B T1 q c cd1 ps1 wh := ⟨hz, a.ct hs.2.1, by rw [a.2.1 18 (by decide) (by decide) (by decide)]; exact hs.2.2.1, by rw [a.by]; exact hs.2.2.2.1, a.tp hs.2.2.2.2.1, by rw [a.2.1 4 (by decide) (by decide) (by decide)]; exact hs.2.2.2.2.2⟩
/-- one token further -/
theorem SY.nx {B : Nat → Int} {T T1 : Nat → Int → Int} {q : Int} {c : Nat} {cd : List (Int × Int)} {ps : List Int} {wh : Int} (hz : PZ T q cd ps) (h18 : T 36 18 = wh) (hb : byF T = B) (ht : TP T) (hc : (c : Int) ≤ T 36 4) (a : NX T T1) (hct : CT (byF T) T1 c) : SY B T1 q c cd ps wh := by
  have h4 := ht.1
  have he := lxe_hi (byF_neg ht) (c := c) (by omega)
  rw [hb] at hct he
  exact ⟨a.pz hz, hct, by rw [a.2 18 (by omega)]; exact h18, by rw [a.by]; exact hb, a.tp ht, by rw [a.len]; omega⟩
/-- something laid on the pile -/
theorem SY.push {B : Nat → Int} {T T3 : Nat → Int → Int} {q : Int} {c : Nat} {cd : List (Int × Int)} {ps : List Int} {wh : Int} (hs : SY B T q c cd ps wh) {o : Int} (e36 : ∀ j : Int, ¬ j = 16 → ¬ j = 17 → ¬ j = 18 → T3 36 j = T 36 j) (e16 : T3 36 16 = (ps.length : Int) + 1) (e17 : T3 36 17 = cntO (o :: ps)) (e41 : T3 41 = up (T 41) (ps.length : Int) o) (eo : ∀ i : Nat, ¬ i = 36 → ¬ i = 41 → T3 i = T i) : PZ T3 q cd (o :: ps) ∧ TP T3 ∧ byF T3 = B ∧ T3 36 7 = (lxe B c : Int) ∧ (lxe B c : Int) ≤ T3 36 4 ∧ SGr q T T3 := by
  have g4 := e36 4 (by decide) (by decide) (by decide)
  refine ⟨⟨?_, ?_, ?_, ?_, ?_, e17⟩, ?_, ?_, ?_, ?_, ?_⟩
  · rw [e36 12 (by decide) (by decide) (by decide)]; exact hs.1.1
  · rw [e36 13 (by decide) (by decide) (by decide)]; exact hs.1.2.1
  · rw [eo 39 (by decide) (by decide)]; exact hs.1.2.2.1
  · rw [e16, List.length_cons]; rfl
  · rw [e41]; exact PLd_push hs.1.2.2.2.2.1
  · unfold TP; rw [g4, eo 40 (by decide) (by decide)]; exact hs.2.2.2.2.1
  · rw [← hs.2.2.2.1]; funext k; unfold byF; rw [g4, eo 40 (by decide) (by decide)]
  · rw [e36 7 (by decide) (by decide) (by decide)]; exact hs.2.1.2.1
  · rw [g4]; exact hs.2.2.2.2.2
  · refine ⟨fun i hi => eo i (fun e => hi (by rw [e]; decide)) (fun e => hi (by rw [e]; decide)), fun j _ _ h3 h4 h5 => e36 j h3 h4 h5, fun x _ => by rw [eo 39 (by decide) (by decide)]⟩
set_option maxRecDepth 100000 in
theorem qX11_opened {S T : Nat → Int → Int} {D : List mx_C} {B : Nat → Int} {q : Int} (h_q : 0 ≤ q ∧ q ≤ 3) {c : Nat} {cd : List (Int × Int)} {ps : List Int} {wh : Int} (hs : SY B T q c cd ps wh) (hok : okP ps) (h8 : cntO ps ≤ 8) {o : Int} (ho : (2 ≤ o ∧ o ≤ 43) ∧ isO o) : SpI yX11_opened cX11_opened 2 (some .int) 2 [.ref 36, .int (jI o)] (W5 S T D) (fun v hp' => ∃ T', hp' = W5 S T' D ∧ SGr q T T' ∧ ((cntO ps = 8 ∧ v = 3 ∧ T' = T) ∨ (¬ cntO ps = 8 ∧ v = 0 ∧ SY B T' q (lxe B c) cd (o :: ps) wh))) := by
  have hlen := okP_160 hok h8
  have hcn := cntO_nn ps
  have h17 := hs.1.2.2.2.2.2
  have h16 := hs.1.2.2.2.1
  refine Sp.of [.ref 36, .int (jI o)] (by decide) (by simp) (Nat.le_of_ble_eq_true rfl) rfl (fun E => ?_)
  refine L_a0 dX11_opened_0 ?_
  refine GW_36_17 fX11_175 dX11_opened_1 ?_
  refine J_eqi (b := cntO ps) h17 ?_
  refine J_bipush dX11_opened_4 (by decide) ?_
  refine J_icmp_ne 11 dX11_opened_6 rfl (by omega) (by omega) (fun c6 => ?_) (fun c6 => ?_)
  · refine L_a0 dX11_opened_11 ?_
    refine E_dup dX11_opened_12 rfl ?_
    refine GW_36_17 fX11_175 dX11_opened_13 ?_
    refine J_eqi (b := cntO ps) h17 ?_
    refine J_iconst dX11_opened_16 ?_
    refine J_iadd dX11_opened_17 ?_
    refine PW_36_17 fX11_175 dX11_opened_18 ?_
    refine L_a0 dX11_opened_21 ?_
    refine GW_36_15 fX11_29 dX11_opened_22 ?_
    refine L_a0 dX11_opened_25 ?_
    refine GW_36_16 fX11_165 dX11_opened_26 ?_
    refine J_eqi (b := (ps.length : Int)) (by rw [← h16]; simp [upS, up]) ?_
    refine L_i1 dX11_opened_29 ?_
    refine AS_41 dX11_opened_30 (by omega) ?_
    refine L_a0 dX11_opened_31 ?_
    refine E_dup dX11_opened_32 rfl ?_
    refine GW_36_16 fX11_165 dX11_opened_33 ?_
    refine J_eqi (b := (ps.length : Int)) (by rw [← h16]; simp [upS, up]) ?_
    refine J_iconst dX11_opened_36 ?_
    refine J_iadd dX11_opened_37 ?_
    refine PW_36_16 fX11_165 dX11_opened_38 ?_
    refine L_a0 dX11_opened_41 ?_
    have hpu := SY.push (T3 := (upS (upS (upS T 36 (up (T 36) 17 (cntO ps + 1))) 41 (up ((upS T 36 (up (T 36) 17 (cntO ps + 1))) 41) (ps.length : Int) o)) 36 (up ((upS (upS T 36 (up (T 36) 17 (cntO ps + 1))) 41 (up ((upS T 36 (up (T 36) 17 (cntO ps + 1))) 41) (ps.length : Int) o)) 36) 16 ((ps.length : Int) + 1)))) hs (o := o) (fun j h1 h2 h3 => by simp [upS, up, h1, h2]) (by simp [upS, up]) (by rw [cntO, if_pos ho.2]; simp [upS, up]) (by simp [upS]) (fun i h1 h2 => by simp [upS, h1, h2])
    have h18 : (upS (upS (upS T 36 (up (T 36) 17 (cntO ps + 1))) 41 (up ((upS T 36 (up (T 36) 17 (cntO ps + 1))) 41) (ps.length : Int) o)) 36 (up ((upS (upS T 36 (up (T 36) 17 (cntO ps + 1))) 41 (up ((upS T 36 (up (T 36) 17 (cntO ps + 1))) 41) (ps.length : Int) o)) 36) 16 ((ps.length : Int) + 1))) 36 18 = wh := by rw [← hs.2.2.1]; simp [upS, up]
    refine C_v0U vX11_185 dX11_opened_42 (qX11_nextToken (T := (upS (upS (upS T 36 (up (T 36) 17 (cntO ps + 1))) 41 (up ((upS T 36 (up (T 36) 17 (cntO ps + 1))) 41) (ps.length : Int) o)) 36 (up ((upS (upS T 36 (up (T 36) 17 (cntO ps + 1))) 41 (up ((upS T 36 (up (T 36) 17 (cntO ps + 1))) 41) (ps.length : Int) o)) 36) 16 ((ps.length : Int) + 1)))) (c := lxe B c) hpu.2.1 hpu.2.2.2.1 hpu.2.2.2.2.1) rfl rfl (Nat.le_of_ble_eq_true rfl) (by decide) (fun hp42 hq42 => ?_)
    obtain ⟨T42, rfl, hN42, hct42⟩ := hq42
    refine J_iconst dX11_opened_45 ?_
    exact RQ_i rfl dX11_opened_46 ⟨T42, rfl, hpu.2.2.2.2.2.trans hN42.sg, Or.inr ⟨c6, rfl, SY.nx hpu.1 h18 hpu.2.2.1 hpu.2.1 hpu.2.2.2.2.1 hN42 hct42⟩⟩
  · refine J_iconst dX11_opened_9 ?_
    exact RQ_i rfl dX11_opened_10 ⟨T, rfl, SGr.refl q T, Or.inl ⟨c6, rfl, rfl⟩⟩

def opK (k : Int) (ps : List Int) : Int := if k = 38 then 40 else if k = 35 then 5 else if k = 15 then 2 else if k = 16 then 4 else if k = 17 then 41 else if k = 23 ∧ akB ps = true then 20 else -1
/-- what is wrong with one that begins here; 0: nothing -/
def bgf (k v s0 : Int) (ps : List Int) : Int := if k = 2 then (if 9999 < v then 2 else 0) else if 0 ≤ nmK k then (if ofN s0 (nmK k) then 0 else 5) else if opK k ps = -1 then 1 else if cntO ps = 8 then 3 else 0
/-- the state behind it -/
def bgs (k v : Int) (cd : List (Int × Int)) (ps : List Int) : List (Int × Int) × List Int × Int := if k = 2 then ((stl 7 ps (cd ++ [(0, v)])).2, (stl 7 ps (cd ++ [(0, v)])).1, 1) else if 0 ≤ nmK k then ((stl 7 ps (cd ++ [(1, nmK k)])).2, (stl 7 ps (cd ++ [(1, nmK k)])).1, 1) else (cd, opK k ps :: ps, 0)
theorem nmK_B (k : Int) : -1 ≤ nmK k ∧ nmK k ≤ 6 := by
  unfold nmK
  repeat' split
  all_goals omega
theorem opK_ok {k : Int} {ps : List Int} (hne : ¬ opK k ps = -1) : (2 ≤ opK k ps ∧ opK k ps ≤ 43) ∧ isO (opK k ps) := by
  unfold opK at hne ⊢
  repeat' split
  all_goals first | decide | skip
  rename_i h1 h2 h3 h4 h5 h6
  rw [if_neg h1, if_neg h2, if_neg h3, if_neg h4, if_neg h5, if_neg h6] at hne
  exact absurd rfl hne
theorem bg_open {k v s0 : Int} {cd : List (Int × Int)} {ps : List Int} {o : Int} (h2 : ¬ k = 2) (hn : nmK k < 0) (ho : opK k ps = o) (hne : ¬ o = -1) : bgf k v s0 ps = (if cntO ps = 8 then 3 else 0) ∧ bgs k v cd ps = (cd, o :: ps, 0) := by
  constructor
  · unfold bgf
    rw [if_neg h2, if_neg (by omega), if_neg (by omega)]
  · unfold bgs
    rw [if_neg h2, if_neg (by omega), ho]
theorem bg_no {k v s0 : Int} {ps : List Int} (h2 : ¬ k = 2) (hn : nmK k < 0) (ho : opK k ps = -1) : bgf k v s0 ps = 1 := by
  unfold bgf
  rw [if_neg h2, if_neg (by omega), if_pos ho]
theorem bg_end {B : Nat → Int} {S T : Nat → Int → Int} {D : List mx_C} {q : Int} {c : Nat} {cd : List (Int × Int)} {ps : List Int} {wh : Int} (hs : SY B T q c cd ps wh) {o v f : Int} {T2 T4 : Nat → Int → Int} (hpf : PF q T (emT T o v)) (hN : NX (emT T o v) T2) (hct : CT (byF (emT T o v)) T2 (lxe B c)) (hp4 : PF q (upS T2 36 (up (T2 36) 18 1)) T4) (hz4 : PZ T4 q (stl 7 ps (cd ++ [(o, v)])).2 (stl 7 ps (cd ++ [(o, v)])).1) {st : List (Int × Int) × List Int × Int} (hst : st = ((stl 7 ps (cd ++ [(o, v)])).2, (stl 7 ps (cd ++ [(o, v)])).1, 1)) (hf : 0 = f) : ∃ T', W5 S T4 D = W5 S T' D ∧ SGr q T T' ∧ (0 : Int) = f ∧ ((¬ (0 : Int) = 0 ∧ T' = T) ∨ ((0 : Int) = 0 ∧ SY B T' q (lxe B c) st.1 st.2.1 st.2.2)) := by
  subst hst
  have hs1 : SY B (emT T o v) q c (cd ++ [(o, v)]) ps wh := hs.pf hpf (emT_PZ hs.1)
  have hs2 : SY B T2 q (lxe B c) (cd ++ [(o, v)]) ps wh := SY.nx hs1.1 hs1.2.2.1 hs1.2.2.2.1 hs1.2.2.2.2.1 hs1.2.2.2.2.2 hN hct
  have e : ∀ j : Int, ¬ j = 18 → upS T2 36 (up (T2 36) 18 1) 36 j = T2 36 j := fun j hj => uf36 hj
  have hct3 : CT B (upS T2 36 (up (T2 36) 18 1)) (lxe B c) := by
    unfold CT
    rw [e 8 (by decide), e 7 (by decide), e 9 (by decide), e 10 (by decide), e 11 (by decide)]
    exact hs2.2.1
  have hby3 : byF (upS T2 36 (up (T2 36) 18 1)) = B := by
    rw [← hs2.2.2.2.1]; funext k; unfold byF; rw [e 4 (by decide), upS_n (by decide)]
  have htp3 : TP (upS T2 36 (up (T2 36) 18 1)) := by
    unfold TP; rw [e 4 (by decide), upS_n (by decide)]; exact hs2.2.2.2.2.1
  exact ⟨T4, rfl, hpf.sg.trans (hN.sg.trans ((SG_18 q T2 1).trans hp4.sg)), hf, Or.inr ⟨rfl, hz4, hp4.ct hct3, by rw [hp4.2.1 18 (by decide) (by decide) (by decide), upS_s, up_s], by rw [hp4.by]; exact hby3, hp4.tp htp3, by rw [hp4.2.1 4 (by decide) (by decide) (by decide), e 4 (by decide)]; exact hs2.2.2.2.2.2⟩⟩
theorem bg_z {B : Nat → Int} {T T2 : Nat → Int → Int} {q : Int} {c : Nat} {cd : List (Int × Int)} {ps : List Int} {wh : Int} (hs : SY B T q c cd ps wh) {o v : Int} (hN : NX (emT T o v) T2) : PZ (upS T2 36 (up (T2 36) 18 1)) q (cd ++ [(o, v)]) ps := by
  have hz := hN.pz (emT_PZ (o := o) (v := v) hs.1)
  unfold PZ
  rw [uf36 (by decide), uf36 (by decide), uf36 (by decide), uf36 (by decide), upS_n (by decide), upS_n (by decide)]
  exact hz
theorem bg_fault {B : Nat → Int} {S T : Nat → Int → Int} {D : List mx_C} {q : Int} {c : Nat} {st : List (Int × Int) × List Int × Int} {v f : Int} (hv : ¬ v = 0) (hf : v = f) : ∃ T', W5 S T D = W5 S T' D ∧ SGr q T T' ∧ v = f ∧ ((¬ v = 0 ∧ T' = T) ∨ (v = 0 ∧ SY B T' q (lxe B c) st.1 st.2.1 st.2.2)) := ⟨T, rfl, SGr.refl q T, hf, Or.inl ⟨hv, rfl⟩⟩
theorem bO_39 {E : mx_E} {S T : Nat → Int → Int} {D : List mx_C} {B : Nat → Int} {q : Int} (h_q : 0 ≤ q ∧ q ≤ 3) {c : Nat} {cd : List (Int × Int)} {ps : List Int} (hs : SY B T q c cd ps 0) (hok : okP ps) (h8 : cntO ps ≤ 8) (hi : cd.length + ps.length ≤ 299) (h14 : 0 ≤ T 36 14 ∧ T 36 14 ≤ 10) (hA : lxt B c = 1 → lxn B c ≤ 9999) (hO : 0 ≤ nmK (kd B c) → ofN (T 36 14) (nmK (kd B c))) : Ev E yX11_beginOne cX11_beginOne 2 (some .int) (kI E 6 (fun v hp' => ∃ T', hp' = W5 S T' D ∧ SGr q T T' ∧ v = bgf (kd B c) (lxn B c) (T 36 14) ps ∧ ((¬ v = 0 ∧ T' = T) ∨ (v = 0 ∧ SY B T' q (lxe B c) (bgs (kd B c) (lxn B c) cd ps).1 (bgs (kd B c) (lxn B c) cd ps).2.1 (bgs (kd B c) (lxn B c) cd ps).2.2)))) 0 0 39 [.ref 36, .int (jI (nmK (kd B c)))] [] (W5 S T D) := by
  have hct := hs.2.1
  have htp := hs.2.2.2.2.1
  have hB : ∀ k, B k ≤ 255 := fun k => by rw [← hs.2.2.2.1]; exact (byF_B htp k).2
  have ht := lxt_B hB c
  have hw := lxw_B hB c
  have hnb := nmK_B (kd B c)
  have hln := lxn_B B c
  have hlen := okP_160 hok h8
  have hvo := okP_vo hok
  have h12 := hs.1.1
  have h13 := hs.1.2.1
  have hk2n : lxt B c = 1 → nmK (kd B c) = -1 := fun e => by rw [kd_2.mpr e]; decide
  refine L_a0 dX11_beginOne_39 ?_
  refine GW_36_9 fX11_114 dX11_beginOne_40 ?_
  refine J_eqi (b := lxt B c) hct.2.2.1 ?_
  refine J_iconst dX11_beginOne_43 ?_
  refine J_icmp_eq 51 dX11_beginOne_44 rfl (by omega) (by omega) (fun c44 => ?_) (fun c44 => ?_)
  · have hk2 : kd B c = 2 := kd_2.mpr c44
    have hA := hA c44
    refine L_a0 dX11_beginOne_51 ?_
    refine L_a0 dX11_beginOne_52 ?_
    refine GW_36_9 fX11_114 dX11_beginOne_53 ?_
    refine J_eqi (b := lxt B c) hct.2.2.1 ?_
    refine J_iconst dX11_beginOne_56 ?_
    refine J_icmp_ne 64 dX11_beginOne_57 rfl (by omega) (by omega) (fun c57 => ?_) (fun c57 => ?_)
    · exfalso; omega
    · refine J_iconst dX11_beginOne_60 ?_
      refine E_goto 65 dX11_beginOne_61 rfl ?_
      refine L_a0 dX11_beginOne_65 ?_
      refine GW_36_9 fX11_114 dX11_beginOne_66 ?_
      refine J_eqi (b := lxt B c) hct.2.2.1 ?_
      refine J_iconst dX11_beginOne_69 ?_
      refine J_icmp_ne 80 dX11_beginOne_70 rfl (by omega) (by omega) (fun c70 => ?_) (fun c70 => ?_)
      · exfalso; omega
      · refine L_a0 dX11_beginOne_73 ?_
        refine GW_36_10 fX11_120 dX11_beginOne_74 ?_
        refine J_eqi (b := lxn B c) (hct.2.2.2.1 (by omega)) ?_
        refine E_goto 81 dX11_beginOne_77 rfl ?_
        refine C_v2V vX11_171 dX11_beginOne_81 (qX11_emit (T := T) (o := 0) (v := (lxn B c)) (by omega) (by omega)) rfl rfl (Nat.le_of_ble_eq_true rfl) (by decide) ?_
        refine L_a0 dX11_beginOne_84 ?_
        have hpf := emT_PF (T := T) (q := q) (o := 0) (v := (lxn B c)) (cd := cd) hs.1.1 hs.1.2.1 (by omega)
        have hs1 := hs.pf hpf (emT_PZ (o := 0) (v := (lxn B c)) hs.1)
        refine C_v0U vX11_185 dX11_beginOne_85 (qX11_nextToken (T := (emT T 0 (lxn B c))) (c := lxe B c) hs1.2.2.2.2.1 hs1.2.1.2.1 hs1.2.2.2.2.2) rfl rfl (Nat.le_of_ble_eq_true rfl) (by decide) (fun hp85 hq85 => ?_)
        obtain ⟨T85, rfl, hN85, hct85⟩ := hq85
        refine L_a0 dX11_beginOne_88 ?_
        refine J_iconst dX11_beginOne_89 ?_
        refine PW_36_18 fX11_194 (by decide) dX11_beginOne_90 ?_
        refine L_a0 dX11_beginOne_93 ?_
        refine J_bipush dX11_beginOne_94 (by decide) ?_
        refine C_v1U vX11_197 dX11_beginOne_96 (qX11_settle (T := upS T85 36 (up (T85 36) 18 1)) (l := 7) h_q (by omega) hvo (bg_z hs hN85) (by rw [List.length_append]; show cd.length + 1 + ps.length ≤ 300; omega) (by omega)) rfl rfl (Nat.le_of_ble_eq_true rfl) (by decide) (fun hp96 hq96 => ?_)
        obtain ⟨T96, rfl, hp96, hz96⟩ := hq96
        refine J_iconst dX11_beginOne_99 ?_
        exact RQ_i rfl dX11_beginOne_100 (bg_end hs hpf hN85 hct85 hp96 hz96 (by unfold bgs; rw [if_pos hk2]) (by unfold bgf; rw [if_pos hk2, if_neg (by omega)]))
  · refine L_i1 dX11_beginOne_47 ?_
    refine J_if_lt 101 dX11_beginOne_48 rfl (by omega) (fun c48 => ?_) (fun c48 => ?_)
    · refine L_a0 dX11_beginOne_101 ?_
      refine GW_36_9 fX11_114 dX11_beginOne_102 ?_
      refine J_eqi (b := lxt B c) hct.2.2.1 ?_
      refine J_bipush dX11_beginOne_105 (by decide) ?_
      refine J_icmp_ne 117 dX11_beginOne_107 rfl (by omega) (by omega) (fun c107 => ?_) (fun c107 => ?_)
      · refine L_a0 dX11_beginOne_117 ?_
        refine GW_36_9 fX11_114 dX11_beginOne_118 ?_
        refine J_eqi (b := lxt B c) hct.2.2.1 ?_
        refine J_bipush dX11_beginOne_121 (by decide) ?_
        refine J_icmp_ne 132 dX11_beginOne_123 rfl (by omega) (by omega) (fun c123 => ?_) (fun c123 => ?_)
        · refine L_a0 dX11_beginOne_132 ?_
          refine J_bipush dX11_beginOne_133 (by decide) ?_
          refine J_bipush dX11_beginOne_135 (by decide) ?_
          refine J_bipush dX11_beginOne_137 (by decide) ?_
          refine J_bipush dX11_beginOne_139 (by decide) ?_
          refine J_bipush dX11_beginOne_141 (by decide) ?_
          refine J_bipush dX11_beginOne_143 (by decide) ?_
          refine C_s6F vX11_158 dX11_beginOne_145 (qX11_w6 (x := 115) (z := 116) (u := 97) (v := 110) (t := 100) (r := 115) (by decide) (by decide) (by decide) (by decide) (by decide) (by decide)) (Nat.le_of_ble_eq_true rfl) (by decide) ?_
          refine J_eql (b := 126943688025203) (by decide) ?_
          refine C_v1F vX11_203 dX11_beginOne_148 (qX11_isWord hct hB (by omega)) rfl rfl (Nat.le_of_ble_eq_true rfl) (by decide) ?_
          refine J_ifeqB 160 dX11_beginOne_151 rfl (fun c151 => ?_) (fun c151 => ?_)
          · refine L_a0 dX11_beginOne_160 ?_
            refine J_bipush dX11_beginOne_161 (by decide) ?_
            refine J_bipush dX11_beginOne_163 (by decide) ?_
            refine J_bipush dX11_beginOne_165 (by decide) ?_
            refine J_bipush dX11_beginOne_167 (by decide) ?_
            refine C_s4F vX11_144 dX11_beginOne_169 (qX11_w4 (x := 102) (z := 114) (u := 101) (v := 101) (by decide) (by decide) (by decide) (by decide)) (Nat.le_of_ble_eq_true rfl) (by decide) ?_
            refine J_eql (b := 1718773093) (by decide) ?_
            refine C_v1F vX11_203 dX11_beginOne_172 (qX11_isWord hct hB (by omega)) rfl rfl (Nat.le_of_ble_eq_true rfl) (by decide) ?_
            refine J_ifeqB 184 dX11_beginOne_175 rfl (fun c175 => ?_) (fun c175 => ?_)
            · refine L_a0 dX11_beginOne_184 ?_
              refine J_bipush dX11_beginOne_185 (by decide) ?_
              refine J_bipush dX11_beginOne_187 (by decide) ?_
              refine C_s2F vX11_136 dX11_beginOne_189 (qX11_w2 (x := 105) (z := 102) (by decide) (by decide)) (Nat.le_of_ble_eq_true rfl) (by decide) ?_
              refine J_eql (b := 26982) (by decide) ?_
              refine C_v1F vX11_203 dX11_beginOne_192 (qX11_isWord hct hB (by omega)) rfl rfl (Nat.le_of_ble_eq_true rfl) (by decide) ?_
              refine J_ifeqB 205 dX11_beginOne_195 rfl (fun c195 => ?_) (fun c195 => ?_)
              · refine L_a0 dX11_beginOne_205 ?_
                refine J_bipush dX11_beginOne_206 (by decide) ?_
                refine J_bipush dX11_beginOne_208 (by decide) ?_
                refine J_bipush dX11_beginOne_210 (by decide) ?_
                refine C_s3F vX11_140 dX11_beginOne_212 (qX11_w3 (x := 110) (z := 111) (u := 116) (by decide) (by decide) (by decide)) (Nat.le_of_ble_eq_true rfl) (by decide) ?_
                refine J_eql (b := 7237492) (by decide) ?_
                refine C_v1F vX11_203 dX11_beginOne_215 (qX11_isWord hct hB (by omega)) rfl rfl (Nat.le_of_ble_eq_true rfl) (by decide) ?_
                refine J_ifeqB 237 dX11_beginOne_218 rfl (fun c218 => ?_) (fun c218 => ?_)
                · refine J_iconst dX11_beginOne_237 ?_
                  exact RQ_i rfl dX11_beginOne_238 (by
                    refine bg_fault (by decide) (bg_no (fun e => by have := kd_2.mp e; omega) (by omega) ?_).symm
                    unfold opK
                    rw [if_neg (fun e => c107 (kd_38.mp e)), if_neg (fun e => c123 (kd_35.mp e)), if_neg (fun e => c151 (kd_15.mp e)), if_neg (fun e => c175 (kd_16.mp e)), if_neg (fun e => c195 (kd_17.mp e)), if_neg (fun e => c218 (kd_23.mp e.1))])
                · refine L_a0 dX11_beginOne_221 ?_
                  refine C_v0F vX11_207 dX11_beginOne_222 (qX11_isAskAhead hvo hs.1.2.2.2.1 hs.1.2.2.2.2.1 (by omega)) rfl rfl (Nat.le_of_ble_eq_true rfl) (by decide) ?_
                  refine J_ifeqB 237 dX11_beginOne_225 rfl (fun c225 => ?_) (fun c225 => ?_)
                  · refine J_iconst dX11_beginOne_237 ?_
                    exact RQ_i rfl dX11_beginOne_238 (by
                      refine bg_fault (by decide) (bg_no (fun e => by have := kd_2.mp e; omega) (by omega) ?_).symm
                      unfold opK
                      rw [if_neg (fun e => c107 (kd_38.mp e)), if_neg (fun e => c123 (kd_35.mp e)), if_neg (fun e => c151 (kd_15.mp e)), if_neg (fun e => c175 (kd_16.mp e)), if_neg (fun e => c195 (kd_17.mp e)), if_neg (fun e => c225 e.2)])
                  · refine L_a0 dX11_beginOne_228 ?_
                    refine J_bipush dX11_beginOne_229 (by decide) ?_
                    refine C_v1I vX11_200 dX11_beginOne_231 (qX11_opened (o := 20) h_q hs hok h8 (by decide)) rfl rfl (Nat.le_of_ble_eq_true rfl) (by decide) (fun v231 hp231 hq231 => ?_)
                    refine E_goto 238 dX11_beginOne_234 rfl ?_
                    exact RQ_i rfl dX11_beginOne_238 (by
                      obtain ⟨T', e', g', hh⟩ := hq231
                      obtain ⟨ef, es⟩ := bg_open (k := kd B c) (v := lxn B c) (s0 := T 36 14) (cd := cd) (ps := ps) (o := 20) (fun e => by have := kd_2.mp e; omega) (by omega) (by have hk : kd B c = 23 := kd_23.mpr c218; rw [hk]; simp [opK, c225]) (by decide)
                      rw [es, ef]
                      rcases hh with ⟨a, b, d⟩ | ⟨a, b, d⟩
                      · exact ⟨T', e', g', by rw [if_pos a, b], Or.inl ⟨by rw [b]; decide, d⟩⟩
                      · exact ⟨T', e', g', by rw [if_neg a, b], Or.inr ⟨b, d⟩⟩)
              · refine L_a0 dX11_beginOne_198 ?_
                refine J_bipush dX11_beginOne_199 (by decide) ?_
                refine C_v1I vX11_200 dX11_beginOne_201 (qX11_opened (o := 41) h_q hs hok h8 (by decide)) rfl rfl (Nat.le_of_ble_eq_true rfl) (by decide) (fun v201 hp201 hq201 => ?_)
                exact RQ_i rfl dX11_beginOne_204 (by
                  obtain ⟨T', e', g', hh⟩ := hq201
                  obtain ⟨ef, es⟩ := bg_open (k := kd B c) (v := lxn B c) (s0 := T 36 14) (cd := cd) (ps := ps) (o := 41) (fun e => by have := kd_2.mp e; omega) (by omega) (by have hk : kd B c = 17 := kd_17.mpr c195; rw [hk]; simp [opK]) (by decide)
                  rw [es, ef]
                  rcases hh with ⟨a, b, d⟩ | ⟨a, b, d⟩
                  · exact ⟨T', e', g', by rw [if_pos a, b], Or.inl ⟨by rw [b]; decide, d⟩⟩
                  · exact ⟨T', e', g', by rw [if_neg a, b], Or.inr ⟨b, d⟩⟩)
            · refine L_a0 dX11_beginOne_178 ?_
              refine J_iconst dX11_beginOne_179 ?_
              refine C_v1I vX11_200 dX11_beginOne_180 (qX11_opened (o := 4) h_q hs hok h8 (by decide)) rfl rfl (Nat.le_of_ble_eq_true rfl) (by decide) (fun v180 hp180 hq180 => ?_)
              exact RQ_i rfl dX11_beginOne_183 (by
                obtain ⟨T', e', g', hh⟩ := hq180
                obtain ⟨ef, es⟩ := bg_open (k := kd B c) (v := lxn B c) (s0 := T 36 14) (cd := cd) (ps := ps) (o := 4) (fun e => by have := kd_2.mp e; omega) (by omega) (by have hk : kd B c = 16 := kd_16.mpr c175; rw [hk]; simp [opK]) (by decide)
                rw [es, ef]
                rcases hh with ⟨a, b, d⟩ | ⟨a, b, d⟩
                · exact ⟨T', e', g', by rw [if_pos a, b], Or.inl ⟨by rw [b]; decide, d⟩⟩
                · exact ⟨T', e', g', by rw [if_neg a, b], Or.inr ⟨b, d⟩⟩)
          · refine L_a0 dX11_beginOne_154 ?_
            refine J_iconst dX11_beginOne_155 ?_
            refine C_v1I vX11_200 dX11_beginOne_156 (qX11_opened (o := 2) h_q hs hok h8 (by decide)) rfl rfl (Nat.le_of_ble_eq_true rfl) (by decide) (fun v156 hp156 hq156 => ?_)
            exact RQ_i rfl dX11_beginOne_159 (by
              obtain ⟨T', e', g', hh⟩ := hq156
              obtain ⟨ef, es⟩ := bg_open (k := kd B c) (v := lxn B c) (s0 := T 36 14) (cd := cd) (ps := ps) (o := 2) (fun e => by have := kd_2.mp e; omega) (by omega) (by have hk : kd B c = 15 := kd_15.mpr c151; rw [hk]; simp [opK]) (by decide)
              rw [es, ef]
              rcases hh with ⟨a, b, d⟩ | ⟨a, b, d⟩
              · exact ⟨T', e', g', by rw [if_pos a, b], Or.inl ⟨by rw [b]; decide, d⟩⟩
              · exact ⟨T', e', g', by rw [if_neg a, b], Or.inr ⟨b, d⟩⟩)
        · refine L_a0 dX11_beginOne_126 ?_
          refine J_iconst dX11_beginOne_127 ?_
          refine C_v1I vX11_200 dX11_beginOne_128 (qX11_opened (o := 5) h_q hs hok h8 (by decide)) rfl rfl (Nat.le_of_ble_eq_true rfl) (by decide) (fun v128 hp128 hq128 => ?_)
          exact RQ_i rfl dX11_beginOne_131 (by
            obtain ⟨T', e', g', hh⟩ := hq128
            obtain ⟨ef, es⟩ := bg_open (k := kd B c) (v := lxn B c) (s0 := T 36 14) (cd := cd) (ps := ps) (o := 5) (fun e => by have := kd_2.mp e; omega) (by omega) (by have hk : kd B c = 35 := kd_35.mpr c123; rw [hk]; simp [opK]) (by decide)
            rw [es, ef]
            rcases hh with ⟨a, b, d⟩ | ⟨a, b, d⟩
            · exact ⟨T', e', g', by rw [if_pos a, b], Or.inl ⟨by rw [b]; decide, d⟩⟩
            · exact ⟨T', e', g', by rw [if_neg a, b], Or.inr ⟨b, d⟩⟩)
      · refine L_a0 dX11_beginOne_110 ?_
        refine J_bipush dX11_beginOne_111 (by decide) ?_
        refine C_v1I vX11_200 dX11_beginOne_113 (qX11_opened (o := 40) h_q hs hok h8 (by decide)) rfl rfl (Nat.le_of_ble_eq_true rfl) (by decide) (fun v113 hp113 hq113 => ?_)
        exact RQ_i rfl dX11_beginOne_116 (by
          obtain ⟨T', e', g', hh⟩ := hq113
          obtain ⟨ef, es⟩ := bg_open (k := kd B c) (v := lxn B c) (s0 := T 36 14) (cd := cd) (ps := ps) (o := 40) (fun e => by have := kd_2.mp e; omega) (by omega) (by have hk : kd B c = 38 := kd_38.mpr c107; rw [hk]; simp [opK]) (by decide)
          rw [es, ef]
          rcases hh with ⟨a, b, d⟩ | ⟨a, b, d⟩
          · exact ⟨T', e', g', by rw [if_pos a, b], Or.inl ⟨by rw [b]; decide, d⟩⟩
          · exact ⟨T', e', g', by rw [if_neg a, b], Or.inr ⟨b, d⟩⟩)
    · have hk2 : ¬ kd B c = 2 := fun e => c44 (kd_2.mp e)
      have hnn : 0 ≤ nmK (kd B c) := by omega
      have hof := hO hnn
      refine L_a0 dX11_beginOne_51 ?_
      refine L_a0 dX11_beginOne_52 ?_
      refine GW_36_9 fX11_114 dX11_beginOne_53 ?_
      refine J_eqi (b := lxt B c) hct.2.2.1 ?_
      refine J_iconst dX11_beginOne_56 ?_
      refine J_icmp_ne 64 dX11_beginOne_57 rfl (by omega) (by omega) (fun c57 => ?_) (fun c57 => ?_)
      · refine J_iconst dX11_beginOne_64 ?_
        refine L_a0 dX11_beginOne_65 ?_
        refine GW_36_9 fX11_114 dX11_beginOne_66 ?_
        refine J_eqi (b := lxt B c) hct.2.2.1 ?_
        refine J_iconst dX11_beginOne_69 ?_
        refine J_icmp_ne 80 dX11_beginOne_70 rfl (by omega) (by omega) (fun c70 => ?_) (fun c70 => ?_)
        · refine L_i1 dX11_beginOne_80 ?_
          refine C_v2V vX11_171 dX11_beginOne_81 (qX11_emit (T := T) (o := 1) (v := (nmK (kd B c))) (by omega) (by omega)) rfl rfl (Nat.le_of_ble_eq_true rfl) (by decide) ?_
          refine L_a0 dX11_beginOne_84 ?_
          have hpf := emT_PF (T := T) (q := q) (o := 1) (v := (nmK (kd B c))) (cd := cd) hs.1.1 hs.1.2.1 (by omega)
          have hs1 := hs.pf hpf (emT_PZ (o := 1) (v := (nmK (kd B c))) hs.1)
          refine C_v0U vX11_185 dX11_beginOne_85 (qX11_nextToken (T := (emT T 1 (nmK (kd B c)))) (c := lxe B c) hs1.2.2.2.2.1 hs1.2.1.2.1 hs1.2.2.2.2.2) rfl rfl (Nat.le_of_ble_eq_true rfl) (by decide) (fun hp85 hq85 => ?_)
          obtain ⟨T85, rfl, hN85, hct85⟩ := hq85
          refine L_a0 dX11_beginOne_88 ?_
          refine J_iconst dX11_beginOne_89 ?_
          refine PW_36_18 fX11_194 (by decide) dX11_beginOne_90 ?_
          refine L_a0 dX11_beginOne_93 ?_
          refine J_bipush dX11_beginOne_94 (by decide) ?_
          refine C_v1U vX11_197 dX11_beginOne_96 (qX11_settle (T := upS T85 36 (up (T85 36) 18 1)) (l := 7) h_q (by omega) hvo (bg_z hs hN85) (by rw [List.length_append]; show cd.length + 1 + ps.length ≤ 300; omega) (by omega)) rfl rfl (Nat.le_of_ble_eq_true rfl) (by decide) (fun hp96 hq96 => ?_)
          obtain ⟨T96, rfl, hp96, hz96⟩ := hq96
          refine J_iconst dX11_beginOne_99 ?_
          exact RQ_i rfl dX11_beginOne_100 (bg_end hs hpf hN85 hct85 hp96 hz96 (by unfold bgs; rw [if_neg hk2, if_pos hnn]) (by unfold bgf; rw [if_neg hk2, if_pos hnn, if_pos hof]))
        · exfalso; omega
      · exfalso; omega
set_option maxRecDepth 100000 in
theorem qX11_beginOne {S T : Nat → Int → Int} {D : List mx_C} {B : Nat → Int} {q : Int} (h_q : 0 ≤ q ∧ q ≤ 3) {c : Nat} {cd : List (Int × Int)} {ps : List Int} (hs : SY B T q c cd ps 0) (hok : okP ps) (h8 : cntO ps ≤ 8) (hi : cd.length + ps.length ≤ 299) (h14 : 0 ≤ T 36 14 ∧ T 36 14 ≤ 10) : SpI yX11_beginOne cX11_beginOne 2 (some .int) 6 [.ref 36] (W5 S T D) (fun v hp' => ∃ T', hp' = W5 S T' D ∧ SGr q T T' ∧ v = bgf (kd B c) (lxn B c) (T 36 14) ps ∧ ((¬ v = 0 ∧ T' = T) ∨ (v = 0 ∧ SY B T' q (lxe B c) (bgs (kd B c) (lxn B c) cd ps).1 (bgs (kd B c) (lxn B c) cd ps).2.1 (bgs (kd B c) (lxn B c) cd ps).2.2))) := by
  have hct := hs.2.1
  have htp := hs.2.2.2.2.1
  have hB : ∀ k, B k ≤ 255 := fun k => by rw [← hs.2.2.2.1]; exact (byF_B htp k).2
  have ht := lxt_B hB c
  have hw := lxw_B hB c
  have hnb := nmK_B (kd B c)
  have hln := lxn_B B c
  have hlen := okP_160 hok h8
  have hvo := okP_vo hok
  have h12 := hs.1.1
  have h13 := hs.1.2.1
  have hk2n : lxt B c = 1 → nmK (kd B c) = -1 := fun e => by rw [kd_2.mpr e]; decide
  refine Sp.of [.ref 36, .retAddr 0] (by decide) (by simp) (Nat.le_of_ble_eq_true rfl) rfl (fun E => ?_)
  refine L_a0 dX11_beginOne_0 ?_
  refine GW_36_9 fX11_114 dX11_beginOne_1 ?_
  refine J_eqi (b := lxt B c) hct.2.2.1 ?_
  refine J_iconst dX11_beginOne_4 ?_
  refine J_icmp_ne 20 dX11_beginOne_5 rfl (by omega) (by omega) (fun c5 => ?_) (fun c5 => ?_)
  · refine L_a0 dX11_beginOne_20 ?_
    refine C_v0F vX11_188 dX11_beginOne_21 (qX11_nameOf hct hB) rfl rfl (Nat.le_of_ble_eq_true rfl) (by decide) ?_
    refine J_eqi (b := nmK (kd B c)) (nmR_kd B c) ?_
    refine S_i1 dX11_beginOne_24 (by decide) rfl ?_
    refine L_i1 dX11_beginOne_25 ?_
    refine J_if_lt 39 dX11_beginOne_26 rfl (by omega) (fun c26 => ?_) (fun c26 => ?_)
    · exact bO_39 h_q hs hok h8 hi h14 (fun e => by omega) (fun e => by first | exact c34 | (exfalso; omega))
    · refine L_a0 dX11_beginOne_29 ?_
      refine L_i1 dX11_beginOne_30 ?_
      refine C_v1F vX11_191 dX11_beginOne_31 (qX11_isOf h14 (by omega)) rfl rfl (Nat.le_of_ble_eq_true rfl) (by decide) ?_
      refine J_ifneB 39 dX11_beginOne_34 rfl (fun c34 => ?_) (fun c34 => ?_)
      · exact bO_39 h_q hs hok h8 hi h14 (fun e => by omega) (fun e => by first | exact c34 | (exfalso; omega))
      · refine J_iconst dX11_beginOne_37 ?_
        exact RQ_i rfl dX11_beginOne_38 (bg_fault (by decide) (by unfold bgf; rw [if_neg (fun e => by have := hk2n (kd_2.mp e); omega), if_pos (by omega), if_neg c34]))
  · refine L_a0 dX11_beginOne_8 ?_
    refine GW_36_10 fX11_120 dX11_beginOne_9 ?_
    refine J_eqi (b := lxn B c) (hct.2.2.2.1 (by omega)) ?_
    refine J_sipush dX11_beginOne_12 (by decide) ?_
    refine J_icmp_le 20 dX11_beginOne_15 rfl (by omega) (by omega) (fun c15 => ?_) (fun c15 => ?_)
    · refine L_a0 dX11_beginOne_20 ?_
      refine C_v0F vX11_188 dX11_beginOne_21 (qX11_nameOf hct hB) rfl rfl (Nat.le_of_ble_eq_true rfl) (by decide) ?_
      refine J_eqi (b := nmK (kd B c)) (nmR_kd B c) ?_
      refine S_i1 dX11_beginOne_24 (by decide) rfl ?_
      refine L_i1 dX11_beginOne_25 ?_
      refine J_if_lt 39 dX11_beginOne_26 rfl (by omega) (fun c26 => ?_) (fun c26 => ?_)
      · exact bO_39 h_q hs hok h8 hi h14 (fun e => by omega) (fun e => by first | exact c34 | (exfalso; omega))
      · refine L_a0 dX11_beginOne_29 ?_
        refine L_i1 dX11_beginOne_30 ?_
        refine C_v1F vX11_191 dX11_beginOne_31 (qX11_isOf h14 (by omega)) rfl rfl (Nat.le_of_ble_eq_true rfl) (by decide) ?_
        refine J_ifneB 39 dX11_beginOne_34 rfl (fun c34 => ?_) (fun c34 => ?_)
        · exact bO_39 h_q hs hok h8 hi h14 (fun e => by omega) (fun e => by first | exact c34 | (exfalso; omega))
        · refine J_iconst dX11_beginOne_37 ?_
          exact RQ_i rfl dX11_beginOne_38 (bg_fault (by decide) (by unfold bgf; rw [if_neg (fun e => by have := hk2n (kd_2.mp e); omega), if_pos (by omega), if_neg c34]))
    · refine J_iconst dX11_beginOne_18 ?_
      exact RQ_i rfl dX11_beginOne_19 (bg_fault (by decide) (by unfold bgf; rw [if_pos (kd_2.mpr c5), if_pos (by omega)]))

