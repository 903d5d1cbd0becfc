/-! ===== the reference: between, tires, joining ===== -/
def syF (c : Int → Int) (q sort : Int) : Nat → Int → Option Int
  | 0, _ => none
  | m + 1, k => if c (lwX q k) = sort then some k else syF c q sort m (k + 1)
/-- the texts: how many clauses, and each law of them fit -/
def TxOk (c : Int → Int) (n : Int) : Prop := ∀ q, 0 ≤ q ∧ q < n → (0 ≤ c (681 * q) ∧ c (681 * q) ≤ 24) ∧ ∀ k, 0 ≤ k ∧ k < c (681 * q) → (0 ≤ c (lwX q k) ∧ c (lwX q k) ≤ 6) ∧ (c (lwX q k) ≤ 1 → LawOk c q k)
def syV (a nm c : Int → Int) (q sort wo top : Int) : Int := if q < 0 then wo else match syF c q sort (c (681 * q)).toNat 0 with
  | none => wo
  | some k => heldI (lwEv a nm c q k) 0 top
theorem qX11_summedUpL {S T : Nat → Int → Int} {D : List mx_C} (hv : MV (T 37)) (hnm : ∀ v, 0 ≤ v ∧ v ≤ 6 → -1000000 ≤ T 42 v ∧ T 42 v ≤ 1000000) {q k : Int} (h_q : 0 ≤ q ∧ q ≤ 3) (h_k : 0 ≤ k ∧ k ≤ 23) (hlaw : LawOk (T 39) q k) : SpL yX11_summedUp cX11_summedUp 10 (some .long) 6 [.ref 36, .int (jI q), .int (jI k)] (W5 S T D) (fun v hp' => v = lwEv (T 37) (T 42) (T 39) q k ∧ ∃ V B, hp' = W5 S (upS (upS T 43 V) 44 B) D) := (qX11_summedUp hv hnm h_q h_k hlaw).mono (fun r hp' h => by
  obtain ⟨V, B, h1, h2⟩ := h
  exact ⟨_, h1, rfl, V, B, h2⟩)
theorem lwEv_B {a nm c : Int → Int} {q k : Int} (hnm : ∀ v, 0 ≤ v ∧ v ≤ 6 → -1000000 ≤ nm v ∧ nm v ≤ 1000000) (h : LawOk c q k) : -1000000 ≤ lwEv a nm c q k ∧ lwEv a nm c q k ≤ 1000000 := evC_B hnm _ _ _ _ _ _ h.2 (fun j hj => by omega)
set_option maxRecDepth 100000 in
theorem lX11_says {E : mx_E} {S T : Nat → Int → Int} {D : List mx_C} (hv : MV (T 37)) (hnm : ∀ v, 0 ≤ v ∧ v ≤ 6 → -1000000 ≤ T 42 v ∧ T 42 v ≤ 1000000) {q sort wo top : Int} (h_q : 0 ≤ q ∧ q ≤ 3) (h_s : sort = 0 ∨ sort = 1) (h_t : 0 ≤ top ∧ top ≤ 100) (htx : (0 ≤ T 39 (681 * q) ∧ T 39 (681 * q) ≤ 24) ∧ ∀ k, 0 ≤ k ∧ k < T 39 (681 * q) → (0 ≤ T 39 (lwX q k) ∧ T 39 (lwX q k) ≤ 6) ∧ (T 39 (lwX q k) ≤ 1 → LawOk (T 39) q k)) : ∀ (m : Nat) (k : Int), k + m = T 39 (681 * q) → 0 ≤ k → syF (T 39) q sort m k = syF (T 39) q sort (T 39 (681 * q)).toNat 0 → Ev E yX11_says cX11_says 6 (some .int) (kI E 7 (fun v hp' => v = syV (T 37) (T 42) (T 39) q sort wo top ∧ ∃ V B, hp' = W5 S (upS (upS T 43 V) 44 B) D)) 0 0 3 [.ref 36, .int (jI q), .int (jI sort), .int (jI wo), .int (jI top), .int (jI k)] [] (W5 S T D) := by
  intro m
  induction m with
  | zero =>
    intro k hk hk0 hres
    have ht1 := htx.1
    refine L_i1 dX11_says_3 ?_
    refine J_if_lt 63 dX11_says_4 rfl (by omega) (fun c4 => ?_) (fun c4 => ?_)
    · exfalso; omega
    · refine L_i5 dX11_says_7 ?_
      refine L_a0 dX11_says_9 ?_
      refine GW_36_2 fX11_16 dX11_says_10 ?_
      refine J_sipush dX11_says_13 (by decide) ?_
      refine L_i1 dX11_says_16 ?_
      refine J_imul dX11_says_17 ?_
      refine AR_39 dX11_says_18 (by omega) ?_
      refine J_icmp_ge 63 dX11_says_19 rfl (by omega) (by omega) (fun c19 => ?_) (fun c19 => ?_)
      · refine L_i3 dX11_says_63 ?_
        exact RQ_i rfl dX11_says_64 ⟨by unfold syV; rw [if_neg (by omega), ← hres]; rfl, T 43, T 44, rfl⟩
      · exfalso; omega
  | succ m ih =>
    intro k hk hk0 hres
    have ht1 := htx.1
    have hk2 := htx.2 k (by omega)
    have hxx : lwX q k = 681 * q + 1 + 3 * k := rfl
    refine L_i1 dX11_says_3 ?_
    refine J_if_lt 63 dX11_says_4 rfl (by omega) (fun c4 => ?_) (fun c4 => ?_)
    · exfalso; omega
    · refine L_i5 dX11_says_7 ?_
      refine L_a0 dX11_says_9 ?_
      refine GW_36_2 fX11_16 dX11_says_10 ?_
      refine J_sipush dX11_says_13 (by decide) ?_
      refine L_i1 dX11_says_16 ?_
      refine J_imul dX11_says_17 ?_
      refine AR_39 dX11_says_18 (by omega) ?_
      refine J_icmp_ge 63 dX11_says_19 rfl (by omega) (by omega) (fun c19 => ?_) (fun c19 => ?_)
      · exfalso; omega
      · refine L_a0 dX11_says_22 ?_
        refine GW_36_2 fX11_16 dX11_says_23 ?_
        refine J_sipush dX11_says_26 (by decide) ?_
        refine L_i1 dX11_says_29 ?_
        refine J_imul dX11_says_30 ?_
        refine J_iconst dX11_says_31 ?_
        refine J_iadd dX11_says_32 ?_
        refine J_iconst dX11_says_33 ?_
        refine L_i5 dX11_says_34 ?_
        refine J_imul dX11_says_36 ?_
        refine J_iadd dX11_says_37 ?_
        refine AR_39 dX11_says_38 (by omega) ?_
        refine J_eqi (b := T 39 (lwX q k)) rfl ?_
        refine L_i2 dX11_says_39 ?_
        refine J_icmp_ne 57 dX11_says_40 rfl (by omega) (by omega) (fun c40 => ?_) (fun c40 => ?_)
        · refine JI_5 dX11_says_57 (by decide) rfl ?_
          refine E_goto 3 dX11_says_60 rfl ?_
          rw [syF, if_neg c40] at hres
          exact ih (k + 1) (by omega) (by omega) hres
        · refine L_a0 dX11_says_43 ?_
          refine L_i1 dX11_says_44 ?_
          refine L_i5 dX11_says_45 ?_
          refine C_v2L vX11_294 dX11_says_47 (qX11_summedUpL hv hnm h_q (by omega) (hk2.2 (by omega))) rfl rfl (Nat.le_of_ble_eq_true rfl) (by decide) (fun v47 hp47 hq47 => ?_)
          obtain ⟨rfl, V47, B47, rfl⟩ := hq47
          have hlb := lwEv_B (a := T 37) hnm (hk2.2 (by omega))
          refine J_iconst dX11_says_50 ?_
          refine L_i4 dX11_says_51 ?_
          refine C_s3F vX11_297 dX11_says_53 (qX11_held (by omega) (by omega) (by omega)) (Nat.le_of_ble_eq_true rfl) (by decide) ?_
          exact RQ_i rfl dX11_says_56 ⟨by unfold syV; rw [if_neg (by omega), ← hres, syF, if_pos c40], V47, B47, rfl⟩

set_option maxRecDepth 100000 in
theorem qX11_says {S T : Nat → Int → Int} {D : List mx_C} (hv : MV (T 37)) (hnm : ∀ v, 0 ≤ v ∧ v ≤ 6 → -1000000 ≤ T 42 v ∧ T 42 v ≤ 1000000) {q sort wo top : Int} (h_q : 0 ≤ q ∧ q ≤ 3) (h_s : sort = 0 ∨ sort = 1) (h_t : 0 ≤ top ∧ top ≤ 100) (htx : (0 ≤ T 39 (681 * q) ∧ T 39 (681 * q) ≤ 24) ∧ ∀ k, 0 ≤ k ∧ k < T 39 (681 * q) → (0 ≤ T 39 (lwX q k) ∧ T 39 (lwX q k) ≤ 6) ∧ (T 39 (lwX q k) ≤ 1 → LawOk (T 39) q k)) : SpI yX11_says cX11_says 6 (some .int) 7 [.ref 36, .int (jI q), .int (jI sort), .int (jI wo), .int (jI top)] (W5 S T D) (fun v hp' => v = syV (T 37) (T 42) (T 39) q sort wo top ∧ ∃ V B, hp' = W5 S (upS (upS T 43 V) 44 B) D) := by
  have ht1 := htx.1
  refine Sp.of [.ref 36, .int (jI q), .int (jI sort), .int (jI wo), .int (jI top), .retAddr 0] (by decide) (by simp) (Nat.le_of_ble_eq_true rfl) rfl (fun E => ?_)
  refine J_iconst dX11_says_0 ?_
  refine S_i5 dX11_says_1 (by decide) rfl ?_
  exact lX11_says hv hnm h_q h_s h_t htx (T 39 (681 * q)).toNat 0 (by omega) (by omega) rfl

set_option maxRecDepth 100000 in
theorem qX11_saysN {S T : Nat → Int → Int} {D : List mx_C} {q sort wo top : Int} (h_q : -2147483648 ≤ q ∧ q < 0) : SpI yX11_says cX11_says 6 (some .int) 7 [.ref 36, .int (jI q), .int (jI sort), .int (jI wo), .int (jI top)] (W5 S T D) (fun v hp' => v = syV (T 37) (T 42) (T 39) q sort wo top ∧ ∃ V B, hp' = W5 S (upS (upS T 43 V) 44 B) D) := by
  refine Sp.of [.ref 36, .int (jI q), .int (jI sort), .int (jI wo), .int (jI top), .retAddr 0] (by decide) (by simp) (Nat.le_of_ble_eq_true rfl) rfl (fun E => ?_)
  refine J_iconst dX11_says_0 ?_
  refine S_i5 dX11_says_1 (by decide) rfl ?_
  refine L_i1 dX11_says_3 ?_
  refine J_if_lt 63 dX11_says_4 rfl (by omega) (fun c4 => ?_) (fun c4 => ?_)
  · refine L_i3 dX11_says_63 ?_
    exact RQ_i rfl dX11_says_64 ⟨by unfold syV; rw [if_pos (by omega)], T 43, T 44, rfl⟩
  · exfalso; omega

theorem qX11_saysA {S T : Nat → Int → Int} {D : List mx_C} (hv : MV (T 37)) (hnm : ∀ v, 0 ≤ v ∧ v ≤ 6 → -1000000 ≤ T 42 v ∧ T 42 v ≤ 1000000) {q sort wo top n : Int} (h_q : -1 ≤ q ∧ q < n ∧ n ≤ 4) (h_s : sort = 0 ∨ sort = 1) (h_t : 0 ≤ top ∧ top ≤ 100) (htx : TxOk (T 39) n) : SpI yX11_says cX11_says 6 (some .int) 7 [.ref 36, .int (jI q), .int (jI sort), .int (jI wo), .int (jI top)] (W5 S T D) (fun v hp' => v = syV (T 37) (T 42) (T 39) q sort wo top ∧ ∃ V B, hp' = W5 S (upS (upS T 43 V) 44 B) D) := by
  by_cases h : q < 0
  · exact qX11_saysN (by omega)
  · exact qX11_says hv hnm (by omega) h_s h_t (htx q (by omega))
def md_btw (a c : Int → Int) (q k : Int) : Int := syV a (md_nm a k) c q 0 (k + 1) 14
def md_tir (a c : Int → Int) (q k : Int) : Int := syV a (md_nm a k) c q 1 1 10
theorem syF_at {c : Int → Int} {q sort : Int} : ∀ (m : Nat) (k r : Int), syF c q sort m k = some r → (k ≤ r ∧ r < k + m) ∧ c (lwX q r) = sort := by
  intro m
  induction m with
  | zero => intro k r h; cases h
  | succ m ih =>
    intro k r h
    rw [syF] at h
    split at h
    · next hc => cases h; exact ⟨by omega, hc⟩
    · have := ih (k + 1) r h
      exact ⟨by omega, this.2⟩
theorem syV_congr {a nm nm' c : Int → Int} {q sort wo top n : Int} (hn : ∀ v, 0 ≤ v ∧ v ≤ 6 → nm v = nm' v) (h_q : q < n) (h_s : sort = 0 ∨ sort = 1) (htx : TxOk c n) : syV a nm c q sort wo top = syV a nm' c q sort wo top := by
  unfold syV
  split
  · rfl
  · next hq =>
    have h := htx q (by omega)
    cases e : syF c q sort (c (681 * q)).toNat 0 with
    | none => rfl
    | some k =>
      have hk := syF_at _ _ _ e
      have hl := (h.2 k (by omega)).2 (by omega)
      show heldI (lwEv a nm c q k) 0 top = heldI (lwEv a nm' c q k) 0 top
      unfold lwEv
      rw [evC_congr hn _ _ _ _ _ _ _ _ hl.2 (fun j hj => rfl) (fun j hj => rfl)]
theorem heldI_B {v a b : Int} (h : a ≤ b) : a ≤ heldI v a b ∧ heldI v a b ≤ b := by
  unfold heldI
  split
  · omega
  · split <;> omega
theorem syV_B {a nm c : Int → Int} {q sort wo top : Int} (ht : 0 ≤ top) (hw : 0 ≤ wo ∧ wo ≤ top) : 0 ≤ syV a nm c q sort wo top ∧ syV a nm c q sort wo top ≤ top := by
  unfold syV
  split
  · exact hw
  · split
    · exact hw
    · exact heldI_B ht
set_option maxRecDepth 100000 in
theorem qX11_betweenBy {S T : Nat → Int → Int} {D : List mx_C} (hv : MV (T 37)) (hl : ML (T 37)) {n : Int} {q k : Int} (h_q : -1 ≤ q ∧ q < n ∧ n ≤ 4) (h_k : 0 ≤ k ∧ k ≤ 7) (htx : TxOk (T 39) n) : SpI yX11_betweenBy cX11_betweenBy 3 (some .int) 8 [.ref 36, .int (jI q), .int (jI k)] (W5 S T D) (fun v hp' => v = md_btw (T 37) (T 39) q k ∧ ∃ g V B, hp' = W5 S (scr T g V B) D) := by
  refine Sp.of [.ref 36, .int (jI q), .int (jI k)] (by decide) (by simp) (Nat.le_of_ble_eq_true rfl) rfl (fun E => ?_)
  refine L_a0 dX11_betweenBy_0 ?_
  refine L_i2 dX11_betweenBy_1 ?_
  refine C_v1V vX11_313 dX11_betweenBy_2 (qX11_name hv hl h_k) rfl rfl (Nat.le_of_ble_eq_true rfl) (by decide) ?_
  refine L_a0 dX11_betweenBy_5 ?_
  refine L_i1 dX11_betweenBy_6 ?_
  refine J_iconst dX11_betweenBy_7 ?_
  refine L_i2 dX11_betweenBy_8 ?_
  refine J_iconst dX11_betweenBy_9 ?_
  refine J_iadd dX11_betweenBy_10 ?_
  refine J_bipush dX11_betweenBy_11 (by decide) ?_
  refine C_v4I vX11_316 dX11_betweenBy_13 (qX11_saysA (T := (upS T 42 (md_nmF (T 37) (T 42) k))) hv (fun v hv2 => by show -1000000 ≤ md_nmF (T 37) (T 42) k v ∧ md_nmF (T 37) (T 42) k v ≤ 1000000; rw [md_nmF_eq hv2]; exact md_nm_B hv hl h_k v) (n := n) (by omega) (by omega) (by omega) htx) rfl rfl (Nat.le_of_ble_eq_true rfl) (by decide) (fun v13 hp13 hq13 => ?_)
  obtain ⟨rfl, V13, B13, rfl⟩ := hq13
  exact RQ_i rfl dX11_betweenBy_16 ⟨syV_congr (fun v hv2 => md_nmF_eq hv2) (by omega) (Or.inl rfl) htx, _, V13, B13, rfl⟩

set_option maxRecDepth 100000 in
theorem qX11_tiresOf {S T : Nat → Int → Int} {D : List mx_C} (hv : MV (T 37)) (hl : ML (T 37)) {n : Int} {k : Int} (h_q : T 37 1 < n ∧ n ≤ 4) (h_k : 0 ≤ k ∧ k ≤ 7) (htx : TxOk (T 39) n) : SpI yX11_tiresOf cX11_tiresOf 2 (some .int) 8 [.ref 36, .int (jI k)] (W5 S T D) (fun v hp' => v = md_tir (T 37) (T 39) (T 37 1) k ∧ ∃ g V B, hp' = W5 S (scr T g V B) D) := by
  have ha := hv.2
  refine Sp.of [.ref 36, .int (jI k)] (by decide) (by simp) (Nat.le_of_ble_eq_true rfl) rfl (fun E => ?_)
  refine L_a0 dX11_tiresOf_0 ?_
  refine L_i1 dX11_tiresOf_1 ?_
  refine C_v1V vX11_313 dX11_tiresOf_2 (qX11_name hv hl h_k) rfl rfl (Nat.le_of_ble_eq_true rfl) (by decide) ?_
  refine L_a0 dX11_tiresOf_5 ?_
  refine L_a0 dX11_tiresOf_6 ?_
  refine GW_36_0 fX11_7 dX11_tiresOf_7 ?_
  refine J_iconst dX11_tiresOf_10 ?_
  refine AR_37 dX11_tiresOf_11 (by omega) ?_
  refine J_eqi (b := T 37 1) rfl ?_
  refine J_iconst dX11_tiresOf_12 ?_
  refine J_iconst dX11_tiresOf_13 ?_
  refine J_bipush dX11_tiresOf_14 (by decide) ?_
  refine C_v4I vX11_316 dX11_tiresOf_16 (qX11_saysA (T := (upS T 42 (md_nmF (T 37) (T 42) k))) hv (fun v hv2 => by show -1000000 ≤ md_nmF (T 37) (T 42) k v ∧ md_nmF (T 37) (T 42) k v ≤ 1000000; rw [md_nmF_eq hv2]; exact md_nm_B hv hl h_k v) (n := n) (by omega) (by omega) (by omega) htx) rfl rfl (Nat.le_of_ble_eq_true rfl) (by decide) (fun v16 hp16 hq16 => ?_)
  obtain ⟨rfl, V16, B16, rfl⟩ := hq16
  exact RQ_i rfl dX11_tiresOf_19 ⟨syV_congr (fun v hv2 => md_nmF_eq hv2) (by omega) (Or.inr rfl) htx, _, V16, B16, rfl⟩

