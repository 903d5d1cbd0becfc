/-! ===== the reference: names, what a law says, between, tires ===== -/
section STE
variable {a nm : Int → Int} {o v : Int} {V : Int → Int} {n : Int} {B : Int → Int} {t : Int}
theorem stV_num (h : o = 0) : stV a nm o v V n B t = up V n v := by unfold stV; rw [if_pos h]
theorem stV_name (h : o = 1) : stV a nm o v V n B t = up V n (nm v) := by unfold stV; rw [if_neg (by omega), if_pos h]
theorem stV_one (h : o = 2 ∨ o = 4 ∨ o = 5) : stV a nm o v V n B t = up V (n - 1) (oneI a o (V (n - 1))) := by unfold stV; rw [if_neg (by omega), if_neg (by omega), if_neg (by omega), if_pos (by omega)]
theorem stV_two (h : 6 ≤ o ∧ o ≤ 9) : stV a nm o v V n B t = up V (n - 2) (twoI o (V (n - 2)) (V (n - 1))) := by unfold stV; rw [if_neg (by omega), if_neg (by omega), if_neg (by omega), if_neg (by omega), if_pos (by omega)]
theorem stV_hi (h : 10 ≤ o) : stV a nm o v V n B t = V := by unfold stV; rw [if_neg (by omega), if_neg (by omega), if_neg (by omega), if_neg (by omega), if_neg (by omega)]
theorem dpN_a (h : o ≤ 1) : dpN o n = n + 1 := by unfold dpN; rw [if_pos h]
theorem dpN_3 : dpN 3 n = n - 1 := by unfold dpN; rw [if_neg (by decide), if_pos rfl]
theorem dpN_one (h : o = 2 ∨ o = 4 ∨ o = 5) : dpN o n = n := by unfold dpN; rw [if_neg (by omega), if_neg (by omega), if_pos (by omega)]
theorem dpN_two (h : 6 ≤ o ∧ o ≤ 9) : dpN o n = n - 1 := by unfold dpN; rw [if_neg (by omega), if_neg (by omega), if_neg (by omega), if_pos (by omega)]
theorem dpN_ask (h : 10 ≤ o ∧ o < 20) : dpN o n = n - 2 := by unfold dpN; rw [if_neg (by omega), if_neg (by omega), if_neg (by omega), if_neg (by omega), if_pos (by omega)]
theorem dpN_log (h : 20 ≤ o) : dpN o n = n := by unfold dpN; rw [if_neg (by omega), if_neg (by omega), if_neg (by omega), if_neg (by omega), if_neg (by omega)]
theorem stB_lo (h : o < 10) : stB o V n B t = B := by unfold stB; rw [if_pos h]
theorem stB_ask (h : 10 ≤ o ∧ o < 20) : stB o V n B t = up B t (jb (askI o (V (n - 2)) (V (n - 1)))) := by unfold stB; rw [if_neg (by omega), if_pos (by omega)]
theorem stB_not (h : o = 20) : stB o V n B t = up B (t - 1) (jb (B (t - 1) = 0)) := by unfold stB; rw [if_neg (by omega), if_neg (by omega), if_pos h]
theorem stB_log (h : 20 < o) : stB o V n B t = up B (t - 2) (jb (joinI o (B (t - 2)) (B (t - 1)))) := by unfold stB; rw [if_neg (by omega), if_neg (by omega), if_neg (by omega)]
theorem dpT_a (h : o ≤ 1) : dpT o t = t := by unfold dpT; rw [if_pos h]
theorem dpT_3 (h : o = 3) : dpT o t = t - 1 := by unfold dpT; rw [if_neg (by omega), if_pos h]
theorem dpT_mid (h : o = 2 ∨ (4 ≤ o ∧ o < 10)) : dpT o t = t := by unfold dpT; rw [if_neg (by omega), if_neg (by omega), if_pos (by omega)]
theorem dpT_ask (h : 10 ≤ o ∧ o < 20) : dpT o t = t + 1 := by unfold dpT; rw [if_neg (by omega), if_neg (by omega), if_neg (by omega), if_pos (by omega)]
theorem dpT_not (h : o = 20) : dpT o t = t := by unfold dpT; rw [if_neg (by omega), if_neg (by omega), if_neg (by omega), if_neg (by omega), if_pos h]
theorem dpT_log (h : 20 < o) : dpT o t = t - 1 := by unfold dpT; rw [if_neg (by omega), if_neg (by omega), if_neg (by omega), if_neg (by omega), if_neg (by omega)]
end STE
theorem evC_congr {a nm nm' c : Int → Int} {b : Int} (hn : ∀ v, 0 ≤ v ∧ v ≤ 6 → nm v = nm' v) : ∀ (m : Nat) (i n t : Int) (V V' B B' : Int → Int), okC c b m i n t → (∀ j, 0 ≤ j ∧ j < n → V j = V' j) → (∀ j, 0 ≤ j ∧ j < t → B j = B' j) → evC a nm c b m i V n B t = evC a nm' c b m i V' n B' t := by
  intro m
  induction m with
  | zero =>
    intro i n t V V' B B' hok hV hB
    obtain ⟨h1, h2⟩ := hok
    exact hV 0 (by omega)
  | succ m ih =>
    intro i n t V V' B B' hok hV hB
    obtain ⟨hp, hok2⟩ := hok
    rw [evC, evC]
    generalize c (b + 2 * i) = o at hp hok2 ⊢
    generalize c (b + 2 * i + 1) = v at hp ⊢
    have upc : ∀ {f g : Int → Int} {N N' k x : Int}, (∀ j, 0 ≤ j ∧ j < N → f j = g j) → (∀ j, 0 ≤ j ∧ j < N' → ¬ j = k → j < N) → ∀ j, 0 ≤ j ∧ j < N' → up f k x j = up g k x j := by
      intro f g N N' k x h1 h2 j hj
      unfold up
      split
      · rfl
      · next hne => exact h1 j ⟨hj.1, h2 j hj hne⟩
    refine ih _ _ _ _ _ _ _ hok2 ?_ ?_
    · rcases hp.2.2 with h | h | h | h | h | h | h | h
      · rw [stV_num h.1, stV_num h.1, dpN_a (by omega)]; exact upc hV (by omega)
      · rw [stV_name h.1, stV_name h.1, dpN_a (by omega), hn v (by omega)]; exact upc hV (by omega)
      · obtain ⟨rfl, h⟩ := h
        rw [stV_3, stV_3, dpN_3, hB (t - 1) (by omega)]
        split
        · rw [hV (n - 1) (by omega)]
          exact upc hV (by omega)
        · exact fun j hj => hV j (by omega)
      · rw [stV_one h.1, stV_one h.1, dpN_one h.1, hV (n - 1) (by omega)]; exact upc hV (by omega)
      · rw [stV_two (by omega), stV_two (by omega), dpN_two (by omega), hV (n - 1) (by omega), hV (n - 2) (by omega)]; exact upc hV (by omega)
      · rw [stV_hi (by omega), stV_hi (by omega), dpN_ask (by omega)]; exact fun j hj => hV j (by omega)
      · rw [stV_hi (by omega), stV_hi (by omega), dpN_log (by omega)]; exact hV
      · rw [stV_hi (by omega), stV_hi (by omega), dpN_log (by omega)]; exact hV
    · rcases hp.2.2 with h | h | h | h | h | h | h | h
      · rw [stB_lo (by omega), stB_lo (by omega), dpT_a (by omega)]; exact hB
      · rw [stB_lo (by omega), stB_lo (by omega), dpT_a (by omega)]; exact hB
      · rw [stB_lo (by omega), stB_lo (by omega), dpT_3 h.1]; exact fun j hj => hB j (by omega)
      · rw [stB_lo (by omega), stB_lo (by omega), dpT_mid (by omega)]; exact hB
      · rw [stB_lo (by omega), stB_lo (by omega), dpT_mid (by omega)]; exact hB
      · rw [stB_ask (by omega), stB_ask (by omega), dpT_ask (by omega), hV (n - 1) (by omega), hV (n - 2) (by omega)]; exact upc hB (by omega)
      · rw [stB_not h.1, stB_not h.1, dpT_not h.1, hB (t - 1) (by omega)]; exact upc hB (by omega)
      · rw [stB_log (by omega), stB_log (by omega), dpT_log (by omega), hB (t - 1) (by omega), hB (t - 2) (by omega)]; exact upc hB (by omega)
theorem evC_B {a nm c : Int → Int} {b : Int} (hn : ∀ v, 0 ≤ v ∧ v ≤ 6 → -1000000 ≤ nm v ∧ nm v ≤ 1000000) : ∀ (m : Nat) (i n t : Int) (V B : Int → Int), okC c b m i n t → VB V n → -1000000 ≤ evC a nm c b m i V n B t ∧ evC a nm c b m i V n B t ≤ 1000000 := by
  intro m
  induction m with
  | zero => intro i n t V B hok hV; obtain ⟨h1, h2⟩ := hok; exact hV 0 (by omega)
  | succ m ih => intro i n t V B hok hV; rw [evC]; exact ih _ _ _ _ _ hok.2 (st_VB hn hok.1 hV)
/-- a law in the texts: clause k of text q, its code from lo to hi -/
def lwX (q k : Int) : Int := 681 * q + 1 + 3 * k
abbrev LawOk (c : Int → Int) (q k : Int) : Prop := (0 ≤ c (lwX q k + 1) ∧ c (lwX q k + 1) ≤ c (lwX q k + 2) ∧ c (lwX q k + 2) ≤ 304) ∧ okC c (681 * q + 73) (c (lwX q k + 2) - c (lwX q k + 1)).toNat (c (lwX q k + 1)) 0 0
def lwEv (a nm c : Int → Int) (q k : Int) : Int := evC a nm c (681 * q + 73) (c (lwX q k + 2) - c (lwX q k + 1)).toNat (c (lwX q k + 1)) (fun _ => 0) 0 (fun _ => 0) 0
set_option maxRecDepth 100000 in
theorem qX11_summedUp {S T : Nat → Int → Int} {D : List mx_C} (hv : MV (T 37)) (hnm : ∀ v, 0 ≤ v ∧ v ≤ 6 → -1000000 ≤ T 42 v ∧ T 42 v ≤ 1000000) {q k : Int} (h_q : 0 ≤ q ∧ q ≤ 3) (h_k : 0 ≤ k ∧ k ≤ 23) (hlaw : LawOk (T 39) q k) : Sp yX11_summedUp cX11_summedUp 10 (some .long) 6 0 0 [.ref 36, .int (jI q), .int (jI k)] (W5 S T D) (fun r' hp' => ∃ V' B', r' = some (.long (jL (lwEv (T 37) (T 42) (T 39) q k))) ∧ hp' = W5 S (upS (upS T 43 V') 44 B') D) := by
  have hl1 := hlaw.1
  have hxx : lwX q k = 681 * q + 1 + 3 * k := rfl
  refine Sp.of [.ref 36, .int (jI q), .int (jI k), .retAddr 0, .retAddr 0, .retAddr 0, .retAddr 0, .retAddr 0, .retAddr 0, .retAddr 0] (by decide) (by simp) (Nat.le_of_ble_eq_true rfl) rfl (fun E => ?_)
  refine J_sipush dX11_summedUp_0 (by decide) ?_
  refine L_i1 dX11_summedUp_3 ?_
  refine J_imul dX11_summedUp_4 ?_
  refine J_iconst dX11_summedUp_5 ?_
  refine J_iadd dX11_summedUp_6 ?_
  refine J_iconst dX11_summedUp_7 ?_
  refine L_i2 dX11_summedUp_8 ?_
  refine J_imul dX11_summedUp_9 ?_
  refine J_iadd dX11_summedUp_10 ?_
  refine J_eqi (b := lwX q k) rfl ?_
  refine S_i3 dX11_summedUp_11 (by decide) rfl ?_
  refine J_sipush dX11_summedUp_12 (by decide) ?_
  refine L_i1 dX11_summedUp_15 ?_
  refine J_imul dX11_summedUp_16 ?_
  refine J_bipush dX11_summedUp_17 (by decide) ?_
  refine J_iadd dX11_summedUp_19 ?_
  refine S_i4 dX11_summedUp_20 (by decide) rfl ?_
  refine J_iconst dX11_summedUp_22 ?_
  refine S_i5 dX11_summedUp_23 (by decide) rfl ?_
  refine J_iconst dX11_summedUp_25 ?_
  refine S_i6 dX11_summedUp_26 (by decide) rfl ?_
  refine L_a0 dX11_summedUp_28 ?_
  refine GW_36_2 fX11_16 dX11_summedUp_29 ?_
  refine L_i3 dX11_summedUp_32 ?_
  refine J_iconst dX11_summedUp_33 ?_
  refine J_iadd dX11_summedUp_34 ?_
  refine AR_39 dX11_summedUp_35 (by omega) ?_
  refine S_i7 dX11_summedUp_36 (by decide) rfl ?_
  have e : W5 S T D = W5 S (upS (upS T 43 (T 43)) 44 (T 44)) D := rfl
  rw [e]
  exact lX11_summedUp hv hnm (b := 681 * q + 73) (hi := T 39 (lwX q k + 2)) (by omega) (by omega) rfl (by omega) (T 39 (lwX q k + 2) - T 39 (lwX q k + 1)).toNat (T 39 (lwX q k + 1)) 0 0 (T 43) (T 44) _ _ (by omega) (by omega) hlaw.2 (fun j hj => by omega) (fun j hj => by omega) (evC_congr (fun _ _ => rfl) _ _ _ _ _ _ _ _ hlaw.2 (fun j hj => by omega) (fun j hj => by omega))

def md_lag (a : Int → Int) (k : Int) : Option Int := if md_ln (a (1638 + (a 6 - 1 - k))) 2 = 0 then some (md_ln (a (1638 + (a 6 - 1 - k))) 1) else none
def md_latest (a : Int → Int) : Int := lpR (md_lag a) (a 6).toNat 0 0
theorem md_ln1_B {v : Int} (h : 0 ≤ v) : 0 ≤ md_ln v 1 ∧ md_ln v 1 ≤ 8 := by
  show 0 ≤ v / 48 % 9 ∧ v / 48 % 9 ≤ 8
  omega
set_option maxRecDepth 100000 in
theorem lX11_latest {E : mx_E} {S T : Nat → Int → Int} {D : List mx_C} (hv : MV (T 37)) (hl : ML (T 37)) : ∀ (m : Nat) (k q : Int), k + m = T 37 6 → 0 ≤ k → q = T 37 6 - 1 - k → Ev E yX11_latest cX11_latest 2 (some .int) (kf E 1 (.int (jI (lpR (md_lag (T 37)) m k 0))) (W5 S T D)) 0 0 10 [.ref 36, .int (jI q)] [] (W5 S T D) := by
  intro m
  induction m with
  | zero =>
    intro k q hk hk0 hq
    have ha := hv.2
    refine L_i1 dX11_latest_10 ?_
    refine J_if_lt 36 dX11_latest_11 rfl (by omega) (fun c11 => ?_) (fun c11 => ?_)
    · refine J_iconst dX11_latest_36 ?_
      exact R_i rfl dX11_latest_37 rfl rfl
    · exfalso; omega
  | succ m ih =>
    intro k q hk hk0 hq
    have ha := hv.2
    have hln := md_ln_B (hl q (by omega))
    have hln1 := md_ln1_B (hl q (by omega))
    refine L_i1 dX11_latest_10 ?_
    refine J_if_lt 36 dX11_latest_11 rfl (by omega) (fun c11 => ?_) (fun c11 => ?_)
    · exfalso; omega
    · refine L_a0 dX11_latest_14 ?_
      refine L_i1 dX11_latest_15 ?_
      refine J_iconst dX11_latest_16 ?_
      refine C_v2F vX11_310 dX11_latest_17 (qX11_lineOf hv hl (by omega) (by omega)) rfl rfl (Nat.le_of_ble_eq_true rfl) (by decide) ?_
      refine J_if_ne 30 dX11_latest_20 rfl (by omega) (fun c20 => ?_) (fun c20 => ?_)
      · refine JI_1 dX11_latest_30 (by decide) rfl ?_
        refine E_goto 10 dX11_latest_33 rfl ?_
        subst hq
        rw [lpR, show md_lag (T 37) k = none from if_neg c20]
        exact ih (k + 1) _ (by omega) (by omega) (by omega)
      · refine L_a0 dX11_latest_23 ?_
        refine L_i1 dX11_latest_24 ?_
        refine J_iconst dX11_latest_25 ?_
        refine C_v2F vX11_310 dX11_latest_26 (qX11_lineOf hv hl (by omega) (by omega)) rfl rfl (Nat.le_of_ble_eq_true rfl) (by decide) ?_
        exact R_i rfl dX11_latest_29 rfl (by subst hq; rw [lpR, show md_lag (T 37) k = some _ from if_pos c20])

set_option maxRecDepth 100000 in
theorem qX11_latest {S T : Nat → Int → Int} {D : List mx_C} (hv : MV (T 37)) (hl : ML (T 37)) : SpF yX11_latest cX11_latest 2 (some .int) 1 [.ref 36] (W5 S T D) (.int (jI (md_latest (T 37)))) (W5 S T D) := by
  have ha := hv.2
  refine Sp.of [.ref 36, .retAddr 0] (by decide) (by simp) (Nat.le_of_ble_eq_true rfl) rfl (fun E => ?_)
  refine L_a0 dX11_latest_0 ?_
  refine GW_36_0 fX11_7 dX11_latest_1 ?_
  refine J_bipush dX11_latest_4 (by decide) ?_
  refine AB_37 dX11_latest_6 (by omega) hv.1 (fun b6 => ?_)
  refine J_iconst dX11_latest_7 ?_
  refine J_isub dX11_latest_8 ?_
  refine S_i1 dX11_latest_9 (by decide) rfl ?_
  exact lX11_latest hv hl (T 37 6).toNat 0 _ (by omega) (by omega) (by omega)

theorem md_latest_B {a : Int → Int} (hl : ML a) (h6 : 0 ≤ a 6 ∧ a 6 ≤ 25) : 0 ≤ md_latest a ∧ md_latest a ≤ 8 := by
  have key : ∀ (m : Nat) (k : Int), k + m = a 6 → 0 ≤ k → 0 ≤ lpR (md_lag a) m k 0 ∧ lpR (md_lag a) m k 0 ≤ 8 := by
    intro m
    induction m with
    | zero => intro k _ _; show (0 : Int) ≤ 0 ∧ (0 : Int) ≤ 8; decide
    | succ m ih =>
      intro k h1 h2
      rw [lpR]
      cases e : md_lag a k with
      | none => exact ih (k + 1) (by omega) (by omega)
      | some r =>
        unfold md_lag at e
        split at e
        · cases e; exact md_ln1_B (hl _ (by omega))
        · cases e
  exact key (a 6).toNat 0 (by omega) (by omega)
/-- what the names are worth for number k + 1 -/
def md_nm (a : Int → Int) (k v : Int) : Int := if v = 0 then a 4 else if v = 1 then k + 1 else if v = 2 then a 7 else if v = 3 then pc (md_standing a) else if v = 4 then a (24 + k) else if v = 5 then a (8 + k) else md_latest a
def md_nmF (a g : Int → Int) (k : Int) : Int → Int := up (up (up (up (up (up (up g 0 (a 4)) 1 (k + 1)) 2 (a 7)) 3 (pc (md_standing a))) 4 (a (24 + k))) 5 (a (8 + k))) 6 (md_latest a)
theorem md_nmF_eq {a g : Int → Int} {k v : Int} (h : 0 ≤ v ∧ v ≤ 6) : md_nmF a g k v = md_nm a k v := by
  unfold md_nmF md_nm up
  rcases (show v = 0 ∨ v = 1 ∨ v = 2 ∨ v = 3 ∨ v = 4 ∨ v = 5 ∨ v = 6 by omega) with rfl | rfl | rfl | rfl | rfl | rfl | rfl <;> simp
theorem md_nm_B {a : Int → Int} (hv : MV a) (hl : ML a) {k : Int} (hk : 0 ≤ k ∧ k ≤ 7) (v : Int) : -1000000 ≤ md_nm a k v ∧ md_nm a k v ≤ 1000000 := by
  have h1 := hv.at hk
  have h2 := hv.2
  have h3 := pc_B (md_standing a)
  have h4 := md_latest_B hl h2.2.2.2.2.2.2.1
  unfold md_nm
  split
  · omega
  · split
    · omega
    · split
      · omega
      · split
        · omega
        · split
          · omega
          · split <;> omega
set_option maxRecDepth 100000 in
theorem qX11_name {S T : Nat → Int → Int} {D : List mx_C} (hv : MV (T 37)) (hl : ML (T 37)) {k : Int} (h_k : 0 ≤ k ∧ k ≤ 7) : SpV yX11_name cX11_name 2 none 4 [.ref 36, .int (jI k)] (W5 S T D) (W5 S (upS T 42 (md_nmF (T 37) (T 42) k)) D) := by
  have hs := md_standing_B (T 37)
  refine Sp.of [.ref 36, .int (jI k)] (by decide) (by simp) (Nat.le_of_ble_eq_true rfl) rfl (fun E => ?_)
  refine L_a0 dX11_name_0 ?_
  refine GW_36_20 fX11_32 dX11_name_1 ?_
  refine J_iconst dX11_name_4 ?_
  refine L_a0 dX11_name_5 ?_
  refine GW_36_0 fX11_7 dX11_name_6 ?_
  refine J_iconst dX11_name_9 ?_
  refine AR_37 dX11_name_10 (by omega) ?_
  refine AS_42 dX11_name_11 (by omega) ?_
  refine E_eq rfl rfl rfl (show _ = W5 S (upS T 42 _) D from rfl) ?_
  refine L_a0 dX11_name_12 ?_
  refine GW_36_20 fX11_32 dX11_name_13 ?_
  refine J_iconst dX11_name_16 ?_
  refine L_i1 dX11_name_17 ?_
  refine J_iconst dX11_name_18 ?_
  refine J_iadd dX11_name_19 ?_
  refine AS_42 dX11_name_20 (by omega) ?_
  refine E_eq rfl rfl rfl (show _ = W5 S (upS T 42 (up (up (T 42) 0 (T 37 4)) 1 (k + 1))) D from rfl) ?_
  refine L_a0 dX11_name_21 ?_
  refine GW_36_20 fX11_32 dX11_name_22 ?_
  refine J_iconst dX11_name_25 ?_
  refine L_a0 dX11_name_26 ?_
  refine GW_36_0 fX11_7 dX11_name_27 ?_
  refine J_bipush dX11_name_30 (by decide) ?_
  refine AR_37 dX11_name_32 (by omega) ?_
  refine J_eqi (b := T 37 7) rfl ?_
  refine AS_42 dX11_name_33 (by omega) ?_
  refine E_eq rfl rfl rfl (show _ = W5 S (upS T 42 (up (up (up (T 42) 0 (T 37 4)) 1 (k + 1)) 2 (T 37 7))) D from rfl) ?_
  refine L_a0 dX11_name_34 ?_
  refine GW_36_20 fX11_32 dX11_name_35 ?_
  refine J_iconst dX11_name_38 ?_
  refine L_a0 dX11_name_39 ?_
  refine C_v0F vX11_301 dX11_name_40 (qX11_standingV (T := upS T 42 _) hv) rfl rfl (Nat.le_of_ble_eq_true rfl) (by decide) ?_
  refine J_eqi (b := md_standing (T 37)) rfl ?_
  refine C_s1F vX11_304 dX11_name_43 (qX11_bits (by omega)) (Nat.le_of_ble_eq_true rfl) (by decide) ?_
  refine AS_42 dX11_name_46 (by omega) ?_
  refine E_eq rfl rfl rfl (show _ = W5 S (upS T 42 (up (up (up (up (T 42) 0 (T 37 4)) 1 (k + 1)) 2 (T 37 7)) 3 (pc (md_standing (T 37))))) D from rfl) ?_
  refine L_a0 dX11_name_47 ?_
  refine GW_36_20 fX11_32 dX11_name_48 ?_
  refine J_iconst dX11_name_51 ?_
  refine L_a0 dX11_name_52 ?_
  refine GW_36_0 fX11_7 dX11_name_53 ?_
  refine J_bipush dX11_name_56 (by decide) ?_
  refine L_i1 dX11_name_58 ?_
  refine J_iadd dX11_name_59 ?_
  refine AR_37 dX11_name_60 (by omega) ?_
  refine J_eqi (b := T 37 (24 + k)) rfl ?_
  refine AS_42 dX11_name_61 (by omega) ?_
  refine E_eq rfl rfl rfl (show _ = W5 S (upS T 42 (up (up (up (up (up (T 42) 0 (T 37 4)) 1 (k + 1)) 2 (T 37 7)) 3 (pc (md_standing (T 37)))) 4 (T 37 (24 + k)))) D from rfl) ?_
  refine L_a0 dX11_name_62 ?_
  refine GW_36_20 fX11_32 dX11_name_63 ?_
  refine J_iconst dX11_name_66 ?_
  refine L_a0 dX11_name_67 ?_
  refine GW_36_0 fX11_7 dX11_name_68 ?_
  refine J_bipush dX11_name_71 (by decide) ?_
  refine L_i1 dX11_name_73 ?_
  refine J_iadd dX11_name_74 ?_
  refine AR_37 dX11_name_75 (by omega) ?_
  refine J_eqi (b := T 37 (8 + k)) rfl ?_
  refine AS_42 dX11_name_76 (by omega) ?_
  refine E_eq rfl rfl rfl (show _ = W5 S (upS T 42 (up (up (up (up (up (up (T 42) 0 (T 37 4)) 1 (k + 1)) 2 (T 37 7)) 3 (pc (md_standing (T 37)))) 4 (T 37 (24 + k))) 5 (T 37 (8 + k)))) D from rfl) ?_
  refine L_a0 dX11_name_77 ?_
  refine GW_36_20 fX11_32 dX11_name_78 ?_
  refine J_bipush dX11_name_81 (by decide) ?_
  refine L_a0 dX11_name_83 ?_
  refine C_v0F vX11_307 dX11_name_84 (qX11_latest (T := upS T 42 _) hv hl) rfl rfl (Nat.le_of_ble_eq_true rfl) (by decide) ?_
  refine J_eqi (b := md_latest (T 37)) rfl ?_
  refine AS_42 dX11_name_87 (by omega) ?_
  exact R_v rfl dX11_name_88 rfl

