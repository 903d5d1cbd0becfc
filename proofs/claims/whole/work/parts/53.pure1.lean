/-! ===== what of the row counts: agreement; what keeps the ranges ===== -/
/-- two states agree in the row (day .. since) and in the book -/
def AgR (a b : Int → Int) : Prop := ∀ j, (4 ≤ j ∧ j < 32) ∨ (1638 ≤ j ∧ j < 1663) → a j = b j
theorem lpF_congr {α : Type} {g h : Int → α → α} {lo hi : Int} (e : ∀ k s, lo ≤ k ∧ k < hi → g k s = h k s) : ∀ (m : Nat) (k : Int) (s : α), lo ≤ k → k + m ≤ hi → lpF g m k s = lpF h m k s := by
  intro m
  induction m with
  | zero => intro k s _ _; rfl
  | succ m ih =>
    intro k s h1 h2
    rw [lpF, lpF, e k s (by omega)]
    exact ih _ _ (by omega) (by omega)
theorem lpR_congr {α : Type} {g h : Int → Option α} {lo hi : Int} (e : ∀ k, lo ≤ k ∧ k < hi → g k = h k) : ∀ (m : Nat) (k : Int) (s : α), lo ≤ k → k + m ≤ hi → lpR g m k s = lpR h m k s := by
  intro m
  induction m with
  | zero => intro k s _ _; rfl
  | succ m ih =>
    intro k s h1 h2
    rw [lpR, lpR, e k (by omega)]
    cases h k with
    | none => exact ih _ _ (by omega) (by omega)
    | some r => rfl
theorem md_standing_congr {a b : Int → Int} (h : AgR a b) : md_standing a = md_standing b := by
  refine lpF_congr (lo := 0) (hi := 8) (fun k s hk => ?_) 8 0 0 (by omega) (by omega)
  unfold md_stg md_stands
  rw [h (8 + k) (by omega)]
theorem md_taken_congr {a b : Int → Int} (h : AgR a b) : md_taken a = md_taken b := by
  refine lpF_congr (lo := 0) (hi := 8) (fun k s hk => ?_) 8 0 0 (by omega) (by omega)
  unfold md_tkg md_stands md_pl
  rw [h (8 + k) (by omega), h (16 + k) (by omega)]
theorem md_latest_congr {a b : Int → Int} (h : AgR a b) (h6 : 0 ≤ a 6 ∧ a 6 ≤ 25) : md_latest a = md_latest b := by
  have e6 := h 6 (by omega)
  unfold md_latest
  rw [← e6]
  refine lpR_congr (lo := 0) (hi := a 6) (fun k hk => ?_) _ 0 0 (by omega) (by omega)
  unfold md_lag
  rw [← e6, h (1638 + (a 6 - 1 - k)) (by omega)]
theorem md_nm_congr {a b : Int → Int} (h : AgR a b) (h6 : 0 ≤ a 6 ∧ a 6 ≤ 25) {k : Int} (hk : 0 ≤ k ∧ k ≤ 7) (v : Int) : md_nm a k v = md_nm b k v := by
  unfold md_nm
  rw [h 4 (by omega), h 7 (by omega), md_standing_congr h, h (24 + k) (by omega), h (8 + k) (by omega), md_latest_congr h h6]
theorem oneI_congr {a b : Int → Int} (h : AgR a b) (o v : Int) : oneI a o v = oneI b o v := by
  unfold oneI
  rw [h 7 (by omega), md_taken_congr h]
  have e : ((1 ≤ v ∧ v ≤ 8) ∧ md_stands a (v - 1)) = ((1 ≤ v ∧ v ≤ 8) ∧ md_stands b (v - 1)) := by
    apply propext
    refine and_congr_right (fun hv => ?_)
    unfold md_stands
    rw [h (8 + (v - 1)) (by omega)]
  have e2 : jb ((1 ≤ v ∧ v ≤ 8) ∧ md_stands a (v - 1)) = jb ((1 ≤ v ∧ v ≤ 8) ∧ md_stands b (v - 1)) := by
    unfold jb
    by_cases hh : (1 ≤ v ∧ v ≤ 8) ∧ md_stands a (v - 1)
    · rw [if_pos hh, if_pos (e ▸ hh)]
    · rw [if_neg hh, if_neg (e ▸ hh)]
  rw [e2]
theorem stV_congrA {a b : Int → Int} (h : AgR a b) (nm : Int → Int) (o v : Int) (V : Int → Int) (n : Int) (B : Int → Int) (t : Int) : stV a nm o v V n B t = stV b nm o v V n B t := by
  unfold stV
  rw [oneI_congr h]
theorem evC_congrA {a b nm c : Int → Int} (h : AgR a b) {p : Int} : ∀ (m : Nat) (i n t : Int) (V B : Int → Int), evC a nm c p m i V n B t = evC b nm c p m i V n B t := by
  intro m
  induction m with
  | zero => intro i n t V B; rfl
  | succ m ih =>
    intro i n t V B
    rw [evC, evC, stV_congrA h]
    exact ih _ _ _ _ _
theorem syV_congrA {a b nm c : Int → Int} (h : AgR a b) {q sort wo top : Int} : syV a nm c q sort wo top = syV b nm c q sort wo top := by
  unfold syV
  split
  · rfl
  · cases syF c q sort (c (681 * q)).toNat 0 with
    | none => rfl
    | some k => show heldI (lwEv a nm c q k) 0 top = heldI (lwEv b nm c q k) 0 top; unfold lwEv; rw [evC_congrA h]
theorem md_btw_congr {a b c : Int → Int} (h : AgR a b) (h6 : 0 ≤ a 6 ∧ a 6 ≤ 25) {q k : Int} (hk : 0 ≤ k ∧ k ≤ 7) : md_btw a c q k = md_btw b c q k := by
  unfold md_btw
  rw [show md_nm a k = md_nm b k from funext (md_nm_congr h h6 hk)]
  exact syV_congrA h
theorem md_tir_congr {a b c : Int → Int} (h : AgR a b) (h6 : 0 ≤ a 6 ∧ a 6 ≤ 25) {q k : Int} (hk : 0 ≤ k ∧ k ≤ 7) : md_tir a c q k = md_tir b c q k := by
  unfold md_tir
  rw [show md_nm a k = md_nm b k from funext (md_nm_congr h h6 hk)]
  exact syV_congrA h
/-! what a second place is -/
def md_sc2 (a : Int → Int) (s p : Int) : Int := if s < a 7 ∧ ¬ md_taken a / 2 ^ p.toNat % 2 = 1 ∧ ¬ md_taken a / 2 ^ s.toNat % 2 = 1 then s else -1
def md_sec (a c : Int → Int) (k p : Int) : Int := if (0 ≤ k ∧ k ≤ 7) ∧ a (8 + k) = -1 ∧ (0 ≤ p ∧ p ≤ 15) then md_sc2 a (p + md_btw a c (a 1) k + 1) p else -1
theorem md_sec_congr {a b c : Int → Int} (h : AgR a b) (h1 : a 1 = b 1) (h6 : 0 ≤ a 6 ∧ a 6 ≤ 25) {k p : Int} : md_sec a c k p = md_sec b c k p := by
  unfold md_sec
  by_cases hk : 0 ≤ k ∧ k ≤ 7
  · unfold md_sc2
    rw [h (8 + k) (by omega), h 7 (by omega), md_taken_congr h, h1, md_btw_congr h h6 hk]
  · rw [if_neg (by omega), if_neg (by omega)]
theorem md_btw_B {a c : Int → Int} {q k : Int} (hk : 0 ≤ k ∧ k ≤ 7) : 0 ≤ md_btw a c q k ∧ md_btw a c q k ≤ 14 := syV_B (by omega) (by omega)
theorem md_tir_B {a c : Int → Int} {q k : Int} : 0 ≤ md_tir a c q k ∧ md_tir a c q k ≤ 10 := syV_B (by omega) (by omega)
theorem md_sec_B {a c : Int → Int} {k p : Int} (h : ¬ md_sec a c k p = -1) : (0 ≤ k ∧ k ≤ 7) ∧ a (8 + k) = -1 ∧ (0 ≤ p ∧ p ≤ 15) ∧ p < md_sec a c k p ∧ md_sec a c k p < a 7 := by
  unfold md_sec at h ⊢
  split at h
  · next h2 =>
    rw [if_pos h2]
    unfold md_sc2 at h ⊢
    split at h
    · next h3 =>
      rw [if_pos h3]
      have := md_btw_B (a := a) (c := c) (q := a 1) h2.1
      omega
    · exact absurd rfl h
  · exact absurd rfl h
theorem md_sec_R {a c : Int → Int} (h7 : a 7 ≤ 16) (k p : Int) : -1 ≤ md_sec a c k p ∧ md_sec a c k p ≤ 15 := by
  by_cases h : md_sec a c k p = -1
  · omega
  · have := md_sec_B h; omega
/-! keeping the ranges -/
theorem MV_of {a b : Int → Int} (hv : MV a) (hb : Bd b) (e0 : b 0 = a 0) (e1 : b 1 = a 1) (e2 : 0 ≤ b 2 ∧ b 2 ≤ 30) (e3 : b 3 = a 3) (e4 : 0 ≤ b 4 ∧ b 4 ≤ 9999) (e5 : 0 ≤ b 5 ∧ b 5 < 31019) (e6 : 0 ≤ b 6 ∧ b 6 ≤ 25) (e7 : 1 ≤ b 7 ∧ b 7 ≤ 16) (ek : ∀ k, 0 ≤ k ∧ k ≤ 7 → (-1 ≤ b (8 + k) ∧ b (8 + k) ≤ 15) ∧ (-1 ≤ b (16 + k) ∧ b (16 + k) ≤ 15) ∧ (0 ≤ b (8 + k) → b (8 + k) < b (16 + k) ∧ b (16 + k) < b 7) ∧ (0 ≤ b (24 + k) ∧ b (24 + k) ≤ 99)) : MV b := by
  have h := hv.2
  exact ⟨hb, by omega, by omega, e2, by omega, e4, e5, e6, e7, ek⟩
theorem MV_row {a b : Int → Int} (hv : MV a) (hb : Bd b) (e : ∀ j, 0 ≤ j ∧ j < 32 → ¬ j = 2 → b j = a j) (e2 : 0 ≤ b 2 ∧ b 2 ≤ 30) : MV b := by
  have h := hv.2
  refine MV_of hv hb (e 0 (by omega) (by omega)) (e 1 (by omega) (by omega)) e2 (e 3 (by omega) (by omega)) (by rw [e 4 (by omega) (by omega)]; omega) (by rw [e 5 (by omega) (by omega)]; omega) (by rw [e 6 (by omega) (by omega)]; omega) (by rw [e 7 (by omega) (by omega)]; omega) (fun k hk => ?_)
  rw [e (8 + k) (by omega) (by omega), e (16 + k) (by omega) (by omega), e (24 + k) (by omega) (by omega), e 7 (by omega) (by omega)]
  exact hv.at hk
theorem kp_fin_at {b : Int → Int} (h2 : 0 ≤ b 2 ∧ b 2 ≤ 29) {j : Int} (hj : ¬ j = 2) (h : j < 48 ∨ 1638 ≤ j) : kp_fin b j = b j := by
  unfold kp_fin
  have e : kp_x b = 48 + 53 * b 2 := rfl
  rw [up_n hj, blit_n _ (by omega), blit_n _ (by omega)]
theorem md_keep_at {a : Int → Int} (h2 : 0 ≤ a 2 ∧ a 2 ≤ 30) {j : Int} (hj : ¬ j = 2) (h : j < 48 ∨ 1638 ≤ j) : md_keep a j = a j := by
  unfold md_keep
  split
  · rw [kp_fin_at (by rw [up_s]; omega) hj h, up_n hj, blit_n _ (by omega)]
  · exact kp_fin_at (by omega) hj h
theorem md_keep_2b {a : Int → Int} (h2 : 0 ≤ a 2 ∧ a 2 ≤ 30) : md_keep a 2 = if a 2 = 30 then 30 else a 2 + 1 := by
  unfold md_keep
  split
  · unfold kp_fin; rw [up_s, up_s]; rfl
  · unfold kp_fin; rw [up_s]
theorem md_keep_Bd {a : Int → Int} (h : Bd a) (h2 : 0 ≤ a 2 ∧ a 2 ≤ 30) : Bd (md_keep a) := by
  unfold md_keep
  split
  · unfold kp_fin
    exact Bd_up (Bd_blit (Bd_blit (Bd_up (Bd_blit h _ _ _) (by omega)) _ _ _) _ _ _) (by rw [up_s]; omega)
  · unfold kp_fin
    exact Bd_up (Bd_blit (Bd_blit h _ _ _) _ _ _) (by omega)
theorem md_keep_L {a : Int → Int} (hv : MV a) (hl : ML a) : ML (md_keep a) := by
  intro q hq
  rw [md_keep_at hv.2.2.2.1 (by omega) (by omega)]
  exact hl q hq
theorem AgR_keep {a : Int → Int} (h2 : 0 ≤ a 2 ∧ a 2 ≤ 30) : AgR (md_keep a) a := fun j hj => md_keep_at h2 (by omega) (by omega)
/-- a line written -/
theorem md_wl_B {a : Int → Int} (hv : MV a) {k q : Int} (hk : 0 ≤ k ∧ k ≤ 7) (hq : 0 ≤ q ∧ q ≤ 2) : -1 ≤ a (8 + k) ∧ 0 ≤ md_wl a k q ∧ md_wl a k q < 2147483648 := by
  have h := hv.at hk
  have h2 := hv.2
  unfold md_wl
  omega
theorem Bd_sh {a : Int → Int} (h : Bd a) (k : Int) : Bd (md_sh a k) := by
  intro q
  unfold md_sh
  split
  · exact h _
  · exact h _
theorem md_write_at {a : Int → Int} (h6 : 0 ≤ a 6 ∧ a 6 ≤ 25) {k q j : Int} (hj : ¬ j = 6) (h : j < 1638 ∨ 1663 ≤ j) : md_write a k q j = a j := by
  unfold md_write
  split
  · rw [up_n hj, up_n (by omega), up_n hj]
    unfold md_sh
    rw [if_neg (by omega)]
  · rw [up_n hj, up_n (by omega)]
theorem md_write_6 {a : Int → Int} {k q : Int} : md_write a k q 6 = if a 6 = 25 then 25 else a 6 + 1 := by
  unfold md_write
  split
  · rw [up_s]
  · rw [up_s]
theorem md_write_Bd {a : Int → Int} (hv : MV a) {k q : Int} (hk : 0 ≤ k ∧ k ≤ 7) (hq : 0 ≤ q ∧ q ≤ 2) : Bd (md_write a k q) := by
  have hw := md_wl_B hv hk hq
  have h6 := hv.2.2.2.2.2.2.2.1
  unfold md_write
  split
  · exact Bd_up (Bd_up (Bd_up (Bd_sh hv.1 _) (by omega)) (by omega)) (by omega)
  · exact Bd_up (Bd_up hv.1 (by omega)) (by omega)
theorem md_write_V {a : Int → Int} (hv : MV a) {k q : Int} (hk : 0 ≤ k ∧ k ≤ 7) (hq : 0 ≤ q ∧ q ≤ 2) : MV (md_write a k q) := by
  have h6 := hv.2.2.2.2.2.2.2.1
  have h := hv.2
  have e : ∀ j, 0 ≤ j ∧ j < 32 → ¬ j = 6 → md_write a k q j = a j := fun j hj hn => md_write_at h6 hn (by omega)
  refine MV_of hv (md_write_Bd hv hk hq) (e 0 (by omega) (by omega)) (e 1 (by omega) (by omega)) (by rw [e 2 (by omega) (by omega)]; omega) (e 3 (by omega) (by omega)) (by rw [e 4 (by omega) (by omega)]; omega) (by rw [e 5 (by omega) (by omega)]; omega) (by rw [md_write_6]; split <;> omega) (by rw [e 7 (by omega) (by omega)]; omega) (fun n hn => ?_)
  rw [e (8 + n) (by omega) (by omega), e (16 + n) (by omega) (by omega), e (24 + n) (by omega) (by omega), e 7 (by omega) (by omega)]
  exact hv.at hn
theorem md_write_L {a : Int → Int} (hv : MV a) (hl : ML a) {k q : Int} (hk : 0 ≤ k ∧ k ≤ 7) (hq : 0 ≤ q ∧ q ≤ 2) : ML (md_write a k q) := by
  have hw := md_wl_B hv hk hq
  have h6 := hv.2.2.2.2.2.2.2.1
  intro n hn
  unfold md_write
  split
  · rw [up_n (by omega)]
    by_cases h : 1638 + n = 1662
    · rw [h, up_s]; omega
    · rw [up_n h, up_n (by omega)]
      unfold md_sh
      rw [if_pos (by omega), show 1638 + n + 1 = 1638 + (n + 1) by omega]
      exact hl _ (by omega)
  · rw [up_n (by omega)]
    by_cases h : 1638 + n = 1638 + a 6
    · rw [h, up_s]; omega
    · rw [up_n h]; exact hl n hn
/-- the three of a number set anew -/
theorem MV_gone {a : Int → Int} (hv : MV a) {k : Int} (hk : 0 ≤ k ∧ k ≤ 7) : MV (up (up (up a (8 + k) (-1)) (16 + k) (-1)) (24 + k) 0) := by
  have h := hv.2
  have e : ∀ q, ¬ q = 8 + k → ¬ q = 16 + k → ¬ q = 24 + k → (up (up (up a (8 + k) (-1)) (16 + k) (-1)) (24 + k) 0) q = a q := fun q u v w => by rw [up_n w, up_n v, up_n u]
  refine MV_of hv (Bd_up (Bd_up (Bd_up hv.1 (by omega)) (by omega)) (by omega)) (e 0 (by omega) (by omega) (by omega)) (e 1 (by omega) (by omega) (by omega)) (by rw [e 2 (by omega) (by omega) (by omega)]; omega) (e 3 (by omega) (by omega) (by omega)) (by rw [e 4 (by omega) (by omega) (by omega)]; omega) (by rw [e 5 (by omega) (by omega) (by omega)]; omega) (by rw [e 6 (by omega) (by omega) (by omega)]; omega) (by rw [e 7 (by omega) (by omega) (by omega)]; omega) (fun n hn => ?_)
  rw [e 7 (by omega) (by omega) (by omega)]
  by_cases hnk : n = k
  · subst hnk
    rw [up_s, up_n (k := 24 + n) (j := 8 + n) (by omega), up_n (k := 16 + n) (j := 8 + n) (by omega), up_s, up_n (k := 24 + n) (j := 16 + n) (by omega), up_s]
    omega
  · rw [e (8 + n) (by omega) (by omega) (by omega), e (16 + n) (by omega) (by omega) (by omega), e (24 + n) (by omega) (by omega) (by omega)]
    exact hv.at hn
theorem MV_came {a : Int → Int} (hv : MV a) {k x z : Int} (hk : 0 ≤ k ∧ k ≤ 7) (hx : 0 ≤ x ∧ x < z ∧ z < a 7) : MV (up (up (up a (8 + k) x) (16 + k) z) (24 + k) 0) := by
  have h := hv.2
  have e : ∀ q, ¬ q = 8 + k → ¬ q = 16 + k → ¬ q = 24 + k → (up (up (up a (8 + k) x) (16 + k) z) (24 + k) 0) q = a q := fun q u v w => by rw [up_n w, up_n v, up_n u]
  refine MV_of hv (Bd_up (Bd_up (Bd_up hv.1 (by omega)) (by omega)) (by omega)) (e 0 (by omega) (by omega) (by omega)) (e 1 (by omega) (by omega) (by omega)) (by rw [e 2 (by omega) (by omega) (by omega)]; omega) (e 3 (by omega) (by omega) (by omega)) (by rw [e 4 (by omega) (by omega) (by omega)]; omega) (by rw [e 5 (by omega) (by omega) (by omega)]; omega) (by rw [e 6 (by omega) (by omega) (by omega)]; omega) (by rw [e 7 (by omega) (by omega) (by omega)]; omega) (fun n hn => ?_)
  rw [e 7 (by omega) (by omega) (by omega)]
  by_cases hnk : n = k
  · subst hnk
    rw [up_s, up_n (k := 24 + n) (j := 8 + n) (by omega), up_n (k := 16 + n) (j := 8 + n) (by omega), up_s, up_n (k := 24 + n) (j := 16 + n) (by omega), up_s]
    omega
  · rw [e (8 + n) (by omega) (by omega) (by omega), e (16 + n) (by omega) (by omega) (by omega), e (24 + n) (by omega) (by omega) (by omega)]
    exact hv.at hn
theorem ML_up {a : Int → Int} (hl : ML a) {k x : Int} (h : k < 1638 ∨ 1663 ≤ k) : ML (up a k x) := fun q hq => by rw [up_n (by omega)]; exact hl q hq
theorem md_leave_V {a : Int → Int} (hv : MV a) {k q : Int} (hk : 0 ≤ k ∧ k ≤ 7) (hq : 0 ≤ q ∧ q ≤ 2) : MV (md_leave a k q) := MV_gone (md_write_V hv hk hq) hk
theorem md_leave_L {a : Int → Int} (hv : MV a) (hl : ML a) {k q : Int} (hk : 0 ≤ k ∧ k ≤ 7) (hq : 0 ≤ q ∧ q ≤ 2) : ML (md_leave a k q) := ML_up (ML_up (ML_up (md_write_L hv hl hk hq) (by omega)) (by omega)) (by omega)
def md_join (a c : Int → Int) (k p : Int) : Int → Int := md_write (up (up (up a (8 + k) p) (16 + k) (md_sec a c k p)) (24 + k) 0) k 0
theorem md_join_V {a c : Int → Int} (hv : MV a) {k p : Int} (h : ¬ md_sec a c k p = -1) : MV (md_join a c k p) := by
  have hb := md_sec_B h
  exact md_write_V (MV_came hv hb.1 (by omega)) hb.1 (by omega)
theorem md_join_L {a c : Int → Int} (hv : MV a) (hl : ML a) {k p : Int} (h : ¬ md_sec a c k p = -1) : ML (md_join a c k p) := by
  have hb := md_sec_B h
  exact md_write_L (MV_came hv hb.1 (by omega)) (ML_up (ML_up (ML_up hl (by omega)) (by omega)) (by omega)) hb.1 (by omega)
/-! frames -/
def Fr (l : List Nat) (T T' : Nat → Int → Int) : Prop := ∀ i, i ∉ l → T' i = T i
theorem Fr.refl (l : List Nat) (T : Nat → Int → Int) : Fr l T T := fun _ _ => rfl
theorem Fr.trans {l : List Nat} {T T1 T2 : Nat → Int → Int} (h1 : Fr l T T1) (h2 : Fr l T1 T2) : Fr l T T2 := fun i hi => (h2 i hi).trans (h1 i hi)
theorem Fr.mono {l l' : List Nat} {T T1 : Nat → Int → Int} (h1 : Fr l T T1) (h : ∀ i, i ∈ l → i ∈ l') : Fr l' T T1 := fun i hi => h1 i (fun hh => hi (h i hh))
theorem Fr_up {l : List Nat} (T : Nat → Int → Int) {i : Nat} (g : Int → Int) (h : i ∈ l) : Fr l T (upS T i g) := fun j hj => upS_n (fun e => hj (e ▸ h))
theorem Fr_scr (T : Nat → Int → Int) (g V B : Int → Int) : Fr [42, 43, 44] T (scr T g V B) := (Fr_up T g (by decide)).trans ((Fr_up _ V (by decide)).trans (Fr_up _ B (by decide)))
/-- what holds of the reference at each call's end -/
def MI (T : Nat → Int → Int) : Prop := MV (T 37) ∧ ML (T 37) ∧ TxOk (T 39) (T 37 0)
theorem MI.congr {T T' : Nat → Int → Int} (h : MI T) (e37 : T' 37 = T 37) (e39 : T' 39 = T 39) : MI T' := by
  unfold MI
  rw [e37, e39]
  exact h
theorem MI.row {T T' : Nat → Int → Int} (h : MI T) {b : Int → Int} (e37 : T' 37 = b) (e39 : T' 39 = T 39) (hv : MV b) (hl : ML b) (h0 : b 0 = T 37 0) : MI T' := by
  unfold MI
  rw [e37, e39, h0]
  exact ⟨hv, hl, h.2.2⟩
