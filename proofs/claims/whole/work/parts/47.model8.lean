/-! ===== the reference: bits from below and above, room, places ===== -/
def lowF (s : Int) : Nat → Int → Int
  | 0, p => p
  | m + 1, p => if s / 2 ^ p.toNat % 2 = 1 then p else lowF s m (p + 1)
def topF (s : Int) : Nat → Int
  | 0 => 0
  | n + 1 => if s / 2 ^ n % 2 = 1 then (n : Int) + 1 else topF s n
set_option maxRecDepth 100000 in
theorem lX11_lowest {E : mx_E} {hp : List mx_C} {s b : Int} (h_s : 0 ≤ s ∧ s < 2147483648) (h_b : b ≤ 30) (hbit : s / 2 ^ b.toNat % 2 = 1) : ∀ (m : Nat) (p : Int), p + m = 31 → 0 ≤ p → p ≤ b → Ev E yX11_lowest cX11_lowest 2 (some .int) (kf E 1 (.int (jI (lowF s m p))) hp) 0 0 2 [.int (jI s), .int (jI p)] [] hp := by
  intro m
  induction m with
  | zero =>
    intro p hp1 hp0 hpb
    exfalso; omega
  | succ m ih =>
    intro p hp1 hp0 hpb
    refine L_i0 dX11_lowest_2 ?_
    refine L_i1 dX11_lowest_3 ?_
    refine C_s2F vX11_251 dX11_lowest_4 (qX11_has (by omega) (by omega)) (Nat.le_of_ble_eq_true rfl) (by decide) ?_
    refine J_ifneB 16 dX11_lowest_7 rfl (fun c7 => ?_) (fun c7 => ?_)
    · refine L_i1 dX11_lowest_16 ?_
      exact R_i rfl dX11_lowest_17 rfl (by rw [lowF, if_pos c7])
    · refine JI_1 dX11_lowest_10 (by decide) rfl ?_
      refine E_goto 2 dX11_lowest_13 rfl ?_
      rw [lowF, if_neg c7]
      exact ih (p + 1) (by omega) (by omega) (by rcases Int.lt_or_eq_of_le hpb with h | h; omega; subst h; exact absurd hbit c7)

set_option maxRecDepth 100000 in
theorem qX11_lowest {hp : List mx_C} {s b : Int} (h_s : 0 ≤ s ∧ s < 2147483648) (h_b : 0 ≤ b ∧ b ≤ 30) (hbit : s / 2 ^ b.toNat % 2 = 1) : SpF yX11_lowest cX11_lowest 2 (some .int) 1 [.int (jI s)] hp (.int (jI (lowF s 31 0))) hp := by
  refine Sp.of [.int (jI s), .retAddr 0] (by decide) (by simp) (Nat.le_of_ble_eq_true rfl) rfl (fun E => ?_)
  refine J_iconst dX11_lowest_0 ?_
  refine S_i1 dX11_lowest_1 (by decide) rfl ?_
  exact lX11_lowest h_s h_b.2 hbit 31 0 (by omega) (by omega) h_b.1

theorem topF_B (s : Int) : ∀ n : Nat, 0 ≤ topF s n ∧ topF s n ≤ n := by
  intro n
  induction n with
  | zero => exact ⟨Int.le_refl 0, Int.le_refl 0⟩
  | succ n ih =>
    rw [topF]
    split <;> omega
def md_spr (s t : Int) : Int := if t = 0 then 0 else t - lowF s 31 0
set_option maxRecDepth 100000 in
theorem tX11_spread {E : mx_E} {S T : Nat → Int → Int} {D : List mx_C} {s t : Int} (h_s : 0 ≤ s ∧ s < 65536) (h_t : 0 ≤ t ∧ t ≤ 16) (hb : 0 < t → s / 2 ^ (t - 1).toNat % 2 = 1) : Ev E yX11_spread cX11_spread 3 (some .int) (kf E 4 (.int (jI (md_spr s t))) (W5 S T D)) 0 0 28 [.ref 36, .int (jI s), .int (jI t)] [] (W5 S T D) := by
  refine L_i2 dX11_spread_28 ?_
  refine J_if_ne 36 dX11_spread_29 rfl (by omega) (fun c29 => ?_) (fun c29 => ?_)
  · refine L_i2 dX11_spread_36 ?_
    refine L_i1 dX11_spread_37 ?_
    refine C_s1F vX11_395 dX11_spread_38 (qX11_lowest (b := t - 1) (by omega) (by omega) (hb (by omega))) (Nat.le_of_ble_eq_true rfl) (by decide) ?_
    refine J_isub dX11_spread_41 ?_
    exact R_i rfl dX11_spread_42 rfl (by unfold md_spr; split <;> first | rfl | omega)
  · refine J_iconst dX11_spread_32 ?_
    refine E_goto 42 dX11_spread_33 rfl ?_
    exact R_i rfl dX11_spread_42 rfl (by unfold md_spr; split <;> first | rfl | omega)

set_option maxRecDepth 100000 in
theorem lX11_spread {E : mx_E} {S T : Nat → Int → Int} {D : List mx_C} {s : Int} (h_s : 0 ≤ s ∧ s < 65536) : ∀ n : Nat, n ≤ 16 → Ev E yX11_spread cX11_spread 3 (some .int) (kf E 4 (.int (jI (md_spr s (topF s n)))) (W5 S T D)) 0 0 8 [.ref 36, .int (jI s), .int (jI (n : Int))] [] (W5 S T D) := by
  intro n
  induction n with
  | zero =>
    intro hn
    refine L_i2 dX11_spread_8 ?_
    refine J_if_le 28 dX11_spread_9 rfl (by omega) (fun c9 => ?_) (fun c9 => ?_)
    · exact tX11_spread h_s (t := 0) (by omega) (fun h => by omega)
    · exfalso; omega
  | succ n ih =>
    intro hn
    have ih := ih (by omega)
    refine E_eq (lv' := [.ref 36, .int (jI s), .int (jI ((n : Int) + 1))]) rfl (by rfl) rfl rfl ?_
    refine L_i2 dX11_spread_8 ?_
    refine J_if_le 28 dX11_spread_9 rfl (by omega) (fun c9 => ?_) (fun c9 => ?_)
    · exfalso; omega
    · refine L_i1 dX11_spread_12 ?_
      refine L_i2 dX11_spread_13 ?_
      refine J_iconst dX11_spread_14 ?_
      refine J_isub dX11_spread_15 ?_
      refine C_s2F vX11_251 dX11_spread_16 (qX11_has (by omega) (by omega)) (Nat.le_of_ble_eq_true rfl) (by decide) ?_
      refine J_ifneB 28 dX11_spread_19 rfl (fun c19 => ?_) (fun c19 => ?_)
      · rw [topF, if_pos (by rw [show ((n : Int) + 1 - 1).toNat = n by omega] at c19; exact c19)]
        exact tX11_spread h_s (t := (n : Int) + 1) (by omega) (fun _ => c19)
      · refine JI_2 dX11_spread_22 (by decide) rfl ?_
        refine E_goto 8 dX11_spread_25 rfl ?_
        rw [topF, if_neg (by rw [show ((n : Int) + 1 - 1).toNat = n by omega] at c19; exact c19)]
        exact E_eq rfl (by rw [show ((n : Int) + 1 + -1) = (n : Int) by omega]) rfl rfl ih

def md_spread (a : Int → Int) : Int := md_spr (md_taken a) (topF (md_taken a) 16)
set_option maxRecDepth 100000 in
theorem qX11_spread {S T : Nat → Int → Int} {D : List mx_C} (hv : MV (T 37)) : SpF yX11_spread cX11_spread 3 (some .int) 4 [.ref 36] (W5 S T D) (.int (jI (md_spread (T 37)))) (W5 S T D) := by
  have ht := md_taken_B hv
  refine Sp.of [.ref 36, .retAddr 0, .retAddr 0] (by decide) (by simp) (Nat.le_of_ble_eq_true rfl) rfl (fun E => ?_)
  refine L_a0 dX11_spread_0 ?_
  refine C_v0F vX11_275 dX11_spread_1 (qX11_taken hv) rfl rfl (Nat.le_of_ble_eq_true rfl) (by decide) ?_
  refine S_i1 dX11_spread_4 (by decide) rfl ?_
  refine J_bipush dX11_spread_5 (by decide) ?_
  refine S_i2 dX11_spread_7 (by decide) rfl ?_
  exact lX11_spread ht 16 (by omega)

def md_rn (s p n : Int) : Int := if s / 2 ^ p.toNat % 2 = 1 then 0 else n + 1
def md_rmg (s p : Int) (x : Int × Int) : Int × Int := (if x.1 < md_rn s p x.2 then md_rn s p x.2 else x.1, md_rn s p x.2)
def md_room (a : Int → Int) : Int := (lpF (md_rmg (md_taken a)) (a 7).toNat 0 (0, 0)).1
set_option maxRecDepth 100000 in
theorem lX11_room {E : mx_E} {S T : Nat → Int → Int} {D : List mx_C} (hv : MV (T 37)) : ∀ (m : Nat) (p q n : Int), p + m = T 37 7 → 0 ≤ p → (0 ≤ q ∧ q ≤ p) → (0 ≤ n ∧ n ≤ p) → Ev E yX11_room cX11_room 4 (some .int) (kf E 4 (.int (jI (lpF (md_rmg (md_taken (T 37))) m p (q, n)).1)) (W5 S T D)) 0 0 6 [.ref 36, .int (jI q), .int (jI n), .int (jI p)] [] (W5 S T D) := by
  intro m
  induction m with
  | zero =>
    intro p q n hp hp0 hq hn
    have ha := hv.2
    refine L_i3 dX11_room_6 ?_
    refine L_a0 dX11_room_7 ?_
    refine GW_36_0 fX11_7 dX11_room_8 ?_
    refine J_bipush dX11_room_11 (by decide) ?_
    refine AB_37 dX11_room_13 (by omega) hv.1 (fun b13 => ?_)
    refine J_icmp_ge 53 dX11_room_14 rfl (by omega) (by omega) (fun c14 => ?_) (fun c14 => ?_)
    · refine L_i1 dX11_room_53 ?_
      exact R_i rfl dX11_room_54 rfl rfl
    · exfalso; omega
  | succ m ih =>
    intro p q n hp hp0 hq hn
    have ha := hv.2
    have ht := md_taken_B hv
    refine L_i3 dX11_room_6 ?_
    refine L_a0 dX11_room_7 ?_
    refine GW_36_0 fX11_7 dX11_room_8 ?_
    refine J_bipush dX11_room_11 (by decide) ?_
    refine AB_37 dX11_room_13 (by omega) hv.1 (fun b13 => ?_)
    refine J_icmp_ge 53 dX11_room_14 rfl (by omega) (by omega) (fun c14 => ?_) (fun c14 => ?_)
    · exfalso; omega
    · refine L_a0 dX11_room_17 ?_
      refine C_v0F vX11_275 dX11_room_18 (qX11_taken hv) rfl rfl (Nat.le_of_ble_eq_true rfl) (by decide) ?_
      refine L_i3 dX11_room_21 ?_
      refine C_s2F vX11_251 dX11_room_22 (qX11_has (by omega) (by omega)) (Nat.le_of_ble_eq_true rfl) (by decide) ?_
      refine J_ifeqB 32 dX11_room_25 rfl (fun c25 => ?_) (fun c25 => ?_)
      · refine L_i2 dX11_room_32 ?_
        refine J_iconst dX11_room_33 ?_
        refine J_iadd dX11_room_34 ?_
        refine S_i2 dX11_room_35 (by decide) rfl ?_
        refine L_i2 dX11_room_36 ?_
        refine L_i1 dX11_room_37 ?_
        refine J_icmp_le 45 dX11_room_38 rfl (by omega) (by omega) (fun c38 => ?_) (fun c38 => ?_)
        · refine L_i1 dX11_room_45 ?_
          refine S_i1 dX11_room_46 (by decide) rfl ?_
          refine JI_3 dX11_room_47 (by decide) rfl ?_
          refine E_goto 6 dX11_room_50 rfl ?_
          rw [lpF]
          have e : md_rmg (md_taken (T 37)) p (q, n) = _ := rfl
          refine E_eq rfl ?_ rfl rfl (ih (p + 1) (md_rmg (md_taken (T 37)) p (q, n)).1 (md_rmg (md_taken (T 37)) p (q, n)).2 (by omega) (by omega) ?_ ?_)
          · unfold md_rmg md_rn
            first
              | (rw [if_pos c25]; first | rw [if_pos c38] | rw [if_neg (by omega)])
              | (rw [if_neg c25]; first | rw [if_pos c38] | rw [if_neg (by omega)])
          · unfold md_rmg md_rn
            dsimp only
            split <;> first | omega | (split <;> omega)
          · unfold md_rmg md_rn
            dsimp only
            split <;> omega
        · refine L_i2 dX11_room_41 ?_
          refine E_goto 46 dX11_room_42 rfl ?_
          refine S_i1 dX11_room_46 (by decide) rfl ?_
          refine JI_3 dX11_room_47 (by decide) rfl ?_
          refine E_goto 6 dX11_room_50 rfl ?_
          rw [lpF]
          have e : md_rmg (md_taken (T 37)) p (q, n) = _ := rfl
          refine E_eq rfl ?_ rfl rfl (ih (p + 1) (md_rmg (md_taken (T 37)) p (q, n)).1 (md_rmg (md_taken (T 37)) p (q, n)).2 (by omega) (by omega) ?_ ?_)
          · unfold md_rmg md_rn
            first
              | (rw [if_pos c25]; first | rw [if_pos c38] | rw [if_neg (by omega)])
              | (rw [if_neg c25]; first | rw [if_pos c38] | rw [if_neg (by omega)])
          · unfold md_rmg md_rn
            dsimp only
            split <;> first | omega | (split <;> omega)
          · unfold md_rmg md_rn
            dsimp only
            split <;> omega
      · refine J_iconst dX11_room_28 ?_
        refine E_goto 35 dX11_room_29 rfl ?_
        refine S_i2 dX11_room_35 (by decide) rfl ?_
        refine L_i2 dX11_room_36 ?_
        refine L_i1 dX11_room_37 ?_
        refine J_icmp_le 45 dX11_room_38 rfl (by omega) (by omega) (fun c38 => ?_) (fun c38 => ?_)
        · refine L_i1 dX11_room_45 ?_
          refine S_i1 dX11_room_46 (by decide) rfl ?_
          refine JI_3 dX11_room_47 (by decide) rfl ?_
          refine E_goto 6 dX11_room_50 rfl ?_
          rw [lpF]
          have e : md_rmg (md_taken (T 37)) p (q, n) = _ := rfl
          refine E_eq rfl ?_ rfl rfl (ih (p + 1) (md_rmg (md_taken (T 37)) p (q, n)).1 (md_rmg (md_taken (T 37)) p (q, n)).2 (by omega) (by omega) ?_ ?_)
          · unfold md_rmg md_rn
            first
              | (rw [if_pos c25]; first | rw [if_pos c38] | rw [if_neg (by omega)])
              | (rw [if_neg c25]; first | rw [if_pos c38] | rw [if_neg (by omega)])
          · unfold md_rmg md_rn
            dsimp only
            split <;> first | omega | (split <;> omega)
          · unfold md_rmg md_rn
            dsimp only
            split <;> omega
        · refine L_i2 dX11_room_41 ?_
          refine E_goto 46 dX11_room_42 rfl ?_
          refine S_i1 dX11_room_46 (by decide) rfl ?_
          refine JI_3 dX11_room_47 (by decide) rfl ?_
          refine E_goto 6 dX11_room_50 rfl ?_
          rw [lpF]
          have e : md_rmg (md_taken (T 37)) p (q, n) = _ := rfl
          refine E_eq rfl ?_ rfl rfl (ih (p + 1) (md_rmg (md_taken (T 37)) p (q, n)).1 (md_rmg (md_taken (T 37)) p (q, n)).2 (by omega) (by omega) ?_ ?_)
          · unfold md_rmg md_rn
            first
              | (rw [if_pos c25]; first | rw [if_pos c38] | rw [if_neg (by omega)])
              | (rw [if_neg c25]; first | rw [if_pos c38] | rw [if_neg (by omega)])
          · unfold md_rmg md_rn
            dsimp only
            split <;> first | omega | (split <;> omega)
          · unfold md_rmg md_rn
            dsimp only
            split <;> omega

set_option maxRecDepth 100000 in
theorem qX11_room {S T : Nat → Int → Int} {D : List mx_C} (hv : MV (T 37)) : SpF yX11_room cX11_room 4 (some .int) 4 [.ref 36] (W5 S T D) (.int (jI (md_room (T 37)))) (W5 S T D) := by
  have ha := hv.2
  refine Sp.of [.ref 36, .retAddr 0, .retAddr 0, .retAddr 0] (by decide) (by simp) (Nat.le_of_ble_eq_true rfl) rfl (fun E => ?_)
  refine J_iconst dX11_room_0 ?_
  refine S_i1 dX11_room_1 (by decide) rfl ?_
  refine J_iconst dX11_room_2 ?_
  refine S_i2 dX11_room_3 (by decide) rfl ?_
  refine J_iconst dX11_room_4 ?_
  refine S_i3 dX11_room_5 (by decide) rfl ?_
  exact lX11_room hv (T 37 7).toNat 0 0 0 (by omega) (by omega) (by omega) (by omega)

def md_atg (a : Int → Int) (p k : Int) : Option Int := if md_stands a k ∧ md_pl a k / 2 ^ p.toNat % 2 = 1 then some (k + 1) else none
def md_at (a : Int → Int) (p : Int) : Int := if 0 ≤ p ∧ p ≤ a 7 - 1 then lpR (md_atg a p) 8 0 0 else -1
set_option maxRecDepth 100000 in
theorem lX11_at {E : mx_E} {S T : Nat → Int → Int} {D : List mx_C} (hv : MV (T 37)) {p : Int} (h_p : 0 ≤ p ∧ p < 16) : ∀ (m : Nat) (k : Int), k + m = 8 → 0 ≤ k → Ev E yX11_at cX11_at 3 (some .int) (kf E 3 (.int (jI (lpR (md_atg (T 37) p) m k 0))) (W5 S T D)) 0 0 21 [.ref 36, .int (jI p), .int (jI k)] [] (W5 S T D) := by
  intro m
  induction m with
  | zero =>
    intro k hk hk0
    refine L_i2 dX11_at_21 ?_
    refine J_bipush dX11_at_22 (by decide) ?_
    refine J_icmp_ge 57 dX11_at_24 rfl (by omega) (by omega) (fun c24 => ?_) (fun c24 => ?_)
    · refine J_iconst dX11_at_57 ?_
      exact R_i rfl dX11_at_58 rfl rfl
    · exfalso; omega
  | succ m ih =>
    intro k hk hk0
    have ha := hv.at (k := k) (by omega)
    have hpl := md_pl_B hv (k := k) (by omega)
    refine L_i2 dX11_at_21 ?_
    refine J_bipush dX11_at_22 (by decide) ?_
    refine J_icmp_ge 57 dX11_at_24 rfl (by omega) (by omega) (fun c24 => ?_) (fun c24 => ?_)
    · exfalso; omega
    · refine L_a0 dX11_at_27 ?_
      refine L_i2 dX11_at_28 ?_
      refine C_v1F vX11_91 dX11_at_29 (qX11_standsV hv (by omega)) rfl rfl (Nat.le_of_ble_eq_true rfl) (by decide) ?_
      refine J_ifeqB 51 dX11_at_32 rfl (fun c32 => ?_) (fun c32 => ?_)
      · refine JI_2 dX11_at_51 (by decide) rfl ?_
        refine E_goto 21 dX11_at_54 rfl ?_
        first
          | (rw [lpR, show md_atg (T 37) p k = none from if_neg (fun h => c32 h.1)]; exact ih (k + 1) (by omega) (by omega))
          | (rw [lpR, show md_atg (T 37) p k = none from if_neg (fun h => c44 h.2)]; exact ih (k + 1) (by omega) (by omega))
      · refine L_a0 dX11_at_35 ?_
        refine L_i2 dX11_at_36 ?_
        refine C_v1F vX11_94 dX11_at_37 (qX11_placesOf hv (by omega) (by omega)) rfl rfl (Nat.le_of_ble_eq_true rfl) (by decide) ?_
        refine L_i1 dX11_at_40 ?_
        refine C_s2F vX11_251 dX11_at_41 (qX11_has (by omega) (by omega)) (Nat.le_of_ble_eq_true rfl) (by decide) ?_
        refine J_ifeqB 51 dX11_at_44 rfl (fun c44 => ?_) (fun c44 => ?_)
        · refine JI_2 dX11_at_51 (by decide) rfl ?_
          refine E_goto 21 dX11_at_54 rfl ?_
          first
            | (rw [lpR, show md_atg (T 37) p k = none from if_neg (fun h => c32 h.1)]; exact ih (k + 1) (by omega) (by omega))
            | (rw [lpR, show md_atg (T 37) p k = none from if_neg (fun h => c44 h.2)]; exact ih (k + 1) (by omega) (by omega))
        · refine L_i2 dX11_at_47 ?_
          refine J_iconst dX11_at_48 ?_
          refine J_iadd dX11_at_49 ?_
          exact R_i rfl dX11_at_50 rfl (by rw [lpR, show md_atg (T 37) p k = some (k + 1) from if_pos ⟨c32, c44⟩])

set_option maxRecDepth 100000 in
theorem qX11_at {S T : Nat → Int → Int} {D : List mx_C} (hv : MV (T 37)) {p : Int} (h_p : -2147483648 ≤ p ∧ p < 2147483648) : SpF yX11_at cX11_at 3 (some .int) 3 [.ref 36, .int (jI p)] (W5 S T D) (.int (jI (md_at (T 37) p))) (W5 S T D) := by
  have ha := hv.2
  refine Sp.of [.ref 36, .int (jI p), .retAddr 0] (by decide) (by simp) (Nat.le_of_ble_eq_true rfl) rfl (fun E => ?_)
  refine L_i1 dX11_at_0 ?_
  refine J_iconst dX11_at_1 ?_
  refine L_a0 dX11_at_2 ?_
  refine GW_36_0 fX11_7 dX11_at_3 ?_
  refine J_bipush dX11_at_6 (by decide) ?_
  refine AB_37 dX11_at_8 (by omega) hv.1 (fun b8 => ?_)
  refine J_iconst dX11_at_9 ?_
  refine J_isub dX11_at_10 ?_
  refine C_s3F vX11_83 dX11_at_11 (qX11_isIn (by omega) (by omega) (by omega)) (Nat.le_of_ble_eq_true rfl) (by decide) ?_
  refine J_ifneB 19 dX11_at_14 rfl (fun c14 => ?_) (fun c14 => ?_)
  · refine J_iconst dX11_at_19 ?_
    refine S_i2 dX11_at_20 (by decide) rfl ?_
    unfold md_at
    rw [if_pos c14]
    exact lX11_at hv (by omega) 8 0 (by omega) (by omega)
  · refine J_iconst dX11_at_17 ?_
    exact R_i rfl dX11_at_18 rfl (by unfold md_at; rw [if_neg c14])

def md_is (a : Int → Int) (q : Int) : Int := if 0 ≤ q ∧ q ≤ 1 then a (4 + q) else if q = 2 then a 7 else if q = 3 then md_standing a else if q = 4 then bdf (bsh (a 7) - 1) (md_taken a) else -2
set_option maxRecDepth 100000 in
theorem qX11_is {S T : Nat → Int → Int} {D : List mx_C} (hv : MV (T 37)) {q : Int} (h_q : -2147483648 ≤ q ∧ q < 2147483648) : SpF yX11_is cX11_is 2 (some .int) 4 [.ref 36, .int (jI q)] (W5 S T D) (.int (jI (md_is (T 37) q))) (W5 S T D) := by
  have ht := md_taken_B hv
  have hbp := bsh_pos (T 37 7)
  refine Sp.of [.ref 36, .int (jI q)] (by decide) (by simp) (Nat.le_of_ble_eq_true rfl) rfl (fun E => ?_)
  refine L_i1 dX11_is_0 ?_
  refine J_iconst dX11_is_1 ?_
  refine J_iconst dX11_is_2 ?_
  refine C_s3F vX11_83 dX11_is_3 (qX11_isIn (by omega) (by omega) (by omega)) (Nat.le_of_ble_eq_true rfl) (by decide) ?_
  refine J_ifeqB 18 dX11_is_6 rfl (fun c6 => ?_) (fun c6 => ?_)
  · refine L_i1 dX11_is_18 ?_
    refine J_iconst dX11_is_19 ?_
    refine J_icmp_ne 33 dX11_is_20 rfl (by omega) (by omega) (fun c20 => ?_) (fun c20 => ?_)
    · refine L_i1 dX11_is_33 ?_
      refine J_iconst dX11_is_34 ?_
      refine J_icmp_ne 45 dX11_is_35 rfl (by omega) (by omega) (fun c35 => ?_) (fun c35 => ?_)
      · refine L_i1 dX11_is_45 ?_
        refine J_iconst dX11_is_46 ?_
        refine J_icmp_ne 64 dX11_is_47 rfl (by omega) (by omega) (fun c47 => ?_) (fun c47 => ?_)
        · refine J_bipush dX11_is_64 (by decide) ?_
          exact R_i rfl dX11_is_66 rfl (by unfold md_is; first | rw [if_pos (by omega)] | rw [if_neg (by omega), if_pos (by omega)] | rw [if_neg (by omega), if_neg (by omega), if_pos (by omega)] | rw [if_neg (by omega), if_neg (by omega), if_neg (by omega), if_pos (by omega)] | rw [if_neg (by omega), if_neg (by omega), if_neg (by omega), if_neg (by omega)])
        · refine L_a0 dX11_is_50 ?_
          refine C_v0F vX11_338 dX11_is_51 (qX11_everyPlace hv) rfl rfl (Nat.le_of_ble_eq_true rfl) (by decide) ?_
          refine L_a0 dX11_is_54 ?_
          refine C_v0F vX11_275 dX11_is_55 (qX11_taken hv) rfl rfl (Nat.le_of_ble_eq_true rfl) (by decide) ?_
          refine J_iconst dX11_is_58 ?_
          refine J_inot dX11_is_59 ?_
          refine J_iandD dX11_is_60 (by omega) (by omega) ?_
          refine E_goto 66 dX11_is_61 rfl ?_
          exact R_i rfl dX11_is_66 rfl (by unfold md_is; first | rw [if_pos (by omega)] | rw [if_neg (by omega), if_pos (by omega)] | rw [if_neg (by omega), if_neg (by omega), if_pos (by omega)] | rw [if_neg (by omega), if_neg (by omega), if_neg (by omega), if_pos (by omega)] | rw [if_neg (by omega), if_neg (by omega), if_neg (by omega), if_neg (by omega)])
      · refine L_a0 dX11_is_38 ?_
        refine C_v0F vX11_301 dX11_is_39 (qX11_standingV hv) rfl rfl (Nat.le_of_ble_eq_true rfl) (by decide) ?_
        refine E_goto 66 dX11_is_42 rfl ?_
        exact R_i rfl dX11_is_66 rfl (by unfold md_is; first | rw [if_pos (by omega)] | rw [if_neg (by omega), if_pos (by omega)] | rw [if_neg (by omega), if_neg (by omega), if_pos (by omega)] | rw [if_neg (by omega), if_neg (by omega), if_neg (by omega), if_pos (by omega)] | rw [if_neg (by omega), if_neg (by omega), if_neg (by omega), if_neg (by omega)])
    · refine L_a0 dX11_is_23 ?_
      refine GW_36_0 fX11_7 dX11_is_24 ?_
      refine J_bipush dX11_is_27 (by decide) ?_
      refine AB_37 dX11_is_29 (by omega) hv.1 (fun b29 => ?_)
      refine E_goto 66 dX11_is_30 rfl ?_
      exact R_i rfl dX11_is_66 rfl (by unfold md_is; first | rw [if_pos (by omega)] | rw [if_neg (by omega), if_pos (by omega)] | rw [if_neg (by omega), if_neg (by omega), if_pos (by omega)] | rw [if_neg (by omega), if_neg (by omega), if_neg (by omega), if_pos (by omega)] | rw [if_neg (by omega), if_neg (by omega), if_neg (by omega), if_neg (by omega)])
  · refine L_a0 dX11_is_9 ?_
    refine GW_36_0 fX11_7 dX11_is_10 ?_
    refine J_iconst dX11_is_13 ?_
    refine L_i1 dX11_is_14 ?_
    refine J_iadd dX11_is_15 ?_
    refine AB_37 dX11_is_16 (by omega) hv.1 (fun b16 => ?_)
    exact R_i rfl dX11_is_17 rfl (by unfold md_is; first | rw [if_pos (by omega)] | rw [if_neg (by omega), if_pos (by omega)] | rw [if_neg (by omega), if_neg (by omega), if_pos (by omega)] | rw [if_neg (by omega), if_neg (by omega), if_neg (by omega), if_pos (by omega)] | rw [if_neg (by omega), if_neg (by omega), if_neg (by omega), if_neg (by omega)])

