/-! ===== Row: turning, moving, the latest; copies ===== -/
def rw_cmg (f : Int → Int) (b : Int) (k : Int) : Option Int := if rw_holds f k ∧ (rw_first f k + b < 0 ∨ f 0 ≤ rw_second f k + b) then some 0 else none
def rw_canMove (f : Int → Int) (b : Int) : Int := lpR (rw_cmg f b) 8 1 (jb (¬ f 3 = 0))
theorem lpR_z {g : Int → Option Int} (hg : ∀ k r, g k = some r → r = 0 ∨ r = 1) : ∀ (m : Nat) (k s : Int), (s = 0 ∨ s = 1) → (lpR g m k s = 0 ∨ lpR g m k s = 1) := by
  intro m
  induction m with
  | zero => intro k s h; exact h
  | succ m ih =>
    intro k s h
    rw [lpR]
    cases e : g k with
    | none => exact ih (k + 1) s h
    | some r => exact hg k r e
set_option maxRecDepth 100000 in
theorem lX4_canMove {hp : List mx_C} {i j : Nat} {c0 : mx_C} {f : Int → Int} (h1 : hp[i]? = some (ob 4 [.ref j])) (hij : ¬ j = i) (h2 : hp[j]? = some c0) (hv : RV f) {n : Int} (hn : -16 < n ∧ n < 16) {E : mx_E} : ∀ (m : Nat) (k : Int), k + m = 9 → 1 ≤ k → Ev E yX4_canMove cX4_canMove 3 (some .boolean) (kf E 1 (.int (jI (lpR (rw_cmg f n) m k (jb (¬ f 3 = 0))))) (hp.set j (ia 55 f))) 0 0 2 [.ref i, .int (jI n), .int (jI k)] [] (hp.set j (ia 55 f)) := by
  intro m
  induction m with
  | zero =>
    intro k hk hk1
    have hf := hv.1
    refine L_i2 dX4_canMove_2 ?_
    refine J_bipush dX4_canMove_3 (by decide) ?_
    refine J_icmp_gt 48 dX4_canMove_5 rfl (by omega) (by omega) (fun c5 => ?_) (fun c5 => ?_)
    · refine L_a0 dX4_canMove_48 ?_
      refine E_getf fX4_11 dX4_canMove_49 (mx_sn hij h1) rfl ?_
      refine J_iconst dX4_canMove_52 ?_
      refine J_ialdB dX4_canMove_53 (mx_ss h2) (by omega) (by decide) hf (fun b53 => ?_)
      refine J_if_eq 61 dX4_canMove_54 rfl (by omega) (fun c54 => ?_) (fun c54 => ?_)
      · refine J_iconst dX4_canMove_61 ?_
        exact R_z rfl dX4_canMove_62 (by decide) rfl (by show _ = jb _; first | exact (jb_t (by omega)).symm | exact (jb_f (by omega)).symm)
      · refine J_iconst dX4_canMove_57 ?_
        refine E_goto 62 dX4_canMove_58 rfl ?_
        exact R_z rfl dX4_canMove_62 (by decide) rfl (by show _ = jb _; first | exact (jb_t (by omega)).symm | exact (jb_f (by omega)).symm)
    · exfalso; omega
  | succ m ih =>
    intro k hk hk1
    have hf := hv.1
    have hr := rw_first_B hv k
    have hr2 := rw_second_B hv k
    have hr3 := hv.2.1
    refine L_i2 dX4_canMove_2 ?_
    refine J_bipush dX4_canMove_3 (by decide) ?_
    refine J_icmp_gt 48 dX4_canMove_5 rfl (by omega) (by omega) (fun c5 => ?_) (fun c5 => ?_)
    · exfalso; omega
    · refine L_a0 dX4_canMove_8 ?_
      refine L_i2 dX4_canMove_9 ?_
      refine C_v1F vX4_36 dX4_canMove_10 (sX4_holds h1 hij h2 hf (by omega)) (mx_sn hij h1) rfl (Nat.le_of_ble_eq_true rfl) (by decide) ?_
      refine J_ifeqB 42 dX4_canMove_13 rfl (fun c13 => ?_) (fun c13 => ?_)
      · refine JI_2 dX4_canMove_42 (by decide) rfl ?_
        refine E_goto 2 dX4_canMove_45 rfl ?_
        rw [lpR, show rw_cmg f n k = none from if_neg (by unfold rw_holds; omega)]
        exact ih (k + 1) (by omega) (by omega)
      · refine L_a0 dX4_canMove_16 ?_
        refine L_i2 dX4_canMove_17 ?_
        refine C_v1F vX4_33 dX4_canMove_18 (sX4_first h1 hij h2 hf (by omega)) (mx_sn hij h1) rfl (Nat.le_of_ble_eq_true rfl) (by decide) ?_
        refine L_i1 dX4_canMove_21 ?_
        refine J_iadd dX4_canMove_22 ?_
        refine J_if_lt 40 dX4_canMove_23 rfl (by omega) (fun c23 => ?_) (fun c23 => ?_)
        · refine J_iconst dX4_canMove_40 ?_
          exact R_z rfl dX4_canMove_41 (by decide) rfl (by rw [lpR, show rw_cmg f n k = some 0 from if_pos (by unfold rw_holds; omega)])
        · refine L_a0 dX4_canMove_26 ?_
          refine L_i2 dX4_canMove_27 ?_
          refine C_v1F vX4_30 dX4_canMove_28 (sX4_second h1 hij h2 hf (by omega)) (mx_sn hij h1) rfl (Nat.le_of_ble_eq_true rfl) (by decide) ?_
          refine L_i1 dX4_canMove_31 ?_
          refine J_iadd dX4_canMove_32 ?_
          refine L_a0 dX4_canMove_33 ?_
          refine C_v0F vX4_57 dX4_canMove_34 (sX4_places h1 hij h2) (mx_sn hij h1) rfl (Nat.le_of_ble_eq_true rfl) (by decide) ?_
          refine J_icmp_lt 42 dX4_canMove_37 rfl (by omega) (by omega) (fun c37 => ?_) (fun c37 => ?_)
          · refine JI_2 dX4_canMove_42 (by decide) rfl ?_
            refine E_goto 2 dX4_canMove_45 rfl ?_
            rw [lpR, show rw_cmg f n k = none from if_neg (by unfold rw_holds; omega)]
            exact ih (k + 1) (by omega) (by omega)
          · refine J_iconst dX4_canMove_40 ?_
            exact R_z rfl dX4_canMove_41 (by decide) rfl (by rw [lpR, show rw_cmg f n k = some 0 from if_pos (by unfold rw_holds; omega)])

set_option maxRecDepth 100000 in
theorem sX4_canMove {hp : List mx_C} {i j : Nat} {c0 : mx_C} {f : Int → Int} (h1 : hp[i]? = some (ob 4 [.ref j])) (hij : ¬ j = i) (h2 : hp[j]? = some c0) (hv : RV f) {n : Int} (hn : -16 < n ∧ n < 16) : SpF yX4_canMove cX4_canMove 3 (some .boolean) 1 [.ref i, .int (jI n)] (hp.set j (ia 55 f)) (.int (jI (rw_canMove f n))) (hp.set j (ia 55 f)) := by
  refine Sp.of [.ref i, .int (jI n), .retAddr 0] (by decide) (by simp) (Nat.le_of_ble_eq_true rfl) rfl (fun E => ?_)
  refine J_iconst dX4_canMove_0 ?_
  refine S_i2 dX4_canMove_1 (by decide) rfl ?_
  exact lX4_canMove h1 hij h2 hv hn 8 1 (by omega) (by omega)

def rw_lag (f : Int → Int) (k : Int) : Option Int := if 24 - k < f 5 ∧ f (30 + (24 - k)) / 16 % 4 = 0 then some (f (30 + (24 - k)) / 64 % 16) else none
def rw_latest (f : Int → Int) : Int := lpR (rw_lag f) 25 0 0
/-- the book's lines are not below 0 -/
def RLn (f : Int → Int) : Prop := ∀ q, 0 ≤ q ∧ q < 25 → 0 ≤ f (30 + q)
set_option maxRecDepth 100000 in
theorem lX4_latest {hp : List mx_C} {i j : Nat} {c0 : mx_C} {f : Int → Int} (h1 : hp[i]? = some (ob 4 [.ref j])) (hij : ¬ j = i) (h2 : hp[j]? = some c0) (hf : Bd f) (hl : RLn f) {E : mx_E} : ∀ (m : Nat) (k q : Int) (u2 : Value), k + m = 25 → 0 ≤ k → q = 24 - k → Ev E yX4_latest cX4_latest 3 (some .int) (kf E 0 (.int (jI (lpR (rw_lag f) m k 0))) (hp.set j (ia 55 f))) 0 0 3 [.ref i, .int (jI q), u2] [] (hp.set j (ia 55 f)) := by
  intro m
  induction m with
  | zero =>
    intro k q u2 hk hk1 hq
    refine L_i1 dX4_latest_3 ?_
    refine J_if_lt 49 dX4_latest_4 rfl (by omega) (fun c4 => ?_) (fun c4 => ?_)
    · refine J_iconst dX4_latest_49 ?_
      exact R_i rfl dX4_latest_50 rfl rfl
    · exfalso; omega
  | succ m ih =>
    intro k q u2 hk hk1 hq
    have hl2 := hl q (by omega)
    refine L_i1 dX4_latest_3 ?_
    refine J_if_lt 49 dX4_latest_4 rfl (by omega) (fun c4 => ?_) (fun c4 => ?_)
    · exfalso; omega
    · refine L_a0 dX4_latest_7 ?_
      refine E_getf fX4_11 dX4_latest_8 (mx_sn hij h1) rfl ?_
      refine J_bipush dX4_latest_11 (by decide) ?_
      refine L_i1 dX4_latest_13 ?_
      refine J_iadd dX4_latest_14 ?_
      refine J_ialdB dX4_latest_15 (mx_ss h2) (by omega) (by decide) hf (fun b15 => ?_)
      refine S_i2 dX4_latest_16 (by decide) rfl ?_
      refine L_i1 dX4_latest_17 ?_
      refine L_a0 dX4_latest_18 ?_
      refine E_getf fX4_11 dX4_latest_19 (mx_sn hij h1) rfl ?_
      refine J_iconst dX4_latest_22 ?_
      refine J_ialdB dX4_latest_23 (mx_ss h2) (by omega) (by decide) hf (fun b23 => ?_)
      refine J_icmp_ge 43 dX4_latest_24 rfl (by omega) (by omega) (fun c24 => ?_) (fun c24 => ?_)
      · refine JI_1 dX4_latest_43 (by decide) rfl ?_
        refine E_goto 3 dX4_latest_46 rfl ?_
        subst hq
        first
          | (rw [lpR, show rw_lag f k = none from if_neg (fun h => by omega)]; exact ih (k + 1) _ _ (by omega) (by omega) (by omega))
          | (rw [lpR, show rw_lag f k = none from if_neg (fun h => c32 h.2)]; exact ih (k + 1) _ _ (by omega) (by omega) (by omega))
      · refine L_i2 dX4_latest_27 ?_
        refine J_iconst dX4_latest_28 ?_
        refine J_iushrG dX4_latest_29 (by omega) (by omega) ?_
        refine J_iconst dX4_latest_30 ?_
        refine J_imask 2 (by decide) (by decide) dX4_latest_31 ?_
        refine J_if_ne 43 dX4_latest_32 rfl (by omega) (fun c32 => ?_) (fun c32 => ?_)
        · refine JI_1 dX4_latest_43 (by decide) rfl ?_
          refine E_goto 3 dX4_latest_46 rfl ?_
          subst hq
          first
            | (rw [lpR, show rw_lag f k = none from if_neg (fun h => by omega)]; exact ih (k + 1) _ _ (by omega) (by omega) (by omega))
            | (rw [lpR, show rw_lag f k = none from if_neg (fun h => c32 h.2)]; exact ih (k + 1) _ _ (by omega) (by omega) (by omega))
        · refine L_i2 dX4_latest_35 ?_
          refine J_bipush dX4_latest_36 (by decide) ?_
          refine J_iushrG dX4_latest_38 (by omega) (by omega) ?_
          refine J_bipush dX4_latest_39 (by decide) ?_
          refine J_imask 4 (by decide) (by decide) dX4_latest_41 ?_
          exact R_i rfl dX4_latest_42 rfl (by subst hq; rw [lpR, show rw_lag f k = some _ from if_pos ⟨by omega, c32⟩]; rfl)

set_option maxRecDepth 100000 in
theorem sX4_latest {hp : List mx_C} {i j : Nat} {c0 : mx_C} {f : Int → Int} (h1 : hp[i]? = some (ob 4 [.ref j])) (hij : ¬ j = i) (h2 : hp[j]? = some c0) (hf : Bd f) (hl : RLn f) : SpF yX4_latest cX4_latest 3 (some .int) 0 [.ref i] (hp.set j (ia 55 f)) (.int (jI (rw_latest f))) (hp.set j (ia 55 f)) := by
  refine Sp.of [.ref i, .retAddr 0, .retAddr 0] (by decide) (by simp) (Nat.le_of_ble_eq_true rfl) rfl (fun E => ?_)
  refine J_bipush dX4_latest_0 (by decide) ?_
  refine S_i1 dX4_latest_2 (by decide) rfl ?_
  exact lX4_latest h1 hij h2 hf hl 25 0 24 _ (by omega) (by omega) (by omega)

def rw_rvg (l : Int) (k : Int) (f : Int → Int) : Int → Int := if rw_holds f k then up (up f (5 + k) (l - f (13 + k))) (13 + k) (l - f (5 + k)) else f
theorem rw_rvg_V {f : Int → Int} (hv : RV f) {l k : Int} (hl : l = f 0 - 1) (hk : 1 ≤ k ∧ k ≤ 8) : RV (rw_rvg l k f) ∧ rw_rvg l k f 0 = f 0 := by
  unfold rw_rvg
  split
  · next h =>
    have ha := hv.at hk
    have h0 := hv.2.1
    have e : ∀ q, ¬ q = 5 + k → ¬ q = 13 + k → (up (up f (5 + k) (l - f (13 + k))) (13 + k) (l - f (5 + k))) q = f q := fun q a b => by rw [up_n b, up_n a]
    have e0 := e 0 (by omega) (by omega)
    have e1 := e 1 (by omega) (by omega)
    have e2 := e 2 (by omega) (by omega)
    have e3 := e 3 (by omega) (by omega)
    have e4 := e 4 (by omega) (by omega)
    have e5 := e 5 (by omega) (by omega)
    refine ⟨⟨Bd_up (Bd_up hv.1 (by omega)) (by omega), by rw [e0]; exact hv.2.1, by rw [e1]; exact hv.2.2.1, by rw [e2]; exact hv.2.2.2.1, by rw [e3]; exact hv.2.2.2.2.1, by rw [e4]; exact hv.2.2.2.2.2.1, by rw [e5]; exact hv.2.2.2.2.2.2.1, fun n hn => ?_⟩, e0⟩
    have hb := hv.at hn
    by_cases hnk : n = k
    · subst hnk
      rw [e0, e (21 + n) (by omega) (by omega), up_s, up_n (k := 13 + n) (by omega), up_s]
      have := h.2
      omega
    · rw [e0, e (5 + n) (by omega) (by omega), e (13 + n) (by omega) (by omega), e (21 + n) (by omega) (by omega)]
      exact hb
  · exact ⟨hv, rfl⟩
def rw_turn (f : Int → Int) : Int → Int := up (lpF (rw_rvg (f 0 - 1)) 8 1 f) 4 (rw_places (lpF (rw_rvg (f 0 - 1)) 8 1 f) 255)
def rw_fin (f : Int → Int) : Int → Int := up f 4 (rw_places f 255)
set_option maxRecDepth 100000 in
theorem lX4_reverse {hp : List mx_C} {i j : Nat} {c0 : mx_C} (h1 : hp[i]? = some (ob 4 [.ref j])) (hij : ¬ j = i) (h2 : hp[j]? = some c0) {l : Int} {E : mx_E} : ∀ (m : Nat) (k : Int) (f : Int → Int) (u3 : Value), RV f → l = f 0 - 1 → k + m = 9 → 1 ≤ k → Ev E yX4_reverse cX4_reverse 4 none (kv E 3 (hp.set j (ia 55 (rw_fin (lpF (rw_rvg l) m k f))))) 0 0 9 [.ref i, .int (jI l), .int (jI k), u3] [] (hp.set j (ia 55 f)) := by
  intro m
  induction m with
  | zero =>
    intro k f u3 hv hl hk hk1
    have hf := hv.1
    refine L_i2 dX4_reverse_9 ?_
    refine J_bipush dX4_reverse_10 (by decide) ?_
    refine J_icmp_gt 69 dX4_reverse_12 rfl (by omega) (by omega) (fun c12 => ?_) (fun c12 => ?_)
    · refine L_a0 dX4_reverse_69 ?_
      refine E_getf fX4_11 dX4_reverse_70 (mx_sn hij h1) rfl ?_
      refine J_iconst dX4_reverse_73 ?_
      refine L_a0 dX4_reverse_74 ?_
      refine J_sipush dX4_reverse_75 (by decide) ?_
      refine C_v1F vX4_61 dX4_reverse_78 (sX4_placesOf h1 hij h2 hv (by decide)) (mx_sn hij h1) rfl (Nat.le_of_ble_eq_true rfl) (by decide) ?_
      refine J_iastS dX4_reverse_81 h2 (by omega) (by decide) ?_
      exact R_v rfl dX4_reverse_82 rfl
    · exfalso; omega
  | succ m ih =>
    intro k f u3 hv hl hk hk1
    have hf := hv.1
    have hr3 := hv.2.1
    have hvk := rw_rvg_V hv hl (k := k) (by omega)
    have ha := hv.at (n := k) (by omega)
    refine L_i2 dX4_reverse_9 ?_
    refine J_bipush dX4_reverse_10 (by decide) ?_
    refine J_icmp_gt 69 dX4_reverse_12 rfl (by omega) (by omega) (fun c12 => ?_) (fun c12 => ?_)
    · exfalso; omega
    · refine L_a0 dX4_reverse_15 ?_
      refine L_i2 dX4_reverse_16 ?_
      refine C_v1F vX4_36 dX4_reverse_17 (sX4_holds h1 hij h2 hf (by omega)) (mx_sn hij h1) rfl (Nat.le_of_ble_eq_true rfl) (by decide) ?_
      refine J_ifeqB 63 dX4_reverse_20 rfl (fun c20 => ?_) (fun c20 => ?_)
      · refine JI_2 dX4_reverse_63 (by decide) rfl ?_
        refine E_goto 9 dX4_reverse_66 rfl ?_
        first
          | (rw [lpF, show rw_rvg l k f = f from if_neg c20]; exact ih (k + 1) f _ hv hl (by omega) (by omega))
          | (have e : rw_rvg l k f = _ := if_pos c20; rw [e] at hvk; rw [lpF, e]; exact ih (k + 1) _ _ hvk.1 (by rw [hvk.2]; exact hl) (by omega) (by omega))
      · refine L_a0 dX4_reverse_23 ?_
        refine E_getf fX4_11 dX4_reverse_24 (mx_sn hij h1) rfl ?_
        refine J_iconst dX4_reverse_27 ?_
        refine L_i2 dX4_reverse_28 ?_
        refine J_iadd dX4_reverse_29 ?_
        refine J_ialdB dX4_reverse_30 (mx_ss h2) (by omega) (by decide) hf (fun b30 => ?_)
        refine S_i3 dX4_reverse_31 (by decide) rfl ?_
        refine L_a0 dX4_reverse_32 ?_
        refine E_getf fX4_11 dX4_reverse_33 (mx_sn hij h1) rfl ?_
        refine J_iconst dX4_reverse_36 ?_
        refine L_i2 dX4_reverse_37 ?_
        refine J_iadd dX4_reverse_38 ?_
        refine L_i1 dX4_reverse_39 ?_
        refine L_a0 dX4_reverse_40 ?_
        refine E_getf fX4_11 dX4_reverse_41 (mx_sn hij h1) rfl ?_
        refine J_bipush dX4_reverse_44 (by decide) ?_
        refine L_i2 dX4_reverse_46 ?_
        refine J_iadd dX4_reverse_47 ?_
        refine J_iald dX4_reverse_48 (mx_ss h2) (by omega) (by decide) ?_
        refine J_isub dX4_reverse_49 ?_
        refine J_iastS dX4_reverse_50 h2 (by omega) (by decide) ?_
        refine L_a0 dX4_reverse_51 ?_
        refine E_getf fX4_11 dX4_reverse_52 (mx_sn hij h1) rfl ?_
        refine J_bipush dX4_reverse_55 (by decide) ?_
        refine L_i2 dX4_reverse_57 ?_
        refine J_iadd dX4_reverse_58 ?_
        refine L_i1 dX4_reverse_59 ?_
        refine L_i3 dX4_reverse_60 ?_
        refine J_isub dX4_reverse_61 ?_
        refine J_iastS dX4_reverse_62 h2 (by omega) (by decide) ?_
        refine JI_2 dX4_reverse_63 (by decide) rfl ?_
        refine E_goto 9 dX4_reverse_66 rfl ?_
        first
          | (rw [lpF, show rw_rvg l k f = f from if_neg c20]; exact ih (k + 1) f _ hv hl (by omega) (by omega))
          | (have e : rw_rvg l k f = _ := if_pos c20; rw [e] at hvk; rw [lpF, e]; exact ih (k + 1) _ _ hvk.1 (by rw [hvk.2]; exact hl) (by omega) (by omega))

set_option maxRecDepth 100000 in
theorem sX4_reverse {hp : List mx_C} {i j : Nat} {c0 : mx_C} {f : Int → Int} (h1 : hp[i]? = some (ob 4 [.ref j])) (hij : ¬ j = i) (h2 : hp[j]? = some c0) (hv : RV f) : SpV yX4_reverse cX4_reverse 4 none 3 [.ref i] (hp.set j (ia 55 f)) (hp.set j (ia 55 (rw_turn f))) := by
  have hf := hv.1
  refine Sp.of [.ref i, .retAddr 0, .retAddr 0, .retAddr 0] (by decide) (by simp) (Nat.le_of_ble_eq_true rfl) rfl (fun E => ?_)
  refine L_a0 dX4_reverse_0 ?_
  refine C_v0F vX4_57 dX4_reverse_1 (sX4_places h1 hij h2) (mx_sn hij h1) rfl (Nat.le_of_ble_eq_true rfl) (by decide) ?_
  refine J_iconst dX4_reverse_4 ?_
  refine J_isub dX4_reverse_5 ?_
  refine S_i1 dX4_reverse_6 (by decide) rfl ?_
  refine J_iconst dX4_reverse_7 ?_
  refine S_i2 dX4_reverse_8 (by decide) rfl ?_
  exact lX4_reverse h1 hij h2 8 1 f _ hv rfl (by omega) (by omega)

def rw_mvg (b : Int) (k : Int) (f : Int → Int) : Int → Int := if rw_holds f k then up (up f (5 + k) (f (5 + k) + b)) (13 + k) (f (13 + k) + b) else f
def rw_move (f : Int → Int) (b : Int) : Int → Int := rw_fin (lpF (rw_mvg b) 8 1 f)
/-- it can be moved: none falls out, from number k on -/
def CM (f : Int → Int) (b k : Int) : Prop := ∀ n, k ≤ n ∧ n ≤ 8 → 0 ≤ f (5 + n) → 0 ≤ f (5 + n) + b ∧ f (13 + n) + b < f 0
theorem rw_mvg_V {f : Int → Int} (hv : RV f) {b k : Int} (hc : CM f b k) (hk : 1 ≤ k ∧ k ≤ 8) (hb : -16 < b ∧ b < 16) : RV (rw_mvg b k f) ∧ CM (rw_mvg b k f) b (k + 1) := by
  unfold rw_mvg
  split
  · next h =>
    have ha := hv.at hk
    have h0 := hv.2.1
    have hck := hc k (by omega) h.2
    have e : ∀ q, ¬ q = 5 + k → ¬ q = 13 + k → (up (up f (5 + k) (f (5 + k) + b)) (13 + k) (f (13 + k) + b)) q = f q := fun q a b => by rw [up_n b, up_n a]
    have e0 := e 0 (by omega) (by omega)
    have e1 := e 1 (by omega) (by omega)
    have e2 := e 2 (by omega) (by omega)
    have e3 := e 3 (by omega) (by omega)
    have e4 := e 4 (by omega) (by omega)
    have e5 := e 5 (by omega) (by omega)
    refine ⟨⟨Bd_up (Bd_up hv.1 (by omega)) (by omega), by rw [e0]; exact hv.2.1, by rw [e1]; exact hv.2.2.1, by rw [e2]; exact hv.2.2.2.1, by rw [e3]; exact hv.2.2.2.2.1, by rw [e4]; exact hv.2.2.2.2.2.1, by rw [e5]; exact hv.2.2.2.2.2.2.1, fun n hn => ?_⟩, fun n hn hh => ?_⟩
    · have hbn := hv.at hn
      by_cases hnk : n = k
      · subst hnk
        rw [e0, e (21 + n) (by omega) (by omega), up_s, up_n (k := 13 + n) (by omega), up_s]
        have := h.2
        omega
      · rw [e0, e (5 + n) (by omega) (by omega), e (13 + n) (by omega) (by omega), e (21 + n) (by omega) (by omega)]
        exact hbn
    · rw [e (5 + n) (by omega) (by omega)] at hh ⊢
      rw [e0, e (13 + n) (by omega) (by omega)]
      exact hc n (by omega) hh
  · exact ⟨hv, fun n hn hh => hc n (by omega) hh⟩
set_option maxRecDepth 100000 in
theorem lX4_move {hp : List mx_C} {i j : Nat} {c0 : mx_C} (h1 : hp[i]? = some (ob 4 [.ref j])) (hij : ¬ j = i) (h2 : hp[j]? = some c0) {b : Int} (hb : -16 < b ∧ b < 16) {E : mx_E} : ∀ (m : Nat) (k : Int) (f : Int → Int), RV f → CM f b k → k + m = 9 → 1 ≤ k → Ev E yX4_move cX4_move 3 none (kv E 3 (hp.set j (ia 55 (rw_fin (lpF (rw_mvg b) m k f))))) 0 0 2 [.ref i, .int (jI b), .int (jI k)] [] (hp.set j (ia 55 f)) := by
  intro m
  induction m with
  | zero =>
    intro k f hv hc hk hk1
    have hf := hv.1
    refine L_i2 dX4_move_2 ?_
    refine J_bipush dX4_move_3 (by decide) ?_
    refine J_icmp_gt 47 dX4_move_5 rfl (by omega) (by omega) (fun c5 => ?_) (fun c5 => ?_)
    · refine L_a0 dX4_move_47 ?_
      refine E_getf fX4_11 dX4_move_48 (mx_sn hij h1) rfl ?_
      refine J_iconst dX4_move_51 ?_
      refine L_a0 dX4_move_52 ?_
      refine J_sipush dX4_move_53 (by decide) ?_
      refine C_v1F vX4_61 dX4_move_56 (sX4_placesOf h1 hij h2 hv (by decide)) (mx_sn hij h1) rfl (Nat.le_of_ble_eq_true rfl) (by decide) ?_
      refine J_iastS dX4_move_59 h2 (by omega) (by decide) ?_
      exact R_v rfl dX4_move_60 rfl
    · exfalso; omega
  | succ m ih =>
    intro k f hv hc hk hk1
    have hf := hv.1
    have hr3 := hv.2.1
    have hvk := rw_mvg_V hv hc (k := k) (by omega) hb
    have ha := hv.at (n := k) (by omega)
    refine L_i2 dX4_move_2 ?_
    refine J_bipush dX4_move_3 (by decide) ?_
    refine J_icmp_gt 47 dX4_move_5 rfl (by omega) (by omega) (fun c5 => ?_) (fun c5 => ?_)
    · exfalso; omega
    · refine L_a0 dX4_move_8 ?_
      refine L_i2 dX4_move_9 ?_
      refine C_v1F vX4_36 dX4_move_10 (sX4_holds h1 hij h2 hf (by omega)) (mx_sn hij h1) rfl (Nat.le_of_ble_eq_true rfl) (by decide) ?_
      refine J_ifeqB 41 dX4_move_13 rfl (fun c13 => ?_) (fun c13 => ?_)
      · refine JI_2 dX4_move_41 (by decide) rfl ?_
        refine E_goto 2 dX4_move_44 rfl ?_
        first
          | (rw [lpF, show rw_mvg b k f = f from if_neg c13]; exact ih (k + 1) f hv (fun n hn hh => hc n (by omega) hh) (by omega) (by omega))
          | (have e : rw_mvg b k f = _ := if_pos c13; rw [e] at hvk; rw [lpF, e]; exact ih (k + 1) _ hvk.1 hvk.2 (by omega) (by omega))
      · refine L_a0 dX4_move_16 ?_
        refine E_getf fX4_11 dX4_move_17 (mx_sn hij h1) rfl ?_
        refine J_iconst dX4_move_20 ?_
        refine L_i2 dX4_move_21 ?_
        refine J_iadd dX4_move_22 ?_
        refine E_dup2 dX4_move_23 rfl rfl ?_
        refine J_iald dX4_move_24 (mx_ss h2) (by omega) (by decide) ?_
        refine L_i1 dX4_move_25 ?_
        refine J_iadd dX4_move_26 ?_
        refine J_iastS dX4_move_27 h2 (by omega) (by decide) ?_
        refine L_a0 dX4_move_28 ?_
        refine E_getf fX4_11 dX4_move_29 (mx_sn hij h1) rfl ?_
        refine J_bipush dX4_move_32 (by decide) ?_
        refine L_i2 dX4_move_34 ?_
        refine J_iadd dX4_move_35 ?_
        refine E_dup2 dX4_move_36 rfl rfl ?_
        refine J_iald dX4_move_37 (mx_ss h2) (by omega) (by decide) ?_
        refine J_eqi (b := f (13 + k)) (up_n (by omega)) ?_
        refine L_i1 dX4_move_38 ?_
        refine J_iadd dX4_move_39 ?_
        refine J_iastS dX4_move_40 h2 (by omega) (by decide) ?_
        refine JI_2 dX4_move_41 (by decide) rfl ?_
        refine E_goto 2 dX4_move_44 rfl ?_
        first
          | (rw [lpF, show rw_mvg b k f = f from if_neg c13]; exact ih (k + 1) f hv (fun n hn hh => hc n (by omega) hh) (by omega) (by omega))
          | (have e : rw_mvg b k f = _ := if_pos c13; rw [e] at hvk; rw [lpF, e]; exact ih (k + 1) _ hvk.1 hvk.2 (by omega) (by omega))

set_option maxRecDepth 100000 in
theorem sX4_move {hp : List mx_C} {i j : Nat} {c0 : mx_C} {f : Int → Int} (h1 : hp[i]? = some (ob 4 [.ref j])) (hij : ¬ j = i) (h2 : hp[j]? = some c0) (hv : RV f) {b : Int} (hb : -16 < b ∧ b < 16) (hc : CM f b 1) : SpV yX4_move cX4_move 3 none 3 [.ref i, .int (jI b)] (hp.set j (ia 55 f)) (hp.set j (ia 55 (rw_move f b))) := by
  refine Sp.of [.ref i, .int (jI b), .retAddr 0] (by decide) (by simp) (Nat.le_of_ble_eq_true rfl) rfl (fun E => ?_)
  refine J_iconst dX4_move_0 ?_
  refine S_i2 dX4_move_1 (by decide) rfl ?_
  exact lX4_move h1 hij h2 hb 8 1 f hv hc (by omega) (by omega)

