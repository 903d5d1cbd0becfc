/-! ===== the reference: a way is kept ===== -/
/-- what is kept of place i in the ways so far -/
def KWj (T : Nat → Int → Int) (ws : List (List Nat)) (i : Nat) : Prop := (bt (T 36 33) i ↔ ∀ w ∈ ws, w.getD i 0 = (ws.headD []).getD i 0) ∧ (ws ≠ [] → T 51 i = (((ws.headD []).getD i 0 : Nat) : Int))
theorem KWj_first {T T' : Nat → Int → Int} {w : List Nat} {i : Nat} (h : KWj T [] i) (e33 : T' 36 33 = T 36 33) (e51 : T' 51 i = ((w.getD i 0 : Nat) : Int)) : KWj T' ([] ++ [w]) i := by
  refine ⟨?_, fun _ => e51⟩
  rw [e33]
  constructor
  · intro _ v hv
    rw [List.nil_append, List.mem_singleton] at hv
    rw [hv]; rfl
  · intro _
    exact h.1.mpr (fun v hv => by cases hv)
theorem headD_app {ws : List (List Nat)} (h : ws ≠ []) (w : List Nat) : (ws ++ [w]).headD [] = ws.headD [] := by
  cases ws with
  | nil => exact absurd rfl h
  | cons a l => rfl
theorem KWj_same {T T' : Nat → Int → Int} {ws : List (List Nat)} {w : List Nat} {i : Nat} (hne : ws ≠ []) (h : KWj T ws i) (e33 : T' 36 33 = T 36 33) (e51 : T' 51 i = T 51 i) (hw : w.getD i 0 = (ws.headD []).getD i 0) : KWj T' (ws ++ [w]) i := by
  unfold KWj
  rw [headD_app hne, e33, e51]
  refine ⟨?_, fun _ => h.2 hne⟩
  rw [h.1]
  constructor
  · intro g v hv
    rcases List.mem_append.mp hv with hv | hv
    · exact g v hv
    · rw [List.mem_singleton] at hv; rw [hv]; exact hw
  · intro g v hv
    exact g v (List.mem_append_left _ hv)
theorem KWj_diff {T T' : Nat → Int → Int} {ws : List (List Nat)} {w : List Nat} {i : Nat} (hne : ws ≠ []) (h : KWj T ws i) (e33 : T' 36 33 = bdf (T 36 33) (bsh i)) (e51 : T' 51 i = T 51 i) (hw : ¬ w.getD i 0 = (ws.headD []).getD i 0) : KWj T' (ws ++ [w]) i := by
  unfold KWj
  rw [headD_app hne, e33, e51]
  refine ⟨?_, fun _ => h.2 hne⟩
  rw [bt_bdf]
  constructor
  · intro g
    exact absurd ((bt_bsh (by omega)).mpr rfl) g.2
  · intro g
    exact absurd (g w (List.mem_append_right _ (List.mem_singleton.mpr rfl))) hw
theorem KWj_keep {T T' : Nat → Int → Int} {ws : List (List Nat)} {i : Nat} (h : KWj T ws i) (e33 : bt (T' 36 33) i ↔ bt (T 36 33) i) (e51 : T' 51 i = T 51 i) : KWj T' ws i := by
  unfold KWj
  rw [e33, e51]
  exact h
set_option maxRecDepth 100000 in
theorem lX11_keepWay {E : mx_E} {S T : Nat → Int → Int} {D : List mx_C} {mm : Nat} {n : Int} {w : List Nat} {ws : List (List Nat)} (hmm : T 36 32 = (mm : Int)) (hm8 : mm ≤ 8) (hw : ∀ i : Nat, i < mm → (0 ≤ T 50 i ∧ T 50 i < 16) ∧ T 48 (16 * (i : Int) + T 50 i) = ((w.getD i 0 : Nat) : Int)) (hwB : ∀ i : Nat, w.getD i 0 < 65536) (hsB : ∀ i : Nat, (ws.headD []).getD i 0 < 65536) (hn : n = (ws.length : Int)) (hnB : n < 4611686018427387904) : ∀ (m : Nat) (k : Int) (T1 : Nat → Int → Int) (u4 : Value), u4.category = 1 → k + m = mm → 0 ≤ k → Fr [36, 51] T T1 → (∀ j, ¬ j = 33 → T1 36 j = T 36 j) → (0 ≤ T1 36 33 ∧ T1 36 33 < 256) → (∀ j : Nat, (j : Int) < k → KWj T1 (ws ++ [w]) j) → (∀ j : Nat, k ≤ (j : Int) ∧ j < mm → KWj T1 ws j) → Ev E yX11_keepWay cX11_keepWay 5 none (kU E 1 (fun hp' => ∃ T', hp' = W5 S T' D ∧ Fr [36, 51] T T' ∧ (∀ j, ¬ j = 33 → T' 36 j = T 36 j) ∧ (0 ≤ T' 36 33 ∧ T' 36 33 < 256) ∧ ∀ i : Nat, i < mm → KWj T' (ws ++ [w]) i)) 0 0 2 [.ref 36, .long (jL n), .retAddr 0, .int (jI k), u4] [] (W5 S T1 D) := by
  intro m
  induction m with
  | zero =>
    intro k T1 u4 hu4 hk hk0 f1 o1 hal ha hb
    refine L_i3 dX11_keepWay_2 ?_
    refine L_a0 dX11_keepWay_3 ?_
    refine GW_36_32 fX11_398 dX11_keepWay_4 ?_
    refine J_eqi (b := (mm : Int)) ((o1 32 (by decide)).trans hmm) ?_
    refine J_icmp_ge 73 dX11_keepWay_7 rfl (by omega) (by omega) (fun c7 => ?_) (fun c7 => ?_)
    · exact RQ_v rfl dX11_keepWay_73 ⟨T1, rfl, f1, o1, hal, fun i hi => ha i (by omega)⟩
    · exfalso; omega
  | succ m ih =>
    intro k T1 u4 hu4 hk hk0 f1 o1 hal ha hb
    obtain ⟨i, rfl⟩ : ∃ i : Nat, k = i := ⟨k.toNat, by omega⟩
    have h50 := f1 50 (by decide)
    have h48 := f1 48 (by decide)
    have h32 := (o1 32 (by decide)).trans hmm
    have hwi := hw i (by omega)
    have hwb := hwB i
    have hsb := hsB i
    have hki := hb i (by omega)
    refine L_i3 dX11_keepWay_2 ?_
    refine L_a0 dX11_keepWay_3 ?_
    refine GW_36_32 fX11_398 dX11_keepWay_4 ?_
    refine J_eqi (b := (mm : Int)) h32 ?_
    refine J_icmp_ge 73 dX11_keepWay_7 rfl (by omega) (by omega) (fun c7 => ?_) (fun c7 => ?_)
    · exfalso; omega
    · refine L_a0 dX11_keepWay_10 ?_
      refine GW_36_28 fX11_56 dX11_keepWay_11 ?_
      refine J_bipush dX11_keepWay_14 (by decide) ?_
      refine L_i3 dX11_keepWay_16 ?_
      refine J_imul dX11_keepWay_17 ?_
      refine L_a0 dX11_keepWay_18 ?_
      refine GW_36_30 fX11_62 dX11_keepWay_19 ?_
      refine L_i3 dX11_keepWay_22 ?_
      refine AR_50 dX11_keepWay_23 (by omega) ?_
      refine J_eqi (b := T 50 i) (by rw [h50]) ?_
      refine J_iadd dX11_keepWay_24 ?_
      refine AR_48 dX11_keepWay_25 (by omega) ?_
      refine J_eqi (b := ((w.getD i 0 : Nat) : Int)) (by rw [h48]; exact hwi.2) ?_
      refine S_i4 dX11_keepWay_26 (by decide) (by rfl) ?_
      refine L_l1 dX11_keepWay_28 ?_
      refine J_lconst 0 dX11_keepWay_29 (by decide) ?_
      refine JL_ne 42 dX11_keepWay_30 dX11_keepWay_31 rfl (by omega) (by omega) (fun c31 => ?_) (fun c31 => ?_)
      · refine L_a0 dX11_keepWay_42 ?_
        refine GW_36_31 fX11_65 dX11_keepWay_43 ?_
        refine L_i3 dX11_keepWay_46 ?_
        refine AR_51 dX11_keepWay_47 (by omega) ?_
        have hne : ws ≠ [] := by intro h; rw [h] at hn; exact c31 (by rw [hn]; rfl)
        refine J_eqi (b := (((ws.headD []).getD i 0 : Nat) : Int)) (hki.2 hne) ?_
        refine L_i4 dX11_keepWay_48 ?_
        refine J_icmp_eq 67 dX11_keepWay_50 rfl (by omega) (by omega) (fun c50 => ?_) (fun c50 => ?_)
        · refine JI_3 dX11_keepWay_67 (by decide) rfl ?_
          refine E_goto 2 dX11_keepWay_70 rfl ?_
          exact ih ((i : Int) + 1) T1 _ rfl (by omega) (by omega) f1 o1 hal (fun j hj => by
            by_cases h : j = i
            · subst h; exact KWj_same hne hki rfl rfl (by omega)
            · exact ha j (by omega)) (fun j hj => by exact hb j (by omega))
        · refine L_a0 dX11_keepWay_53 ?_
          refine E_dup dX11_keepWay_54 rfl ?_
          refine GW_36_33 fX11_404 dX11_keepWay_55 ?_
          refine J_iconst dX11_keepWay_58 ?_
          refine L_i3 dX11_keepWay_59 ?_
          refine J_1shl dX11_keepWay_60 (by omega) ?_
          refine J_iconst dX11_keepWay_61 ?_
          refine J_inot dX11_keepWay_62 ?_
          refine J_iandD dX11_keepWay_63 hal.1 (bsh_nn _) ?_
          refine PW_36_33 fX11_404 dX11_keepWay_64 ?_
          refine JI_3 dX11_keepWay_67 (by decide) rfl ?_
          refine E_goto 2 dX11_keepWay_70 rfl ?_
          exact ih ((i : Int) + 1) (upS T1 36 (up (T1 36) 33 (bdf (T1 36 33) (bsh i)))) _ rfl (by omega) (by omega) (f1.trans (Fr_up _ _ (by decide))) (fun j hj => by rw [upS_s, up_n hj]; exact o1 j hj) (by rw [upS_s, up_s]; have := bdf_le (T1 36 33) (bsh i) hal.1; have := bdf_nn (T1 36 33) (bsh i); omega) (fun j hj => by
            by_cases h : j = i
            · subst h; exact (KWj_diff hne hki (by rw [upS_s, up_s]) rfl (by omega))
            · exact KWj_keep (ha j (by omega)) (by rw [upS_s, up_s, bt_bdf, bt_bsh (by omega)]; constructor; (intro g; exact g.1); (intro g; exact ⟨g, by omega⟩)) rfl) (fun j hj => by exact KWj_keep (hb j (by omega)) (by rw [upS_s, up_s, bt_bdf, bt_bsh (by omega)]; constructor; (intro g; exact g.1); (intro g; exact ⟨g, by omega⟩)) rfl)
      · refine L_a0 dX11_keepWay_34 ?_
        refine GW_36_31 fX11_65 dX11_keepWay_35 ?_
        refine L_i3 dX11_keepWay_38 ?_
        refine L_i4 dX11_keepWay_39 ?_
        refine AS_51 dX11_keepWay_41 (by omega) ?_
        refine L_a0 dX11_keepWay_42 ?_
        refine GW_36_31 fX11_65 dX11_keepWay_43 ?_
        refine L_i3 dX11_keepWay_46 ?_
        refine AR_51 dX11_keepWay_47 (by omega) ?_
        have hnil : ws = [] := List.eq_nil_of_length_eq_zero (by omega)
        refine J_eqi (b := ((w.getD i 0 : Nat) : Int)) (by rw [upS_s, up_s]) ?_
        refine L_i4 dX11_keepWay_48 ?_
        refine J_icmp_eq 67 dX11_keepWay_50 rfl (by omega) (by omega) (fun c50 => ?_) (fun c50 => ?_)
        · refine JI_3 dX11_keepWay_67 (by decide) rfl ?_
          refine E_goto 2 dX11_keepWay_70 rfl ?_
          exact ih ((i : Int) + 1) (upS T1 51 (up (T1 51) i ((w.getD i 0 : Nat) : Int))) _ rfl (by omega) (by omega) (f1.trans (Fr_up _ _ (by decide))) (fun j hj => by rw [upS_n (by decide)]; exact o1 j hj) hal (fun j hj => by
            by_cases h : j = i
            · subst h; exact (by rw [hnil]; rw [hnil] at hki; exact KWj_first hki rfl (by rw [upS_s, up_s]))
            · exact KWj_keep (ha j (by omega)) Iff.rfl (by rw [upS_s, up_n (by omega)])) (fun j hj => by exact KWj_keep (hb j (by omega)) Iff.rfl (by rw [upS_s, up_n (by omega)]))
        · refine L_a0 dX11_keepWay_53 ?_
          refine E_dup dX11_keepWay_54 rfl ?_
          refine GW_36_33 fX11_404 dX11_keepWay_55 ?_
          refine J_iconst dX11_keepWay_58 ?_
          refine L_i3 dX11_keepWay_59 ?_
          refine J_1shl dX11_keepWay_60 (by omega) ?_
          refine J_iconst dX11_keepWay_61 ?_
          refine J_inot dX11_keepWay_62 ?_
          refine J_iandD dX11_keepWay_63 hal.1 (bsh_nn _) ?_
          refine PW_36_33 fX11_404 dX11_keepWay_64 ?_
          refine JI_3 dX11_keepWay_67 (by decide) rfl ?_
          refine E_goto 2 dX11_keepWay_70 rfl ?_
          exact absurd rfl c50

set_option maxRecDepth 100000 in
theorem qX11_keepWay {S T : Nat → Int → Int} {D : List mx_C} {mm : Nat} {n : Int} {w : List Nat} {ws : List (List Nat)} (hmm : T 36 32 = (mm : Int)) (hm8 : mm ≤ 8) (hw : ∀ i : Nat, i < mm → (0 ≤ T 50 i ∧ T 50 i < 16) ∧ T 48 (16 * (i : Int) + T 50 i) = ((w.getD i 0 : Nat) : Int)) (hwB : ∀ i : Nat, w.getD i 0 < 65536) (hsB : ∀ i : Nat, (ws.headD []).getD i 0 < 65536) (hn : n = (ws.length : Int)) (hnB : n < 4611686018427387904) (hal : 0 ≤ T 36 33 ∧ T 36 33 < 256) (hkw : ∀ i : Nat, i < mm → KWj T ws i) : SpU yX11_keepWay cX11_keepWay 5 none 1 [.ref 36, .long (jL n)] (W5 S T D) (fun hp' => ∃ T', hp' = W5 S T' D ∧ Fr [36, 51] T T' ∧ (∀ j, ¬ j = 33 → T' 36 j = T 36 j) ∧ (0 ≤ T' 36 33 ∧ T' 36 33 < 256) ∧ ∀ i : Nat, i < mm → KWj T' (ws ++ [w]) i) := by
  refine Sp.of [.ref 36, .long (jL n), .retAddr 0, .retAddr 0, .retAddr 0] (by decide) (by simp) (Nat.le_of_ble_eq_true rfl) rfl (fun E => ?_)
  refine J_iconst dX11_keepWay_0 ?_
  refine S_i3 dX11_keepWay_1 (by decide) rfl ?_
  exact lX11_keepWay hmm hm8 hw hwB hsB hn hnB mm 0 T _ rfl (by omega) (by omega) (Fr.refl _ _) (fun _ _ => rfl) hal (fun j hj => by omega) (fun j hj => hkw j hj.2)

