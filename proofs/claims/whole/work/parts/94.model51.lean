/-! ===== the reference: clauses, texts ===== -/
theorem ER_snoc {f g : Int → Int} {q x : Int} {el : List (Int × Int × Int)} {e : Int × Int × Int} (hx : x = 681 * q + 1 + 3 * (el.length : Int)) (he : ∀ y : Int, 681 * q < y → y < x → g y = f y) (hh : ER f q el) (hn : CLr g x e) : ER g q (el ++ [e]) := by
  intro i hi
  rw [List.length_append] at hi
  have hi : i < el.length + 1 := hi
  by_cases ei : i = el.length
  · subst ei
    rw [getD_append_r, ← hx]
    exact hn
  · rw [getD_append_l (by omega)]
    have h1 := hh i (by omega)
    unfold CLr at h1 ⊢
    rw [he _ (by omega) (by omega), he _ (by omega) (by omega), he _ (by omega) (by omega)]
    exact h1
def clO (s on : Int) : Int := if s ≤ 1 then bor on (bsh s) else on
def clf (B : Nat → Int) (c : Nat) (el : List (Int × Int × Int)) (on : Int) (cd : List (Int × Int)) : Int × Nat := if srK (kd B c) < 0 then (1, c) else if srK (kd B c) ≤ 1 ∧ on / 2 ^ (srK (kd B c)).toNat % 2 = 1 then (4, c) else if el.length = 24 then (6, c) else cl1 B (srK (kd B c)) c cd
theorem srK_B (k : Int) : -1 ≤ srK k ∧ srK k ≤ 6 := by
  unfold srK
  repeat' split
  all_goals omega
theorem RS.of {B : Nat → Int} {T T1 : Nat → Int → Int} {q : Int} {c c1 : Nat} {cd : List (Int × Int)} (hs : RS B T q c cd) (ht : TS B T1 c1) (e12 : T1 36 12 = T 36 12) (e13 : T1 36 13 = T 36 13) (e : ∀ y : Int, 681 * q + 73 ≤ y → T1 39 y = T 39 y) : RS B T1 q c1 cd := ⟨ht, e12.trans hs.2.1, e13.trans hs.2.2.1, CDd_out hs.2.2.2 e⟩
def CQ (B : Nat → Int) (S T : Nat → Int → Int) (D : List mx_C) (q s : Int) (c : Nat) (cd : List (Int × Int)) (el : List (Int × Int × Int)) (on : Int) (r : Int × Nat) (v : Int) (hp' : List mx_C) : Prop := ∃ T', hp' = W5 S T' D ∧ v = r.1 ∧ TS B T' r.2 ∧ XF q T T' ∧ (v = 0 → RT B T' q r.2 (clE B s c cd el) on (bdy B s (lxe B c) cd).2.2.2)
theorem sy_B {B : Nat → Int} {s0 : Int} : ∀ (m c : Nat) (cd : List (Int × Int)) (ps : List Int) (wh : Int), 0 ≤ (sy B s0 m c cd ps wh).1 ∧ (sy B s0 m c cd ps wh).1 ≤ 100 := by
  intro m
  induction m with
  | zero => intro c cd ps wh; show (0 : Int) ≤ 1 ∧ (1 : Int) ≤ 100; omega
  | succ m ih =>
    intro c cd ps wh
    rw [sy]
    split
    · split
      · exact ih _ _ _ _
      · have := bgf_B (kd B c) (lxn B c) s0 ps
        show 0 ≤ bgf _ _ _ _ ∧ bgf _ _ _ _ ≤ 100
        omega
    · split
      · exact ih _ _ _ _
      · split
        · show (0 : Int) ≤ 1 ∧ (1 : Int) ≤ 100; omega
        · show (0 : Int) ≤ 0 ∧ (0 : Int) ≤ 100; omega
theorem jnf_B (B : Nat → Int) (c : Nat) : 0 ≤ (jnf B c).1 ∧ (jnf B c).1 ≤ 100 := by
  have h1 := fig_B (kd B c) (lxn B c) 1 8
  have h2 := fig_B (kd B (lxe B (lxe B c))) (lxn B (lxe B (lxe B c))) 0 15
  unfold jnf
  split
  · split
    · split
      · show (0 : Int) ≤ 0 ∧ (0 : Int) ≤ 100; omega
      · show 0 ≤ fig _ _ _ _ ∧ fig _ _ _ _ ≤ 100; omega
    · show (0 : Int) ≤ 1 ∧ (1 : Int) ≤ 100; omega
  · show 0 ≤ fig _ _ _ _ ∧ fig _ _ _ _ ≤ 100; omega
theorem bdy_B {B : Nat → Int} {s : Int} {c : Nat} {cd : List (Int × Int)} : 0 ≤ (bdy B s c cd).1 ∧ (bdy B s c cd).1 ≤ 100 := by
  have hf : ∀ lo top : Int, 0 ≤ (fgs B c cd lo top).1 ∧ (fgs B c cd lo top).1 ≤ 100 := fun lo top => by
    have := fig_B (kd B c) (lxn B c) lo top
    show 0 ≤ fig _ _ _ _ ∧ fig _ _ _ _ ≤ 100
    omega
  unfold bdy
  split
  · exact hf _ _
  · split
    · exact jnf_B B c
    · split
      · exact hf _ _
      · split
        · show (0 : Int) ≤ 0 ∧ (0 : Int) ≤ 100; omega
        · split
          · exact hf _ _
          · exact sy_B _ _ _ _ _
theorem cl_65 {E : mx_E} {S T : Nat → Int → Int} {D : List mx_C} {Tb : Nat → Int → Int} {B : Nat → Int} {q s on : Int} (h_q : 0 ≤ q ∧ q ≤ 3) (h_s : 0 ≤ s ∧ s ≤ 6) {c : Nat} {cd : List (Int × Int)} {el : List (Int × Int × Int)} (hb : XF q Tb T) (hs : RT B T q c el on cd) (hel : el.length < 24) (hk : ¬ kd B c = 1) (hlt : cd.length ≤ lxp B c) : Ev E yX11_clause cX11_clause 5 (some .int) (kI E 10 (CQ B S Tb D q s c cd el on (cl1 B s c cd))) 0 0 65 [.ref 36, .int (jI s), .int (jI (el.length : Int)), .retAddr 0, .retAddr 0] [] (W5 S T D) := by
  have h12 := hs.1.2.1
  have hnx := lx_next hk
  refine L_a0 dX11_clause_65 ?_
  refine L_i1 dX11_clause_66 ?_
  refine PW_36_14 fX11_162 dX11_clause_67 ?_
  refine L_a0 dX11_clause_70 ?_
  have hs1 : TS B (upS T 36 (up (T 36) 14 s)) c := hs.1.1.of (fun j hj => uf36 (by omega)) (upS_n (by decide))
  refine C_v0U vX11_185 dX11_clause_71 (qX11_nextToken (T := (upS T 36 (up (T 36) 14 s))) (c := lxe B c) hs1.2.2.1 hs1.1.2.1 hs1.2.2.2) rfl rfl (Nat.le_of_ble_eq_true rfl) (by decide) (fun hp71 hq71 => ?_)
  obtain ⟨T71, rfl, hN71, hct71⟩ := hq71
  have hs2 := hs1.nx hN71 hct71
  have e71 : ∀ j : Int, (j < 7 ∨ 11 < j) → ¬ j = 14 → T71 36 j = T 36 j := fun j hj h14 => (hN71.2 j hj).trans (uf36 h14)
  have f71 : T71 39 = T 39 := (hN71.1 39 (by decide)).trans (upS_n (by decide))
  have h14 : T71 36 14 = s := (hN71.2 14 (by omega)).trans (by rw [upS_s, up_s])
  refine L_a0 dX11_clause_74 ?_
  refine GW_36_12 fX11_152 dX11_clause_75 ?_
  refine J_eqi (b := 681 * q) ((e71 12 (by omega) (by decide)).trans h12) ?_
  refine J_iconst dX11_clause_78 ?_
  refine J_iadd dX11_clause_79 ?_
  refine J_iconst dX11_clause_80 ?_
  refine L_i2 dX11_clause_81 ?_
  refine J_imul dX11_clause_82 ?_
  refine J_iadd dX11_clause_83 ?_
  refine S_i3 dX11_clause_84 (by decide) rfl ?_
  refine L_a0 dX11_clause_85 ?_
  refine GW_36_2 fX11_16 dX11_clause_86 ?_
  refine L_i3 dX11_clause_89 ?_
  refine L_i1 dX11_clause_90 ?_
  refine AS_39 dX11_clause_91 (by omega) ?_
  refine L_a0 dX11_clause_92 ?_
  refine L_i1 dX11_clause_93 ?_
  refine L_i3 dX11_clause_94 ?_
  have hs3 : RS B (upS T71 39 (up (T71 39) (681 * q + 1 + 3 * (el.length : Int)) s)) q (lxe B c) cd := hs.1.of (hs2.of (fun j _ => congrFun (upS_n (by decide)) j) (upS_n (by decide))) (by rw [upS_n (by decide)]; exact e71 12 (by omega) (by decide)) (by rw [upS_n (by decide)]; exact e71 13 (by omega) (by decide)) (fun y hy => by rw [upS_s, up_n (by omega), f71])
  refine C_v2I vX11_255 dX11_clause_95 (qX11_body (T := (upS T71 39 (up (T71 39) (681 * q + 1 + 3 * (el.length : Int)) s))) (s := s) h_q (by rw [upS_n (by decide)]; exact h14) h_s (by omega) hs3 (by omega)) rfl rfl (Nat.le_of_ble_eq_true rfl) (by decide) (fun v95 hp95 hq95 => ?_)
  obtain ⟨T95, rfl, e95, hr95, g95, hh95⟩ := hq95
  have n0 : T95 39 (681 * q) = (el.length : Int) := by rw [g95.2.2 _ (by omega), upS_s, up_n (by omega), f71]; exact hs.2.1
  have hX : XF q T T95 := (XF_36 (by omega)).trans (hN71.xf.trans ((XF_39 (by omega)).trans (g95.xf (by omega))))
  have m95 : 0 ≤ (bdy B s (lxe B c) cd).1 ∧ (bdy B s (lxe B c) cd).1 ≤ 100 := by first | exact bdy_B | omega
  refine S_i4 dX11_clause_98 (by decide) rfl ?_
  refine L_i4 dX11_clause_100 ?_
  refine J_if_eq 108 dX11_clause_102 rfl (by omega) (fun c102 => ?_) (fun c102 => ?_)
  · refine L_a0 dX11_clause_108 ?_
    refine GW_36_2 fX11_16 dX11_clause_109 ?_
    refine L_a0 dX11_clause_112 ?_
    refine GW_36_12 fX11_152 dX11_clause_113 ?_
    refine J_eqi (b := 681 * q) hr95.2.1 ?_
    refine E_dup2 dX11_clause_116 rfl rfl ?_
    refine AR_39 dX11_clause_117 (by omega) ?_
    refine J_eqi (b := (el.length : Int)) n0 ?_
    refine J_iconst dX11_clause_118 ?_
    refine J_iadd dX11_clause_119 ?_
    refine AS_39 dX11_clause_120 (by omega) ?_
    have hs4 : RS B (upS T95 39 (up (T95 39) (681 * q) ((el.length : Int) + 1))) q (bdy B s (lxe B c) cd).2.1 (bdy B s (lxe B c) cd).2.2.2 := hr95.of (hr95.1.of (fun j _ => congrFun (upS_n (by decide)) j) (upS_n (by decide))) (congrFun (upS_n (by decide)) 12) (congrFun (upS_n (by decide)) 13) (fun y hy => by rw [upS_s, up_n (by omega)])
    have hX4 : XF q Tb (upS T95 39 (up (T95 39) (681 * q) ((el.length : Int) + 1))) := hb.trans (hX.trans (XF_39 (by omega)))
    have ht4 := lxt_B hs4.1.hB (bdy B s (lxe B c) cd).2.1
    have hb0 : (bdy B s (lxe B c) cd).1 = 0 := by omega
    refine L_a0 dX11_clause_121 ?_
    refine GW_36_9 fX11_114 dX11_clause_122 ?_
    refine J_eqi (b := lxt B (bdy B s (lxe B c) cd).2.1) hs4.1.1.2.2.1 ?_
    refine J_bipush dX11_clause_125 (by decide) ?_
    refine J_icmp_eq 132 dX11_clause_127 rfl (by omega) (by omega) (fun c127 => ?_) (fun c127 => ?_)
    · refine L_a0 dX11_clause_132 ?_
      refine C_v0U vX11_185 dX11_clause_133 (qX11_nextToken (T := (upS T95 39 (up (T95 39) (681 * q) ((el.length : Int) + 1)))) (c := lxe B (bdy B s (lxe B c) cd).2.1) hs4.1.2.2.1 hs4.1.1.2.1 hs4.1.2.2.2) rfl rfl (Nat.le_of_ble_eq_true rfl) (by decide) (fun hp133 hq133 => ?_)
      obtain ⟨T133, rfl, hN133, hct133⟩ := hq133
      refine J_iconst dX11_clause_136 ?_
      exact RQ_i rfl dX11_clause_137 (by
        rw [show cl1 B s c cd = (0, lxe B (bdy B s (lxe B c) cd).2.1) from by unfold cl1; rw [if_pos hb0, if_pos (kd_40.mpr c127)]]
        have hs5 := hs4.1.nx hN133 hct133
        have f133 : ∀ y : Int, ¬ y = 681 * q → T133 39 y = T95 39 y := fun y hy => by rw [hN133.1 39 (by decide), upS_s, up_n hy]
        refine ⟨_, rfl, rfl, hs5, hX4.trans hN133.xf, fun _ => ⟨hs4.of hs5 (hN133.2 12 (by omega)) (hN133.2 13 (by omega)) (fun y _ => by rw [hN133.1 39 (by decide)]), ?_, ?_, ?_⟩⟩
        · rw [hN133.1 39 (by decide), upS_s, up_s]; unfold clE; rw [List.length_append]; rfl
        · rw [hN133.2 19 (by omega), upS_n (by decide), g95.2.1 19 (by omega), upS_n (by decide), e71 19 (by omega) (by decide)]; exact hs.2.2.1
        · have hc := hh95 (by omega)
          refine ER_snoc rfl (fun y h1 h2 => ?_) hs.2.2.2 ⟨?_, fun a => ?_, fun a => ?_⟩
          · rw [f133 y (by omega), g95.2.2 y (by omega), upS_s, up_n (by omega), f71]
          · rw [f133 _ (by omega), g95.2.2 _ (by omega), upS_s, up_s]
          · rw [f133 _ (by omega)]; exact hc.1 a
          · rw [f133 _ (by omega)]; exact hc.2 a)
    · refine J_iconst dX11_clause_130 ?_
      exact RQ_i rfl dX11_clause_131 (by
        rw [show cl1 B s c cd = (1, (bdy B s (lxe B c) cd).2.1) from by unfold cl1; rw [if_pos hb0, if_neg (fun e => c127 (kd_40.mp e))]]
        exact ⟨_, rfl, rfl, hs4.1, hX4, fun e => absurd e (by decide)⟩)
  · refine L_i4 dX11_clause_105 ?_
    exact RQ_i rfl dX11_clause_107 (by
      rw [show cl1 B s c cd = ((bdy B s (lxe B c) cd).1, (bdy B s (lxe B c) cd).2.1) from by unfold cl1; rw [if_neg (by omega)]]
      exact ⟨T95, rfl, e95, hr95.1, hb.trans hX, fun e => absurd e c102⟩)
set_option maxRecDepth 100000 in
theorem qX11_clause {S T : Nat → Int → Int} {D : List mx_C} {B : Nat → Int} {q on : Int} (h_q : 0 ≤ q ∧ q ≤ 3) (h_o : 0 ≤ on ∧ on ≤ 3) {c : Nat} {cd : List (Int × Int)} {el : List (Int × Int × Int)} (hs : RT B T q c el on cd) (hel : el.length ≤ 24) (hlt : cd.length ≤ lxp B c) : SpI yX11_clause cX11_clause 5 (some .int) 10 [.ref 36] (W5 S T D) (CQ B S T D q (srK (kd B c)) c cd el (clO (srK (kd B c)) on) (clf B c el on cd)) := by
  have hsb := srK_B (kd B c)
  have h12 := hs.1.2.1
  have hbn := bsh_nn (srK (kd B c))
  refine Sp.of [.ref 36, .retAddr 0, .retAddr 0, .retAddr 0, .retAddr 0] (by decide) (by simp) (Nat.le_of_ble_eq_true rfl) rfl (fun E => ?_)
  refine L_a0 dX11_clause_0 ?_
  refine C_v0F vX11_245 dX11_clause_1 (qX11_sortOf hs.1.1.1 hs.1.1.hB hs.1.1.2.1 hs.1.1.2.2.1 hs.1.1.2.2.2) rfl rfl (Nat.le_of_ble_eq_true rfl) (by decide) ?_
  refine J_eqi (b := (srK (kd B c))) (srR_kd B c) ?_
  refine S_i1 dX11_clause_4 (by decide) rfl ?_
  refine L_i1 dX11_clause_5 ?_
  refine J_if_ge 11 dX11_clause_6 rfl (by omega) (fun c6 => ?_) (fun c6 => ?_)
  · have hk : ¬ kd B c = 1 := fun e => by rw [e] at c6; exact absurd c6 (by decide)
    refine L_i1 dX11_clause_11 ?_
    refine J_iconst dX11_clause_12 ?_
    refine J_icmp_gt 29 dX11_clause_13 rfl (by omega) (by omega) (fun c13 => ?_) (fun c13 => ?_)
    · refine L_a0 dX11_clause_29 ?_
      refine GW_36_2 fX11_16 dX11_clause_30 ?_
      refine L_a0 dX11_clause_33 ?_
      refine GW_36_12 fX11_152 dX11_clause_34 ?_
      refine J_eqi (b := 681 * q) h12 ?_
      refine AR_39 dX11_clause_37 (by omega) ?_
      refine J_eqi (b := (el.length : Int)) hs.2.1 ?_
      refine S_i2 dX11_clause_38 (by decide) rfl ?_
      refine L_i2 dX11_clause_39 ?_
      refine J_bipush dX11_clause_40 (by decide) ?_
      refine J_icmp_ne 48 dX11_clause_42 rfl (by omega) (by omega) (fun c42 => ?_) (fun c42 => ?_)
      · refine L_i1 dX11_clause_48 ?_
        refine J_iconst dX11_clause_49 ?_
        refine J_icmp_gt 65 dX11_clause_50 rfl (by omega) (by omega) (fun c50 => ?_) (fun c50 => ?_)
        · rw [show (clf B c el on cd) = cl1 B (srK (kd B c)) c cd from by unfold clf; rw [if_neg (by omega), if_neg (fun e => by omega), if_neg (by omega)], show clO (srK (kd B c)) on = on from if_neg (by omega)]
          exact cl_65 h_q (by omega) (XF.refl q T) hs (by omega) hk hlt
        · refine L_a0 dX11_clause_53 ?_
          refine E_dup dX11_clause_54 rfl ?_
          refine GW_36_19 fX11_248 dX11_clause_55 ?_
          refine J_eqi (b := on) hs.2.2.1 ?_
          refine J_iconst dX11_clause_58 ?_
          refine L_i1 dX11_clause_59 ?_
          refine J_1shl dX11_clause_60 (by omega) ?_
          refine J_iorG dX11_clause_61 (by omega) (by omega) ?_
          refine PW_36_19 fX11_248 dX11_clause_62 ?_
          exfalso; omega
      · refine J_bipush dX11_clause_45 (by decide) ?_
        exact RQ_i rfl dX11_clause_47 (by first | exact ⟨T, rfl, by unfold clf; rw [if_neg (by omega), if_neg (fun e => c24 e.2), if_pos (by omega)], by rw [show (clf B c el on cd) = (6, c) from by unfold clf; rw [if_neg (by omega), if_neg (fun e => c24 e.2), if_pos (by omega)]]; exact hs.1.1, XF.refl q T, fun e => absurd e (by decide)⟩ | exact ⟨T, rfl, by unfold clf; rw [if_neg (by omega), if_neg (fun e => by omega), if_pos (by omega)], by rw [show (clf B c el on cd) = (6, c) from by unfold clf; rw [if_neg (by omega), if_neg (fun e => by omega), if_pos (by omega)]]; exact hs.1.1, XF.refl q T, fun e => absurd e (by decide)⟩)
    · refine L_a0 dX11_clause_16 ?_
      refine GW_36_19 fX11_248 dX11_clause_17 ?_
      refine J_eqi (b := on) hs.2.2.1 ?_
      refine L_i1 dX11_clause_20 ?_
      refine C_s2F vX11_251 dX11_clause_21 (qX11_has (by omega) (by omega)) (Nat.le_of_ble_eq_true rfl) (by decide) ?_
      refine J_ifeqB 29 dX11_clause_24 rfl (fun c24 => ?_) (fun c24 => ?_)
      · refine L_a0 dX11_clause_29 ?_
        refine GW_36_2 fX11_16 dX11_clause_30 ?_
        refine L_a0 dX11_clause_33 ?_
        refine GW_36_12 fX11_152 dX11_clause_34 ?_
        refine J_eqi (b := 681 * q) h12 ?_
        refine AR_39 dX11_clause_37 (by omega) ?_
        refine J_eqi (b := (el.length : Int)) hs.2.1 ?_
        refine S_i2 dX11_clause_38 (by decide) rfl ?_
        refine L_i2 dX11_clause_39 ?_
        refine J_bipush dX11_clause_40 (by decide) ?_
        refine J_icmp_ne 48 dX11_clause_42 rfl (by omega) (by omega) (fun c42 => ?_) (fun c42 => ?_)
        · refine L_i1 dX11_clause_48 ?_
          refine J_iconst dX11_clause_49 ?_
          refine J_icmp_gt 65 dX11_clause_50 rfl (by omega) (by omega) (fun c50 => ?_) (fun c50 => ?_)
          · exfalso; omega
          · refine L_a0 dX11_clause_53 ?_
            refine E_dup dX11_clause_54 rfl ?_
            refine GW_36_19 fX11_248 dX11_clause_55 ?_
            refine J_eqi (b := on) hs.2.2.1 ?_
            refine J_iconst dX11_clause_58 ?_
            refine L_i1 dX11_clause_59 ?_
            refine J_1shl dX11_clause_60 (by omega) ?_
            refine J_iorG dX11_clause_61 (by omega) (by omega) ?_
            refine PW_36_19 fX11_248 dX11_clause_62 ?_
            rw [show (clf B c el on cd) = cl1 B (srK (kd B c)) c cd from by unfold clf; rw [if_neg (by omega), if_neg (fun e => c24 e.2), if_neg (by omega)], show clO (srK (kd B c)) on = bor on (bsh (srK (kd B c))) from if_pos (by omega)]
            exact cl_65 h_q (by omega) (XF_36 (by omega)) ⟨hs.1.of (hs.1.1.of (fun j hj => uf36 (by omega)) (upS_n (by decide))) (uf36 (by decide)) (uf36 (by decide)) (fun y _ => congrFun (upS_n (by decide)) y), by rw [upS_n (by decide)]; exact hs.2.1, by rw [upS_s, up_s], by rw [upS_n (by decide)]; exact hs.2.2.2⟩ (by omega) hk hlt
        · refine J_bipush dX11_clause_45 (by decide) ?_
          exact RQ_i rfl dX11_clause_47 (by first | exact ⟨T, rfl, by unfold clf; rw [if_neg (by omega), if_neg (fun e => c24 e.2), if_pos (by omega)], by rw [show (clf B c el on cd) = (6, c) from by unfold clf; rw [if_neg (by omega), if_neg (fun e => c24 e.2), if_pos (by omega)]]; exact hs.1.1, XF.refl q T, fun e => absurd e (by decide)⟩ | exact ⟨T, rfl, by unfold clf; rw [if_neg (by omega), if_neg (fun e => by omega), if_pos (by omega)], by rw [show (clf B c el on cd) = (6, c) from by unfold clf; rw [if_neg (by omega), if_neg (fun e => by omega), if_pos (by omega)]]; exact hs.1.1, XF.refl q T, fun e => absurd e (by decide)⟩)
      · refine J_iconst dX11_clause_27 ?_
        exact RQ_i rfl dX11_clause_28 ⟨T, rfl, by unfold clf; rw [if_neg (by omega), if_pos ⟨by omega, c24⟩], by rw [show (clf B c el on cd) = (4, c) from by unfold clf; rw [if_neg (by omega), if_pos ⟨by omega, c24⟩]]; exact hs.1.1, XF.refl q T, fun e => absurd e (by decide)⟩
  · refine J_iconst dX11_clause_9 ?_
    exact RQ_i rfl dX11_clause_10 ⟨T, rfl, by unfold clf; rw [if_pos (by omega)], by rw [show (clf B c el on cd) = (1, c) from by unfold clf; rw [if_pos (by omega)]]; exact hs.1.1, XF.refl q T, fun e => absurd e (by decide)⟩

