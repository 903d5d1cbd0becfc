/-! ===== the reference: behind one, a sum ===== -/
theorem bH_60 {E : mx_E} {S T : Nat → Int → Int} {D : List mx_C} {B : Nat → Int} {q : Int} (h_q : 0 ≤ q ∧ q ≤ 3) {c : Nat} {cd : List (Int × Int)} {ps : List Int} (hs : SY B T q c cd ps 1) (hi : PI B c cd ps) (hn : lxp B c ≤ 300) (hb0 : btK (kd B c) ps < 0) {z : Int} : Ev E yX11_behindOne cX11_behindOne 4 (some .boolean) (kI E 4 (fun v hp' => ∃ T', hp' = W5 S T' D ∧ SGr q T T' ∧ ((bhf (kd B c) ps = false ∧ v = 0 ∧ T' = T) ∨ (bhf (kd B c) ps = true ∧ v = 1 ∧ SY B T' q (lxe B c) (bhs (kd B c) cd ps).1 (bhs (kd B c) cd ps).2.1 (bhs (kd B c) cd ps).2.2)))) 0 0 60 [.ref 36, .int (jI z), .retAddr 0, .retAddr 0] [] (W5 S T D) := by
  have hct := hs.2.1
  have htp := hs.2.2.2.2.1
  have hB : ∀ k, B k ≤ 255 := fun k => by rw [← hs.2.2.2.1]; exact (byF_B htp k).2
  have hvo := okP_vo hi.1
  have hlen := okP_160 hi.1 hi.2.1
  have hsum := hi.2.2
  have h16 := hs.1.2.2.2.1
  have hpl := hs.1.2.2.2.2.1
  have hbB := btK_B (kd B c) ps
  have hpB := ptK_B (opn ps) (kd B c) ps
  have hob := opn_B ps hvo
  have h12 := hs.1.1
  refine L_a0 dX11_behindOne_60 ?_
  refine C_v0F vX11_182 dX11_behindOne_61 (qX11_openNow hvo h16 hpl (by omega)) rfl rfl (Nat.le_of_ble_eq_true rfl) (by decide) ?_
  refine S_i2 dX11_behindOne_64 (by decide) rfl ?_
  refine L_a0 dX11_behindOne_65 ?_
  refine L_i2 dX11_behindOne_66 ?_
  refine C_v1F vX11_220 dX11_behindOne_67 (qX11_partOf hct hB hvo h16 hpl (by omega) (by omega)) rfl rfl (Nat.le_of_ble_eq_true rfl) (by decide) ?_
  refine J_eqi (b := (ptK (opn ps) (kd B c) ps)) (ptR_kd _ B c ps) ?_
  refine S_i3 dX11_behindOne_70 (by decide) rfl ?_
  refine L_i3 dX11_behindOne_71 ?_
  refine J_if_ge 77 dX11_behindOne_72 rfl (by omega) (fun c72 => ?_) (fun c72 => ?_)
  · have hop : 40 ≤ opn ps := hpB.2 (by omega)
    obtain ⟨tl, htl⟩ := stl1_top (ps := ps) cd hop
    refine L_a0 dX11_behindOne_77 ?_
    refine J_iconst dX11_behindOne_78 ?_
    refine C_v1U vX11_197 dX11_behindOne_79 (qX11_settle (T := T) (l := 1) h_q (by omega) hvo hs.1 (by omega) (by omega)) rfl rfl (Nat.le_of_ble_eq_true rfl) (by decide) (fun hp79 hq79 => ?_)
    obtain ⟨T79, rfl, hp79, hz79⟩ := hq79
    refine L_a0 dX11_behindOne_82 ?_
    have hs1 := hs.pf hp79 hz79
    refine C_v0U vX11_185 dX11_behindOne_83 (qX11_nextToken (T := T79) (c := lxe B c) hs1.2.2.2.2.1 hs1.2.1.2.1 hs1.2.2.2.2.2) rfl rfl (Nat.le_of_ble_eq_true rfl) (by decide) (fun hp83 hq83 => ?_)
    obtain ⟨T83, rfl, hN83, hct83⟩ := hq83
    have hs2 : SY B T83 q (lxe B c) (stl 1 ps cd).2 (opn ps :: tl) 1 := by
      have := SY.nx hs1.1 hs1.2.2.1 hs1.2.2.2.1 hs1.2.2.2.2.1 hs1.2.2.2.2.2 hN83 hct83
      rw [htl] at this
      exact this
    have hsl0 := stl_ok (l := 1) (by decide) ps cd hi.1
    rw [htl] at hsl0
    have hvo1 := okP_vo hsl0.1
    have hlt0 := okP_160 hsl0.1 (Int.le_trans hsl0.2.1 hi.2.1)
    rw [List.length_cons] at hlt0
    refine L_i3 dX11_behindOne_86 ?_
    refine J_if_le 107 dX11_behindOne_87 rfl (by omega) (fun c87 => ?_) (fun c87 => ?_)
    · refine L_a0 dX11_behindOne_107 ?_
      refine E_dup dX11_behindOne_108 rfl ?_
      refine GW_36_17 fX11_175 dX11_behindOne_109 ?_
      refine J_eqi (b := cntO (opn ps :: tl)) hs2.1.2.2.2.2.2 ?_
      refine J_iconst dX11_behindOne_112 ?_
      refine J_isub dX11_behindOne_113 ?_
      refine PW_36_17 fX11_175 dX11_behindOne_114 ?_
      refine L_a0 dX11_behindOne_117 ?_
      refine E_dup dX11_behindOne_118 rfl ?_
      refine GW_36_16 fX11_165 dX11_behindOne_119 ?_
      refine J_eqi (b := ((tl.length + 1 : Nat) : Int)) (by rw [← List.length_cons, ← hs2.1.2.2.2.1]; simp [upS, up]) ?_
      refine J_iconst dX11_behindOne_122 ?_
      refine J_isub dX11_behindOne_123 ?_
      refine J_eqi (b := (tl.length : Int)) (by omega) ?_
      refine PW_36_16 fX11_165 dX11_behindOne_124 ?_
      have hzh : PZ (upS (upS T83 36 (up (T83 36) 17 (cntO (opn ps :: tl) - 1))) 36 (up ((upS T83 36 (up (T83 36) 17 (cntO (opn ps :: tl) - 1))) 36) 16 ((tl.length : Int)))) q (stl 1 ps cd).2 tl := by
        refine ⟨?_, ?_, ?_, ?_, ?_, ?_⟩
        · rw [← hs2.1.1]; simp [upS, up]
        · rw [← hs2.1.2.1]; simp [upS, up]
        · have := hs2.1.2.2.1; simpa [upS] using this
        · simp [upS, up]
        · have := hs2.1.2.2.2.2.1.2; simpa [upS] using this
        · rw [cntO, if_pos (Or.inl hop)]; simp [upS, up]
      have hph : PF q T83 (upS (upS T83 36 (up (T83 36) 17 (cntO (opn ps :: tl) - 1))) 36 (up ((upS T83 36 (up (T83 36) 17 (cntO (opn ps :: tl) - 1))) 36) 16 ((tl.length : Int)))) := (PF_36 q T83 (j := 17) (by omega) _).trans (PF_36 q _ (j := 16) (by omega) _)
      have hsh := hs2.pf hph hzh
      have hstl := stl_sum 1 ps cd
      have hsl := stl_ok (l := 1) (by decide) ps cd hi.1
      rw [htl] at hstl hsl
      rw [List.length_cons] at hstl
      have hvt := okP_vo hsl.1.1
      have hlt := okP_160 hsl.1 (Int.le_trans hsl.2.1 hi.2.1)
      rw [List.length_cons] at hlt
      have h12h := hzh.1
      have h13h := hzh.2.1
      refine L_i2 dX11_behindOne_127 ?_
      refine J_bipush dX11_behindOne_128 (by decide) ?_
      refine J_icmp_ne 139 dX11_behindOne_130 rfl (by omega) (by omega) (fun c130 => ?_) (fun c130 => ?_)
      · refine L_a0 dX11_behindOne_139 ?_
        refine J_bipush dX11_behindOne_140 (by decide) ?_
        refine C_v1U vX11_197 dX11_behindOne_142 (qX11_settle (T := (upS (upS T83 36 (up (T83 36) 17 (cntO (opn ps :: tl) - 1))) 36 (up ((upS T83 36 (up (T83 36) 17 (cntO (opn ps :: tl) - 1))) 36) 16 ((tl.length : Int))))) (l := 7) h_q (by omega) hvt hzh (by omega) (by omega)) rfl rfl (Nat.le_of_ble_eq_true rfl) (by decide) (fun hp142 hq142 => ?_)
        obtain ⟨T142, rfl, hp142, hz142⟩ := hq142
        refine J_iconst dX11_behindOne_145 ?_
        exact RQ_z rfl dX11_behindOne_146 (by decide) (by
          refine ⟨T142, rfl, hp79.sg.trans (hN83.sg.trans (hph.sg.trans (hp142.sg))), Or.inr ⟨decide_eq_true (Or.inr (by omega)), rfl, ?_⟩⟩
          have hst : bhs (kd B c) cd ps = ((stl 7 tl (stl 1 ps cd).2).2, (stl 7 tl (stl 1 ps cd).2).1, 1) := by unfold bhs; rw [if_neg (by omega), if_neg (by omega), htl, if_neg c130]; rfl
          rw [hst]
          exact hsh.pf hp142 hz142)
      · refine L_a0 dX11_behindOne_133 ?_
        refine J_iconst dX11_behindOne_134 ?_
        refine J_iconst dX11_behindOne_135 ?_
        refine C_v2V vX11_171 dX11_behindOne_136 (qX11_emit (T := (upS (upS T83 36 (up (T83 36) 17 (cntO (opn ps :: tl) - 1))) 36 (up ((upS T83 36 (up (T83 36) 17 (cntO (opn ps :: tl) - 1))) 36) 16 ((tl.length : Int))))) (o := 3) (v := 0) (by omega) (by omega)) rfl rfl (Nat.le_of_ble_eq_true rfl) (by decide) ?_
        have hpe := emT_PF (T := (upS (upS T83 36 (up (T83 36) 17 (cntO (opn ps :: tl) - 1))) 36 (up ((upS T83 36 (up (T83 36) 17 (cntO (opn ps :: tl) - 1))) 36) 16 ((tl.length : Int))))) (q := q) (o := 3) (v := 0) (cd := (stl 1 ps cd).2) hzh.1 hzh.2.1 (by omega)
        have hse := hsh.pf hpe (emT_PZ (o := 3) (v := 0) hzh)
        refine L_a0 dX11_behindOne_139 ?_
        refine J_bipush dX11_behindOne_140 (by decide) ?_
        refine C_v1U vX11_197 dX11_behindOne_142 (qX11_settle (T := emT (upS (upS T83 36 (up (T83 36) 17 (cntO (opn ps :: tl) - 1))) 36 (up ((upS T83 36 (up (T83 36) 17 (cntO (opn ps :: tl) - 1))) 36) 16 ((tl.length : Int)))) 3 0) (l := 7) h_q (by omega) hvt hse.1 (by rw [List.length_append]; show (stl 1 ps cd).2.length + 1 + tl.length ≤ 300; omega) (by omega)) rfl rfl (Nat.le_of_ble_eq_true rfl) (by decide) (fun hp142 hq142 => ?_)
        obtain ⟨T142, rfl, hp142, hz142⟩ := hq142
        refine J_iconst dX11_behindOne_145 ?_
        exact RQ_z rfl dX11_behindOne_146 (by decide) (by
          refine ⟨T142, rfl, hp79.sg.trans (hN83.sg.trans (hph.sg.trans (hpe.sg.trans hp142.sg))), Or.inr ⟨decide_eq_true (Or.inr (by omega)), rfl, ?_⟩⟩
          have hst : bhs (kd B c) cd ps = ((stl 7 tl ((stl 1 ps cd).2 ++ [(3, 0)])).2, (stl 7 tl ((stl 1 ps cd).2 ++ [(3, 0)])).1, 1) := by unfold bhs; rw [if_neg (by omega), if_neg (by omega), htl, if_pos c130]; rfl
          rw [hst]
          exact hse.pf hp142 hz142)
    · refine L_a0 dX11_behindOne_90 ?_
      refine GW_36_15 fX11_29 dX11_behindOne_91 ?_
      refine L_a0 dX11_behindOne_94 ?_
      refine C_v0F vX11_178 dX11_behindOne_95 (qX11_openAt (T := T83) (ps := opn ps :: tl) hvo1 hs2.1.2.2.2.1 hs2.1.2.2.2.2.1 (by rw [List.length_cons]; omega)) rfl rfl (Nat.le_of_ble_eq_true rfl) (by decide) ?_
      refine J_eqi (b := (tl.length : Int)) (by rw [opa, if_pos hop]) ?_
      refine L_i3 dX11_behindOne_98 ?_
      refine AS_41 dX11_behindOne_99 (by omega) ?_
      refine L_a0 dX11_behindOne_100 ?_
      refine J_iconst dX11_behindOne_101 ?_
      refine PW_36_18 fX11_194 (by decide) dX11_behindOne_102 ?_
      refine J_iconst dX11_behindOne_105 ?_
      exact RQ_z rfl dX11_behindOne_106 (by decide) (by
        refine ⟨_, rfl, hp79.sg.trans (hN83.sg.trans ⟨?_, ?_, ?_⟩), Or.inr ⟨decide_eq_true (Or.inr (by omega)), rfl, ?_⟩⟩
        · exact fun i hh => by simp only [List.mem_cons, List.not_mem_nil, or_false, not_or] at hh; simp [upS, hh.1, hh.2.2]
        · exact fun j h1 h2 h3 h4 h5 => by simp [upS, up, h5]
        · exact fun x _ => by simp [upS]
        · have hst : bhs (kd B c) cd ps = ((stl 1 ps cd).2, ptK (opn ps) (kd B c) ps :: tl, 0) := by unfold bhs; rw [if_neg (by omega), if_pos (by omega), htl]; rfl
          rw [hst]
          refine ⟨⟨?_, ?_, ?_, ?_, ?_, ?_⟩, ?_, ?_, ?_, ?_, ?_⟩
          · rw [← hs2.1.1]; simp [upS, up]
          · rw [← hs2.1.2.1]; simp [upS, up]
          · have := hs2.1.2.2.1; simpa [upS] using this
          · have := hs2.1.2.2.2.1; rw [List.length_cons] at this ⊢; rw [← this]; simp [upS, up]
          · have := hs2.1.2.2.2.2.1.2
            have g : PLd (up (T83 41) (tl.length : Int) (ptK (opn ps) (kd B c) ps)) (ptK (opn ps) (kd B c) ps :: tl) := PLd_push this
            simpa [upS] using g
          · have := hs2.1.2.2.2.2.2
            rw [cntO, if_pos (Or.inl hop)] at this
            rw [cntO, if_pos (Or.inl (by omega)), ← this]; simp [upS, up]
          · have := hs2.2.1
            unfold CT at this ⊢
            simpa [upS, up] using this
          · simp [upS, up]
          · rw [← hs2.2.2.2.1]; funext k; unfold byF; simp [upS, up]
          · have := hs2.2.2.2.2.1
            unfold TP at this ⊢
            simpa [upS, up] using this
          · have := hs2.2.2.2.2.2
            simpa [upS, up] using this)
  · refine J_iconst dX11_behindOne_75 ?_
    exact RQ_z rfl dX11_behindOne_76 (by decide) ⟨T, rfl, SGr.refl q T, Or.inl ⟨decide_eq_false (fun e => by omega), rfl, rfl⟩⟩
set_option maxRecDepth 100000 in
theorem qX11_behindOne {S T : Nat → Int → Int} {D : List mx_C} {B : Nat → Int} {q : Int} (h_q : 0 ≤ q ∧ q ≤ 3) {c : Nat} {cd : List (Int × Int)} {ps : List Int} (hs : SY B T q c cd ps 1) (hi : PI B c cd ps) (hn : lxp B c ≤ 300) : SpI yX11_behindOne cX11_behindOne 4 (some .boolean) 4 [.ref 36] (W5 S T D) (fun v hp' => ∃ T', hp' = W5 S T' D ∧ SGr q T T' ∧ ((bhf (kd B c) ps = false ∧ v = 0 ∧ T' = T) ∨ (bhf (kd B c) ps = true ∧ v = 1 ∧ SY B T' q (lxe B c) (bhs (kd B c) cd ps).1 (bhs (kd B c) cd ps).2.1 (bhs (kd B c) cd ps).2.2))) := by
  have hct := hs.2.1
  have htp := hs.2.2.2.2.1
  have hB : ∀ k, B k ≤ 255 := fun k => by rw [← hs.2.2.2.1]; exact (byF_B htp k).2
  have hvo := okP_vo hi.1
  have hlen := okP_160 hi.1 hi.2.1
  have hsum := hi.2.2
  have h16 := hs.1.2.2.2.1
  have hpl := hs.1.2.2.2.2.1
  have hbB := btK_B (kd B c) ps
  have hpB := ptK_B (opn ps) (kd B c) ps
  have hob := opn_B ps hvo
  have h12 := hs.1.1
  refine Sp.of [.ref 36, .retAddr 0, .retAddr 0, .retAddr 0] (by decide) (by simp) (Nat.le_of_ble_eq_true rfl) rfl (fun E => ?_)
  refine L_a0 dX11_behindOne_0 ?_
  refine C_v0F vX11_217 dX11_behindOne_1 (qX11_betweenOf hct hB hvo h16 hpl (by omega)) rfl rfl (Nat.le_of_ble_eq_true rfl) (by decide) ?_
  refine J_eqi (b := (btK (kd B c) ps)) (btR_kd B c ps) ?_
  refine S_i1 dX11_behindOne_4 (by decide) rfl ?_
  refine L_i1 dX11_behindOne_5 ?_
  refine J_if_lt 60 dX11_behindOne_6 rfl (by omega) (fun c6 => ?_) (fun c6 => ?_)
  · exact bH_60 h_q hs hi hn c6
  · have hbr := bin_r (o := (btK (kd B c) ps)) (by omega)
    have hbl := bhl_B (o := (btK (kd B c) ps)) (by omega)
    have hstl := stl_sum (bhl (btK (kd B c) ps)) ps cd
    have hsl := stl_ok hbl.1 ps cd hi.1
    have hlt := okP_160 hsl.1 (Int.le_trans hsl.2.1 hi.2.1)
    refine L_a0 dX11_behindOne_9 ?_
    refine L_i1 dX11_behindOne_10 ?_
    refine C_s1F vX11_168 dX11_behindOne_11 (qX11_rank (by omega)) (Nat.le_of_ble_eq_true rfl) (by decide) ?_
    refine J_iconst dX11_behindOne_14 ?_
    refine J_icmp_ne 22 dX11_behindOne_15 rfl (by omega) (by omega) (fun c15 => ?_) (fun c15 => ?_)
    · refine L_i1 dX11_behindOne_22 ?_
      refine C_s1F vX11_168 dX11_behindOne_23 (qX11_rank (by omega)) (Nat.le_of_ble_eq_true rfl) (by decide) ?_
      refine J_eqi (b := (bhl (btK (kd B c) ps))) (by unfold bhl; first | rw [if_pos (by omega)] | rw [if_neg (by omega)]) ?_
      refine C_v1U vX11_197 dX11_behindOne_26 (qX11_settle (T := T) (l := (bhl (btK (kd B c) ps))) h_q (by omega) hvo hs.1 (by omega) (by omega)) rfl rfl (Nat.le_of_ble_eq_true rfl) (by decide) (fun hp26 hq26 => ?_)
      obtain ⟨T26, rfl, hp26, hz26⟩ := hq26
      refine L_a0 dX11_behindOne_29 ?_
      refine GW_36_15 fX11_29 dX11_behindOne_30 ?_
      refine L_a0 dX11_behindOne_33 ?_
      refine GW_36_16 fX11_165 dX11_behindOne_34 ?_
      refine J_eqi (b := ((stl (bhl (btK (kd B c) ps)) ps cd).1.length : Int)) hz26.2.2.2.1 ?_
      refine L_i1 dX11_behindOne_37 ?_
      refine AS_41 dX11_behindOne_38 (by omega) ?_
      refine L_a0 dX11_behindOne_39 ?_
      refine E_dup dX11_behindOne_40 rfl ?_
      refine GW_36_16 fX11_165 dX11_behindOne_41 ?_
      refine J_eqi (b := ((stl (bhl (btK (kd B c) ps)) ps cd).1.length : Int)) (by rw [← hz26.2.2.2.1]; simp [upS]) ?_
      refine J_iconst dX11_behindOne_44 ?_
      refine J_iadd dX11_behindOne_45 ?_
      refine PW_36_16 fX11_165 dX11_behindOne_46 ?_
      refine L_a0 dX11_behindOne_49 ?_
      refine J_iconst dX11_behindOne_50 ?_
      refine PW_36_18 fX11_194 (by decide) dX11_behindOne_51 ?_
      refine L_a0 dX11_behindOne_54 ?_
      have hs1 := hs.pf hp26 hz26
      have hpu := SY.push (T3 := (upS (upS (upS T26 41 (up (T26 41) (((stl (bhl (btK (kd B c) ps)) ps cd).1).length : Int) (btK (kd B c) ps))) 36 (up ((upS T26 41 (up (T26 41) (((stl (bhl (btK (kd B c) ps)) ps cd).1).length : Int) (btK (kd B c) ps))) 36) 16 (((stl (bhl (btK (kd B c) ps)) ps cd).1.length : Int) + 1))) 36 (up ((upS (upS T26 41 (up (T26 41) (((stl (bhl (btK (kd B c) ps)) ps cd).1).length : Int) (btK (kd B c) ps))) 36 (up ((upS T26 41 (up (T26 41) (((stl (bhl (btK (kd B c) ps)) ps cd).1).length : Int) (btK (kd B c) ps))) 36) 16 (((stl (bhl (btK (kd B c) ps)) ps cd).1.length : Int) + 1))) 36) 18 0))) hs1 (o := (btK (kd B c) ps)) (fun j h1 h2 h3 => by simp [upS, up, h1, h3]) (by simp [upS, up]) (by rw [cntO, if_neg hbr.1, ← hz26.2.2.2.2.2]; simp [upS, up]) (by simp [upS]) (fun i h1 h2 => by simp [upS, h1, h2])
      have h18 : (upS (upS (upS T26 41 (up (T26 41) (((stl (bhl (btK (kd B c) ps)) ps cd).1).length : Int) (btK (kd B c) ps))) 36 (up ((upS T26 41 (up (T26 41) (((stl (bhl (btK (kd B c) ps)) ps cd).1).length : Int) (btK (kd B c) ps))) 36) 16 (((stl (bhl (btK (kd B c) ps)) ps cd).1.length : Int) + 1))) 36 (up ((upS (upS T26 41 (up (T26 41) (((stl (bhl (btK (kd B c) ps)) ps cd).1).length : Int) (btK (kd B c) ps))) 36 (up ((upS T26 41 (up (T26 41) (((stl (bhl (btK (kd B c) ps)) ps cd).1).length : Int) (btK (kd B c) ps))) 36) 16 (((stl (bhl (btK (kd B c) ps)) ps cd).1.length : Int) + 1))) 36) 18 0)) 36 18 = 0 := by simp [upS, up]
      refine C_v0U vX11_185 dX11_behindOne_55 (qX11_nextToken (T := (upS (upS (upS T26 41 (up (T26 41) (((stl (bhl (btK (kd B c) ps)) ps cd).1).length : Int) (btK (kd B c) ps))) 36 (up ((upS T26 41 (up (T26 41) (((stl (bhl (btK (kd B c) ps)) ps cd).1).length : Int) (btK (kd B c) ps))) 36) 16 (((stl (bhl (btK (kd B c) ps)) ps cd).1.length : Int) + 1))) 36 (up ((upS (upS T26 41 (up (T26 41) (((stl (bhl (btK (kd B c) ps)) ps cd).1).length : Int) (btK (kd B c) ps))) 36 (up ((upS T26 41 (up (T26 41) (((stl (bhl (btK (kd B c) ps)) ps cd).1).length : Int) (btK (kd B c) ps))) 36) 16 (((stl (bhl (btK (kd B c) ps)) ps cd).1.length : Int) + 1))) 36) 18 0))) (c := lxe B c) hpu.2.1 hpu.2.2.2.1 hpu.2.2.2.2.1) rfl rfl (Nat.le_of_ble_eq_true rfl) (by decide) (fun hp55 hq55 => ?_)
      obtain ⟨T55, rfl, hN55, hct55⟩ := hq55
      refine J_iconst dX11_behindOne_58 ?_
      exact RQ_z rfl dX11_behindOne_59 (by decide) ⟨T55, rfl, hp26.sg.trans (hpu.2.2.2.2.2.trans hN55.sg), Or.inr ⟨decide_eq_true (Or.inl (by omega)), rfl, by unfold bhs; rw [if_pos (by omega)]; exact SY.nx hpu.1 h18 hpu.2.2.1 hpu.2.1 hpu.2.2.2.2.1 hN55 hct55⟩⟩
    · refine J_iconst dX11_behindOne_18 ?_
      refine E_goto 26 dX11_behindOne_19 rfl ?_
      refine J_eqi (b := (bhl (btK (kd B c) ps))) (by unfold bhl; first | rw [if_pos (by omega)] | rw [if_neg (by omega)]) ?_
      refine C_v1U vX11_197 dX11_behindOne_26 (qX11_settle (T := T) (l := (bhl (btK (kd B c) ps))) h_q (by omega) hvo hs.1 (by omega) (by omega)) rfl rfl (Nat.le_of_ble_eq_true rfl) (by decide) (fun hp26 hq26 => ?_)
      obtain ⟨T26, rfl, hp26, hz26⟩ := hq26
      refine L_a0 dX11_behindOne_29 ?_
      refine GW_36_15 fX11_29 dX11_behindOne_30 ?_
      refine L_a0 dX11_behindOne_33 ?_
      refine GW_36_16 fX11_165 dX11_behindOne_34 ?_
      refine J_eqi (b := ((stl (bhl (btK (kd B c) ps)) ps cd).1.length : Int)) hz26.2.2.2.1 ?_
      refine L_i1 dX11_behindOne_37 ?_
      refine AS_41 dX11_behindOne_38 (by omega) ?_
      refine L_a0 dX11_behindOne_39 ?_
      refine E_dup dX11_behindOne_40 rfl ?_
      refine GW_36_16 fX11_165 dX11_behindOne_41 ?_
      refine J_eqi (b := ((stl (bhl (btK (kd B c) ps)) ps cd).1.length : Int)) (by rw [← hz26.2.2.2.1]; simp [upS]) ?_
      refine J_iconst dX11_behindOne_44 ?_
      refine J_iadd dX11_behindOne_45 ?_
      refine PW_36_16 fX11_165 dX11_behindOne_46 ?_
      refine L_a0 dX11_behindOne_49 ?_
      refine J_iconst dX11_behindOne_50 ?_
      refine PW_36_18 fX11_194 (by decide) dX11_behindOne_51 ?_
      refine L_a0 dX11_behindOne_54 ?_
      have hs1 := hs.pf hp26 hz26
      have hpu := SY.push (T3 := (upS (upS (upS T26 41 (up (T26 41) (((stl (bhl (btK (kd B c) ps)) ps cd).1).length : Int) (btK (kd B c) ps))) 36 (up ((upS T26 41 (up (T26 41) (((stl (bhl (btK (kd B c) ps)) ps cd).1).length : Int) (btK (kd B c) ps))) 36) 16 (((stl (bhl (btK (kd B c) ps)) ps cd).1.length : Int) + 1))) 36 (up ((upS (upS T26 41 (up (T26 41) (((stl (bhl (btK (kd B c) ps)) ps cd).1).length : Int) (btK (kd B c) ps))) 36 (up ((upS T26 41 (up (T26 41) (((stl (bhl (btK (kd B c) ps)) ps cd).1).length : Int) (btK (kd B c) ps))) 36) 16 (((stl (bhl (btK (kd B c) ps)) ps cd).1.length : Int) + 1))) 36) 18 0))) hs1 (o := (btK (kd B c) ps)) (fun j h1 h2 h3 => by simp [upS, up, h1, h3]) (by simp [upS, up]) (by rw [cntO, if_neg hbr.1, ← hz26.2.2.2.2.2]; simp [upS, up]) (by simp [upS]) (fun i h1 h2 => by simp [upS, h1, h2])
      have h18 : (upS (upS (upS T26 41 (up (T26 41) (((stl (bhl (btK (kd B c) ps)) ps cd).1).length : Int) (btK (kd B c) ps))) 36 (up ((upS T26 41 (up (T26 41) (((stl (bhl (btK (kd B c) ps)) ps cd).1).length : Int) (btK (kd B c) ps))) 36) 16 (((stl (bhl (btK (kd B c) ps)) ps cd).1.length : Int) + 1))) 36 (up ((upS (upS T26 41 (up (T26 41) (((stl (bhl (btK (kd B c) ps)) ps cd).1).length : Int) (btK (kd B c) ps))) 36 (up ((upS T26 41 (up (T26 41) (((stl (bhl (btK (kd B c) ps)) ps cd).1).length : Int) (btK (kd B c) ps))) 36) 16 (((stl (bhl (btK (kd B c) ps)) ps cd).1.length : Int) + 1))) 36) 18 0)) 36 18 = 0 := by simp [upS, up]
      refine C_v0U vX11_185 dX11_behindOne_55 (qX11_nextToken (T := (upS (upS (upS T26 41 (up (T26 41) (((stl (bhl (btK (kd B c) ps)) ps cd).1).length : Int) (btK (kd B c) ps))) 36 (up ((upS T26 41 (up (T26 41) (((stl (bhl (btK (kd B c) ps)) ps cd).1).length : Int) (btK (kd B c) ps))) 36) 16 (((stl (bhl (btK (kd B c) ps)) ps cd).1.length : Int) + 1))) 36 (up ((upS (upS T26 41 (up (T26 41) (((stl (bhl (btK (kd B c) ps)) ps cd).1).length : Int) (btK (kd B c) ps))) 36 (up ((upS T26 41 (up (T26 41) (((stl (bhl (btK (kd B c) ps)) ps cd).1).length : Int) (btK (kd B c) ps))) 36) 16 (((stl (bhl (btK (kd B c) ps)) ps cd).1.length : Int) + 1))) 36) 18 0))) (c := lxe B c) hpu.2.1 hpu.2.2.2.1 hpu.2.2.2.2.1) rfl rfl (Nat.le_of_ble_eq_true rfl) (by decide) (fun hp55 hq55 => ?_)
      obtain ⟨T55, rfl, hN55, hct55⟩ := hq55
      refine J_iconst dX11_behindOne_58 ?_
      exact RQ_z rfl dX11_behindOne_59 (by decide) ⟨T55, rfl, hp26.sg.trans (hpu.2.2.2.2.2.trans hN55.sg), Or.inr ⟨decide_eq_true (Or.inl (by omega)), rfl, by unfold bhs; rw [if_pos (by omega)]; exact SY.nx hpu.1 h18 hpu.2.2.1 hpu.2.1 hpu.2.2.2.2.1 hN55 hct55⟩⟩

