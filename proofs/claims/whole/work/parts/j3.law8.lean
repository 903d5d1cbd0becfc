/-! ===== THE LAW'S START: what the tables and the premises say of it ===== -/
theorem tb_1 {w : Cond} (i : Nat) (h : tables_1_1[i]? = some w) : w ∈ lw_tbl := List.mem_append_right _ (show w ∈ tables_1 from List.mem_append_left _ (List.mem_of_getElem? h))
theorem tb_2 {w : Cond} (i : Nat) (h : tables_1_2[i]? = some w) : w ∈ lw_tbl := List.mem_append_right _ (show w ∈ tables_1 from List.mem_append_right _ (List.mem_append_left _ (List.mem_of_getElem? h)))
theorem tb_3 {w : Cond} (i : Nat) (h : tables_1_3[i]? = some w) : w ∈ lw_tbl := List.mem_append_right _ (show w ∈ tables_1 from List.mem_append_right _ (List.mem_append_right _ (List.mem_append_left _ (List.mem_of_getElem? h))))
theorem tb_4 {w : Cond} (i : Nat) (h : tables_1_4[i]? = some w) : w ∈ lw_tbl := List.mem_append_right _ (show w ∈ tables_1 from List.mem_append_right _ (List.mem_append_right _ (List.mem_append_right _ (List.mem_append_left _ (List.mem_of_getElem? h)))))
theorem tb_5 {w : Cond} (i : Nat) (h : tables_1_5[i]? = some w) : w ∈ lw_tbl := List.mem_append_right _ (show w ∈ tables_1 from List.mem_append_right _ (List.mem_append_right _ (List.mem_append_right _ (List.mem_append_right _ (List.mem_append_left _ (List.mem_of_getElem? h))))))
theorem tb_6 {w : Cond} (i : Nat) (h : tables_1_6[i]? = some w) : w ∈ lw_tbl := List.mem_append_right _ (show w ∈ tables_1 from List.mem_append_right _ (List.mem_append_right _ (List.mem_append_right _ (List.mem_append_right _ (List.mem_append_right _ (List.mem_append_left _ (List.mem_of_getElem? h)))))))
theorem tb_7 {w : Cond} (i : Nat) (h : tables_1_7[i]? = some w) : w ∈ lw_tbl := List.mem_append_right _ (show w ∈ tables_1 from List.mem_append_right _ (List.mem_append_right _ (List.mem_append_right _ (List.mem_append_right _ (List.mem_append_right _ (List.mem_append_right _ (List.mem_append_left _ (List.mem_of_getElem? h))))))))
theorem tb_8 {w : Cond} (i : Nat) (h : tables_1_8[i]? = some w) : w ∈ lw_tbl := List.mem_append_right _ (show w ∈ tables_1 from List.mem_append_right _ (List.mem_append_right _ (List.mem_append_right _ (List.mem_append_right _ (List.mem_append_right _ (List.mem_append_right _ (List.mem_append_right _ (List.mem_append_left _ (List.mem_of_getElem? h)))))))))
theorem tb_9 {w : Cond} (i : Nat) (h : tables_1_9[i]? = some w) : w ∈ lw_tbl := List.mem_append_right _ (show w ∈ tables_1 from List.mem_append_right _ (List.mem_append_right _ (List.mem_append_right _ (List.mem_append_right _ (List.mem_append_right _ (List.mem_append_right _ (List.mem_append_right _ (List.mem_append_right _ (List.mem_of_getElem? h)))))))))
theorem nests_in : ∀ q ∈ mx_nests, Cond.methodLinkNest q.1 q.2.1 q.2.2.1 q.2.2.2 ∈ lw_tbl := List.forall_mem_cons.mpr ⟨tb_1 48 rfl, List.forall_mem_cons.mpr ⟨tb_5 1 rfl, List.forall_mem_cons.mpr ⟨tb_5 125 rfl, List.forall_mem_cons.mpr ⟨tb_5 147 rfl, List.forall_mem_cons.mpr ⟨tb_5 199 rfl, List.forall_mem_cons.mpr ⟨tb_5 216 rfl, List.forall_mem_cons.mpr ⟨tb_1 128 rfl, List.forall_mem_cons.mpr ⟨tb_1 145 rfl, List.forall_mem_cons.mpr ⟨tb_1 159 rfl, List.forall_mem_cons.mpr ⟨tb_1 191 rfl, List.forall_mem_cons.mpr ⟨tb_1 32 rfl, List.forall_mem_cons.mpr ⟨tb_5 138 rfl, List.forall_mem_cons.mpr ⟨tb_4 234 rfl, List.forall_mem_cons.mpr ⟨tb_4 239 rfl, List.forall_mem_cons.mpr ⟨tb_1 198 rfl, List.forall_mem_cons.mpr ⟨tb_1 200 rfl, List.forall_mem_cons.mpr ⟨tb_3 203 rfl, List.forall_mem_cons.mpr ⟨tb_1 54 rfl, List.forall_mem_cons.mpr ⟨tb_4 123 rfl, List.forall_mem_cons.mpr ⟨tb_3 216 rfl, List.forall_mem_cons.mpr ⟨tb_3 214 rfl, fun _ h => absurd h List.not_mem_nil⟩⟩⟩⟩⟩⟩⟩⟩⟩⟩⟩⟩⟩⟩⟩⟩⟩⟩⟩⟩⟩
def tmS (i : Nat) : Term := match i with
  | 0 => .string RX6 77
  | _ => .string RX6 89
theorem s_ex : ∀ i : Nat, i < 2 → Cond.exactly (tmS i) "java/lang/String" ∈ flatC (Jvm.Cond.and given_1 narrow_1) := by decide +kernel
theorem s_co : ∀ i : Nat, i < 2 → Cond.eq (.field (tmS i) "java/lang/String" "coder" "B") (.int 0) ∈ flatC (Jvm.Cond.and given_1 narrow_1) := by decide +kernel
theorem s_ar : ∀ i : Nat, i < 2 → Cond.arrayOf (.field (tmS i) "java/lang/String" "value" "[B") .byte ∈ flatC (Jvm.Cond.and given_1 narrow_1) := by decide +kernel
theorem s_le : ∀ i : Nat, i < 2 → Cond.eq (.length (.field (tmS i) "java/lang/String" "value" "[B")) (.int (Int32.ofNat (mx_len.getD i 0))) ∈ flatC (Jvm.Cond.and given_1 narrow_1) := by decide +kernel
theorem s_el : ∀ i : Nat, i < 2 → ∀ j : Nat, j < mx_len.getD i 0 → Cond.eq (.elem (.field (tmS i) "java/lang/String" "value" "[B") (.int (Int32.ofNat j))) (.int ((mx_byt.getD i []).getD j 0)) ∈ flatC (Jvm.Cond.and given_1 narrow_1) := by decide +kernel
theorem s_ne : Cond.not (Cond.eq (tmS 0) (tmS 1)) ∈ flatC (Jvm.Cond.and given_1 narrow_1) := by decide +kernel
theorem s_cs : Cond.eq (.static "java/lang/String" "COMPACT_STRINGS" "Z") (.int 1) ∈ flatC (Jvm.Cond.and given_1 narrow_1) := by decide +kernel
theorem s_si : Cond.isRef (.static "jdk/internal/util/Preconditions" "SIOOBE_FORMATTER" "Ljava/util/function/BiFunction;") ∈ flatC (Jvm.Cond.and given_1 narrow_1) := by decide +kernel
theorem arr_at {args : Array Value} {s : State} {ty : FieldType} (hty : ∀ C, ty ≠ .object C) (h : (Cond.arrayClass ty).before args s = true) : ∃ cA : ClassId, ArrOfT s cA ty ∧ va_RA s cA ty := by
  obtain ⟨cA, kA, comp, h1, h2, h3⟩ := Cond.arrayClass_spec (args := args) (first := s) (o := none) (s := s) (idx := []) h
  refine ⟨cA, fun n z => ⟨fun k h => (by cases h), kA, h2, comp, h3⟩, ?_⟩
  cases ty with
  | object C => exact absurd rfl (hty C)
  | _ => exact h1
theorem arr_ov {args : Array Value} {s : State} {C : String} (h : (Cond.arrayOver (.object C)).before args s = true) : ∃ cA : ClassId, ArrOfT s cA (.object C) ∧ va_RA s cA (.object C) := by
  obtain ⟨comp, cA, kA, h1, h2, h3, h4, h5⟩ := Cond.arrayOver_spec (args := args) (first := s) (o := none) (s := s) (idx := []) h
  exact ⟨cA, fun n z => ⟨fun k h => (by cases h), kA, h3, comp, h4⟩, kA, comp, h3, h4, h1, h5⟩

theorem start_st {s : State} {b : Nat} (hts : ∀ w ∈ lw_tbl, w.before #[Value.ref b] s = true) (hgv : (Jvm.Cond.and given_1 narrow_1).before #[Value.ref b] s = true) : ∃ E : mx_E, E.2.2.1 = s.heap.size ∧ E.2.2.2 9 = b ∧ mx_st E s := by
  obtain ⟨c0, i0, k0⟩ := u_known (C := RX0) (T := TX0) (N := 8) (n := 8) hts (fun w hw => mx_gw_tbl w (hX0 w hw)) (hts (.instantiable RX0 8) (tb_1 158 rfl))
  obtain ⟨c1, i1, k1⟩ := u_known (C := RX1) (T := TX1) (N := 5) (n := 5) hts (fun w hw => mx_gw_tbl w (hX1 w hw)) (hts (.instantiable RX1 5) (tb_1 190 rfl))
  obtain ⟨c2, i2, k2⟩ := u_known (C := RX2) (T := TX2) (N := 1) (n := 1) hts (fun w hw => mx_gw_tbl w (hX2 w hw)) (hts (.instantiable RX2 1) (tb_3 36 rfl))
  obtain ⟨c3, i3, k3⟩ := u_known (C := RX3) (T := TX3) (N := 12) (n := 12) hts (fun w hw => mx_gw_tbl w (hX3 w hw)) (hts (.instantiable RX3 12) (tb_1 47 rfl))
  obtain ⟨c4, i4, k4⟩ := u_known (C := RX4) (T := TX4) (N := 1) (n := 1) hts (fun w hw => mx_gw_tbl w (hX4 w hw)) (hts (.instantiable RX4 1) (tb_1 117 rfl))
  obtain ⟨c5, i5, k5⟩ := u_known (C := RX5) (T := TX5) (N := 2) (n := 2) hts (fun w hw => mx_gw_tbl w (hX5 w hw)) (hts (.instantiable RX5 2) (tb_1 144 rfl))
  obtain ⟨c6, i6, k6⟩ := u_known (C := RX6) (T := TX6) (N := 5) (n := 5) hts (fun w hw => mx_gw_tbl w (hX6 w hw)) (hts (.instantiable RX6 5) (tb_1 53 rfl))
  obtain ⟨c7, i7, k7⟩ := u_known (C := RX7) (T := TX7) (N := 6) (n := 6) hts (fun w hw => mx_gw_tbl w (hX7 w hw)) (hts (.instantiable RX7 6) (tb_3 64 rfl))
  obtain ⟨c8, i8, k8⟩ := u_known (C := RX8) (T := TX8) (N := 3) (n := 3) hts (fun w hw => mx_gw_tbl w (hX8 w hw)) (hts (.instantiable RX8 3) (tb_1 127 rfl))
  obtain ⟨c9, i9, k9⟩ := u_known (C := RX9) (T := TX9) (N := 2) (n := 2) hts (fun w hw => mx_gw_tbl w (hX9 w hw)) (hts (.instantiable RX9 2) (tb_1 31 rfl))
  obtain ⟨c10, i10, k10⟩ := u_known (C := RX10) (T := TX10) (N := 12) (n := 12) hts (fun w hw => mx_gw_tbl w (hX10 w hw)) (hts (.instantiable RX10 12) (tb_1 23 rfl))
  obtain ⟨c11, i11, k11⟩ := u_known (C := RX11) (T := TX11) (N := 36) (n := 36) hts (fun w hw => mx_gw_tbl w (hX11 w hw)) (hts (.instantiable RX11 36) (tb_6 33 rfl))
  obtain ⟨aI, haI⟩ := arr_at (ty := .int) (fun C h => by cases h) (hts (.arrayClass .int) (tb_1 74 rfl))
  obtain ⟨aB, haB⟩ := arr_at (ty := .byte) (fun C h => by cases h) (hts (.arrayClass .byte) (tb_1 45 rfl))
  obtain ⟨aZ, haZ⟩ := arr_at (ty := .boolean) (fun C h => by cases h) (hts (.arrayClass .boolean) (tb_6 155 rfl))
  obtain ⟨aJ, haJ⟩ := arr_at (ty := .long) (fun C h => by cases h) (hts (.arrayClass .long) (tb_1 188 rfl))
  have hov : (Cond.arrayOver (.object "Procession$Script")).before #[Value.ref b] s = true := hts _ (tb_1 115 rfl)
  obtain ⟨aS, haS⟩ := arr_ov hov
  have hs := flat_of_before _ hgv
  have hA : ∀ a : Nat, a < s.heap.size → ¬ (fun q : Nat => s.heap.size ≤ q) a := fun a h => Nat.not_le.mpr h
  obtain ⟨adK, adV, hS, hT⟩ := vk_Sof (args := #[Value.ref b]) (s := s) (N := 2) (tm := tmS) (len := mx_len) (byt := mx_byt) (A := fun q : Nat => s.heap.size ≤ q) (by decide) (fun i hi => hs _ (s_ex i hi)) (fun i hi => hs _ (s_co i hi)) (fun i hi => hs _ (s_ar i hi)) (fun i hi => hs _ (s_le i hi)) (fun i hi j hj => hs _ (s_el i hi j hj)) (fun i j hi hj hij => by
    rcases (show (i = 0 ∧ j = 1) ∨ (i = 1 ∧ j = 0) by omega) with ⟨rfl, rfl⟩ | ⟨rfl, rfl⟩
    · exact Or.inl (hs _ s_ne)
    · exact Or.inr (hs _ s_ne)) hA
  have hZ : va_Z "java/lang/String" "COMPACT_STRINGS" "Z" (.int 1) (fun q : Nat => s.heap.size ≤ q) s s.heap := va_Zof (args := #[Value.ref b]) (hts _ (tb_2 92 rfl)) (hts _ (tb_1 12 rfl)) (va_eqt (hs _ s_cs)) hA
  have hQ : va_Zq "jdk/internal/util/Preconditions" "SIOOBE_FORMATTER" "Ljava/util/function/BiFunction;" (fun q : Nat => s.heap.size ≤ q) s s.heap := va_Zqof (args := #[Value.ref b]) (hts _ (tb_2 108 rfl)) (hts _ (tb_1 14 rfl)) (hs _ s_si) hA
  obtain ⟨t7, h7⟩ : ∃ t7 : Nat, va_Z "jdk/internal/util/Preconditions" "SIOOBE_FORMATTER" "Ljava/util/function/BiFunction;" .null (fun q : Nat => s.heap.size ≤ q) s s.heap ∨ va_Z "jdk/internal/util/Preconditions" "SIOOBE_FORMATTER" "Ljava/util/function/BiFunction;" (.ref t7) (fun q : Nat => s.heap.size ≤ q) s s.heap := by
    rcases hQ with h | ⟨t, h⟩
    · exact ⟨0, Or.inl h⟩
    · exact ⟨t, Or.inr h⟩
  refine ⟨((fun k => ([c0, c1, c2, c3, c4, c5, c6, c7, c8, c9, c10, c11] : List ClassId).getD k c0, fun k => ([i0, i1, i2, i3, i4, i5, i6, i7, i8, i9, i10, i11] : List (Nat → Nat)).getD k i0), fun k => ([aI, aB, aZ, aJ, aS] : List ClassId).getD k aI, s.heap.size, fun k => ([adK 0, adK 1, adV 0, adV 1, 0, 0, 0, t7, 0, b] : List Nat).getD k 0), rfl, rfl, ⟨fun k q hq => ?_, fun k q hq => ?_⟩, fun q hq => va_Nw.of rfl (hts _ (nests_in q hq)), ?_, ?_, ?_, hZ, ⟨va_AO.of hov, va_Nw.of rfl (hts _ (tb_3 45 rfl))⟩, h7⟩
  · match k, hq with
    | 0, hq => cases hq; exact k0
    | 1, hq => cases hq; exact k1
    | 2, hq => cases hq; exact k2
    | 3, hq => cases hq; exact k3
    | 4, hq => cases hq; exact k4
    | 5, hq => cases hq; exact k5
    | 6, hq => cases hq; exact k6
    | 7, hq => cases hq; exact k7
    | 8, hq => cases hq; exact k8
    | 9, hq => cases hq; exact k9
    | 10, hq => cases hq; exact k10
    | 11, hq => cases hq; exact k11
    | k + 12, hq => simp [vwCl] at hq
  · match k, hq with
    | 0, hq => cases hq; exact haI
    | 1, hq => cases hq; exact haB
    | 2, hq => cases hq; exact haZ
    | 3, hq => cases hq; exact haJ
    | 4, hq => cases hq; exact haS
    | k + 5, hq => simp [mx_ts] at hq
  · exact vk_R.of (hts _ (tb_2 82 rfl)) (hT 0 (by decide))
  · exact vk_R.of (hts _ (tb_2 135 rfl)) (hT 1 (by decide))
  · refine ⟨fun i hi => ?_, fun i j hi hj e => ?_⟩
    · rcases (show i = 0 ∨ i = 1 by omega) with rfl | rfl
      · exact hS.1 0 (by decide)
      · exact hS.1 1 (by decide)
    · refine hS.2 i j hi hj ?_
      rcases (show i = 0 ∨ i = 1 by omega) with rfl | rfl <;> rcases (show j = 0 ∨ j = 1 by omega) with rfl | rfl <;> exact e
