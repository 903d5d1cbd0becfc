/-! ===== a copy of an array: made anew ===== -/
section ECL
variable {E : mx_E} {y : MethodName} {cc : ByteArray} {nL : Nat} {ret : Option FieldType} {K : mx_Kd} {bc bs pc : Nat} {lv st : List Value} {hp : List mx_C}
theorem E_clone {i n : Nat} {f : Int → Int} (hy : y.cls = RJ7) (hd : decode cc pc = .ok (.invokevirtual 316, 3)) (hi : hp[i]? = some (ia n f)) (hcat : (st.map fun v => v.category).sum ≤ 8) (hR : 1 ≤ K.1.frames ∧ 64 ≤ K.1.locals) (bc' bs' : Nat) (hbc : 1 + bc' ≤ bc) (hbs : n + bs' ≤ bs) (k : Ev E y cc nL ret K bc' bs' (pc + 3) lv (.ref hp.length :: st) (hp ++ [ia n f])) : Ev E y cc nL ret K bc bs pc lv (.ref i :: st) hp := by
  intro p l e s m args below meth c H locs cells slots ls X
  have h8 := mx_sum (E := E) hcat
  obtain ⟨hx, hb, hfx, ⟨hz, hP, hS⟩, hL, hc, hs⟩ := X
  obtain ⟨hml, -, hown, hts, -, -, hst, -⟩ := id hfx
  rw [hy] at hown
  have hK := hst.1
  have hnm : s.vm.findClass "[I" = some (E.2.1 0) := (hK.2 0 _ rfl).2
  have ha := mx_w_get (E := E) hi
  obtain ⟨c0, t0', f1, f2, f3⟩ := Cond.castable_spec (va_Nw.use (A := args) rfl hst.2.2.2.2.2.2.1.2)
  cases hnm.symm.trans f1
  intro T hT Xs
  have hcellH : H[E.2.2.1 + i]? = some (arrV (E.2.1 0) n (fun j => .int (jI (f (j : Int))))) := hP i _ ha
  have hcellT : T.heap[E.2.2.1 + i]? = some (arrV (E.2.1 0) n (fun j => .int (jI (f (j : Int))))) := by rw [hT]; exact hcellH
  obtain ⟨-, kA, hkA, comp, hkind⟩ := State.isArrayOf_alike Xs.warmed.alike ((hK.2 0 _ rfl).1 0 (fun _ => .null))
  obtain ⟨-, kS, hkS, compS, hkindS⟩ := (hK.2 0 _ rfl).1 0 (fun _ => .null)
  have hsz : (arrV (E.2.1 0) n (fun j => .int (jI (f (j : Int))))).slots.size = n := arrV_size _ _ _
  obtain ⟨vm', X', st'⟩ := Xs.cloneArray hx hown (hts _ (mx_t3 40 rfl rfl)) (hts _ (mx_t3 41 rfl rfl)) (hts _ (mx_t3 42 rfl rfl)) (hts _ (mx_t3 43 rfl rfl)) (hts _ (mx_t3 44 rfl rfl)) (a := E.2.2.1 + i) hcellT (fun k h => by cases h) (fun h => by cases h) hnm f2 f3
    (fun j v hv => by
      have hk' : T.vm.classes[E.2.1 0]? = some kA := hkA
      have hvI : ∃ q : Int32, v = .int q := by
        by_cases hj : j < n
        · rw [arrV_read _ _ hj] at hv
          cases hv
          exact ⟨_, rfl⟩
        · rw [Array.getElem?_eq_none (by rw [hsz]; omega)] at hv
          cases hv
      obtain ⟨q, rfl⟩ := hvI
      have hcl0 : (arrV (E.2.1 0) n (fun j => .int (jI (f (j : Int))))).cls = E.2.1 0 := rfl
      have hfit : fits .int (.int q) = true := rfl
      rw [hcl0]
      simpa [State.fitsSlot, State.slotType?, hk', hkind] using hfit)
    (g := F0 m pc ls (.ref (E.2.2.1 + i) :: st.map (mx_v E))) rfl (by rw [hml]; exact hL.1) rfl (by rw [hb]; exact hd) hR.1 (by show 2 * 0 + _ + 14 ≤ _; omega) (by omega) (by rw [hsz]; omega) (hloader := Vm.clonesLoader_of_array hkS hkindS)
  rw [hsz] at X'
  generalize hH1 : H.push (arrV (E.2.1 0) n (fun j => .int (jI (f (j : Int))))) = H1
  have z1 : H1.size = H.size + 1 := by rw [← hH1, Array.size_push]
  have e1 : H1[H.size]? = some (arrV (E.2.1 0) n (fun j => .int (jI (f (j : Int))))) := by rw [← hH1, Array.getElem?_push_size]
  have o1 : ∀ q : Nat, q < H.size → H1[q]? = H[q]? := fun q hq => by rw [← hH1, Array.getElem?_push, if_neg (Nat.ne_of_lt hq)]
  have h := k p l e s m args below meth c H1 locs (cells + 1) (slots + n) ls ⟨hx, hb, hfx, mx_pushed hz hP hS z1 o1 (by
    show H1[E.2.2.1 + hp.length]? = _
    rw [← hz]
    exact e1), hL, by omega, by omega⟩
  obtain ⟨t, b1, b2⟩ := h ((T.setVm vm').pushCell (arrV (E.2.1 0) n (fun j => .int (jI (f (j : Int)))))) (by rw [← hH1, ← hT]; rfl) X'
  refine ⟨t, st' t ?_, b2⟩
  rw [List.map_cons] at b1
  rw [hT, hz]
  exact b1
theorem E_castI {i n : Nat} {f : Int → Int} (hy : y.cls = RJ7) (hd : decode cc pc = .ok (.checkcast 317, 3)) (hi : hp[i]? = some (ia n f)) (k : Ev E y cc nL ret K bc bs (pc + 3) lv (.ref i :: st) hp) : Ev E y cc nL ret K bc bs pc lv (.ref i :: st) hp := by
  intro p l e s m args below meth c H locs cells slots ls X
  have h := k p l e s m args below meth c H locs cells slots ls X
  obtain ⟨hx, hb, hfx, ⟨hz, hP, hS⟩, hL, hc, hs⟩ := id X
  obtain ⟨hml, -, hown, hts, -, -, hst, -⟩ := id hfx
  rw [hy] at hown
  exact va_castA hx hb hown (hts _ (mx_t3 46 rfl rfl)) hP i (mx_w_get (E := E) hi) (hst.1.2 0 _ rfl).2 hd h
end ECL
/-- the copy's first n are the array's -/
def CpR (hp : List mx_C) (n : Nat) (f : Int → Int) (r : Option Value) (hp' : List mx_C) : Prop := ∃ g : Int → Int, r = some (.ref hp.length) ∧ hp' = hp ++ [ia n g] ∧ ∀ j : Int, 0 ≤ j ∧ j < n → g j = f j
theorem get_app {hp : List mx_C} {i : Nat} {c x : mx_C} (h : hp[i]? = some c) : (hp ++ [x])[i]? = some c := by
  rw [List.getElem?_append_left (List.getElem?_eq_some_iff.mp h).1]; exact h
theorem get_new (hp : List mx_C) (x : mx_C) : (hp ++ [x])[hp.length]? = some x := by rw [List.getElem?_append_right (Nat.le_refl _), Nat.sub_self]; rfl
theorem set_new (hp : List mx_C) (x z : mx_C) : (hp ++ [x]).set hp.length z = hp ++ [z] := by
  rw [List.set_append_right _ _ (Nat.le_refl _), Nat.sub_self]; rfl
set_option maxRecDepth 100000 in
theorem sJ_copyOf {hp : List mx_C} {b N n : Nat} {f : Int → Int} (hb : hp[b]? = some (ia N f)) (hn : n ≤ N) (hN : N ≤ 1000) : Sp yJ7_copyOf_59c91 cJ7_copyOf_59c91 3 (some (.array .int)) 1 1 n [.ref b, .int (jI (n : Int))] hp (CpR hp n f) := by
  refine Sp.of [.ref b, .int (jI (n : Int)), .retAddr 0] (by decide) (by simp) (Nat.le_of_ble_eq_true rfl) rfl (fun E => ?_)
  refine L_i1 dJ7_copyOf_59c91_0 ?_
  refine L_a0 dJ7_copyOf_59c91_1 ?_
  refine J_alen dJ7_copyOf_59c91_2 hb ?_
  refine J_icmp_ne 14 dJ7_copyOf_59c91_3 rfl (by omega) (by omega) (fun c3 => ?_) (fun c3 => ?_)
  · refine L_i1 dJ7_copyOf_59c91_14 ?_
    refine E_newa (t := 0) (N := n) (a0 := (n, .inl (fun q => jI ((fun _ : Int => (0 : Int)) (q : Int))))) dJ7_copyOf_59c91_15 (mx_t1 74 rfl rfl) rfl (fun cA => rfl) (fun h => by rw [jI_0, jI_lt (by omega) (by decide)] at h; omega) (by rw [jI_clamp (n := n + 1) (by omega) (by omega)]; omega) (by show n * 4 ≤ _; omega) 0 0 (by omega) (by omega) ?_
    refine S_a2 dJ7_copyOf_59c91_17 (by decide) rfl ?_
    refine L_a0 dJ7_copyOf_59c91_18 ?_
    refine J_iconst dJ7_copyOf_59c91_19 ?_
    refine L_a2 dJ7_copyOf_59c91_20 ?_
    refine J_iconst dJ7_copyOf_59c91_21 ?_
    refine L_a0 dJ7_copyOf_59c91_22 ?_
    refine J_alen dJ7_copyOf_59c91_23 (get_app hb) ?_
    refine L_i1 dJ7_copyOf_59c91_24 ?_
    refine J_mmin vJ7_304 mJ7_304 dJ7_copyOf_59c91_25 (by omega) (by omega) (Nat.le_of_ble_eq_true rfl) ⟨Nat.le_of_ble_eq_true rfl, Nat.le_of_ble_eq_true rfl⟩ ?_
    refine J_eqi (b := (n : Int)) (by omega) ?_
    refine J_copy (n0 := N) (n1 := n) (f := f) (g := fun _ : Int => (0 : Int)) (n := (n : Int)) aJ7_150 mx_ac1 mx_ac2 mx_ac3 dJ7_copyOf_59c91_28 (get_app hb) (get_new hp (ia n (fun _ : Int => (0 : Int)))) (by omega) (by omega) (by omega) (by omega) (by omega) (by omega) (by omega) (Nat.le_of_ble_eq_true rfl) ⟨Nat.le_of_ble_eq_true rfl, Nat.le_of_ble_eq_true rfl⟩ ?_
    rw [set_new]
    refine L_a2 dJ7_copyOf_59c91_31 ?_
    refine E_aret (v := some hp.length) rfl (Or.inr ⟨_, rfl⟩) dJ7_copyOf_59c91_32 ⟨_, rfl, rfl, fun j hj => ?_⟩
    unfold cpy
    rw [if_pos (by omega)]
    exact congrArg f (by omega)
  · have hnN : n = N := by omega
    subst hnN
    refine L_a0 dJ7_copyOf_59c91_6 ?_
    refine E_clone rfl dJ7_copyOf_59c91_7 hb (Nat.le_of_ble_eq_true rfl) ⟨Nat.le_of_ble_eq_true rfl, Nat.le_of_ble_eq_true rfl⟩ 0 0 (by omega) (by omega) ?_
    refine E_castI rfl dJ7_copyOf_59c91_10 (get_new hp _) ?_
    exact E_aret (v := some hp.length) rfl (Or.inr ⟨_, rfl⟩) dJ7_copyOf_59c91_13 ⟨f, rfl, rfl, fun j _ => rfl⟩
