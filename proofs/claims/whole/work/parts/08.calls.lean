/-! ===== THE SMALL MACHINE: calls, making ===== -/
/-- behind a call whose end is mx_Q -/
theorem mx_after {p : Program} {l : Launch} {e : Env} {R0 : Room} {s : State} {m : MethodId} {args : Array Value} {below : List Frame} {meth : Method} {c : Code} {H : Heap} {locs : List Loc} {cells slots : Nat} {Q : State → Prop} {E : mx_E} {R : Option Value → List mx_C → Prop} {mc ms pc : Nat} {ls : Array Slot} {st0 rest : List Value} {a : Array Value}
    (hr : va_Run p l e R0 s m args below meth c H locs cells slots mc ms (F0 m pc ls st0) rest (mx_Q E R a) (mx_A E)) (hS : va_S (mx_A E) s.heap H locs)
    (kk : ∀ (r : Option Value) (hp' : List mx_C) (H1 : Heap) (locs1 : List Loc), R r hp' → H1.size = E.2.2.1 + hp'.length → va_P E.1 vwCl (mx_w E hp') H1 → va_S (mx_A E) s.heap H1 locs1 → W p l e R0 s m args below meth c H1 locs1 (cells + mc) (slots + ms) Q (F0 m (pc + 3) ls ((r.map (mx_v E)).toList ++ rest))) : W p l e R0 s m args below meth c H locs cells slots Q (F0 m pc ls st0) := by
  intro T hT X
  obtain ⟨v, st₀, t, T', L, h0, X', hL, e1, e2, ⟨⟨r, hp', hv, hp, ⟨hz1, hP1, -⟩⟩, hz, hk⟩, st⟩ := hr T hT X
  cases hv
  rw [h0] at hz hk
  obtain ⟨t2, a1, b1⟩ := kk r hp' T'.heap (locs ++ L) hp (by rw [e1]; exact hz1) (by rw [e1]; exact hP1)
    ⟨Nat.le_trans hS.1 (by rw [e1]; exact hz), fun q h1 h2 => by rw [e1, hk q (Nat.lt_of_lt_of_le h1 hS.1) h2]; exact hS.2.1 q h1 h2, fun q hq => by
      rcases List.mem_append.mp hq with h | h
      · exact hS.2.2 q h
      · exact hL q h⟩ T' rfl X'
  exact ⟨t2, st t2 a1, b1⟩
/-- what the tables say of a call: what every call needs -/
def mx_cb (z : MethodName) (bytes : ByteArray) (maxL : Nat) (rt : Option FieldType) (n : Nat) : Prop := Cond.code z bytes maxL rt ∈ mx_gw ∧ Cond.initialized z.cls ∈ mx_gw ∧ (z.cls ≠ "java/lang/invoke/MethodHandle" ∧ z.cls ≠ "java/lang/invoke/VarHandle" ∧ (parseMethodDescriptor z.desc).map (fun d => d.parameters.length) = some n) ∧ maxL ≤ 45
/-- a virtual call: linked plainly or as a nest mate's -/
def mx_cv (own : String) (idx : Nat) (z : MethodName) (bytes : ByteArray) (maxL : Nat) (rt : Option FieldType) (n : Nat) : Prop := mx_cb z bytes maxL rt n ∧ Cond.instanceMethod z ∈ mx_gw ∧ Cond.selects z.cls z z ∈ mx_gw ∧ (Cond.methodLink own idx z ∈ mx_gw ∨ ∃ host, (own, idx, z, host) ∈ mx_nests)
def mx_cs (own : String) (idx : Nat) (z : MethodName) (bytes : ByteArray) (maxL : Nat) (rt : Option FieldType) (n : Nat) : Prop := mx_cb z bytes maxL rt n ∧ Cond.static z ∈ mx_gw ∧ (Cond.methodLink own idx z ∈ mx_gw ∨ ∃ host, (own, idx, z, host) ∈ mx_nests)
def mx_ci (own : String) (idx : Nat) (z : MethodName) (bytes : ByteArray) (maxL : Nat) (n : Nat) : Prop := mx_cb z bytes maxL none n ∧ Cond.instanceMethod z ∈ mx_gw ∧ z.name = "<init>" ∧ (Cond.methodLink own idx z ∈ mx_gw ∨ ∃ host, (own, idx, z, host) ∈ mx_nests)
theorem mx_good {z : MethodName} {bytes : ByteArray} {maxL : Nat} {rt : Option FieldType} (h : Cond.code z bytes maxL rt ∈ mx_gw) : GoodIn mx_gw (Cond.code z bytes maxL rt :: mx_gw) := by
  intro w hw
  rcases List.mem_cons.mp hw with rfl | hw
  · exact mx_gw_good _ h
  · exact mx_gw_good _ hw
section EC
variable {E : mx_E} {y : MethodName} {cc : ByteArray} {nL : Nat} {ret : Option FieldType} {K : mx_Kd} {bc bs pc : Nat} {lv st : List Value} {hp : List mx_C}
variable {z : MethodName} {bytes : ByteArray} {maxL n idx d' mc' ms' : Nat} {rt : Option FieldType} {R : Option Value → List mx_C → Prop}
/-- the callee's start, at the call -/
theorem mx_pre {s : State} {H : Heap} {locs : List Loc} (hst : mx_st E s) (hz : H.size = E.2.2.1 + hp.length) (hP : va_P E.1 vwCl (mx_w E hp) H) (hS : va_S (mx_A E) s.heap H locs) (av : List Value) : ∀ U : State, U.heap = H → s.WarmedH U.vm → va_Pc (av.map (mx_v E)) (mx_W E hp) ((av.map (mx_v E)).toArray) U :=
  fun U hU hW => ⟨rfl, by rw [hU]; exact hz, by rw [hU]; exact hP, hst.go hW (fun q h1 h2 => by rw [hU]; exact hS.2.1 q h1 h2)⟩
theorem E_callv (b : Nat) (As : List Value) (hw : mx_cv y.cls idx z bytes maxL rt n) (hd : decode cc pc = .ok (.invokevirtual idx, 3)) (hM : Sp z bytes maxL rt d' mc' ms' (.ref b :: As) hp R) {ci : Nat} {fs : List Value} (hi : hp[b]? = some (.inr (ci, fs))) (hcl : (vwCl[ci]?).map (fun q => q.1) = some z.cls) (hn : As.length = n) (hcat : (st.map fun v => v.category).sum ≤ 8) (hR : d' + 1 ≤ K.1.frames ∧ 64 * (d' + 1) ≤ K.1.locals) (bc' bs' : Nat) (hbc : mc' + bc' ≤ bc) (hbs : ms' + bs' ≤ bs) (st0 : List Value) (hst0 : st0 = As.reverse ++ .ref b :: st)
    (k : ∀ (r : Option Value) (hp' : List mx_C), R r hp' → Ev E y cc nL ret K bc' bs' (pc + 3) lv (r.toList ++ st) hp') : Ev E y cc nL ret K bc bs pc lv st0 hp := by
  subst hst0
  intro p l e s m args below meth c H locs cells slots ls X
  obtain ⟨hx, hb, hfx, ⟨hz, hP, hS⟩, hL, hc, hs⟩ := X
  obtain ⟨hml, -, hown, hts, -, -, hst, -⟩ := id hfx
  obtain ⟨⟨w1, w2, w3, w4⟩, w5, w6, w7⟩ := hw
  have hmap : ((As.reverse ++ .ref b :: st).map (mx_v E)) = (As.map (mx_v E)).reverse ++ .ref (E.2.2.1 + b) :: st.map (mx_v E) := by simp [mx_v]
  have hsum : (((st.map (mx_v E)).map fun v => v.category)).sum ≤ 8 := by
    have h : ((st.map (mx_v E)).map fun v => v.category) = st.map fun v => v.category := by rw [List.map_map]; exact List.map_congr_left (fun v _ => mx_cat E v)
    rw [h]
    exact hcat
  obtain ⟨q, hq, hqz⟩ : ∃ q, vwCl[ci]? = some q ∧ q.1 = z.cls := by
    cases h : vwCl[ci]? with
    | none => rw [h] at hcl; cases hcl
    | some q => rw [h] at hcl; exact ⟨q, rfl, Option.some.inj hcl⟩
  have hrecv := va_recv hst.1 hP hq (mx_w_get hi)
  rw [hqz] at hrecv
  have hpre : PreV s H z.cls (E.2.2.1 + b) (va_Pc ((.ref b :: As).map (mx_v E)) (mx_W E hp)) (As.map (mx_v E)) := ⟨mx_blind E _ hp, hrecv, mx_pre hst hz hP hS (.ref b :: As)⟩
  have hroom : (mx_rm d' mc' ms').frames + 1 ≤ K.1.frames ∧ 8 + (maxL + 11) + (mx_rm d' mc' ms').locals ≤ K.1.locals := ⟨hR.1, by show 8 + (maxL + 11) + 64 * d' ≤ _; omega⟩
  rw [hmap]
  refine mx_after (R := R) (rest := st.map (mx_v E)) (mc := mc') (ms := ms') (a := (Value.ref (E.2.2.1 + b) :: As.map (mx_v E)).toArray) ?_ hS (fun r hp' H1 locs1 hr hz1 hP1 hS1 => ?_)
  · rcases w7 with w7 | ⟨host, w7⟩
    · exact va_runV (As := As.map (mx_v E)) (rest := st.map (mx_v E)) (n := n) ⟨hx, hb, hml, hown, hts⟩ (hM E l) ⟨callB_of n hts (mx_good w1) rfl rfl rfl (hts _ w2) (hts _ w7) w3 hroom, hts _ w5, hts _ w6⟩ hpre rfl (by rw [List.length_map]; exact hn) hL.1 rfl (lv_room hsum) hd ⟨by omega, by omega⟩
    · exact va_runVN (As := As.map (mx_v E)) (rest := st.map (mx_v E)) (n := n) ⟨hx, hb, hml, hown, hts⟩ (hM E l) ⟨va_cnB n hts (mx_good w1) rfl rfl rfl (hst.2.1 _ w7) (hts _ w2) w3 hroom, hts _ w5, hts _ w6⟩ hpre rfl (by rw [List.length_map]; exact hn) hL.1 rfl (lv_room hsum) hd ⟨by omega, by omega⟩
  · have h := k r hp' hr p l e s m args below meth c H1 locs1 (cells + mc') (slots + ms') ls ⟨hx, hb, hfx, ⟨hz1, hP1, hS1⟩, hL, by omega, by omega⟩
    have e1 : (r.toList ++ st).map (mx_v E) = (r.map (mx_v E)).toList ++ st.map (mx_v E) := by cases r <;> simp
    rw [e1] at h
    exact h
theorem E_calls (As : List Value) (hw : mx_cs y.cls idx z bytes maxL rt n) (hd : decode cc pc = .ok (.invokestatic idx, 3)) (hM : Sp z bytes maxL rt d' mc' ms' As hp R) (hn : As.length = n) (hcat : (st.map fun v => v.category).sum ≤ 8) (hR : d' + 1 ≤ K.1.frames ∧ 64 * (d' + 1) ≤ K.1.locals) (bc' bs' : Nat) (hbc : mc' + bc' ≤ bc) (hbs : ms' + bs' ≤ bs) (st0 : List Value) (hst0 : st0 = As.reverse ++ st)
    (k : ∀ (r : Option Value) (hp' : List mx_C), R r hp' → Ev E y cc nL ret K bc' bs' (pc + 3) lv (r.toList ++ st) hp') : Ev E y cc nL ret K bc bs pc lv st0 hp := by
  subst hst0
  intro p l e s m args below meth c H locs cells slots ls X
  obtain ⟨hx, hb, hfx, ⟨hz, hP, hS⟩, hL, hc, hs⟩ := X
  obtain ⟨hml, -, hown, hts, -, -, hst, -⟩ := id hfx
  obtain ⟨⟨w1, w2, w3, w4⟩, w5, w7⟩ := hw
  have hmap : ((As.reverse ++ st).map (mx_v E)) = (As.map (mx_v E)).reverse ++ st.map (mx_v E) := by simp
  have hsum : (((st.map (mx_v E)).map fun v => v.category)).sum ≤ 8 := by
    have h : ((st.map (mx_v E)).map fun v => v.category) = st.map fun v => v.category := by rw [List.map_map]; exact List.map_congr_left (fun v _ => mx_cat E v)
    rw [h]
    exact hcat
  have hpre : PreS s H (va_Pc (As.map (mx_v E)) (mx_W E hp)) (As.map (mx_v E)) := ⟨mx_blind E _ hp, mx_pre hst hz hP hS As⟩
  have hroom : (mx_rm d' mc' ms').frames + 1 ≤ K.1.frames ∧ 8 + (maxL + 11) + (mx_rm d' mc' ms').locals ≤ K.1.locals := ⟨hR.1, by show 8 + (maxL + 11) + 64 * d' ≤ _; omega⟩
  rw [hmap]
  refine mx_after (R := R) (rest := st.map (mx_v E)) (mc := mc') (ms := ms') (a := (As.map (mx_v E)).toArray) ?_ hS (fun r hp' H1 locs1 hr hz1 hP1 hS1 => ?_)
  · rcases w7 with w7 | ⟨host, w7⟩
    · exact va_runS (As := As.map (mx_v E)) (rest := st.map (mx_v E)) (n := n) ⟨hx, hb, hml, hown, hts⟩ (hM E l) ⟨callB_of n hts (mx_good w1) rfl rfl rfl (hts _ w2) (hts _ w7) w3 hroom, hts _ w5⟩ hpre rfl (by rw [List.length_map]; exact hn) hL.1 rfl (lv_room hsum) hd ⟨by omega, by omega⟩
    · exact va_runSN (As := As.map (mx_v E)) (rest := st.map (mx_v E)) (n := n) ⟨hx, hb, hml, hown, hts⟩ (hM E l) ⟨va_cnB n hts (mx_good w1) rfl rfl rfl (hst.2.1 _ w7) (hts _ w2) w3 hroom, hts _ w5, trivial⟩ hpre rfl (by rw [List.length_map]; exact hn) hL.1 rfl (lv_room hsum) hd ⟨by omega, by omega⟩
  · have h := k r hp' hr p l e s m args below meth c H1 locs1 (cells + mc') (slots + ms') ls ⟨hx, hb, hfx, ⟨hz1, hP1, hS1⟩, hL, by omega, by omega⟩
    have e1 : (r.toList ++ st).map (mx_v E) = (r.map (mx_v E)).toList ++ st.map (mx_v E) := by cases r <;> simp
    rw [e1] at h
    exact h
theorem E_calli (b : Nat) (As : List Value) (hw : mx_ci y.cls idx z bytes maxL n) (hd : decode cc pc = .ok (.invokespecial idx, 3)) (hM : Sp z bytes maxL none d' mc' ms' (.ref b :: As) hp R) (hn : As.length = n) (hcat : (st.map fun v => v.category).sum ≤ 8) (hR : d' + 1 ≤ K.1.frames ∧ 64 * (d' + 1) ≤ K.1.locals) (bc' bs' : Nat) (hbc : mc' + bc' ≤ bc) (hbs : ms' + bs' ≤ bs) (st0 : List Value) (hst0 : st0 = As.reverse ++ .ref b :: st)
    (k : ∀ (r : Option Value) (hp' : List mx_C), R r hp' → Ev E y cc nL ret K bc' bs' (pc + 3) lv (r.toList ++ st) hp') : Ev E y cc nL ret K bc bs pc lv st0 hp := by
  subst hst0
  intro p l e s m args below meth c H locs cells slots ls X
  obtain ⟨hx, hb, hfx, ⟨hz, hP, hS⟩, hL, hc, hs⟩ := X
  obtain ⟨hml, -, hown, hts, -, -, hst, -⟩ := id hfx
  obtain ⟨⟨w1, w2, w3, w4⟩, w5, w6, w7⟩ := hw
  have hmap : ((As.reverse ++ .ref b :: st).map (mx_v E)) = (As.map (mx_v E)).reverse ++ .ref (E.2.2.1 + b) :: st.map (mx_v E) := by simp [mx_v]
  have hsum : (((st.map (mx_v E)).map fun v => v.category)).sum ≤ 8 := by
    have h : ((st.map (mx_v E)).map fun v => v.category) = st.map fun v => v.category := by rw [List.map_map]; exact List.map_congr_left (fun v _ => mx_cat E v)
    rw [h]
    exact hcat
  have hpre : PreS s H (va_Pc ((.ref b :: As).map (mx_v E)) (mx_W E hp)) (.ref (E.2.2.1 + b) :: As.map (mx_v E)) := ⟨mx_blind E _ hp, mx_pre hst hz hP hS (.ref b :: As)⟩
  have hroom : (mx_rm d' mc' ms').frames + 1 ≤ K.1.frames ∧ 8 + (maxL + 11) + (mx_rm d' mc' ms').locals ≤ K.1.locals := ⟨hR.1, by show 8 + (maxL + 11) + 64 * d' ≤ _; omega⟩
  rw [hmap]
  refine mx_after (R := R) (rest := st.map (mx_v E)) (mc := mc') (ms := ms') (a := (Value.ref (E.2.2.1 + b) :: As.map (mx_v E)).toArray) ?_ hS (fun r hp' H1 locs1 hr hz1 hP1 hS1 => ?_)
  · rcases w7 with w7 | ⟨host, w7⟩
    · exact va_runI (As := As.map (mx_v E)) (rest := st.map (mx_v E)) (n := n) ⟨hx, hb, hml, hown, hts⟩ (hM E l) ⟨callB_of n hts (mx_good w1) rfl rfl rfl (hts _ w2) (hts _ w7) w3 hroom, w6, hts _ w5⟩ hpre rfl (by rw [List.length_map]; exact hn) hL.1 rfl (lv_room hsum) hd ⟨by omega, by omega⟩
    · exact va_runIN (As := As.map (mx_v E)) (rest := st.map (mx_v E)) (n := n) ⟨hx, hb, hml, hown, hts⟩ (hM E l) ⟨va_cnB n hts (mx_good w1) rfl rfl rfl (hst.2.1 _ w7) (hts _ w2) w3 hroom, w6, hts _ w5⟩ hpre rfl (by rw [List.length_map]; exact hn) hL.1 rfl (lv_room hsum) hd ⟨by omega, by omega⟩
  · have h := k r hp' hr p l e s m args below meth c H1 locs1 (cells + mc') (slots + ms') ls ⟨hx, hb, hfx, ⟨hz1, hP1, hS1⟩, hL, by omega, by omega⟩
    have e1 : (r.toList ++ st).map (mx_v E) = (r.map (mx_v E)).toList ++ st.map (mx_v E) := by cases r <;> simp
    rw [e1] at h
    exact h
/-- Object's own constructor -/
theorem E_obj {i : Nat} (hl : Cond.methodLink y.cls idx objectInit ∈ mx_gw) (h2 : Cond.instanceMethod objectInit ∈ mx_gw) (h3 : Cond.code objectInit ⟨#[0xb1]⟩ 1 none ∈ mx_gw) (hd : decode cc pc = .ok (.invokespecial idx, 3)) (hcat : (st.map fun v => v.category).sum ≤ 8) (hR : 1 ≤ K.1.frames ∧ 64 ≤ K.1.locals) (k : Ev E y cc nL ret K bc bs (pc + 3) lv st hp) : Ev E y cc nL ret K bc bs pc lv (.ref i :: st) hp := by
  intro p l e s m args below meth c H locs cells slots ls X
  have hsum : (((st.map (mx_v E)).map fun v => v.category)).sum ≤ 8 := by
    have h : ((st.map (mx_v E)).map fun v => v.category) = st.map fun v => v.category := by rw [List.map_map]; exact List.map_congr_left (fun v _ => mx_cat E v)
    rw [h]
    exact hcat
  obtain ⟨hx, hb, hfx, hw, hL, hcs⟩ := id X
  obtain ⟨hml, -, hown, hts, -⟩ := id hfx
  refine W.objInit hx hb hown (hts _ hl) (hts _ h2) (hts _ h3) rfl (by rw [hml]; exact hL.1) rfl hd hR.1 ?_ ?_
  · show 2 * 0 + ((st.map (mx_v E)).map fun v => v.category).sum + 12 ≤ _
    omega
  · exact k _ _ _ _ _ _ _ _ _ _ _ _ _ _ X
/-- behind a cell that is made -/
theorem mx_pushed {E : mx_E} {hp : List mx_C} {c1 : mx_C} {s : State} {H H1 : Heap} {locs : List Loc} (hz : H.size = E.2.2.1 + hp.length) (hP : va_P E.1 vwCl (mx_w E hp) H) (hS : va_S (mx_A E) s.heap H locs) (z1 : H1.size = H.size + 1) (o1 : ∀ q : Nat, q < H.size → H1[q]? = H[q]?) (he : va_at E.1 vwCl (E.2.2.1 + hp.length, mx_c E c1) H1) : H1.size = E.2.2.1 + (hp ++ [c1]).length ∧ va_P E.1 vwCl (mx_w E (hp ++ [c1])) H1 ∧ va_S (mx_A E) s.heap H1 locs := by
  refine ⟨by rw [z1, hz, List.length_append]; simp; omega, ?_, ⟨Nat.le_trans hS.1 (by omega), fun x h1 h2 => (o1 x (Nat.lt_of_lt_of_le h1 hS.1)).trans (hS.2.1 x h1 h2), hS.2.2⟩⟩
  rw [mx_w_push]
  refine (hP.kept (fun k x hx => o1 x.1 ((hP k x hx).lt))).app (fun k x hx => ?_)
  have hk : k < 1 := (List.getElem?_eq_some_iff.mp hx).1
  rw [show k = 0 by omega] at hx
  cases hx
  exact he
/-- what the tables say of a making -/
def mx_nw (own : String) (idx ci : Nat) (fs : List Value) (N : Nat) : Prop := ∃ (C : String) (T : u_T) (ty : Nat → FieldType), vwCl[ci]? = some (C, T, N) ∧ (∀ w ∈ u_ws C T N, w ∈ mx_gw) ∧ (∀ k, k < N → parseFieldDescriptor (T k).2.2.1 = some (ty k)) ∧ Cond.classLink own idx C ∈ mx_gw ∧ Cond.instantiable C N ∈ mx_gw ∧ Cond.initialized C ∈ mx_gw ∧ (∀ j, j < N → defaultValue (ty j) = vp_V fs j)
theorem E_new {ci N : Nat} {fs : List Value} (hw : mx_nw y.cls idx ci fs N) (hd : decode cc pc = .ok (.new idx, 3)) (hfs : fs.map (mx_v E) = fs) (bc' bs' : Nat) (hbc : 1 + bc' ≤ bc) (hbs : N + bs' ≤ bs) (k : Ev E y cc nL ret K bc' bs' (pc + 3) lv (.ref hp.length :: st) (hp ++ [.inr (ci, fs)])) : Ev E y cc nL ret K bc bs pc lv st hp := by
  intro p l e s m args below meth c H locs cells slots ls X
  obtain ⟨hx, hb, hfx, ⟨hz, hP, hS⟩, hL, hc, hs⟩ := X
  obtain ⟨hml, -, hown, hts, -, -, hst, -⟩ := id hfx
  obtain ⟨C, T, ty, hcl, hin, hty, w1, w2, w3, hdf⟩ := hw
  have hKn := hst.1.1 ci _ hcl
  refine W.newcK hx hb hown (hts _ w1) (hts _ w2) (hts _ w3) rfl hd (by omega) (by omega) hKn.2.1 rfl fun H1 kC hkC e1 z1 o1 => ?_
  have h := k p l e s m args below meth c H1 locs (cells + 1) (slots + N) ls ⟨hx, hb, hfx, mx_pushed hz hP hS z1 o1 ?_, hL, by omega, by omega⟩
  · rw [hz]
    exact h
  · refine ⟨_, hcl, ?_⟩
    show t_OB (E.2.2.1 + hp.length) _ _ _ _ (vp_V (fs.map (mx_v E)))
    rw [hfs, ← hz]
    exact (u_born ty hts hin hKn hkC e1 hty).to hdf
theorem E_newa {j : Int32} {N : Nat} {t : Nat} {at' : ArrayType} {a0 : vp_A} (hd : decode cc pc = .ok (.newarray at', 2)) (hw : Cond.arrayClass (newarray.typeOf at') ∈ mx_gw) (ht : (mx_ts E)[t]? = some (E.2.1 t, newarray.typeOf at')) (ha : ∀ cA : ClassId, vp_cell cA (mx_a E.2.2.1 a0) = arrV cA N (fun _ => defaultValue (newarray.typeOf at'))) (hj : ¬ j < 0) (hN : j.toNatClampNeg = N) (hby : N * componentBytes (newarray.typeOf at') ≤ 536870912) (bc' bs' : Nat) (hbc : 1 + bc' ≤ bc) (hbs : N + bs' ≤ bs) (k : Ev E y cc nL ret K bc' bs' (pc + 2) lv (.ref hp.length :: st) (hp ++ [.inl (t, a0)])) : Ev E y cc nL ret K bc bs pc lv (.int j :: st) hp := by
  intro p l e s m args below meth c H locs cells slots ls X
  obtain ⟨hx, hb, hfx, ⟨hz, hP, hS⟩, hL, hc, hs⟩ := X
  obtain ⟨hml, -, hown, hts, -, -, hst, -⟩ := id hfx
  refine va_newaK hx hb (hts _ hw) rfl hd rfl hj hN hby (by omega) (by omega) rfl fun H1 cA e1 z1 o1 hAr hNm => ?_
  have hcA : E.2.1 t = cA := by
    have h := (hst.1.2 t _ ht).2
    have h2 : s.vm.findClass ("[" ++ (newarray.typeOf at').toString) = some (E.2.1 t) := by
      revert h
      cases at' <;> exact id
    exact Option.some.inj (h2.symm.trans hNm)
  have h := k p l e s m args below meth c H1 locs (cells + 1) (slots + N) ls ⟨hx, hb, hfx, mx_pushed hz hP hS z1 o1 ?_, hL, by omega, by omega⟩
  · rw [hz]
    exact h
  · show H1[E.2.2.1 + hp.length]? = some (vp_cell (E.2.1 t) (mx_a E.2.2.1 a0))
    rw [ha, hcA, ← hz]
    exact e1
end EC
