/-! ===== THE SMALL MACHINE: fields, arrays, making, ends, calls ===== -/
/-- of a field that an instruction of class own names: which kind of object, which field -/
def mx_fl (own : String) (idx ci f : Nat) : Prop := ∃ (C : String) (T : u_T) (N : Nat), vwCl[ci]? = some (C, T, N) ∧ f < N ∧ (∀ w ∈ u_ws C T N, w ∈ mx_gw) ∧ Cond.fieldLink own idx (T f).1 (T f).2.1 (T f).2.2.1 ∈ mx_gw
/-- of a field of a kind of object: its type, and whether it is final -/
def mx_ft (ci f : Nat) (ty : FieldType) (fin : Bool) : Prop := ∃ (C : String) (T : u_T) (N : Nat) (ty0 : Nat → FieldType), vwCl[ci]? = some (C, T, N) ∧ (∀ k, k < N → parseFieldDescriptor (T k).2.2.1 = some (ty0 k)) ∧ (∀ a, a < N → ∀ b, b < N → a ≠ b → (T a).2.1 ≠ (T b).2.1) ∧ (T f).2.2.2 = fin ∧ (T f).1 = C ∧ parseFieldDescriptor (T f).2.2.1 = some ty
section EH
variable {E : mx_E} {y : MethodName} {cc : ByteArray} {nL : Nat} {ret : Option FieldType} {K : mx_Kd} {bc bs pc : Nat} {lv st : List Value} {hp : List mx_C}
theorem E_getf {idx ci f i : Nat} {fs : List Value} {v : Value} (hf : mx_fl y.cls idx ci f) (hd : decode cc pc = .ok (.getfield idx, 3)) (hi : hp[i]? = some (.inr (ci, fs))) (hv : fs[f]? = some v) (k : Ev E y cc nL ret K bc bs (pc + 3) lv (v :: st) hp) : Ev E y cc nL ret K bc bs pc lv (.ref i :: st) hp := by
  intro p l e s m args below meth c H locs cells slots ls X
  obtain ⟨C, T, N, h1, h2, h3, h4⟩ := hf
  exact va_get (C := C) (T := T) (N := N) (D := E.1) (cl := vwCl) (tys := mx_ts E) (ws := mx_w E hp) X.1 X.2.1 X.2.2.1.2.2.2.1 h3 X.2.2.1.2.2.1 X.2.2.1.2.2.2.2.2.2.1.1 X.2.2.2.1.2.1 i (mx_w_get hi) h1 f h2 (X.2.2.1.2.2.2.1 _ h4) (fun _ h => h) (v := mx_v E v) (by simp [hv]) hd (k _ _ _ _ _ _ _ _ _ _ _ _ _ _ X)
/-- behind a store into one cell -/
theorem mx_stored {E : mx_E} {hp : List mx_C} {i : Nat} {c0 c1 : mx_C} {s : State} {H H1 : Heap} {locs : List Loc} {q : Nat} (hi : hp[i]? = some c0) (hz : H.size = E.2.2.1 + hp.length) (hP : va_P E.1 vwCl (mx_w E hp) H) (hS : va_S (mx_A E) s.heap H locs) (z : H1.size = H.size) (oq : ∀ q : Nat, q ≠ E.2.2.1 + i → H1[q]? = H[q]?) (he : va_at E.1 vwCl (E.2.2.1 + i, mx_c E c1) H1) : H1.size = E.2.2.1 + (hp.set i c1).length ∧ va_P E.1 vwCl (mx_w E (hp.set i c1)) H1 ∧ va_S (mx_A E) s.heap H1 (locs ++ [⟨E.2.2.1 + i, q⟩]) := by
  have hD := mx_D E hp
  have hg := mx_w_get (E := E) hi
  refine ⟨by rw [z, hz, List.length_set], ?_, hS.put z oq (hD.2 i _ hg)⟩
  have h := hP.set hD hg he oq
  rw [mx_w_set] at h
  exact h
theorem E_putf {idx ci f i : Nat} {fs : List Value} {v : Value} {ty : FieldType} (hf : mx_fl y.cls idx ci f) (hq : mx_ft ci f ty false) (hd : decode cc pc = .ok (.putfield idx, 3)) (hi : hp[i]? = some (.inr (ci, fs))) (hl : f < fs.length) (hn : narrow ty (mx_v E v) = mx_v E v) (hfit : fits ty (mx_v E v) = true) (k : Ev E y cc nL ret K bc bs (pc + 3) lv st (hp.set i (.inr (ci, fs.set f v)))) : Ev E y cc nL ret K bc bs pc lv (v :: .ref i :: st) hp := by
  intro p l e s m args below meth c H locs cells slots ls X
  obtain ⟨hx, hb, hfx, ⟨hz, hP, hS0⟩, hL, hcs⟩ := X
  obtain ⟨-, -, hown, hts, -, -, hst0, -⟩ := id hfx
  obtain ⟨C, T, N, hc, hk, hin, hlink⟩ := hf
  obtain ⟨C', T', N', ty0, hc', hty, hnm, hfin, -, hpd⟩ := hq
  cases hc.symm.trans hc'
  have hK := hst0.1
  have he := mx_w_get (E := E) hi
  have hap := va_apart (own := y.cls) hts hin ty0 hty hnm hK hc
  obtain ⟨r, g1, cell, q1, q2, q3, q4⟩ := hP i _ he
  have hr : r = (C, T, N) := Option.some.inj (g1.symm.trans hc)
  subst hr
  obtain ⟨hS, hfc, kC, hkC, hkind⟩ := hK.1 ci _ hc
  obtain ⟨cf, kf, fi, fl, hfi, hsl⟩ := hS f hk
  have hlay := hts _ (hin _ (u_in_lay hk))
  unfold u_lay at hlay
  rw [if_neg (by rw [hfin]; decide)] at hlay
  have hstt := (u_facts hfc hkC (u_lays hts hin hk) hfi).1
  have h7 := u_store hfc hkC hkind hlay hfi hpd hn hfit
  refine W.putK hx hb (f := fl) ⟨hown, hts _ hlink, ⟨_, _, _, hfi⟩, hstt⟩ (by rw [q2]; exact h7) q1 q3 (by rw [hsl]; exact k2_hasslot (q4 f hk)) rfl rfl hd fun H' e1 e2 e3 => ?_
  rw [hsl] at e1 ⊢
  have hm : (fs.set f v).map (mx_v E) = (fs.map (mx_v E)).set f (mx_v E v) := List.map_set
  refine k _ _ _ _ _ _ _ _ _ _ _ _ _ _ ⟨hx, hb, hfx, mx_stored hi hz hP hS0 e2 e3 ?_, hL, hcs⟩
  refine ⟨_, hc, t_OB.to (V := updV (vp_V (fs.map (mx_v E))) f (mx_v E v)) ⟨_, e1, q2, q3, t_set q4 hap hk _⟩ (fun j _ => ?_)⟩
  show _ = vp_V ((fs.set f v).map (mx_v E)) j
  rw [hm]
  exact vp_updV_set (by simpa using hl) _ j
theorem E_putF {idx ci f i : Nat} {fs : List Value} {v : Value} {ty : FieldType} (hf : mx_fl y.cls idx ci f) (hq : mx_ft ci f ty true) (hy : y.name = "<init>" ∧ (vwCl[ci]?).map (fun q => q.1) = some y.cls) (hd : decode cc pc = .ok (.putfield idx, 3)) (hi : hp[i]? = some (.inr (ci, fs))) (hl : f < fs.length) (hn : narrow ty (mx_v E v) = mx_v E v) (hfit : fits ty (mx_v E v) = true) (k : Ev E y cc nL ret K bc bs (pc + 3) lv st (hp.set i (.inr (ci, fs.set f v)))) : Ev E y cc nL ret K bc bs pc lv (v :: .ref i :: st) hp := by
  intro p l e s m args below meth c H locs cells slots ls X
  obtain ⟨hx, hb, hfx, ⟨hz, hP, hS0⟩, hL, hcs⟩ := X
  obtain ⟨-, -, hown, hts, -, hnam, hst0, -⟩ := id hfx
  obtain ⟨C, T, N, hc, hk, hin, hlink⟩ := hf
  obtain ⟨C', T', N', ty0, hc', hty, hnm, hfin, hdcl, hpd⟩ := hq
  cases hc.symm.trans hc'
  have hyC : C = y.cls := by
    have h := hy.2
    rw [hc] at h
    exact Option.some.inj h
  have hK := hst0.1
  have he := mx_w_get (E := E) hi
  have hap := va_apart (own := y.cls) hts hin ty0 hty hnm hK hc
  obtain ⟨r, g1, cell, q1, q2, q3, q4⟩ := hP i _ he
  have hr : r = (C, T, N) := Option.some.inj (g1.symm.trans hc)
  subst hr
  obtain ⟨hS, hfc, kC, hkC, hkind⟩ := hK.1 ci _ hc
  obtain ⟨cf, kf, fi, fl, hfi, hsl⟩ := hS f hk
  have hlay := hts _ (hin _ (u_in_lay hk))
  unfold u_lay at hlay
  rw [if_pos hfin] at hlay
  have hstt := (u_facts hfc hkC (u_lays hts hin hk) hfi).1
  have hcf : m.cls = cf := by
    obtain ⟨_, _, c', _, _, _, -, -, hf', -, -, -, hown2, -⟩ := Cond.laysFinal_spec hlay
    have e1 : c' = cf := by have := hfi.symm.trans hf'; simp at this; exact this.1.symm
    rw [hdcl, hyC] at hown2
    rw [← e1]; exact Option.some.inj (hown.symm.trans hown2)
  have h7 := u_fits hfc hkC hkind (Or.inr hlay) hfi hpd hn hfit
  refine W.putFinK hx hb hown (hts _ hlink) hfi hstt hcf (hnam.trans hy.1) (by rw [q2]; exact h7) q1 q3 (by rw [hsl]; exact k2_hasslot (q4 f hk)) rfl rfl hd fun H' e1 e2 e3 => ?_
  rw [hsl] at e1 ⊢
  have hm : (fs.set f v).map (mx_v E) = (fs.map (mx_v E)).set f (mx_v E v) := List.map_set
  refine k _ _ _ _ _ _ _ _ _ _ _ _ _ _ ⟨hx, hb, hfx, mx_stored hi hz hP hS0 e2 e3 ?_, hL, hcs⟩
  refine ⟨_, hc, t_OB.to (V := updV (vp_V (fs.map (mx_v E))) f (mx_v E v)) ⟨_, e1, q2, q3, t_set q4 hap hk _⟩ (fun j _ => ?_)⟩
  show _ = vp_V ((fs.set f v).map (mx_v E)) j
  rw [hm]
  exact vp_updV_set (by simpa using hl) _ j
-- arrays: reads
theorem E_iald {i n : Nat} {f : Nat → Int32} {j : Int32} (hd : decode cc pc = .ok (.iaload, 1)) (hi : hp[i]? = some (.inl (0, n, .inl f))) (hin : vp_in j n) (k : Ev E y cc nL ret K bc bs (pc + 1) lv (.int (f j.toNatClampNeg) :: st) hp) : Ev E y cc nL ret K bc bs pc lv (.int j :: .ref i :: st) hp :=
  fun p l e s m args below meth c H locs cells slots ls X => va_iald X.1 X.2.1 X.2.2.1.2.2.2.2.2.2.1.1 X.2.2.2.1.2.1 i 0 (mx_w_get hi) rfl hin hd (k _ _ _ _ _ _ _ _ _ _ _ _ _ _ X)
theorem E_bald {i n : Nat} {f : Nat → Int32} {j : Int32} (hd : decode cc pc = .ok (.baload, 1)) (hi : hp[i]? = some (.inl (1, n, .inl f))) (hin : vp_in j n) (k : Ev E y cc nL ret K bc bs (pc + 1) lv (.int (f j.toNatClampNeg) :: st) hp) : Ev E y cc nL ret K bc bs pc lv (.int j :: .ref i :: st) hp :=
  fun p l e s m args below meth c H locs cells slots ls X => va_bald X.1 X.2.1 X.2.2.1.2.2.2.2.2.2.1.1 X.2.2.2.1.2.1 i 1 (mx_w_get hi) rfl hin hd (k _ _ _ _ _ _ _ _ _ _ _ _ _ _ X)
theorem E_zald {i n : Nat} {f : Nat → Int32} {j : Int32} (hd : decode cc pc = .ok (.baload, 1)) (hi : hp[i]? = some (.inl (2, n, .inl f))) (hin : vp_in j n) (k : Ev E y cc nL ret K bc bs (pc + 1) lv (.int (f j.toNatClampNeg) :: st) hp) : Ev E y cc nL ret K bc bs pc lv (.int j :: .ref i :: st) hp :=
  fun p l e s m args below meth c H locs cells slots ls X => va_zald X.1 X.2.1 X.2.2.1.2.2.2.2.2.2.1.1 X.2.2.2.1.2.1 i 2 (mx_w_get hi) rfl hin hd (k _ _ _ _ _ _ _ _ _ _ _ _ _ _ X)
theorem E_lald {i n : Nat} {f : Nat → Int64} {j : Int32} (hd : decode cc pc = .ok (.laload, 1)) (hi : hp[i]? = some (.inl (3, n, .inr (.inl f)))) (hin : vp_in j n) (k : Ev E y cc nL ret K bc bs (pc + 1) lv (.long (f j.toNatClampNeg) :: st) hp) : Ev E y cc nL ret K bc bs pc lv (.int j :: .ref i :: st) hp :=
  fun p l e s m args below meth c H locs cells slots ls X => va_lald X.1 X.2.1 X.2.2.1.2.2.2.2.2.2.1.1 X.2.2.2.1.2.1 i 3 (mx_w_get hi) rfl hin hd (k _ _ _ _ _ _ _ _ _ _ _ _ _ _ X)
theorem mx_v_rf (E : mx_E) (r : Option Nat) : mx_v E (va_rf r) = va_rf (r.map (fun i => E.2.2.1 + i)) := by cases r <;> rfl
theorem E_aald {i n : Nat} {f : Nat → Option Nat} {j : Int32} (hd : decode cc pc = .ok (.aaload, 1)) (hi : hp[i]? = some (.inl (4, n, .inr (.inr (.inr (.inr f)))))) (hin : vp_in j n) (k : Ev E y cc nL ret K bc bs (pc + 1) lv (va_rf (f j.toNatClampNeg) :: st) hp) : Ev E y cc nL ret K bc bs pc lv (.int j :: .ref i :: st) hp := by
  intro p l e s m args below meth c H locs cells slots ls X
  refine va_aldq X.1 X.2.1 X.2.2.1.2.2.2.2.2.2.1.1 X.2.2.2.1.2.1 i 4 (mx_w_get hi) rfl hin hd ?_
  have h := k p l e s m args below meth c H locs cells slots ls X
  rw [List.map_cons, mx_v_rf] at h
  exact h
theorem E_alen {i n : Nat} {f : Nat → Int32} (hd : decode cc pc = .ok (.arraylength, 1)) (hi : hp[i]? = some (.inl (0, n, .inl f))) (k : Ev E y cc nL ret K bc bs (pc + 1) lv (.int (Int32.ofNat n) :: st) hp) : Ev E y cc nL ret K bc bs pc lv (.ref i :: st) hp :=
  fun p l e s m args below meth c H locs cells slots ls X => va_alen X.1 X.2.1 X.2.2.1.2.2.2.2.2.2.1.1 X.2.2.2.1.2.1 i 0 (mx_w_get hi) rfl rfl hd (k _ _ _ _ _ _ _ _ _ _ _ _ _ _ X)
-- arrays: stores
theorem E_iast {i n : Nat} {f : Nat → Int32} {j x : Int32} (hd : decode cc pc = .ok (.iastore, 1)) (hi : hp[i]? = some (.inl (0, n, .inl f))) (hin : vp_in j n) (k : Ev E y cc nL ret K bc bs (pc + 1) lv st (hp.set i (.inl (0, n, .inl (upd f j.toNatClampNeg x))))) : Ev E y cc nL ret K bc bs pc lv (.int x :: .int j :: .ref i :: st) hp := by
  intro p l e s m args below meth c H locs cells slots ls X
  obtain ⟨hx, hb, hfx, ⟨hz, hP, hS0⟩, hL, hcs⟩ := X
  have hK := hfx.2.2.2.2.2.2.1.1
  refine W.iast hx hb (hP i _ (mx_w_get hi)) ((hK.2 0 _ rfl).1 n (fun j => .int (f j))) (fun q => by cases q) (by show ¬ (j < 0 ∨ (arrV _ _ _).slots.size ≤ _); rw [arrV_size]; exact hin) rfl rfl hd fun H1 e1 z oq => ?_
  refine k _ _ _ _ _ _ _ _ _ _ _ _ _ _ ⟨hx, hb, hfx, mx_stored hi hz hP hS0 z oq ?_, hL, hcs⟩
  show H1[E.2.2.1 + i]? = some (vp_cell (E.2.1 0) (n, .inl (upd f j.toNatClampNeg x)))
  rw [e1]
  show some ((vp_cell (E.2.1 0) (n, .inl f)).setSlot _ _) = _
  rw [vp_cell_i, vp_cell_i, arrV_store]
  congr 2
  funext q
  by_cases hq : q = j.toNatClampNeg
  · subst hq
    simp [updV, upd]
  · simp [updV, upd, hq]
theorem E_bast {i n : Nat} {f : Nat → Int32} {j x : Int32} (hd : decode cc pc = .ok (.bastore, 1)) (hi : hp[i]? = some (.inl (1, n, .inl f))) (hin : vp_in j n) (k : Ev E y cc nL ret K bc bs (pc + 1) lv st (hp.set i (.inl (1, n, .inl (upd f j.toNatClampNeg (vp_nar .byte x)))))) : Ev E y cc nL ret K bc bs pc lv (.int x :: .int j :: .ref i :: st) hp := by
  intro p l e s m args below meth c H locs cells slots ls X
  obtain ⟨hx, hb, hfx, ⟨hz, hP, hS0⟩, hL, hcs⟩ := X
  have hK := hfx.2.2.2.2.2.2.1.1
  refine W.bast hx hb (hP i _ (mx_w_get hi)) ((hK.2 1 _ rfl).1 n (fun j => .int (f j))) (fun q => by cases q) (by show ¬ (j < 0 ∨ (arrV _ _ _).slots.size ≤ _); rw [arrV_size]; exact hin) rfl rfl hd fun H1 e1 z oq => ?_
  refine k _ _ _ _ _ _ _ _ _ _ _ _ _ _ ⟨hx, hb, hfx, mx_stored hi hz hP hS0 z oq ?_, hL, hcs⟩
  show H1[E.2.2.1 + i]? = some (vp_cell (E.2.1 1) (n, .inl (upd f j.toNatClampNeg (vp_nar .byte x))))
  rw [e1]
  show some ((vp_cell (E.2.1 1) (n, .inl f)).setSlot _ _) = _
  rw [vp_cell_i, vp_cell_i, arrV_store]
  congr 2
  funext q
  by_cases hq : q = j.toNatClampNeg
  · subst hq
    simp [updV, upd, vp_nar]
    try rfl
  · simp [updV, upd, hq]
theorem E_zast {i n : Nat} {f : Nat → Int32} {j x : Int32} (hd : decode cc pc = .ok (.bastore, 1)) (hi : hp[i]? = some (.inl (2, n, .inl f))) (hin : vp_in j n) (k : Ev E y cc nL ret K bc bs (pc + 1) lv st (hp.set i (.inl (2, n, .inl (upd f j.toNatClampNeg (vp_nar .boolean x)))))) : Ev E y cc nL ret K bc bs pc lv (.int x :: .int j :: .ref i :: st) hp := by
  intro p l e s m args below meth c H locs cells slots ls X
  obtain ⟨hx, hb, hfx, ⟨hz, hP, hS0⟩, hL, hcs⟩ := X
  have hK := hfx.2.2.2.2.2.2.1.1
  refine W.zast hx hb (hP i _ (mx_w_get hi)) ((hK.2 2 _ rfl).1 n (fun j => .int (f j))) (fun q => by cases q) (by show ¬ (j < 0 ∨ (arrV _ _ _).slots.size ≤ _); rw [arrV_size]; exact hin) rfl rfl hd fun H1 e1 z oq => ?_
  refine k _ _ _ _ _ _ _ _ _ _ _ _ _ _ ⟨hx, hb, hfx, mx_stored hi hz hP hS0 z oq ?_, hL, hcs⟩
  show H1[E.2.2.1 + i]? = some (vp_cell (E.2.1 2) (n, .inl (upd f j.toNatClampNeg (vp_nar .boolean x))))
  rw [e1]
  show some ((vp_cell (E.2.1 2) (n, .inl f)).setSlot _ _) = _
  rw [vp_cell_i, vp_cell_i, arrV_store]
  congr 2
  funext q
  by_cases hq : q = j.toNatClampNeg
  · subst hq
    simp [updV, upd, vp_nar]
    try rfl
  · simp [updV, upd, hq]
theorem E_last {i n : Nat} {f : Nat → Int64} {j : Int32} {x : Int64} (hd : decode cc pc = .ok (.lastore, 1)) (hi : hp[i]? = some (.inl (3, n, .inr (.inl f)))) (hin : vp_in j n) (k : Ev E y cc nL ret K bc bs (pc + 1) lv st (hp.set i (.inl (3, n, .inr (.inl (vp_updL f j.toNatClampNeg x)))))) : Ev E y cc nL ret K bc bs pc lv (.long x :: .int j :: .ref i :: st) hp := by
  intro p l e s m args below meth c H locs cells slots ls X
  obtain ⟨hx, hb, hfx, ⟨hz, hP, hS0⟩, hL, hcs⟩ := X
  have hK := hfx.2.2.2.2.2.2.1.1
  refine W.last hx hb (hP i _ (mx_w_get hi)) ((hK.2 3 _ rfl).1 n (fun j => .long (f j))) (fun q => by cases q) (by show ¬ (j < 0 ∨ (arrV _ _ _).slots.size ≤ _); rw [arrV_size]; exact hin) rfl rfl hd fun H1 e1 z oq => ?_
  refine k _ _ _ _ _ _ _ _ _ _ _ _ _ _ ⟨hx, hb, hfx, mx_stored hi hz hP hS0 z oq ?_, hL, hcs⟩
  show H1[E.2.2.1 + i]? = some (vp_cell (E.2.1 3) (n, .inr (.inl (vp_updL f j.toNatClampNeg x))))
  rw [e1]
  show some ((vp_cell (E.2.1 3) (n, .inr (.inl f))).setSlot _ _) = _
  rw [vp_cell_l, vp_cell_l, arrV_store]
  congr 2
  funext q
  by_cases hq : q = j.toNatClampNeg
  · subst hq
    simp [updV, vp_updL]
  · simp [updV, vp_updL, hq]
end EH
/-! ends -/
def mx_rm (d mc ms : Nat) : Room := { frames := d, cells := mc, slots := ms, locals := 64 * d }
def mx_Q (E : mx_E) (R : Option Value → List mx_C → Prop) : Array Value → State → Outcome → State → Prop := fun _ st o t => (∃ (r : Option Value) (hp' : List mx_C), o = .returned (r.map (mx_v E)) ∧ R r hp' ∧ mx_W E hp' t) ∧ va_F (mx_A E) st t
def mx_km (E : mx_E) (d mc ms : Nat) (R : Option Value → List mx_C → Prop) : mx_Kd := (mx_rm d mc ms, fun args s below => MQ below (mx_Q E R) args s mc ms (mx_A E), fun _ _ => True)
/-- a method's contract: on these arguments and cells it returns, and R holds of what it answers and of the cells then -/
def Sp (y : MethodName) (cc : ByteArray) (nL : Nat) (ret : Option FieldType) (d mc ms : Nat) (av : List Value) (hp : List mx_C) (R : Option Value → List mx_C → Prop) : Prop :=
  ∀ (E : mx_E) (l : Launch), Met l y (Cond.code y cc nL ret :: mx_gw) (mx_rm d mc ms) (va_Pc (av.map (mx_v E)) (mx_W E hp)) (mx_Q E R) mc ms (mx_A E)
section EE
variable {E : mx_E} {y : MethodName} {cc : ByteArray} {nL : Nat} {ret : Option FieldType} {d mc ms bc bs pc : Nat} {lv : List Value} {hp : List mx_C} {R : Option Value → List mx_C → Prop}
theorem mx_end {E : mx_E} {hp : List mx_C} {R : Option Value → List mx_C → Prop} {r : Option Value} {v : Option Value} {args : Array Value} {s t : State} {H : Heap} {locs : List Loc} (hv : r.map (mx_v E) = v) (hR : R r hp) (hst : mx_st E s) (hz : H.size = E.2.2.1 + hp.length) (hP : va_P E.1 vwCl (mx_w E hp) H) (hS : va_S (mx_A E) s.heap H locs) (ht : t.heap = H) (hW : s.WarmedH t.vm) : mx_Q E R args s (.returned v) t :=
  ⟨⟨r, hp, by rw [hv], hR, by rw [ht]; exact hz, by rw [ht]; exact hP, hst.go hW (fun q h1 h2 => by rw [ht]; exact hS.2.1 q h1 h2)⟩, hS.F ht⟩
theorem E_iret {v : Int32} (hr : ret = some .int) (hd : decode cc pc = .ok (.ireturn, 1)) (hR : R (some (.int v)) hp) : Ev E y cc nL ret (mx_km E d mc ms R) bc bs pc lv [.int v] hp := by
  intro p l e s m args below meth c H locs cells slots ls X
  obtain ⟨hx, hb, ⟨-, hrt, -, -, hlk, -, hst, -, -⟩, ⟨hz, hP, hS⟩, -, hc, hs⟩ := X
  refine W.widen (k := mc) (n := ms) (Nat.le_trans (Nat.le_add_right _ _) hc) (Nat.le_trans (Nat.le_add_right _ _) hs) ?_
  exact W.iret hx hb (hrt.trans hr) (fun t ht hW => mx_end (r := some (.int v)) rfl hR hst hz hP hS ht hW) hS.2.2 hd hlk
theorem E_zret {v : Int32} {ty : FieldType} (hr : ret = some ty) (hn : narrow ty (.int v) = .int v) (hd : decode cc pc = .ok (.ireturn, 1)) (hR : R (some (.int v)) hp) : Ev E y cc nL ret (mx_km E d mc ms R) bc bs pc lv [.int v] hp := by
  intro p l e s m args below meth c H locs cells slots ls X
  obtain ⟨hx, hb, ⟨-, hrt, -, -, hlk, -, hst, -, -⟩, ⟨hz, hP, hS⟩, -, hc, hs⟩ := X
  refine W.widen (k := mc) (n := ms) (Nat.le_trans (Nat.le_add_right _ _) hc) (Nat.le_trans (Nat.le_add_right _ _) hs) ?_
  exact W.zret hx hb (hrt.trans hr) hn (fun t ht hW => mx_end (r := some (.int v)) rfl hR hst hz hP hS ht hW) hS.2.2 hd hlk
theorem E_lret {v : Int64} (hr : ret = some .long) (hd : decode cc pc = .ok (.lreturn, 1)) (hR : R (some (.long v)) hp) : Ev E y cc nL ret (mx_km E d mc ms R) bc bs pc lv [.long v] hp := by
  intro p l e s m args below meth c H locs cells slots ls X
  obtain ⟨hx, hb, ⟨-, hrt, -, -, hlk, -, hst, -, -⟩, ⟨hz, hP, hS⟩, -, hc, hs⟩ := X
  refine W.widen (k := mc) (n := ms) (Nat.le_trans (Nat.le_add_right _ _) hc) (Nat.le_trans (Nat.le_add_right _ _) hs) ?_
  exact W.lret hx hb (hrt.trans hr) (fun t ht hW => mx_end (r := some (.long v)) rfl hR hst hz hP hS ht hW) hS.2.2 hd hlk
theorem E_vret (hr : ret = none) (hd : decode cc pc = .ok (.return_, 1)) (hR : R none hp) : Ev E y cc nL ret (mx_km E d mc ms R) bc bs pc lv [] hp := by
  intro p l e s m args below meth c H locs cells slots ls X
  obtain ⟨hx, hb, ⟨-, hrt, -, -, hlk, -, hst, -, -⟩, ⟨hz, hP, hS⟩, -, hc, hs⟩ := X
  refine W.widen (k := mc) (n := ms) (Nat.le_trans (Nat.le_add_right _ _) hc) (Nat.le_trans (Nat.le_add_right _ _) hs) ?_
  exact W.vret hx hb (hrt.trans hr) (fun t ht hW => mx_end (r := none) rfl hR hst hz hP hS ht hW) hS.2.2 hd hlk
theorem E_aret {v : Option Nat} {rt : FieldType} (hr : ret = some rt) (hrt : (∃ n, rt = .object n) ∨ ∃ t, rt = .array t) (hd : decode cc pc = .ok (.areturn, 1)) (hR : R (some (va_rf v)) hp) : Ev E y cc nL ret (mx_km E d mc ms R) bc bs pc lv [va_rf v] hp := by
  intro p l e s m args below meth c H locs cells slots ls X
  obtain ⟨hx, hb, ⟨-, hrt2, -, -, hlk, -, hst, -, -⟩, ⟨hz, hP, hS⟩, -, hc, hs⟩ := X
  refine W.widen (k := mc) (n := ms) (Nat.le_trans (Nat.le_add_right _ _) hc) (Nat.le_trans (Nat.le_add_right _ _) hs) ?_
  exact W.aret (v := mx_v E (va_rf v)) hx hb (hrt2.trans hr) hrt (by cases v; exact Or.inl rfl; exact Or.inr ⟨_, rfl⟩) (fun t ht hW => mx_end (r := some (va_rf v)) rfl hR hst hz hP hS ht hW) hS.2.2 hd hlk
end EE
/-! a method's start -/
def mx_en : List Value → List Value
  | [] => []
  | .long v :: vs => .long v :: .retAddr 0 :: mx_en vs
  | v :: vs => v :: mx_en vs
theorem mx_en_args (E : mx_E) : ∀ (av : List Value) (o : Nat), (∀ v ∈ av, ∀ b, v ≠ .double b) → ∀ (i : Nat) (v : Value), (mx_en av)[i]? = some v → mx_kn v = true → (o + i, mx_v E v) ∈ lv_args o (av.map (mx_v E)) := by
  intro av
  induction av with
  | nil => intro o _ i v h; simp [mx_en] at h
  | cons u us ih =>
    intro o hnd i v h hk
    have ih := fun o => ih o (fun v hv => hnd v (List.mem_cons_of_mem _ hv))
    have one : u.category = 1 → (u :: mx_en us)[i]? = some v → (o + i, mx_v E v) ∈ lv_args o ((u :: us).map (mx_v E)) := by
      intro hc h
      rw [List.map_cons, lv_args, if_neg (by rw [mx_cat, hc]; decide)]
      cases i with
      | zero => simp at h; subst h; exact List.mem_cons_self
      | succ i =>
        rw [List.getElem?_cons_succ] at h
        refine List.mem_cons_of_mem _ ?_
        have := ih (o + 1) i v h hk
        rw [show o + (i + 1) = o + 1 + i by omega]
        exact this
    cases u with
    | long x =>
      rw [List.map_cons, lv_args, if_pos (by rw [mx_cat]; rfl)]
      change (Value.long x :: Value.retAddr 0 :: mx_en us)[i]? = some v at h
      match i with
      | 0 => simp at h; subst h; exact List.mem_cons_self
      | 1 => simp at h; subst h; cases hk
      | i + 2 =>
        rw [List.getElem?_cons_succ, List.getElem?_cons_succ] at h
        refine List.mem_cons_of_mem _ ?_
        have := ih (o + 2) i v h hk
        rw [show o + (i + 2) = o + 2 + i by omega]
        exact this
    | double b => exact absurd rfl (hnd _ List.mem_cons_self b)
    | int x => exact one rfl h
    | float x => exact one rfl h
    | null => exact one rfl h
    | ref x => exact one rfl h
    | retAddr x => exact one rfl h
def mx_sz : List Value → Nat
  | [] => 0
  | v :: vs => v.category + mx_sz vs
theorem mx_sz_sl (E : mx_E) (av : List Value) : (lg_sl (av.map (mx_v E))).length = mx_sz av := by
  induction av with
  | nil => rfl
  | cons v vs ih =>
    have h : lg_sl ((v :: vs).map (mx_v E)) = (if (mx_v E v).category = 2 then [Slot.val (mx_v E v), .second] else [.val (mx_v E v)]) ++ lg_sl (vs.map (mx_v E)) := by simp [lg_sl]
    rw [h, List.length_append, ih, mx_cat]
    rcases lv_cat v with hc | hc <;> simp [mx_sz, hc]
theorem mx_blind (E : mx_E) (av : List Value) (hp : List mx_C) : FrameBlind (va_Pc av (mx_W E hp)) := by
  intro a U g mk q
  obtain ⟨q0, q1, q2, q3⟩ := q
  exact ⟨q0, q1, q2, mx_st.go (s := U) (U := U.calling g mk a) q3 (State.WarmedH.refl U) (fun _ _ _ => rfl)⟩
theorem Sp.of {y : MethodName} {cc : ByteArray} {nL : Nat} {ret : Option FieldType} {d mc ms : Nat} {av : List Value} {hp : List mx_C} {R : Option Value → List mx_C → Prop} (lv : List Value) (hy : plainName y.cls = true) (hnd : ∀ v ∈ av, ∀ b, v ≠ .double b) (hsz : mx_sz av ≤ nL) (hlv : mx_en av ++ List.replicate (nL - mx_sz av) (.retAddr 0) = lv) (body : ∀ E, Ev E y cc nL ret (mx_km E d mc ms R) mc ms 0 lv [] hp) : Sp y cc nL ret d mc ms av hp R := by
  intro E l
  refine Met.ofW (cc := cc) (maxL := nL) (ret := ret) hy rfl ?_
  intro p e s m args below meth c s₁ B hml hv
  obtain ⟨rfl, hz, hP, hst⟩ := hv
  have hts := atoms_spec (ws := Cond.code y cc nL ret :: mx_gw) B.pre
  have hl := lv_entry (av.map (mx_v E)) (n := nL) (by rw [mx_sz_sl]; exact hsz)
  rw [lg_entry_eq]
  refine body E p l e s m _ below meth c s.heap [] 0 0 _ ⟨B.exec, B.bytes, ⟨hml, B.returns, findClass_of_methodNamed B.named, fun w h => hts w (List.mem_cons_of_mem _ h), B.notSynchronized, (name_of_methodNamed B.named B.method).1, hst, trivial, by omega⟩, ⟨hz, hP, va_S.rf⟩, ?_, ?_, ?_⟩
  · refine mx_L.of hl (fun i v h hk => ?_)
    subst hlv
    rw [List.getElem?_append] at h
    by_cases hi : i < (mx_en av).length
    · rw [if_pos hi] at h
      have := mx_en_args E av 0 hnd i v h hk
      rwa [Nat.zero_add] at this
    · rw [if_neg hi, List.getElem?_replicate] at h
      split at h
      · cases h; cases hk
      · cases h
  · show 0 + mc ≤ mc; omega
  · show 0 + ms ≤ ms; omega
