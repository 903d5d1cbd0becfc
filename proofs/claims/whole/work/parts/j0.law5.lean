/-! THE CLAIM OUT OF ONE WALK OF THE LAW'S BODY. Your part is whole_start (and what it stands on); all else here is the same for every law, but numbers. -/
def R_law : String := "ProcessionLaw"
def lw_P (b : Addr) (xs : List Int32) (args : Array Value) (s : State) : Prop := args = #[.ref b] ∧ s.IntsAt b xs ∧ xs.length ≤ 3072 ∧ (Jvm.Cond.and given_1 narrow_1).before args s = true
def lw_Q (_ : Array Value) (s : State) (o : Outcome) (t : State) : Prop := o = .returned (some (.int 1)) ∧ Framed s o t [] 600000 7302250
def lw_Z (below : List Frame) (a : Array Value) (s : State) : State → Prop := fun t => ∃ o, t.status = .running ∧ Ended t below o ∧ lw_Q a s o t
/-- the law's own end, with 1 on the stack, nothing written that was there before, its room as the claim has it -/
theorem lw_ret {p : Program} {l : Launch} {e : Env} {s : State} {m : MethodId} {below : List Frame} {meth : Method} {c : Code} {b : Nat} (hx : p.tables.exec = Jvm.exec) (hb : c.code = code) (hr : meth.sig.returnType = ret) (hlocks : meth.locks = false) {pc : Nat} {H : Heap} {ls : Array Slot} (hdg : decode code pc = .ok (.ireturn, 1)) : W p l e room_1 s m #[Value.ref b] below meth c H [] 600000 7302250 (lw_Z below #[Value.ref b] s) (F0 m pc ls [.int 1]) := by
  intro T hT X
  obtain ⟨fs, hret, hrun, hended, hW, hframe⟩ := X.leave (v := some (.int 1)) (hlocks := hlocks) (fun h => by rw [hr] at h; cases h)
  have hmeth' : T.vm.method? m = some meth := X.method'
  refine ⟨T.setFrames fs, ?_, .returned (some (.int 1)), hrun, hended, rfl, ⟨_, rfl⟩, hW, hframe⟩
  jvm_step X.here [X.here.top, hx, hb, hdg, hmeth', hr, ret, narrow_b1]
  (try refine ⟨rfl, ?_⟩); (try refine ⟨rfl, ?_⟩)
  first | (intro acts; rw [hret _ acts rfl rfl rfl]) | rw [hret _ _ rfl rfl rfl]
  exact Steps.refl _
/-- what holds at the law's entry: the machine, the code, the tables' words (any of lw_tbl by 'hts w (by decide +kernel)'), the script of L ints xs at the cell b, what the Statement gives of the start (any of its parts by flat_of_before) -/
def lw_At (p : Program) (s : State) (m : MethodId) (meth : Method) (c : Code) (b L : Nat) (xs : Nat → Int32) : Prop :=
  p.tables.exec = Jvm.exec ∧ c.code = code ∧ meth.sig.returnType = ret ∧ c.maxLocals = 4 ∧ s.vm.findClass R_law = some m.cls ∧ (∀ w ∈ lw_tbl, w.before #[Value.ref b] s = true) ∧ va_X b L xs s s.heap ∧ b < s.heap.size ∧ meth.locks = false ∧ (Jvm.Cond.and given_1 narrow_1).before #[Value.ref b] s = true

/-! ===== THE LAW'S WALK: its rows (the script is a thing that was there before, number 9) ===== -/
def LK (E : mx_E) (L : Nat) (xs : Nat → Int32) : mx_Kd := (room_1, fun args s below => lw_Z below args s, fun args s => args = #[Value.ref (E.2.2.2 9)] ∧ va_X (E.2.2.2 9) L xs s s.heap ∧ E.2.2.2 9 < s.heap.size ∧ E.2.2.1 = s.heap.size)
/-- a number of the script -/
def xv (xs : Nat → Int32) (z : Int) : Int := (xs z.toNat).toInt
theorem xv_b (xs : Nat → Int32) (z : Int) : -2147483648 ≤ xv xs z ∧ xv xs z < 2147483648 := by
  obtain ⟨w, hw, e⟩ := jI_of (xs z.toNat)
  unfold xv
  rw [e, jI_toInt hw]
  exact hw
/-- not zero -/
def nzI (w : Int) : Int := if w = 0 then 0 else 1
theorem nzI_b (w : Int) : nzI w = 0 ∨ nzI w = 1 := by
  unfold nzI
  split
  · exact Or.inl rfl
  · exact Or.inr rfl
section LW
variable {E : mx_E} {y : MethodName} {cc : ByteArray} {nL : Nat} {rt : Option FieldType} {L : Nat} {xs : Nat → Int32} {bc bs pc : Nat} {lv st : List Value} {hp : List mx_C}
theorem L_len (hd : decode cc pc = .ok (.arraylength, 1)) (k : Ev E y cc nL rt (LK E L xs) bc bs (pc + 1) lv (.int (jI (L : Int)) :: st) hp) : Ev E y cc nL rt (LK E L xs) bc bs pc lv (.float 9 :: st) hp := by
  intro p l e s m args below meth c H locs cells slots ls X
  obtain ⟨hx, hb, hfx, ⟨hz, hP, hS⟩, hL, hc⟩ := id X
  obtain ⟨-, -, -, -, -, -, hst, ⟨ha, hX, hlt, hE⟩, -⟩ := hfx
  have hk := k p l e s m args below meth c H locs cells slots ls X
  rw [jI_nat] at hk
  exact va_slen hx hb hX hlt (show ¬ E.2.2.1 ≤ E.2.2.2 9 by omega) hS hd hk
theorem L_ld {z : Int} (hz : 0 ≤ z ∧ z < L) (hL : L ≤ 3072) (hd : decode cc pc = .ok (.iaload, 1)) (k : Ev E y cc nL rt (LK E L xs) bc bs (pc + 1) lv (.int (jI (xv xs z)) :: st) hp) : Ev E y cc nL rt (LK E L xs) bc bs pc lv (.int (jI z) :: .float 9 :: st) hp := by
  intro p l e s m args below meth c H locs cells slots ls X
  obtain ⟨hx, hb, hfx, ⟨hz', hP, hS⟩, hL', hc⟩ := id X
  obtain ⟨-, -, -, -, -, -, hst, ⟨ha, hX, hlt, hE⟩, -⟩ := hfx
  have hk := k p l e s m args below meth c H locs cells slots ls X
  have e1 : jI (xv xs z) = xs (jI z).toNatClampNeg := by
    rw [jI_clamp hz (by omega)]
    exact jI_back _
  rw [e1] at hk
  exact va_sld hx hb hX hlt (show ¬ E.2.2.1 ≤ E.2.2.2 9 by omega) hS (jI_in hz (by omega)) hd hk
theorem L_arg {i k : Int} (hz : 0 ≤ i + k ∧ i + k < L) (hL : L ≤ 3072) (h0 : lv[0]? = some (.float 9)) (h3 : lv[3]? = some (.int (jI i))) (d0 : decode cc pc = .ok (.aload_n 0, 1)) (d1 : decode cc (pc + 1) = .ok (.iload_n 3, 1)) (d2 : decode cc (pc + 2) = .ok (.iconst k, 1)) (d3 : decode cc (pc + 3) = .ok (.iadd, 1)) (d4 : decode cc (pc + 4) = .ok (.iaload, 1)) (kk : Ev E y cc nL rt (LK E L xs) bc bs (pc + 5) lv (.int (jI (xv xs (i + k))) :: st) hp) : Ev E y cc nL rt (LK E L xs) bc bs pc lv st hp :=
  E_aload_nX 0 d0 rfl h0 (E_iload_n 3 d1 rfl h3 (E_iconst (v := jI k) d2 rfl (J_iadd d3 (L_ld hz hL d4 kk))))
theorem L_bool {w : Int} (hw : -2147483648 ≤ w ∧ w < 2147483648) (d0 : decode cc pc = .ok (.ifCond .eq 7, 3)) (d1 : decode cc (pc + 3) = .ok (.iconst 1, 1)) (d2 : decode cc (pc + 4) = .ok (.goto 4, 3)) (d3 : decode cc (pc + 7) = .ok (.iconst 0, 1)) (kk : Ev E y cc nL rt (LK E L xs) bc bs (pc + 8) lv (.int (jI (nzI w)) :: st) hp) : Ev E y cc nL rt (LK E L xs) bc bs pc lv (.int (jI w) :: st) hp := by
  refine E_if_eq (pc + 7) d0 (by omega) (fun h => ?_) (fun h => ?_)
  · have e : w = 0 := (jI_eq hw (by omega)).mp (h.trans jI_0)
    refine E_iconst (v := jI 0) d3 rfl ?_
    rw [show nzI w = 0 by rw [nzI, if_pos e]] at kk
    exact kk
  · have e : ¬ w = 0 := fun e => h (by rw [e]; exact jI_0.symm)
    refine E_iconst (v := jI 1) d1 rfl (E_goto (pc + 8) d2 (by omega) ?_)
    rw [show nzI w = 1 by rw [nzI, if_neg e]] at kk
    exact kk
end LW
/-- the law's end -/
theorem L_ret {E : mx_E} {L : Nat} {xs : Nat → Int32} {bc bs pc : Nat} {lv : List Value} {hp : List mx_C} (hd : decode code pc = .ok (.ireturn, 1)) : Ev E yL_law code 4 (some .boolean) (LK E L xs) bc bs pc lv [.int (jI 1)] hp := by
  intro p l e s m args below meth c H locs cells slots ls X
  obtain ⟨hx, hb, hfx, ⟨hz', hP, hS⟩, hL', hc⟩ := id X
  obtain ⟨hml, hr, hown, hts, hlk, -, hst, ⟨ha, hX, hlt, hE⟩, -⟩ := hfx
  subst ha
  refine va_forget (fun q hq => ?_) (W.widen ?_ ?_ (lw_ret hx hb hr hlk hd))
  · have h := hS.2.2 q hq
    have h2 : E.2.2.1 ≤ q.base := h
    omega
  · have h : cells + bc ≤ 600000 := hc.1
    omega
  · have h : slots + bs ≤ 7302250 := hc.2
    omega
abbrev LV (n : Nat) : List Value := [.float 9, .ref 0, .ref 36, .int (jI (6 * (n : Int)))]
abbrev LEv (E : mx_E) (L : Nat) (xs : Nat → Int32) (bc bs pc : Nat) (lv st : List Value) (hp : List mx_C) : Prop := Ev E yL_law code 4 (some .boolean) (LK E L xs) bc bs pc lv st hp
