/-! ===== more rows: copying, references in rows, Math, bits ===== -/
section CP
variable {E : mx_E} {y : MethodName} {cc : ByteArray} {nL : Nat} {ret : Option FieldType} {K : mx_Kd} {bc bs pc : Nat} {lv st : List Value} {hp : List mx_C}
theorem mx_sum {E : mx_E} {st : List Value} (hcat : (st.map fun v => v.category).sum ≤ 8) : (((st.map (mx_v E)).map fun v => v.category)).sum ≤ 8 := by
  have h : ((st.map (mx_v E)).map fun v => v.category) = st.map fun v => v.category := by rw [List.map_map]; exact List.map_congr_left (fun v _ => mx_cat E v)
  rw [h]
  exact hcat
theorem E_copyi {idx i0 i1 n0 n1 : Nat} {f g : Nat → Int32} {sp dp n : Int32} (hl : Cond.methodLink y.cls idx arraycopyName ∈ mx_gw) (hnat : Cond.native arraycopyName ∈ mx_gw) (hstat : Cond.static arraycopyName ∈ mx_gw) (hini : Cond.initialized "java/lang/System" ∈ mx_gw) (hd : decode cc pc = .ok (.invokestatic idx, 3)) (q0 : hp[i0]? = some (.inl (0, n0, .inl f))) (q1 : hp[i1]? = some (.inl (0, n1, .inl g))) (h1 : ¬ sp < 0) (h2 : ¬ dp < 0) (h3 : ¬ n < 0) (h4 : sp.toNatClampNeg + n.toNatClampNeg ≤ n0) (h5 : dp.toNatClampNeg + n.toNatClampNeg ≤ n1) (hcat : (st.map fun v => v.category).sum ≤ 8) (hR : 1 ≤ K.1.frames ∧ 64 ≤ K.1.locals)
    (k : Ev E y cc nL ret K bc bs (pc + 3) lv st (hp.set i1 (.inl (0, n1, .inl (va_cpy f g sp.toNatClampNeg dp.toNatClampNeg n.toNatClampNeg))))) : Ev E y cc nL ret K bc bs pc lv (.int n :: .int dp :: .ref i1 :: .int sp :: .ref i0 :: st) hp := by
  intro p l e s m args below meth c H locs cells slots ls X
  obtain ⟨hx, hb, hfx, ⟨hz, hP, hS⟩, hL, hcs⟩ := X
  obtain ⟨hml, -, hown, hts, -, -, hst, -⟩ := id hfx
  have hK := hst.1
  have hD := mx_D E hp
  have nn : ∀ z : Int32, ¬ z < 0 → z.toInt = (z.toNatClampNeg : Int) := by
    intro z hz
    have hz0 : (0 : Int) ≤ z.toInt := by
      have := Int32.not_lt.mp hz
      simpa using Int32.le_iff_toInt_le.mp this
    show z.toInt = ((z.toInt.toNat : Nat) : Int)
    omega
  have g0 := mx_w_get (E := E) q0
  have g1 := mx_w_get (E := E) q1
  have hc0 : H[E.2.2.1 + i0]? = some (vp_cell (E.2.1 0) (n0, .inl f)) := hP i0 _ g0
  have hc1 : H[E.2.2.1 + i1]? = some (vp_cell (E.2.1 0) (n1, .inl g)) := hP i1 _ g1
  obtain ⟨-, k0, hk0, cm0, hkk0⟩ := (hK.2 0 _ rfl).1 n0 (fun j => .int (f j))
  obtain ⟨-, k1, hk1, cm1, hkk1⟩ := (hK.2 0 _ rfl).1 n1 (fun j => .int (g j))
  intro T hT X
  obtain ⟨vm', X', step⟩ := X.arraycopy hx hown (hts _ hl) (hts _ hnat) (hts _ hstat) (hts _ hini) (src := E.2.2.1 + i0) (dst := E.2.2.1 + i1) (cs := vp_cell (E.2.1 0) (n0, .inl f)) (cd := vp_cell (E.2.1 0) (n1, .inl g)) (srcPos := sp) (destPos := dp) (n := n) (by rw [hT]; exact hc0) (by rw [hT]; exact hc1)
    (fun _ h => by cases h) (fun _ h => by cases h) (fun h => by cases h) (fun h => by cases h) hk0 hk1 hkk0 hkk1 (by simp [refKind]) h1 h2 h3
    (by rw [nn sp h1, nn n h3]; show ¬ _ > ((arrV _ n0 (fun j => .int (f j))).slots.size : Int); rw [arrV_size]; omega)
    (by rw [nn dp h2, nn n h3]; show ¬ _ > ((arrV _ n1 (fun j => .int (g j))).slots.size : Int); rw [arrV_size]; omega)
    (fun vm₁ _ i hi => by
      have e : (vp_cell (E.2.1 0) (n0, .inl f)).slots.getD (sp.toNatClampNeg + i) .null = .int (f (sp.toNatClampNeg + i)) := by
        show (arrV _ n0 (fun j => .int (f j))).slots.getD _ _ = _
        rw [Array.getD_eq_getD_getElem?, arrV_read _ _ (by omega)]
        rfl
      refine ⟨?_, ?_⟩
      · rw [e]
        rfl
      · rw [e]
        exact trivial)
    (g := F0 m pc ls (.int n :: .int dp :: .ref (E.2.2.1 + i1) :: .int sp :: .ref (E.2.2.1 + i0) :: st.map (mx_v E))) rfl (by rw [hml]; exact hL.1) (rest := st.map (mx_v E)) rfl (by rw [hb]; exact hd) hR.1 (by
      have h8 := mx_sum (E := E) hcat
      have hw : nativeFrameWords "java/lang/System" "arraycopy" 5 ≤ 40 := by decide
      show 2 * 0 + ((st.map (mx_v E)).map fun v => v.category).sum + _ ≤ _
      omega)
  have e1 : copied (vp_cell (E.2.1 0) (n0, .inl f)) (vp_cell (E.2.1 0) (n1, .inl g)) sp dp n = vp_cell (E.2.1 0) (n1, .inl (va_cpy f g sp.toNatClampNeg dp.toNatClampNeg n.toNatClampNeg)) := va_copied (fun z => .int z) _ _ f g h4
  rw [e1] at X' step
  have hl1 : E.2.2.1 + i1 < H.size := (Array.getElem?_eq_some_iff.mp hc1).1
  generalize hcell : vp_cell (E.2.1 0) (n1, .inl (va_cpy f g sp.toNatClampNeg dp.toNatClampNeg n.toNatClampNeg)) = cell1 at X' step
  have hheap : ((T.setVm vm').setCell (E.2.2.1 + i1) cell1).heap = H.setIfInBounds (E.2.2.1 + i1) cell1 := by rw [← hT]; rfl
  have oq : ∀ q : Nat, q ≠ E.2.2.1 + i1 → (H.setIfInBounds (E.2.2.1 + i1) cell1)[q]? = H[q]? := fun q hq => by simp [Array.getElem?_setIfInBounds, Ne.symm hq]
  have hset := hP.set (e := mx_c E (.inl (0, n1, .inl (va_cpy f g sp.toNatClampNeg dp.toNatClampNeg n.toNatClampNeg)))) hD g1 (show (H.setIfInBounds (E.2.2.1 + i1) cell1)[E.2.2.1 + i1]? = some _ by rw [← hcell]; simp [hl1]; rfl) oq
  rw [mx_w_set] at hset
  obtain ⟨t, a1, b1⟩ := k p l e s m args below meth c (H.setIfInBounds (E.2.2.1 + i1) cell1) _ cells slots ls ⟨hx, hb, hfx, ⟨by simp [hz], hset, ⟨by simp; exact hS.1, fun q r1 r2 => by
      rw [oq q (fun e => r2 (by rw [e]; exact hD.2 i1 _ g1))]
      exact hS.2.1 q r1 r2, fun q hq => by
      rcases List.mem_append.mp hq with h | h
      · exact hS.2.2 q h
      · obtain ⟨z, -, hz⟩ := List.mem_map.mp h
        rw [← hz]
        exact hD.2 i1 _ g1⟩⟩, hL, hcs⟩ _ hheap X'
  exact ⟨t, step t a1, b1⟩
/-- aastore of a Script -/
theorem E_aast {i n v : Nat} {f : Nat → Option Nat} {j : Int32} {fs : List Value} (hd : decode cc pc = .ok (.aastore, 1)) (hi : hp[i]? = some (.inl (4, n, .inr (.inr (.inr (.inr f)))))) (hv : hp[v]? = some (.inr (7, fs))) (hin : vp_in j n) (k : Ev E y cc nL ret K bc bs (pc + 1) lv st (hp.set i (.inl (4, n, .inr (.inr (.inr (.inr (va_up f j.toNatClampNeg (some v))))))))) : Ev E y cc nL ret K bc bs pc lv (.ref v :: .int j :: .ref i :: st) hp := by
  intro p l e s m args below meth c H locs cells slots ls X
  obtain ⟨hx, hb, hfx, ⟨hz, hP, hS⟩, hL, hcs⟩ := X
  obtain ⟨hml, -, hown, hts, -, -, hst, -⟩ := id hfx
  have hK := hst.1
  have hD := mx_D E hp
  have hlt : j.toNatClampNeg < n := Nat.not_le.mp fun q => hin (Or.inr q)
  have h0 : ¬ j < 0 := fun q => hin (Or.inl q)
  have ha := mx_w_get (E := E) hi
  obtain ⟨r', hr', cellV, g1, g2, g3, -⟩ := hP v _ (mx_w_get hv)
  have hcls := (hK.1 7 _ rfl).2
  obtain ⟨kA, comp, k1, k2, k3, -⟩ := (hK.2 4 _ rfl).2
  have hcomp : comp = E.1.1 7 := Option.some.inj (k3.symm.trans hcls.1)
  subst hcomp
  obtain ⟨kC, hkC, -⟩ := hcls.2
  refine W.aast hx hb (hP i _ ha) (fun q h => by cases h) (fun h => by cases h) k1 k2 rfl hkC ⟨h0, by show _ < (arrV _ _ _).slots.size; rw [arrV_size]; exact hlt⟩ g1 (fun q h => by rw [g3] at h; cases h) (by rw [g2]; exact hkC) (by rw [g2]; exact va_assign hcls) rfl rfl hd fun H1 e1 z oq => ?_
  refine k _ _ _ _ _ _ _ _ _ _ _ _ _ _ ⟨hx, hb, hfx, mx_stored hi hz hP hS z oq ?_, hL, hcs⟩
  show H1[E.2.2.1 + i]? = some (vp_cell (E.2.1 4) (n, .inr (.inr (.inr (.inr (fun q => (va_up f j.toNatClampNeg (some v) q).map (fun i => E.2.2.1 + i)))))))
  rw [e1]
  show some ((vp_cell (E.2.1 4) (n, .inr (.inr (.inr (.inr (fun q => (f q).map (fun i => E.2.2.1 + i))))))).setSlot _ _) = _
  rw [vp_cell_q, vp_cell_q, arrV_store]
  congr 2
  funext q
  by_cases hq : q = j.toNatClampNeg
  · subst hq
    simp [updV, va_up, va_rf]
  · simp [updV, va_up, hq]
/-- anewarray of Script -/
theorem E_newq {idx : Nat} {j : Int32} {N : Nat} (hd : decode cc pc = .ok (.anewarray idx, 3)) (hw : Cond.classLink y.cls idx "Procession$Script" ∈ mx_gw) (hj : ¬ j < 0) (hN : j.toNatClampNeg = N) (hby : N * 4 ≤ 536870912) (bc' bs' : Nat) (hbc : 1 + bc' ≤ bc) (hbs : N + bs' ≤ bs) (k : Ev E y cc nL ret K bc' bs' (pc + 3) lv (.ref hp.length :: st) (hp ++ [.inl (4, N, .inr (.inr (.inr (.inr (fun _ => none)))))])) : Ev E y cc nL ret K bc bs pc lv (.int j :: st) hp := by
  intro p l e s m args below meth c H locs cells slots ls X
  obtain ⟨hx, hb, hfx, ⟨hz, hP, hS⟩, hL, hc, hs⟩ := X
  obtain ⟨hml, -, hown, hts, -, -, hst, -⟩ := id hfx
  subst hN
  refine W.anew hx hb hown (hts _ hw) (va_AO.use hst.2.2.2.2.2.2.1.1) rfl hd rfl hj hby (by omega) (by omega) fun cA kA comp f1 f2 f3 f4 => ?_
  generalize hH1 : H.push ({ cls := cA, slots := Array.replicate j.toNatClampNeg .null, vm := .none } : Cell) = H1
  have z1 : H1.size = H.size + 1 := by rw [← hH1, Array.size_push]
  have e1 : H1[H.size]? = some (arrV cA j.toNatClampNeg (fun _ => .null)) := by rw [← hH1, Array.getElem?_push_size, ← arrV_new]
  have o1 : ∀ q : Nat, q < H.size → H1[q]? = H[q]? := fun q hq => by rw [← hH1, Array.getElem?_push, if_neg (Nat.ne_of_lt hq)]
  have hcA : E.2.1 4 = cA := by
    obtain ⟨kA', comp', -, -, -, h4⟩ := (hst.1.2 4 _ rfl).2
    exact Option.some.inj (h4.symm.trans f1)
  have h := k p l e s m args below meth c H1 locs (cells + 1) (slots + j.toNatClampNeg) ls ⟨hx, hb, hfx, mx_pushed hz hP hS z1 o1 ?_, hL, by omega, by omega⟩
  · show W p l e K.1 s m args below meth c H1 locs (cells + 1) (slots + j.toNatClampNeg) _ (F0 m (pc + 3) ls (.ref H.size :: st.map (mx_v E)))
    rw [hz]
    exact h
  · show H1[E.2.2.1 + hp.length]? = some (vp_cell (E.2.1 4) (j.toNatClampNeg, .inr (.inr (.inr (.inr (fun _ => none))))))
    rw [vp_cell_q, hcA, ← hz]
    exact e1
theorem E_mmin {idx : Nat} {x z : Int32} (hl : Cond.methodLink y.cls idx Lib.Math.min.name ∈ mx_gw) (h2 : Cond.static Lib.Math.min.name ∈ mx_gw) (h3 : Cond.initialized "java/lang/Math" ∈ mx_gw) (h4 : Cond.code Lib.Math.min.name Lib.Math.min.code 2 (some .int) ∈ mx_gw) (hd : decode cc pc = .ok (.invokestatic idx, 3)) (hcat : (st.map fun v => v.category).sum ≤ 8) (hR : 1 ≤ K.1.frames ∧ 64 ≤ K.1.locals) (k : Ev E y cc nL ret K bc bs (pc + 3) lv (.int (if z < x then z else x) :: st) hp) : Ev E y cc nL ret K bc bs pc lv (.int z :: .int x :: st) hp := by
  intro p l e s m args below meth c H locs cells slots ls X
  obtain ⟨hx, hb, hfx, hw, hL, hc, hs⟩ := id X
  obtain ⟨hml, -, hown, hts, -⟩ := id hfx
  have h8 := mx_sum (E := E) hcat
  exact va_mmin hx hb (by rw [hml]; exact hL.1.symm) hown (hts _ hl) (hts _ h2) (hts _ h3) (hts _ h4) hR.1 (by omega) (by omega) (by omega) hd (k _ _ _ _ _ _ _ _ _ _ _ _ _ _ X)
theorem E_mmax {idx : Nat} {x z : Int32} (hl : Cond.methodLink y.cls idx Lib.Math.max.name ∈ mx_gw) (h2 : Cond.static Lib.Math.max.name ∈ mx_gw) (h3 : Cond.initialized "java/lang/Math" ∈ mx_gw) (h4 : Cond.code Lib.Math.max.name Lib.Math.max.code 2 (some .int) ∈ mx_gw) (hd : decode cc pc = .ok (.invokestatic idx, 3)) (hcat : (st.map fun v => v.category).sum ≤ 8) (hR : 1 ≤ K.1.frames ∧ 64 ≤ K.1.locals) (k : Ev E y cc nL ret K bc bs (pc + 3) lv (.int (if x < z then z else x) :: st) hp) : Ev E y cc nL ret K bc bs pc lv (.int z :: .int x :: st) hp := by
  intro p l e s m args below meth c H locs cells slots ls X
  obtain ⟨hx, hb, hfx, hw, hL, hc, hs⟩ := id X
  obtain ⟨hml, -, hown, hts, -⟩ := id hfx
  have h8 := mx_sum (E := E) hcat
  exact va_mmax hx hb (by rw [hml]; exact hL.1.symm) hown (hts _ hl) (hts _ h2) (hts _ h3) (hts _ h4) hR.1 (by omega) (by omega) (by omega) hd (k _ _ _ _ _ _ _ _ _ _ _ _ _ _ X)
-- bits of whole numbers
def ban (a b : Int) : Int := ((a.toNat &&& b.toNat : Nat) : Int)
def bor (a b : Int) : Int := ((a.toNat ||| b.toNat : Nat) : Int)
def bdf (a b : Int) : Int := ((nd a.toNat b.toNat : Nat) : Int)
def bsh (k : Int) : Int := ((2 ^ k.toNat : Nat) : Int)
theorem jI_n {a : Int} (ha : 0 ≤ a) : jI a = jI ((a.toNat : Nat) : Int) := by rw [Int.toNat_of_nonneg ha]
theorem J_iandG {a b : Int} (hd : decode cc pc = .ok (.iand, 1)) (ha : 0 ≤ a) (hb : 0 ≤ b) (k : Ev E y cc nL ret K bc bs (pc + 1) lv (.int (jI (ban a b)) :: st) hp) : Ev E y cc nL ret K bc bs pc lv (.int (jI b) :: .int (jI a) :: st) hp := by
  rw [jI_n ha, jI_n hb]; exact J_iand hd k
theorem J_iorG {a b : Int} (hd : decode cc pc = .ok (.ior, 1)) (ha : 0 ≤ a) (hb : 0 ≤ b) (k : Ev E y cc nL ret K bc bs (pc + 1) lv (.int (jI (bor a b)) :: st) hp) : Ev E y cc nL ret K bc bs pc lv (.int (jI b) :: .int (jI a) :: st) hp := by
  rw [jI_n ha, jI_n hb]; exact J_ior hd k
theorem J_iandD {a b : Int} (hd : decode cc pc = .ok (.iand, 1)) (ha : 0 ≤ a) (hb : 0 ≤ b) (k : Ev E y cc nL ret K bc bs (pc + 1) lv (.int (jI (bdf a b)) :: st) hp) : Ev E y cc nL ret K bc bs pc lv (.int (jI (-b - 1)) :: .int (jI a) :: st) hp := by
  have hb2 : b = ((b.toNat : Nat) : Int) := (Int.toNat_of_nonneg hb).symm
  have e : jI (-b - 1) = jI (-((b.toNat : Nat) : Int) - 1) := by rw [← hb2]
  rw [jI_n ha, e]; exact J_iandC hd k
theorem J_1shl {b : Int} (hd : decode cc pc = .ok (.ishl, 1)) (hb : 0 ≤ b ∧ b < 32) (k : Ev E y cc nL ret K bc bs (pc + 1) lv (.int (jI (bsh b)) :: st) hp) : Ev E y cc nL ret K bc bs pc lv (.int (jI b) :: .int (jI 1) :: st) hp := by
  refine J_ishl hd hb ?_
  have e : (1 : Int) * 2 ^ b.toNat = bsh b := by unfold bsh; rw [Int.one_mul]; norm_cast
  rw [e]; exact k
theorem J_iushrG {a b : Int} (hd : decode cc pc = .ok (.iushr, 1)) (ha : 0 ≤ a ∧ a < 2147483648) (hb : 0 ≤ b ∧ b < 32) (k : Ev E y cc nL ret K bc bs (pc + 1) lv (.int (jI (a / 2 ^ b.toNat)) :: st) hp) : Ev E y cc nL ret K bc bs pc lv (.int (jI b) :: .int (jI a) :: st) hp := by
  rw [jI_n ha.1]
  refine J_iushr hd (by omega) hb ?_
  have e : ((a.toNat / 2 ^ b.toNat : Nat) : Int) = a / 2 ^ b.toNat := by
    rw [Int.natCast_ediv, Int.toNat_of_nonneg ha.1]; norm_cast
  rw [e]; exact k
/-- values that an int holds -/
def Bd (f : Int → Int) : Prop := ∀ q, -2147483648 ≤ f q ∧ f q < 2147483648
theorem J_ialdB {i n : Nat} {f : Int → Int} {j : Int} (hd : decode cc pc = .ok (.iaload, 1)) (hi : hp[i]? = some (ia n f)) (hj : 0 ≤ j ∧ j < n) (hn : n < 2147483648) (hf : Bd f) (k : (-2147483648 ≤ f j ∧ f j < 2147483648) → Ev E y cc nL ret K bc bs (pc + 1) lv (.int (jI (f j)) :: st) hp) : Ev E y cc nL ret K bc bs pc lv (.int (jI j) :: .ref i :: st) hp := J_iald hd hi hj hn (k (hf j))
theorem J_eqi {a b : Int} (h : a = b) (k : Ev E y cc nL ret K bc bs pc lv (.int (jI b) :: st) hp) : Ev E y cc nL ret K bc bs pc lv (.int (jI a) :: st) hp := by rw [h]; exact k
def cpy (f g : Int → Int) (sp dp n : Int) : Int → Int := fun k => if dp ≤ k ∧ k < dp + n then f (sp + (k - dp)) else g k
theorem jI_cpy {f g : Int → Int} {sp dp n : Int} (h1 : 0 ≤ sp ∧ sp < 2147483648) (h2 : 0 ≤ dp ∧ dp < 2147483648) (h3 : 0 ≤ n ∧ n < 2147483648) : va_cpy (fun q : Nat => jI (f q)) (fun q : Nat => jI (g q)) (jI sp).toNatClampNeg (jI dp).toNatClampNeg (jI n).toNatClampNeg = fun q : Nat => jI (cpy f g sp dp n q) := by
  have cl : ∀ z : Int, 0 ≤ z ∧ z < 2147483648 → (jI z).toNatClampNeg = z.toNat := fun z hz => by
    show (jI z).toInt.toNat = _
    rw [jI_toInt (by omega)]
  rw [cl sp h1, cl dp h2, cl n h3]
  funext q
  unfold va_cpy cpy
  by_cases hq : dp.toNat ≤ q ∧ q < dp.toNat + n.toNat
  · rw [if_pos hq, if_pos (by omega)]
    have e : ((sp.toNat + (q - dp.toNat) : Nat) : Int) = sp + ((q : Int) - dp) := by omega
    show jI (f ((sp.toNat + (q - dp.toNat) : Nat) : Int)) = _
    rw [e]
  · rw [if_neg hq, if_neg (by omega)]
theorem J_copy {idx i0 i1 n0 n1 : Nat} {f g : Int → Int} {sp dp n : Int} (hl : Cond.methodLink y.cls idx arraycopyName ∈ mx_gw) (hnat : Cond.native arraycopyName ∈ mx_gw) (hstat : Cond.static arraycopyName ∈ mx_gw) (hini : Cond.initialized "java/lang/System" ∈ mx_gw) (hd : decode cc pc = .ok (.invokestatic idx, 3)) (q0 : hp[i0]? = some (ia n0 f)) (q1 : hp[i1]? = some (ia n1 g)) (h1 : 0 ≤ sp) (h2 : 0 ≤ dp) (h3 : 0 ≤ n) (h4 : sp + n ≤ n0) (h5 : dp + n ≤ n1) (hn0 : n0 < 2147483648) (hn1 : n1 < 2147483648) (hcat : (st.map fun v => v.category).sum ≤ 8) (hR : 1 ≤ K.1.frames ∧ 64 ≤ K.1.locals)
    (k : Ev E y cc nL ret K bc bs (pc + 3) lv st (hp.set i1 (ia n1 (cpy f g sp dp n)))) : Ev E y cc nL ret K bc bs pc lv (.int (jI n) :: .int (jI dp) :: .ref i1 :: .int (jI sp) :: .ref i0 :: st) hp := by
  have ng : ∀ z : Int, 0 ≤ z ∧ z < 2147483648 → ¬ jI z < 0 := fun z hz h => by
    rw [jI_0, jI_lt (by omega) (by decide)] at h
    omega
  have cl : ∀ z : Int, 0 ≤ z ∧ z < 2147483648 → (jI z).toNatClampNeg = z.toNat := fun z hz => by
    show (jI z).toInt.toNat = _
    rw [jI_toInt (by omega)]
  refine E_copyi hl hnat hstat hini hd q0 q1 (ng sp (by omega)) (ng dp (by omega)) (ng n (by omega)) (by rw [cl sp (by omega), cl n (by omega)]; omega) (by rw [cl dp (by omega), cl n (by omega)]; omega) hcat hR ?_
  rw [jI_cpy (by omega) (by omega) (by omega)]
  exact k
end CP
