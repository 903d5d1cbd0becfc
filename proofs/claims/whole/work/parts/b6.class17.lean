/-! ===== the class: what the finder keeps; counting ===== -/
def fa (a : Int → Int) (k : Nat) : Nat := (a ((k : Int) + 1)).toNat
theorem fa_at (a : Int → Int) {n : Int} (h : 1 ≤ n) : fa a (n - 1).toNat = (a n).toNat := by
  unfold fa
  rw [show (((n - 1).toNat : Nat) : Int) + 1 = n from by omega]
/-- what is remembered -/
def fan (a : Int → Int) (q s fr : Int) : Int :=
  if q = 0 then ((cn (fa a) s.toNat fr.toNat : Nat) : Int)
  else if q = 1 then (if cn (fa a) s.toNat fr.toNat = 0 then 0 else 1)
  else if q = 2 then (if gw (fa a) s.toNat fr.toNat = true then 1 else 0)
  else ((rn (fa a) (q - 3).toNat s.toNat fr.toNat : Nat) : Int)
/-- the finder, ready to be asked -/
def FGo (S : Nat → Int → Int) : Prop := FI fan S ∧ S 21 6 = 0 ∧ (∀ n, 1 ≤ n ∧ n ≤ 8 → 1 ≤ S 22 n) ∧ (1 ≤ S 21 7 ∧ S 21 7 ≤ 100000)
theorem FGo.a {S : Nat → Int → Int} (h : FGo S) : FA S := h.1.1
theorem FGo.k {S : Nat → Int → Int} (h : FGo S) : FK S 9 := h.1.2.1 h.2.1
theorem FGo.l {S : Nat → Int → Int} (h : FGo S) : FL S := by
  intro n hn
  have hk := h.k n (by omega)
  have hb := alk_B (S 22) n
  rw [hk.1, hk.2]
  have h1 := ban_nn (alk (S 22) n) (bsh (n - 1) - 1)
  have h2 := ban_le' (alk (S 22) n) (bsh (n - 1) - 1) hb.1
  exact ⟨hb, h1, by omega⟩
theorem FGo.o {S : Nat → Int → Int} (h : FGo S) : ∀ k, k < 8 → 1 ≤ fa (S 22) k := by
  intro k hk
  have := h.2.2.1 ((k : Int) + 1) (by omega)
  unfold fa
  omega
theorem FGo.fr {S S1 : Nat → Int → Int} (h : FGo S) {l : List Nat} (hf : Fr l S S1) (h21 : 21 ∉ l) (h22 : 22 ∉ l) (h23 : 23 ∉ l) (h24 : 24 ∉ l) (h25 : 25 ∉ l) (h26 : 26 ∉ l) : FGo S1 := by
  refine ⟨h.1.fr hf h21 h22 h23 h24 h25 h26, ?_⟩
  rw [hf 21 h21, hf 22 h22]
  exact h.2
theorem fky_B {e q s fr : Int} (he : 1 ≤ e ∧ e ≤ 100000) (hq : 0 ≤ q ∧ q < 32) (hs : 0 ≤ s ∧ s < 256) (hf : 0 ≤ fr ∧ fr < 65536) : 1 ≤ fky e q s fr ∧ fky e q s fr < 9223372036854775808 := by
  unfold fky
  omega
theorem FGo.kB {S : Nat → Int → Int} (h : FGo S) {i : Int} (hi : 0 ≤ i ∧ i < 4096) : 0 ≤ S 25 i ∧ S 25 i < 9223372036854775808 := by
  rcases h.1.2.2.2.2 i hi with h0 | ⟨e, q, s, fr, hq, hs, hfr, hk, he, he2, _⟩
  · omega
  · have := fky_B (e := e) ⟨he, by have := h.2.2.2.2; omega⟩ hq hs hfr
    rw [hk]
    omega
theorem FGo.hit {S : Nat → Int → Int} (h : FGo S) {i q s fr : Int} (hi : 0 ≤ i ∧ i < 4096) (hq : 0 ≤ q ∧ q < 32) (hs : 0 ≤ s ∧ s < 256) (hfr : 0 ≤ fr ∧ fr < 65536) (e : S 25 i = fky (S 21 7) q s fr) : S 26 i = fan (S 22) q s fr := by
  have hB := fky_B h.2.2.2 hq hs hfr
  rcases h.1.2.2.2.2 i hi with h0 | ⟨e', q', s', fr', hq', hs', hfr', hk, he, he2, hA⟩
  · omega
  · rw [e] at hk
    have hh : S 21 7 = e' ∧ q = q' ∧ s = s' ∧ fr = fr' := by
      unfold fky at hk
      omega
    obtain ⟨e1, e2, e3, e4⟩ := hh
    rw [e2, e3, e4]
    exact hA e1.symm h.2.1
def frm (S : Nat → Int → Int) (sl ky v : Int) : Nat → Int → Int := upS (upS S 25 (up (S 25) sl ky)) 26 (up (upS S 25 (up (S 25) sl ky) 26) sl v)
theorem frm_Fr (S : Nat → Int → Int) (sl ky v : Int) : Fr [25, 26] S (frm S sl ky v) := (Fr_up S _ (by decide)).trans (Fr_up _ _ (by decide))
theorem FGo.rem {S : Nat → Int → Int} (h : FGo S) {sl q s fr v : Int} (hq : 0 ≤ q ∧ q < 32) (hs : 0 ≤ s ∧ s < 256) (hfr : 0 ≤ fr ∧ fr < 65536) (hv : v = fan (S 22) q s fr) : FGo (frm S sl (fky (S 21 7) q s fr) v) := by
  have hf := frm_Fr S sl (fky (S 21 7) q s fr) v
  have e21 := hf 21 (by decide)
  have e22 := hf 22 (by decide)
  have e23 := hf 23 (by decide)
  have e24 := hf 24 (by decide)
  have e25 : frm S sl (fky (S 21 7) q s fr) v 25 = up (S 25) sl (fky (S 21 7) q s fr) := by unfold frm; rw [upS_n (by decide), upS_s]
  have e26 : frm S sl (fky (S 21 7) q s fr) v 26 = up (S 26) sl v := by unfold frm; rw [upS_s, upS_n (by decide)]
  refine ⟨⟨by unfold FA; rw [e22]; exact h.1.1, fun h6 => by unfold FK; rw [e22, e23, e24]; exact h.k, ?_⟩, by rw [e21]; exact h.2.1, by rw [e22]; exact h.2.2.1, by rw [e21]; exact h.2.2.2⟩
  unfold FE
  rw [e21, e22, e25, e26]
  refine ⟨h.1.2.2.1, h.1.2.2.2.1, fun i hi => ?_⟩
  by_cases hi2 : i = sl
  · subst hi2
    refine Or.inr ⟨S 21 7, q, s, fr, hq, hs, hfr, up_s _ _ _, h.2.2.2.1, Int.le_refl _, fun _ _ => ?_⟩
    rw [up_s, hv]
  · rw [up_n hi2, up_n hi2]
    exact h.1.2.2.2.2 i hi
/-- behind a question: the answer, and nothing else but what is remembered -/
def CQo (S T : Nat → Int → Int) (D : List mx_C) (r : Int) (v : Int) (hp' : List mx_C) : Prop := v = r ∧ ∃ S', hp' = W5 S' T D ∧ FGo S' ∧ Fr [25, 26] S S'
theorem fr22 {S S1 : Nat → Int → Int} (h : Fr [25, 26] S S1) : S1 22 = S 22 ∧ S1 21 = S 21 ∧ S1 23 = S 23 ∧ S1 24 = S 24 := ⟨h 22 (by decide), h 21 (by decide), h 23 (by decide), h 24 (by decide)⟩
section RAW
variable {E : mx_E} {y : MethodName} {cc : ByteArray} {nL : Nat} {ret : Option FieldType} {K : mx_Kd} {bc bs pc : Nat} {lv st : List Value} {hp : List mx_C}
theorem E_lushr {x v : Int64} {z : Int32} (hd : decode cc pc = .ok (.lushr, 1)) (hv : (x.toUInt64 >>> (z.toInt64.toUInt64 &&& Int64.toUInt64 63)).toInt64 = v) (k : Ev E y cc nL ret K bc bs (pc + 1) lv (.long v :: st) hp) : Ev E y cc nL ret K bc bs pc lv (.int z :: .long x :: st) hp :=
  fun p l e s m args below meth c H locs cells slots ls X => lv_lushr X.1 X.2.1 hd hv (k _ _ _ _ _ _ _ _ _ _ _ _ _ _ X)
theorem jI_back (x : Int32) : jI x.toInt = x := Int32.ofInt_toInt x
theorem J_back {x : Int32} (k : Ev E y cc nL ret K bc bs pc lv (.int (jI x.toInt) :: st) hp) : Ev E y cc nL ret K bc bs pc lv (.int x :: st) hp := by rw [← jI_back x]; exact k
theorem J_lorN {a b : Nat} (n : Nat) (hb : b < 2 ^ n) (hd : decode cc pc = .ok (.lor, 1)) (kk : Ev E y cc nL ret K bc bs (pc + 1) lv (.long (jL ((a * 2 ^ n + b : Nat) : Int)) :: st) hp) : Ev E y cc nL ret K bc bs pc lv (.long (jL (b : Int)) :: .long (jL ((a * 2 ^ n : Nat) : Int)) :: st) hp := by
  refine J_lor hd ?_
  rw [Nat.mul_comm a, ← Nat.two_pow_add_eq_or_of_lt hb, Nat.mul_comm]
  exact kk
end RAW
def slx (k : Int) : Int32 := (((jL k ^^^ ((jL k).toUInt64 >>> ((jI 24).toInt64.toUInt64 &&& Int64.toUInt64 63)).toInt64).toInt32 * jI (-1640531535)).toUInt32 >>> ((jI 20).toUInt32 &&& Int32.toUInt32 31)).toInt32
def slt (k : Int) : Int := (slx k).toInt
theorem slt_B (k : Int) : 0 ≤ slt k ∧ slt k < 4096 := by
  unfold slt slx
  generalize ((jL k ^^^ ((jL k).toUInt64 >>> ((jI 24).toInt64.toUInt64 &&& Int64.toUInt64 63)).toInt64).toInt32 * jI (-1640531535)).toUInt32 = u
  have e : ((jI 20).toUInt32 &&& Int32.toUInt32 31) = 20 := by decide
  rw [e]
  have h1 : (u >>> 20).toNat < 4096 := by
    rw [UInt32.toNat_shiftRight]
    have h2 := u.toNat_lt
    show u.toNat >>> (20 % 32) < 4096
    rw [Nat.shiftRight_eq_div_pow]
    show u.toNat / 1048576 < 4096
    omega
  have h3 : (u >>> 20).toInt32.toInt = ((u >>> 20).toNat : Int) := by
    show (u >>> 20).toBitVec.toInt = _
    rw [BitVec.toInt_eq_toNat_of_lt]
    · rfl
    · show 2 * (u >>> 20).toNat < 2 ^ 32
      omega
  omega
set_option maxRecDepth 100000 in
theorem qX0_slotOf {hp : List mx_C} {ky : Int} : SpF yX0_slotOf cX0_slotOf 3 (some .int) 0 [.long (jL ky)] hp (.int (jI (slt ky))) hp := by
  refine Sp.of [.long (jL ky), .retAddr 0, .retAddr 0] (by decide) (by simp) (Nat.le_of_ble_eq_true rfl) rfl (fun E => ?_)
  refine L_l0 dX0_slotOf_0 ?_
  refine L_l0 dX0_slotOf_1 ?_
  refine J_bipush dX0_slotOf_2 (by decide) ?_
  refine E_lushr dX0_slotOf_4 rfl ?_
  refine E_lxor dX0_slotOf_5 ?_
  refine E_l2i dX0_slotOf_6 ?_
  refine J_ldc (-1640531535) dX0_slotOf_7 kX0_63 (by decide) ?_
  refine E_imul dX0_slotOf_9 ?_
  refine S_i2 dX0_slotOf_10 (by decide) rfl ?_
  refine L_i2 dX0_slotOf_11 ?_
  refine J_bipush dX0_slotOf_12 (by decide) ?_
  refine E_iushr dX0_slotOf_14 ?_
  refine J_back ?_
  exact R_i rfl dX0_slotOf_15 rfl rfl
set_option maxRecDepth 100000 in
theorem qX0_keyOf {S T : Nat → Int → Int} {D : List mx_C} (hG : FGo S) {q : Int} (h_q : 0 ≤ q ∧ q < 32) {s : Nat} (h_s : s < 256) {fr : Nat} (h_fr : fr < 65536) : SpF yX0_keyOf cX0_keyOf 4 (some .long) 0 [.ref 21, .int (jI q), .int (jI (s : Int)), .int (jI (fr : Int))] (W5 S T D) (.long (jL (fky (S 21 7) q (s : Int) (fr : Int)))) (W5 S T D) := by
  obtain ⟨e, he⟩ : ∃ e : Nat, S 21 7 = (e : Int) := ⟨(S 21 7).toNat, by have := hG.2.2.2.1; omega⟩
  obtain ⟨qn, hq⟩ : ∃ e : Nat, q = (e : Int) := ⟨q.toNat, by omega⟩
  subst hq
  refine Sp.of [.ref 21, .int (jI (qn : Int)), .int (jI (s : Int)), .int (jI (fr : Int))] (by decide) (by simp) (Nat.le_of_ble_eq_true rfl) rfl (fun E => ?_)
  refine L_a0 dX0_keyOf_0 ?_
  refine GW_21_7 fX0_35 dX0_keyOf_1 ?_
  rw [he]
  refine J_iconst dX0_keyOf_4 ?_
  refine J_lshl 5 dX0_keyOf_5 (by decide) ?_
  refine L_i1 dX0_keyOf_6 ?_
  refine J_i2l dX0_keyOf_7 (by omega) ?_
  refine J_lorN 5 (by omega) dX0_keyOf_8 ?_
  refine J_bipush dX0_keyOf_9 (by decide) ?_
  refine J_lshl 8 dX0_keyOf_11 (by decide) ?_
  refine L_i2 dX0_keyOf_12 ?_
  refine J_i2l dX0_keyOf_13 (by omega) ?_
  refine J_lorN 8 (by omega) dX0_keyOf_14 ?_
  refine J_bipush dX0_keyOf_15 (by decide) ?_
  refine J_lshl 16 dX0_keyOf_17 (by decide) ?_
  refine L_i3 dX0_keyOf_18 ?_
  refine J_i2l dX0_keyOf_19 (by omega) ?_
  refine J_lorN 16 (by omega) dX0_keyOf_20 ?_
  exact R_l rfl dX0_keyOf_21 rfl (by unfold fky; omega)
