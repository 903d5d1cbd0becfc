/-! ===== calls, each on both sides: those that ask ===== -/
abbrev vI (v : Int) : Value := .int (jI v)
abbrev vL (v : Int) : Value := .long (jL v)
def NXT (K : Int → Value) (y : MethodName) (c : ByteArray) (nL : Nat) (ret : Option FieldType) (d : Nat) (av : List Value) (n : Nat) (S T : Nat → Int → Int) (D : List mx_C) (v : Int) : Prop := Sp y c nL ret d 0 0 av (W5 S T D) (fun r hp => r = some (K v) ∧ ∃ T', hp = W5 S T' D ∧ SIM (n + 1) S T' D)
def PRI (K : Int → Value) (mc ms : Nat) (n : Nat) (S T : Nat → Int → Int) (D : List mx_C) (y : MethodName) (c : ByteArray) (nL : Nat) (ret : Option FieldType) (d : Nat) (av : List Value) (y2 : MethodName) (c2 : ByteArray) (nL2 : Nat) (ret2 : Option FieldType) (d2 : Nat) (av2 : List Value) : Prop := Sp y c nL ret d mc ms av (W5 S T D) (fun r hp => ∃ v S' D', r = some (K v) ∧ hp = W5 S' T D' ∧ NXT K y2 c2 nL2 ret2 d2 av2 n S' T D' v)
section
variable {K : Int → Value} {n : Nat} {S T S' T' : Nat → Int → Int} {D : List mx_C} {y y2 : MethodName} {c c2 : ByteArray} {nL nL2 : Nat} {ret ret2 : Option FieldType} {d d2 : Nat} {av av2 : List Value} {v v' : Int}
theorem NXT.f (h : SpF y c nL ret d av (W5 S T D) (K v') (W5 S T' D)) (e : v' = v) (hs : SIM (n + 1) S T' D) : NXT K y c nL ret d av n S T D v :=
  Sp.mono h (fun r hp q => ⟨by rw [q.1, e], T', q.2, hs⟩)
theorem NXT.i {Q : Int → List mx_C → Prop} (h : SpI y c nL ret d av (W5 S T D) Q) (hQ : ∀ v' hp, Q v' hp → v' = v ∧ ∃ T', hp = W5 S T' D ∧ SIM (n + 1) S T' D) : NXT vI y c nL ret d av n S T D v :=
  Sp.mono h (fun r hp q => by
    obtain ⟨v', e, hq⟩ := q
    obtain ⟨e2, T', e3, hs⟩ := hQ v' hp hq
    exact ⟨by rw [e, e2], T', e3, hs⟩)
theorem NXT.l {Q : Int → List mx_C → Prop} (h : SpL y c nL ret d av (W5 S T D) Q) (hQ : ∀ v' hp, Q v' hp → v' = v ∧ ∃ T', hp = W5 S T' D ∧ SIM (n + 1) S T' D) : NXT vL y c nL ret d av n S T D v :=
  Sp.mono h (fun r hp q => by
    obtain ⟨v', e, hq⟩ := q
    obtain ⟨e2, T', e3, hs⟩ := hQ v' hp hq
    exact ⟨by rw [e, e2], T', e3, hs⟩)
theorem PRI.f (h : SpF y c nL ret d av (W5 S T D) (K v) (W5 S' T D)) (h2 : NXT K y2 c2 nL2 ret2 d2 av2 n S' T D v) : PRI K 0 0 n S T D y c nL ret d av y2 c2 nL2 ret2 d2 av2 :=
  Sp.mono h (fun r hp q => ⟨v, S', D, q.1, q.2, h2⟩)
theorem PRI.i {Q : Int → List mx_C → Prop} (h : SpI y c nL ret d av (W5 S T D) Q) (hQ : ∀ v hp, Q v hp → ∃ S', hp = W5 S' T D ∧ NXT vI y2 c2 nL2 ret2 d2 av2 n S' T D v) : PRI vI 0 0 n S T D y c nL ret d av y2 c2 nL2 ret2 d2 av2 :=
  Sp.mono h (fun r hp q => by
    obtain ⟨v, e, hq⟩ := q
    obtain ⟨S', e2, hs⟩ := hQ v hp hq
    exact ⟨v, S', D, e, e2, hs⟩)
theorem PRI.l {Q : Int → List mx_C → Prop} (h : SpL y c nL ret d av (W5 S T D) Q) (hQ : ∀ v hp, Q v hp → ∃ S', hp = W5 S' T D ∧ NXT vL y2 c2 nL2 ret2 d2 av2 n S' T D v) : PRI vL 0 0 n S T D y c nL ret d av y2 c2 nL2 ret2 d2 av2 :=
  Sp.mono h (fun r hp q => by
    obtain ⟨v, e, hq⟩ := q
    obtain ⟨S', e2, hs⟩ := hQ v hp hq
    exact ⟨v, S', D, e, e2, hs⟩)
end
section
variable {n : Nat} {S T : Nat → Int → Int} {D : List mx_C}
theorem pr_fault (h : SIM n S T D) {p : Int} (h_p : -2147483648 ≤ p ∧ p < 2147483648) : PRI vI 0 0 n S T D yX10_fault cX10_fault 2 (some .int) 0 [.ref 0, .int (jI p)] yX11_fault cX11_fault 2 (some .int) 0 [.ref 36, .int (jI p)] := by
  exact PRI.f (K := vI) (qX10_fault h_p) (NXT.f (K := vI) (qX11_fault h_p) (by rw [h.2.2.2.2.2.2.2.2.2.1.1, h.2.2.2.2.2.2.2.2.2.1.2]) h.up1)
theorem pr_at (h : SIM n S T D) {p : Int} (h_p : -2147483648 ≤ p ∧ p < 2147483648) : PRI vI 0 0 n S T D yX10_at cX10_at 2 (some .int) 3 [.ref 0, .int (jI p)] yX11_at cX11_at 3 (some .int) 3 [.ref 36, .int (jI p)] := by
  exact PRI.f (K := vI) (qX10_at h.rp.1.1 h_p) (NXT.f (K := vI) (qX11_at h.mv h_p) ((eq_at h.rp p).symm) h.up1)
theorem pr_is (h : SIM n S T D) {p : Int} (h_p : -2147483648 ≤ p ∧ p < 2147483648) : PRI vI 0 0 n S T D yX10_is cX10_is 2 (some .int) 2 [.ref 0, .int (jI p)] yX11_is cX11_is 2 (some .int) 4 [.ref 36, .int (jI p)] := by
  exact PRI.f (K := vI) (qX10_is h.rp.1.1 h_p) (NXT.f (K := vI) (qX11_is h.mv h_p) ((eq_is h.rp p).symm) h.up1)
theorem pr_book (h : SIM n S T D) {p : Int} (h_p : -2147483648 ≤ p ∧ p < 2147483648) {q : Int} (h_q : -2147483648 ≤ q ∧ q < 2147483648) : PRI vI 0 0 n S T D yX10_book cX10_book 4 (some .int) 1 [.ref 0, .int (jI p), .int (jI q)] yX11_book cX11_book 3 (some .int) 2 [.ref 36, .int (jI p), .int (jI q)] := by
  exact PRI.f (K := vI) (qX10_book h.rp.1.1 h.rp.1.2 h_p h_q) (NXT.f (K := vI) (qX11_book h.mv h.rp.2.2.2 h_p h_q) ((eq_book h.rp p q).symm) h.up1)
theorem pr_ledger (h : SIM n S T D) {p : Int} (h_p : -2147483648 ≤ p ∧ p < 2147483648) : PRI vI 0 0 n S T D yX10_ledger cX10_ledger 4 (some .int) 1 [.ref 0, .int (jI p)] yX11_ledger cX11_ledger 4 (some .int) 1 [.ref 36, .int (jI p)] := by
  exact PRI.f (K := vI) (qX10_ledger h.rp.1.1 h.rp.1.2 h_p) (NXT.f (K := vI) (qX11_ledger h.mv h.rp.2.2.2 h_p) (by rw [eq_ledger h.rp]) h.up1)
theorem pr_eldest (h : SIM n S T D) : PRI vI 0 0 n S T D yX10_eldest cX10_eldest 3 (some .int) 2 [.ref 0] yX11_eldest cX11_eldest 3 (some .int) 3 [.ref 36] := by
  exact PRI.f (K := vI) (qX10_eldest h.rp.1.1) (NXT.f (K := vI) (qX11_eldest h.mv) ((eq_eldest h.rp).symm) h.up1)
theorem pr_widest (h : SIM n S T D) : PRI vI 0 0 n S T D yX10_widest cX10_widest 3 (some .int) 2 [.ref 0] yX11_widest cX11_widest 3 (some .int) 3 [.ref 36] := by
  exact PRI.f (K := vI) (qX10_widest h.rp.1.1) (NXT.f (K := vI) (qX11_widest h.mv) ((eq_widest h.rp).symm) h.up1)
theorem pr_mirror (h : SIM n S T D) : PRI vI 0 0 n S T D yX10_mirror cX10_mirror 2 (some .boolean) 2 [.ref 0] yX11_mirror cX11_mirror 2 (some .boolean) 3 [.ref 36] := by
  exact PRI.f (K := vI) (qX10_mirror h.rp.1.1) (NXT.f (K := vI) (qX11_mirror h.mv) ((eq_mirror h.rp).symm) h.up1)
theorem pr_crossed (h : SIM n S T D) : PRI vI 0 0 n S T D yX10_crossed cX10_crossed 4 (some .int) 3 [.ref 0] yX11_crossed cX11_crossed 4 (some .int) 4 [.ref 36] := by
  exact PRI.f (K := vI) (qX10_crossed h.rp.1.1) (NXT.f (K := vI) (qX11_crossed h.mv) ((eq_crossed h.rp).symm) h.up1)
theorem pr_nested (h : SIM n S T D) : PRI vI 0 0 n S T D yX10_nested cX10_nested 4 (some .int) 3 [.ref 0] yX11_nested cX11_nested 4 (some .int) 4 [.ref 36] := by
  exact PRI.f (K := vI) (qX10_nested h.rp.1.1) (NXT.f (K := vI) (qX11_nested h.mv) ((eq_nested h.rp).symm) h.up1)
theorem pr_spread (h : SIM n S T D) : PRI vI 0 0 n S T D yX10_spread cX10_spread 2 (some .int) 1 [.ref 0] yX11_spread cX11_spread 3 (some .int) 4 [.ref 36] := by
  exact PRI.f (K := vI) (qX10_spread h.rp.1.1) (NXT.f (K := vI) (qX11_spread h.mv) ((eq_spread h.rp).symm) h.up1)
theorem pr_room (h : SIM n S T D) : PRI vI 0 0 n S T D yX10_room cX10_room 5 (some .int) 2 [.ref 0] yX11_room cX11_room 4 (some .int) 4 [.ref 36] := by
  exact PRI.f (K := vI) (qX10_room h.rp.1.1) (NXT.f (K := vI) (qX11_room h.mv) ((eq_room h.rp).symm) h.up1)
theorem pr_about (h : SIM n S T D) {p : Int} (h_p : -2147483648 ≤ p ∧ p < 2147483648) : PRI vI 0 0 n S T D yX10_about cX10_about 2 (some .int) 0 [.ref 0, .int (jI p)] yX11_about cX11_about 2 (some .int) 1 [.ref 36, .int (jI p)] := by
  refine PRI.f (K := vI) (qX10_about h_p) (NXT.f (K := vI) (qX11_about h_p) ?_ h.up1)
  have e0 : S 0 10 = T 37 0 := h.1.2.2.2.1
  have e1 : S 0 11 = T 37 1 := h.1.2.2.2.2
  have e2 : T 37 2 = S 17 2 := h.1.2.1.2.2.1
  have e3 : T 37 3 = S 19 1 := h.1.2.2.1.1
  have e4 : S 1 1 = T 36 4 := h.2.2.2.2.2.2.2.2.1.1
  rw [e0, e1, ← e2, ← e3, e4]
  by_cases w0 : p = 0
  · rw [if_pos (by omega), if_pos w0, w0]
  · rw [if_neg w0]
    by_cases w1 : p = 1
    · rw [if_pos (by omega), if_pos w1, w1]
    · rw [if_neg w1]
      by_cases w2 : p = 2
      · rw [if_pos (by omega), if_pos w2, w2]
      · rw [if_neg w2]
        by_cases w3 : p = 3
        · rw [if_pos (by omega), if_pos w3, w3]
        · rw [if_neg w3, if_neg (by omega)]
theorem pr_of (h : SIM n S T D) {p : Int} (h_p : -2147483648 ≤ p ∧ p < 2147483648) {q : Int} (h_q : -2147483648 ≤ q ∧ q < 2147483648) : PRI vI 0 0 n S T D yX10_of cX10_of 3 (some .int) 4 [.ref 0, .int (jI p), .int (jI q)] yX11_of cX11_of 4 (some .int) 10 [.ref 36, .int (jI p), .int (jI q)] := by
  obtain ⟨lb, lt, hr, hb, hl⟩ := h.cr
  refine PRI.i (qX10_of h.rp.1.1 h.rp.1.2 hr h_p h_q) (fun v hp hq => ?_)
  obtain ⟨e, S', e2, hf⟩ := hq
  have h' := h.s35 hf
  refine ⟨S', e2, NXT.i (qX11_of h'.mi h_p h_q) (fun v' hp' hq' => ?_)⟩
  obtain ⟨e3, T', e4, hf'⟩ := hq'
  exact ⟨by rw [e3, e]; exact (eq_of hb hl h.rp rfl h_p q).symm, T', e4, (h'.t42 hf').up1⟩
theorem pr_can (h : SIM n S T D) {p : Int} (h_p : -2147483648 ≤ p ∧ p < 2147483648) : PRI vI 0 0 n S T D yX10_can cX10_can 3 (some .int) 4 [.ref 0, .int (jI p)] yX11_can cX11_can 4 (some .int) 10 [.ref 36, .int (jI p)] := by
  obtain ⟨lb, lt, hr, hb, hl⟩ := h.cr
  refine PRI.i (qX10_can h.rp.1.1 h.rp.1.2 hr h_p) (fun v hp hq => ?_)
  obtain ⟨e, S', e2, hf⟩ := hq
  have h' := h.s35 hf
  refine ⟨S', e2, NXT.i (qX11_can h'.mi h_p) (fun v' hp' hq' => ?_)⟩
  obtain ⟨e3, T', e4, hf'⟩ := hq'
  exact ⟨by rw [e3, e]; exact (eq_can hb h.rp rfl h_p).symm, T', e4, (h'.t42 hf').up1⟩
theorem pr_whose (h : SIM n S T D) : PRI vI 0 0 n S T D yX10_whose cX10_whose 3 (some .int) 5 [.ref 0] yX11_whose cX11_whose 5 (some .int) 10 [.ref 36] := by
  obtain ⟨tb, hc, hb⟩ := h.txs
  refine PRI.i (qX10_whose h.rp.1.1 h.rp.1.2 h.sy hc) (fun v hp hq => ?_)
  obtain ⟨e, S', e2, hf⟩ := hq
  have h' := h.s35 hf
  refine ⟨S', e2, NXT.i (qX11_whose h'.mi h'.ms) (fun v' hp' hq' => ?_)⟩
  obtain ⟨e3, T', e4, hf'⟩ := hq'
  have e0 : S 0 10 = T 37 0 := h.1.2.2.2.1
  exact ⟨by rw [e3, e, e0]; exact (eq_whose hb h.rp h.1.2.2.1).symm, T', e4, (h'.t42 hf').up1⟩
theorem pr_foretold (h : SIM n S T D) {p : Int} (h_p : -2147483648 ≤ p ∧ p < 2147483648) : PRI vI 0 0 n S T D yX10_foretold cX10_foretold 3 (some .int) 5 [.ref 0, .int (jI p)] yX11_foretold cX11_foretold 4 (some .int) 13 [.ref 36, .int (jI p)] := by
  obtain ⟨lb, lt, hr, hb, hl⟩ := h.cr
  refine PRI.i (qX10_foretold h.rp.1 hr h_p) (fun v hp hq => ?_)
  obtain ⟨e, S', e2, hf, hk, hx⟩ := hq
  have h' : SIM n S' T D := by
    have hco : COS S' (T 37) := by
      have := CO.ex (f' := S' 14) (g' := S 18) (y' := S 20) (a' := T 37) h.1 hx.1.1 hk (fun _ _ => rfl) (fun _ _ => rfl) h.mv.1 (fun _ _ => rfl)
      unfold COS
      rw [hf 18 (by decide), hf 17 (by decide), hf 20 (by decide), hf 19 (by decide), hf 0 (by decide)]
      exact this
    have hg := h.fr (S' := upS S' 14 (S 14)) (T' := T) (n' := n) (fun i hi => by
      by_cases w : i = 14
      · rw [w, upS_s]
      · rw [upS_n w]; exact hf i (by unfold keptS at hi; simp; omega)) (h.2.2.2.2.1.fr (fun i hi => by rw [upS_n (by omega)]; exact hf i (by simp; omega))) (by rw [upS_n (by decide), hf 21 (by decide)]; exact h.2.2.2.2.2.1) (fun _ _ => rfl) (fun _ _ => rfl)
    obtain ⟨_, g2, g3, g4, g5, g6, g7⟩ := hg
    refine ⟨hco, g2.fr (fun i hi => (upS_n (by omega)).symm), g3, fun q hq => ?_, g5.fr (fun i hi => (upS_n (by omega)).symm), by rw [upS_n (by decide)] at g6; exact g6, ?_⟩
    · obtain ⟨i, els, el, cd, lb, lt, u1, u2, u3, u4⟩ := g4 q hq
      rw [upS_n (by decide)] at u1
      exact ⟨i, els, el, cd, lb, lt, u1, u2, u3, u4⟩
    · rw [upS_n (by decide), upS_n (by decide), upS_n (by decide)] at g7
      exact g7
  refine ⟨S', e2, NXT.i (qX11_foretold h'.mi h'.2.2.2.2.2.2.1 h_p) (fun v' hp' hq' => ?_)⟩
  obtain ⟨e3, T', e4, e5, z, e6, hf'⟩ := hq'
  have h2 : SIM n S' T' D := h'.fr (fun _ _ => rfl) h'.2.2.2.2.1 h'.2.2.2.2.2.1 (fun i hi => by
    by_cases w : i = 37
    · rw [w, e5]
    · exact hf' i (by simp; omega)) (fun j hj => by rw [e6, up_n (by omega)])
  refine ⟨?_, T', e4, h2.up1⟩
  rw [e3, e]
  by_cases w : 1 ≤ p ∧ p ≤ 60
  · rw [if_pos w, if_pos w]; exact (h.rp.fore hl rfl _).symm
  · rw [if_neg w, if_neg w]
end
