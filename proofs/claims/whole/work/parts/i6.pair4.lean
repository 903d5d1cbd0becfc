/-! ===== calls, each on both sides: join, day, years, played, feed ===== -/
theorem SIM.cs {n : Nat} {S T S1 T' : Nat → Int → Int} {D : List mx_C} (h : SIM n S T D) (hc : COS S1 (T' 37)) (hf : Fr [14, 17, 18, 35] S S1) (hT : ∀ i, 38 ≤ i ∧ i ≤ 40 → T' i = T i) (h36 : ∀ j, (j = 4 ∨ j = 5 ∨ j = 6 ∨ j = 23) → T' 36 j = T 36 j) : SIM n S1 T' D :=
  h.co hc (by rw [hf 0 (by decide)]) (fun i hi => hf i (by simp; omega)) hT h36
theorem Fr_K {S : Nat → Int → Int} {g : Int → Int} : Fr [14, 17, 18, 35] S (upS (stK S) 14 g) := fun i hi => by
  simp at hi
  unfold stK
  rw [upS_n (by omega), upS_n (by omega), upS_n (by omega)]
section
variable {n : Nat} {S T : Nat → Int → Int} {D : List mx_C}
theorem pr_join (h : SIM n S T D) {p : Int} (h_p : -2147483648 ≤ p ∧ p < 2147483648) {q : Int} (h_q : -2147483648 ≤ q ∧ q < 2147483648) : PRI vI 0 0 n S T D yX10_join cX10_join 4 (some .int) 5 [.ref 0, .int (jI p), .int (jI q)] yX11_join cX11_join 4 (some .int) 11 [.ref 36, .int (jI p), .int (jI q)] := by
  obtain ⟨lb, lt, hr, hb, hl⟩ := h.cr
  have h2 : 0 ≤ T 37 2 ∧ T 37 2 ≤ 30 := h.mv.2.2.2.1
  refine PRI.i (qX10_join h.rp.1.1 h.rp.1.2 h.st.1 h.st.2 hr h_p h_q) (fun v hp hq => ?_)
  obtain ⟨e, S', e2, hf⟩ := hq
  have hs := h.rp.2.1.sec hb h.mv h.rp.2.2.2 rfl p q
  have hk := h.1.kept
  have hsk := hk.1.2.1.sec hb hk.1.2.2.1 hk.1.2.2.2 (keep_row h2 (by omega)) p q
  have e5 : md_sec (md_keep (T 37)) (T 39) (p - 1) q = md_sec (T 37) (T 39) (p - 1) q := hsk.symm.trans hs
  have hmi : MI T := h.mi
  refine ⟨S', e2, NXT.i (qX11_join hmi h.2.2.2.2.2.2.1 h_p h_q) (fun v' hp' hq' => ?_)⟩
  obtain ⟨e3, T', e4, e37, hf'⟩ := hq'
  rw [md_sec_wr] at e3 e37
  have ew : ¬ md_sec (T 37) (T 39) (p - 1) q = -1 → wr1 p = p - 1 := fun z => wr1_e (by have := (sec_facts h.mv z).1; omega)
  refine ⟨by rw [e3, e]; exact hs.symm, T', e4, ?_⟩
  have hT : ∀ i, 38 ≤ i ∧ i ≤ 40 → T' i = T i := fun i hi => hf' i (by simp; omega)
  have h36 : ∀ j, (j = 4 ∨ j = 5 ∨ j = 6 ∨ j = 23) → T' 36 j = T 36 j := fun j _ => by rw [hf' 36 (by decide)]
  unfold cjo at hf
  rw [hs] at hf
  by_cases z : md_sec (T 37) (T 39) (p - 1) q = -1
  · rw [if_pos z] at hf e37
    exact (h.cs (S1 := S') (T' := T') (by rw [e37]; exact h.1.fr hf) (hf.mono (by decide)) hT h36).up1
  · rw [if_neg z] at hf e37
    rw [ew z] at e37
    have hj := hk.1.join (c := T 39) (k := p - 1) (p := q) (by rw [e5]; exact z)
    rw [show p - 1 + 1 = p by omega, e5] at hj
    have hco := hk.row hj.1 hj.2
    exact (h.cs (S1 := S') (T' := T') (by rw [e37]; exact COS.fr hco hf) (Fr.t Fr_K hf (by decide)) hT h36).up1
theorem pr_day (h : SIM n S T D) {p : Int} (h_p : -2147483648 ≤ p ∧ p < 2147483648) : PRI vI 0 0 n S T D yX10_day cX10_day 3 (some .int) 6 [.ref 0, .int (jI p)] yX11_day cX11_day 2 (some .int) 12 [.ref 36, .int (jI p)] := by
  obtain ⟨lb, lt, hr, hb, hl⟩ := h.cr
  refine PRI.i (qX10_day h.rp.1 h.st hr h_p) (fun v hp hq => ?_)
  obtain ⟨e, S', e2, hf⟩ := hq
  refine ⟨S', e2, NXT.i (qX11_day h.mi h.2.2.2.2.2.2.1 h_p) (fun v' hp' hq' => ?_)⟩
  obtain ⟨e3, T', e4, e37, z, e36, hf'⟩ := hq'
  have hT : ∀ i, 38 ≤ i ∧ i ≤ 40 → T' i = T i := fun i hi => hf' i (by simp; omega)
  have h36 : ∀ j, (j = 4 ∨ j = 5 ∨ j = 6 ∨ j = 23) → T' 36 j = T 36 j := fun j hj => by rw [e36, up_n (by omega)]
  have e41 : T 37 4 = S 14 1 := h.rp.2.1.2.1
  have hd := COS.days hl p.toNat S (T 37) 0 h.1 rfl
  unfold cdy at e
  unfold cdS at hf
  rw [e41] at e3 e37
  by_cases w : (1 ≤ p ∧ p ≤ 60) ∧ S 14 1 + p ≤ 9999
  · rw [if_pos w] at e e3 e37 hf
    have e1 : (md_aps (T 39) 1 p.toNat (T 37, 0)).1 = 1 := by
      rw [hd.2.1]
      exact jb_t (by have := w.1; have := w.2; omega)
    rw [if_pos e1] at e3
    have := hd.2.2
    refine ⟨by omega, T', e4, ?_⟩
    exact (h.cs (S1 := S') (T' := T') (by rw [e37]; exact COS.fr hd.1 hf) (Fr.t ((cpN_fx (S := S) p.toNat S (fun _ _ => rfl)).mono (by decide)) hf (by decide)) hT h36).up1
  · rw [if_neg w] at e e3 e37 hf
    refine ⟨by omega, T', e4, ?_⟩
    exact (h.cs (S1 := S') (T' := T') (by rw [e37]; exact h.1.fr hf) (hf.mono (by decide)) hT h36).up1
theorem pr_years (h : SIM n S T D) {p : Int} (h_p : -2147483648 ≤ p ∧ p < 2147483648) {q : Int} (h_q : -2147483648 ≤ q ∧ q < 2147483648) : PRI vI 0 0 n S T D yX10_years cX10_years 4 (some .int) 6 [.ref 0, .int (jI p), .int (jI q)] yX11_years cX11_years 5 (some .int) 12 [.ref 36, .int (jI p), .int (jI q)] := by
  obtain ⟨lb, lt, hr, hb, hl⟩ := h.cr
  have h2 : 0 ≤ T 37 2 ∧ T 37 2 ≤ 30 := h.mv.2.2.2.1
  refine PRI.i (qX10_years h.rp.1 h.st hr h_p h_q) (fun v hp hq => ?_)
  obtain ⟨e, S', e2, hf⟩ := hq
  refine ⟨S', e2, NXT.i (qX11_years h.mi h.2.2.2.2.2.2.1 h_p h_q) (fun v' hp' hq' => ?_)⟩
  obtain ⟨e3, T', e4, e37, z, e36, hf'⟩ := hq'
  have hT : ∀ i, 38 ≤ i ∧ i ≤ 40 → T' i = T i := fun i hi => hf' i (by simp; omega)
  have h36 : ∀ j, (j = 4 ∨ j = 5 ∨ j = 6 ∨ j = 23) → T' 36 j = T 36 j := fun j hj => by rw [e36, up_n (by omega)]
  unfold cyV at e
  unfold cyS at hf
  by_cases w : (0 ≤ p ∧ p ≤ 9999) ∧ (1 ≤ q ∧ q ≤ 40)
  · rw [if_pos w] at e e3 e37 hf
    have hk := h.1.kept
    have hs := hk.1.set2 (x := p * 2 + 443) (by have := w.1; omega)
    have h1' : (up (md_keep (T 37)) 5 (p * 2 + 443)) 1 = T 37 1 := by
      rw [up_n (by omega)]; exact keep_row h2 (by omega)
    have hy := RPM.yrs hb hl q.toNat _ _ hs.1 h1'
    refine ⟨?_, T', e4, ?_⟩
    · rw [e3, e]; exact hy.1.2.1.2.1
    · refine (h.cs (S1 := S') (T' := T') ?_ (Fr.t Fr_K hf (by decide)) hT h36).up1
      rw [e37]
      exact COS.fr (hk.row hy.1 (hs.2.t hy.2)) hf
  · rw [if_neg w] at e e3 e37 hf
    refine ⟨by omega, T', e4, ?_⟩
    exact (h.cs (S1 := S') (T' := T') (by rw [e37]; exact h.1.fr hf) (hf.mono (by decide)) hT h36).up1
theorem pr_played (h : SIM n S T D) {p : Int} (h_p : -2147483648 ≤ p ∧ p < 2147483648) : PRI vI 0 0 n S T D yX10_played cX10_played 4 (some .int) 7 [.ref 0, .int (jI p)] yX11_played cX11_played 3 (some .int) 13 [.ref 36, .int (jI p)] := by
  obtain ⟨lb, lt, hr, hb, hl⟩ := h.cr
  have e0 : S 0 10 = T 37 0 := h.1.2.2.2.1
  have b0 := h.mv.2.1
  by_cases w : 0 ≤ p ∧ p < T 37 0
  · obtain ⟨i, els, el, cd, lb', lt', u1, u2, u3, u4⟩ := h.2.2.2.1 p w
    have hI : CKp (fun A => (∃ a, COS A a ∧ a 1 = T 37 1) ∧ A 0 = S 0 ∧ A 12 = S 12) D lb lt := by
      refine ⟨fun A hA => ?_, fun A x hA hx => ?_, fun A A' hA hf => ?_⟩
      · obtain ⟨⟨a, ha, _⟩, q0, q12⟩ := hA
        refine ⟨ha.1.1, ⟨ha.2.1.1, ha.2.1.2.1⟩, ?_⟩
        unfold CR1 at hr ⊢
        rw [q0, q12]; exact hr
      · obtain ⟨⟨a, ha, ha1⟩, q0, q12⟩ := hA
        have hx' := COS.exS hb hl ha ha1 hx
        have hfx := ccS_fx lb lt x.1 x.2.1 x.2.2 A
        exact ⟨hx', (hfx 0 (by decide)).trans q0, (hfx 12 (by decide)).trans q12⟩
      · obtain ⟨⟨a, ha, ha1⟩, q0, q12⟩ := hA
        exact ⟨⟨a, ha.fr hf, ha1⟩, (hf 0 (by decide)).trans q0, (hf 12 (by decide)).trans q12⟩
    refine PRI.i (qX10_played hI ⟨⟨T 37, h.1, rfl⟩, rfl, rfl⟩ (by omega) u1 u2.k (fun x hx => (u3 x hx).cln)) (fun v hp hq => ?_)
    obtain ⟨e, S', e2, hf⟩ := hq
    refine ⟨S', e2, NXT.i (qX11_played h.mi h.2.2.2.2.2.2.2.1 h.2.2.2.2.2.2.1 h_p) (fun v' hp' hq' => ?_)⟩
    obtain ⟨e3, T', e4, e37, z, e36, hf'⟩ := hq'
    have hT : ∀ i, 38 ≤ i ∧ i ≤ 40 → T' i = T i := fun i hi => hf' i (by simp; omega)
    have h36 : ∀ j, (j = 4 ∨ j = 5 ∨ j = 6 ∨ j = 23) → T' 36 j = T 36 j := fun j hj => by rw [e36, up_n (by omega)]
    have hP := COS.pld (q := p) hb hl els 0 S (T 37) h.1 rfl u4.ln
    have hlen : (T 39 (681 * p)).toNat = els.length := by
      have := u4.1
      have := u4.2.2.2.1
      omega
    rw [if_pos (by omega), hlen] at e3 e37
    refine ⟨by rw [e3, e]; exact hP.2, T', e4, ?_⟩
    refine (h.cs (S1 := S') (T' := T') ?_ (Fr.t ((cpl_fx els 0 S).mono (by decide)) hf (by decide)) hT h36).up1
    rw [e37]
    exact COS.fr hP.1 hf
  · refine PRI.i (qX10_playedN h_p (by omega) (by omega)) (fun v hp hq => ?_)
    refine ⟨S, hq.2, NXT.i (qX11_played h.mi h.2.2.2.2.2.2.2.1 h.2.2.2.2.2.2.1 h_p) (fun v' hp' hq' => ?_)⟩
    obtain ⟨e3, T', e4, e37, z, e36, hf'⟩ := hq'
    have hT : ∀ i, 38 ≤ i ∧ i ≤ 40 → T' i = T i := fun i hi => hf' i (by simp; omega)
    have h36 : ∀ j, (j = 4 ∨ j = 5 ∨ j = 6 ∨ j = 23) → T' 36 j = T 36 j := fun j hj => by rw [e36, up_n (by omega)]
    rw [if_neg (by omega)] at e3 e37
    exact ⟨by rw [e3, hq.1], T', e4, (h.cs (S1 := S) (T' := T') (by rw [e37]; exact h.1) (fun _ _ => rfl) hT h36).up1⟩
end
