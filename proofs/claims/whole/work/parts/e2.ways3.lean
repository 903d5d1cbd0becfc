/-! ===== the reference's ways, counted as the class counts them ===== -/
theorem lsm_cut {f : Nat → Nat} {m : Nat} : ∀ n : Nat, m ≤ n → (∀ p, m ≤ p → p < n → f p = 0) → lsm f (List.range n) = lsm f (List.range m) := by
  intro n
  induction n with
  | zero => intro h _; rw [show m = 0 by omega]
  | succ n ih =>
    intro h h0
    by_cases e : m = n + 1
    · rw [e]
    · rw [lsm_rs, h0 n (by omega) (by omega), ih (by omega) (fun p a b => h0 p a (by omega))]; rfl
theorem len_flat {α β : Type} (f : α → List β) : ∀ l : List α, (l.flatMap f).length = lsm (fun x => (f x).length) l := by
  intro l
  induction l with
  | nil => rfl
  | cons x l ih => rw [List.flatMap_cons, List.length_append, ih]; rfl
/-- fr holds what is below pl and not in u -/
def CMP (pl u fr : Nat) : Prop := ∀ i, fr.testBit i = (decide (i < pl) && !u.testBit i)
theorem CMP.sbs {pl u fr m : Nat} (h : CMP pl u fr) (hm : m < 2 ^ pl) : m &&& u = 0 ↔ sbs m fr = true := by
  rw [sbs_iff]
  constructor
  · intro e i hi
    have h1 : (m &&& u).testBit i = false := by rw [e]; exact Nat.zero_testBit i
    rw [Nat.testBit_and, hi, Bool.true_and] at h1
    rw [h i, h1, Bool.not_false, Bool.and_true, decide_eq_true_iff]
    rcases Nat.lt_or_ge i pl with hl | hl
    · exact hl
    · rw [Nat.testBit_lt_two_pow (Nat.lt_of_lt_of_le hm (Nat.pow_le_pow_right (by decide) hl))] at hi
      cases hi
  · intro e
    refine Nat.eq_of_testBit_eq (fun i => ?_)
    rw [Nat.testBit_and, Nat.zero_testBit]
    cases hb : m.testBit i with
    | false => rfl
    | true =>
      have h1 := e i hb
      rw [h i, Bool.and_eq_true] at h1
      rw [Bool.true_and]
      cases hu : u.testBit i with
      | false => rfl
      | true => rw [hu] at h1; exact absurd h1.2 (by decide)
theorem CMP.go {pl u fr m : Nat} (h : CMP pl u fr) : CMP pl (u ||| m) (nd fr m) := by
  intro i
  rw [nd_bit, h i, Nat.testBit_or]
  cases decide (i < pl) <;> cases u.testBit i <;> cases m.testBit i <;> rfl
theorem CMP.lt {pl u fr : Nat} (h : CMP pl u fr) : fr < 2 ^ pl := by
  refine Nat.lt_pow_two_of_testBit fr (fun i hi => ?_)
  rw [h i, show decide (i < pl) = false from decide_eq_false (by omega)]; rfl
theorem CMP.all (pl : Nat) : CMP pl 0 (2 ^ pl - 1) := by
  intro i
  rw [Nat.testBit_two_pow_sub_one, Nat.zero_testBit, Bool.not_false, Bool.and_true]
theorem wy_wg {pl : Nat} : ∀ (L : List (List Nat)) (u fr : Nat), CMP pl u fr → (∀ os, os ∈ L → ∀ m, m ∈ os → m < 2 ^ pl) → (wy L u).length = wg L fr := by
  intro L
  induction L with
  | nil => intro u fr _ _; rfl
  | cons os L ih =>
    intro u fr h hm
    show (os.flatMap fun m => if m &&& u = 0 then (wy L (u ||| m)).map (m :: ·) else []).length = _
    rw [len_flat, wg_cons]
    refine lsm_congr (fun m hmo => ?_)
    have hl := hm os (List.mem_cons_self) m hmo
    by_cases e : m &&& u = 0
    · rw [if_pos e, if_pos ((h.sbs hl).mp e), List.length_map]
      exact ih _ _ h.go (fun os' ho => hm os' (List.mem_cons_of_mem _ ho))
    · rw [if_neg e, if_neg (fun q => e ((h.sbs hl).mpr q))]; rfl
theorem opm2 (st p : Nat) : opm st 2 p = pm st p := by
  unfold opm pm
  rw [show (2 - 1) * st = st by omega, Nat.or_assoc, Nat.or_self]
theorem opm3 (st p : Nat) : opm st 3 p = tm st p := rfl
theorem opm_lt2 {st e p pl : Nat} (he : 2 ≤ e) (h : p + (e - 1) * st < pl) : opm st e p < 2 ^ pl := by
  have h1 : 1 * st ≤ (e - 1) * st := Nat.mul_le_mul_right st (by omega)
  exact or_lt (or_lt (Nat.pow_lt_pow_right (by decide) (by omega)) (Nat.pow_lt_pow_right (by decide) (by omega))) (Nat.pow_lt_pow_right (by decide) (by omega))
theorem opl_lt2 {st e pl m : Nat} (he : 2 ≤ e) (h : m ∈ opl st pl e) : m < 2 ^ pl := by
  obtain ⟨p, h1, h2⟩ := List.mem_map.mp h
  rw [← h2]
  exact opm_lt2 he (by have := List.mem_range.mp h1; omega)
theorem bit_out {fr pl i : Nat} (h : fr < 2 ^ pl) (hi : pl ≤ i) : ¬ fr.testBit i = true := by
  rw [Nat.testBit_lt_two_pow (Nat.lt_of_lt_of_le h (Nat.pow_le_pow_right (by decide) hi))]
  decide
theorem opl_sum2 {st pl fr : Nat} (hpl : pl ≤ 16) (hf : fr < 2 ^ pl) (g : Nat → Nat) : lsm (fun m => if sbs m fr = true then g m else 0) (opl st pl 2) = lsm (fun m => if sbs m fr = true then g m else 0) (pls st) := by
  unfold opl pls
  rw [lsm_map, lsm_map]
  rw [lsm_cut (m := pl - (2 - 1) * st) 16 (by omega) (fun p a b => if_neg (fun q => bit_out hf (by omega) (sbs_pm.mp q).2))]
  refine lsm_congr (fun p _ => ?_)
  rw [opm2]
theorem opl_sum3 {st pl fr : Nat} (hpl : pl ≤ 16) (hf : fr < 2 ^ pl) (g : Nat → Nat) : lsm (fun m => if sbs m fr = true then g m else 0) (opl st pl 3) = lsm (fun m => if sbs m fr = true then g m else 0) (tls st) := by
  unfold opl tls
  rw [lsm_map, lsm_map]
  rw [lsm_cut (m := pl - (3 - 1) * st) 16 (by omega) (fun p a b => if_neg (fun q => bit_out hf (i := p + 2 * st) (by omega) (sbs_iff.mp q _ (tm_bit.mpr (Or.inr rfl)))))]
  refine lsm_congr (fun p _ => ?_)
  rw [opm3]
theorem wg_opl2 {st a : Nat → Nat} {pl : Nat} (hpl : pl ≤ 16) : ∀ (ks : List Nat) (fr : Nat), (∀ k, k ∈ ks → st k = a k) → fr < 2 ^ pl → wg (ks.map (fun k => opl (st k) pl 2)) fr = wg (ks.map (fun k => pls (a k))) fr := by
  intro ks
  induction ks with
  | nil => intro fr _ _; rfl
  | cons k ks ih =>
    intro fr h hf
    rw [List.map_cons, List.map_cons, wg_cons, wg_cons, opl_sum2 hpl hf, h k List.mem_cons_self]
    refine lsm_congr (fun m _ => ?_)
    rw [ih (nd fr m) (fun k' hk => h k' (List.mem_cons_of_mem _ hk)) (nd_lt hf)]
theorem wg_opl3 {st a : Nat → Nat} {pl : Nat} (hpl : pl ≤ 16) : ∀ (ks : List Nat) (fr : Nat), (∀ k, k ∈ ks → st k = a k) → fr < 2 ^ pl → wg (ks.map (fun k => opl (st k) pl 3)) fr = wg (ks.map (fun k => tls (a k))) fr := by
  intro ks
  induction ks with
  | nil => intro fr _ _; rfl
  | cons k ks ih =>
    intro fr h hf
    rw [List.map_cons, List.map_cons, wg_cons, wg_cons, opl_sum3 hpl hf, h k List.mem_cons_self]
    refine lsm_congr (fun m _ => ?_)
    rw [ih (nd fr m) (fun k' hk => h k' (List.mem_cons_of_mem _ hk)) (nd_lt hf)]
/-- what stands between, alike on both sides -/
def StE (a c : Int → Int) (b : Nat → Nat) : Prop := ∀ k, k < 8 → md_st a c k = b k
theorem opL_lt {a c : Int → Int} {s pl e : Nat} (he : 2 ≤ e) : ∀ os, os ∈ opL a c s pl e → ∀ m, m ∈ os → m < 2 ^ pl := by
  intro os ho m hm
  obtain ⟨k, _, h2⟩ := List.mem_map.mp ho
  rw [← h2] at hm
  exact opl_lt2 he hm
theorem wy_cn {a c : Int → Int} {b : Nat → Nat} (h : StE a c b) {s pl u fr : Nat} (hpl : pl ≤ 16) (hc : CMP pl u fr) : (wy (opL a c s pl 2) u).length = cn b s fr := by
  rw [wy_wg _ u fr hc (opL_lt (by decide))]
  exact wg_opl2 hpl (mem s) fr (fun k hk => h k (memN_lt 8 k hk)) hc.lt
theorem wy_tn {a c : Int → Int} {b : Nat → Nat} (h : StE a c b) {s pl u fr : Nat} (hpl : pl ≤ 16) (hc : CMP pl u fr) : (wy (opL a c s pl 3) u).length = tn b s fr := by
  rw [wy_wg _ u fr hc (opL_lt (by decide))]
  exact wg_opl3 hpl (mem s) fr (fun k hk => h k (memN_lt 8 k hk)) hc.lt
theorem nil_len {α : Type} (l : List α) : l = [] ↔ l.length = 0 := List.length_eq_zero_iff.symm
