/-! ===== pinned and forced, alike on both sides ===== -/
theorem wy_cm {os : List Nat} {L : List (List Nat)} {u : Nat} {w : List Nat} : w ∈ wy (os :: L) u ↔ ∃ m w', w = m :: w' ∧ m ∈ os ∧ m &&& u = 0 ∧ w' ∈ wy L (u ||| m) := by
  show w ∈ (os.flatMap fun m => if m &&& u = 0 then (wy L (u ||| m)).map (m :: ·) else []) ↔ _
  rw [List.mem_flatMap]
  constructor
  · rintro ⟨m, h1, h2⟩
    by_cases e : m &&& u = 0
    · rw [if_pos e] at h2
      obtain ⟨w', h3, h4⟩ := List.mem_map.mp h2
      exact ⟨m, w', h4.symm, h1, e, h3⟩
    · rw [if_neg e] at h2; exact absurd h2 (by simp)
  · rintro ⟨m, w', h1, h2, h3, h4⟩
    exact ⟨m, h2, by rw [if_pos h3, h1]; exact List.mem_map.mpr ⟨w', h4, rfl⟩⟩
theorem wy_flt (t : Nat → Bool) : ∀ (L : List (List Nat)) (i u : Nat) (w : List Nat), i < L.length → (w ∈ wy (L.set i ((L.getD i []).filter t)) u ↔ w ∈ wy L u ∧ t (w.getD i 0) = true) := by
  intro L
  induction L with
  | nil => intro i u w h; exact absurd h (Nat.not_lt_zero _)
  | cons os L ih =>
    intro i u w h
    cases i with
    | zero =>
      show w ∈ wy (os.filter t :: L) u ↔ _
      rw [wy_cm, wy_cm]
      constructor
      · rintro ⟨m, w', rfl, h2, h3, h4⟩
        have := List.mem_filter.mp h2
        exact ⟨⟨m, w', rfl, this.1, h3, h4⟩, this.2⟩
      · rintro ⟨⟨m, w', rfl, h2, h3, h4⟩, h5⟩
        exact ⟨m, w', rfl, List.mem_filter.mpr ⟨h2, h5⟩, h3, h4⟩
    | succ i =>
      show w ∈ wy (os :: L.set i ((L.getD i []).filter t)) u ↔ _
      rw [wy_cm, wy_cm]
      have hl : i < L.length := by rw [List.length_cons] at h; omega
      constructor
      · rintro ⟨m, w', rfl, h2, h3, h4⟩
        have := (ih i _ w' hl).mp h4
        exact ⟨⟨m, w', rfl, h2, h3, this.1⟩, this.2⟩
      · rintro ⟨⟨m, w', rfl, h2, h3, h4⟩, h5⟩
        exact ⟨m, w', rfl, h2, h3, (ih i _ w' hl).mpr ⟨h4, h5⟩⟩
theorem wy_get : ∀ (L : List (List Nat)) (i u : Nat) (w : List Nat), i < L.length → w ∈ wy L u → w.getD i 0 ∈ L.getD i [] := by
  intro L
  induction L with
  | nil => intro i u w h; exact absurd h (Nat.not_lt_zero _)
  | cons os L ih =>
    intro i u w h hw
    obtain ⟨m, w', rfl, h2, h3, h4⟩ := wy_cm.mp hw
    cases i with
    | zero => exact h2
    | succ i => exact ih i _ w' (by rw [List.length_cons] at h; omega) h4
theorem pm_inj {d p q : Nat} (hd : 1 ≤ d) (h : pm d q = pm d p) : q = p := by
  have h1 : (pm d q).testBit p = true := by rw [h]; exact pm_bit.mpr (Or.inl rfl)
  have h2 : (pm d p).testBit q = true := by rw [← h]; exact pm_bit.mpr (Or.inl rfl)
  have h1 := pm_bit.mp h1
  have h2 := pm_bit.mp h2
  omega
theorem opL_ln (a c : Int → Int) (s pl e : Nat) : (opL a c s pl e).length = (mem s).length := List.length_map _
theorem cbn_ex {a c : Int → Int} {b : Nat → Nat} (h : StE a c b) {s pl u fr k p : Nat} (hb : 1 ≤ b k) (hpl : pl ≤ 16) (hc : CMP pl u fr) (hk : k ∈ mem s) (hp : p < 16) : (¬ cbn b s fr k p = 0) ↔ ∃ w, w ∈ wy (opL a c s pl 2) u ∧ w.getD (ixo k (mem s)) 0 = pm (b k) p := by
  have hx := (ixo_spec hk).1
  have e1 : wg ((opL a c s pl 2).set (ixo k (mem s)) (((opL a c s pl 2).getD (ixo k (mem s)) []).filter (fun m => m == pm (b k) p))) fr = cbn b s fr k p := by
    rw [wg_bind h hpl hc.lt hk]
    rw [lsm_congr (g := fun q => if q = p then cbn b s fr k q else 0) (fun q _ => by
      by_cases e : q = p
      · rw [if_pos e, if_pos (by rw [e]; exact beq_self_eq_true _)]
      · rw [if_neg e, if_neg (fun z => e (pm_inj hb (beq_iff_eq.mp z)))])]
    rw [lsm_at (fun q => cbn b s fr k q) p 16, if_pos hp]
  rw [← e1, ← wy_wg _ u fr hc (ofL_lt _)]
  constructor
  · intro hn
    cases hl : wy ((opL a c s pl 2).set (ixo k (mem s)) (((opL a c s pl 2).getD (ixo k (mem s)) []).filter (fun m => m == pm (b k) p))) u with
    | nil => rw [hl] at hn; exact absurd rfl hn
    | cons w ws =>
      have hw : w ∈ wy ((opL a c s pl 2).set (ixo k (mem s)) (((opL a c s pl 2).getD (ixo k (mem s)) []).filter (fun m => m == pm (b k) p))) u := by rw [hl]; exact List.mem_cons_self
      have := (wy_flt _ _ _ _ _ (by rw [opL_ln]; exact hx)).mp hw
      exact ⟨w, this.1, beq_iff_eq.mp this.2⟩
  · rintro ⟨w, h1, h2⟩ h0
    have := (wy_flt (fun m => m == pm (b k) p) (opL a c s pl 2) (ixo k (mem s)) u w (by rw [opL_ln]; exact hx)).mpr ⟨h1, by rw [h2]; exact beq_self_eq_true _⟩
    rw [(nil_len _).mpr h0] at this
    exact absurd this (by simp)
theorem lsm_one {f : Nat → Nat} (hf : ∀ p, f p = 0 ∨ f p = 1) : ∀ n, (lsm f (List.range n) = 0 ↔ ∀ p, p < n → f p = 0) ∧ (lsm f (List.range n) = 1 ↔ ∃ p, p < n ∧ f p = 1 ∧ ∀ q, q < n → f q = 1 → q = p) := by
  intro n
  induction n with
  | zero => exact ⟨⟨fun _ p hp => absurd hp (Nat.not_lt_zero _), fun _ => rfl⟩, ⟨fun h => absurd (show (0 : Nat) = 1 from h) (by decide), fun ⟨p, hp, _⟩ => absurd hp (Nat.not_lt_zero _)⟩⟩
  | succ n ih =>
    rw [lsm_rs]
    have h0 : lsm f (List.range n) + f n = 0 ↔ ∀ p, p < n + 1 → f p = 0 := by
      constructor
      · intro h p hp
        by_cases e : p = n
        · rw [e]; omega
        · exact ih.1.mp (by omega) p (by omega)
      · intro h
        rw [ih.1.mpr (fun p hp => h p (by omega)), h n (by omega)]
    refine ⟨h0, ?_⟩
    constructor
    · intro h
      rcases hf n with e | e
      · obtain ⟨p, h1, h2, h3⟩ := ih.2.mp (by omega)
        exact ⟨p, by omega, h2, fun q hq hq1 => h3 q (by
          by_cases eq : q = n
          · rw [eq] at hq1; omega
          · omega) hq1⟩
      · have hz := ih.1.mp (by omega)
        exact ⟨n, by omega, e, fun q hq hq1 => by
          by_cases eq : q = n
          · exact eq
          · rw [hz q (by omega)] at hq1; omega⟩
    · rintro ⟨p, h1, h2, h3⟩
      by_cases e : p = n
      · subst e
        rw [ih.1.mpr (fun q hq => by rcases hf q with z | z; exact z; have := h3 q (by omega) z; omega), h2]
      · have : f n = 0 := by rcases hf n with z | z; exact z; have := h3 n (by omega) z; omega
        rw [this, ih.2.mpr ⟨p, by omega, h2, fun q hq hq1 => h3 q (by omega) hq1⟩]
theorem alP_istv {a c b : Int → Int} (h : StE a c (fa b)) {s pl u fr k : Nat} (hb : 1 ≤ fa b k) (hpl : pl ≤ 16) (hc : CMP pl u fr) (hk : k ∈ mem s) (hne : ¬ wy (opL a c s pl 2) u = []) : alP (wy (opL a c s pl 2) u) (ixo k (mem s)) = true ↔ istv b s fr ((k : Int) + 1) = 1 := by
  have hx := ixo_spec hk
  have ek : ((k : Int) + 1 - 1).toNat = k := by omega
  have hE := fun p (hp : p < 16) => cbn_ex h hb hpl hc hk hp
  have hs1 : ∀ p, stn b s fr ((k : Int) + 1) p = 1 ↔ ¬ cbn (fa b) s fr k p = 0 := fun p => by
    unfold stn
    rw [ek]
    by_cases z : cbn (fa b) s fr k p = 0
    · rw [if_pos z]; exact ⟨fun q => absurd q (by decide), fun q => absurd z q⟩
    · rw [if_neg z]; exact ⟨fun _ => z, fun _ => rfl⟩
  have hin : ∀ w, w ∈ wy (opL a c s pl 2) u → ∃ p, p < 16 ∧ w.getD (ixo k (mem s)) 0 = pm (fa b k) p := fun w hw => by
    have h1 := wy_get _ _ _ _ (by rw [opL_ln]; exact hx.1) hw
    unfold opL at h1
    rw [getD_map _ (d := 0) hx.1, hx.2.1] at h1
    obtain ⟨p, h2, h3⟩ := List.mem_map.mp h1
    have h4 := List.mem_range.mp h2
    exact ⟨p, by omega, by rw [← h3, opm2, h k (memN_lt 8 k hk)]⟩
  rw [alP_iff]
  have hi : istv b s fr ((k : Int) + 1) = 1 ↔ lsm (stn b s fr ((k : Int) + 1)) (List.range 16) = 1 := by
    by_cases z : lsm (stn b s fr ((k : Int) + 1)) (List.range 16) = 1
    · exact ⟨fun _ => z, fun _ => (istv_p z).symm⟩
    · exact ⟨fun q => by rw [← istv_n z] at q; exact absurd q (by decide), fun q => absurd q z⟩
  rw [hi, (lsm_one (fun p => by unfold stn; split; exact Or.inl rfl; exact Or.inr rfl) 16).2]
  have hhd : (wy (opL a c s pl 2) u).headD [] ∈ wy (opL a c s pl 2) u := by
    cases e : wy (opL a c s pl 2) u with
    | nil => exact absurd e hne
    | cons w ws => exact List.mem_cons_self
  constructor
  · intro hal
    obtain ⟨p, h1, h2⟩ := hin _ hhd
    refine ⟨p, h1, (hs1 p).mpr ((hE p h1).mpr ⟨_, hhd, h2⟩), fun q hq hq1 => ?_⟩
    obtain ⟨w, h3, h4⟩ := (hE q hq).mp ((hs1 q).mp hq1)
    exact pm_inj hb (by rw [← h4, hal w h3, h2])
  · rintro ⟨p, h1, h2, h3⟩ x hx
    obtain ⟨q, h4, h5⟩ := hin x hx
    obtain ⟨q', h6, h7⟩ := hin _ hhd
    rw [h5, h7, h3 q h4 ((hs1 q).mpr ((hE q h4).mpr ⟨x, hx, h5⟩)), h3 q' h6 ((hs1 q').mpr ((hE q' h6).mpr ⟨_, hhd, h7⟩))]
def fld (Q : Nat → Prop) [DecidablePred Q] : List Nat → Int → Int
  | [], acc => acc
  | k :: l, acc => fld Q l (if Q k then bor acc (bsh (k : Int)) else acc)
theorem fld_app {Q : Nat → Prop} [DecidablePred Q] : ∀ (l r : List Nat) (acc : Int), fld Q (l ++ r) acc = fld Q r (fld Q l acc) := by
  intro l
  induction l with
  | nil => intro r acc; rfl
  | cons x l ih => intro r acc; show fld Q (l ++ r) _ = _; rw [ih]; rfl
theorem ixo_app {x : Nat} {M : List Nat} : ∀ (pre : List Nat), ¬ x ∈ pre → ixo x (pre ++ x :: M) = pre.length := by
  intro pre
  induction pre with
  | nil => intro _; show (if x = x then 0 else _) = 0; exact if_pos rfl
  | cons z pre ih =>
    intro h
    show (if z = x then 0 else ixo x (pre ++ x :: M) + 1) = _
    rw [if_neg (fun e => h (by rw [e]; exact List.mem_cons_self)), ih (fun q => h (List.mem_cons_of_mem _ q))]
    rfl
theorem bor_zero {acc : Int} (h : 0 ≤ acc) : bor acc 0 = acc := by
  unfold bor
  rw [show (0 : Int).toNat = 0 from rfl, Nat.or_zero]
  omega
theorem alg_fld {s : Nat} {ws : List (List Nat)} {Q : Nat → Prop} [DecidablePred Q] (hQ : ∀ k, k ∈ mem s → (alP ws (ixo k (mem s)) = true ↔ Q k)) : ∀ (M pre : List Nat) (acc : Int), pre ++ M = mem s → 0 ≤ acc → lpF (alg s ws) M.length (pre.length : Int) acc = fld Q M acc := by
  intro M
  induction M with
  | nil => intro pre acc _ _; rfl
  | cons x M ih =>
    intro pre acc e h0
    have hx : x ∈ mem s := by rw [← e]; simp
    have hnd : ¬ x ∈ pre := by
      have := memN_nodup s 8
      rw [show memN s 8 = pre ++ x :: M from e.symm] at this
      have := (List.nodup_append.mp this).2.2
      exact fun q => this x q x List.mem_cons_self rfl
    have hi : ixo x (mem s) = pre.length := by rw [← e]; exact ixo_app pre hnd
    have hg : (mem s).getD pre.length 0 = x := by
      rw [← e, List.getD_eq_getElem?_getD, List.getElem?_append_right (Nat.le_refl _), Nat.sub_self]
      rfl
    show lpF (alg s ws) M.length ((pre.length : Int) + 1) (alg s ws (pre.length : Int) acc) = fld Q M (if Q x then bor acc (bsh (x : Int)) else acc)
    have e2 : alg s ws (pre.length : Int) acc = (if Q x then bor acc (bsh (x : Int)) else acc) := by
      unfold alg
      rw [Int.toNat_natCast, hg]
      have := hQ x hx
      rw [hi] at this
      by_cases z : alP ws pre.length = true
      · rw [if_pos z, if_pos (this.mp z)]
      · rw [if_neg z, if_neg (fun q => z (this.mpr q)), bor_zero h0]
    rw [e2, show ((pre.length : Int) + 1) = ((pre ++ [x]).length : Int) from by rw [List.length_append, List.length_singleton]; omega]
    exact ih (pre ++ [x]) _ (by rw [List.append_assoc]; exact e) (by split; exact bor_nn _ _; exact h0)
theorem lpF_snoc {α : Type} {g : Int → α → α} : ∀ (m : Nat) (k : Int) (s : α), lpF g (m + 1) k s = g (k + m) (lpF g m k s) := by
  intro m
  induction m with
  | zero => intro k s; show g k s = g (k + 0) s; rw [Int.add_zero]
  | succ m ih =>
    intro k s
    show lpF g (m + 1) (k + 1) (g k s) = _
    rw [ih, show k + 1 + (m : Int) = k + ((m + 1 : Nat) : Int) by omega]
    rfl
theorem stg_fld {b : Int → Int} {s fr : Nat} : ∀ (m : Nat), m ≤ 8 → lpF (stg b s fr) m 1 0 = fld (fun k => istv b s fr ((k : Int) + 1) = 1) (memN s m) 0 := by
  intro m
  induction m with
  | zero => intro _; rfl
  | succ m ih =>
    intro hm
    rw [lpF_snoc, ih (by omega), memN, fld_app]
    generalize fld (fun k => istv b s fr ((k : Int) + 1) = 1) (memN s m) 0 = acc
    unfold stg
    rw [show (1 : Int) + (m : Int) - 1 = (m : Int) by omega, show (1 : Int) + (m : Int) = (m : Int) + 1 by omega, Int.toNat_natCast]
    by_cases z : s.testBit m = true
    · rw [if_pos z]
      show _ = (if istv b s fr ((m : Int) + 1) = 1 then bor acc (bsh (m : Int)) else acc)
      by_cases q : istv b s fr ((m : Int) + 1) = 1
      · rw [if_pos ⟨z, q⟩, if_pos q]
      · rw [if_neg (fun k => q k.2), if_neg q]
    · rw [if_neg (fun k => z k.1), if_neg z]; rfl
theorem eq_pin {a c b : Int → Int} (h : StE a c (fa b)) (hb : ∀ k, k < 8 → 1 ≤ fa b k) {s pl u fr : Nat} (hpl : pl ≤ 16) (hc : CMP pl u fr) : (if ¬ wy (opL a c s pl 2) u = [] then aln s (wy (opL a c s pl 2) u) else -1) = stv b s fr := by
  unfold stv
  rw [← wy_cn h hpl hc]
  by_cases hne : wy (opL a c s pl 2) u = []
  · rw [if_neg (fun q => q hne), if_pos ((nil_len _).mp hne)]
  · rw [if_pos hne, if_neg (fun q => hne ((nil_len _).mpr q)), stg_fld 8 (by omega)]
    unfold aln
    exact alg_fld (fun k hk => alP_istv h (hb k (memN_lt 8 k hk)) hpl hc hk hne) (mem s) [] 0 rfl (by omega)
