/-! ===== often, pinned, alike on both sides ===== -/
theorem set_perm {f : Nat → List Nat} {k : Nat} {x : List Nat} : ∀ {l : List Nat}, k ∈ l → ((l.map f).set (ixo k l) x).Perm (x :: (l.erase k).map f) := by
  intro l
  induction l with
  | nil => intro h; exact absurd h (by simp)
  | cons z l ih =>
    intro h
    by_cases e : z = k
    · subst e
      rw [ixo, if_pos rfl, List.erase_cons_head, List.map_cons]
      exact List.Perm.refl _
    · have hk : k ∈ l := by
        rcases List.mem_cons.mp h with q | q
        · exact absurd q.symm e
        · exact q
      rw [ixo, if_neg e, List.erase_cons_tail (by simpa using e), List.map_cons, List.set_cons_succ]
      exact ((ih hk).cons (f z)).trans (List.Perm.swap x (f z) _)
/-- the ways in which one number's places are bound -/
theorem wg_bind {a c : Int → Int} {b : Nat → Nat} (h : StE a c b) {s pl fr k : Nat} (hpl : pl ≤ 16) (hf : fr < 2 ^ pl) (hk : k ∈ mem s) (t : Nat → Bool) : wg ((opL a c s pl 2).set (ixo k (mem s)) (((opL a c s pl 2).getD (ixo k (mem s)) []).filter t)) fr = lsm (fun p => if t (pm (b k) p) = true then cbn b s fr k p else 0) (List.range 16) := by
  have hx := ixo_spec hk
  have e0 : (opL a c s pl 2).getD (ixo k (mem s)) [] = opl (md_st a c k) pl 2 := by
    unfold opL
    rw [getD_map _ (d := 0) hx.1, hx.2.1]
  rw [e0]
  unfold opL
  rw [wg_perm (set_perm hk) fr, wg_cons, lsm_filter]
  have e1 : ∀ fr', fr' < 2 ^ pl → wg (((mem s).erase k).map (fun k => opl (md_st a c k) pl 2)) fr' = cn b (nd s (2 ^ k)) fr' := fun fr' hf' => by
    rw [(memN_nodup s 8).erase_eq_filter, ← memN_out s k 8]
    exact wg_opl2 hpl (mem (nd s (2 ^ k))) fr' (fun j hj => h j (memN_lt 8 j hj)) hf'
  have e2 : ∀ m : Nat, (if t m = true then (if sbs m fr = true then wg (((mem s).erase k).map (fun k => opl (md_st a c k) pl 2)) (nd fr m) else 0) else 0) = (if sbs m fr = true then (if t m = true then cn b (nd s (2 ^ k)) (nd fr m) else 0) else 0) := fun m => by
    rw [e1 _ (nd_lt hf)]
    by_cases q1 : t m = true
    · by_cases q2 : sbs m fr = true
      · rw [if_pos q1, if_pos q2, if_pos q2, if_pos q1]
      · rw [if_pos q1, if_neg q2, if_neg q2]
    · by_cases q2 : sbs m fr = true
      · rw [if_neg q1, if_pos q2, if_neg q1]
      · rw [if_neg q1, if_neg q2]
  rw [lsm_congr (fun m _ => e2 m), opl_sum2 hpl hf (fun m => if t m = true then cn b (nd s (2 ^ k)) (nd fr m) else 0)]
  unfold pls
  rw [lsm_map, h k (memN_lt 8 k hk)]
  refine lsm_congr (fun p _ => ?_)
  unfold cbn
  by_cases q1 : t (pm (b k) p) = true
  · by_cases q2 : sbs (pm (b k) p) fr = true
    · rw [if_pos q2, if_pos q1, if_pos q1, if_pos q2]
    · rw [if_neg q2, if_pos q1, if_neg q2]
  · rw [if_neg q1, if_neg q1]; exact ite_self _
theorem lsm_at (X : Nat → Nat) (p : Nat) : ∀ n, lsm (fun q => if q = p then X q else 0) (List.range n) = if p < n then X p else 0 := by
  intro n
  induction n with
  | zero => rfl
  | succ n ih =>
    rw [lsm_rs, ih]
    by_cases e : n = p
    · subst e; rw [if_neg (Nat.lt_irrefl _), if_pos rfl, if_pos (Nat.lt_succ_self _)]; omega
    · rw [if_neg e]
      by_cases q : p < n
      · rw [if_pos q, if_pos (by omega)]; rfl
      · rw [if_neg q, if_neg (by omega)]
theorem lsm_two (X : Nat → Nat) {p d : Nat} (hd : 1 ≤ d) (hp : p < 16) : lsm (fun q => if q = p ∨ q + d = p then X q else 0) (List.range 16) = X p + (if d ≤ p then X (p - d) else 0) := by
  have e : ∀ q : Nat, (if q = p ∨ q + d = p then X q else 0) = (if q = p then X q else 0) + (if d ≤ p then (if q = p - d then X q else 0) else 0) := fun q => by
    by_cases q1 : q = p
    · rw [if_pos (Or.inl q1), if_pos q1]
      by_cases q2 : d ≤ p
      · rw [if_pos q2, if_neg (by omega)]; rfl
      · rw [if_neg q2]; rfl
    · by_cases q2 : q + d = p
      · rw [if_pos (Or.inr q2), if_neg q1, if_pos (by omega), if_pos (by omega)]; omega
      · rw [if_neg (fun z => z.elim q1 q2), if_neg q1]
        by_cases q3 : d ≤ p
        · rw [if_pos q3, if_neg (by omega)]
        · rw [if_neg q3]
  rw [lsm_congr (fun q _ => e q), lsm_add, lsm_at, if_pos hp]
  by_cases q : d ≤ p
  · rw [lsm_congr (fun z _ => if_pos q), lsm_at, if_pos (by omega), if_pos q]
  · rw [lsm_congr (fun z _ => if_neg q), lsm_zero (fun _ _ => rfl), if_neg q]
theorem ofL_lt {a c : Int → Int} {s pl i : Nat} (t : Nat → Bool) : ∀ os, os ∈ (opL a c s pl 2).set i (((opL a c s pl 2).getD i []).filter t) → ∀ m, m ∈ os → m < 2 ^ pl := by
  intro os ho m hm
  rcases List.mem_or_eq_of_mem_set ho with q | q
  · exact opL_lt (by decide) os q m hm
  · rw [q] at hm
    have h1 := (List.mem_filter.mp hm).1
    rcases Nat.lt_or_ge i (opL a c s pl 2).length with h2 | h2
    · exact opL_lt (by decide) _ (getD_mem (d := []) h2) m h1
    · rw [List.getD_eq_getElem?_getD, List.getElem?_eq_none h2] at h1
      exact absurd h1 (by simp)
theorem eq_often {a c b : Int → Int} (h : StE a c (fa b)) (hb : ∀ n, 1 ≤ n ∧ n ≤ 8 → 1 ≤ b n) {s g n p : Int} (hr : isRow s g) (hn : 1 ≤ n ∧ n ≤ 8) (hs : s.toNat.testBit (n - 1).toNat = true) (hp : 0 ≤ p ∧ p < 2 * pc s + g) : ((wy (ofL (opL a c s.toNat (2 * pc s + g).toNat 2) (ixo (n - 1).toNat (mem s.toNat)) p.toNat) 0).length : Int) = ((cbn (fa b) s.toNat (2 ^ (2 * pc s + g).toNat - 1) (n - 1).toNat p.toNat : Nat) : Int) + (if 0 ≤ p - b n ∧ p - b n < 16 then ((cbn (fa b) s.toNat (2 ^ (2 * pc s + g).toNat - 1) (n - 1).toNat (p - b n).toNat : Nat) : Int) else 0) := by
  have hg := hr.2.2
  have hk : (n - 1).toNat ∈ mem s.toNat := (memN_mem 8 _).mpr ⟨by omega, hs⟩
  have hbn := hb n hn
  have hf := CMP.lt (CMP.all (2 * pc s + g).toNat)
  unfold ofL
  rw [wy_wg (pl := (2 * pc s + g).toNat) _ 0 _ (CMP.all _) (ofL_lt _), wg_bind h (by omega) hf hk]
  have e : ∀ q : Nat, (if (pm (fa b (n - 1).toNat) q).testBit p.toNat = true then cbn (fa b) s.toNat (2 ^ (2 * pc s + g).toNat - 1) (n - 1).toNat q else 0) = (if q = p.toNat ∨ q + fa b (n - 1).toNat = p.toNat then cbn (fa b) s.toNat (2 ^ (2 * pc s + g).toNat - 1) (n - 1).toNat q else 0) := fun q => by
    by_cases z : (pm (fa b (n - 1).toNat) q).testBit p.toNat = true
    · rw [if_pos z, if_pos (pm_bit.mp z)]
    · rw [if_neg z, if_neg (fun k => z (pm_bit.mpr k))]
  rw [lsm_congr (fun q _ => e q)]
  rw [lsm_two (fun q => cbn (fa b) s.toNat (2 ^ (2 * pc s + g).toNat - 1) (n - 1).toNat q) (d := fa b (n - 1).toNat) (by rw [fa_at b hn.1]; omega) (by omega), fa_at b hn.1]
  by_cases z : (b n).toNat ≤ p.toNat
  · rw [if_pos z, if_pos (by omega), show (p - b n).toNat = p.toNat - (b n).toNat by omega]; omega
  · rw [if_neg z, if_neg (by omega)]; omega
