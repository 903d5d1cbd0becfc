/-! ===== what is asked of rows, alike on both sides ===== -/
theorem lpR_cases {α : Type} {g : Int → Option α} {d : α} : ∀ (m : Nat) (k : Int), (lpR g m k d = d ∧ ∀ j, k ≤ j ∧ j < k + m → g j = none) ∨ (∃ j, (k ≤ j ∧ j < k + m) ∧ g j = some (lpR g m k d) ∧ ∀ j', k ≤ j' ∧ j' < j → g j' = none) := by
  intro m
  induction m with
  | zero => intro k; exact Or.inl ⟨rfl, fun j hj => by omega⟩
  | succ m ih =>
    intro k
    cases hg : g k with
    | some r =>
      have e : lpR g (m + 1) k d = r := by rw [lpR, hg]
      exact Or.inr ⟨k, by omega, by rw [e]; exact hg, fun j' hj => by omega⟩
    | none =>
      have e : lpR g (m + 1) k d = lpR g m (k + 1) d := by rw [lpR, hg]
      rw [e]
      rcases ih (k + 1) with ⟨h1, h2⟩ | ⟨j, h1, h2, h3⟩
      · refine Or.inl ⟨h1, fun j hj => ?_⟩
        by_cases ej : j = k
        · rw [ej]; exact hg
        · exact h2 j (by omega)
      · refine Or.inr ⟨j, by omega, h2, fun j' hj => ?_⟩
        by_cases ej : j' = k
        · rw [ej]; exact hg
        · exact h3 j' (by omega)
theorem eq_rw {a c b : Int → Int} (h : StE a c (fa b)) {s g : Int} (hg : 2 * pc s + g ≤ 16) : (md_rw a c s g).length = cn (fa b) s.toNat (2 ^ (2 * pc s + g).toNat - 1) :=
  wy_cn h (by omega) (CMP.all _)
theorem eq_rows {a c b : Int → Int} (h : StE a c (fa b)) (s g : Int) : (if isRow s g then ((md_rw a c s g).length : Int) else -1) = (if isRow s g then ((cn (fa b) s.toNat (2 ^ (2 * pc s + g).toNat - 1) : Nat) : Int) else -1) := by
  by_cases hr : isRow s g
  · rw [if_pos hr, if_pos hr, eq_rw h hr.2.2]
  · rw [if_neg hr, if_neg hr]
theorem eq_threes {a c b : Int → Int} (h : StE a c (fa b)) (s : Int) : (if (0 ≤ s ∧ s ≤ 255) ∧ pc s ≤ 5 then ((wy (opL a c s.toNat (3 * pc s).toNat 3) 0).length : Int) else -1) = (if (0 ≤ s ∧ s ≤ 255) ∧ pc s ≤ 5 then ((tn (fa b) s.toNat (2 ^ (3 * pc s).toNat - 1) : Nat) : Int) else -1) := by
  by_cases hr : (0 ≤ s ∧ s ≤ 255) ∧ pc s ≤ 5
  · rw [if_pos hr, if_pos hr, wy_tn h (by omega) (CMP.all _)]
  · rw [if_neg hr, if_neg hr]
theorem rol_lt2 {st pl m : Nat} (h : m ∈ rol st pl) : m < 2 ^ pl := by
  obtain ⟨p, h1, h2⟩ := List.mem_map.mp h
  have h3 := List.mem_range.mp h1
  have h4 := rcn_le st pl
  rw [← h2]
  exact or_lt (Nat.pow_lt_pow_right (by decide) (by omega)) (Nat.pow_lt_pow_right (by decide) (Nat.mod_lt _ (by omega)))
theorem eq_rounds {a c b : Int → Int} (h : StE a c (fa b)) (s : Int) : (if 0 ≤ s ∧ s ≤ 255 then ((wy (rouL a c s.toNat) 0).length : Int) else -1) = (if 0 ≤ s ∧ s ≤ 255 then ((rnd b s.toNat : Nat) : Int) else -1) := by
  by_cases hr : 0 ≤ s ∧ s ≤ 255
  · rw [if_pos hr, if_pos hr]
    have e : rouL a c s.toNat = rsl (fa b) (2 * (mem s.toNat).length) s.toNat := by
      unfold rouL rsl
      exact List.map_congr_left (fun k hk => by rw [h k (memN_lt 8 k hk)])
    rw [e, wy_wg (pl := 2 * (mem s.toNat).length) _ 0 _ (CMP.all _) (fun os ho m hm => by
      obtain ⟨k, _, h2⟩ := List.mem_map.mp ho
      rw [← h2] at hm
      exact rol_lt2 hm)]
    rfl
  · rw [if_neg hr, if_neg hr]
theorem eq_few {a c b : Int → Int} (h : StE a c (fa b)) {s : Int} (hs : 0 ≤ s ∧ s ≤ 255) : ∀ (m : Nat) (g : Int), 0 ≤ g → g + m + 2 * pc s = 17 → md_few a c s m g = lpR (fwg b s) m (2 * pc s + g) (-1) := by
  intro m
  induction m with
  | zero => intro g _ _; rfl
  | succ m ih =>
    intro g hg he
    rw [md_few, lpR]
    unfold fwg
    have e := eq_rw h (s := s) (g := g) (by omega)
    by_cases h0 : md_rw a c s g = []
    · rw [if_pos h0, if_pos (by rw [← e, h0]; rfl), ih (g + 1) (by omega) (by omega)]
      show _ = lpR _ m (2 * pc s + g + 1) (-1)
      rw [show 2 * pc s + g + 1 = 2 * pc s + (g + 1) by omega]
      rfl
    · rw [if_neg h0, if_neg (by rw [← e]; exact fun q => h0 ((nil_len _).mpr q))]
      show g = 2 * pc s + g - 2 * pc s
      omega
theorem eq_fewest {a c b : Int → Int} (h : StE a c (fa b)) (s : Int) : (if 0 ≤ s ∧ s ≤ 255 then md_few a c s (17 - 2 * pc s).toNat 0 else -1) = (if 0 ≤ s ∧ s ≤ 255 then fwl b s else -1) := by
  by_cases hr : 0 ≤ s ∧ s ≤ 255
  · have hp : pc s ≤ 8 := by rw [pc_mem hr]; have := mem_len8 s.toNat; omega
    rw [if_pos hr, if_pos hr, eq_few h hr _ 0 (by omega) (by omega), Int.add_zero]
    rfl
  · rw [if_neg hr, if_neg hr]
theorem md_all_lpr (L : List (List Nat)) : ∀ (l : List Nat) (f : Nat → List Nat), L = l.map f → md_all L = ((lpr (fun k => (f k).length) l : Nat) : Int) := by
  have key : ∀ (M : List (List Nat)) (pre : List (List Nat)) (acc : Int), lpF (md_alg (pre ++ M)) M.length (pre.length : Int) acc = acc * ((lpr (fun i => (M.getD i []).length) (List.range M.length) : Nat) : Int) := by
    intro M
    induction M with
    | nil => intro pre acc; show acc = acc * ((1 : Nat) : Int); omega
    | cons x M ih =>
      intro pre acc
      have e1 : md_alg (pre ++ x :: M) (pre.length : Int) acc = acc * (x.length : Int) := by
        unfold md_alg
        rw [Int.toNat_natCast, List.getD_eq_getElem?_getD, List.getElem?_append_right (Nat.le_refl _), Nat.sub_self]
        rfl
      show lpF (md_alg (pre ++ x :: M)) M.length ((pre.length : Int) + 1) (md_alg (pre ++ x :: M) (pre.length : Int) acc) = _
      rw [e1]
      have := ih (pre ++ [x]) (acc * (x.length : Int))
      rw [List.append_assoc, List.length_append, List.length_singleton] at this
      rw [show ((pre.length : Int) + 1) = ((pre.length + 1 : Nat) : Int) by omega]
      rw [show pre ++ x :: M = pre ++ ([x] ++ M) from rfl, this]
      rw [List.length_cons, List.range_succ_eq_map, lpr, show ((x :: M).getD 0 []) = x from rfl]
      rw [show ∀ l : List Nat, lpr (fun i => ((x :: M).getD i []).length) (l.map Nat.succ) = lpr (fun i => (M.getD i []).length) l from fun l => by
        induction l with
        | nil => rfl
        | cons y l ihl => rw [List.map_cons, lpr, lpr, ihl]; rfl]
      rw [Int.natCast_mul, Int.mul_assoc]
  have len : ∀ M : List (List Nat), lpr (fun i => (M.getD i []).length) (List.range M.length) = lpr (fun x => x) (M.map List.length) := by
    intro M
    induction M with
    | nil => rfl
    | cons x M ih =>
      rw [List.length_cons, List.range_succ_eq_map, lpr, List.map_cons, lpr, ← ih]
      rw [show ∀ l : List Nat, lpr (fun i => ((x :: M).getD i []).length) (l.map Nat.succ) = lpr (fun i => (M.getD i []).length) l from fun l => by
        induction l with
        | nil => rfl
        | cons y l ihl => rw [List.map_cons, lpr, lpr, ihl]; rfl]
      rfl
  intro l f e
  have h := key L [] 1
  rw [List.nil_append] at h
  unfold md_all
  rw [show (0 : Int) = (([] : List (List Nat)).length : Int) from rfl, h, Int.one_mul, len, e]
  rw [show ∀ l : List Nat, lpr (fun x => x) ((l.map f).map List.length) = lpr (fun k => (f k).length) l from fun l => by
    induction l with
    | nil => rfl
    | cons y l ihl => rw [List.map_cons, List.map_cons, lpr, lpr, ihl]]
theorem lpr_congr {f g : Nat → Nat} : ∀ {l : List Nat}, (∀ k, k ∈ l → f k = g k) → lpr f l = lpr g l := by
  intro l
  induction l with
  | nil => intro _; rfl
  | cons x l ih => intro h; rw [lpr, lpr, h x List.mem_cons_self, ih (fun k hk => h k (List.mem_cons_of_mem _ hk))]
theorem eq_likely {a c b : Int → Int} (h : StE a c (fa b)) (s low : Int) : (if 0 ≤ s ∧ s ≤ 255 then md_lik ((md_rw a c s 0).length : Int) (md_all (opL a c s.toNat (2 * pc s + 0).toNat 2)) low else -1) = (if 0 ≤ s ∧ s ≤ 255 then lkv b s.toNat low else -1) := by
  by_cases hr : 0 ≤ s ∧ s ≤ 255
  · have hl := mem_len8 s.toNat
    have hp := pc_mem hr
    rw [if_pos hr, if_pos hr, eq_rw h (by omega)]
    have epl : (2 * pc s + 0).toNat = 2 * (mem s.toNat).length := by omega
    rw [epl]
    have eall : md_all (opL a c s.toNat (2 * (mem s.toNat).length) 2) = ((prd (fa b) s.toNat (2 * (mem s.toNat).length) : Nat) : Int) := by
      refine (md_all_lpr _ (mem s.toNat) (fun k => opl (md_st a c k) (2 * (mem s.toNat).length) 2) rfl).trans ?_
      unfold prd
      refine congrArg Int.ofNat (lpr_congr (fun k hk => ?_))
      rw [opl_len, h k (memN_lt 8 k hk), show (2 - 1) * fa b k = fa b k by omega]
    rw [eall]
    have hle : cn (fa b) s.toNat (2 ^ (2 * (mem s.toNat).length) - 1) ≤ prd (fa b) s.toNat (2 * (mem s.toNat).length) := wg_lpr (by omega) _ _ (by have := Nat.two_pow_pos (2 * (mem s.toNat).length); omega)
    unfold md_lik lkv
    generalize cn (fa b) s.toNat (2 ^ (2 * (mem s.toNat).length) - 1) = u at hle ⊢
    generalize prd (fa b) s.toNat (2 * (mem s.toNat).length) = p at hle ⊢
    rw [Int.toNat_natCast, Int.toNat_natCast]
    by_cases hu : u = 0
    · subst hu
      rw [if_pos rfl]
      by_cases hp0 : p = 0
      · subst hp0; exact if_pos rfl
      · rw [if_neg (by omega), Nat.gcd_zero_left]
        by_cases hl : low = 0
        · rw [if_pos hl, if_pos hl]; exact Int.zero_ediv _
        · rw [if_neg hl, if_neg hl]; exact Int.ediv_self (by omega)
    · rw [if_neg hu, if_neg (by omega), Nat.gcd_comm]
  · rw [if_neg hr, if_neg hr]
