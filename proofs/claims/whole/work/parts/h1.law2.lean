/-! ===== how code is put together ===== -/
theorem crn_snoc (f : Int → Int) (n : Int) (cd : List (Int × Int)) (x : Int × Int) (st : List Int) : crn f n ((cd ++ [x]).map mp) st = (crn f n (cd.map mp) st).bind (cst1 f n (mp x)) := by
  rw [List.map_append, crn_app]
  congr 1
  funext r
  show (cst1 f n (mp x) r).bind some = cst1 f n (mp x) r
  cases cst1 f n (mp x) r <;> rfl
theorem evL_snoc (a nm : Int → Int) (cd : List (Int × Int)) (x : Int × Int) (V : Int → Int) (n : Int) (B : Int → Int) (t : Int) : evL a nm (cd ++ [x]) V n B t = (stV a nm x.1 x.2 (evL a nm cd V n B t).1 (dNl cd n) (evL a nm cd V n B t).2 (dTl cd t), stB x.1 (evL a nm cd V n B t).1 (dNl cd n) (evL a nm cd V n B t).2 (dTl cd t)) := by
  rw [evL_app]
  rfl
theorem mem_snoc {cd : List (Int × Int)} {x : Int × Int} (h : ∀ y ∈ cd, 0 ≤ mp y ∧ mp y ≤ 10099) (hx : 0 ≤ mp x ∧ mp x ≤ 10099) : ∀ y ∈ cd ++ [x], 0 ≤ mp y ∧ mp y ≤ 10099 := fun y hy => by
  rcases List.mem_append.mp hy with q | q
  · exact h y q
  · rw [List.mem_singleton.mp q]; exact hx
theorem KC.num {s v : Int} (hv : 0 ≤ v ∧ v ≤ 9999) : KC s false [(0, v)] := by
  have em : mp (0, v) = 100 + v := rfl
  have ec : ∀ f n st, crn f n ([((0 : Int), v)].map mp) st = some (v :: st) := fun f n st => by
    show (cst1 f n (mp (0, v)) st).bind some = _
    rw [em]
    unfold cst1
    rw [if_pos (by omega), show 100 + v - 100 = v by omega]
    rfl
  refine ⟨fun x hx => ?_, fun f n st => ⟨v, ec f n st⟩, fun n t hn ht k1 k2 => ?_, fun n => rfl, fun t => ?_, fun f a nb hr st V n B t hn ht => ⟨v, ?_, ec f nb st, ?_, ?_, ?_⟩⟩
  · rw [List.mem_singleton.mp hx, em]; omega
  · have k1 : n + 1 ≤ 329 := k1
    have k2 : t + 1 ≤ 329 := k2
    exact ⟨⟨by omega, by omega, Or.inl ⟨rfl, hv⟩⟩, trivial⟩
  · show t = t + 0; omega
  · show -1000000 ≤ v ∧ v ≤ 1000000; omega
  · show up V n v n = v; rw [up_s]
  · intro j hj
    show up V n v j = V j
    rw [up_n (by omega)]
  · intro j hj; rfl
theorem cK_B {v : Int} : 8 ≤ cK v ∧ cK v ≤ 14 := by
  unfold cK
  repeat' split
  all_goals omega
theorem KC.name {s v : Int} (hv : 0 ≤ v ∧ v ≤ 6) (ho : ofN s v) : KC s false [(1, v)] := by
  have em : mp (1, v) = cK v := rfl
  have hc := cK_B (v := v)
  have ec : ∀ f n st, crn f n ([((1 : Int), v)].map mp) st = some (cnm f n (cK v) :: st) := fun f n st => by
    show (cst1 f n (mp (1, v)) st).bind some = _
    rw [em]
    unfold cst1
    rw [if_neg (by omega), if_pos hc]
    rfl
  refine ⟨fun x hx => ?_, fun f n st => ⟨_, ec f n st⟩, fun n t hn ht k1 k2 => ?_, fun n => rfl, fun t => ?_, fun f a nb hr st V n B t hn ht => ⟨cnm f nb (cK v), ?_, ec f nb st, ?_, ?_, ?_⟩⟩
  · rw [List.mem_singleton.mp hx, em]; omega
  · have k1 : n + 1 ≤ 329 := k1
    have k2 : t + 1 ≤ 329 := k2
    exact ⟨⟨by omega, by omega, Or.inr (Or.inl ⟨rfl, hv⟩)⟩, trivial⟩
  · show t = t + 0; omega
  · have := hr.1 v hv ho
    rw [this.1]
    exact this.2
  · show up V n (md_nm a (nb - 1) v) n = _
    rw [up_s]; exact (hr.1 v hv ho).1.symm
  · intro j hj
    show up V n (md_nm a (nb - 1) v) j = V j
    rw [up_n (by omega)]
  · intro j hj; rfl
theorem one_eq {s : Int} {f a : Int → Int} {nb : Int} (hr : Rl s f a nb) {o : Int} (ho : o = 2 ∨ o = 4 ∨ o = 5) (v : Int) : cw1 f (moK o) v = oneI a o v := by
  rcases ho with rfl | rfl | rfl
  · show jb (rw_holds f v) = jb ((1 ≤ v ∧ v ≤ 8) ∧ md_stands a (v - 1))
    exact jb_iff (hr.2.1 v)
  · show jb ((0 ≤ v ∧ v < f 0) ∧ f 4 / 2 ^ v.toNat % 2 = 0) = jb ((0 ≤ v ∧ v < a 7) ∧ ¬ md_taken a / 2 ^ v.toNat % 2 = 1)
    exact jb_iff (hr.2.2 v)
  · rfl
theorem KC.one {s o : Int} {cd : List (Int × Int)} (h : KC s false cd) (ho : o = 2 ∨ o = 4 ∨ o = 5) : KC s false (cd ++ [(o, 0)]) := by
  have em : mp (o, 0) = moK o := by rcases ho with rfl | rfl | rfl <;> rfl
  have hm : moK o = 15 ∨ moK o = 16 ∨ moK o = 51 := by rcases ho with rfl | rfl | rfl <;> decide
  have hl := h.len
  have ec : ∀ f n st st' v, crn f n (cd.map mp) st = some (v :: st') → crn f n ((cd ++ [(o, 0)]).map mp) st = some (cw1 f (moK o) v :: st') := fun f n st st' v e => by
    rw [crn_snoc, e, em]
    show cst1 f n (moK o) (v :: st') = _
    unfold cst1
    rw [if_neg (by omega), if_neg (by omega), if_neg (by omega), if_pos (by unfold onS; omega)]
  have dn : ∀ n, dpN o n = n := fun n => by rcases ho with rfl | rfl | rfl <;> rfl
  have dt : ∀ n, dpT o n = n := fun n => by rcases ho with rfl | rfl | rfl <;> rfl
  have sv : ∀ a nm V n B t, stV a nm o 0 V n B t = up V (n - 1) (oneI a o (V (n - 1))) := fun a nm V n B t => by rcases ho with rfl | rfl | rfl <;> rfl
  have sb : ∀ V n B t, stB o V n B t = B := fun V n B t => by rcases ho with rfl | rfl | rfl <;> rfl
  have q1 : dvB false = 1 := rfl
  have q2 : dbB false = 0 := rfl
  refine ⟨mem_snoc h.1 (by rw [em]; omega), fun f n st => ?_, fun n t hn ht k1 k2 => ?_, fun n => ?_, fun t => ?_, fun f a nb hr st V n B t hn ht => ?_⟩
  · obtain ⟨v, e⟩ := h.2.1 f n st
    exact ⟨_, ec f n st st v e⟩
  · rw [List.length_append] at k1 k2
    have k1 : n + ((cd.length + 1 : Nat) : Int) ≤ 329 := k1
    have k2 : t + ((cd.length + 1 : Nat) : Int) ≤ 329 := k2
    refine (okS_app cd _ n t).mpr ⟨h.2.2.1 n t hn ht (by omega) (by omega), ?_, trivial⟩
    rw [h.2.2.2.1, h.2.2.2.2.1]
    exact ⟨by omega, by omega, Or.inr (Or.inr (Or.inr (Or.inl ⟨by omega, by omega⟩)))⟩
  · rw [dNl_app, h.2.2.2.1]; exact dn _
  · rw [dTl_app, h.2.2.2.2.1]; exact dt _
  · obtain ⟨v, d1, e1, r1, f1⟩ := h.2.2.2.2.2 f a nb hr st V n B t hn ht
    have d1 : -1000000 ≤ v ∧ v ≤ 1000000 := d1
    have r1 : (evL a (md_nm a (nb - 1)) cd V n B t).1 n = v := r1
    have ee := evL_snoc a (md_nm a (nb - 1)) cd (o, 0) V n B t
    rw [h.2.2.2.1, h.2.2.2.2.1, sv, sb, q1, show n + 1 - 1 = n by omega, r1] at ee
    refine ⟨cw1 f (moK o) v, ?_, ec f nb st st v e1, ?_, ?_⟩
    · rw [one_eq hr ho]; exact oneI_B d1
    · rw [ee, one_eq hr ho]
      show up _ n _ n = _
      rw [up_s]
    · rw [ee]
      exact ⟨fun j hj => (up_n (by omega)).trans (f1.1 j hj), fun j hj => f1.2 j hj⟩
theorem KC.no {s : Int} {cd : List (Int × Int)} (h : KC s true cd) : KC s true (cd ++ [(20, 0)]) := by
  have em : mp (20, 0) = 23 := rfl
  have hl := h.len
  have ec : ∀ f n st st' v, crn f n (cd.map mp) st = some (v :: st') → crn f n ((cd ++ [(20, 0)]).map mp) st = some (jb (v = 0) :: st') := fun f n st st' v e => by
    rw [crn_snoc, e, em]
    rfl
  have q1 : dvB true = 0 := rfl
  have q2 : dbB true = 1 := rfl
  refine ⟨mem_snoc h.1 (by rw [em]; omega), fun f n st => ?_, fun n t hn ht k1 k2 => ?_, fun n => ?_, fun t => ?_, fun f a nb hr st V n B t hn ht => ?_⟩
  · obtain ⟨v, e⟩ := h.2.1 f n st
    exact ⟨_, ec f n st st v e⟩
  · rw [List.length_append] at k1 k2
    have k1 : n + ((cd.length + 1 : Nat) : Int) ≤ 329 := k1
    have k2 : t + ((cd.length + 1 : Nat) : Int) ≤ 329 := k2
    refine (okS_app cd _ n t).mpr ⟨h.2.2.1 n t hn ht (by omega) (by omega), ?_, trivial⟩
    rw [h.2.2.2.1, h.2.2.2.2.1]
    exact ⟨by omega, by omega, Or.inr (Or.inr (Or.inr (Or.inr (Or.inr (Or.inr (Or.inl ⟨rfl, by omega⟩))))))⟩
  · rw [dNl_app, h.2.2.2.1]; rfl
  · rw [dTl_app, h.2.2.2.2.1]; rfl
  · obtain ⟨v, d1, e1, r1, f1⟩ := h.2.2.2.2.2 f a nb hr st V n B t hn ht
    have r1 : (evL a (md_nm a (nb - 1)) cd V n B t).2 t = v := r1
    have ee := evL_snoc a (md_nm a (nb - 1)) cd (20, 0) V n B t
    have sv : ∀ V n B t, stV a (md_nm a (nb - 1)) 20 0 V n B t = V := fun V n B t => rfl
    have sb : ∀ V n B t, stB 20 V n B t = up B (t - 1) (jb (B (t - 1) = 0)) := fun V n B t => rfl
    rw [h.2.2.2.1, h.2.2.2.2.1, sv, sb, q2, show t + 1 - 1 = t by omega, r1] at ee
    refine ⟨jb (v = 0), ?_, ec f nb st st v e1, ?_, ?_⟩
    · show jb (v = 0) = 0 ∨ jb (v = 0) = 1
      unfold jb
      split
      · exact Or.inr rfl
      · exact Or.inl rfl
    · rw [ee]
      show up _ t _ t = _
      rw [up_s]
    · rw [ee]
      exact ⟨fun j hj => f1.1 j hj, fun j hj => (up_n (by omega)).trans (f1.2 j hj)⟩
theorem held_clip (z : Int) : heldI z (-1000000) 1000000 = clipI z := by
  unfold heldI clipI
  by_cases q : z < -1000000
  · rw [if_pos q, if_neg (show ¬ 1000000 < z by omega), if_pos q]
  · rw [if_neg q]
    by_cases r : 1000000 < z
    · rw [if_pos r, if_pos r]
    · rw [if_neg r, if_neg r, if_neg q]
theorem clip_B (z : Int) : -1000000 ≤ clipI z ∧ clipI z ≤ 1000000 := by
  unfold clipI
  repeat' split
  all_goals omega
theorem two_eq {o x y : Int} (ho : 6 ≤ o ∧ o ≤ 9) (hx : -1000000 ≤ x ∧ x ≤ 1000000) : cw2 (moK o) x y = twoI o x y ∧ -1000000 ≤ twoI o x y ∧ twoI o x y ≤ 1000000 := by
  rcases (show o = 6 ∨ o = 7 ∨ o = 8 ∨ o = 9 by omega) with rfl | rfl | rfl | rfl
  · rw [show moK 6 = 34 from rfl]
    unfold cw2 twoI
    rw [if_pos rfl, if_pos rfl, held_clip]
    exact ⟨rfl, clip_B _⟩
  · rw [show moK 7 = 35 from rfl]
    unfold cw2 twoI
    rw [if_neg (by decide), if_pos rfl, if_neg (by decide), if_pos rfl, held_clip]
    exact ⟨rfl, clip_B _⟩
  · rw [show moK 8 = 36 from rfl]
    unfold cw2 twoI
    rw [if_neg (by decide), if_neg (by decide), if_pos rfl, if_neg (by decide), if_neg (by decide), if_pos rfl, held_clip]
    exact ⟨rfl, clip_B _⟩
  · rw [show moK 9 = 37 from rfl]
    unfold cw2 twoI
    rw [if_neg (show ¬ (37 : Int) = 34 by decide), if_neg (show ¬ (37 : Int) = 35 by decide), if_neg (show ¬ (37 : Int) = 36 by decide), if_pos (show (37 : Int) = 37 from rfl), if_neg (show ¬ (9 : Int) = 6 by decide), if_neg (show ¬ (9 : Int) = 7 by decide), if_neg (show ¬ (9 : Int) = 8 by decide)]
    by_cases q : y = 0
    · rw [if_pos q, if_pos q]; exact ⟨rfl, by omega, by omega⟩
    · rw [if_neg q, if_neg q]
      have hd : (x.tdiv y).natAbs ≤ x.natAbs := by rw [Int.natAbs_tdiv]; exact Nat.div_le_self _ _
      have : clipI (x.tdiv y) = x.tdiv y := by
        unfold clipI
        rw [if_neg (by omega), if_neg (by omega)]
      rw [this]
      exact ⟨rfl, by omega, by omega⟩
theorem ask_eq {o x y : Int} (ho : 10 ≤ o ∧ o ≤ 15) : cw2 (moK o) x y = jb (askI o x y) := by
  rcases (show o = 10 ∨ o = 11 ∨ o = 12 ∨ o = 13 ∨ o = 14 ∨ o = 15 by omega) with rfl | rfl | rfl | rfl | rfl | rfl
  · show jb (decide (x < y) = true) = _
    exact jb_iff (by unfold askI; rw [decide_eq_true_iff]; omega)
  · show jb (decide (x ≤ y) = true) = _
    exact jb_iff (by unfold askI; rw [decide_eq_true_iff]; omega)
  · show jb (decide (y < x) = true) = _
    exact jb_iff (by unfold askI; rw [decide_eq_true_iff]; omega)
  · show jb (decide (y ≤ x) = true) = _
    exact jb_iff (by unfold askI; rw [decide_eq_true_iff]; omega)
  · show jb (decide (x = y) = true) = _
    exact jb_iff (by unfold askI; rw [decide_eq_true_iff]; omega)
  · show jb (decide (¬ x = y) = true) = _
    exact jb_iff (by unfold askI; rw [decide_eq_true_iff]; omega)
theorem join_eq {o x y : Int} (ho : o = 21 ∨ o = 22) : cw2 (moK o) x y = jb (joinI o x y) := by
  rcases ho with rfl | rfl
  · show jb (decide (¬ x = 0 ∧ ¬ y = 0) = true) = _
    exact jb_iff (by unfold joinI; rw [decide_eq_true_iff]; omega)
  · show jb (decide (¬ x = 0 ∨ ¬ y = 0) = true) = _
    exact jb_iff (by unfold joinI; rw [decide_eq_true_iff]; omega)
/-- an operation on two -/
theorem KD.op {s o : Int} {b b' : Bool} {cd : List (Int × Int)} (h : KD s b cd) (em : mp (o, 0) = moK o) (hm : (30 ≤ moK o ∧ moK o ≤ 42) ∨ moK o = 21 ∨ moK o = 22)
    (hpre : ∀ n t : Int, (0 ≤ n ∧ n < 330) → (0 ≤ t ∧ t < 330) → 2 * dvB b ≤ n → 2 * dbB b ≤ t → preO o 0 n t)
    (dn : ∀ n, dpN o n = n - 2 * dvB b + dvB b') (dt : ∀ t, dpT o t = t - 2 * dbB b + dbB b')
    (hop : ∀ a nm V n B t v w, domB b v → domB b w → rsB b (V, B) n t = v → rsB b (V, B) (n + dvB b) (t + dbB b) = w → domB b' (cw2 (moK o) v w) ∧ rsB b' (stV a nm o 0 V (n + 2 * dvB b) B (t + 2 * dbB b), stB o V (n + 2 * dvB b) B (t + 2 * dbB b)) n t = cw2 (moK o) v w ∧ frB V n B t (stV a nm o 0 V (n + 2 * dvB b) B (t + 2 * dbB b), stB o V (n + 2 * dvB b) B (t + 2 * dbB b))) : KC s b' (cd ++ [(o, 0)]) := by
  have hb := dvb b
  have hb' := dvb b'
  have hl := h.2.2.2.2.2.1
  have ec : ∀ f n st st' v w, crn f n (cd.map mp) st = some (w :: v :: st') → crn f n ((cd ++ [(o, 0)]).map mp) st = some (cw2 (moK o) v w :: st') := fun f n st st' v w e => by
    rw [crn_snoc, e, em]
    show cst1 f n (moK o) (w :: v :: st') = _
    unfold cst1
    rw [if_neg (by omega), if_neg (by omega), if_neg (by omega), if_neg (by unfold onS; omega)]
  refine ⟨mem_snoc h.1 (by rw [em]; omega), fun f n st => ?_, fun n t hn ht k1 k2 => ?_, fun n => ?_, fun t => ?_, fun f a nb hr st V n B t hn ht => ?_⟩
  · obtain ⟨v, w, e⟩ := h.2.1 f n st
    exact ⟨_, ec f n st st v w e⟩
  · rw [List.length_append] at k1 k2
    have k1 : n + ((cd.length + 1 : Nat) : Int) ≤ 329 := k1
    have k2 : t + ((cd.length + 1 : Nat) : Int) ≤ 329 := k2
    refine (okS_app cd _ n t).mpr ⟨h.2.2.1 n t hn ht (by omega) (by omega), ?_, trivial⟩
    rw [h.2.2.2.1, h.2.2.2.2.1]
    exact hpre _ _ (by omega) (by omega) (by omega) (by omega)
  · rw [dNl_app, h.2.2.2.1]
    show dpN o (n + 2 * dvB b) = _
    rw [dn]; omega
  · rw [dTl_app, h.2.2.2.2.1]
    show dpT o (t + 2 * dbB b) = _
    rw [dt]; omega
  · obtain ⟨v, w, d1, d2, e1, r1, r2, f1⟩ := h.2.2.2.2.2.2 f a nb hr st V n B t hn ht
    have ee := evL_snoc a (md_nm a (nb - 1)) cd (o, 0) V n B t
    rw [h.2.2.2.1, h.2.2.2.2.1] at ee
    have hh := hop a (md_nm a (nb - 1)) (evL a (md_nm a (nb - 1)) cd V n B t).1 n (evL a (md_nm a (nb - 1)) cd V n B t).2 t v w d1 d2 r1 r2
    refine ⟨cw2 (moK o) v w, hh.1, ec f nb st st v w e1, ?_, ?_⟩
    · rw [ee]; exact hh.2.1
    · rw [ee]
      exact ⟨fun j hj => (hh.2.2.1 j hj).trans (f1.1 j hj), fun j hj => (hh.2.2.2 j hj).trans (f1.2 j hj)⟩
theorem KD.ar {s o : Int} {cd : List (Int × Int)} (h : KD s false cd) (ho : 6 ≤ o ∧ o ≤ 9) : KC s false (cd ++ [(o, 0)]) := by
  have ho' : o = 6 ∨ o = 7 ∨ o = 8 ∨ o = 9 := by omega
  have em : mp (o, 0) = moK o := by rcases ho' with rfl | rfl | rfl | rfl <;> rfl
  have sv : ∀ a nm V n B t, stV a nm o 0 V n B t = up V (n - 2) (twoI o (V (n - 2)) (V (n - 1))) := fun a nm V n B t => by rcases ho' with rfl | rfl | rfl | rfl <;> rfl
  have sb : ∀ V n B t, stB o V n B t = B := fun V n B t => by rcases ho' with rfl | rfl | rfl | rfl <;> rfl
  have q1 : dvB false = 1 := rfl
  have q2 : dbB false = 0 := rfl
  refine h.op em ?_ (fun n t hn ht k1 k2 => ⟨hn, ht, Or.inr (Or.inr (Or.inr (Or.inr (Or.inl ⟨ho.1, ho.2, by omega⟩))))⟩) (fun n => ?_) (fun t => ?_) (fun a nm V n B t v w d1 d2 r1 r2 => ?_)
  · rcases ho' with rfl | rfl | rfl | rfl <;> decide
  · rw [q1, show dpN o n = n - 1 from by rcases ho' with rfl | rfl | rfl | rfl <;> rfl]; omega
  · rw [q2, show dpT o t = t from by rcases ho' with rfl | rfl | rfl | rfl <;> rfl]; omega
  · have d1 : -1000000 ≤ v ∧ v ≤ 1000000 := d1
    have r1 : V n = v := r1
    have r2 : V (n + dvB false) = w := r2
    rw [q1] at r2
    have h2 := two_eq (o := o) (x := v) (y := w) ho d1
    rw [sv, sb, q1, show n + 2 * 1 - 2 = n by omega, show n + 2 * 1 - 1 = n + 1 by omega, r1, r2]
    refine ⟨?_, ?_, fun j hj => up_n (by omega), fun j hj => rfl⟩
    · rw [h2.1]; exact h2.2
    · rw [h2.1]; exact up_s _ _ _
theorem KD.cm {s o : Int} {cd : List (Int × Int)} (h : KD s false cd) (ho : 10 ≤ o ∧ o ≤ 15) : KC s true (cd ++ [(o, 0)]) := by
  have ho' : o = 10 ∨ o = 11 ∨ o = 12 ∨ o = 13 ∨ o = 14 ∨ o = 15 := by omega
  have em : mp (o, 0) = moK o := by rcases ho' with rfl | rfl | rfl | rfl | rfl | rfl <;> rfl
  have sv : ∀ a nm V n B t, stV a nm o 0 V n B t = V := fun a nm V n B t => by rcases ho' with rfl | rfl | rfl | rfl | rfl | rfl <;> rfl
  have sb : ∀ V n B t, stB o V n B t = up B t (jb (askI o (V (n - 2)) (V (n - 1)))) := fun V n B t => by
    unfold stB
    rw [if_neg (by omega), if_pos (by omega)]
  have q1 : dvB false = 1 := rfl
  have q2 : dbB false = 0 := rfl
  have q3 : dvB true = 0 := rfl
  have q4 : dbB true = 1 := rfl
  refine h.op em ?_ (fun n t hn ht k1 k2 => ⟨hn, ht, Or.inr (Or.inr (Or.inr (Or.inr (Or.inr (Or.inl ⟨ho.1, ho.2, by omega⟩)))))⟩) (fun n => ?_) (fun t => ?_) (fun a nm V n B t v w d1 d2 r1 r2 => ?_)
  · rcases ho' with rfl | rfl | rfl | rfl | rfl | rfl <;> decide
  · rw [q1, q3, show dpN o n = n - 2 from by rcases ho' with rfl | rfl | rfl | rfl | rfl | rfl <;> rfl]; omega
  · rw [q2, q4, show dpT o t = t + 1 from by rcases ho' with rfl | rfl | rfl | rfl | rfl | rfl <;> rfl]; omega
  · have r1 : V n = v := r1
    have r2 : V (n + dvB false) = w := r2
    rw [q1] at r2
    rw [sv, sb, q1, q2, show n + 2 * 1 - 2 = n by omega, show n + 2 * 1 - 1 = n + 1 by omega, show t + 2 * 0 = t by omega, r1, r2, ask_eq ho]
    exact ⟨jb_01 _, up_s _ _ _, fun j hj => rfl, fun j hj => up_n (by omega)⟩
theorem KD.jn {s o : Int} {cd : List (Int × Int)} (h : KD s true cd) (ho : o = 21 ∨ o = 22) : KC s true (cd ++ [(o, 0)]) := by
  have em : mp (o, 0) = moK o := by rcases ho with rfl | rfl <;> rfl
  have sv : ∀ a nm V n B t, stV a nm o 0 V n B t = V := fun a nm V n B t => by rcases ho with rfl | rfl <;> rfl
  have sb : ∀ V n B t, stB o V n B t = up B (t - 2) (jb (joinI o (B (t - 2)) (B (t - 1)))) := fun V n B t => by rcases ho with rfl | rfl <;> rfl
  have q3 : dvB true = 0 := rfl
  have q4 : dbB true = 1 := rfl
  refine h.op em ?_ (fun n t hn ht k1 k2 => ⟨hn, ht, Or.inr (Or.inr (Or.inr (Or.inr (Or.inr (Or.inr (Or.inr ⟨ho, by omega⟩))))))⟩) (fun n => ?_) (fun t => ?_) (fun a nm V n B t v w d1 d2 r1 r2 => ?_)
  · rcases ho with rfl | rfl <;> decide
  · rw [q3, show dpN o n = n from by rcases ho with rfl | rfl <;> rfl]; omega
  · rw [q4, show dpT o t = t - 1 from by rcases ho with rfl | rfl <;> rfl]; omega
  · have r1 : B t = v := r1
    have r2 : B (t + dbB true) = w := r2
    rw [q4] at r2
    rw [sv, sb, q4, show t + 2 * 1 - 2 = t by omega, show t + 2 * 1 - 1 = t + 1 by omega, r1, r2, join_eq ho]
    exact ⟨jb_01 _, up_s _ _ _, fun j hj => rfl, fun j hj => up_n (by omega)⟩
theorem KC.sel {s : Int} {c1 c2 : List (Int × Int)} (h1 : KC s true c1) (h2 : KD s false c2) : KC s false (c1 ++ c2 ++ [(3, 0)]) := by
  have em : mp (3, 0) = 50 := rfl
  have l1 := h1.len
  have l2 := h2.2.2.2.2.2.1
  have q1 : dvB false = 1 := rfl
  have q2 : dbB false = 0 := rfl
  have q3 : dvB true = 0 := rfl
  have q4 : dbB true = 1 := rfl
  have ec : ∀ f n st u v w, crn f n (c1.map mp) st = some (u :: st) → crn f n (c2.map mp) (u :: st) = some (w :: v :: u :: st) → crn f n ((c1 ++ c2 ++ [(3, 0)]).map mp) st = some ((if u = 0 then w else v) :: st) := fun f n st u v w e1 e2 => by
    rw [crn_snoc, List.map_append, crn_app, e1]
    show ((crn f n (c2.map mp) (u :: st)).bind (cst1 f n (mp (3, 0)))) = _
    rw [e2, em]
    rfl
  have dn : ∀ n, dNl (c1 ++ c2) n = n + 2 := fun n => by rw [dNl_app, h1.2.2.2.1, h2.2.2.2.1]; omega
  have dt : ∀ t, dTl (c1 ++ c2) t = t + 1 := fun t => by rw [dTl_app, h1.2.2.2.2.1, h2.2.2.2.2.1]; omega
  refine ⟨mem_snoc (fun x hx => ?_) (by rw [em]; omega), fun f n st => ?_, fun n t hn ht k1 k2 => ?_, fun n => ?_, fun t => ?_, fun f a nb hr st V n B t hn ht => ?_⟩
  · rcases List.mem_append.mp hx with q | q
    · exact h1.1 x q
    · exact h2.1 x q
  · obtain ⟨u, e1⟩ := h1.2.1 f n st
    obtain ⟨v, w, e2⟩ := h2.2.1 f n (u :: st)
    exact ⟨_, ec f n st u v w e1 e2⟩
  · rw [List.length_append, List.length_append] at k1 k2
    have k1 : n + ((c1.length + c2.length + 1 : Nat) : Int) ≤ 329 := k1
    have k2 : t + ((c1.length + c2.length + 1 : Nat) : Int) ≤ 329 := k2
    refine (okS_app _ _ n t).mpr ⟨(okS_app _ _ n t).mpr ⟨h1.2.2.1 n t hn ht (by omega) (by omega), ?_⟩, ?_, trivial⟩
    · rw [h1.2.2.2.1, h1.2.2.2.2.1]
      exact h2.2.2.1 _ _ (by omega) (by omega) (by omega) (by omega)
    · rw [dn, dt]
      exact ⟨by omega, by omega, Or.inr (Or.inr (Or.inl ⟨rfl, by omega, by omega⟩))⟩
  · rw [dNl_app, dn]
    show n + 2 - 1 = _
    omega
  · rw [dTl_app, dt]
    show t + 1 - 1 = _
    omega
  · obtain ⟨u, d0, e0, r0, f0⟩ := h1.2.2.2.2.2 f a nb hr st V n B t hn ht
    obtain ⟨v, w, d1, d2, e1, r1, r2, f1⟩ := h2.2.2.2.2.2.2 f a nb hr (u :: st) (evL a (md_nm a (nb - 1)) c1 V n B t).1 n (evL a (md_nm a (nb - 1)) c1 V n B t).2 (t + 1) hn (by omega)
    have e12 : evL a (md_nm a (nb - 1)) (c1 ++ c2) V n B t = evL a (md_nm a (nb - 1)) c2 (evL a (md_nm a (nb - 1)) c1 V n B t).1 n (evL a (md_nm a (nb - 1)) c1 V n B t).2 (t + 1) := by
      rw [evL_app, h1.2.2.2.1, h1.2.2.2.2.1, q3, q4, show n + 0 = n by omega]
    have ee := evL_snoc a (md_nm a (nb - 1)) (c1 ++ c2) (3, 0) V n B t
    rw [dn, dt, e12] at ee
    have r0 : (evL a (md_nm a (nb - 1)) c1 V n B t).2 t = u := r0
    have sv : ∀ V n B t, stV a (md_nm a (nb - 1)) 3 0 V n B t = if B (t - 1) = 0 then up V (n - 2) (V (n - 1)) else V := fun V n B t => rfl
    have sb : ∀ V n B t, stB 3 V n B t = B := fun V n B t => rfl
    rw [sv, sb, show t + 1 - 1 = t by omega, f1.2 t (by omega), r0, show n + 2 - 2 = n by omega, show n + 2 - 1 = n + 1 by omega] at ee
    have r1 : (evL a (md_nm a (nb - 1)) c2 (evL a (md_nm a (nb - 1)) c1 V n B t).1 n (evL a (md_nm a (nb - 1)) c1 V n B t).2 (t + 1)).1 n = v := r1
    have r2 : (evL a (md_nm a (nb - 1)) c2 (evL a (md_nm a (nb - 1)) c1 V n B t).1 n (evL a (md_nm a (nb - 1)) c1 V n B t).2 (t + 1)).1 (n + dvB false) = w := r2
    rw [q1] at r2
    refine ⟨if u = 0 then w else v, ?_, ec f nb st u v w e0 e1, ?_, ?_⟩
    · show -1000000 ≤ (if u = 0 then w else v) ∧ (if u = 0 then w else v) ≤ 1000000
      have d1 : -1000000 ≤ v ∧ v ≤ 1000000 := d1
      have d2 : -1000000 ≤ w ∧ w ≤ 1000000 := d2
      split
      · exact d2
      · exact d1
    · rw [ee]
      show (if u = 0 then up _ n _ else _) n = _
      by_cases z : u = 0
      · rw [if_pos z, if_pos z, up_s]; exact r2
      · rw [if_neg z, if_neg z]; exact r1
    · rw [ee]
      refine ⟨fun j hj => ?_, fun j hj => (f1.2 j (by omega)).trans (f0.2 j hj)⟩
      show (if u = 0 then up _ n _ else _) j = _
      by_cases z : u = 0
      · rw [if_pos z, up_n (by omega)]; exact (f1.1 j hj).trans (f0.1 j hj)
      · rw [if_neg z]; exact (f1.1 j hj).trans (f0.1 j hj)
