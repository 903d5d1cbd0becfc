/-! the postfix code of a law: ops c (b + 2 i), values c (b + 2 i + 1) -/
def dpN (o n : Int) : Int := if o ≤ 1 then n + 1 else if o = 3 then n - 1 else if o ≤ 5 then n else if o < 10 then n - 1 else if o < 20 then n - 2 else n
def dpT (o t : Int) : Int := if o ≤ 1 then t else if o = 3 then t - 1 else if o < 10 then t else if o < 20 then t + 1 else if o = 20 then t else t - 1
abbrev preO (o v n t : Int) : Prop := (0 ≤ n ∧ n < 330) ∧ (0 ≤ t ∧ t < 330) ∧ ((o = 0 ∧ 0 ≤ v ∧ v ≤ 9999) ∨ (o = 1 ∧ 0 ≤ v ∧ v ≤ 6) ∨ (o = 3 ∧ 2 ≤ n ∧ 1 ≤ t) ∨ ((o = 2 ∨ o = 4 ∨ o = 5) ∧ 1 ≤ n) ∨ (6 ≤ o ∧ o ≤ 9 ∧ 2 ≤ n) ∨ (10 ≤ o ∧ o ≤ 15 ∧ 2 ≤ n) ∨ (o = 20 ∧ 1 ≤ t) ∨ ((o = 21 ∨ o = 22) ∧ 2 ≤ t))
def okC (c : Int → Int) (b : Int) : Nat → Int → Int → Int → Prop
  | 0, _, n, t => n = 1 ∧ t = 0
  | m + 1, i, n, t => preO (c (b + 2 * i)) (c (b + 2 * i + 1)) n t ∧ okC c b m (i + 1) (dpN (c (b + 2 * i)) n) (dpT (c (b + 2 * i)) t)
def stV (a nm : Int → Int) (o v : Int) (V : Int → Int) (n : Int) (B : Int → Int) (t : Int) : Int → Int := if o = 0 then up V n v else if o = 1 then up V n (nm v) else if o = 3 then (if B (t - 1) = 0 then up V (n - 2) (V (n - 1)) else V) else if o ≤ 5 then up V (n - 1) (oneI a o (V (n - 1))) else if o < 10 then up V (n - 2) (twoI o (V (n - 2)) (V (n - 1))) else V
def stB (o : Int) (V : Int → Int) (n : Int) (B : Int → Int) (t : Int) : Int → Int := if o < 10 then B else if o < 20 then up B t (jb (askI o (V (n - 2)) (V (n - 1)))) else if o = 20 then up B (t - 1) (jb (B (t - 1) = 0)) else up B (t - 2) (jb (joinI o (B (t - 2)) (B (t - 1))))
def evC (a nm c : Int → Int) (b : Int) : Nat → Int → (Int → Int) → Int → (Int → Int) → Int → Int
  | 0, _, V, _, _, _ => V 0
  | m + 1, i, V, n, B, t => evC a nm c b m (i + 1) (stV a nm (c (b + 2 * i)) (c (b + 2 * i + 1)) V n B t) (dpN (c (b + 2 * i)) n) (stB (c (b + 2 * i)) V n B t) (dpT (c (b + 2 * i)) t)
def VB (V : Int → Int) (n : Int) : Prop := ∀ j, 0 ≤ j ∧ j < n → -1000000 ≤ V j ∧ V j ≤ 1000000
def BB (B : Int → Int) (t : Int) : Prop := ∀ j, 0 ≤ j ∧ j < t → B j = 0 ∨ B j = 1
theorem VB_up {V : Int → Int} {n n' k x : Int} (h : VB V n) (hn : ∀ j, 0 ≤ j ∧ j < n' → ¬ j = k → j < n) (hx : -1000000 ≤ x ∧ x ≤ 1000000) : VB (up V k x) n' := by
  intro j hj
  unfold up
  split
  · exact hx
  · next hne => exact h j ⟨hj.1, hn j hj hne⟩
theorem BB_up {V : Int → Int} {n n' k x : Int} (h : BB V n) (hn : ∀ j, 0 ≤ j ∧ j < n' → ¬ j = k → j < n) (hx : x = 0 ∨ x = 1) : BB (up V k x) n' := by
  intro j hj
  unfold up
  split
  · exact hx
  · next hne => exact h j ⟨hj.1, hn j hj hne⟩
theorem jb_01 (P : Prop) [Decidable P] : jb P = 0 ∨ jb P = 1 := by
  unfold jb
  split
  · exact Or.inr rfl
  · exact Or.inl rfl
theorem stV_3 {a nm : Int → Int} {v : Int} {V : Int → Int} {n : Int} {B : Int → Int} {t : Int} : stV a nm 3 v V n B t = if B (t - 1) = 0 then up V (n - 2) (V (n - 1)) else V := by
  unfold stV
  rw [if_neg (by decide), if_neg (by decide), if_pos rfl]
theorem st_VB {a nm : Int → Int} (hnm : ∀ v, 0 ≤ v ∧ v ≤ 6 → -1000000 ≤ nm v ∧ nm v ≤ 1000000) {o v : Int} {V : Int → Int} {n : Int} {B : Int → Int} {t : Int} (hp : preO o v n t) (hV : VB V n) : VB (stV a nm o v V n B t) (dpN o n) := by
  by_cases h3 : o = 3
  · subst h3
    have hp3 : 2 ≤ n := by omega
    have e3 : dpN 3 n = n - 1 := by
      unfold dpN
      rw [if_neg (by decide), if_pos rfl]
    rw [stV_3, e3]
    split
    · exact VB_up hV (by omega) (hV _ (by omega))
    · exact fun j hj => hV j (by omega)
  unfold stV dpN
  rcases hp.2.2 with h | h | h | h | h | h | h | h
  · rw [if_pos h.1, if_pos (by omega)]
    exact VB_up hV (by omega) (by omega)
  · rw [if_neg (by omega), if_pos h.1, if_pos (by omega)]
    exact VB_up hV (by omega) (hnm v (by omega))
  · exact absurd h.1 h3
  · rw [if_neg (by omega), if_neg (by omega), if_neg (by omega), if_pos (by omega), if_neg (by omega), if_neg (by omega), if_pos (by omega)]
    exact VB_up hV (by omega) (oneI_B (hV _ (by omega)))
  · rw [if_neg (by omega), if_neg (by omega), if_neg (by omega), if_neg (by omega), if_pos (by omega), if_neg (by omega), if_neg (by omega), if_neg (by omega), if_pos (by omega)]
    exact VB_up hV (by omega) (twoI_B _ _ _)
  · rw [if_neg (by omega), if_neg (by omega), if_neg (by omega), if_neg (by omega), if_neg (by omega), if_neg (by omega), if_neg (by omega), if_neg (by omega), if_neg (by omega), if_pos (by omega)]
    exact fun j hj => hV j (by omega)
  · rw [if_neg (by omega), if_neg (by omega), if_neg (by omega), if_neg (by omega), if_neg (by omega), if_neg (by omega), if_neg (by omega), if_neg (by omega), if_neg (by omega), if_neg (by omega)]
    exact hV
  · rw [if_neg (by omega), if_neg (by omega), if_neg (by omega), if_neg (by omega), if_neg (by omega), if_neg (by omega), if_neg (by omega), if_neg (by omega), if_neg (by omega), if_neg (by omega)]
    exact hV
theorem st_BB {o v : Int} {V : Int → Int} {n : Int} {B : Int → Int} {t : Int} (hp : preO o v n t) (hB : BB B t) : BB (stB o V n B t) (dpT o t) := by
  unfold stB dpT
  rcases hp.2.2 with h | h | h | h | h | h | h | h
  · rw [if_pos (by omega), if_pos (by omega)]; exact hB
  · rw [if_pos (by omega), if_pos (by omega)]; exact hB
  · rw [if_pos (by omega), if_neg (by omega), if_pos h.1]; exact fun j hj => hB j (by omega)
  · rw [if_pos (by omega), if_neg (by omega), if_neg (by omega), if_pos (by omega)]; exact hB
  · rw [if_pos (by omega), if_neg (by omega), if_neg (by omega), if_pos (by omega)]; exact hB
  · rw [if_neg (by omega), if_pos (by omega), if_neg (by omega), if_neg (by omega), if_neg (by omega), if_pos (by omega)]
    exact BB_up hB (by omega) (jb_01 _)
  · rw [if_neg (by omega), if_neg (by omega), if_pos h.1, if_neg (by omega), if_neg (by omega), if_neg (by omega), if_neg (by omega), if_pos h.1]
    exact BB_up hB (by omega) (jb_01 _)
  · rw [if_neg (by omega), if_neg (by omega), if_neg (by omega), if_neg (by omega), if_neg (by omega), if_neg (by omega), if_neg (by omega), if_neg (by omega)]
    exact BB_up hB (by omega) (jb_01 _)
