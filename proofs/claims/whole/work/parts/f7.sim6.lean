/-! ===== turn and shift side by side ===== -/
theorem rw_places_congr {f g : Int → Int} (h : ∀ j, 6 ≤ j ∧ j < 22 → f j = g j) (s : Int) : rw_places f s = rw_places g s := by
  unfold rw_places
  refine lpF_congr (lo := 1) (hi := 9) (fun k acc hk => ?_) 8 1 0 (by omega) (by omega)
  have e1 := h (5 + k) (by omega)
  have e2 := h (13 + k) (by omega)
  have ep : rw_pair f k = rw_pair g k := by
    unfold rw_pair
    by_cases q : rw_holds f k
    · rw [if_pos q, if_pos (show rw_holds g k from ⟨q.1, by rw [← e1]; exact q.2⟩), e1, e2]
    · rw [if_neg q, if_neg (fun z : rw_holds g k => q ⟨z.1, by rw [e1]; exact z.2⟩)]
  unfold rw_plg
  rw [ep]
theorem RQ.all {f a : Int → Int} (h : RQ f a) (hv : MV a) {φ ψ : Int → Int → Int} (hv' : MV (lpF (mdG φ ψ) 8 0 a)) (hpos : ∀ k, md_stands a k → 0 ≤ φ (a (8 + k)) (a (16 + k))) (hD' : DJ (lpF (mdG φ ψ) 8 0 a)) : RQ (up (lpF (rwG φ ψ) 8 1 f) 4 (rw_places (lpF (rwG φ ψ) 8 1 f) 255)) (lpF (mdG φ ψ) 8 0 a) := by
  obtain ⟨h7, h4, h5, h6, hA, h3, ht, hL, hD, hZ⟩ := id h
  obtain ⟨m1, m2⟩ := mdG_at (φ := φ) (ψ := ψ) 8 0 a rfl (by omega)
  obtain ⟨r1, r2⟩ := rwG_at (φ := φ) (ψ := ψ) 8 1 f rfl (by omega)
  generalize lpF (mdG φ ψ) 8 0 a = a' at hv' hD' m1 m2 ⊢
  generalize lpF (rwG φ ψ) 8 1 f = f1 at r1 r2 ⊢
  have hst : ∀ j, md_stands a' j ↔ md_stands a j := fun j => by
    constructor
    · rintro ⟨u, v⟩
      by_cases q : md_stands a j
      · exact q
      · rw [(m1 j u).1, if_neg (fun z => q z.2)] at v
        exact ⟨u, v⟩
    · intro q
      refine ⟨q.1, ?_⟩
      rw [(m1 j q.1).1, if_pos ⟨q.1.1, q⟩]
      have := hpos j q
      omega
  have hkey : ∀ x : Int, x = md_taken a' → RQ (up f1 4 x) a' := fun x hx => by
    refine ⟨?_, ?_, ?_, ?_, fun k hk => ?_, ?_, ?_, fun q hq => ?_, hD', fun k hk hn => ?_⟩
    · rw [m2 7 (by omega), up_n (by omega), r2 0 (by omega)]; exact h7
    · rw [m2 4 (by omega), up_n (by omega), r2 1 (by omega)]; exact h4
    · rw [m2 5 (by omega), up_n (by omega), r2 2 (by omega)]; exact h5
    · rw [m2 6 (by omega), up_n (by omega), r2 5 (by omega)]; exact h6
    · obtain ⟨e1, e2⟩ := m1 k hk
      obtain ⟨e3, e4⟩ := r1 (k + 1) (by omega)
      have hh := h.holds hv (n := k + 1)
      rw [show k + 1 - 1 = k by omega] at hh
      have hA1 := hA k hk
      rw [up_n (by omega), up_n (by omega), up_n (by omega), m2 (24 + k) (by omega), r2 (22 + k) (by omega)]
      by_cases q : md_stands a k
      · have x1 := e1.trans (if_pos ⟨hk.1, q⟩)
        have x2 := e2.trans (if_pos ⟨hk.1, q⟩)
        have x3 := e3.trans (if_pos ⟨by omega, hh.mpr q⟩)
        have x4 := e4.trans (if_pos ⟨by omega, hh.mpr q⟩)
        rw [show 5 + (k + 1) = 6 + k by omega, show 13 + (k + 1) = 14 + k by omega] at x3 x4
        rw [x1, x2, x3, x4, ← hA1.1, ← hA1.2.1]
        exact ⟨rfl, rfl, hA1.2.2⟩
      · have x1 := e1.trans (if_neg (fun z => q z.2))
        have x2 := e2.trans (if_neg (fun z => q z.2))
        have x3 := e3.trans (if_neg (fun z => q (hh.mp z.2)))
        have x4 := e4.trans (if_neg (fun z => q (hh.mp z.2)))
        rw [show 5 + (k + 1) = 6 + k by omega] at x3
        rw [show 13 + (k + 1) = 14 + k by omega] at x4
        rw [x1, x2, x3, x4]
        exact hA1
    · rw [up_n (by omega), r2 3 (by omega), h3]
      have hb := md_standing_B a
      exact std_ext hb.1 hb.2 (fun i hi => by rw [bt_standing hi, hst])
    · rw [up_s]; exact hx
    · rw [up_n (by omega), r2 5 (by omega)] at hq
      rw [up_n (by omega), r2 _ (by omega), m2 _ (by omega)]
      exact hL q hq
    · rw [m2 (24 + k) (by omega)]
      exact hZ k hk (fun z => hn ((hst k).mpr z))
  have e : rw_places f1 255 = md_taken a' := by
    have := (hkey _ rfl).places_all hv'
    rw [← this]
    exact rw_places_congr (fun j hj => (up_n (by omega)).symm) 255
  exact hkey _ e
theorem tng_G {l : Int} : ∀ (m : Nat) (k : Int) (b : Int → Int), b 7 = l + 1 → k + m = 8 → 0 ≤ k → lpF md_tng m k b = lpF (mdG (fun _ y => l - y) (fun x _ => l - x)) m k b := by
  intro m
  induction m with
  | zero => intro k b _ _ _; rfl
  | succ m ih =>
    intro k b h7 hk h0
    have e : md_tng k b = mdG (fun _ y => l - y) (fun x _ => l - x) k b := by
      unfold md_tng mdG
      rw [h7, show l + 1 - 1 = l by omega]
    show lpF md_tng m (k + 1) (md_tng k b) = lpF (mdG (fun _ y => l - y) (fun x _ => l - x)) m (k + 1) (mdG (fun _ y => l - y) (fun x _ => l - x) k b)
    rw [e]
    refine ih (k + 1) _ ?_ (by omega) (by omega)
    unfold mdG
    split
    · rw [up_n (by omega), up_n (by omega)]; exact h7
    · exact h7
theorem RQ.turn {f a : Int → Int} (h : RQ f a) (hv : MV a) : RQ (rw_turn f) (md_turn a) := by
  have hD := h.2.2.2.2.2.2.2.2.1
  have eG : md_turn a = lpF (mdG (fun _ y => a 7 - 1 - y) (fun x _ => a 7 - 1 - x)) 8 0 a := tng_G (l := a 7 - 1) 8 0 a (by omega) rfl (by omega)
  have hv' : MV (md_turn a) := md_turn_V hv 8 0 rfl (by omega)
  obtain ⟨m1, m2⟩ := mdG_at (φ := fun _ y => a 7 - 1 - y) (ψ := fun x _ => a 7 - 1 - x) 8 0 a rfl (by omega)
  rw [eG] at hv' ⊢
  have hpos : ∀ k, md_stands a k → 0 ≤ a 7 - 1 - a (16 + k) := fun k hs => by
    have h1 := hv.at hs.1
    have h2 := h1.2.2.1 (by have := hs.2; omega)
    omega
  have := h.all hv hv' hpos (fun k l u v w => by
    have hst : ∀ j, md_stands (lpF (mdG (fun _ y => a 7 - 1 - y) (fun x _ => a 7 - 1 - x)) 8 0 a) j → md_stands a j := fun j q => by
      by_cases z : md_stands a j
      · exact z
      · have := q.2
        rw [(m1 j q.1).1, if_neg (fun y => z y.2)] at this
        exact ⟨q.1, this⟩
    have u1 := hst k u
    have v1 := hst l v
    rw [(m1 k u.1).1.trans (if_pos ⟨u.1.1, u1⟩), (m1 k u.1).2.trans (if_pos ⟨u.1.1, u1⟩), (m1 l v.1).1.trans (if_pos ⟨v.1.1, v1⟩), (m1 l v.1).2.trans (if_pos ⟨v.1.1, v1⟩)]
    have d1 := hD k l u1 v1 w
    have d2 := hD l k v1 u1 (fun e => w e.symm)
    omega)
  unfold rw_turn
  rw [← h.1]
  exact this
theorem RQ.move {f a : Int → Int} (h : RQ f a) (hv : MV a) {b : Int} (hc : CA a b 0) (hv' : MV (lpF (md_mvg b) 8 0 a)) : RQ (rw_move f b) (lpF (md_mvg b) 8 0 a) := by
  have hD := h.2.2.2.2.2.2.2.2.1
  have eG : lpF (md_mvg b) 8 0 a = lpF (mdG (fun x _ => x + b) (fun _ y => y + b)) 8 0 a := rfl
  have eR : rw_move f b = up (lpF (rwG (fun x _ => x + b) (fun _ y => y + b)) 8 1 f) 4 (rw_places (lpF (rwG (fun x _ => x + b) (fun _ y => y + b)) 8 1 f) 255) := rfl
  obtain ⟨m1, m2⟩ := mdG_at (φ := fun x _ => x + b) (ψ := fun _ y => y + b) 8 0 a rfl (by omega)
  rw [eG] at hv' ⊢
  rw [eR]
  have hpos : ∀ k, md_stands a k → 0 ≤ a (8 + k) + b := fun k hs => by
    have h1 := hv.at hs.1
    exact (hc k ⟨hs.1.1, hs.1.2⟩ (by have := hs.2; omega)).1
  exact h.all hv hv' hpos (fun k l u v w => by
    have hst : ∀ j, md_stands (lpF (mdG (fun x _ => x + b) (fun _ y => y + b)) 8 0 a) j → md_stands a j := fun j q => by
      by_cases z : md_stands a j
      · exact z
      · have := q.2
        rw [(m1 j q.1).1, if_neg (fun y => z y.2)] at this
        exact ⟨q.1, this⟩
    have u1 := hst k u
    have v1 := hst l v
    rw [(m1 k u.1).1.trans (if_pos ⟨u.1.1, u1⟩), (m1 k u.1).2.trans (if_pos ⟨u.1.1, u1⟩), (m1 l v.1).1.trans (if_pos ⟨v.1.1, v1⟩), (m1 l v.1).2.trans (if_pos ⟨v.1.1, v1⟩)]
    have d1 := hD k l u1 v1 w
    omega)
