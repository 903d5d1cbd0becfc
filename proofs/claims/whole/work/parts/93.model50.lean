/-! ===== the reference: a body, a clause ===== -/
theorem RS.jf {B : Nat → Int} {T T' : Nat → Int → Int} {q x : Int} {c c' : Nat} {cd : List (Int × Int)} (hs : RS B T q c cd) (hx : x + 2 < 681 * q + 73) (a : JF T T' x) (ht : TS B T' c') : RS B T' q c' cd := ⟨ht, by rw [a.2.1 12 (by omega)]; exact hs.2.1, by rw [a.2.1 13 (by omega)]; exact hs.2.2.1, CDd_out hs.2.2.2 (fun y hy => a.2.2 y (by omega) (by omega))⟩
def fgs (B : Nat → Int) (c : Nat) (cd : List (Int × Int)) (lo top : Int) : Int × Nat × (Int × Int) × List (Int × Int) := (fig (kd B c) (lxn B c) lo top, if fig (kd B c) (lxn B c) lo top = 0 then lxe B c else c, (lxn B c, 0), cd)
def bdy (B : Nat → Int) (s : Int) (c : Nat) (cd : List (Int × Int)) : Int × Nat × (Int × Int) × List (Int × Int) := if s = 2 then fgs B c cd 1 16 else if s = 3 then ((jnf B c).1, (jnf B c).2, (lxn B c, lxn B (lxe B (lxe B c))), cd) else if s = 4 then fgs B c cd 1 8 else if s = 5 then (0, c, (0, 0), cd) else if s = 6 then fgs B c cd 1 60 else ((sy B s 301 c cd [] 0).1, (sy B s 301 c cd [] 0).2.1, ((cd.length : Int), ((sy B s 301 c cd [] 0).2.2.length : Int)), (sy B s 301 c cd [] 0).2.2)
/-- what a body comes to -/
def BQ (B : Nat → Int) (S T : Nat → Int → Int) (D : List mx_C) (q x s : Int) (b : Int × Nat × (Int × Int) × List (Int × Int)) (v : Int) (hp' : List mx_C) : Prop := ∃ T', hp' = W5 S T' D ∧ v = b.1 ∧ RS B T' q b.2.1 b.2.2.2 ∧ BF q x T T' ∧ (v = 0 → (¬ s = 5 → T' 39 (x + 1) = b.2.2.1.1) ∧ (s ≤ 1 ∨ s = 3 → T' 39 (x + 2) = b.2.2.1.2))
theorem bd_fig {B : Nat → Int} {S T : Nat → Int → Int} {D : List mx_C} {q x s lo top : Int} {c : Nat} {cd : List (Int × Int)} (hs : RS B T q c cd) (h_x : 681 * q + 1 ≤ x ∧ x ≤ 681 * q + 70) (h_s : ¬ (s ≤ 1 ∨ s = 3)) {v : Int} {hp' : List mx_C} (hq : ∃ T', hp' = W5 S T' D ∧ v = fig (kd B c) (lxn B c) lo top ∧ ((¬ v = 0 ∧ T' = T) ∨ (v = 0 ∧ FG B T T' c (x + 1)))) : BQ B S T D q x s (fgs B c cd lo top) v hp' := by
  obtain ⟨T', e, ev, hh⟩ := hq
  unfold fgs
  rcases hh with ⟨hv, eT⟩ | ⟨hv, hg⟩
  · subst eT
    rw [if_neg (by omega)]
    exact ⟨T', e, ev, hs, BF.refl _ _ _, fun h0 => absurd h0 hv⟩
  · rw [if_pos (by omega)]
    exact ⟨T', e, ev, hs.jf (by omega) (hg.jf (Or.inl rfl)) hg.2.2.2, (hg.jf (Or.inl rfl)).bf (by omega), fun _ => ⟨fun _ => by rw [hg.1, up_s], fun a => absurd a h_s⟩⟩
set_option maxRecDepth 100000 in
theorem qX11_body {S T : Nat → Int → Int} {D : List mx_C} {B : Nat → Int} {q s x : Int} (h_q : 0 ≤ q ∧ q ≤ 3) (h14 : T 36 14 = s) (h_s : 0 ≤ s ∧ s ≤ 6) (h_x : 681 * q + 1 ≤ x ∧ x ≤ 681 * q + 70) {c : Nat} {cd : List (Int × Int)} (hs : RS B T q c cd) (hlt : cd.length + 1 ≤ lxp B c) : SpI yX11_body cX11_body 3 (some .int) 9 [.ref 36, .int (jI s), .int (jI x)] (W5 S T D) (BQ B S T D q x s (bdy B s c cd)) := by
  refine Sp.of [.ref 36, .int (jI s), .int (jI x)] (by decide) (by simp) (Nat.le_of_ble_eq_true rfl) rfl (fun E => ?_)
  refine L_i1 dX11_body_0 ?_
  refine J_tab5 36 47 53 64 66 77 dX11_body_1 (by omega) rfl rfl rfl rfl rfl rfl rfl (fun c1 => ?_) (fun c1 => ?_) (fun c1 => ?_) (fun c1 => ?_) (fun c1 => ?_) (fun c1 => ?_)
  · refine L_a0 dX11_body_36 ?_
    refine L_i2 dX11_body_37 ?_
    refine J_iconst dX11_body_38 ?_
    refine J_iadd dX11_body_39 ?_
    refine J_iconst dX11_body_40 ?_
    refine J_bipush dX11_body_41 (by decide) ?_
    refine C_v3I vX11_232 dX11_body_43 (qX11_figure hs.1 (by omega) (by omega) (by omega)) rfl rfl (Nat.le_of_ble_eq_true rfl) (by decide) (fun v43 hp43 hq43 => ?_)
    exact RQ_i rfl dX11_body_46 (by rw [show bdy B s c cd = fgs B c cd 1 16 from by unfold bdy; rw [if_pos (by omega)]]; exact bd_fig hs h_x (by omega) hq43)
  · refine L_a0 dX11_body_47 ?_
    refine L_i2 dX11_body_48 ?_
    refine C_v1I vX11_236 dX11_body_49 (qX11_joinClause hs.1 (by omega)) rfl rfl (Nat.le_of_ble_eq_true rfl) (by decide) (fun v49 hp49 hq49 => ?_)
    obtain ⟨T49, rfl, e49, hj49, g49, hh49⟩ := hq49
    exact RQ_i rfl dX11_body_52 (by rw [show bdy B s c cd = ((jnf B c).1, (jnf B c).2, (lxn B c, lxn B (lxe B (lxe B c))), cd) from by unfold bdy; rw [if_neg (by omega), if_pos (by omega)]]; exact ⟨T49, rfl, e49, hs.jf (by omega) g49 hj49, g49.bf (by omega), fun h0 => ⟨fun _ => (hh49 h0).1, fun _ => (hh49 h0).2⟩⟩)
  · refine L_a0 dX11_body_53 ?_
    refine L_i2 dX11_body_54 ?_
    refine J_iconst dX11_body_55 ?_
    refine J_iadd dX11_body_56 ?_
    refine J_iconst dX11_body_57 ?_
    refine J_bipush dX11_body_58 (by decide) ?_
    refine C_v3I vX11_232 dX11_body_60 (qX11_figure hs.1 (by omega) (by omega) (by omega)) rfl rfl (Nat.le_of_ble_eq_true rfl) (by decide) (fun v60 hp60 hq60 => ?_)
    exact RQ_i rfl dX11_body_63 (by rw [show bdy B s c cd = fgs B c cd 1 8 from by unfold bdy; rw [if_neg (by omega), if_neg (by omega), if_pos (by omega)]]; exact bd_fig hs h_x (by omega) hq60)
  · refine J_iconst dX11_body_64 ?_
    exact RQ_i rfl dX11_body_65 (by rw [show bdy B s c cd = (0, c, (0, 0), cd) from by unfold bdy; rw [if_neg (by omega), if_neg (by omega), if_neg (by omega), if_pos (by omega)]]; exact ⟨T, rfl, rfl, hs, BF.refl _ _ _, fun _ => ⟨fun a => absurd (by omega) a, fun a => by omega⟩⟩)
  · refine L_a0 dX11_body_66 ?_
    refine L_i2 dX11_body_67 ?_
    refine J_iconst dX11_body_68 ?_
    refine J_iadd dX11_body_69 ?_
    refine J_iconst dX11_body_70 ?_
    refine J_bipush dX11_body_71 (by decide) ?_
    refine C_v3I vX11_232 dX11_body_73 (qX11_figure hs.1 (by omega) (by omega) (by omega)) rfl rfl (Nat.le_of_ble_eq_true rfl) (by decide) (fun v73 hp73 hq73 => ?_)
    exact RQ_i rfl dX11_body_76 (by rw [show bdy B s c cd = fgs B c cd 1 60 from by unfold bdy; rw [if_neg (by omega), if_neg (by omega), if_neg (by omega), if_neg (by omega), if_pos (by omega)]]; exact bd_fig hs h_x (by omega) hq73)
  · refine L_a0 dX11_body_77 ?_
    refine L_i2 dX11_body_78 ?_
    refine C_v1I vX11_239 dX11_body_79 (qX11_lawClause (s0 := s) h_q h14 (by omega) h_x hs hlt) rfl rfl (Nat.le_of_ble_eq_true rfl) (by decide) (fun v79 hp79 hq79 => ?_)
    obtain ⟨T79, rfl, e79, hr79, g79, ha79, hb79⟩ := hq79
    exact RQ_i rfl dX11_body_82 (by rw [show bdy B s c cd = ((sy B s 301 c cd [] 0).1, (sy B s 301 c cd [] 0).2.1, ((cd.length : Int), ((sy B s 301 c cd [] 0).2.2.length : Int)), (sy B s 301 c cd [] 0).2.2) from by unfold bdy; rw [if_neg (by omega), if_neg (by omega), if_neg (by omega), if_neg (by omega), if_neg (by omega)]]; exact ⟨T79, rfl, e79, hr79, g79, fun _ => ⟨fun _ => ha79, fun _ => hb79⟩⟩)

theorem lxp_mono (B : Nat → Int) (c : Nat) : lxp B c ≤ lxp B (lxe B c) := Nat.le_trans (lxp_lxe B c) (lxp_le B (lxe B c))
theorem sy_mono {B : Nat → Int} {s0 : Int} : ∀ (m c : Nat) (cd : List (Int × Int)) (ps : List Int) (wh : Int), lxp B c ≤ lxp B (sy B s0 m c cd ps wh).2.1 := by
  intro m
  induction m with
  | zero => intro c cd ps wh; exact Nat.le_refl _
  | succ m ih =>
    intro c cd ps wh
    rw [sy]
    have h1 := lxp_mono B c
    split
    · split
      · exact Nat.le_trans h1 (ih _ _ _ _)
      · exact Nat.le_refl _
    · split
      · exact Nat.le_trans h1 (ih _ _ _ _)
      · split
        · exact Nat.le_refl _
        · exact Nat.le_refl _
theorem fgs_mono (B : Nat → Int) (c : Nat) (cd : List (Int × Int)) (lo top : Int) : lxp B c ≤ lxp B (fgs B c cd lo top).2.1 := by
  unfold fgs
  show lxp B c ≤ lxp B (if _ then _ else _)
  split
  · exact lxp_mono B c
  · exact Nat.le_refl _
theorem jnf_mono (B : Nat → Int) (c : Nat) : lxp B c ≤ lxp B (jnf B c).2 := by
  have h1 := lxp_mono B c
  have h2 := lxp_mono B (lxe B c)
  have h3 := lxp_mono B (lxe B (lxe B c))
  unfold jnf
  split
  · split
    · split
      · show lxp B c ≤ lxp B (lxe B (lxe B (lxe B c))); omega
      · show lxp B c ≤ lxp B (lxe B (lxe B c)); omega
    · exact h1
  · exact Nat.le_refl _
theorem bdy_mono {B : Nat → Int} {s : Int} {c : Nat} {cd : List (Int × Int)} (hlt : cd.length + 1 ≤ lxp B c) : lxp B c ≤ lxp B (bdy B s c cd).2.1 ∧ (bdy B s c cd).2.2.2.length + 1 ≤ lxp B (bdy B s c cd).2.1 := by
  unfold bdy
  split
  · have := fgs_mono B c cd 1 16
    exact ⟨this, Nat.le_trans hlt this⟩
  · split
    · have := jnf_mono B c
      exact ⟨this, Nat.le_trans hlt this⟩
    · split
      · have := fgs_mono B c cd 1 8
        exact ⟨this, Nat.le_trans hlt this⟩
      · split
        · exact ⟨Nat.le_refl _, hlt⟩
        · split
          · have := fgs_mono B c cd 1 60
            exact ⟨this, Nat.le_trans hlt this⟩
          · exact ⟨sy_mono _ _ _ _ _, sy_inv _ _ _ _ _ ⟨trivial, by decide, by show cd.length + 0 + 1 ≤ _; omega⟩⟩
/-- a clause in the texts -/
def CLr (f : Int → Int) (x : Int) (e : Int × Int × Int) : Prop := f x = e.1 ∧ (¬ e.1 = 5 → f (x + 1) = e.2.1) ∧ (e.1 ≤ 1 ∨ e.1 = 3 → f (x + 2) = e.2.2)
def ER (f : Int → Int) (q : Int) (el : List (Int × Int × Int)) : Prop := ∀ i : Nat, i < el.length → CLr f (681 * q + 1 + 3 * (i : Int)) (el.getD i (0, 0, 0))
/-- the state between clauses -/
def RT (B : Nat → Int) (T : Nat → Int → Int) (q : Int) (c : Nat) (el : List (Int × Int × Int)) (on : Int) (cd : List (Int × Int)) : Prop := RS B T q c cd ∧ T 39 (681 * q) = (el.length : Int) ∧ T 36 19 = on ∧ ER (T 39) q el
/-- what reading a text may change -/
def XF (q : Int) (T T' : Nat → Int → Int) : Prop := Fr [36, 39, 41] T T' ∧ (∀ j : Int, (j < 7 ∨ 20 ≤ j) → T' 36 j = T 36 j) ∧ ∀ y : Int, (y < 681 * q ∨ 681 * q + 681 ≤ y) → T' 39 y = T 39 y
theorem XF.refl (q : Int) (T : Nat → Int → Int) : XF q T T := ⟨Fr.refl _ _, fun _ _ => rfl, fun _ _ => rfl⟩
theorem XF.trans {q : Int} {T T1 T2 : Nat → Int → Int} (a : XF q T T1) (b : XF q T1 T2) : XF q T T2 := ⟨a.1.trans b.1, fun j hj => (b.2.1 j hj).trans (a.2.1 j hj), fun y hy => (b.2.2 y hy).trans (a.2.2 y hy)⟩
theorem BF.xf {q x : Int} {T T' : Nat → Int → Int} (hx : 681 * q ≤ x) (a : BF q x T T') : XF q T T' := ⟨a.1, fun j hj => a.2.1 j (by omega), fun y hy => a.2.2 y (by omega)⟩
theorem NX.xf {q : Int} {T T' : Nat → Int → Int} (a : NX T T') : XF q T T' := ⟨a.1.mono (by decide), fun j hj => a.2 j (by omega), fun y _ => by rw [a.1 39 (by decide)]⟩
theorem XF_36 {q j x : Int} {T : Nat → Int → Int} (hj : 7 ≤ j ∧ j ≤ 19) : XF q T (upS T 36 (up (T 36) j x)) := ⟨Fr_up _ _ (by decide), fun i hi => uf36 (by omega), fun y _ => congrFun (upS_n (by decide)) y⟩
theorem XF_39 {q z v : Int} {T : Nat → Int → Int} (hz : 681 * q ≤ z ∧ z < 681 * q + 681) : XF q T (upS T 39 (up (T 39) z v)) := ⟨Fr_up _ _ (by decide), fun j _ => congrFun (upS_n (by decide)) j, fun y hy => by rw [upS_s, up_n (by omega)]⟩
/-- a clause from its sort on: what is wrong, the token at hand -/
def cl1 (B : Nat → Int) (s : Int) (c : Nat) (cd : List (Int × Int)) : Int × Nat := if (bdy B s (lxe B c) cd).1 = 0 then (if kd B (bdy B s (lxe B c) cd).2.1 = 40 then (0, lxe B (bdy B s (lxe B c) cd).2.1) else (1, (bdy B s (lxe B c) cd).2.1)) else ((bdy B s (lxe B c) cd).1, (bdy B s (lxe B c) cd).2.1)
def clE (B : Nat → Int) (s : Int) (c : Nat) (cd : List (Int × Int)) (el : List (Int × Int × Int)) : List (Int × Int × Int) := el ++ [(s, (bdy B s (lxe B c) cd).2.2.1.1, (bdy B s (lxe B c) cd).2.2.1.2)]
