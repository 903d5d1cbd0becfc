/-! ===== the reference: the game ===== -/
theorem or_half (a b : Nat) : (a ||| b) / 2 = a / 2 ||| b / 2 := by
  have h := Nat.shiftRight_or_distrib (a := a) (b := b) (i := 1)
  simpa [Nat.shiftRight_succ] using h
theorem or_odd (a b : Nat) : (a ||| b) % 2 = (a % 2) ||| (b % 2) := by
  have h := Nat.or_mod_two_pow (a := a) (b := b) (n := 1)
  simpa using h
theorem pcn_or : ∀ (k a b : Nat), a &&& b = 0 → pcn k (a ||| b) = pcn k a + pcn k b := by
  intro k
  induction k with
  | zero => intro a b _; rfl
  | succ k ih =>
    intro a b h
    have h1 : a / 2 &&& b / 2 = 0 := by rw [← and_half, h]
    have h2 : (a % 2) &&& (b % 2) = 0 := by rw [← and_odd, h]
    rw [pcn, pcn, pcn, or_half, or_odd, ih _ _ h1]
    rcases Nat.mod_two_eq_zero_or_one a with ha | ha <;> rcases Nat.mod_two_eq_zero_or_one b with hb | hb
    · rw [ha, hb]; show 0 + _ = _; omega
    · rw [ha, hb]; show 1 + _ = _; omega
    · rw [ha, hb]; show 1 + _ = _; omega
    · rw [ha, hb] at h2; exact absurd h2 (by decide)
theorem pcn_0 : ∀ k : Nat, pcn k 0 = 0 := by
  intro k
  induction k with
  | zero => rfl
  | succ k ih => rw [pcn, Nat.zero_div, ih]
theorem pcn_pow : ∀ (k i : Nat), i < k → pcn k (2 ^ i) = 1 := by
  intro k
  induction k with
  | zero => intro i h; omega
  | succ k ih =>
    intro i h
    cases i with
    | zero => rw [pcn]; show 1 + pcn k 0 = 1; rw [pcn_0]
    | succ i =>
      rw [pcn, Nat.pow_succ, Nat.mul_mod_left, Nat.mul_div_cancel _ (by decide), ih i (by omega)]
theorem pcn_pos : ∀ (k n : Nat), n < 2 ^ k → 0 < n → 0 < pcn k n := by
  intro k
  induction k with
  | zero => intro n h1 h2; omega
  | succ k ih =>
    intro n h1 h2
    rw [pcn]
    by_cases h : n / 2 = 0
    · omega
    · have := ih (n / 2) (by rw [Nat.pow_succ] at h1; omega) (by omega)
      omega
theorem pcn_full : ∀ (k n : Nat), n < 2 ^ k → pcn k n = k → ∀ i : Nat, i < k → n.testBit i = true := by
  intro k
  induction k with
  | zero => intro n _ _ i h; omega
  | succ k ih =>
    intro n h1 h2 i hi
    rw [pcn] at h2
    have hle := pcn_le k (n / 2)
    cases i with
    | zero => rw [Nat.testBit_zero]; simp; omega
    | succ i =>
      rw [Nat.testBit_succ]
      exact ih (n / 2) (by rw [Nat.pow_succ] at h1; omega) (by omega) i (by omega)
theorem pcn_more : ∀ (k j n : Nat), n < 2 ^ k → pcn (k + j) n = pcn k n := by
  intro k
  induction k with
  | zero => intro j n h; have : n = 0 := by omega
            subst this; rw [pcn_0, pcn_0]
  | succ k ih =>
    intro j n h
    rw [show k + 1 + j = (k + j) + 1 by omega, pcn, pcn, ih j (n / 2) (by rw [Nat.pow_succ] at h; omega)]
theorem and_zero_of {a b : Nat} (h : ∀ i : Nat, ¬ (a.testBit i = true ∧ b.testBit i = true)) : a &&& b = 0 := by
  apply Nat.eq_of_testBit_eq
  intro i
  rw [Nat.testBit_and, Nat.zero_testBit]
  have := h i
  cases ha : a.testBit i <;> cases hb : b.testBit i <;> simp_all
theorem pow_and {u i : Nat} (h : u.testBit i = false) : u &&& 2 ^ i = 0 := by
  apply and_zero_of
  intro j ⟨h1, h2⟩
  rw [Nat.testBit_two_pow] at h2
  have : i = j := by simpa using h2
  subst this
  rw [h] at h1
  exact absurd h1 (by decide)
theorem or_gt {u i : Nat} (h : u.testBit i = false) : u < u ||| 2 ^ i := by
  have hle : u ≤ u ||| 2 ^ i := Nat.left_le_or
  rcases Nat.lt_or_eq_of_le hle with h1 | h1
  · exact h1
  · exfalso
    have h2 : (u ||| 2 ^ i).testBit i = true := by rw [Nat.testBit_or, Nat.testBit_two_pow_self, Bool.or_true]
    rw [← h1, h] at h2
    exact absurd h2 (by decide)
theorem pcn_opm {st p : Nat} (hs : 1 ≤ st) (hp : p + st < 16) : pcn 16 (opm st 2 p) = 2 := by
  have e : opm st 2 p = 2 ^ p ||| 2 ^ (p + st) := by
    unfold opm
    rw [show (2 - 1) * st = st by omega, Nat.or_assoc, Nat.or_self]
  have hz : (2 ^ p).testBit (p + st) = false := by
    rw [Nat.testBit_two_pow]
    simp
    omega
  rw [e, pcn_or 16 _ _ (pow_and hz), pcn_pow 16 _ (by omega), pcn_pow 16 _ (by omega)]
theorem lowF_B (s : Int) : ∀ (m : Nat) (p : Int), p ≤ lowF s m p ∧ lowF s m p ≤ p + m := by
  intro m
  induction m with
  | zero => intro p; show p ≤ p ∧ p ≤ p + 0; omega
  | succ m ih =>
    intro p
    rw [lowF]
    split
    · omega
    · have := ih (p + 1); omega
/-- an int as it reads -/
def nrm (a : Int) : Int := (jI a).toInt
theorem nrm_B (a : Int) : -2147483648 ≤ nrm a ∧ nrm a < 2147483648 := by
  obtain ⟨z, hz, e⟩ := jI_of (jI a)
  unfold nrm
  rw [e, jI_toInt hz]
  exact hz
theorem nrm_j (a : Int) : jI (nrm a) = jI a := by
  obtain ⟨z, hz, e⟩ := jI_of (jI a)
  unfold nrm
  rw [e, jI_toInt hz]
theorem nrm_of {a : Int} (h : -2147483648 ≤ a ∧ a < 2147483648) : nrm a = a := jI_toInt h
theorem J_nrm {E : mx_E} {y : MethodName} {cc : ByteArray} {nL : Nat} {ret : Option FieldType} {K : mx_Kd} {bc bs pc : Nat} {lv st : List Value} {hp : List mx_C} {a : Int} (k : Ev E y cc nL ret K bc bs pc lv (.int (jI (nrm a)) :: st) hp) : Ev E y cc nL ret K bc bs pc lv (.int (jI a) :: st) hp := by rw [nrm_j] at k; exact k
/-- the first play by which it is won: of one number's options; of the numbers from i on -/
def gpO (win : Nat → Nat → Bool) (ms : List Nat) (used full i : Nat) (dflt : Int) : List Nat → Int
  | [] => dflt
  | m :: r => if full &&& m = 0 ∧ win (used ||| 2 ^ i) (full ||| m) = false then 100 * (((ms.getD i 0 : Nat) : Int) + 1) + lowF (m : Int) 31 0 else gpO win ms used full i dflt r
def gpI (win : Nat → Nat → Bool) (ms : List Nat) (used full : Nat) : Nat → List (List Nat) → Int
  | _, [] => -1
  | i, os :: L => if used.testBit i = true then gpI win ms used full (i + 1) L else gpO win ms used full i (gpI win ms used full (i + 1) L) os
theorem gpO_B {win : Nat → Nat → Bool} {ms : List Nat} {used full i : Nat} {dflt : Int} (hm : ms.getD i 0 < 8) (hd : -1 ≤ dflt ∧ dflt ≤ 1000) : ∀ l : List Nat, -1 ≤ gpO win ms used full i dflt l ∧ gpO win ms used full i dflt l ≤ 1000 := by
  intro l
  induction l with
  | nil => exact hd
  | cons m r ih =>
    rw [gpO]
    split
    · have := lowF_B (m : Int) 31 0
      omega
    · exact ih
theorem gpI_B {win : Nat → Nat → Bool} {ms : List Nat} {used full : Nat} (hm : ∀ i, ms.getD i 0 < 8) : ∀ (L : List (List Nat)) (i : Nat), -1 ≤ gpI win ms used full i L ∧ gpI win ms used full i L ≤ 1000 := by
  intro L
  induction L with
  | nil => intro i; show (-1 : Int) ≤ -1 ∧ (-1 : Int) ≤ 1000; omega
  | cons os L ih =>
    intro i
    rw [gpI]
    split
    · exact ih _
    · exact gpO_B (hm i) (ih _) os
theorem gpO_congr {w1 w2 : Nat → Nat → Bool} {ms : List Nat} {used full i : Nat} {d1 d2 : Int} (hd : d1 = d2) : ∀ l : List Nat, (∀ m, m ∈ l → full &&& m = 0 → w1 (used ||| 2 ^ i) (full ||| m) = w2 (used ||| 2 ^ i) (full ||| m)) → gpO w1 ms used full i d1 l = gpO w2 ms used full i d2 l := by
  intro l
  induction l with
  | nil => intro _; exact hd
  | cons m r ih =>
    intro h
    rw [gpO, gpO, ih (fun x hx => h x (List.mem_cons_of_mem _ hx))]
    by_cases hz : full &&& m = 0
    · rw [h m List.mem_cons_self hz]
    · rw [if_neg (fun hh => hz hh.1), if_neg (fun hh => hz hh.1)]
theorem gpI_congr {w1 w2 : Nat → Nat → Bool} {ms : List Nat} {used full : Nat} : ∀ (L : List (List Nat)) (i : Nat), (∀ j os m, L[j]? = some os → m ∈ os → full &&& m = 0 → used.testBit (i + j) = false → w1 (used ||| 2 ^ (i + j)) (full ||| m) = w2 (used ||| 2 ^ (i + j)) (full ||| m)) → gpI w1 ms used full i L = gpI w2 ms used full i L := by
  intro L
  induction L with
  | nil => intro i _; rfl
  | cons os L ih =>
    intro i h
    have e := ih (i + 1) (fun j os' m h1 h2 h3 h4 => by
      have := h (j + 1) os' m h1 h2 h3 (by rw [show i + (j + 1) = i + 1 + j by omega]; exact h4)
      rw [show i + (j + 1) = i + 1 + j by omega] at this
      exact this)
    rw [gpI, gpI, e]
    by_cases hu : used.testBit i = true
    · rw [if_pos hu, if_pos hu]
    · rw [if_neg hu, if_neg hu]
      exact gpO_congr rfl os (fun m hm hz => h 0 os m rfl hm hz (by simpa using hu))
/-- whether who is to play wins, d numbers being left -/
def gwn (L : List (List Nat)) (ms : List Nat) : Nat → Nat → Nat → Bool
  | 0, _, _ => false
  | d + 1, used, full => decide (¬ gpI (gwn L ms d) ms used full 0 L = -1)
def gwU (L : List (List Nat)) (ms : List Nat) (used full : Nat) : Bool := gwn L ms (L.length - pcn 16 used) used full
theorem gpI_used {win : Nat → Nat → Bool} {ms : List Nat} {used full : Nat} : ∀ (L : List (List Nat)) (i : Nat), (∀ j : Nat, j < L.length → used.testBit (i + j) = true) → gpI win ms used full i L = -1 := by
  intro L
  induction L with
  | nil => intro i _; rfl
  | cons os L ih =>
    intro i h
    have h0 : used.testBit i = true := h 0 (by rw [List.length_cons]; omega)
    rw [gpI, if_pos h0]
    exact ih (i + 1) (fun j hj => by rw [show i + 1 + j = i + (j + 1) by omega]; exact h (j + 1) (by rw [List.length_cons]; omega))
theorem gwU_eq {L : List (List Nat)} {ms : List Nat} {used full : Nat} (hL : L.length ≤ 8) (hu : used < 2 ^ L.length) : gwU L ms used full = decide (¬ gpI (gwU L ms) ms used full 0 L = -1) := by
  have hp : pcn 16 used ≤ L.length := by
    have := pcn_more L.length (16 - L.length) used hu
    rw [show L.length + (16 - L.length) = 16 by omega] at this
    rw [this]
    exact pcn_le _ _
  unfold gwU
  by_cases h : pcn 16 used = L.length
  · have hall : ∀ j : Nat, j < L.length → used.testBit (0 + j) = true := by
      intro j hj
      have := pcn_more L.length (16 - L.length) used hu
      rw [show L.length + (16 - L.length) = 16 by omega] at this
      rw [Nat.zero_add]
      exact pcn_full L.length used hu (by omega) j hj
    rw [gpI_used L 0 hall, h, Nat.sub_self]
    rfl
  · obtain ⟨d, hd⟩ : ∃ d, L.length - pcn 16 used = d + 1 := ⟨L.length - pcn 16 used - 1, by omega⟩
    rw [hd, gwn]
    have e : gpI (gwn L ms d) ms used full 0 L = gpI (fun used full => gwn L ms (L.length - pcn 16 used) used full) ms used full 0 L := by
      refine gpI_congr L 0 (fun j os m h1 h2 h3 h4 => ?_)
      have hj : j < L.length := (List.getElem?_eq_some_iff.mp h1).1
      have hpc := pcn_or 16 used (2 ^ (0 + j)) (pow_and h4)
      rw [pcn_pow 16 _ (by omega)] at hpc
      show gwn L ms d _ _ = gwn L ms (L.length - pcn 16 (used ||| 2 ^ (0 + j))) _ _
      rw [hpc, show L.length - (pcn 16 used + 1) = d by omega]
    rw [e]
theorem lX11_playOf1 {E : mx_E} {S T : Nat → Int → Int} {D : List mx_C} {L : List (List Nat)} {ms : List Nat} {used full : Nat} (hl5 : L.length ≤ 5) (hPO : PO T L L.length) (hmm : T 36 32 = (L.length : Int)) (h47 : ∀ i : Nat, i < L.length → T 47 i = ((ms.getD i 0 : Nat) : Int)) (hms : ∀ i, ms.getD i 0 < 8) (hO : ∀ i : Nat, i < L.length → (L.getD i []).length ≤ 16 ∧ ∀ m, m ∈ L.getD i [] → m < 1024 ∧ ∃ b, b ≤ 15 ∧ m.testBit b = true) (hu : used < 32) (hf : full < 1024) {r : Int} {i : Nat} (hin : i < L.length) (hnu : used.testBit i = false) {dflt : Int} (hk : dflt = r → ∀ (u4 u5 : Value), u4.category = 1 → u5.category = 1 → Ev E yX11_playOf cX11_playOf 6 (some .int) (kf E 2 (.int (jI r)) (W5 S T D)) 0 0 99 [.ref 36, .int (jI (used : Int)), .int (jI (full : Int)), .int (jI (i : Int)), u4, u5] [] (W5 S T D)) : ∀ (os' : List Nat) (o : Nat) (u5 : Value), (L.getD i []).drop o = os' → o ≤ (L.getD i []).length → u5.category = 1 → gpO (fun u f => decide (¬ nrm (T 53 ((1024 * u + f : Nat) : Int)) = 0)) ms used full i dflt os' = r → Ev E yX11_playOf cX11_playOf 6 (some .int) (kf E 2 (.int (jI r)) (W5 S T D)) 0 0 13 [.ref 36, .int (jI (used : Int)), .int (jI (full : Int)), .int (jI (i : Int)), .int (jI (o : Int)), u5] [] (W5 S T D) := by
  intro os'
  induction os' with
  | nil =>
    intro o u5 hdo hol hu5 hres
    have hol2 := drop_nil hdo
    have h49 := (hPO i hin).1
    have hOi := hO i hin
    refine L_i4 dX11_playOf_13 ?_
    refine L_a0 dX11_playOf_15 ?_
    refine GW_36_29 fX11_59 dX11_playOf_16 ?_
    refine L_i3 dX11_playOf_19 ?_
    refine AR_49 dX11_playOf_20 (by omega) ?_
    refine J_eqi (b := ((L.getD i []).length : Int)) h49 ?_
    refine J_icmp_ge 99 dX11_playOf_21 rfl (by omega) (by omega) (fun c21 => ?_) (fun c21 => ?_)
    · exact hk hres _ _ rfl hu5
    · exfalso; omega
  | cons m r' ih =>
    intro o u5 hdo hol hu5 hres
    obtain ⟨hol2, hgo, hdo2⟩ := drop_cons (d := 0) hdo
    have hPi := hPO i hin
    have h49 := hPi.1
    have hOi := hO i hin
    have e48 : T 48 (16 * (i : Int) + (o : Int)) = (m : Int) := by rw [hPi.2 o hol2, hgo]
    obtain ⟨hm10, b, hb, hbit⟩ := hOi.2 m (by rw [← hgo]; exact getD_mem hol2)
    have hum : used ||| 2 ^ i < 32 := or_lt (n := 5) hu (Nat.pow_lt_pow_right (by decide) (by omega))
    have hfm : full ||| m < 1024 := or_lt (n := 10) hf hm10
    have hlb := lowF_B (m : Int) 31 0
    have hnb := nrm_B (T 53 ((1024 * (used ||| 2 ^ i) + (full ||| m) : Nat) : Int))
    have hal : full &&& m ≤ m := Nat.and_le_right
    rw [gpO] at hres
    refine L_i4 dX11_playOf_13 ?_
    refine L_a0 dX11_playOf_15 ?_
    refine GW_36_29 fX11_59 dX11_playOf_16 ?_
    refine L_i3 dX11_playOf_19 ?_
    refine AR_49 dX11_playOf_20 (by omega) ?_
    refine J_eqi (b := ((L.getD i []).length : Int)) h49 ?_
    refine J_icmp_ge 99 dX11_playOf_21 rfl (by omega) (by omega) (fun c21 => ?_) (fun c21 => ?_)
    · exfalso; omega
    · refine L_i1 dX11_playOf_24 ?_
      refine L_i3 dX11_playOf_25 ?_
      refine C_s2F vX11_251 dX11_playOf_26 (qX11_has (by omega) (by omega)) (Nat.le_of_ble_eq_true rfl) (by decide) ?_
      refine J_ifneB 99 dX11_playOf_29 rfl (fun c29 => ?_) (fun c29 => ?_)
      · exfalso; have h2 := (bt_has (s := (used : Int)) (k := (i : Int)) (by omega)).mp c29; rw [show bt (used : Int) ((i : Int)).toNat ↔ used.testBit i = true from Iff.rfl, hnu] at h2; exact absurd h2 (by decide)
      · refine L_a0 dX11_playOf_32 ?_
        refine GW_36_28 fX11_56 dX11_playOf_33 ?_
        refine J_bipush dX11_playOf_36 (by decide) ?_
        refine L_i3 dX11_playOf_38 ?_
        refine J_imul dX11_playOf_39 ?_
        refine L_i4 dX11_playOf_40 ?_
        refine J_iadd dX11_playOf_42 ?_
        refine AR_48 dX11_playOf_43 (by omega) ?_
        refine J_eqi (b := (m : Int)) e48 ?_
        refine S_i5 dX11_playOf_44 (by decide) rfl ?_
        refine L_i2 dX11_playOf_46 ?_
        refine L_i5 dX11_playOf_47 ?_
        refine J_iandG dX11_playOf_49 (by omega) (by omega) ?_
        refine J_eqi (b := ((full &&& m : Nat) : Int)) (ban_nat _ _) ?_
        refine J_if_ne 93 dX11_playOf_50 rfl (by omega) (fun c50 => ?_) (fun c50 => ?_)
        · refine JI_4 dX11_playOf_93 (by decide) rfl ?_
          refine E_goto 13 dX11_playOf_96 rfl ?_
          exact ih (o + 1) _ hdo2 (by omega) rfl (by rw [if_neg (fun h => c50 (by omega))] at hres; exact hres)
        · refine L_a0 dX11_playOf_53 ?_
          refine GW_36_35 fX11_72 dX11_playOf_54 ?_
          refine J_sipush dX11_playOf_57 (by decide) ?_
          refine L_i1 dX11_playOf_60 ?_
          refine J_iconst dX11_playOf_61 ?_
          refine L_i3 dX11_playOf_62 ?_
          refine J_1shl dX11_playOf_63 (by omega) ?_
          refine J_iorG dX11_playOf_64 (by omega) (bsh_nn _) ?_
          refine J_imul dX11_playOf_65 ?_
          refine L_i2 dX11_playOf_66 ?_
          refine L_i5 dX11_playOf_67 ?_
          refine J_iorG dX11_playOf_69 (by omega) (by omega) ?_
          refine J_iadd dX11_playOf_70 ?_
          refine J_eqi (b := ((1024 * (used ||| 2 ^ i) + (full ||| m) : Nat) : Int)) (by rw [bsh_nat, bor_nat, bor_nat]; omega) ?_
          refine AR_53 dX11_playOf_71 (by omega) ?_
          refine J_nrm ?_
          refine J_if_ne 93 dX11_playOf_72 rfl (by omega) (fun c72 => ?_) (fun c72 => ?_)
          · refine JI_4 dX11_playOf_93 (by decide) rfl ?_
            refine E_goto 13 dX11_playOf_96 rfl ?_
            exact ih (o + 1) _ hdo2 (by omega) rfl (by rw [if_neg (fun h => c72 (by simpa using h.2))] at hres; exact hres)
          · refine J_bipush dX11_playOf_75 (by decide) ?_
            refine L_a0 dX11_playOf_77 ?_
            refine GW_36_27 fX11_53 dX11_playOf_78 ?_
            refine L_i3 dX11_playOf_81 ?_
            refine AR_47 dX11_playOf_82 (by omega) ?_
            refine J_eqi (b := ((ms.getD i 0 : Nat) : Int)) (h47 i hin) ?_
            refine J_iconst dX11_playOf_83 ?_
            refine J_iadd dX11_playOf_84 ?_
            refine J_imul dX11_playOf_85 ?_
            refine L_i5 dX11_playOf_86 ?_
            refine C_s1F vX11_395 dX11_playOf_88 (qX11_lowest (b := (b : Int)) (by omega) (by omega) ((bt_has (by omega)).mpr hbit)) (Nat.le_of_ble_eq_true rfl) (by decide) ?_
            refine J_iadd dX11_playOf_91 ?_
            exact R_i rfl dX11_playOf_92 rfl (by rw [if_pos ⟨by omega, by simpa using c72⟩] at hres; exact hres)
theorem lX11_playOf {E : mx_E} {S T : Nat → Int → Int} {D : List mx_C} {L : List (List Nat)} {ms : List Nat} {used full : Nat} (hl5 : L.length ≤ 5) (hPO : PO T L L.length) (hmm : T 36 32 = (L.length : Int)) (h47 : ∀ i : Nat, i < L.length → T 47 i = ((ms.getD i 0 : Nat) : Int)) (hms : ∀ i, ms.getD i 0 < 8) (hO : ∀ i : Nat, i < L.length → (L.getD i []).length ≤ 16 ∧ ∀ m, m ∈ L.getD i [] → m < 1024 ∧ ∃ b, b ≤ 15 ∧ m.testBit b = true) (hu : used < 32) (hf : full < 1024) {r : Int} : ∀ (L' : List (List Nat)) (i : Nat) (u4 u5 : Value), L.drop i = L' → i ≤ L.length → u4.category = 1 → u5.category = 1 → gpI (fun u f => decide (¬ nrm (T 53 ((1024 * u + f : Nat) : Int)) = 0)) ms used full i L' = r → Ev E yX11_playOf cX11_playOf 6 (some .int) (kf E 2 (.int (jI r)) (W5 S T D)) 0 0 2 [.ref 36, .int (jI (used : Int)), .int (jI (full : Int)), .int (jI (i : Int)), u4, u5] [] (W5 S T D) := by
  intro L'
  induction L' with
  | nil =>
    intro i u4 u5 hdr hil hu4 hu5 hres
    have hil2 := drop_nil hdr
    refine L_i3 dX11_playOf_2 ?_
    refine L_a0 dX11_playOf_3 ?_
    refine GW_36_32 fX11_398 dX11_playOf_4 ?_
    refine J_eqi (b := (L.length : Int)) hmm ?_
    refine J_icmp_ge 105 dX11_playOf_7 rfl (by omega) (by omega) (fun c7 => ?_) (fun c7 => ?_)
    · refine J_iconst dX11_playOf_105 ?_
      exact R_i rfl dX11_playOf_106 rfl hres
    · exfalso; omega
  | cons os L'' ih =>
    intro i u4 u5 hdr hil hu4 hu5 hres
    obtain ⟨hil2, hgi, hdr2⟩ := drop_cons (d := []) hdr
    have h49 := (hPO i hil2).1
    have hOi := hO i hil2
    rw [gpI] at hres
    refine L_i3 dX11_playOf_2 ?_
    refine L_a0 dX11_playOf_3 ?_
    refine GW_36_32 fX11_398 dX11_playOf_4 ?_
    refine J_eqi (b := (L.length : Int)) hmm ?_
    refine J_icmp_ge 105 dX11_playOf_7 rfl (by omega) (by omega) (fun c7 => ?_) (fun c7 => ?_)
    · exfalso; omega
    · refine J_iconst dX11_playOf_10 ?_
      refine S_i4 dX11_playOf_11 (by decide) rfl ?_
      by_cases hub : used.testBit i = true
      · rw [if_pos hub] at hres
        refine L_i4 dX11_playOf_13 ?_
        refine L_a0 dX11_playOf_15 ?_
        refine GW_36_29 fX11_59 dX11_playOf_16 ?_
        refine L_i3 dX11_playOf_19 ?_
        refine AR_49 dX11_playOf_20 (by omega) ?_
        refine J_eqi (b := ((L.getD i []).length : Int)) h49 ?_
        refine J_icmp_ge 99 dX11_playOf_21 rfl (by omega) (by omega) (fun c21 => ?_) (fun c21 => ?_)
        · refine JI_3 dX11_playOf_99 (by decide) rfl ?_
          refine E_goto 2 dX11_playOf_102 rfl ?_
          exact ih (i + 1) _ _ hdr2 (by omega) rfl hu5 hres
        · refine L_i1 dX11_playOf_24 ?_
          refine L_i3 dX11_playOf_25 ?_
          refine C_s2F vX11_251 dX11_playOf_26 (qX11_has (by omega) (by omega)) (Nat.le_of_ble_eq_true rfl) (by decide) ?_
          refine J_ifneB 99 dX11_playOf_29 rfl (fun c29 => ?_) (fun c29 => ?_)
          · refine JI_3 dX11_playOf_99 (by decide) rfl ?_
            refine E_goto 2 dX11_playOf_102 rfl ?_
            exact ih (i + 1) _ _ hdr2 (by omega) rfl hu5 hres
          · exfalso; exact c29 ((bt_has (s := (used : Int)) (k := (i : Int)) (by omega)).mpr hub)
      · rw [if_neg hub] at hres
        refine lX11_playOf1 hl5 hPO hmm h47 hms hO hu hf hil2 (by simpa using hub) (dflt := _) (fun e u4 u5 h4 h5 => ?_) os 0 _ (by rw [hgi]; rfl) (Nat.zero_le _) hu5 hres
        refine JI_3 dX11_playOf_99 (by decide) rfl ?_
        refine E_goto 2 dX11_playOf_102 rfl ?_
        exact ih (i + 1) _ _ hdr2 (by omega) h4 h5 e
set_option maxRecDepth 100000 in
theorem qX11_playOf {S T : Nat → Int → Int} {D : List mx_C} {L : List (List Nat)} {ms : List Nat} {used full : Nat} (hl5 : L.length ≤ 5) (hPO : PO T L L.length) (hmm : T 36 32 = (L.length : Int)) (h47 : ∀ i : Nat, i < L.length → T 47 i = ((ms.getD i 0 : Nat) : Int)) (hms : ∀ i, ms.getD i 0 < 8) (hO : ∀ i : Nat, i < L.length → (L.getD i []).length ≤ 16 ∧ ∀ m, m ∈ L.getD i [] → m < 1024 ∧ ∃ b, b ≤ 15 ∧ m.testBit b = true) (hu : used < 32) (hf : full < 1024) : SpF yX11_playOf cX11_playOf 6 (some .int) 2 [.ref 36, .int (jI (used : Int)), .int (jI (full : Int))] (W5 S T D) (.int (jI (gpI (fun u f => decide (¬ nrm (T 53 ((1024 * u + f : Nat) : Int)) = 0)) ms used full 0 L))) (W5 S T D) := by
  refine Sp.of [.ref 36, .int (jI (used : Int)), .int (jI (full : Int)), .retAddr 0, .retAddr 0, .retAddr 0] (by decide) (by simp) (Nat.le_of_ble_eq_true rfl) rfl (fun E => ?_)
  refine J_iconst dX11_playOf_0 ?_
  refine S_i3 dX11_playOf_1 (by decide) rfl ?_
  exact lX11_playOf hl5 hPO hmm h47 hms hO hu hf L 0 _ _ rfl (Nat.zero_le _) rfl rfl rfl

