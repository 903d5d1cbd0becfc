/-! ===== THE SMALL MACHINE: cells by their places (cell i lies at h + i), and a judgement Ev of a method's walk over them ===== -/
abbrev mx_C : Type := (Nat × vp_A) ⊕ (Nat × List Value)
/-- the tables' numbers, the array classes by kind (0 int, 1 byte, 2 boolean, 3 long, 4 Script), the first address, addresses of what was there before (0, 1 the texts, 2, 3 their bytes, 9 the script) -/
abbrev mx_E : Type := va_G × (Nat → ClassId) × Nat × (Nat → Nat)
def mx_v (E : mx_E) : Value → Value
  | .ref i => .ref (E.2.2.1 + i)
  | .float k => .ref (E.2.2.2 k.toNat)
  | v => v
def mx_a (h : Nat) (a : vp_A) : vp_A := (a.1, match a.2 with
  | .inr (.inr (.inr (.inr f))) => .inr (.inr (.inr (.inr (fun j => (f j).map (fun i => h + i)))))
  | x => x)
def mx_c (E : mx_E) : mx_C → va_E
  | .inl q => .inl (E.2.1 q.1, mx_a E.2.2.1 q.2)
  | .inr q => .inr (q.1, q.2.map (mx_v E))
def mx_w (E : mx_E) (hp : List mx_C) : va_W := hp.mapIdx (fun i c => (E.2.2.1 + i, mx_c E c))
def mx_ts (E : mx_E) : List (ClassId × FieldType) := [(E.2.1 0, .int), (E.2.1 1, .byte), (E.2.1 2, .boolean), (E.2.1 3, .long), (E.2.1 4, .object "Procession$Script")]
abbrev mx_A (E : mx_E) : Nat → Prop := fun q => E.2.2.1 ≤ q
/-- the words that every method rests on: those of the tables that stay -/
def mx_gw : List Cond := lw_tbl.filter goodWord
theorem mx_gw_good : GoodIn mx_gw mx_gw := fun _ h => ⟨h, good_of_word (List.mem_filter.mp h).2⟩
theorem mx_gw_tbl : ∀ w ∈ mx_gw, w ∈ lw_tbl := fun _ h => (List.mem_filter.mp h).1
theorem mx_in {w : Cond} (h : w ∈ lw_tbl) (hg : goodWord w = true) : w ∈ mx_gw := List.mem_filter.mpr ⟨h, hg⟩
def mx_nests : List (String × Nat × MethodName × String) := [("Procession", 18, ⟨"Procession$Reader", "<init>", "()V"⟩, "Procession"), ("Procession", 266, ⟨"Procession$Finder", "count", "(II)I"⟩, "Procession"), ("Procession", 293, ⟨"Procession$Finder", "fits", "(II)Z"⟩, "Procession"), ("Procession", 300, ⟨"Procession$Finder", "countThrees", "(II)I"⟩, "Procession"), ("Procession", 324, ⟨"Procession$Finder", "wins", "(II)Z"⟩, "Procession"), ("Procession", 327, ⟨"Procession$Finder", "winningPlay", "(II)I"⟩, "Procession"), ("Procession", 41, ⟨"Procession$Steps", "<init>", "()V"⟩, "Procession"), ("Procession", 48, ⟨"Procession$Sayings", "<init>", "()V"⟩, "Procession"), ("Procession", 55, ⟨"Procession$Finder", "<init>", "()V"⟩, "Procession"), ("Procession", 62, ⟨"Procession$Image", "<init>", "()V"⟩, "Procession"), ("Procession", 9, ⟨"Procession$Tape", "<init>", "()V"⟩, "Procession"), ("Procession$Finder", 102, ⟨"Procession", "allOf", "(I)I"⟩, "Procession"), ("Procession$Finder", 39, ⟨"Procession", "isNumber", "(I)Z"⟩, "Procession"), ("Procession$Finder", 43, ⟨"Procession", "bitOf", "(I)I"⟩, "Procession"), ("Procession$Image", 20, ⟨"Procession$Steps", "<init>", "()V"⟩, "Procession"), ("Procession$Image", 27, ⟨"Procession$Sayings", "<init>", "()V"⟩, "Procession"), ("Procession$Law", 69, ⟨"Procession", "within", "(JII)I"⟩, "Procession"), ("Procession$Reader", 11, ⟨"Procession$Scanner", "<init>", "()V"⟩, "Procession"), ("Procession$Row", 27, ⟨"Procession", "allOf", "(I)I"⟩, "Procession"), ("Procession$Row", 40, ⟨"Procession", "bitOf", "(I)I"⟩, "Procession"), ("Procession$Row", 50, ⟨"Procession", "isNumber", "(I)Z"⟩, "Procession")]
def mx_words : String := "between tires join leave turn day long number walk since first last stands free if then else end or and not at "
def mx_signs : String := "<>=#+-*/();"
def mx_len : List Nat := [111, 11]
def mx_byt : List (List Int32) := [[98, 101, 116, 119, 101, 101, 110, 32, 116, 105, 114, 101, 115, 32, 106, 111, 105, 110, 32, 108, 101, 97, 118, 101, 32, 116, 117, 114, 110, 32, 100, 97, 121, 32, 108, 111, 110, 103, 32, 110, 117, 109, 98, 101, 114, 32, 119, 97, 108, 107, 32, 115, 105, 110, 99, 101, 32, 102, 105, 114, 115, 116, 32, 108, 97, 115, 116, 32, 115, 116, 97, 110, 100, 115, 32, 102, 114, 101, 101, 32, 105, 102, 32, 116, 104, 101, 110, 32, 101, 108, 115, 101, 32, 101, 110, 100, 32, 111, 114, 32, 97, 110, 100, 32, 110, 111, 116, 32, 97, 116, 32], [60, 62, 61, 35, 43, 45, 42, 47, 40, 41, 59]]
def mx_str (E : mx_E) (U : State) : Prop := vk_R RX6 77 mx_words (E.2.2.2 0) U ∧ vk_R RX6 89 mx_signs (E.2.2.2 1) U ∧ vk_S 2 mx_len mx_byt E.2.2.2 (fun i => E.2.2.2 (i + 2)) (mx_A E) U U.heap ∧ va_Z "java/lang/String" "COMPACT_STRINGS" "Z" (.int 1) (mx_A E) U U.heap ∧ (va_AO "Procession$Script" U ∧ va_Nw (.castable "[I" "java/lang/Cloneable") U) ∧ (va_Z "jdk/internal/util/Preconditions" "SIOOBE_FORMATTER" "Ljava/util/function/BiFunction;" .null (mx_A E) U U.heap ∨ va_Z "jdk/internal/util/Preconditions" "SIOOBE_FORMATTER" "Ljava/util/function/BiFunction;" (.ref (E.2.2.2 7)) (mx_A E) U U.heap)
def mx_st (E : mx_E) (U : State) : Prop := va_K E.1 vwCl (mx_ts E) U ∧ (∀ q ∈ mx_nests, va_Nw (.methodLinkNest q.1 q.2.1 q.2.2.1 q.2.2.2) U) ∧ mx_str E U
def mx_W (E : mx_E) (hp : List mx_C) (U : State) : Prop := U.heap.size = E.2.2.1 + hp.length ∧ va_P E.1 vwCl (mx_w E hp) U.heap ∧ mx_st E U
theorem mx_st.go {E : mx_E} {s U : State} (h : mx_st E s) (hW : s.WarmedH U.vm) (hk : ∀ q : Nat, q < s.heap.size → ¬ mx_A E q → U.heap[q]? = s.heap[q]?) : mx_st E U := by
  obtain ⟨h1, h2, h3, h4, h5, h6, h7, h8⟩ := h
  exact ⟨h1.moved hW.alike, fun q hq => va_Nw.warmM hW (h2 q hq), h3.warm hW, h4.warm hW, (h5.moved hW.alike).kept hk, (h6.moved hW.alike).kept hk, ⟨h7.1.moved hW.alike, va_Nw.warmC hW h7.2⟩, h8.imp (fun h => (h.moved hW.alike).kept hk) (fun h => (h.moved hW.alike).kept hk)⟩
theorem mx_w_get {E : mx_E} {hp : List mx_C} {i : Nat} {c : mx_C} (h : hp[i]? = some c) : (mx_w E hp)[i]? = some (E.2.2.1 + i, mx_c E c) := by
  simp [mx_w, List.getElem?_mapIdx, h]
theorem mx_w_set (E : mx_E) (hp : List mx_C) (i : Nat) (c : mx_C) : (mx_w E hp).set i (E.2.2.1 + i, mx_c E c) = mx_w E (hp.set i c) := by
  apply List.ext_getElem?
  intro k
  simp only [mx_w, List.getElem?_set, List.getElem?_mapIdx, List.length_mapIdx]
  by_cases h : i = k
  · subst h
    by_cases hl : i < hp.length <;> simp [hl]
  · simp [h]
theorem mx_w_push (E : mx_E) (hp : List mx_C) (c : mx_C) : mx_w E (hp ++ [c]) = mx_w E hp ++ [(E.2.2.1 + hp.length, mx_c E c)] := by
  simp [mx_w, List.mapIdx_append]
theorem mx_w_len (E : mx_E) (hp : List mx_C) : (mx_w E hp).length = hp.length := by simp [mx_w]
theorem mx_D (E : mx_E) (hp : List mx_C) : va_D (mx_A E) (mx_w E hp) := by
  have key : ∀ (k : Nat) (q : Nat × va_E), (mx_w E hp)[k]? = some q → q.1 = E.2.2.1 + k := by
    intro k q h
    simp only [mx_w, List.getElem?_mapIdx] at h
    cases hc : hp[k]? with
    | none => simp [hc] at h
    | some c => simp [hc] at h; rw [← h]
  refine ⟨fun i j p q hi hj e => ?_, fun k q h => ?_⟩
  · have h1 := key i p hi
    have h2 := key j q hj
    omega
  · have h1 := key k q h
    show E.2.2.1 ≤ q.1
    omega
/-- what is held in the locals: the listed values, but retAddr, which says nothing -/
def mx_kn (v : Value) : Bool := match v with
  | .retAddr _ => false
  | _ => true
def mx_L (E : mx_E) (ls : Array Slot) (nL : Nat) (lv : List Value) : Prop := ls.size = nL ∧ lv_wf ls ∧ ∀ (i : Nat) (v : Value), lv[i]? = some v → mx_kn v = true → ls[i]? = some (.val (mx_v E v))
def mx_ls (E : mx_E) (lv : List Value) : List (Nat × Value) := (List.range lv.length).filterMap (fun i => (lv[i]?).bind (fun v => if mx_kn v = true then some (i, mx_v E v) else none))
theorem mx_ls_in {E : mx_E} {lv : List Value} {i : Nat} {v : Value} (h : lv[i]? = some v) (hk : mx_kn v = true) : (i, mx_v E v) ∈ mx_ls E lv := by
  have hl : i < lv.length := (List.getElem?_eq_some_iff.mp h).1
  exact List.mem_filterMap.mpr ⟨i, List.mem_range.mpr hl, by simp [h, hk]⟩
theorem mx_L.has {E : mx_E} {ls : Array Slot} {nL : Nat} {lv : List Value} (h : mx_L E ls nL lv) : lv_has ls nL (mx_ls E lv) := by
  refine ⟨h.1, h.2.1, fun q hq => ?_⟩
  obtain ⟨i, -, hi⟩ := List.mem_filterMap.mp hq
  cases hv : lv[i]? with
  | none => simp [hv] at hi
  | some v =>
    by_cases hk : mx_kn v = true
    · simp [hv, hk] at hi
      rw [← hi]
      exact h.2.2 i v hv hk
    · simp [hv, hk] at hi
theorem mx_L.of {E : mx_E} {ls : Array Slot} {nL : Nat} {lv : List Value} {l : List (Nat × Value)} (h : lv_has ls nL l) (hl : ∀ (i : Nat) (v : Value), lv[i]? = some v → mx_kn v = true → (i, mx_v E v) ∈ l) : mx_L E ls nL lv :=
  ⟨h.1, h.2.1, fun i v h1 h2 => h.2.2 (i, mx_v E v) (hl i v h1 h2)⟩
theorem mx_cat (E : mx_E) (v : Value) : (mx_v E v).category = v.category := by cases v <;> rfl
/-- no long stands at the place before -/
def mx_b4 (lv : List Value) (i : Nat) : Bool := match i with
  | 0 => true
  | j + 1 => match lv[j]? with
    | some v => v.category == 1
    | none => true
theorem mx_b4_ok {lv : List Value} {i j : Nat} {v : Value} (h : mx_b4 lv i = true) (hj : j + 1 = i) (hv : lv[j]? = some v) : v.category = 1 := by
  subst hj
  simp [mx_b4, hv] at h
  exact h
theorem mx_L.set1 {E : mx_E} {ls ls' : Array Slot} {nL i : Nat} {lv : List Value} {v : Value} (hb : mx_b4 lv i = true) (h : lv_has ls' nL ((i, mx_v E v) :: (mx_ls E lv).filter (fun q => !(q.1 == i) && !(q.1 + 1 == i && q.2.category == 2)))) : mx_L E ls' nL (lv.set i v) := by
  refine mx_L.of h (fun j u hj hk => ?_)
  by_cases hij : i = j
  · subst hij
    rw [List.getElem?_set] at hj
    by_cases hl : i < lv.length
    · simp [hl] at hj
      rw [← hj]
      exact List.mem_cons_self
    · simp [hl] at hj
  · rw [List.getElem?_set_ne hij] at hj
    refine List.mem_cons_of_mem _ (List.mem_filter.mpr ⟨mx_ls_in hj hk, ?_⟩)
    by_cases h1 : j + 1 = i
    · have hc := mx_b4_ok hb h1 hj
      simp [mx_cat, hc, Ne.symm hij]
    · simp [h1, Ne.symm hij]
theorem mx_L.set2 {E : mx_E} {ls ls' : Array Slot} {nL i : Nat} {lv : List Value} {v : Value} (hb : mx_b4 lv i = true) (h : lv_has ls' nL ((i, mx_v E v) :: (mx_ls E lv).filter (fun q => !(q.1 == i) && (!(q.1 == i + 1) && !(q.1 + 1 == i && q.2.category == 2))))) : mx_L E ls' nL ((lv.set i v).set (i + 1) (.retAddr 0)) := by
  refine mx_L.of h (fun j u hj hk => ?_)
  by_cases hj1 : i + 1 = j
  · subst hj1
    rw [List.getElem?_set] at hj
    by_cases hl : i + 1 < (lv.set i v).length
    · simp only [hl, if_true] at hj
      cases hj
      cases hk
    · have hl2 : ¬ i + 1 < lv.length := by simpa using hl
      simp [hl2] at hj
  · rw [List.getElem?_set_ne hj1] at hj
    by_cases hij : i = j
    · subst hij
      rw [List.getElem?_set] at hj
      by_cases hl : i < lv.length
      · simp [hl] at hj
        rw [← hj]
        exact List.mem_cons_self
      · simp [hl] at hj
    · rw [List.getElem?_set_ne hij] at hj
      refine List.mem_cons_of_mem _ (List.mem_filter.mpr ⟨mx_ls_in hj hk, ?_⟩)
      by_cases h1 : j + 1 = i
      · have hc := mx_b4_ok hb h1 hj
        simp [mx_cat, hc, Ne.symm hij, Ne.symm hj1]
      · simp [h1, Ne.symm hij, Ne.symm hj1]
/-- of what kind the walk is: its room, its end, what else is known -/
abbrev mx_Kd : Type := Room × (Array Value → State → List Frame → State → Prop) × (Array Value → State → Prop)
def mx_cx (E : mx_E) (y : MethodName) (cc : ByteArray) (nL : Nat) (ret : Option FieldType) (K : mx_Kd) (bc bs : Nat) (lv : List Value) (hp : List mx_C) (p : Program) (s : State) (m : MethodId) (args : Array Value) (meth : Method) (c : Code) (H : Heap) (locs : List Loc) (cells slots : Nat) (ls : Array Slot) : Prop :=
  p.tables.exec = Jvm.exec ∧ c.code = cc ∧ (c.maxLocals = nL ∧ meth.sig.returnType = ret ∧ s.vm.findClass y.cls = some m.cls ∧ (∀ w ∈ mx_gw, w.before args s = true) ∧ meth.locks = false ∧ meth.name = y.name ∧ mx_st E s ∧ K.2.2 args s ∧ E.2.2.1 ≤ s.heap.size) ∧ (H.size = E.2.2.1 + hp.length ∧ va_P E.1 vwCl (mx_w E hp) H ∧ va_S (mx_A E) s.heap H locs) ∧ mx_L E ls nL lv ∧ (cells + bc ≤ K.1.cells ∧ slots + bs ≤ K.1.slots)
def Ev (E : mx_E) (y : MethodName) (cc : ByteArray) (nL : Nat) (ret : Option FieldType) (K : mx_Kd) (bc bs : Nat) (pc : Nat) (lv st : List Value) (hp : List mx_C) : Prop :=
  ∀ (p : Program) (l : Launch) (e : Env) (s : State) (m : MethodId) (args : Array Value) (below : List Frame) (meth : Method) (c : Code) (H : Heap) (locs : List Loc) (cells slots : Nat) (ls : Array Slot), mx_cx E y cc nL ret K bc bs lv hp p s m args meth c H locs cells slots ls → W p l e K.1 s m args below meth c H locs cells slots (K.2.1 args s below) (F0 m pc ls (st.map (mx_v E)))

section EV
variable {E : mx_E} {y : MethodName} {cc : ByteArray} {nL : Nat} {ret : Option FieldType} {K : mx_Kd} {bc bs pc : Nat} {lv st : List Value} {hp : List mx_C}

theorem E_iconst {n : Int} {v : Int32} (hd : decode cc pc = .ok (.iconst n, 1)) (hv : Int32.ofInt n = v) (k : Ev E y cc nL ret K bc bs (pc + 1) lv (.int v :: st) hp) : Ev E y cc nL ret K bc bs pc lv (st) hp :=
  fun p l e s m args below meth c H locs cells slots ls X => lv_iconst X.1 X.2.1 hd hv (k _ _ _ _ _ _ _ _ _ _ _ _ _ _ X)
theorem E_bipush {n : Int} {v : Int32} (hd : decode cc pc = .ok (.bipush n, 2)) (hv : (Int8.ofInt n).toInt32 = v) (k : Ev E y cc nL ret K bc bs (pc + 2) lv (.int v :: st) hp) : Ev E y cc nL ret K bc bs pc lv (st) hp :=
  fun p l e s m args below meth c H locs cells slots ls X => lv_bipush X.1 X.2.1 hd hv (k _ _ _ _ _ _ _ _ _ _ _ _ _ _ X)
theorem E_sipush {n : Int} {v : Int32} (hd : decode cc pc = .ok (.sipush n, 3)) (hv : (Int16.ofInt n).toInt32 = v) (k : Ev E y cc nL ret K bc bs (pc + 3) lv (.int v :: st) hp) : Ev E y cc nL ret K bc bs pc lv (st) hp :=
  fun p l e s m args below meth c H locs cells slots ls X => lv_sipush X.1 X.2.1 hd hv (k _ _ _ _ _ _ _ _ _ _ _ _ _ _ X)
theorem E_lconst {n : Fin 2} {v : Int64} (hd : decode cc pc = .ok (.lconst n, 1)) (hv : Int64.ofNat (n : Nat) = v) (k : Ev E y cc nL ret K bc bs (pc + 1) lv (.long v :: st) hp) : Ev E y cc nL ret K bc bs pc lv (st) hp :=
  fun p l e s m args below meth c H locs cells slots ls X => lv_lconst X.1 X.2.1 hd hv (k _ _ _ _ _ _ _ _ _ _ _ _ _ _ X)
theorem E_null (hd : decode cc pc = .ok (.aconst_null, 1)) (k : Ev E y cc nL ret K bc bs (pc + 1) lv (.null :: st) hp) : Ev E y cc nL ret K bc bs pc lv (st) hp :=
  fun p l e s m args below meth c H locs cells slots ls X => lv_null X.1 X.2.1 hd (k _ _ _ _ _ _ _ _ _ _ _ _ _ _ X)
theorem E_ldc {n : Nat} {v : Int32} (hd : decode cc pc = .ok (.ldc n, 2)) (hw : Jvm.Cond.constant y.cls n v ∈ mx_gw) (k : Ev E y cc nL ret K bc bs (pc + 2) lv (.int v :: st) hp) : Ev E y cc nL ret K bc bs pc lv st hp :=
  fun p l e s m args below meth c H locs cells slots ls X => lv_ldc X.1 X.2.1 X.2.2.1.2.2.1 (X.2.2.1.2.2.2.1 _ hw) hd (k _ _ _ _ _ _ _ _ _ _ _ _ _ _ X)
theorem E_ldcw {n : Nat} {v : Int32} (hd : decode cc pc = .ok (.ldc_w n, 3)) (hw : Jvm.Cond.constant y.cls n v ∈ mx_gw) (k : Ev E y cc nL ret K bc bs (pc + 3) lv (.int v :: st) hp) : Ev E y cc nL ret K bc bs pc lv st hp :=
  fun p l e s m args below meth c H locs cells slots ls X => lv_ldcw X.1 X.2.1 X.2.2.1.2.2.1 (X.2.2.1.2.2.2.1 _ hw) hd (k _ _ _ _ _ _ _ _ _ _ _ _ _ _ X)
theorem E_ldc2 {n : Nat} {v : Int64} (hd : decode cc pc = .ok (.ldc2_w n, 3)) (hw : Jvm.Cond.constantLong y.cls n v ∈ mx_gw) (k : Ev E y cc nL ret K bc bs (pc + 3) lv (.long v :: st) hp) : Ev E y cc nL ret K bc bs pc lv st hp :=
  fun p l e s m args below meth c H locs cells slots ls X => lv_ldc2 X.1 X.2.1 X.2.2.1.2.2.1 (X.2.2.1.2.2.2.1 _ hw) hd (k _ _ _ _ _ _ _ _ _ _ _ _ _ _ X)
theorem E_iadd {x z : Int32} (hd : decode cc pc = .ok (.iadd, 1)) (k : Ev E y cc nL ret K bc bs (pc + 1) lv (.int (x + z) :: st) hp) : Ev E y cc nL ret K bc bs pc lv (.int z :: .int x :: st) hp :=
  fun p l e s m args below meth c H locs cells slots ls X => lv_iadd X.1 X.2.1 hd (k _ _ _ _ _ _ _ _ _ _ _ _ _ _ X)
theorem E_isub {x z : Int32} (hd : decode cc pc = .ok (.isub, 1)) (k : Ev E y cc nL ret K bc bs (pc + 1) lv (.int (x - z) :: st) hp) : Ev E y cc nL ret K bc bs pc lv (.int z :: .int x :: st) hp :=
  fun p l e s m args below meth c H locs cells slots ls X => lv_isub X.1 X.2.1 hd (k _ _ _ _ _ _ _ _ _ _ _ _ _ _ X)
theorem E_imul {x z : Int32} (hd : decode cc pc = .ok (.imul, 1)) (k : Ev E y cc nL ret K bc bs (pc + 1) lv (.int (x * z) :: st) hp) : Ev E y cc nL ret K bc bs pc lv (.int z :: .int x :: st) hp :=
  fun p l e s m args below meth c H locs cells slots ls X => lv_imul X.1 X.2.1 hd (k _ _ _ _ _ _ _ _ _ _ _ _ _ _ X)
theorem E_iand {x z : Int32} (hd : decode cc pc = .ok (.iand, 1)) (k : Ev E y cc nL ret K bc bs (pc + 1) lv (.int (x &&& z) :: st) hp) : Ev E y cc nL ret K bc bs pc lv (.int z :: .int x :: st) hp :=
  fun p l e s m args below meth c H locs cells slots ls X => lv_iand X.1 X.2.1 hd (k _ _ _ _ _ _ _ _ _ _ _ _ _ _ X)
theorem E_ior {x z : Int32} (hd : decode cc pc = .ok (.ior, 1)) (k : Ev E y cc nL ret K bc bs (pc + 1) lv (.int (x ||| z) :: st) hp) : Ev E y cc nL ret K bc bs pc lv (.int z :: .int x :: st) hp :=
  fun p l e s m args below meth c H locs cells slots ls X => lv_ior X.1 X.2.1 hd (k _ _ _ _ _ _ _ _ _ _ _ _ _ _ X)
theorem E_ixor {x z : Int32} (hd : decode cc pc = .ok (.ixor, 1)) (k : Ev E y cc nL ret K bc bs (pc + 1) lv (.int (x ^^^ z) :: st) hp) : Ev E y cc nL ret K bc bs pc lv (.int z :: .int x :: st) hp :=
  fun p l e s m args below meth c H locs cells slots ls X => lv_ixor X.1 X.2.1 hd (k _ _ _ _ _ _ _ _ _ _ _ _ _ _ X)
theorem E_ishl {x z : Int32} (hd : decode cc pc = .ok (.ishl, 1)) (k : Ev E y cc nL ret K bc bs (pc + 1) lv (.int (x <<< (z &&& 31)) :: st) hp) : Ev E y cc nL ret K bc bs pc lv (.int z :: .int x :: st) hp :=
  fun p l e s m args below meth c H locs cells slots ls X => lv_ishl X.1 X.2.1 hd (k _ _ _ _ _ _ _ _ _ _ _ _ _ _ X)
theorem E_ishr {x z : Int32} (hd : decode cc pc = .ok (.ishr, 1)) (k : Ev E y cc nL ret K bc bs (pc + 1) lv (.int (x >>> (z &&& 31)) :: st) hp) : Ev E y cc nL ret K bc bs pc lv (.int z :: .int x :: st) hp :=
  fun p l e s m args below meth c H locs cells slots ls X => lv_ishr X.1 X.2.1 hd (k _ _ _ _ _ _ _ _ _ _ _ _ _ _ X)
theorem E_iushr {x z : Int32} (hd : decode cc pc = .ok (.iushr, 1)) (k : Ev E y cc nL ret K bc bs (pc + 1) lv (.int ((x.toUInt32 >>> (z.toUInt32 &&& Int32.toUInt32 31)).toInt32) :: st) hp) : Ev E y cc nL ret K bc bs pc lv (.int z :: .int x :: st) hp :=
  fun p l e s m args below meth c H locs cells slots ls X => lv_iushr X.1 X.2.1 hd rfl (k _ _ _ _ _ _ _ _ _ _ _ _ _ _ X)
theorem E_idiv {x z : Int32} (hd : decode cc pc = .ok (.idiv, 1)) (hne : ¬ z = 0) (k : Ev E y cc nL ret K bc bs (pc + 1) lv (.int (x / z) :: st) hp) : Ev E y cc nL ret K bc bs pc lv (.int z :: .int x :: st) hp :=
  fun p l e s m args below meth c H locs cells slots ls X => lv_idiv X.1 X.2.1 hd hne (k _ _ _ _ _ _ _ _ _ _ _ _ _ _ X)
theorem E_irem {x z : Int32} (hd : decode cc pc = .ok (.irem, 1)) (hne : ¬ z = 0) (k : Ev E y cc nL ret K bc bs (pc + 1) lv (.int (x - x / z * z) :: st) hp) : Ev E y cc nL ret K bc bs pc lv (.int z :: .int x :: st) hp :=
  fun p l e s m args below meth c H locs cells slots ls X => lv_irem X.1 X.2.1 hd hne (k _ _ _ _ _ _ _ _ _ _ _ _ _ _ X)
theorem E_ineg {x : Int32} (hd : decode cc pc = .ok (.ineg, 1)) (k : Ev E y cc nL ret K bc bs (pc + 1) lv (.int (-x) :: st) hp) : Ev E y cc nL ret K bc bs pc lv (.int x :: st) hp :=
  fun p l e s m args below meth c H locs cells slots ls X => lv_ineg X.1 X.2.1 hd (k _ _ _ _ _ _ _ _ _ _ _ _ _ _ X)
theorem E_ladd {x z : Int64} (hd : decode cc pc = .ok (.ladd, 1)) (k : Ev E y cc nL ret K bc bs (pc + 1) lv (.long (x + z) :: st) hp) : Ev E y cc nL ret K bc bs pc lv (.long z :: .long x :: st) hp :=
  fun p l e s m args below meth c H locs cells slots ls X => lv_ladd X.1 X.2.1 hd (k _ _ _ _ _ _ _ _ _ _ _ _ _ _ X)
theorem E_lsub {x z : Int64} (hd : decode cc pc = .ok (.lsub, 1)) (k : Ev E y cc nL ret K bc bs (pc + 1) lv (.long (x - z) :: st) hp) : Ev E y cc nL ret K bc bs pc lv (.long z :: .long x :: st) hp :=
  fun p l e s m args below meth c H locs cells slots ls X => lv_lsub X.1 X.2.1 hd (k _ _ _ _ _ _ _ _ _ _ _ _ _ _ X)
theorem E_lmul {x z : Int64} (hd : decode cc pc = .ok (.lmul, 1)) (k : Ev E y cc nL ret K bc bs (pc + 1) lv (.long (x * z) :: st) hp) : Ev E y cc nL ret K bc bs pc lv (.long z :: .long x :: st) hp :=
  fun p l e s m args below meth c H locs cells slots ls X => lv_lmul X.1 X.2.1 hd (k _ _ _ _ _ _ _ _ _ _ _ _ _ _ X)
theorem E_land {x z : Int64} (hd : decode cc pc = .ok (.land, 1)) (k : Ev E y cc nL ret K bc bs (pc + 1) lv (.long (x &&& z) :: st) hp) : Ev E y cc nL ret K bc bs pc lv (.long z :: .long x :: st) hp :=
  fun p l e s m args below meth c H locs cells slots ls X => lv_land X.1 X.2.1 hd (k _ _ _ _ _ _ _ _ _ _ _ _ _ _ X)
theorem E_lor {x z : Int64} (hd : decode cc pc = .ok (.lor, 1)) (k : Ev E y cc nL ret K bc bs (pc + 1) lv (.long (x ||| z) :: st) hp) : Ev E y cc nL ret K bc bs pc lv (.long z :: .long x :: st) hp :=
  fun p l e s m args below meth c H locs cells slots ls X => lv_lor X.1 X.2.1 hd (k _ _ _ _ _ _ _ _ _ _ _ _ _ _ X)
theorem E_lxor {x z : Int64} (hd : decode cc pc = .ok (.lxor, 1)) (k : Ev E y cc nL ret K bc bs (pc + 1) lv (.long (x ^^^ z) :: st) hp) : Ev E y cc nL ret K bc bs pc lv (.long z :: .long x :: st) hp :=
  fun p l e s m args below meth c H locs cells slots ls X => lv_lxor X.1 X.2.1 hd (k _ _ _ _ _ _ _ _ _ _ _ _ _ _ X)
theorem E_ldiv {x z : Int64} (hd : decode cc pc = .ok (.ldiv, 1)) (hne : ¬ z = 0) (k : Ev E y cc nL ret K bc bs (pc + 1) lv (.long (x / z) :: st) hp) : Ev E y cc nL ret K bc bs pc lv (.long z :: .long x :: st) hp :=
  fun p l e s m args below meth c H locs cells slots ls X => lv_ldiv X.1 X.2.1 hd hne (k _ _ _ _ _ _ _ _ _ _ _ _ _ _ X)
theorem E_lrem {x z : Int64} (hd : decode cc pc = .ok (.lrem, 1)) (hne : ¬ z = 0) (k : Ev E y cc nL ret K bc bs (pc + 1) lv (.long (x - x / z * z) :: st) hp) : Ev E y cc nL ret K bc bs pc lv (.long z :: .long x :: st) hp :=
  fun p l e s m args below meth c H locs cells slots ls X => lv_lrem X.1 X.2.1 hd hne (k _ _ _ _ _ _ _ _ _ _ _ _ _ _ X)
theorem E_lneg {x : Int64} (hd : decode cc pc = .ok (.lneg, 1)) (k : Ev E y cc nL ret K bc bs (pc + 1) lv (.long (-x) :: st) hp) : Ev E y cc nL ret K bc bs pc lv (.long x :: st) hp :=
  fun p l e s m args below meth c H locs cells slots ls X => lv_lneg X.1 X.2.1 hd (k _ _ _ _ _ _ _ _ _ _ _ _ _ _ X)
theorem E_lshl {x : Int64} {z : Int32} (hd : decode cc pc = .ok (.lshl, 1)) (k : Ev E y cc nL ret K bc bs (pc + 1) lv (.long (x <<< (z.toInt64 &&& 63)) :: st) hp) : Ev E y cc nL ret K bc bs pc lv (.int z :: .long x :: st) hp :=
  fun p l e s m args below meth c H locs cells slots ls X => lv_lshl X.1 X.2.1 hd rfl (k _ _ _ _ _ _ _ _ _ _ _ _ _ _ X)
theorem E_lshr {x v : Int64} {z : Int32} (hd : decode cc pc = .ok (.lshr, 1)) (hv : x >>> (z.toInt64 &&& 63) = v) (k : Ev E y cc nL ret K bc bs (pc + 1) lv (.long v :: st) hp) : Ev E y cc nL ret K bc bs pc lv (.int z :: .long x :: st) hp :=
  fun p l e s m args below meth c H locs cells slots ls X => lv_lshr X.1 X.2.1 hd hv (k _ _ _ _ _ _ _ _ _ _ _ _ _ _ X)
theorem E_i2l {x : Int32} (hd : decode cc pc = .ok (.i2l, 1)) (k : Ev E y cc nL ret K bc bs (pc + 1) lv (.long x.toInt64 :: st) hp) : Ev E y cc nL ret K bc bs pc lv (.int x :: st) hp :=
  fun p l e s m args below meth c H locs cells slots ls X => lv_i2l X.1 X.2.1 hd rfl (k _ _ _ _ _ _ _ _ _ _ _ _ _ _ X)
theorem E_l2i {x : Int64} (hd : decode cc pc = .ok (.l2i, 1)) (k : Ev E y cc nL ret K bc bs (pc + 1) lv (.int x.toInt32 :: st) hp) : Ev E y cc nL ret K bc bs pc lv (.long x :: st) hp :=
  fun p l e s m args below meth c H locs cells slots ls X => lv_l2i X.1 X.2.1 hd rfl (k _ _ _ _ _ _ _ _ _ _ _ _ _ _ X)
theorem E_i2b {x : Int32} (hd : decode cc pc = .ok (.i2b, 1)) (k : Ev E y cc nL ret K bc bs (pc + 1) lv (.int x.toInt8.toInt32 :: st) hp) : Ev E y cc nL ret K bc bs pc lv (.int x :: st) hp :=
  fun p l e s m args below meth c H locs cells slots ls X => lv_i2b X.1 X.2.1 hd rfl (k _ _ _ _ _ _ _ _ _ _ _ _ _ _ X)
theorem E_i2c {x : Int32} (hd : decode cc pc = .ok (.i2c, 1)) (k : Ev E y cc nL ret K bc bs (pc + 1) lv (.int (x.toUInt32 % 65536).toInt32 :: st) hp) : Ev E y cc nL ret K bc bs pc lv (.int x :: st) hp :=
  fun p l e s m args below meth c H locs cells slots ls X => lv_i2c X.1 X.2.1 hd rfl (k _ _ _ _ _ _ _ _ _ _ _ _ _ _ X)
theorem E_lcmp {x z : Int64} (hd : decode cc pc = .ok (.lcmp, 1)) (k : Ev E y cc nL ret K bc bs (pc + 1) lv (.int (lg_cmp x z) :: st) hp) : Ev E y cc nL ret K bc bs pc lv (.long z :: .long x :: st) hp :=
  fun p l e s m args below meth c H locs cells slots ls X => W.lcmp X.1 X.2.1 hd (k _ _ _ _ _ _ _ _ _ _ _ _ _ _ X)
theorem E_dup {u : Value} (hd : decode cc pc = .ok (.dup, 1)) (hu : u.category = 1) (k : Ev E y cc nL ret K bc bs (pc + 1) lv (u :: u :: st) hp) : Ev E y cc nL ret K bc bs pc lv (u :: st) hp :=
  fun p l e s m args below meth c H locs cells slots ls X => lv_dup X.1 X.2.1 hd ((mx_cat E u).trans hu) (k _ _ _ _ _ _ _ _ _ _ _ _ _ _ X)
theorem E_pop {u : Value} (hd : decode cc pc = .ok (.pop, 1)) (hu : u.category = 1) (k : Ev E y cc nL ret K bc bs (pc + 1) lv (st) hp) : Ev E y cc nL ret K bc bs pc lv (u :: st) hp :=
  fun p l e s m args below meth c H locs cells slots ls X => lv_pop X.1 X.2.1 hd ((mx_cat E u).trans hu) (k _ _ _ _ _ _ _ _ _ _ _ _ _ _ X)
theorem E_dup2 {u u2 : Value} (hd : decode cc pc = .ok (.dup2, 1)) (hu : u.category = 1) (hu2 : u2.category = 1) (k : Ev E y cc nL ret K bc bs (pc + 1) lv (u :: u2 :: u :: u2 :: st) hp) : Ev E y cc nL ret K bc bs pc lv (u :: u2 :: st) hp :=
  fun p l e s m args below meth c H locs cells slots ls X => lv_dup2_11 X.1 X.2.1 hd ((mx_cat E u).trans hu) ((mx_cat E u2).trans hu2) (k _ _ _ _ _ _ _ _ _ _ _ _ _ _ X)
theorem E_dup2L {u : Value} (hd : decode cc pc = .ok (.dup2, 1)) (hu : u.category = 2) (k : Ev E y cc nL ret K bc bs (pc + 1) lv (u :: u :: st) hp) : Ev E y cc nL ret K bc bs pc lv (u :: st) hp :=
  fun p l e s m args below meth c H locs cells slots ls X => lv_dup2_2 X.1 X.2.1 hd ((mx_cat E u).trans hu) (k _ _ _ _ _ _ _ _ _ _ _ _ _ _ X)
theorem E_dup_x1 {u u2 : Value} (hd : decode cc pc = .ok (.dup_x1, 1)) (hu : u.category = 1) (hu2 : u2.category = 1) (k : Ev E y cc nL ret K bc bs (pc + 1) lv (u :: u2 :: u :: st) hp) : Ev E y cc nL ret K bc bs pc lv (u :: u2 :: st) hp :=
  fun p l e s m args below meth c H locs cells slots ls X => lv_dup_x1 X.1 X.2.1 hd ((mx_cat E u).trans hu) ((mx_cat E u2).trans hu2) (k _ _ _ _ _ _ _ _ _ _ _ _ _ _ X)
theorem E_if_eq {x : Int32} {off : Int} (tgt : Nat) (hd : decode cc pc = .ok (.ifCond .eq off, 3)) (ht : (pc : Int) + off = (tgt : Int)) (kt : x = 0 → Ev E y cc nL ret K bc bs tgt lv st hp) (kf : ¬ x = 0 → Ev E y cc nL ret K bc bs (pc + 3) lv st hp) : Ev E y cc nL ret K bc bs pc lv (.int x :: st) hp :=
  fun p l e s m args below meth c H locs cells slots ls X => lv_if_eq X.1 X.2.1 hd ht (fun h => kt h _ _ _ _ _ _ _ _ _ _ _ _ _ _ X) (fun h => kf h _ _ _ _ _ _ _ _ _ _ _ _ _ _ X)
theorem E_icmp_eq {x z : Int32} {off : Int} (tgt : Nat) (hd : decode cc pc = .ok (.if_icmp .eq off, 3)) (ht : (pc : Int) + off = (tgt : Int)) (kt : x = z → Ev E y cc nL ret K bc bs tgt lv st hp) (kf : ¬ x = z → Ev E y cc nL ret K bc bs (pc + 3) lv st hp) : Ev E y cc nL ret K bc bs pc lv (.int z :: .int x :: st) hp :=
  fun p l e s m args below meth c H locs cells slots ls X => lv_icmp_eq X.1 X.2.1 hd ht (fun h => kt h _ _ _ _ _ _ _ _ _ _ _ _ _ _ X) (fun h => kf h _ _ _ _ _ _ _ _ _ _ _ _ _ _ X)
theorem E_if_ne {x : Int32} {off : Int} (tgt : Nat) (hd : decode cc pc = .ok (.ifCond .ne off, 3)) (ht : (pc : Int) + off = (tgt : Int)) (kt : ¬ x = 0 → Ev E y cc nL ret K bc bs tgt lv st hp) (kf : x = 0 → Ev E y cc nL ret K bc bs (pc + 3) lv st hp) : Ev E y cc nL ret K bc bs pc lv (.int x :: st) hp :=
  fun p l e s m args below meth c H locs cells slots ls X => lv_if_ne X.1 X.2.1 hd ht (fun h => kt h _ _ _ _ _ _ _ _ _ _ _ _ _ _ X) (fun h => kf h _ _ _ _ _ _ _ _ _ _ _ _ _ _ X)
theorem E_icmp_ne {x z : Int32} {off : Int} (tgt : Nat) (hd : decode cc pc = .ok (.if_icmp .ne off, 3)) (ht : (pc : Int) + off = (tgt : Int)) (kt : ¬ x = z → Ev E y cc nL ret K bc bs tgt lv st hp) (kf : x = z → Ev E y cc nL ret K bc bs (pc + 3) lv st hp) : Ev E y cc nL ret K bc bs pc lv (.int z :: .int x :: st) hp :=
  fun p l e s m args below meth c H locs cells slots ls X => lv_icmp_ne X.1 X.2.1 hd ht (fun h => kt h _ _ _ _ _ _ _ _ _ _ _ _ _ _ X) (fun h => kf h _ _ _ _ _ _ _ _ _ _ _ _ _ _ X)
theorem E_if_lt {x : Int32} {off : Int} (tgt : Nat) (hd : decode cc pc = .ok (.ifCond .lt off, 3)) (ht : (pc : Int) + off = (tgt : Int)) (kt : x < 0 → Ev E y cc nL ret K bc bs tgt lv st hp) (kf : ¬ x < 0 → Ev E y cc nL ret K bc bs (pc + 3) lv st hp) : Ev E y cc nL ret K bc bs pc lv (.int x :: st) hp :=
  fun p l e s m args below meth c H locs cells slots ls X => lv_if_lt X.1 X.2.1 hd ht (fun h => kt h _ _ _ _ _ _ _ _ _ _ _ _ _ _ X) (fun h => kf h _ _ _ _ _ _ _ _ _ _ _ _ _ _ X)
theorem E_icmp_lt {x z : Int32} {off : Int} (tgt : Nat) (hd : decode cc pc = .ok (.if_icmp .lt off, 3)) (ht : (pc : Int) + off = (tgt : Int)) (kt : x < z → Ev E y cc nL ret K bc bs tgt lv st hp) (kf : ¬ x < z → Ev E y cc nL ret K bc bs (pc + 3) lv st hp) : Ev E y cc nL ret K bc bs pc lv (.int z :: .int x :: st) hp :=
  fun p l e s m args below meth c H locs cells slots ls X => lv_icmp_lt X.1 X.2.1 hd ht (fun h => kt h _ _ _ _ _ _ _ _ _ _ _ _ _ _ X) (fun h => kf h _ _ _ _ _ _ _ _ _ _ _ _ _ _ X)
theorem E_if_ge {x : Int32} {off : Int} (tgt : Nat) (hd : decode cc pc = .ok (.ifCond .ge off, 3)) (ht : (pc : Int) + off = (tgt : Int)) (kt : x ≥ 0 → Ev E y cc nL ret K bc bs tgt lv st hp) (kf : ¬ x ≥ 0 → Ev E y cc nL ret K bc bs (pc + 3) lv st hp) : Ev E y cc nL ret K bc bs pc lv (.int x :: st) hp :=
  fun p l e s m args below meth c H locs cells slots ls X => lv_if_ge X.1 X.2.1 hd ht (fun h => kt h _ _ _ _ _ _ _ _ _ _ _ _ _ _ X) (fun h => kf h _ _ _ _ _ _ _ _ _ _ _ _ _ _ X)
theorem E_icmp_ge {x z : Int32} {off : Int} (tgt : Nat) (hd : decode cc pc = .ok (.if_icmp .ge off, 3)) (ht : (pc : Int) + off = (tgt : Int)) (kt : x ≥ z → Ev E y cc nL ret K bc bs tgt lv st hp) (kf : ¬ x ≥ z → Ev E y cc nL ret K bc bs (pc + 3) lv st hp) : Ev E y cc nL ret K bc bs pc lv (.int z :: .int x :: st) hp :=
  fun p l e s m args below meth c H locs cells slots ls X => lv_icmp_ge X.1 X.2.1 hd ht (fun h => kt h _ _ _ _ _ _ _ _ _ _ _ _ _ _ X) (fun h => kf h _ _ _ _ _ _ _ _ _ _ _ _ _ _ X)
theorem E_if_gt {x : Int32} {off : Int} (tgt : Nat) (hd : decode cc pc = .ok (.ifCond .gt off, 3)) (ht : (pc : Int) + off = (tgt : Int)) (kt : x > 0 → Ev E y cc nL ret K bc bs tgt lv st hp) (kf : ¬ x > 0 → Ev E y cc nL ret K bc bs (pc + 3) lv st hp) : Ev E y cc nL ret K bc bs pc lv (.int x :: st) hp :=
  fun p l e s m args below meth c H locs cells slots ls X => lv_if_gt X.1 X.2.1 hd ht (fun h => kt h _ _ _ _ _ _ _ _ _ _ _ _ _ _ X) (fun h => kf h _ _ _ _ _ _ _ _ _ _ _ _ _ _ X)
theorem E_icmp_gt {x z : Int32} {off : Int} (tgt : Nat) (hd : decode cc pc = .ok (.if_icmp .gt off, 3)) (ht : (pc : Int) + off = (tgt : Int)) (kt : x > z → Ev E y cc nL ret K bc bs tgt lv st hp) (kf : ¬ x > z → Ev E y cc nL ret K bc bs (pc + 3) lv st hp) : Ev E y cc nL ret K bc bs pc lv (.int z :: .int x :: st) hp :=
  fun p l e s m args below meth c H locs cells slots ls X => lv_icmp_gt X.1 X.2.1 hd ht (fun h => kt h _ _ _ _ _ _ _ _ _ _ _ _ _ _ X) (fun h => kf h _ _ _ _ _ _ _ _ _ _ _ _ _ _ X)
theorem E_if_le {x : Int32} {off : Int} (tgt : Nat) (hd : decode cc pc = .ok (.ifCond .le off, 3)) (ht : (pc : Int) + off = (tgt : Int)) (kt : x ≤ 0 → Ev E y cc nL ret K bc bs tgt lv st hp) (kf : ¬ x ≤ 0 → Ev E y cc nL ret K bc bs (pc + 3) lv st hp) : Ev E y cc nL ret K bc bs pc lv (.int x :: st) hp :=
  fun p l e s m args below meth c H locs cells slots ls X => lv_if_le X.1 X.2.1 hd ht (fun h => kt h _ _ _ _ _ _ _ _ _ _ _ _ _ _ X) (fun h => kf h _ _ _ _ _ _ _ _ _ _ _ _ _ _ X)
theorem E_icmp_le {x z : Int32} {off : Int} (tgt : Nat) (hd : decode cc pc = .ok (.if_icmp .le off, 3)) (ht : (pc : Int) + off = (tgt : Int)) (kt : x ≤ z → Ev E y cc nL ret K bc bs tgt lv st hp) (kf : ¬ x ≤ z → Ev E y cc nL ret K bc bs (pc + 3) lv st hp) : Ev E y cc nL ret K bc bs pc lv (.int z :: .int x :: st) hp :=
  fun p l e s m args below meth c H locs cells slots ls X => lv_icmp_le X.1 X.2.1 hd ht (fun h => kt h _ _ _ _ _ _ _ _ _ _ _ _ _ _ X) (fun h => kf h _ _ _ _ _ _ _ _ _ _ _ _ _ _ X)
theorem E_goto {off : Int} (tgt : Nat) (hd : decode cc pc = .ok (.goto off, 3)) (ht : (pc : Int) + off = (tgt : Int)) (k : Ev E y cc nL ret K bc bs tgt lv st hp) : Ev E y cc nL ret K bc bs pc lv st hp :=
  fun p l e s m args below meth c H locs cells slots ls X => lv_goto X.1 X.2.1 hd ht (k _ _ _ _ _ _ _ _ _ _ _ _ _ _ X)
theorem E_ifnull_r {x : Nat} {off : Int} (hd : decode cc pc = .ok (.ifnull off, 3)) (k : Ev E y cc nL ret K bc bs (pc + 3) lv st hp) : Ev E y cc nL ret K bc bs pc lv (.ref x :: st) hp :=
  fun p l e s m args below meth c H locs cells slots ls X => lv_ifnull X.1 X.2.1 hd (k _ _ _ _ _ _ _ _ _ _ _ _ _ _ X)
theorem E_ifnonnull_n {off : Int} (hd : decode cc pc = .ok (.ifnonnull off, 3)) (k : Ev E y cc nL ret K bc bs (pc + 3) lv st hp) : Ev E y cc nL ret K bc bs pc lv (.null :: st) hp :=
  fun p l e s m args below meth c H locs cells slots ls X => lv_ifnonnullN X.1 X.2.1 hd (k _ _ _ _ _ _ _ _ _ _ _ _ _ _ X)
theorem E_ifnull_n {off : Int} (tgt : Nat) (hd : decode cc pc = .ok (.ifnull off, 3)) (ht : (pc : Int) + off = (tgt : Int)) (k : Ev E y cc nL ret K bc bs tgt lv st hp) : Ev E y cc nL ret K bc bs pc lv (.null :: st) hp :=
  fun p l e s m args below meth c H locs cells slots ls X => lv_ifnullN X.1 X.2.1 hd ht (k _ _ _ _ _ _ _ _ _ _ _ _ _ _ X)
theorem E_ifnonnull_r {x : Nat} {off : Int} (tgt : Nat) (hd : decode cc pc = .ok (.ifnonnull off, 3)) (ht : (pc : Int) + off = (tgt : Int)) (k : Ev E y cc nL ret K bc bs tgt lv st hp) : Ev E y cc nL ret K bc bs pc lv (.ref x :: st) hp :=
  fun p l e s m args below meth c H locs cells slots ls X => lv_ifnonnull X.1 X.2.1 hd ht (k _ _ _ _ _ _ _ _ _ _ _ _ _ _ X)
theorem E_tableIn {dflt lo hi : Int} {offs : Array Int} {len : Nat} {x : Int32} {off : Int} (tgt : Nat) (hd : decode cc pc = .ok (.tableswitch dflt lo hi offs, len)) (h1 : ¬ x.toInt < lo) (h2 : ¬ hi < x.toInt) (ho : offs[(x.toInt - lo).toNat]? = some off) (ht : (pc : Int) + off = (tgt : Int)) (k : Ev E y cc nL ret K bc bs tgt lv st hp) : Ev E y cc nL ret K bc bs pc lv (.int x :: st) hp :=
  fun p l e s m args below meth c H locs cells slots ls X => lv_tableIn X.1 X.2.1 hd h1 h2 ho ht (k _ _ _ _ _ _ _ _ _ _ _ _ _ _ X)
theorem E_tableOut {dflt lo hi : Int} {offs : Array Int} {len : Nat} {x : Int32} (tgt : Nat) (hd : decode cc pc = .ok (.tableswitch dflt lo hi offs, len)) (h : x.toInt < lo ∨ hi < x.toInt) (ht : (pc : Int) + dflt = (tgt : Int)) (k : Ev E y cc nL ret K bc bs tgt lv st hp) : Ev E y cc nL ret K bc bs pc lv (.int x :: st) hp :=
  fun p l e s m args below meth c H locs cells slots ls X => lv_tableOut X.1 X.2.1 hd h ht (k _ _ _ _ _ _ _ _ _ _ _ _ _ _ X)
theorem E_lookup {dflt : Int} {ps : Array (Int × Int)} {len : Nat} {x : Int32} {off : Int} (tgt : Nat) (hd : decode cc pc = .ok (.lookupswitch dflt ps, len)) (hps : (ps.toList.zip (ps.toList.drop 1)).all (fun (a, next) => a.1 < next.1) = true) (ho : Op.lookupswitch.offset ps.toList dflt x.toInt = off) (ht : (pc : Int) + off = (tgt : Int)) (k : Ev E y cc nL ret K bc bs tgt lv st hp) : Ev E y cc nL ret K bc bs pc lv (.int x :: st) hp :=
  fun p l e s m args below meth c H locs cells slots ls X => lv_lookup X.1 X.2.1 hd hps ho ht (k _ _ _ _ _ _ _ _ _ _ _ _ _ _ X)
theorem mx_read {E : mx_E} {ls : Array Slot} {nL i : Nat} {lv : List Value} {v : Value} (h : mx_L E ls nL lv) (hi : lv[i]? = some v) (hk : mx_kn v = true) : ls[i]? = some (.val (mx_v E v)) := h.2.2 i v hi hk
theorem E_iload_n {q : Fin 4} {x : Int32} (i : Nat) (hd : decode cc pc = .ok (.iload_n q, 1)) (hi : (q : Nat) = i) (h : lv[i]? = some (.int x)) (k : Ev E y cc nL ret K bc bs (pc + 1) lv (.int x :: st) hp) : Ev E y cc nL ret K bc bs pc lv st hp :=
  fun p l e s m args below meth c H locs cells slots ls X => lv_iload_n X.1 X.2.1 hd hi (mx_read X.2.2.2.2.1 h rfl) (k _ _ _ _ _ _ _ _ _ _ _ _ _ _ X)
theorem E_iload {i : Nat} {x : Int32} (hd : decode cc pc = .ok (.iload i, 2)) (h : lv[i]? = some (.int x)) (k : Ev E y cc nL ret K bc bs (pc + 2) lv (.int x :: st) hp) : Ev E y cc nL ret K bc bs pc lv st hp :=
  fun p l e s m args below meth c H locs cells slots ls X => lv_iload X.1 X.2.1 hd (mx_read X.2.2.2.2.1 h rfl) (k _ _ _ _ _ _ _ _ _ _ _ _ _ _ X)
theorem E_lload_n {q : Fin 4} {x : Int64} (i : Nat) (hd : decode cc pc = .ok (.lload_n q, 1)) (hi : (q : Nat) = i) (h : lv[i]? = some (.long x)) (k : Ev E y cc nL ret K bc bs (pc + 1) lv (.long x :: st) hp) : Ev E y cc nL ret K bc bs pc lv st hp :=
  fun p l e s m args below meth c H locs cells slots ls X => lv_lload_n X.1 X.2.1 hd hi (mx_read X.2.2.2.2.1 h rfl) (k _ _ _ _ _ _ _ _ _ _ _ _ _ _ X)
theorem E_lload {i : Nat} {x : Int64} (hd : decode cc pc = .ok (.lload i, 2)) (h : lv[i]? = some (.long x)) (k : Ev E y cc nL ret K bc bs (pc + 2) lv (.long x :: st) hp) : Ev E y cc nL ret K bc bs pc lv st hp :=
  fun p l e s m args below meth c H locs cells slots ls X => lv_lload X.1 X.2.1 hd (mx_read X.2.2.2.2.1 h rfl) (k _ _ _ _ _ _ _ _ _ _ _ _ _ _ X)
theorem E_aload_n {q : Fin 4} {x : Nat} (i : Nat) (hd : decode cc pc = .ok (.aload_n q, 1)) (hi : (q : Nat) = i) (h : lv[i]? = some (.ref x)) (k : Ev E y cc nL ret K bc bs (pc + 1) lv (.ref x :: st) hp) : Ev E y cc nL ret K bc bs pc lv st hp :=
  fun p l e s m args below meth c H locs cells slots ls X => lv_aload_n X.1 X.2.1 hd hi (mx_read X.2.2.2.2.1 h rfl) (k _ _ _ _ _ _ _ _ _ _ _ _ _ _ X)
theorem E_aload {i : Nat} {x : Nat} (hd : decode cc pc = .ok (.aload i, 2)) (h : lv[i]? = some (.ref x)) (k : Ev E y cc nL ret K bc bs (pc + 2) lv (.ref x :: st) hp) : Ev E y cc nL ret K bc bs pc lv st hp :=
  fun p l e s m args below meth c H locs cells slots ls X => lv_aload X.1 X.2.1 hd (mx_read X.2.2.2.2.1 h rfl) (k _ _ _ _ _ _ _ _ _ _ _ _ _ _ X)
theorem E_aload_nN {q : Fin 4}  (i : Nat) (hd : decode cc pc = .ok (.aload_n q, 1)) (hi : (q : Nat) = i) (h : lv[i]? = some (.null)) (k : Ev E y cc nL ret K bc bs (pc + 1) lv (.null :: st) hp) : Ev E y cc nL ret K bc bs pc lv st hp :=
  fun p l e s m args below meth c H locs cells slots ls X => lv_aload_nN X.1 X.2.1 hd hi (mx_read X.2.2.2.2.1 h rfl) (k _ _ _ _ _ _ _ _ _ _ _ _ _ _ X)
theorem E_aloadN {i : Nat}  (hd : decode cc pc = .ok (.aload i, 2)) (h : lv[i]? = some (.null)) (k : Ev E y cc nL ret K bc bs (pc + 2) lv (.null :: st) hp) : Ev E y cc nL ret K bc bs pc lv st hp :=
  fun p l e s m args below meth c H locs cells slots ls X => lv_aloadN X.1 X.2.1 hd (mx_read X.2.2.2.2.1 h rfl) (k _ _ _ _ _ _ _ _ _ _ _ _ _ _ X)
theorem E_aload_nX {q : Fin 4} {x : UInt32} (i : Nat) (hd : decode cc pc = .ok (.aload_n q, 1)) (hi : (q : Nat) = i) (h : lv[i]? = some (.float x)) (k : Ev E y cc nL ret K bc bs (pc + 1) lv (.float x :: st) hp) : Ev E y cc nL ret K bc bs pc lv st hp :=
  fun p l e s m args below meth c H locs cells slots ls X => lv_aload_n X.1 X.2.1 hd hi (mx_read X.2.2.2.2.1 h rfl) (k _ _ _ _ _ _ _ _ _ _ _ _ _ _ X)
theorem E_istore_n {q : Fin 4} {x : Int32} (i : Nat) (hd : decode cc pc = .ok (.istore_n q, 1)) (hi : (q : Nat) = i) (hn : i < nL) (hb : mx_b4 lv i = true) (k : Ev E y cc nL ret K bc bs (pc + 1) (lv.set i (.int x)) st hp) : Ev E y cc nL ret K bc bs pc lv (.int x :: st) hp :=
  fun p l e s m args below meth c H locs cells slots ls X => lv_istore_n X.1 X.2.1 hd hi X.2.2.2.2.1.has hn rfl (fun ls' hl => k _ _ _ _ _ _ _ _ _ _ _ _ _ _ ⟨X.1, X.2.1, X.2.2.1, X.2.2.2.1, mx_L.set1 (ls := ls) (v := .int x) hb hl, X.2.2.2.2.2⟩)
theorem E_istore {i : Nat} {x : Int32} (hd : decode cc pc = .ok (.istore i, 2)) (hn : i < nL) (hb : mx_b4 lv i = true) (k : Ev E y cc nL ret K bc bs (pc + 2) (lv.set i (.int x)) st hp) : Ev E y cc nL ret K bc bs pc lv (.int x :: st) hp :=
  fun p l e s m args below meth c H locs cells slots ls X => lv_istore X.1 X.2.1 hd X.2.2.2.2.1.has hn rfl (fun ls' hl => k _ _ _ _ _ _ _ _ _ _ _ _ _ _ ⟨X.1, X.2.1, X.2.2.1, X.2.2.2.1, mx_L.set1 (ls := ls) (v := .int x) hb hl, X.2.2.2.2.2⟩)
theorem E_lstore_n {q : Fin 4} {x : Int64} (i : Nat) (hd : decode cc pc = .ok (.lstore_n q, 1)) (hi : (q : Nat) = i) (hn : i + 1 < nL) (hb : mx_b4 lv i = true) (k : Ev E y cc nL ret K bc bs (pc + 1) ((lv.set i (.long x)).set (i + 1) (.retAddr 0)) st hp) : Ev E y cc nL ret K bc bs pc lv (.long x :: st) hp :=
  fun p l e s m args below meth c H locs cells slots ls X => lv_lstore_n X.1 X.2.1 hd hi X.2.2.2.2.1.has hn rfl (fun ls' hl => k _ _ _ _ _ _ _ _ _ _ _ _ _ _ ⟨X.1, X.2.1, X.2.2.1, X.2.2.2.1, mx_L.set2 (ls := ls) (v := .long x) hb hl, X.2.2.2.2.2⟩)
theorem E_lstore {i : Nat} {x : Int64} (hd : decode cc pc = .ok (.lstore i, 2)) (hn : i + 1 < nL) (hb : mx_b4 lv i = true) (k : Ev E y cc nL ret K bc bs (pc + 2) ((lv.set i (.long x)).set (i + 1) (.retAddr 0)) st hp) : Ev E y cc nL ret K bc bs pc lv (.long x :: st) hp :=
  fun p l e s m args below meth c H locs cells slots ls X => lv_lstore X.1 X.2.1 hd X.2.2.2.2.1.has hn rfl (fun ls' hl => k _ _ _ _ _ _ _ _ _ _ _ _ _ _ ⟨X.1, X.2.1, X.2.2.1, X.2.2.2.1, mx_L.set2 (ls := ls) (v := .long x) hb hl, X.2.2.2.2.2⟩)
theorem E_astore_n {q : Fin 4} {x : Nat} (i : Nat) (hd : decode cc pc = .ok (.astore_n q, 1)) (hi : (q : Nat) = i) (hn : i < nL) (hb : mx_b4 lv i = true) (k : Ev E y cc nL ret K bc bs (pc + 1) (lv.set i (.ref x)) st hp) : Ev E y cc nL ret K bc bs pc lv (.ref x :: st) hp :=
  fun p l e s m args below meth c H locs cells slots ls X => lv_astore_n X.1 X.2.1 hd hi X.2.2.2.2.1.has hn rfl (fun ls' hl => k _ _ _ _ _ _ _ _ _ _ _ _ _ _ ⟨X.1, X.2.1, X.2.2.1, X.2.2.2.1, mx_L.set1 (ls := ls) (v := .ref x) hb hl, X.2.2.2.2.2⟩)
theorem E_astore {i : Nat} {x : Nat} (hd : decode cc pc = .ok (.astore i, 2)) (hn : i < nL) (hb : mx_b4 lv i = true) (k : Ev E y cc nL ret K bc bs (pc + 2) (lv.set i (.ref x)) st hp) : Ev E y cc nL ret K bc bs pc lv (.ref x :: st) hp :=
  fun p l e s m args below meth c H locs cells slots ls X => lv_astore X.1 X.2.1 hd X.2.2.2.2.1.has hn rfl (fun ls' hl => k _ _ _ _ _ _ _ _ _ _ _ _ _ _ ⟨X.1, X.2.1, X.2.2.1, X.2.2.2.1, mx_L.set1 (ls := ls) (v := .ref x) hb hl, X.2.2.2.2.2⟩)
theorem E_astore_nN {q : Fin 4} (i : Nat) (hd : decode cc pc = .ok (.astore_n q, 1)) (hi : (q : Nat) = i) (hn : i < nL) (hb : mx_b4 lv i = true) (k : Ev E y cc nL ret K bc bs (pc + 1) (lv.set i .null) st hp) : Ev E y cc nL ret K bc bs pc lv (.null :: st) hp :=
  fun p l e s m args below meth c H locs cells slots ls X => lv_astore_nN X.1 X.2.1 hd hi X.2.2.2.2.1.has hn rfl (fun ls' hl => k _ _ _ _ _ _ _ _ _ _ _ _ _ _ ⟨X.1, X.2.1, X.2.2.1, X.2.2.2.1, mx_L.set1 (ls := ls) (v := .null) hb hl, X.2.2.2.2.2⟩)
theorem E_iinc {i : Nat} {n : Int} {x : Int32} (hd : decode cc pc = .ok (.iinc i n, 3)) (h : lv[i]? = some (.int x)) (hn : i < nL) (hb : mx_b4 lv i = true) (k : Ev E y cc nL ret K bc bs (pc + 3) (lv.set i (.int (x + Int32.ofInt n))) st hp) : Ev E y cc nL ret K bc bs pc lv st hp := by
  intro p l e s m args below meth c H locs cells slots ls X
  obtain ⟨j, hj⟩ := List.getElem?_of_mem (mx_ls_in (E := E) h rfl)
  exact lv_iinc X.1 X.2.1 hd X.2.2.2.2.1.has hj rfl hn rfl (fun ls' hl => k _ _ _ _ _ _ _ _ _ _ _ _ _ _ ⟨X.1, X.2.1, X.2.2.1, X.2.2.2.1, mx_L.set1 (ls := ls) (v := .int _) hb hl, X.2.2.2.2.2⟩)
/-- fewer things known of the locals -/
theorem E_less (lv' : List Value) (h : ∀ (i : Nat) (v : Value), lv'[i]? = some v → mx_kn v = true → lv[i]? = some v) (k : Ev E y cc nL ret K bc bs pc lv' st hp) : Ev E y cc nL ret K bc bs pc lv st hp :=
  fun p l e s m args below meth c H locs cells slots ls X => k _ _ _ _ _ _ _ _ _ _ _ _ _ _ ⟨X.1, X.2.1, X.2.2.1, X.2.2.2.1, ⟨X.2.2.2.2.1.1, X.2.2.2.2.1.2.1, fun i v h1 h2 => X.2.2.2.2.1.2.2 i v (h i v h1 h2) h2⟩, X.2.2.2.2.2⟩
theorem E_eq {lv' st' : List Value} {hp' : List mx_C} {pc' : Nat} (h1 : pc = pc') (h2 : lv = lv') (h3 : st = st') (h4 : hp = hp') (k : Ev E y cc nL ret K bc bs pc' lv' st' hp') : Ev E y cc nL ret K bc bs pc lv st hp := by
  subst h1; subst h2; subst h3; subst h4; exact k
theorem E_topi {x : Int32} (k : ∀ z : Int32, z = x → Ev E y cc nL ret K bc bs pc lv (.int z :: st) hp) : Ev E y cc nL ret K bc bs pc lv (.int x :: st) hp := k x rfl
theorem E_topl {x : Int64} (k : ∀ z : Int64, z = x → Ev E y cc nL ret K bc bs pc lv (.long z :: st) hp) : Ev E y cc nL ret K bc bs pc lv (.long x :: st) hp := k x rfl
end EV
