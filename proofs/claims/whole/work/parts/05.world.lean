/-! the evaluator's worlds over the machine's heap -/
/-- the address of a code; lo: the first cell made, b: the script -/
def eA (lo b : Nat) (r : Nat) : Nat := match r with
  | 0 => 0
  | 1 => b
  | k + 2 => lo + k
def eOpt (lo b : Nat) (r : Nat) : Option Nat := match r with
  | 0 => none
  | k + 1 => some (eA lo b (k + 1))
def eVal (lo b : Nat) (v : eV) : Value := match v with
  | .inl x => .int x
  | .inr (.inl x) => .long x
  | .inr (.inr r) => va_rf (eOpt lo b r)
theorem eVal_cat (lo b : Nat) (v : eV) : (eVal lo b v).category = ecat v := by
  rcases v with x | x | r
  · rfl
  · rfl
  · cases r <;> rfl
def eRefs : List (List Bool) := [[false, true, true, true, true, true, true, false, true, false, false, false], [true, true, true], [false, false, false, false, false, false, true, false], [true, true, true], [true, true, true, true], [true, false, false], [false, false, false, false, false, false], [true, true, true, true, true], [false, false, false, false, false, true, true], [true, true, true, true, true, true, true, true], [true, true, true, true, true, true, true, true, true, true, true, true, true, true, true, true, true, true, false, true, true, true, true, true, true, true, true, true, true, true, true, true, false, true, true, true, true, true, false, true, false, true, false]]
def eRef (k j : Nat) : Bool := (eRefs.getD k []).getD j false
/-- what lies at a code -/
def eEnt (lo b : Nat) (cy : Nat → ClassId) (h : eH) (r : Nat) : va_E :=
  if (h.2.1 r).1 < 11 then .inr ((h.2.1 r).1, (List.range (eNF (h.2.1 r).1)).map (fun j => if eRef (h.2.1 r).1 j = true then eVal lo b (.inr (.inr (h.2.2.2.1 r j))) else .int (h.2.2.1 r j)))
  else .inl (cy (h.2.1 r).1, ((h.2.1 r).2, if (h.2.1 r).1 = 12 then .inr (.inl (h.2.2.2.2 r)) else if (h.2.1 r).1 = 11 ∨ (h.2.1 r).1 = 13 then .inl (h.2.2.1 r) else .inr (.inr (.inr (.inr (fun j => eOpt lo b (h.2.2.2.1 r j)))))))
def eWo (lo b : Nat) (cy : Nat → ClassId) (h : eH) : va_W := (List.range (h.1 - 2)).map (fun k => (lo + k, eEnt lo b cy h (k + 2)))
def eTys (cy : Nat → ClassId) : List (ClassId × FieldType) := [(cy 11, .int), (cy 12, .long), (cy 13, .boolean), (cy 14, .object RX0), (cy 15, .object RX2), (cy 16, .object RX7), (cy 17, .array .int)]
/-- the heap holds what the evaluator's heap says -/
def eRel (ex : Bool) (D : va_G) (cy : Nat → ClassId) (lo b : Nat) (h : eH) (H : Heap) : Prop :=
  va_P D vwCl (eWo lo b cy h) H ∧ (∀ r, (h.2.1 r).1 < 18 → 2 ≤ r ∧ r < h.1) ∧ 2 ≤ h.1 ∧ (ex = true → H.size = lo + (h.1 - 2))
theorem eWo_get {lo b : Nat} {cy : Nat → ClassId} {h : eH} {r : Nat} (h2 : 2 ≤ r) (hr : r < h.1) : (eWo lo b cy h)[r - 2]? = some (eA lo b r, eEnt lo b cy h r) := by
  obtain ⟨k, rfl⟩ : ∃ k, r = k + 2 := ⟨r - 2, by omega⟩
  unfold eWo
  rw [List.getElem?_map, List.getElem?_range (by omega)]
  rfl
theorem eWo_D (lo b : Nat) (cy : Nat → ClassId) (h : eH) : va_D (fun q => lo ≤ q) (eWo lo b cy h) := by
  refine ⟨fun i j x y hi hj hxy => ?_, fun k q hk => ?_⟩
  · unfold eWo at hi hj
    rw [List.getElem?_map] at hi hj
    obtain ⟨a, ha, rfl⟩ := Option.map_eq_some_iff.mp hi
    obtain ⟨c, hc, rfl⟩ := Option.map_eq_some_iff.mp hj
    have h1 := List.getElem?_eq_some_iff.mp ha
    have h2 := List.getElem?_eq_some_iff.mp hc
    obtain ⟨l1, e1⟩ := h1
    obtain ⟨l2, e2⟩ := h2
    rw [List.getElem_range] at e1 e2
    have hxy : lo + a = lo + c := hxy
    omega
  · unfold eWo at hk
    rw [List.getElem?_map] at hk
    obtain ⟨a, ha, rfl⟩ := Option.map_eq_some_iff.mp hk
    exact Nat.le_add_right lo a
/-- one cell is put anew -/
theorem eWo_set {lo b : Nat} {cy : Nat → ClassId} {h h' : eH} {r : Nat} {e : va_E} (h2 : 2 ≤ r) (hr : r < h.1) (h1 : h'.1 = h.1) (he : eEnt lo b cy h' r = e) (ho : ∀ r', r' ≠ r → eEnt lo b cy h' r' = eEnt lo b cy h r') :
    (eWo lo b cy h).set (r - 2) (eA lo b r, e) = eWo lo b cy h' := by
  obtain ⟨k, rfl⟩ : ∃ k, r = k + 2 := ⟨r - 2, by omega⟩
  unfold eWo
  rw [h1]
  apply List.ext_getElem?
  intro i
  by_cases hi : i = k
  · subst hi
    rw [Nat.add_sub_cancel, List.getElem?_set_self (by rw [List.length_map, List.length_range]; omega), List.getElem?_map, List.getElem?_range (by omega), Option.map_some, he]
    rfl
  · rw [List.getElem?_set_ne (by omega), List.getElem?_map, List.getElem?_map]
    by_cases hl : i < h.1 - 2
    · rw [List.getElem?_range hl, Option.map_some, Option.map_some, ho (i + 2) (by omega)]
    · rw [List.getElem?_eq_none (by simp; omega)]
      rfl
theorem eget_mem {ls : eL} {i : Nat} {v : eV} (h : eget ls i = some v) : (i, v) ∈ ls := by
  induction ls with
  | nil => cases h
  | cons x t ih =>
    unfold eget at h
    cases hb : Nat.beq x.1 i with
    | true =>
      rw [hb] at h
      have h1 := Nat.eq_of_beq_eq_true hb
      have h2 := Option.some.inj h
      rw [← h1, ← h2]
      exact List.mem_cons_self
    | false =>
      rw [hb] at h
      exact List.mem_cons_of_mem _ (ih h)
theorem elk_mem {cd : eC} {i : Nat} {v : eE} (h : elk cd i = some v) : (i, v) ∈ cd := by
  induction cd with
  | nil => cases h
  | cons x t ih =>
    unfold elk at h
    cases hb : Nat.beq x.1 i with
    | true =>
      rw [hb] at h
      have h1 := Nat.eq_of_beq_eq_true hb
      have h2 := Option.some.inj h
      rw [← h1, ← h2]
      exact List.mem_cons_self
    | false =>
      rw [hb] at h
      exact List.mem_cons_of_mem _ (ih h)
def eMap (lo b : Nat) (ls : eL) : List (Nat × Value) := ls.map (fun q => (q.1, eVal lo b q.2))
theorem eMap_get {lo b nL : Nat} {ls : eL} {S : Array Slot} {i : Nat} {v : eV} (h : lv_has S nL (eMap lo b ls)) (hg : eget ls i = some v) : S[i]? = some (.val (eVal lo b v)) :=
  h.2.2 (i, eVal lo b v) (List.mem_map.mpr ⟨(i, v), eget_mem hg, rfl⟩)
theorem e_bq (x y : Nat) : (x == y) = Nat.beq x y := by
  rw [Bool.eq_iff_iff, beq_iff_eq]
  exact ⟨fun h => by rw [h]; exact Nat.beq_refl y, fun h => Nat.eq_of_beq_eq_true h⟩
theorem eMap_set (lo b i : Nat) (v : eV) (ls : eL) : (i, eVal lo b v) :: (eMap lo b ls).filter (fun q => !(q.1 == i) && !(q.1 + 1 == i && q.2.category == 2)) = eMap lo b (eset i v ls) := by
  unfold eMap eset
  rw [List.map_cons, List.filter_map]
  congr 2
  refine List.filter_congr fun q _ => ?_
  simp only [Function.comp, eVal_cat, e_bq]
theorem eMap_setJ (lo b i : Nat) (v : eV) (ls : eL) : (i, eVal lo b v) :: (eMap lo b ls).filter (fun q => !(q.1 == i) && (!(q.1 == i + 1) && !(q.1 + 1 == i && q.2.category == 2))) = eMap lo b (esetJ i v ls) := by
  unfold eMap esetJ
  rw [List.map_cons, List.filter_map]
  congr 2
  refine List.filter_congr fun q _ => ?_
  simp only [Function.comp, eVal_cat, e_bq]
theorem ecats_sum (lo b : Nat) (st : List eV) : ((st.map (eVal lo b)).map fun v => v.category).sum = ecats st := by
  induction st with
  | nil => rfl
  | cons v t ih =>
    rw [List.map_cons, List.map_cons, List.sum_cons, ih, eVal_cat]
    rfl
theorem eargs_map (lo b : Nat) (as : List eV) : ∀ i, lv_args i (as.map (eVal lo b)) = eMap lo b (eargs i as) := by
  induction as with
  | nil => intro i; rfl
  | cons v t ih =>
    intro i
    have h1 : (if (eVal lo b v).category = 2 then i + 2 else i + 1) = i + ecat v := by
      rw [eVal_cat]
      rcases v with x | x | r <;> rfl
    show (i, eVal lo b v) :: lv_args (if (eVal lo b v).category = 2 then i + 2 else i + 1) (t.map (eVal lo b)) = _
    rw [h1, ih]
    rfl
