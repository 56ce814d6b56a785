/-! orders of steps, and rising lists -/
def gRun (P : aP) (m : Nat) : aT → List Nat → Prop
  | _, [] => True
  | S, x :: L => gOk P m S.1 x ∧ gRun P m (gEf P S x) L
def gTl (P : aP) : aT → List Nat → Nat
  | S, [] => S.2.2
  | S, x :: L => gTl P (gEf P S x) L
def gAl (P : aP) (m x y : Nat) : Prop := y < x → y / 4 = x / 4 → m = 1 ∧ P.2.1 x = 1 ∧ P.2.1 y = 0
def gUl (P : aP) : List Nat := (List.range 12).filter (gU P)
def oP : Nat → List Nat → List (List Nat)
  | 0, _ => [[]]
  | k + 1, L => L.flatMap (fun x => (oP k (L.erase x)).map (x :: ·))
def gSo (l : List Nat) : Prop := ∀ i j, i < j → j < l.length → l.getD i 0 < l.getD j 0
def gIn (l : List Nat) (p k : Nat) : List Nat := l.take p ++ k :: l.drop p
/-- a rising list of just what a program gives -/
def gLi (P : aP) (m : Nat) (l : List Nat) : Prop := gSo l ∧ ∀ k, k ∈ l ↔ gFi P m k
section EPY
variable {P : aP} {m r x y k n p : Nat} {S : aT} {f : Nat → Bool} {L M l l' : List Nat}
theorem gOut_run : ∀ r S, gOut P m r S k ↔ ∃ L, L.length = r ∧ gRun P m S L ∧ gTl P S L = k
  | 0, S => by
    rw [gOut_0]
    constructor
    · intro h
      exact ⟨[], rfl, trivial, h.symm⟩
    · rintro ⟨L, h1, _, h3⟩
      have : L = [] := List.length_eq_zero_iff.1 h1
      subst this
      exact h3.symm
  | r + 1, S => by
    rw [gOut_s]
    constructor
    · rintro ⟨x, h1, h2⟩
      obtain ⟨L, g1, g2, g3⟩ := (gOut_run r _).1 h2
      exact ⟨x :: L, by rw [List.length_cons, g1], ⟨h1, g2⟩, g3⟩
    · rintro ⟨L, h1, h2, h3⟩
      cases L with
      | nil => exact absurd h1 (by simp)
      | cons x L =>
        rw [List.length_cons] at h1
        exact ⟨x, h2.1, (gOut_run r _).2 ⟨L, by omega, h2.2, h3⟩⟩
theorem gRun_mem : ∀ L S, gRun P m S L → L.Nodup ∧ ∀ x, x ∈ L → gU P x = true ∧ S.1 x = false
  | [], _, _ => ⟨List.nodup_nil, fun x hx => by cases hx⟩
  | x :: L, S, h => by
    obtain ⟨g1, g2⟩ := gRun_mem L _ h.2
    have e : ∀ y, y ∈ L → ¬ y = x ∧ S.1 y = false := by
      intro y hy
      have := (g2 y hy).2
      change (decide (y = x) || S.1 y) = false at this
      rw [Bool.or_eq_false_iff, decide_eq_false_iff_not] at this
      exact this
    refine ⟨List.nodup_cons.2 ⟨fun q => (e x q).1 rfl, g1⟩, fun y hy => ?_⟩
    rcases List.mem_cons.1 hy with q | q
    · subst q
      exact ⟨h.1.1, h.1.2.1⟩
    · exact ⟨(g2 y q).1, (e y q).2⟩
theorem same_th (h : gU P x = true) (hy : y < x) (e : y / 4 = x / 4) : gU P y = true := by
  rw [gU_iff] at h ⊢
  rw [e]
  omega
theorem gRun_pw : ∀ L S, L.Nodup → (∀ x, x ∈ L → gU P x = true) → (∀ y, gU P y = true → (S.1 y = false ↔ y ∈ L)) → (gRun P m S L ↔ L.Pairwise (gAl P m))
  | [], _, _, _, _ => ⟨fun _ => List.Pairwise.nil, fun _ => trivial⟩
  | x :: L, S, h1, h2, h3 => by
    rw [List.nodup_cons] at h1
    have ih := gRun_pw L (gEf P S x) h1.2 (fun y hy => h2 y (List.mem_cons_of_mem _ hy)) (fun y hy => by
      show (decide (y = x) || S.1 y) = false ↔ y ∈ L
      rw [Bool.or_eq_false_iff, decide_eq_false_iff_not, h3 y hy, List.mem_cons]
      constructor
      · rintro ⟨g1, g2 | g2⟩
        · exact absurd g2 g1
        · exact g2
      · intro g
        exact ⟨fun q => h1.1 (q ▸ g), Or.inr g⟩)
    have hx := h2 x List.mem_cons_self
    rw [List.pairwise_cons, ← ih]
    constructor
    · rintro ⟨g1, g2⟩
      refine ⟨fun y hy hlt he => ?_, g2⟩
      have hu := h2 y (List.mem_cons_of_mem _ hy)
      exact g1.2.2 y hlt he ((h3 y hu).2 (List.mem_cons_of_mem _ hy))
    · rintro ⟨g1, g2⟩
      refine ⟨⟨hx, (h3 x hx).2 List.mem_cons_self, fun y hlt he hd => ?_⟩, g2⟩
      have hu := same_th hx hlt he
      rcases List.mem_cons.1 ((h3 y hu).1 hd) with q | q
      · omega
      · exact g1 y q hlt he
theorem len_sub : ∀ (l M : List Nat), l.Nodup → (∀ x, x ∈ l → x ∈ M) → l.length ≤ M.length
  | [], M, _, _ => Nat.zero_le _
  | x :: l, M, h1, h2 => by
    rw [List.nodup_cons] at h1
    have hx := h2 x List.mem_cons_self
    have := len_sub l (M.erase x) h1.2 (fun y hy => (List.mem_erase_of_ne (fun q => h1.1 (by rw [← q]; exact hy))).2 (h2 y (List.mem_cons_of_mem _ hy)))
    rw [List.length_erase_of_mem hx] at this
    have : 0 < M.length := List.length_pos_of_mem hx
    rw [List.length_cons]
    omega
theorem perm_sub : ∀ (l M : List Nat), l.Nodup → (∀ x, x ∈ l → x ∈ M) → M.length ≤ l.length → l.Perm M
  | [], M, _, _, h => by
    have : M = [] := List.length_eq_zero_iff.1 (Nat.le_zero.1 h)
    subst this
    exact List.Perm.refl _
  | x :: l, M, h1, h2, h3 => by
    rw [List.nodup_cons] at h1
    have hx := h2 x List.mem_cons_self
    rw [List.cons_perm_iff_perm_erase]
    refine ⟨hx, perm_sub l (M.erase x) h1.2 (fun y hy => (List.mem_erase_of_ne (fun q => h1.1 (by rw [← q]; exact hy))).2 (h2 y (List.mem_cons_of_mem _ hy))) ?_⟩
    rw [List.length_erase_of_mem hx]
    rw [List.length_cons] at h3
    omega
theorem oP_mem : ∀ n (M L : List Nat), M.length = n → (L ∈ oP n M ↔ L.Perm M)
  | 0, M, L, h => by
    have : M = [] := List.length_eq_zero_iff.1 h
    subst this
    show L ∈ [[]] ↔ _
    rw [List.mem_singleton]
    exact List.perm_nil.symm
  | n + 1, M, L, h => by
    unfold oP
    rw [List.mem_flatMap]
    constructor
    · rintro ⟨x, h1, h2⟩
      rw [List.mem_map] at h2
      obtain ⟨N, h3, h4⟩ := h2
      subst h4
      rw [List.cons_perm_iff_perm_erase]
      exact ⟨h1, (oP_mem n _ N (by rw [List.length_erase_of_mem h1]; omega)).1 h3⟩
    · intro g
      cases L with
      | nil =>
        have := g.length_eq
        rw [h] at this
        exact absurd this (by simp)
      | cons x N =>
        rw [List.cons_perm_iff_perm_erase] at g
        exact ⟨x, g.1, List.mem_map.2 ⟨N, (oP_mem n _ N (by rw [List.length_erase_of_mem g.1]; omega)).2 g.2, rfl⟩⟩
theorem gUl_mem : x ∈ gUl P ↔ gU P x = true := by
  unfold gUl
  rw [List.mem_filter, List.mem_range]
  exact ⟨fun h => h.2, fun h => ⟨(gU_iff.1 h).1, h⟩⟩
theorem gUl_nd : (gUl P).Nodup := List.Nodup.sublist List.filter_sublist List.nodup_range
theorem fl_len : ∀ n, ((List.range n).filter f).length = wN f n
  | 0 => rfl
  | n + 1 => by
    rw [List.range_succ, List.filter_append, List.length_append, fl_len n]
    show _ = wN f n + (if f n = true then 1 else 0)
    congr 1
    by_cases q : f n = true
    · rw [List.filter_cons_of_pos q, if_pos q]
      rfl
    · rw [List.filter_cons_of_neg q, if_neg q]
      rfl
theorem gUl_len (h : gWf P) : (gUl P).length = gTo P := by
  unfold gUl
  rw [fl_len, wN_U h]
/-- what a program gives, by orders -/
theorem gFi_ord (h : gWf P) : gFi P m k ↔ ∃ L, L ∈ oP (gTo P) (gUl P) ∧ L.Pairwise (gAl P m) ∧ gTl P gS0 L = k := by
  have key : ∀ L, L.Perm (gUl P) → (gRun P m gS0 L ↔ L.Pairwise (gAl P m)) := fun L hL =>
    gRun_pw L gS0 (hL.nodup_iff.2 gUl_nd) (fun x hx => gUl_mem.1 (hL.mem_iff.1 hx)) (fun y hy => ⟨fun _ => hL.mem_iff.2 (gUl_mem.2 hy), fun _ => rfl⟩)
  unfold gFi
  rw [gOut_run]
  constructor
  · rintro ⟨L, h1, h2, h3⟩
    obtain ⟨g1, g2⟩ := gRun_mem L _ h2
    have hp : L.Perm (gUl P) := perm_sub L _ g1 (fun x hx => gUl_mem.2 (g2 x hx).1) (by rw [gUl_len h, h1]; exact Nat.le_refl _)
    exact ⟨L, (oP_mem _ _ L (gUl_len h)).2 hp, (key L hp).1 h2, h3⟩
  · rintro ⟨L, h1, h2, h3⟩
    have hp := (oP_mem _ _ L (gUl_len h)).1 h1
    exact ⟨L, by rw [hp.length_eq, gUl_len h], (key L hp).2 h2, h3⟩
theorem gIn_len (hp : p ≤ l.length) : (gIn l p k).length = l.length + 1 := by
  unfold gIn
  rw [List.length_append, List.length_cons, List.length_take, List.length_drop]
  omega
theorem gIn_get (hp : p ≤ l.length) (i : Nat) : (gIn l p k).getD i 0 = if i < p then l.getD i 0 else if i = p then k else l.getD (i - 1) 0 := by
  unfold gIn
  rw [List.getD_eq_getElem?_getD, List.getElem?_append, List.length_take, Nat.min_eq_left hp]
  by_cases q : i < p
  · rw [if_pos q, if_pos q, List.getElem?_take_of_lt q, List.getD_eq_getElem?_getD]
  · rw [if_neg q, if_neg q]
    by_cases e : i = p
    · subst e
      rw [if_pos rfl, Nat.sub_self]
      rfl
    · rw [if_neg e]
      have : i - p = (i - 1 - p) + 1 := by omega
      rw [this, List.getElem?_cons_succ, List.getElem?_drop, List.getD_eq_getElem?_getD]
      have : p + (i - 1 - p) = i - 1 := by omega
      rw [this]
theorem gIn_mem : x ∈ gIn l p k ↔ x ∈ l ∨ x = k := by
  unfold gIn
  rw [List.mem_append, List.mem_cons]
  have : x ∈ l ↔ x ∈ l.take p ∨ x ∈ l.drop p := by rw [← List.mem_append, List.take_append_drop]
  rw [this]
  constructor
  · rintro (h | h | h)
    · exact Or.inl (Or.inl h)
    · exact Or.inr h
    · exact Or.inl (Or.inr h)
  · rintro ((h | h) | h)
    · exact Or.inl h
    · exact Or.inr (Or.inr h)
    · exact Or.inr (Or.inl h)
theorem gIn_so (hs : gSo l) (hp : p ≤ l.length) (h1 : ∀ i, i < p → l.getD i 0 < k) (h2 : p < l.length → k < l.getD p 0) : gSo (gIn l p k) := by
  intro i j hij hj
  rw [gIn_len hp] at hj
  rw [gIn_get hp, gIn_get hp]
  have hpj : p < l.length → ∀ j, p ≤ j → j < l.length → k < l.getD j 0 := by
    intro g j g1 g2
    by_cases e : j = p
    · subst e
      exact h2 g
    · have := hs p j (by omega) g2
      have := h2 g
      omega
  by_cases q1 : j < p
  · rw [if_pos (by omega), if_pos q1]
    exact hs i j hij (by omega)
  · rw [if_neg q1]
    by_cases q2 : j = p
    · rw [if_pos q2, if_pos (by omega)]
      exact h1 i (by omega)
    · rw [if_neg q2]
      have h3 := hpj (by omega) (j - 1) (by omega) (by omega)
      by_cases q3 : i < p
      · rw [if_pos q3]
        have := h1 i q3
        omega
      · rw [if_neg q3]
        by_cases q4 : i = p
        · rw [if_pos q4]
          exact h3
        · rw [if_neg q4]
          exact hs (i - 1) (j - 1) (by omega) (by omega)
theorem getD_mem {i : Nat} (h : i < l.length) : l.getD i 0 ∈ l := by
  rw [List.getD_eq_getElem?_getD, List.getElem?_eq_getElem h]
  exact List.getElem_mem h
theorem mem_getD (h : k ∈ l) : ∃ i, i < l.length ∧ l.getD i 0 = k := by
  obtain ⟨i, h1, h2⟩ := List.mem_iff_getElem.1 h
  exact ⟨i, h1, by rw [List.getD_eq_getElem?_getD, List.getElem?_eq_getElem h1]; exact h2⟩
theorem so_pw : gSo l → l.Pairwise (· < ·) := by
  intro h
  rw [List.pairwise_iff_getElem]
  intro i j hi hj hij
  have := h i j hij hj
  rw [List.getD_eq_getElem?_getD, List.getD_eq_getElem?_getD, List.getElem?_eq_getElem hi, List.getElem?_eq_getElem hj] at this
  exact this
theorem pw_eq : ∀ (l l' : List Nat), l.Pairwise (· < ·) → l'.Pairwise (· < ·) → (∀ k, k ∈ l ↔ k ∈ l') → l = l'
  | [], [], _, _, _ => rfl
  | [], b :: l', _, _, h => by
    have := (h b).2 List.mem_cons_self
    cases this
  | a :: l, [], _, _, h => by
    have := (h a).1 List.mem_cons_self
    cases this
  | a :: l, b :: l', h1, h2, h => by
    rw [List.pairwise_cons] at h1 h2
    have e : a = b := by
      rcases List.mem_cons.1 ((h a).1 List.mem_cons_self) with q | q
      · exact q
      · rcases List.mem_cons.1 ((h b).2 List.mem_cons_self) with q' | q'
        · exact q'.symm
        · have := h1.1 b q'
          have := h2.1 a q
          omega
    subst e
    rw [pw_eq l l' h1.2 h2.2 (fun k => by
      have := h k
      rw [List.mem_cons, List.mem_cons] at this
      constructor
      · intro g
        have g1 := h1.1 k g
        rcases this.1 (Or.inr g) with q | q
        · omega
        · exact q
      · intro g
        have g1 := h2.1 k g
        rcases this.2 (Or.inr g) with q | q
        · omega
        · exact q)]
theorem so_nd (h : gSo l) : l.Nodup := (so_pw h).imp (fun {a b} (q : a < b) => Nat.ne_of_lt q)
theorem gLi_eq (h : gLi P m l) (h' : gLi P m l') : l = l' :=
  pw_eq l l' (so_pw h.1) (so_pw h'.1) (fun k => (h.2 k).trans (h'.2 k).symm)
/-- as many, so the same -/
theorem gLi_alike (h : gLi P 0 l) (h' : gLi P 1 l') (e : l.length = l'.length) : l = l' := by
  have hp := perm_sub l l' (so_nd h.1) (fun x hx => (h'.2 x).2 (gOut_m _ _ ((h.2 x).1 hx))) (by omega)
  exact pw_eq l l' (so_pw h.1) (so_pw h'.1) (fun k => hp.mem_iff)
end EPY
