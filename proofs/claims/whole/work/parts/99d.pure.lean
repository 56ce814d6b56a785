/-! the class's orders: which are allowed, what they give, all of them -/
section EPZ
variable {P : aP} {I I' I0 : Nat → Nat → Int32} {J J0 : Nat → Nat → Int64} {m r x y k n p t s N v w i j : Nat} {S : aT} {l L M : List Nat} {st : Int32}
/-- all slots of an order are a program's -/
def OdU (P : aP) (L : List Nat) : Prop := ∀ x, x ∈ L → gU P x = true
theorem OdU_12 (h : OdU P L) : ∀ x, x ∈ L → x < 12 := fun x hx => (gU_iff.1 (h x hx)).1
theorem co_over (hm : m < 2) (hx : gU P x = true) (hy : gU P y = true) (h : PgC I P) : f_X5_mayOvertake 58 (Int32.ofNat m) (Int32.ofNat x) (Int32.ofNat y) (I, J) = some (if m = 1 ∧ P.2.1 x = 1 ∧ P.2.1 y = 0 then 1 else 0, (I, J)) := by
  have hx' := (gU_iff.1 hx).1
  have hy' := (gU_iff.1 hy).1
  have w1 := (h.1.2.2 x hx).1
  have w2 := (h.1.2.2 y hy).1
  have e : (Int32.ofNat m = 1) = (m = 1) := i_eq (m := 1) (by omega) (by decide)
  have e1 : (Int32.ofNat (P.2.1 x) = 1) = (P.2.1 x = 1) := i_eq (m := 1) (by omega) (by decide)
  have e2 : (Int32.ofNat (P.2.1 y) = 0) = (P.2.1 y = 0) := i_eq (m := 0) (by omega) (by decide)
  unfold f_X5_mayOvertake f_X5_mayOvertake_28 f_X5_mayOvertake_29
  simp only [e, eLt, Option.bind_some, ↓reduceIte, K_58, K_59, K_60, K_61, K_62, K_63, R_58_0, R_58_1, R_58_2, R_58_3, R_58_4, K_68, K_69, K_70, K_71, R_68_0, R_68_1, R_68_2, R_68_3, K_72, R_72_0, K_73, true_and, and_true, eB, decide_true, decide_false, Bool.or_true, Bool.true_or, not_true_eq_false, not_false_eq_true, x_tn hx', x_ix hx', x_tn hy', x_ix hy', (h.2.2 x hx).1, (h.2.2 y hy).1, e1, e2]
  by_cases q : m = 1
  · by_cases q1 : P.2.1 x = 1
    · by_cases q2 : P.2.1 y = 0
      · simp only [q, q1, q2, not_true_eq_false, ↓reduceIte, and_self]
      · simp only [q, q1, q2, not_true_eq_false, not_false_eq_true, ↓reduceIte, and_false]
    · simp only [q, q1, not_true_eq_false, not_false_eq_true, ↓reduceIte, and_false, false_and]
  · simp only [q, not_false_eq_true, ↓reduceIte, false_and]
/-- the inner loop -/
theorem co_all1 (hm : m < 2) (h6 : L.length ≤ 6) (hU : OdU P L) (hO : OdOk I L) (h : PgC I P) (hi : i < L.length) (K : Nat) : ∀ d j N, j + d = L.length → 4 * d + 1 + K ≤ N →
    ((∀ j', j ≤ j' → j' < L.length → gAl P m (L.getD i 0) (L.getD j' 0)) → ∃ M, K ≤ M ∧ f_X5_isAllowed_L3 N (.inr (.inl (68, 58, Int32.ofNat m, Int32.ofNat L.length, Int32.ofNat i, Int32.ofNat j))) (I, J) = f_X5_isAllowed_L3 M (.inl (68, 58, Int32.ofNat m, Int32.ofNat L.length, Int32.ofNat (i + 1))) (I, J)) ∧
    ((¬ ∀ j', j ≤ j' → j' < L.length → gAl P m (L.getD i 0) (L.getD j' 0)) → f_X5_isAllowed_L3 N (.inr (.inl (68, 58, Int32.ofNat m, Int32.ofNat L.length, Int32.ofNat i, Int32.ofNat j))) (I, J) = some (0, (I, J))) := by
  intro d
  induction d with
  | zero =>
    intro j N hj hN
    obtain ⟨N, rfl⟩ := Nat.exists_eq_add_of_le hN
    have e : (Int32.ofNat L.length ≤ Int32.ofNat j) = True := (i_le (by omega) (by omega)).trans (eq_true (by omega))
    have e1 : Int32.ofNat i + 1 = Int32.ofNat (i + 1) := i_ad (m := 1)
    refine ⟨fun _ => ⟨K + N, by omega, ?_⟩, fun g => absurd (fun j' h1 h2 => by omega) g⟩
    rw [show 4 * 0 + 1 + K + N = K + N + 1 by omega, f_X5_isAllowed_L3]
    simp only [e, ↓reduceIte, e1]
  | succ d ih =>
    intro j N hj hN
    obtain ⟨N, rfl⟩ := Nat.exists_eq_add_of_le hN
    have hjl : j < L.length := by omega
    have hx := hU _ (getD_mem hi)
    have hy := hU _ (getD_mem hjl)
    have hx' := (gU_iff.1 hx).1
    have hy' := (gU_iff.1 hy).1
    have e : (Int32.ofNat L.length ≤ Int32.ofNat j) = False := (i_le (by omega) (by omega)).trans (eq_false (by omega))
    have e1 : Int32.ofNat j + 1 = Int32.ofNat (j + 1) := i_ad (m := 1)
    have e2 : (Int32.ofNat (L.getD i 0) ≤ Int32.ofNat (L.getD j 0)) = (L.getD i 0 ≤ L.getD j 0) := i_le (by omega) (by omega)
    have e3 : (Int32.ofNat (L.getD i 0 / 4) = Int32.ofNat (L.getD j 0 / 4)) = (L.getD i 0 / 4 = L.getD j 0 / 4) := i_eq (by omega) (by omega)
    obtain ⟨ih1, ih2⟩ := ih (j + 1) (4 * d + 1 + K + N) (by omega) (by omega)
    have hsplit : (∀ j', j ≤ j' → j' < L.length → gAl P m (L.getD i 0) (L.getD j' 0)) ↔ gAl P m (L.getD i 0) (L.getD j 0) ∧ ∀ j', j + 1 ≤ j' → j' < L.length → gAl P m (L.getD i 0) (L.getD j' 0) := by
      constructor
      · intro g
        exact ⟨g j (Nat.le_refl _) hjl, fun j' h1 h2 => g j' (by omega) h2⟩
      · rintro ⟨g1, g2⟩ j' h1 h2
        by_cases q : j' = j
        · subst q
          exact g1
        · exact g2 j' (by omega) h2
    rw [hsplit, show 4 * (d + 1) + 1 + K + N = 4 * d + 1 + K + N + 1 + 1 + 1 + 1 by omega, f_X5_isAllowed_L3]
    simp only [e, eLt, Option.bind_some, ↓reduceIte, K_58, K_59, K_60, K_61, K_62, K_63, R_58_0, R_58_1, R_58_2, R_58_3, R_58_4, K_68, K_69, K_70, K_71, R_68_0, R_68_1, R_68_2, R_68_3, K_72, R_72_0, K_73, true_and, and_true, eB, decide_true, decide_false, Bool.or_true, Bool.true_or, not_true_eq_false, not_false_eq_true, g_tn (show i < 6 by omega), g_ix (show i < 6 by omega), g_tn (show j < 6 by omega), g_ix (show j < 6 by omega), hO i hi, hO j hjl, e2, four0, x_dv hx', x_dv hy', e3]
    by_cases q : L.getD i 0 ≤ L.getD j 0
    · have hg : gAl P m (L.getD i 0) (L.getD j 0) := fun g => by omega
      simp only [q, ↓reduceIte, hg, true_and]
      rw [f_X5_isAllowed_L3, f_X5_isAllowed_L3]
      simp only [↓reduceIte]
      rw [f_X5_isAllowed_L3, e1]
      exact ⟨ih1, ih2⟩
    · by_cases q2 : L.getD i 0 / 4 = L.getD j 0 / 4
      · simp only [q, q2, ↓reduceIte, not_true_eq_false]
        rw [f_X5_isAllowed_L3]
        have n10 : ¬ (1 : Int32) = 0 := by decide
        simp only [n10, eLt, Option.bind_some, ↓reduceIte, K_58, K_59, K_60, K_61, K_62, K_63, R_58_0, R_58_1, R_58_2, R_58_3, R_58_4, K_68, K_69, K_70, K_71, R_68_0, R_68_1, R_68_2, R_68_3, K_72, R_72_0, K_73, true_and, and_true, eB, decide_true, decide_false, Bool.or_true, Bool.true_or, not_true_eq_false, not_false_eq_true, g_tn (show i < 6 by omega), g_ix (show i < 6 by omega), g_tn (show j < 6 by omega), g_ix (show j < 6 by omega), hO i hi, hO j hjl, co_over hm hx hy h]
        by_cases q3 : m = 1 ∧ P.2.1 (L.getD i 0) = 1 ∧ P.2.1 (L.getD j 0) = 0
        · have hg : gAl P m (L.getD i 0) (L.getD j 0) := fun _ _ => q3
          rw [if_pos q3]
          simp only [↓reduceIte, n10, not_false_eq_true, hg, true_and]
          rw [f_X5_isAllowed_L3, e1]
          exact ih (j + 1) (4 * d + 1 + K + N + 1) (by omega) (by omega)
        · have hg : ¬ gAl P m (L.getD i 0) (L.getD j 0) := fun g => q3 (g (by omega) q2.symm)
          simp only [q3, ↓reduceIte, not_true_eq_false, hg, false_and, false_implies, not_false_eq_true, true_implies, and_self]
      · have hg : gAl P m (L.getD i 0) (L.getD j 0) := fun g1 g2 => absurd g2.symm q2
        simp only [q, q2, ↓reduceIte, not_false_eq_true, hg, true_and]
        rw [f_X5_isAllowed_L3, f_X5_isAllowed_L3]
        simp only [↓reduceIte]
        rw [f_X5_isAllowed_L3, e1]
        exact ⟨ih1, ih2⟩
theorem co_all2 (hm : m < 2) (h6 : L.length ≤ 6) (hU : OdU P L) (hO : OdOk I L) (h : PgC I P) : ∀ d i N, i + d = L.length → (4 * L.length + 2) * d + 1 ≤ N →
    ((∀ i' j', i ≤ i' → i' < j' → j' < L.length → gAl P m (L.getD i' 0) (L.getD j' 0)) → f_X5_isAllowed_L3 N (.inl (68, 58, Int32.ofNat m, Int32.ofNat L.length, Int32.ofNat i)) (I, J) = some (1, (I, J))) ∧
    ((¬ ∀ i' j', i ≤ i' → i' < j' → j' < L.length → gAl P m (L.getD i' 0) (L.getD j' 0)) → f_X5_isAllowed_L3 N (.inl (68, 58, Int32.ofNat m, Int32.ofNat L.length, Int32.ofNat i)) (I, J) = some (0, (I, J))) := by
  intro d
  induction d with
  | zero =>
    intro i N hi hN
    obtain ⟨N, rfl⟩ := Nat.exists_eq_add_of_le' hN
    have e : (Int32.ofNat L.length ≤ Int32.ofNat i) = True := (i_le (by omega) (by omega)).trans (eq_true (by omega))
    refine ⟨fun _ => ?_, fun g => absurd (fun i' j' h1 h2 h3 => by omega) g⟩
    rw [show N + ((4 * L.length + 2) * 0 + 1) = N + 1 by omega, f_X5_isAllowed_L3]
    simp only [e, eLt, Option.bind_some, ↓reduceIte, K_58, K_59, K_60, K_61, K_62, K_63, R_58_0, R_58_1, R_58_2, R_58_3, R_58_4, K_68, K_69, K_70, K_71, R_68_0, R_68_1, R_68_2, R_68_3, K_72, R_72_0, K_73, true_and, and_true, eB, decide_true, decide_false, Bool.or_true, Bool.true_or, not_true_eq_false, not_false_eq_true]
  | succ d ih =>
    intro i N hi hN
    have hil : i < L.length := by omega
    have e : (Int32.ofNat L.length ≤ Int32.ofNat i) = False := (i_le (by omega) (by omega)).trans (eq_false (by omega))
    have e1 : Int32.ofNat i + 1 = Int32.ofNat (i + 1) := i_ad (m := 1)
    have hmul : (4 * L.length + 2) * (d + 1) = (4 * L.length + 2) * d + (4 * L.length + 2) := Nat.mul_succ _ _
    obtain ⟨N, rfl⟩ := Nat.exists_eq_add_of_le' (show 1 ≤ N by omega)
    have hin := co_all1 (J := J) hm h6 hU hO h hil ((4 * L.length + 2) * d + 1) (L.length - (i + 1)) (i + 1) N (by omega) (by omega)
    have hsplit : (∀ i' j', i ≤ i' → i' < j' → j' < L.length → gAl P m (L.getD i' 0) (L.getD j' 0)) ↔ (∀ j', i + 1 ≤ j' → j' < L.length → gAl P m (L.getD i 0) (L.getD j' 0)) ∧ ∀ i' j', i + 1 ≤ i' → i' < j' → j' < L.length → gAl P m (L.getD i' 0) (L.getD j' 0) := by
      constructor
      · intro g
        exact ⟨fun j' h1 h2 => g i j' (Nat.le_refl _) (by omega) h2, fun i' j' h1 h2 h3 => g i' j' (by omega) h2 h3⟩
      · rintro ⟨g1, g2⟩ i' j' h1 h2 h3
        by_cases q : i' = i
        · subst q
          exact g1 j' (by omega) h3
        · exact g2 i' j' (by omega) h2 h3
    rw [hsplit, f_X5_isAllowed_L3]
    simp only [e, ↓reduceIte, eLt, e1]
    by_cases q : ∀ j', i + 1 ≤ j' → j' < L.length → gAl P m (L.getD i 0) (L.getD j' 0)
    · obtain ⟨M, c1, c2⟩ := hin.1 q
      rw [c2]
      obtain ⟨b1, b2⟩ := ih (i + 1) M (by omega) c1
      exact ⟨fun g => b1 g.2, fun g => b2 (fun g2 => g ⟨q, g2⟩)⟩
    · rw [hin.2 q]
      exact ⟨fun g => absurd g.1 q, fun _ => rfl⟩
theorem pw_get : L.Pairwise (gAl P m) ↔ ∀ i j, 0 ≤ i → i < j → j < L.length → gAl P m (L.getD i 0) (L.getD j 0) := by
  rw [List.pairwise_iff_getElem]
  constructor
  · intro g i j _ h1 h2
    have := g i j (by omega) h2 h1
    rw [List.getD_eq_getElem?_getD, List.getD_eq_getElem?_getD, List.getElem?_eq_getElem h2, List.getElem?_eq_getElem (show i < L.length by omega)]
    exact this
  · intro g i j hi hj h1
    have := g i j (Nat.zero_le _) h1 hj
    rw [List.getD_eq_getElem?_getD, List.getD_eq_getElem?_getD, List.getElem?_eq_getElem hj, List.getElem?_eq_getElem hi] at this
    exact this
theorem co_allowed (hm : m < 2) (h6 : L.length ≤ 6) (hU : OdU P L) (hO : OdOk I L) (h : PgC I P) :
    (L.Pairwise (gAl P m) → f_X5_isAllowed 68 58 (Int32.ofNat m) (Int32.ofNat L.length) (I, J) = some (1, (I, J))) ∧
    (¬ L.Pairwise (gAl P m) → f_X5_isAllowed 68 58 (Int32.ofNat m) (Int32.ofNat L.length) (I, J) = some (0, (I, J))) := by
  rw [pw_get]
  unfold f_X5_isAllowed
  have hb : (4 * L.length + 2) * L.length + 1 ≤ 1000000 := by
    have : (4 * L.length + 2) * L.length ≤ 26 * 6 := Nat.mul_le_mul (by omega) h6
    omega
  exact co_all2 hm h6 hU hO h L.length 0 1000000 (by omega) hb
/-- where a run stands, in memory -/
def OsOk (I : Nat → Nat → Int32) (S : aT) : Prop := (∀ x, x < 12 → I 70 x = if S.1 x = true then 1 else 0) ∧ ∀ q, q < 3 → I 71 q = Int32.ofNat (S.2.1 q)
theorem co_seen1 (hx : gU P x = true) (h : PgC I P) (hS : OsOk I S) : ∀ k N, k ≤ x % 4 → 2 * k + 1 ≤ N →
    f_X5_seenBy_L19 N (.inl (68, 58, Int32.ofNat (P.2.2.1 x), Int32.ofNat (x / 4 * 4), xDn (x / 4 * 4 + k))) (I, J) =
      some (Int32.ofNat (gLk (fun k => decide (P.2.1 (x / 4 * 4 + k) = 0 ∧ P.2.2.1 (x / 4 * 4 + k) = P.2.2.1 x) && !S.1 (x / 4 * 4 + k)) (fun k => P.2.2.2 (x / 4 * 4 + k)) (S.2.1 (P.2.2.1 x)) k), (I, J)) := by
  have hx' := gU_iff.1 hx
  have hp := (h.1.2.2 x hx).2.1
  intro k
  induction k with
  | zero =>
    intro N hk hN
    obtain ⟨N, rfl⟩ := Nat.exists_eq_add_of_le' hN
    have e : xDn (x / 4 * 4 + 0) < Int32.ofNat (x / 4 * 4) := by
      rw [Nat.add_zero]
      cases hz : x / 4 * 4 with
      | zero => decide
      | succ j =>
        show Int32.ofNat j < Int32.ofNat (j + 1)
        rw [i_lt (by omega) (by omega)]
        omega
    rw [show N + (2 * 0 + 1) = N + 1 by omega, f_X5_seenBy_L19, if_pos e]
    unfold f_X5_seenBy_76
    simp only [eLt, Option.bind_some, ↓reduceIte, K_58, K_59, K_60, K_61, K_62, K_63, R_58_0, R_58_1, R_58_2, R_58_3, R_58_4, K_68, K_69, K_70, K_71, R_68_0, R_68_1, R_68_2, R_68_3, K_72, R_72_0, K_73, true_and, and_true, eB, decide_true, decide_false, Bool.or_true, Bool.true_or, not_true_eq_false, not_false_eq_true, t_tn hp, t_ix hp, hS.2 _ hp]
    rfl
  | succ k ih =>
    intro N hk hN
    obtain ⟨N, rfl⟩ := Nat.exists_eq_add_of_le' hN
    have hy : x / 4 * 4 + k < 12 := by omega
    have hu : gU P (x / 4 * 4 + k) = true := gU_iff.2 ⟨hy, by rw [show (x / 4 * 4 + k) / 4 = x / 4 by omega]; omega⟩
    have e1 : (Int32.ofNat (x / 4 * 4 + k) < Int32.ofNat (x / 4 * 4)) = False := (i_lt (by omega) (by omega)).trans (eq_false (by omega))
    have e2 : (Int32.ofNat (x / 4 * 4 + k) < 0) = False := i_lt0 (by omega)
    obtain ⟨p1, p2, p3, p4⟩ := h.2.2 _ hu
    obtain ⟨w1, w2, w3⟩ := h.1.2.2 _ hu
    have e3 : (Int32.ofNat (P.2.1 (x / 4 * 4 + k)) = 0) = (P.2.1 (x / 4 * 4 + k) = 0) := i_eq (m := 0) (by omega) (by decide)
    have e4 : (Int32.ofNat (P.2.2.1 (x / 4 * 4 + k)) = Int32.ofNat (P.2.2.1 x)) = (P.2.2.1 (x / 4 * 4 + k) = P.2.2.1 x) := i_eq (by omega) (by omega)
    have ih' := ih (N + 2 * k + 1) (by omega) (by omega)
    rw [show N + (2 * (k + 1) + 1) = N + 2 * k + 1 + 1 + 1 by omega, f_X5_seenBy_L19]
    unfold gLk
    simp only [show xDn (x / 4 * 4 + (k + 1)) = Int32.ofNat (x / 4 * 4 + k) from rfl, e1, e2, eLt, Option.bind_some, ↓reduceIte, K_58, K_59, K_60, K_61, K_62, K_63, R_58_0, R_58_1, R_58_2, R_58_3, R_58_4, K_68, K_69, K_70, K_71, R_68_0, R_68_1, R_68_2, R_68_3, K_72, R_72_0, K_73, true_and, and_true, eB, decide_true, decide_false, Bool.or_true, Bool.true_or, not_true_eq_false, not_false_eq_true, x_tn hy, x_ix hy, p1, p2, e3, e4, hS.1 _ hy]
    by_cases q1 : P.2.1 (x / 4 * 4 + k) = 0
    · by_cases q2 : P.2.2.1 (x / 4 * 4 + k) = P.2.2.1 x
      · by_cases q3 : S.1 (x / 4 * 4 + k) = true
        · simp only [q1, q2, q3, not_true_eq_false, not_false_eq_true, ↓reduceIte, show ¬ (1 : Int32) = 0 by decide, and_self, decide_true, Bool.not_true, Bool.and_false, Bool.false_eq_true]
          rw [f_X5_seenBy_L19, xDn_s]
          exact ih'
        · rw [Bool.not_eq_true] at q3
          simp only [q1, q2, q3, not_true_eq_false, ↓reduceIte, and_self, decide_true, Bool.not_false, Bool.and_true, Bool.false_eq_true, p3 q1]
      · simp only [q1, q2, not_true_eq_false, not_false_eq_true, ↓reduceIte, and_false, decide_false, Bool.false_and, Bool.false_eq_true]
        rw [f_X5_seenBy_L19, xDn_s]
        exact ih'
    · simp only [q1, not_false_eq_true, ↓reduceIte, false_and, decide_false, Bool.false_and, Bool.false_eq_true]
      rw [f_X5_seenBy_L19, xDn_s]
      exact ih'
theorem co_seen (hx : gU P x = true) (h : PgC I P) (hS : OsOk I S) : f_X5_seenBy 68 58 (Int32.ofNat x) (I, J) = some (Int32.ofNat (gSee P S x), (I, J)) := by
  have hx' := (gU_iff.1 hx).1
  have e1 : Int32.ofNat (x / 4) * 4 = Int32.ofNat (x / 4 * 4) := i_mu (m := 4)
  have e2 : Int32.ofNat x - 1 = xDn (x / 4 * 4 + x % 4) := by
    rw [show x / 4 * 4 + x % 4 = x by omega]
    cases x with
    | zero => decide
    | succ x => exact i_sb (n := x + 1) (m := 1) (by omega)
  have key := co_seen1 (J := J) hx h hS (x % 4) 1000000 (Nat.le_refl _) (by omega)
  unfold f_X5_seenBy
  simp only [eLt, Option.bind_some, ↓reduceIte, K_58, K_59, K_60, K_61, K_62, K_63, R_58_0, R_58_1, R_58_2, R_58_3, R_58_4, K_68, K_69, K_70, K_71, R_68_0, R_68_1, R_68_2, R_68_3, K_72, R_72_0, K_73, true_and, and_true, eB, decide_true, decide_false, Bool.or_true, Bool.true_or, not_true_eq_false, not_false_eq_true, four0, x_tn hx', x_ix hx', x_dv hx', (h.2.2 x hx).2.1, e1, e2]
  exact key
end EPZ
