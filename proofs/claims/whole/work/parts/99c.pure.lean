/-! the class's orders: the first, the next -/
section EPZ
variable {P : aP} {I I' I0 : Nat → Nat → Int32} {J J0 : Nat → Nat → Int64} {m r x y k n p t s N v w i j : Nat} {S : aT} {l L M : List Nat} {st : Int32}
/-- an order in its array -/
def OdOk (I : Nat → Nat → Int32) (L : List Nat) : Prop := ∀ i, i < L.length → I 69 i = Int32.ofNat (L.getD i 0)
theorem g_tn (h : x < 6) : (Int32.ofNat x).toNatClampNeg = x := i_tn (by omega)
theorem g_ix (h : x < 6) : eix (Int32.ofNat x) 6 = true := i_ix h (by decide)
theorem wN_mono {f : Nat → Bool} : ∀ d n, wN f n ≤ wN f (n + d)
  | 0, _ => Nat.le_refl _
  | d + 1, n => by
    have := wN_mono (f := f) d n
    show _ ≤ wN f (n + d) + _
    omega
def gFs (P : aP) (s : Nat) : List Nat := (List.range s).filter (gU P)
theorem gFs_s : gFs P (s + 1) = if gU P s = true then gFs P s ++ [s] else gFs P s := by
  unfold gFs
  rw [List.range_succ, List.filter_append]
  by_cases q : gU P s = true
  · rw [if_pos q, List.filter_cons_of_pos q]
    rfl
  · rw [if_neg q, List.filter_cons_of_neg q]
    exact List.append_nil _
theorem gFs_len (h : gWf P) (hs : s ≤ 12) : (gFs P s).length ≤ 6 := by
  unfold gFs
  rw [fl_len]
  have := wN_mono (f := gU P) (12 - s) s
  rw [show s + (12 - s) = 12 by omega, wN_U h] at this
  have := h.2.1
  omega
theorem getD_app (h : i < l.length) : (l ++ [x]).getD i 0 = l.getD i 0 := by
  rw [List.getD_eq_getElem?_getD, List.getD_eq_getElem?_getD, List.getElem?_append_left h]
theorem getD_last : (l ++ [x]).getD l.length 0 = x := by
  rw [List.getD_eq_getElem?_getD, List.getElem?_append_right (Nat.le_refl _), Nat.sub_self]
  rfl
theorem co_first (h : PgC I0 P) : ∀ d s N (I : Nat → Nat → Int32), s + d = 12 → 2 * d + 1 ≤ N → (∀ r, ¬ r = 69 → I r = I0 r) → OdOk I (gFs P s) →
    ∃ I', f_X5_firstOrder_L4 N (.inl (68, 58, Int32.ofNat (gFs P s).length, Int32.ofNat s)) (I, J) = some (Int32.ofNat (gTo P), (I', J)) ∧ OdOk I' (gUl P) ∧ ∀ r, ¬ r = 69 → I' r = I0 r := by
  intro d
  induction d with
  | zero =>
    intro s N I hs hN hI hO
    obtain ⟨N, rfl⟩ := Nat.exists_eq_add_of_le hN
    have e12 : s = 12 := by omega
    subst e12
    refine ⟨I, ?_, hO, hI⟩
    have e : ((12 : Int32) ≤ Int32.ofNat 12) = True := eq_true (by decide)
    have el : (gFs P 12).length = gTo P := gUl_len h.1
    rw [show 2 * 0 + 1 + N = N + 1 by omega, f_X5_firstOrder_L4]
    simp only [e, ↓reduceIte, el]
  | succ d ih =>
    intro s N I hs hN hI hO
    obtain ⟨N, rfl⟩ := Nat.exists_eq_add_of_le hN
    have hs' : s < 12 := by omega
    have e : ((12 : Int32) ≤ Int32.ofNat s) = False := (i_le (n := 12) (by decide) (by omega)).trans (eq_false (by omega))
    have e1 : Int32.ofNat s + 1 = Int32.ofNat (s + 1) := i_ad (m := 1)
    have hl : ∀ t, t < 3 → I 63 t = Int32.ofNat (P.1 t) := fun t ht => by
      rw [hI 63 (by decide)]
      exact h.2.1 t ht
    have h6 := gFs_len h.1 (s := s) (by omega)
    rw [show 2 * (d + 1) + 1 + N = 2 * d + 1 + N + 1 + 1 by omega, f_X5_firstOrder_L4]
    simp only [e, eLt, Option.bind_some, ↓reduceIte, K_58, K_59, K_60, K_61, K_62, K_63, R_58_0, R_58_1, R_58_2, R_58_3, R_58_4, K_68, K_69, K_70, K_71, R_68_0, R_68_1, R_68_2, true_and, and_true, eB, decide_true, decide_false, Bool.or_true, Bool.true_or, not_true_eq_false, not_false_eq_true, cp_used hs' hl (fun t ht => h.1.1 t ht)]
    by_cases q : gU P s = true
    · have h7 := gFs_len h.1 (s := s + 1) (by omega)
      have e8 := gFs_s (P := P) (s := s)
      rw [if_pos q] at e8
      rw [e8, List.length_append] at h7
      have h8 : (gFs P s).length < 6 := by
        have : [s].length = 1 := rfl
        omega
      have e6 : ((6 : Int32) ≤ Int32.ofNat (gFs P s).length) = False := (i_le (n := 6) (by decide) (by omega)).trans (eq_false (by omega))
      have e7 : Int32.ofNat (gFs P s).length + 1 = Int32.ofNat ((gFs P s).length + 1) := i_ad (m := 1)
      simp only [q, eLt, Option.bind_some, ↓reduceIte, K_58, K_59, K_60, K_61, K_62, K_63, R_58_0, R_58_1, R_58_2, R_58_3, R_58_4, K_68, K_69, K_70, K_71, R_68_0, R_68_1, R_68_2, true_and, and_true, eB, decide_true, decide_false, Bool.or_true, Bool.true_or, not_true_eq_false, not_false_eq_true, e6, g_tn h8, g_ix h8, show ¬ (1 : Int32) = 0 by decide, e7]
      obtain ⟨I', b1, b2, b3⟩ := ih (s + 1) (2 * d + 1 + N) (eup I 69 (gFs P s).length (Int32.ofNat s)) (by omega) (by omega) (fun r hr => by
        rw [up_fr hr]
        exact hI r hr) (fun i hi => by
        rw [e8, List.length_append] at hi
        have h1 : [s].length = 1 := rfl
        rw [e8]
        by_cases g : i = (gFs P s).length
        · subst g
          rw [up_eq, getD_last]
        · rw [up_k g, getD_app (by omega)]
          exact hO i (by omega))
      rw [e8, List.length_append] at b1
      refine ⟨I', ?_, b2, b3⟩
      rw [f_X5_firstOrder_L4, e1]
      exact b1
    · have e8 := gFs_s (P := P) (s := s)
      rw [if_neg q] at e8
      simp only [q, eLt, Option.bind_some, ↓reduceIte, K_58, K_59, K_60, K_61, K_62, K_63, R_58_0, R_58_1, R_58_2, R_58_3, R_58_4, K_68, K_69, K_70, K_71, R_68_0, R_68_1, R_68_2, true_and, and_true, eB, decide_true, decide_false, Bool.or_true, Bool.true_or, not_true_eq_false, not_false_eq_true, Bool.false_eq_true]
      obtain ⟨I', b1, b2, b3⟩ := ih (s + 1) (2 * d + 1 + N) I (by omega) (by omega) hI (by rw [e8]; exact hO)
      rw [e8] at b1
      refine ⟨I', ?_, b2, b3⟩
      rw [f_X5_firstOrder_L4, e1]
      exact b1
theorem getD_set {a : Nat} (hi : i < l.length) : (l.set i a).getD j 0 = if j = i then a else l.getD j 0 := by
  rw [List.getD_eq_getElem?_getD, List.getElem?_set]
  by_cases q : i = j
  · subst q
    rw [if_pos rfl, if_pos hi, if_pos rfl]
    rfl
  · rw [if_neg q, if_neg (fun g => q g.symm), List.getD_eq_getElem?_getD]
theorem oSw_len : (oSw L i j).length = L.length := by
  unfold oSw
  rw [List.length_set, List.length_set]
theorem oSw_get (hi : i < L.length) (hj : j < L.length) : (oSw L i j).getD k 0 = if k = j then L.getD i 0 else if k = i then L.getD j 0 else L.getD k 0 := by
  unfold oSw
  rw [getD_set (by rw [List.length_set]; exact hj), getD_set hi]
theorem co_swap (hi : i < L.length) (hj : j < L.length) (h6 : L.length ≤ 6) (hO : OdOk I L) :
    ∃ I', f_X5_swap 68 (Int32.ofNat i) (Int32.ofNat j) (I, J) = some ((), (I', J)) ∧ OdOk I' (oSw L i j) ∧ ∀ r, ¬ r = 69 → I' r = I r := by
  refine ⟨eup (eup I 69 i (I 69 j)) 69 j (I 69 i), ?_, fun k hk => ?_, fun r hr => by rw [up_fr hr, up_fr hr]⟩
  · unfold f_X5_swap
    simp only [eLt, Option.bind_some, ↓reduceIte, K_58, K_59, K_60, K_61, K_62, K_63, R_58_0, R_58_1, R_58_2, R_58_3, R_58_4, K_68, K_69, K_70, K_71, R_68_0, R_68_1, R_68_2, true_and, and_true, eB, decide_true, decide_false, Bool.or_true, Bool.true_or, not_true_eq_false, not_false_eq_true, g_tn (show i < 6 by omega), g_ix (show i < 6 by omega), g_tn (show j < 6 by omega), g_ix (show j < 6 by omega)]
  · rw [oSw_len] at hk
    rw [oSw_get hi hj]
    by_cases q : k = j
    · rw [if_pos q, q, up_eq]
      exact hO i hi
    · rw [if_neg q, up_k q]
      by_cases q2 : k = i
      · rw [if_pos q2, q2, up_eq]
        exact hO j hj
      · rw [if_neg q2, up_k q2]
        exact hO k hk
theorem co_rev : ∀ n i j N (L : List Nat) (I : Nat → Nat → Int32), i ≤ 6 → j ≤ i + n → n < N → j < L.length → L.length ≤ 6 → OdOk I L →
    ∃ I', f_X5_nextOrder_85 N 68 (Int32.ofNat i) (Int32.ofNat j) (I, J) = some (1, (I', J)) ∧ OdOk I' (oRv n L i j) ∧ (oRv n L i j).length = L.length ∧ ∀ r, ¬ r = 69 → I' r = I r := by
  intro n
  induction n with
  | zero =>
    intro i j N L I hi hj hN hjL h6 hO
    obtain ⟨N, rfl⟩ := Nat.exists_eq_add_of_le' (Nat.succ_le_of_lt hN)
    have e : (Int32.ofNat j ≤ Int32.ofNat i) = True := (i_le (by omega) (by omega)).trans (eq_true (by omega))
    refine ⟨I, ?_, hO, rfl, fun _ _ => rfl⟩
    rw [show N + (0 + 1) = N + 1 by omega, f_X5_nextOrder_85]
    simp only [e, eLt, Option.bind_some, ↓reduceIte, K_58, K_59, K_60, K_61, K_62, K_63, R_58_0, R_58_1, R_58_2, R_58_3, R_58_4, K_68, K_69, K_70, K_71, R_68_0, R_68_1, R_68_2, true_and, and_true, eB, decide_true, decide_false, Bool.or_true, Bool.true_or, not_true_eq_false, not_false_eq_true]
  | succ n ih =>
    intro i j N L I hi hj hN hjL h6 hO
    obtain ⟨N, rfl⟩ := Nat.exists_eq_add_of_le' (Nat.succ_le_of_lt hN)
    rw [show N + (n + 1 + 1) = N + n + 1 + 1 by omega, f_X5_nextOrder_85]
    by_cases q : i < j
    · have e : (Int32.ofNat j ≤ Int32.ofNat i) = False := (i_le (by omega) (by omega)).trans (eq_false (by omega))
      obtain ⟨I1, b1, b2, b3⟩ := co_swap (J := J) (show i < L.length by omega) hjL h6 hO
      obtain ⟨j, rfl⟩ : ∃ j', j = j' + 1 := ⟨j - 1, by omega⟩
      obtain ⟨I2, c1, c2, c3, c4⟩ := ih (i + 1) j (N + n + 1) (oSw L i (j + 1)) I1 (by omega) (by omega) (by omega) (by rw [oSw_len]; omega) (by rw [oSw_len]; exact h6) b2
      have er : oRv (n + 1) L i (j + 1) = oRv n (oSw L i (j + 1)) (i + 1) j := by
        show (if i < j + 1 then oRv n (oSw L i (j + 1)) (i + 1) (j + 1 - 1) else L) = _
        rw [if_pos q, Nat.add_sub_cancel]
      refine ⟨I2, ?_, by rw [er]; exact c2, by rw [er, c3, oSw_len], fun r hr => by rw [c4 r hr, b3 r hr]⟩
      have e1 : Int32.ofNat i + 1 = Int32.ofNat (i + 1) := i_ad (m := 1)
      simp only [e, eLt, Option.bind_some, ↓reduceIte, K_58, K_59, K_60, K_61, K_62, K_63, R_58_0, R_58_1, R_58_2, R_58_3, R_58_4, K_68, K_69, K_70, K_71, R_68_0, R_68_1, R_68_2, true_and, and_true, eB, decide_true, decide_false, Bool.or_true, Bool.true_or, not_true_eq_false, not_false_eq_true, b1, e1, n1 (n := j)]
      exact c1
    · have e : (Int32.ofNat j ≤ Int32.ofNat i) = True := (i_le (by omega) (by omega)).trans (eq_true (by omega))
      have er : oRv (n + 1) L i j = L := by
        show (if i < j then oRv n (oSw L i j) (i + 1) (j - 1) else L) = _
        rw [if_neg q]
      refine ⟨I, ?_, by rw [er]; exact hO, by rw [er], fun _ _ => rfl⟩
      simp only [e, eLt, Option.bind_some, ↓reduceIte, K_58, K_59, K_60, K_61, K_62, K_63, R_58_0, R_58_1, R_58_2, R_58_3, R_58_4, K_68, K_69, K_70, K_71, R_68_0, R_68_1, R_68_2, true_and, and_true, eB, decide_true, decide_false, Bool.or_true, Bool.true_or, not_true_eq_false, not_false_eq_true]
theorem co_abv (h6 : L.length ≤ 6) (hL : ∀ x, x ∈ L → x < 12) (hO : OdOk I L) (ht : t < L.length) : ∀ k N, k < N → k < L.length →
    f_X5_nextOrder_41 N 68 st (Int32.ofNat t) (Int32.ofNat k) (I, J) = f_X5_nextOrder_69 68 st (Int32.ofNat t) (Int32.ofNat (oAb L t k)) (I, J) := by
  have e1 : Int32.ofNat t + 1 = Int32.ofNat (t + 1) := i_ad (m := 1)
  intro k
  induction k with
  | zero =>
    intro N hN hk
    obtain ⟨N, rfl⟩ := Nat.exists_eq_add_of_le' (Nat.succ_le_of_lt hN)
    have e : (Int32.ofNat 0 ≤ Int32.ofNat (t + 1)) = True := (i_le (by omega) (by omega)).trans (eq_true (by omega))
    rw [show N + (0 + 1) = N + 1 by omega, f_X5_nextOrder_41]
    simp only [e1, e, ↓reduceIte]
    rfl
  | succ k ih =>
    intro N hN hk
    obtain ⟨N, rfl⟩ := Nat.exists_eq_add_of_le' (Nat.succ_le_of_lt hN)
    have e : (Int32.ofNat (k + 1) ≤ Int32.ofNat (t + 1)) = (k + 1 ≤ t + 1) := i_le (by omega) (by omega)
    have hv1 := hL _ (getD_mem hk)
    have hv2 := hL _ (getD_mem ht)
    have e2 : (Int32.ofNat (L.getD t 0) ≤ Int32.ofNat (L.getD (k + 1) 0)) = (L.getD t 0 ≤ L.getD (k + 1) 0) := i_le (by omega) (by omega)
    rw [show N + (k + 1 + 1) = N + k + 1 + 1 by omega, f_X5_nextOrder_41]
    unfold oAb
    by_cases q : k + 1 ≤ t + 1
    · rw [if_neg (show ¬ t + 1 < k + 1 by omega)]
      simp only [e1, e, q, ↓reduceIte]
    · rw [if_pos (show t + 1 < k + 1 by omega)]
      simp only [e1, e, q, eLt, Option.bind_some, ↓reduceIte, K_58, K_59, K_60, K_61, K_62, K_63, R_58_0, R_58_1, R_58_2, R_58_3, R_58_4, K_68, K_69, K_70, K_71, R_68_0, R_68_1, R_68_2, true_and, and_true, eB, decide_true, decide_false, Bool.or_true, Bool.true_or, not_true_eq_false, not_false_eq_true, g_tn (show k + 1 < 6 by omega), g_ix (show k + 1 < 6 by omega), g_tn (show t < 6 by omega), g_ix (show t < 6 by omega), hO t ht, hO (k + 1) hk, e2]
      by_cases q2 : L.getD t 0 ≤ L.getD (k + 1) 0
      · rw [if_pos q2, if_neg (by omega)]
      · rw [if_neg q2, if_pos (by omega), n1]
        exact ih (N + k + 1) (by omega) (by omega)
theorem oAb_le : ∀ k, oAb L t k ≤ k
  | 0 => Nat.le_refl _
  | k + 1 => by
    unfold oAb
    have := oAb_le k
    split
    · split <;> omega
    · omega
theorem oTu_lt : ∀ k, oTu L k = some t → t < k
  | 0, h => by
    unfold oTu at h
    cases h
  | k + 1, h => by
    unfold oTu at h
    split at h
    · have := oTu_lt k h
      omega
    · cases h
      omega
theorem co_turn (h6 : L.length ≤ 6) (hL : ∀ x, x ∈ L → x < 12) (hO : OdOk I L) : ∀ k N, k < N → k + 1 ≤ L.length →
    f_X5_nextOrder_4 N 68 st (xDn k) (I, J) = match oTu L k with
      | none => f_X5_nextOrder_31 68 st (-1) (I, J)
      | some t => f_X5_nextOrder_31 68 st (Int32.ofNat t) (I, J) := by
  intro k
  induction k with
  | zero =>
    intro N hN hk
    obtain ⟨N, rfl⟩ := Nat.exists_eq_add_of_le' (Nat.succ_le_of_lt hN)
    rw [show N + (0 + 1) = N + 1 by omega, f_X5_nextOrder_4]
    have e : xDn 0 < 0 := by decide
    rw [if_pos e]
    rfl
  | succ k ih =>
    intro N hN hk
    obtain ⟨N, rfl⟩ := Nat.exists_eq_add_of_le' (Nat.succ_le_of_lt hN)
    have e : (Int32.ofNat k < 0) = False := i_lt0 (by omega)
    have e1 : Int32.ofNat k + 1 = Int32.ofNat (k + 1) := i_ad (m := 1)
    have hv1 := hL _ (getD_mem (show k < L.length by omega))
    have hv2 := hL _ (getD_mem (show k + 1 < L.length by omega))
    have e2 : (Int32.ofNat (L.getD k 0) ≤ Int32.ofNat (L.getD (k + 1) 0)) = (L.getD k 0 ≤ L.getD (k + 1) 0) := i_le (by omega) (by omega)
    rw [show N + (k + 1 + 1) = N + k + 1 + 1 by omega, f_X5_nextOrder_4]
    unfold oTu
    simp only [show xDn (k + 1) = Int32.ofNat k from rfl, e, e1, eLt, Option.bind_some, ↓reduceIte, K_58, K_59, K_60, K_61, K_62, K_63, R_58_0, R_58_1, R_58_2, R_58_3, R_58_4, K_68, K_69, K_70, K_71, R_68_0, R_68_1, R_68_2, true_and, and_true, eB, decide_true, decide_false, Bool.or_true, Bool.true_or, not_true_eq_false, not_false_eq_true, g_tn (show k + 1 < 6 by omega), g_ix (show k + 1 < 6 by omega), g_tn (show k < 6 by omega), g_ix (show k < 6 by omega), hO k (by omega), hO (k + 1) (by omega), e2, xDn_s]
    by_cases q2 : L.getD k 0 ≤ L.getD (k + 1) 0
    · rw [if_pos q2, if_neg (by omega)]
    · rw [if_neg q2, if_pos (by omega)]
      exact ih (N + k + 1) (by omega) (by omega)
/-- the next order, or that there is none -/
theorem co_next (h6 : L.length ≤ 6) (hL : ∀ x, x ∈ L → x < 12) (hO : OdOk I L) :
    (oNx L = none → f_X5_nextOrder 68 (Int32.ofNat L.length) (I, J) = some (0, (I, J))) ∧
    ∀ M, oNx L = some M → ∃ I', f_X5_nextOrder 68 (Int32.ofNat L.length) (I, J) = some (1, (I', J)) ∧ OdOk I' M ∧ M.length = L.length ∧ ∀ r, ¬ r = 69 → I' r = I r := by
  by_cases h0 : L.length = 0
  · have hl : L = [] := List.length_eq_zero_iff.1 h0
    subst hl
    refine ⟨fun _ => ?_, fun M hM => by cases hM⟩
    unfold f_X5_nextOrder
    obtain ⟨N, hN⟩ : ∃ N, N + 1 = 1000000 := ⟨999999, rfl⟩
    rw [eLt, ← hN, f_X5_nextOrder_4]
    have e : Int32.ofNat ([] : List Nat).length - 2 < 0 := by decide
    rw [if_pos e]
    unfold f_X5_nextOrder_31
    have e2 : ¬ (0 : Int32) ≤ Int32.ofNat ([] : List Nat).length - 2 := by decide
    rw [if_neg e2]
    simp only [eB, ↓reduceIte, decide_true, decide_false, Bool.or_true, Bool.true_or]
  · have es : Int32.ofNat L.length - 2 = xDn (L.length - 1) := by
      obtain ⟨k, hk⟩ : ∃ k, L.length = k + 1 := ⟨L.length - 1, by omega⟩
      rw [hk, Nat.add_sub_cancel]
      cases k with
      | zero => decide
      | succ k =>
        show Int32.ofNat (k + 1 + 1) - Int32.ofNat 2 = Int32.ofNat k
        exact i_sb (n := k + 1 + 1) (m := 2) (by omega)
    have et := co_turn (J := J) (st := Int32.ofNat L.length) h6 hL hO (L.length - 1) 1000000 (by omega) (by omega)
    unfold f_X5_nextOrder oNx
    rw [eLt, es, et]
    cases hT : oTu L (L.length - 1) with
    | none =>
      refine ⟨fun _ => ?_, fun M hM => by cases hM⟩
      unfold f_X5_nextOrder_31
      have e2 : ¬ (0 : Int32) ≤ -1 := by decide
      simp only [e2, eB, ↓reduceIte, decide_true, decide_false, Bool.or_true, Bool.true_or]
    | some t =>
      have ht := oTu_lt _ hT
      refine ⟨fun g => (by cases g), fun M hM => ?_⟩
      have hM' : M = oRv L.length (oSw L t (oAb L t (L.length - 1))) (t + 1) (L.length - 1) := (Option.some.inj hM).symm
      have hab := oAb_le (L := L) (t := t) (L.length - 1)
      obtain ⟨I1, b1, b2, b3⟩ := co_swap (J := J) (show t < L.length by omega) (show oAb L t (L.length - 1) < L.length by omega) h6 hO
      obtain ⟨I2, c1, c2, c3, c4⟩ := co_rev (J := J) L.length (t + 1) (L.length - 1) 1000000 (oSw L t (oAb L t (L.length - 1))) I1 (by omega) (by omega) (by omega) (by rw [oSw_len]; omega) (by rw [oSw_len]; exact h6) b2
      refine ⟨I2, ?_, by rw [hM']; exact c2, by rw [hM', c3, oSw_len], fun r hr => by rw [c4 r hr, b3 r hr]⟩
      have e0 : ((0 : Int32) ≤ Int32.ofNat t) = True := (i_le (n := 0) (by decide) (by omega)).trans (eq_true (by omega))
      have e3 : Int32.ofNat L.length - 1 = Int32.ofNat (L.length - 1) := i_sb (m := 1) (by omega)
      have e1 : Int32.ofNat t + 1 = Int32.ofNat (t + 1) := i_ad (m := 1)
      show f_X5_nextOrder_31 68 (Int32.ofNat L.length) (Int32.ofNat t) (I, J) = _
      unfold f_X5_nextOrder_31
      simp only [e0, ↓reduceIte, eLt, e3]
      rw [co_abv h6 hL hO (by omega) (L.length - 1) 1000000 (by omega) (by omega)]
      unfold f_X5_nextOrder_69
      simp only [eLt, Option.bind_some, ↓reduceIte, K_58, K_59, K_60, K_61, K_62, K_63, R_58_0, R_58_1, R_58_2, R_58_3, R_58_4, K_68, K_69, K_70, K_71, R_68_0, R_68_1, R_68_2, true_and, and_true, eB, decide_true, decide_false, Bool.or_true, Bool.true_or, not_true_eq_false, not_false_eq_true, b1, e1, e3]
      exact c1
end EPZ
