/-! the search: what a step leads to -/
section EPS
variable {P : aP} {I I' I0 : Nat → Nat → Int32} {J J0 : Nat → Nat → Int64} {m r y z k n p t s N v w i j : Nat} {S : aT} {l L M : List Nat} {st : Int32} {x x' : Int64} {σ : eMem}
theorem zN_le (h : ∀ t, t < 3 → pF x t ≤ pF x' t) : zN P x' ≤ zN P x := by
  refine wN_le (fun y hy => ?_) 12
  rw [Bool.and_eq_true, Bool.and_eq_true, decide_eq_true_iff, decide_eq_true_iff] at hy ⊢
  have := h (y / 4) (by have := (gU_iff.1 hy.1).1; omega)
  exact ⟨hy.1, hy.2.1, by omega⟩
/-- a step more of a thread -/
theorem RlB_s (hm : m < 2) (R : RlB P m x S) (hW : gWf P) (ht : t < 3) (hi : pF x t < P.1 t) (hn : m = 1 → ¬ P.2.1 (t * 4 + pF x t) = 0)
    (h1 : ∀ j, j < 6 → pF x' j = if j = t then pF x t + 1 else pF x j) (h2 : ∀ q, q < 3 → pF x' (6 + q) = gCo P S.2.1 (t * 4 + pF x t) q) : RlB P m x' (gEf P S (t * 4 + pF x t)) ∧ zN P x' ≤ zN P x := by
  have hz := used_at hW ht hi
  refine ⟨⟨fun u hu => ?_, fun c u hu => ?_, fun y hy => ?_, h2⟩, zN_le (fun u hu => ?_)⟩
  · rw [h1 u (by omega)]
    split
    · rename_i e
      rw [e]
      omega
    · exact R.1 u hu
  · rw [h1 u (by omega), h1 (3 + u) (by omega), if_neg (by omega)]
    have := R.2.1 c u hu
    split
    · rename_i e
      subst e
      omega
    · exact this
  · have hy' := (gU_iff.1 hy).1
    show (decide (y = t * 4 + pF x t) || S.1 y) = true ↔ _
    rw [Bool.or_eq_true, decide_eq_true_iff, R.2.2.1 y hy, h1 (y / 4) (by omega), h1 (3 + y / 4) (by omega), if_neg (show ¬ 3 + y / 4 = t by omega)]
    by_cases e : y / 4 = t
    · rw [if_pos e, e]
      constructor
      · rintro (g | g)
        · subst g
          exact ⟨by omega, fun c c2 => absurd c2 (hn c)⟩
        · exact ⟨by omega, g.2⟩
      · rintro ⟨g1, g2⟩
        by_cases q : y % 4 = pF x t
        · exact Or.inl (by omega)
        · exact Or.inr ⟨by omega, g2⟩
    · rw [if_neg e]
      constructor
      · rintro (g | g)
        · omega
        · exact g
      · exact Or.inr
  · rw [h1 u (by omega)]
    split
    · rename_i e
      rw [e]
      omega
    · exact Nat.le_refl _
theorem cp_after (hm : m < 2) (R : RlB P m x S) (ht : t < 3) (hi : pF x t < P.1 t) (hn : m = 1 → ¬ P.2.1 (t * 4 + pF x t) = 0) (hB : gBd P S (s + 1)) (h : PgC I P) :
    ∃ x', f_X9_after 58 x (Int32.ofNat (t * 4 + pF x t)) (I, J) = some (x', (I, J)) ∧ RlB P m x' (gEf P S (t * 4 + pF x t)) ∧ zN P x' ≤ zN P x := by
  have hz := used_at h.1 ht hi
  have hx := (gU_iff.1 hz.1).1
  have h4 := h.1.1 t ht
  obtain ⟨w1, w2, w3⟩ := h.1.2.2 _ hz.1
  obtain ⟨p1, p2, p3, p4⟩ := h.2.2 _ hz.1
  have e0 : (Int32.ofNat (P.2.1 (t * 4 + pF x t)) = 0) = (P.2.1 (t * 4 + pF x t) = 0) := i_eq (m := 0) (by omega) (by decide)
  have e3 : (Int32.ofNat (P.2.1 (t * 4 + pF x t)) = 3) = (P.2.1 (t * 4 + pF x t) = 3) := i_eq (m := 3) (by omega) (by decide)
  have e1 : Int32.ofNat (pF x t) + 1 = Int32.ofNat (pF x t + 1) := i_ad (m := 1)
  have em : Int32.ofNat (t * 4 + pF x t) - Int32.ofNat t * 4 = Int32.ofNat (pF x t) := by
    have := x_md' hx
    rw [hz.2.1, hz.2.2] at this
    exact this
  obtain ⟨x1, a1, a2⟩ := cp_with x (show t < 9 by omega) (show pF x t + 1 < 16 by omega)
  have hc := hB.2.1 _ w2
  have hq := R.2.2.2 _ w2
  unfold f_X9_after
  simp only [eLt, Option.bind_some, ↓reduceIte, K_58, K_59, K_60, K_61, K_62, K_63, R_58_0, R_58_1, R_58_2, R_58_3, R_58_4, true_and, and_true, eB, decide_true, decide_false, Bool.or_true, Bool.true_or, not_true_eq_false, not_false_eq_true, four0, x_tn hx, x_ix hx, x_dv hx, hz.2.1, em, p1, p2, e0, e3, ad0, ad6, e1, a1]
  by_cases q : P.2.1 (t * 4 + pF x t) = 0
  · obtain ⟨x2, b1, b2⟩ := cp_with x1 (show 6 + P.2.2.1 (t * 4 + pF x t) < 9 by omega) (show P.2.2.2 (t * 4 + pF x t) < 16 by have := w3 q; omega)
    refine ⟨x2, ?_, RlB_s hm R h.1 ht hi hn (fun j hj => ?_) (fun q' hq' => ?_)⟩
    · simp only [q, ↓reduceIte, p3 q, b1, Option.bind_some]
    · rw [b2 j (by omega), if_neg (by omega), a2 j (by omega)]
    · rw [b2 _ (by omega), a2 _ (by omega), if_neg (show ¬ 6 + q' = t by omega)]
      unfold gCo
      rw [if_pos q]
      by_cases c : q' = P.2.2.1 (t * 4 + pF x t)
      · rw [c, if_pos rfl, gUp_eq]
      · rw [if_neg (by omega), gUp_ne c]
        exact R.2.2.2 q' hq'
  · by_cases q3 : P.2.1 (t * 4 + pF x t) = 3
    · have e5 : Int32.ofNat (pF x (6 + P.2.2.1 (t * 4 + pF x t))) + 1 = Int32.ofNat (pF x (6 + P.2.2.1 (t * 4 + pF x t)) + 1) := i_ad (m := 1)
      obtain ⟨x2, b1, b2⟩ := cp_with x1 (show 6 + P.2.2.1 (t * 4 + pF x t) < 9 by omega) (show pF x (6 + P.2.2.1 (t * 4 + pF x t)) + 1 < 16 by omega)
      refine ⟨x2, ?_, RlB_s hm R h.1 ht hi hn (fun j hj => ?_) (fun q' hq' => ?_)⟩
      · simp only [q3, show ¬ (3 : Nat) = 0 by decide, ↓reduceIte, cp_part (show 6 + P.2.2.1 (t * 4 + pF x t) < 9 by omega), e5, b1, Option.bind_some]
      · rw [b2 j (by omega), if_neg (by omega), a2 j (by omega)]
      · rw [b2 _ (by omega), a2 _ (by omega), if_neg (show ¬ 6 + q' = t by omega)]
        unfold gCo
        rw [if_neg q, if_pos q3]
        by_cases c : q' = P.2.2.1 (t * 4 + pF x t)
        · rw [c, if_pos rfl, gUp_eq, hq]
        · rw [if_neg (by omega), gUp_ne c]
          exact R.2.2.2 q' hq'
    · refine ⟨x1, ?_, RlB_s hm R h.1 ht hi hn (fun j hj => a2 j (by omega)) (fun q' hq' => ?_)⟩
      · simp only [q, q3, ↓reduceIte]
      · rw [a2 _ (by omega), if_neg (by omega)]
        unfold gCo
        rw [if_neg q, if_neg q3]
        exact R.2.2.2 q' hq'
/-- the oldest store of a buffer comes out -/
theorem cp_drain (R : RlB P 1 x S) (ht : t < 3) (ho : oB P x t = some k) (h : PgC I P) :
    ∃ x1 x2, (∀ σ, f_X9_with x ((6 : Int32) + Int32.ofNat (P.2.2.1 (t * 4 + k))) (Int32.ofNat (P.2.2.2 (t * 4 + k))) σ = some (x1, σ)) ∧
      (∀ σ, f_X9_with x1 ((3 : Int32) + Int32.ofNat t) (Int32.ofNat (k + 1)) σ = some (x2, σ)) ∧ RlB P 1 x2 (gEf P S (t * 4 + k)) ∧ zN P x2 ≤ zN P x := by
  obtain ⟨g1, g2, g3, g4⟩ := fO_some _ _ ho
  have hi := R.1 t ht
  have h4 := h.1.1 t ht
  have hz := used_at h.1 ht (show k < P.1 t by omega)
  obtain ⟨w1, w2, w3⟩ := h.1.2.2 _ hz.1
  obtain ⟨x1, a1, a2⟩ := cp_with x (show 6 + P.2.2.1 (t * 4 + k) < 9 by omega) (show P.2.2.2 (t * 4 + k) < 16 by have := w3 g3; omega)
  obtain ⟨x2, b1, b2⟩ := cp_with x1 (show 3 + t < 9 by omega) (show k + 1 < 16 by omega)
  rw [ad6, ad3]
  refine ⟨x1, x2, a1, b1, ⟨fun u hu => ?_, fun _ u hu => ?_, fun y hy => ?_, fun q hq => ?_⟩, zN_le (fun u hu => ?_)⟩
  · rw [b2 u (by omega), if_neg (by omega), a2 u (by omega), if_neg (by omega)]
    exact R.1 u hu
  · rw [b2 u (by omega), if_neg (by omega), a2 u (by omega), if_neg (by omega), b2 (3 + u) (by omega), a2 (3 + u) (by omega), if_neg (show ¬ 3 + u = 6 + P.2.2.1 (t * 4 + k) by omega)]
    by_cases e : u = t
    · rw [e, if_pos rfl]
      omega
    · rw [if_neg (by omega)]
      exact R.2.1 rfl u hu
  · have hy' := (gU_iff.1 hy).1
    show (decide (y = t * 4 + k) || S.1 y) = true ↔ _
    rw [Bool.or_eq_true, decide_eq_true_iff, R.2.2.1 y hy, b2 (y / 4) (by omega), if_neg (show ¬ y / 4 = 3 + t by omega), a2 (y / 4) (by omega), if_neg (show ¬ y / 4 = 6 + P.2.2.1 (t * 4 + k) by omega), b2 (3 + y / 4) (by omega), a2 (3 + y / 4) (by omega), if_neg (show ¬ 3 + y / 4 = 6 + P.2.2.1 (t * 4 + k) by omega)]
    by_cases e : y / 4 = t
    · rw [if_pos (by omega), e]
      have ey : y = t * 4 + y % 4 := by omega
      constructor
      · rintro (g | g)
        · subst g
          exact ⟨by omega, fun _ _ => by omega⟩
        · exact ⟨g.1, fun c c2 => by have := g.2 c c2; omega⟩
      · rintro ⟨f1, f2⟩
        by_cases c2 : P.2.1 y = 0
        · have f3 := f2 rfl c2
          by_cases q : y % 4 = k
          · exact Or.inl (by omega)
          · right
            refine ⟨f1, fun _ _ => ?_⟩
            by_cases q2 : y % 4 < pF x (3 + t)
            · exact q2
            · have := g4 (y % 4) (by omega) (by omega)
              rw [← ey] at this
              exact absurd c2 this
        · exact Or.inr ⟨f1, fun _ c => absurd c c2⟩
    · rw [if_neg (show ¬ 3 + y / 4 = 3 + t by omega)]
      constructor
      · rintro (g | g)
        · omega
        · exact g
      · exact Or.inr
  · rw [b2 _ (by omega), if_neg (show ¬ 6 + q = 3 + t by omega), a2 _ (by omega)]
    show _ = gCo P S.2.1 (t * 4 + k) q
    unfold gCo
    rw [if_pos g3]
    by_cases c : q = P.2.2.1 (t * 4 + k)
    · rw [c, if_pos rfl, gUp_eq]
    · rw [if_neg (by omega), gUp_ne c]
      exact R.2.2.2 q hq
  · rw [b2 u (by omega), if_neg (by omega), a2 u (by omega), if_neg (by omega)]
    exact Nat.le_refl _
/-- a store goes into a buffer -/
theorem cp_fill (R : RlB P 1 x S) (ht : t < 3) (hi : pF x t < P.1 t) (hw : P.2.1 (t * 4 + pF x t) = 0) (h : gWf P) :
    ∃ x', (∀ σ, f_X9_with x ((0 : Int32) + Int32.ofNat t) (Int32.ofNat (pF x t) + 1) σ = some (x', σ)) ∧ RlB P 1 x' S ∧ zN P x = zN P x' + 1 := by
  have h4 := h.1 t ht
  have hz := used_at h ht hi
  have hu := R.2.1 rfl t ht
  obtain ⟨x1, a1, a2⟩ := cp_with x (show t < 9 by omega) (show pF x t + 1 < 16 by omega)
  have e1 : Int32.ofNat (pF x t) + 1 = Int32.ofNat (pF x t + 1) := i_ad (m := 1)
  rw [ad0, e1]
  refine ⟨x1, a1, ⟨fun u hu => ?_, fun c u hu => ?_, fun y hy => ?_, fun q hq => ?_⟩, ?_⟩
  · rw [a2 u (by omega)]
    split
    · rename_i e
      rw [e]
      omega
    · exact R.1 u hu
  · rw [a2 u (by omega), a2 (3 + u) (by omega), if_neg (by omega)]
    have := R.2.1 c u hu
    split
    · rename_i e
      subst e
      omega
    · exact this
  · have hy' := (gU_iff.1 hy).1
    rw [R.2.2.1 y hy, a2 (y / 4) (by omega), a2 (3 + y / 4) (by omega), if_neg (show ¬ 3 + y / 4 = t by omega)]
    by_cases e : y / 4 = t
    · rw [if_pos e, e]
      constructor
      · rintro ⟨g, g2⟩
        exact ⟨by omega, g2⟩
      · rintro ⟨g, g2⟩
        refine ⟨?_, g2⟩
        by_cases q : y % 4 = pF x t
        · have ey : y = t * 4 + pF x t := by omega
          have := g2 rfl (by rw [ey]; exact hw)
          omega
        · omega
    · rw [if_neg e]
  · rw [a2 _ (by omega), if_neg (by omega)]
    exact R.2.2.2 q hq
  · refine wN_one (g := fun y => gU P y && (decide (P.2.1 y = 0) && decide (pF x (y / 4) ≤ y % 4))) (f := fun y => gU P y && (decide (P.2.1 y = 0) && decide (pF x1 (y / 4) ≤ y % 4))) (x := t * 4 + pF x t) ?_ ?_ (fun y hy => ?_) 12 (gU_iff.1 hz.1).1
    · rw [hz.1, decide_eq_true hw, hz.2.1, hz.2.2, decide_eq_true (Nat.le_refl _)]
      rfl
    · rw [hz.2.1, hz.2.2, a2 t (by omega), if_pos rfl, decide_eq_false (show ¬ pF x t + 1 ≤ pF x t by omega), Bool.and_false, Bool.and_false]
    · by_cases g : gU P y = true
      · have hy' := (gU_iff.1 g).1
        rw [a2 (y / 4) (by omega)]
        by_cases e : y / 4 = t
        · rw [if_pos e, e]
          by_cases c : pF x t ≤ y % 4
          · rw [decide_eq_true c, decide_eq_true (show pF x t + 1 ≤ y % 4 by omega)]
          · rw [decide_eq_false c, decide_eq_false (show ¬ pF x t + 1 ≤ y % 4 by omega)]
        · rw [if_neg e]
      · rw [Bool.eq_false_iff.2 g, Bool.false_and, Bool.false_and]
end EPS
