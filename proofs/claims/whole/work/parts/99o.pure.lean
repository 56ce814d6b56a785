/-! the reference's clear and step -/
def rP (z : Option (Int32 × eMem)) (I : Nat → Nat → Int32) (J : Nat → Nat → Int64) (o : Int32 × Int32 × aP) : Prop :=
  ∃ I' J', z = some (o.2.1, (I', J')) ∧ PgR I' o.2.2 ∧ I' 122 32 = o.1 ∧ (∀ r, ¬ r = 122 → ¬ (154 ≤ r ∧ r ≤ 160) → I' r = I r) ∧ (∀ i, ¬ i = 32 → ¬ i = 38 → ¬ i = 40 → ¬ i = 42 → I' 122 i = I 122 i) ∧ ∀ r, ¬ r = 158 → ¬ r = 159 → J' r = J r
section EPT
variable {P : aP} {I I' I0 : Nat → Nat → Int32} {J J' J0 : Nat → Nat → Int64} {a : aS} {m r y z k n p t s N v w i j : Nat} {l L M : List Nat} {X Y Z W : Int32} {σ : eMem}
theorem RepR_fr2 (h : RepR I a) (e : ∀ r, 123 ≤ r → r < 154 → I' r = I r) (e2 : I' 122 18 = I 122 18) : RepR I' a := by
  refine ⟨fun r i hs => ?_, fun q hq => ?_, fun l hl => ?_⟩
  · have h1 := h.1 r i hs
    unfold aSc at hs
    by_cases c : r = 122
    · have c2 : i = 18 := by omega
      subst c c2
      rw [e2]
      exact h1
    · rw [e r (by omega) (by omega)]
      exact h1
  · have := h.2.1 q hq
    unfold RqOk at this ⊢
    rw [e 132 (by decide) (by decide), e 133 (by decide) (by decide), e 134 (by decide) (by decide)]
    exact this
  · have := h.2.2 l hl
    unfold RoOk at this ⊢
    rw [e 130 (by decide) (by decide), e 131 (by decide) (by decide)]
    exact this
theorem PgR_fr (h : PgR I P) (e : ∀ r, 154 ≤ r → r < 158 → I' r = I r) : PgR I' P :=
  ⟨h.1, fun t ht => by rw [e 154 (by decide) (by decide)]; exact h.2.1 t ht, fun x hx => by
    rw [e 155 (by decide) (by decide), e 156 (by decide) (by decide), e 157 (by decide) (by decide)]
    exact h.2.2 x hx⟩
theorem rp_clear0 (N : Nat) (b : Int32) : f_X12_clear_28 (N + 4) 122 b 0 (I, J) = some (b, (eup (eup (eup I 154 0 0) 154 1 0) 154 2 0, J)) := by
  have g : ∀ N t (I : Nat → Nat → Int32), t < 3 → f_X12_clear_28 (N + 1) 122 b (Int32.ofNat t) (I, J) = f_X12_clear_28 N 122 b (Int32.ofNat (t + 1)) (eup I 154 t 0, J) := by
    intro N t I ht
    have e : ((3 : Int32) ≤ Int32.ofNat t) = (3 ≤ t) := i_le (n := 3) (by decide) (by omega)
    have e1 : Int32.ofNat t + 1 = Int32.ofNat (t + 1) := i_ad (m := 1)
    have n3 : ¬ 3 ≤ t := by omega
    show (if (3 : Int32) ≤ Int32.ofNat t then _ else _) = _
    simp only [e, n3, t_tn ht, t_ix ht, eLt, Option.bind_some, ↓reduceIte, K_122, R_122_33, R_122_34, R_122_35, R_122_36, K_154, K_155, K_156, K_157, true_and, and_true, eB, decide_true, decide_false, Bool.or_true, Bool.true_or, not_true_eq_false, not_false_eq_true, e1]
  exact ((g (N + 3) 0 I (by decide)).trans ((g (N + 2) 1 _ (by decide)).trans ((g (N + 1) 2 _ (by decide)).trans rfl)))
theorem rp_clear (h : PgR I P) : rP (f_X12_clear 122 (I, J)) I J (0, Int32.ofNat (gTo P), gP0 P) := by
  refine ⟨eup (eup (eup (eup I 122 32 0) 154 0 0) 154 1 0) 154 2 0, J, ?_, ⟨gWf_0, fun t ht => ?_, fun x hx => ?_⟩, ?_, fun r h1 h2 => ?_, fun i h1 _ _ _ => ?_, fun _ _ _ => rfl⟩
  · have z0 : (0 : Int32).toNatClampNeg = 0 := rfl
    have z1 : (1 : Int32).toNatClampNeg = 1 := rfl
    have z2 : (2 : Int32).toNatClampNeg = 2 := rfl
    have j0 : eix (0 : Int32) 3 = true := rfl
    have j1 : eix (1 : Int32) 3 = true := rfl
    have j2 : eix (2 : Int32) 3 = true := rfl
    have u : ∀ t, eup I 122 32 0 154 t = I 154 t := fun t => up_r (by decide)
    have es : Int32.ofNat (P.1 0) + Int32.ofNat (P.1 1) + Int32.ofNat (P.1 2) = Int32.ofNat (gTo P) := by
      rw [i_ad, i_ad]
      rfl
    unfold f_X12_clear
    obtain ⟨N, hN⟩ : ∃ N, N + 4 = 1000000 := ⟨999996, rfl⟩
    rw [← hN]
    simp only [eLt, Option.bind_some, ↓reduceIte, K_122, R_122_33, R_122_34, R_122_35, R_122_36, K_154, K_155, K_156, K_157, true_and, and_true, eB, decide_true, decide_false, Bool.or_true, Bool.true_or, not_true_eq_false, not_false_eq_true, z0, z1, z2, j0, j1, j2, u, h.2.1 0 (by decide), h.2.1 1 (by decide), h.2.1 2 (by decide), es]
    exact rp_clear0 N _
  · have : t = 0 ∨ t = 1 ∨ t = 2 := by omega
    rcases this with q | q | q
    · subst q
      rw [up_k (by decide), up_k (by decide), up_eq]
      rfl
    · subst q
      rw [up_k (by decide), up_eq]
      rfl
    · subst q
      rw [up_eq]
      rfl
  · rw [gU_0] at hx
    cases hx
  · rw [up_r (by decide), up_r (by decide), up_r (by decide), up_eq]
  · rw [up_fr (by omega), up_fr (by omega), up_fr (by omega), up_fr (by omega)]
  · rw [up_r (by decide), up_r (by decide), up_r (by decide), up_k h1]
theorem i_n2 : ((2 : Int32) < X) = ¬ X < 3 := by
  have t2 : (2 : Int32).toInt = 2 := by decide
  have t3 : (3 : Int32).toInt = 3 := by decide
  rw [Int32.lt_iff_toInt_lt, Int32.lt_iff_toInt_lt, t2, t3]
  exact propext (by omega)
theorem i_n3 : ((3 : Int32) < X) = ¬ X ≤ 3 := by
  rw [Int32.lt_iff_toInt_lt, Int32.le_iff_toInt_le]
  exact propext (by omega)
theorem rp_step1 (hA : stA X Y Z) : f_X12_step 122 X Y Z W σ = f_X12_step_41 122 X Y Z W 122 0 σ := by
  unfold f_X12_step f_X12_step_14 f_X12_step_18
  have g0 : ∀ s0 : Int32, ((X < 0 ∨ ¬ X < 3) ∨ s0 = 0) → f_X12_step_19 122 X Y Z W s0 σ = f_X12_step_41 122 X Y Z W 122 0 σ := by
    intro s0 h
    unfold f_X12_step_19 f_X12_step_40
    simp only [i_n2]
    by_cases c1 : X < 0
    · rw [if_pos c1]
    · by_cases c2 : X < 3
      · have c3 : s0 = 0 := h.resolve_left (fun g => g.elim c1 (fun g => g c2))
        simp only [c1, c2, c3, ↓reduceIte, not_true_eq_false]
      · simp only [c1, c2, ↓reduceIte, not_false_eq_true]
  simp only [i_n2]
  rcases hA with h | ⟨h1, h2⟩
  · by_cases c : Y = 2
    · rw [if_pos c]
      exact g0 _ (Or.inl h)
    · rw [if_neg c]
      by_cases c2 : Z < 0
      · rw [if_pos c2]
        exact g0 _ (Or.inl h)
      · rw [if_neg c2]
        by_cases c3 : Z < 3
        · simp only [c3, not_true_eq_false, ↓reduceIte]
          exact g0 _ (Or.inl h)
        · simp only [c3, not_false_eq_true, ↓reduceIte]
          exact g0 _ (Or.inl h)
  · rw [if_neg h1]
    by_cases c2 : Z < 0
    · rw [if_pos c2]
      exact g0 _ (Or.inr rfl)
    · rw [if_neg c2]
      have c3 := h2.resolve_left c2
      simp only [c3, not_false_eq_true, ↓reduceIte]
      exact g0 _ (Or.inr rfl)
theorem rp_step2 (hA : ¬ stA X Y Z) : f_X12_step 122 X Y Z W σ = f_X12_step_41 122 X Y Z W 122 1 σ := by
  unfold stA at hA
  rw [not_or] at hA
  obtain ⟨hA1, hA2⟩ := hA
  rw [not_or] at hA1
  have x3 : X < 3 := Classical.not_not.1 hA1.2
  have g0 : f_X12_step_19 122 X Y Z W 1 σ = f_X12_step_41 122 X Y Z W 122 1 σ := by
    unfold f_X12_step_19
    simp only [i_n2]
    simp only [hA1.1, x3, ↓reduceIte, not_true_eq_false, show ¬ (1 : Int32) = 0 by decide]
  unfold f_X12_step f_X12_step_14 f_X12_step_18
  simp only [i_n2]
  by_cases c : Y = 2
  · rw [if_pos c]
    exact g0
  · have h : ¬ (Z < 0 ∨ ¬ Z < 3) := fun g => hA2 ⟨c, g⟩
    rw [not_or] at h
    have z3 : Z < 3 := Classical.not_not.1 h.2
    simp only [c, h.1, z3, ↓reduceIte, not_true_eq_false]
    exact g0
theorem rp_as0 : f_X12_asks 122 0 (I, J) = some (0, (eup I 122 32 1, J)) := by
  unfold f_X12_asks f_X12_asks_10
  simp only [eLt, Option.bind_some, ↓reduceIte, K_122, R_122_33, R_122_34, R_122_35, R_122_36, K_154, K_155, K_156, K_157, true_and, and_true, eB, decide_true, decide_false, Bool.or_true, Bool.true_or, not_true_eq_false, not_false_eq_true]
theorem rp_as1 : f_X12_asks 122 1 (I, J) = some (1, (eup I 122 32 0, J)) := by
  unfold f_X12_asks f_X12_asks_10
  simp only [eLt, Option.bind_some, ↓reduceIte, K_122, R_122_33, R_122_34, R_122_35, R_122_36, K_154, K_155, K_156, K_157, true_and, and_true, eB, decide_true, decide_false, Bool.or_true, Bool.true_or, not_true_eq_false, not_false_eq_true, show ¬ (1 : Int32) = 0 by decide]
/-- an answer of 0, with what is thrown -/
theorem rP_fail (u t : Int32) (h : PgR I P) : rP (some (0, (eup (eup I 122 32 u) 122 32 t, J))) I J (t, 0, P) :=
  ⟨_, J, rfl, PgR_fr h (fun r h1 h2 => by rw [up_fr (by omega), up_fr (by omega)]), up_eq, fun r h1 _ => by rw [up_fr h1, up_fr h1], fun i h1 _ _ _ => by rw [up_k h1, up_k h1], fun _ _ _ => rfl⟩
theorem rp_stepA (hA : stA X Y Z) (h : PgR I P) : rP (f_X12_step 122 X Y Z W (I, J)) I J (1, 0, P) := by
  rw [rp_step1 hA]
  unfold f_X12_step_41
  simp only [eLt, Option.bind_some, ↓reduceIte, K_122, R_122_33, R_122_34, R_122_35, R_122_36, K_154, K_155, K_156, K_157, true_and, and_true, eB, decide_true, decide_false, Bool.or_true, Bool.true_or, not_true_eq_false, not_false_eq_true, rp_as0]
  exact ⟨_, J, rfl, PgR_fr h (fun r h1 h2 => up_fr (by omega)), up_eq, fun r h1 _ => up_fr h1, fun i h1 _ _ _ => up_k h1, fun _ _ _ => rfl⟩
theorem rp_stepB (hA : ¬ stA X Y Z) (hB : stB Y W) (h : PgR I P) : rP (f_X12_step 122 X Y Z W (I, J)) I J (2, 0, P) := by
  rw [rp_step2 hA]
  have g : f_X12_step_75 122 (eup I 122 32 0, J) = some (0, (eup (eup I 122 32 0) 122 32 2, J)) := by
    unfold f_X12_step_75 f_X12_fails
    simp only [eLt, Option.bind_some, ↓reduceIte, K_122, R_122_33, R_122_34, R_122_35, R_122_36, K_154, K_155, K_156, K_157, true_and, and_true, eB, decide_true, decide_false, Bool.or_true, Bool.true_or, not_true_eq_false, not_false_eq_true]
  unfold f_X12_step_41
  simp only [eLt, Option.bind_some, ↓reduceIte, K_122, R_122_33, R_122_34, R_122_35, R_122_36, K_154, K_155, K_156, K_157, true_and, and_true, eB, decide_true, decide_false, Bool.or_true, Bool.true_or, not_true_eq_false, not_false_eq_true, rp_as1, show ¬ (1 : Int32) = 0 by decide, i_n3, g]
  by_cases c1 : Y < 0
  · rw [if_pos c1]
    exact rP_fail 0 2 h
  · rw [if_neg c1]
    by_cases c2 : Y ≤ 3
    · have h3 := hB.resolve_left (fun q => q.elim c1 (fun q => q c2))
      simp only [c2, h3.1, not_true_eq_false, ↓reduceIte]
      rcases h3.2 with q | q
      · rw [if_pos q]
        exact rP_fail 0 2 h
      · simp only [q, ↓reduceIte]
        rw [ite_self]
        exact rP_fail 0 2 h
    · simp only [c2, not_false_eq_true, ↓reduceIte]
      exact rP_fail 0 2 h
theorem rp_step3 (hA : ¬ stA X Y Z) (hB : ¬ stB Y W) : f_X12_step 122 X Y Z W (I, J) = f_X12_step_81 122 X Y Z W (eup I 122 32 0, J) := by
  rw [rp_step2 hA]
  unfold stB at hB
  rw [not_or] at hB
  obtain ⟨hB1, hB2⟩ := hB
  rw [not_or] at hB1
  have y3 : Y ≤ 3 := Classical.not_not.1 hB1.2
  unfold f_X12_step_41
  simp only [eLt, Option.bind_some, ↓reduceIte, K_122, R_122_33, R_122_34, R_122_35, R_122_36, K_154, K_155, K_156, K_157, true_and, and_true, eB, decide_true, decide_false, Bool.or_true, Bool.true_or, not_true_eq_false, not_false_eq_true, rp_as1, show ¬ (1 : Int32) = 0 by decide, i_n3, hB1.1, y3]
  by_cases c : Y = 0
  · have h : ¬ (W < 1 ∨ ¬ W ≤ 9) := fun g => hB2 ⟨c, g⟩
    rw [not_or] at h
    simp only [c, h.1, Classical.not_not.1 h.2, ↓reduceIte, not_true_eq_false]
  · simp only [c, ↓reduceIte, not_false_eq_true]
end EPT
