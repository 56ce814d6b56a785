/-! the search finds what a program gives -/
def ExS (P : aP) (m Q A : Nat) (J : Nat → Nat → Int64) (rec : Nat → Nat → Int32 → Int64 → Int32 → Int32 → eMem → Option (Unit × eMem)) (K : Nat) : Prop :=
  ∀ depth r x S I l, RlB P m x S → gBd P S r → depth + r + zN P x ≤ 12 → r + zN P x < K → (∀ k, gOut P m r S k → gFi P m k) → PgC I P → Lst I A Q 1 l → gSo l → (∀ y, y ∈ l → gFi P m y) →
    ∃ I' l', rec 58 Q (Int32.ofNat m) x (Int32.ofNat S.2.2) (Int32.ofNat depth) (I, J) = some ((), (I', J)) ∧ Lst I' A Q 1 l' ∧ gSo l' ∧ (∀ y, y ∈ l' ↔ y ∈ l ∨ gOut P m r S y) ∧
      (∀ i, ¬ i = 1 → I' Q i = I Q i) ∧ ∀ r, ¬ r = A → ¬ r = Q → I' r = I r
def thS (P : aP) (m r : Nat) (S : aT) (t y : Nat) : Prop := ∃ z, z / 4 = t ∧ gOk P m S.1 z ∧ ∃ s, r = s + 1 ∧ gOut P m s (gEf P S z) y
section EPS
variable {P : aP} {I I' I0 : Nat → Nat → Int32} {J J0 : Nat → Nat → Int64} {m r y z k n p t s N v w i j A Q K depth : Nat} {S : aT} {l L M : List Nat} {st : Int32} {x x' : Int64} {σ : eMem} {rec : Nat → Nat → Int32 → Int64 → Int32 → Int32 → eMem → Option (Unit × eMem)}
theorem g_stuck (hB : gBd P S r) (h : ∀ z, ¬ gOk P m S.1 z) : r = 0 := by
  cases r with
  | zero => rfl
  | succ r =>
    exfalso
    have key : ∀ n y, y ≤ n → gU P y = true → S.1 y = false → False := by
      intro n
      induction n with
      | zero =>
        intro y h1 h2 h3
        exact h y ⟨h2, h3, fun z hz _ _ => by omega⟩
      | succ n ih =>
        intro y h1 h2 h3
        exact h y ⟨h2, h3, fun z hz e hd => (ih z (by omega) (same_th h2 hz e) hd).elim⟩
    obtain ⟨y, h1, h2⟩ := wN_ex 12 (show 0 < wN (fun y => gU P y && !S.1 y) 12 by rw [hB.2.2.2]; omega)
    rw [Bool.and_eq_true, Bool.not_eq_true'] at h2
    exact key y y (Nat.le_refl _) h2.1 h2.2
theorem gEf_t0 (hw : P.2.1 y = 0) : (gEf P S y).2.2 = S.2.2 := by
  show S.2.2 + gWt P y * _ = _
  have : gWt P y = 0 := by
    unfold gWt gR
    rw [hw, decide_eq_false (by decide), decide_eq_false (by decide), Bool.or_false, Bool.and_false]
    rfl
  rw [this, Nat.zero_mul, Nat.add_zero]
def oIx (t : Nat) : Option Nat → Int32
  | none => -1
  | some k => Int32.ofNat (t * 4 + k)
/-- the second half of a thread's turn -/
theorem ex_half (hK : KH Q = (5, 0)) (hQ : ∀ r, 58 ≤ r → r < 64 → ¬ r = A ∧ ¬ r = Q) (hm : m < 2) (hrec : ExS P m Q A J rec K) (R : RlB P m x S) (hn : nmB P m x) (hB : gBd P S r) (hd : depth + r + zN P x ≤ 12) (hKK : r + zN P x ≤ K)
    (hout : ∀ k, gOut P m r S k → gFi P m k) (ht : t < 3) (o : Option Nat) (ho : o = if m = 1 then oB P x t else none) (b : Int32) (hP : PgC I P) (hL : Lst I A Q 1 l) (hs : gSo l) (hF : ∀ y, y ∈ l → gFi P m y) :
    ∃ N' I' l' b', N ≤ N' ∧ f_X9_explore_L71 rec (N + 3) (.inr (.inr (.inl (58, Q, Int32.ofNat m, x, Int32.ofNat S.2.2, Int32.ofNat depth, b, Int32.ofNat t, oIx t o)))) (I, J) =
      f_X9_explore_L71 rec N' (.inl (58, Q, Int32.ofNat m, x, Int32.ofNat S.2.2, Int32.ofNat depth, b', Int32.ofNat (t + 1))) (I', J) ∧
      PgC I' P ∧ Lst I' A Q 1 l' ∧ gSo l' ∧ (∀ y, y ∈ l' → gFi P m y) ∧ (∀ i, ¬ i = 1 → I' Q i = I Q i) ∧ (∀ r, ¬ r = A → ¬ r = Q → I' r = I r) ∧
      ((∀ y, y ∈ l' ↔ y ∈ l) ∧ b' = b ∧ ¬ (pF x t < P.1 t ∧ (o = none ∨ P.2.1 (t * 4 + pF x t) = 1)) ∨
       b' = 0 ∧ (pF x t < P.1 t ∧ (o = none ∨ P.2.1 (t * 4 + pF x t) = 1)) ∧ ∀ y, y ∈ l' ↔ y ∈ l ∨ ∃ s, r = s + 1 ∧ gOut P m s (gEf P S (t * 4 + pF x t)) y) := by
  have h4 := hP.1.1 t ht
  have e1 : Int32.ofNat t + 1 = Int32.ofNat (t + 1) := i_ad (m := 1)
  have hko : ∀ k, o = some k → k < 4 := by
    intro k hk
    rw [ho] at hk
    by_cases q : m = 1
    · rw [if_pos q] at hk
      have := (fO_some _ _ hk).2.1
      have := (fO_some _ _ hk).1
      have := R.1 t ht
      omega
    · rw [if_neg q] at hk
      cases hk
  -- when nothing is done
  have skip : ¬ (pF x t < P.1 t ∧ (o = none ∨ P.2.1 (t * 4 + pF x t) = 1)) → f_X9_explore_L71 rec (N + 3) (.inr (.inr (.inl (58, Q, Int32.ofNat m, x, Int32.ofNat S.2.2, Int32.ofNat depth, b, Int32.ofNat t, oIx t o)))) (I, J) =
      f_X9_explore_L71 rec (N + 1) (.inl (58, Q, Int32.ofNat m, x, Int32.ofNat S.2.2, Int32.ofNat depth, b, Int32.ofNat (t + 1))) (I, J) := by
    intro hc
    obtain ⟨B, hBB⟩ : ∃ B, B = N + 1 := ⟨_, rfl⟩
    rw [show N + 3 = N + 1 + 1 + 1 by omega, ← hBB, f_X9_explore_L71]
    simp only [cp_next ht hP, Option.bind_some]
    by_cases q : pF x t < P.1 t
    · have hz := used_at hP.1 ht q
      have hx := (gU_iff.1 hz.1).1
      obtain ⟨w1, w2, w3⟩ := hP.1.2.2 _ hz.1
      have e0 : (Int32.ofNat (P.2.1 (t * 4 + pF x t)) = 1) = (P.2.1 (t * 4 + pF x t) = 1) := i_eq (m := 1) (by omega) (by decide)
      cases o with
      | none => exact absurd ⟨q, Or.inl rfl⟩ hc
      | some k =>
        have hk := hko k rfl
        have q1 : ¬ P.2.1 (t * 4 + pF x t) = 1 := fun g => hc ⟨q, Or.inr g⟩
        simp only [q, oIx, eLt, Option.bind_some, ↓reduceIte, K_58, K_59, K_60, K_61, K_62, K_63, R_58_0, R_58_1, R_58_2, R_58_3, R_58_4, true_and, and_true, eB, decide_true, decide_false, Bool.or_true, Bool.true_or, not_true_eq_false, not_false_eq_true, i_ne1 (show t * 4 + pF x t < 2147483648 by omega), i_ne1 (show t * 4 + k < 2147483648 by omega), x_tn hx, x_ix hx, (hP.2.2 _ hz.1).1, e0, q1]
        rw [f_X9_explore_L71, e1]
    · simp only [q, ↓reduceIte]
      rw [f_X9_explore_L71, e1]
  by_cases hc : pF x t < P.1 t ∧ (o = none ∨ P.2.1 (t * 4 + pF x t) = 1)
  · have hz := used_at hP.1 ht hc.1
    have hx := (gU_iff.1 hz.1).1
    obtain ⟨w1, w2, w3⟩ := hP.1.2.2 _ hz.1
    have hok : gOk P m S.1 (t * 4 + pF x t) := okN hP.1 R ht hc.1 (fun c => by
      rw [if_pos c] at ho
      rw [← ho]
      exact hc.2)
    obtain ⟨s, es, hB'⟩ := gBd_s hP.1 hB hok
    subst es
    have hnw : m = 1 → ¬ P.2.1 (t * 4 + pF x t) = 0 := fun c => hn c t ht hc.1
    obtain ⟨x', a1, a2, a3⟩ := cp_after (J := J) hm R ht hc.1 hnw hB hP
    have hsee := gSee_le hP.1 hB hz.1
    have e2 : Int32.ofNat depth + 1 = Int32.ofNat (depth + 1) := i_ad (m := 1)
    obtain ⟨I1, l1, b1, b2, b3, b4, b5, b6⟩ := hrec (depth + 1) s x' (gEf P S (t * 4 + pF x t)) I l a2 hB' (by omega) (by omega) (fun k hk => hout k (gOut_s.2 ⟨_, hok, hk⟩)) hP hL hs hF
    refine ⟨N, I1, l1, 0, Nat.le_refl _, ?_, PgC_fr hP (fun r h1 h2 => b6 r (hQ r h1 h2).1 (hQ r h1 h2).2), b2, b3, fun y hy => ?_, b5, b6, Or.inr ⟨rfl, hc, fun y => ?_⟩⟩
    · have go : f_X9_explore_L71 rec (N + 1 + 1) (.inr (.inr (.inr (.inl (58, Q, Int32.ofNat m, x, Int32.ofNat S.2.2, Int32.ofNat depth, Int32.ofNat t, Int32.ofNat (t * 4 + pF x t)))))) (I, J) = f_X9_explore_L71 rec N (.inl (58, Q, Int32.ofNat m, x, Int32.ofNat S.2.2, Int32.ofNat depth, 0, Int32.ofNat (t + 1))) (I1, J) := by
        obtain ⟨B, hBB⟩ : ∃ B, B = N := ⟨_, rfl⟩
        rw [← hBB, f_X9_explore_L71]
        have dt : Int32.ofNat S.2.2 + Int32.ofNat (gWt P (t * 4 + pF x t) * min (gSee P S (t * 4 + pF x t)) 9) = Int32.ofNat (gEf P S (t * 4 + pF x t)).2.2 := i_ad
        simp only [eLt, Option.bind_some, ↓reduceIte, K_58, K_59, K_60, K_61, K_62, K_63, R_58_0, R_58_1, R_58_2, R_58_3, R_58_4, true_and, and_true, eB, decide_true, decide_false, Bool.or_true, Bool.true_or, not_true_eq_false, not_false_eq_true, cp_res hm R ht hc.1 hP, cp_told hz.1 hP (show gSee P S (t * 4 + pF x t) < 2147483648 by omega), a1, dt, e2, b1]
        rw [f_X9_explore_L71, e1]
      obtain ⟨B, hBB⟩ : ∃ B, B = N + 1 + 1 := ⟨_, rfl⟩
      rw [show N + 3 = N + 1 + 1 + 1 by omega, ← go, ← hBB, f_X9_explore_L71]
      simp only [cp_next ht hP, Option.bind_some, hc.1, ↓reduceIte, i_ne1 (show t * 4 + pF x t < 2147483648 by omega)]
      have e0 : (Int32.ofNat (P.2.1 (t * 4 + pF x t)) = 1) = (P.2.1 (t * 4 + pF x t) = 1) := i_eq (m := 1) (by omega) (by decide)
      cases o with
      | none => simp only [oIx, ↓reduceIte]
      | some k =>
        have hk := hko k rfl
        have q1 : P.2.1 (t * 4 + pF x t) = 1 := hc.2.elim (fun g => by cases g) id
        have e0' := e0.trans (eq_true q1)
        simp only [oIx, eLt, Option.bind_some, ↓reduceIte, K_58, K_59, K_60, K_61, K_62, K_63, R_58_0, R_58_1, R_58_2, R_58_3, R_58_4, true_and, and_true, eB, decide_true, decide_false, Bool.or_true, Bool.true_or, not_true_eq_false, not_false_eq_true, i_ne1 (show t * 4 + k < 2147483648 by omega), x_tn hx, x_ix hx, (hP.2.2 _ hz.1).1, e0']
    · rcases (b4 y).1 hy with g | g
      · exact hF y g
      · exact hout y (gOut_s.2 ⟨_, hok, g⟩)
    · rw [b4 y]
      constructor
      · rintro (g | g)
        · exact Or.inl g
        · exact Or.inr ⟨s, rfl, g⟩
      · rintro (g | ⟨s', g1, g2⟩)
        · exact Or.inl g
        · have : s' = s := by omega
          subst this
          exact Or.inr g2
  · exact ⟨N + 1, I, l, b, by omega, skip hc, hP, hL, hs, hF, fun _ _ => rfl, fun _ _ _ => rfl, Or.inl ⟨fun _ => Iff.rfl, rfl, hc⟩⟩
end EPS
