/-! the search, whole -/
section EPS
variable {P : aP} {I I' I0 : Nat → Nat → Int32} {J J0 : Nat → Nat → Int64} {m r y z k n p t s N v w i j A Q K depth : Nat} {S : aT} {l L M : List Nat} {st : Int32} {x x' : Int64} {σ : eMem} {rec : Nat → Nat → Int32 → Int64 → Int32 → Int32 → eMem → Option (Unit × eMem)}
theorem cp_old2 (ht : t < 3) (h : PgC I P) (hi : pF x t ≤ P.1 t) : f_X9_oldestBuffered 58 x (Int32.ofNat t) (I, J) = some (oIx t (oB P x t), (I, J)) := by
  rw [cp_old ht h hi]
  cases oB P x t <;> rfl
theorem thS_iff (hW : gWf P) (hm : m < 2) (R : RlB P m x S) (hn : nmB P m x) (ht : t < 3) (o : Option Nat) (ho : o = if m = 1 then oB P x t else none) :
    thS P m r S t y ↔ (∃ k, o = some k ∧ ∃ s, r = s + 1 ∧ gOut P m s (gEf P S (t * 4 + k)) y) ∨ ((pF x t < P.1 t ∧ (o = none ∨ P.2.1 (t * 4 + pF x t) = 1)) ∧ ∃ s, r = s + 1 ∧ gOut P m s (gEf P S (t * 4 + pF x t)) y) := by
  constructor
  · rintro ⟨z, h1, h2, h3⟩
    rcases okA hW hm R hn h2 with ⟨c1, k, c2, c3⟩ | ⟨c1, c2, c3⟩
    · rw [h1] at c2 c3
      left
      refine ⟨k, ?_, ?_⟩
      · rw [ho, if_pos c1, c2]
      · rw [← c3]
        exact h3
    · rw [h1] at c1 c2 c3
      right
      rw [← c1]
      refine ⟨⟨c2, ?_⟩, h3⟩
      by_cases c : m = 1
      · rw [ho, if_pos c]
        exact c3 c
      · rw [ho, if_neg c]
        exact Or.inl rfl
  · rintro (⟨k, h1, h2⟩ | ⟨h1, h2⟩)
    · by_cases c : m = 1
      · subst c
        rw [ho, if_pos rfl] at h1
        have hk := fO_some _ _ h1
        have hi := R.1 t ht
        exact ⟨t * 4 + k, (used_at hW ht (show k < P.1 t by omega)).2.1, okD hW R ht h1, h2⟩
      · rw [ho, if_neg c] at h1
        cases h1
    · refine ⟨t * 4 + pF x t, (used_at hW ht h1.1).2.1, okN hW R ht h1.1 (fun c => ?_), h2⟩
      have := h1.2
      rw [ho, if_pos c] at this
      exact this
theorem ok_iff (hW : gWf P) (hm : m < 2) (R : RlB P m x S) (hn : nmB P m x) (ht : t < 3) (o : Option Nat) (ho : o = if m = 1 then oB P x t else none) :
    (∃ z, z / 4 = t ∧ gOk P m S.1 z) ↔ (∃ k, o = some k) ∨ (pF x t < P.1 t ∧ (o = none ∨ P.2.1 (t * 4 + pF x t) = 1)) := by
  constructor
  · rintro ⟨z, h1, h2⟩
    rcases okA hW hm R hn h2 with ⟨c1, k, c2, c3⟩ | ⟨c1, c2, c3⟩
    · rw [h1] at c2 c3
      left
      refine ⟨k, ?_⟩
      rw [ho, if_pos c1, c2]
    · rw [h1] at c1 c2 c3
      right
      rw [← c1]
      refine ⟨c2, ?_⟩
      by_cases c : m = 1
      · rw [ho, if_pos c]
        exact c3 c
      · rw [ho, if_neg c]
        exact Or.inl rfl
  · rintro (⟨k, h1⟩ | h1)
    · by_cases c : m = 1
      · subst c
        rw [ho, if_pos rfl] at h1
        have hk := fO_some _ _ h1
        have hi := R.1 t ht
        exact ⟨t * 4 + k, (used_at hW ht (show k < P.1 t by omega)).2.1, okD hW R ht h1⟩
      · rw [ho, if_neg c] at h1
        cases h1
    · refine ⟨t * 4 + pF x t, (used_at hW ht h1.1).2.1, okN hW R ht h1.1 (fun c => ?_)⟩
      have := h1.2
      rw [ho, if_pos c] at this
      exact this
theorem ex_loop (hK : KH Q = (5, 0)) (hR : RH Q 0 = A) (hA : KH A = (11, 720)) (hne : ¬ A = Q) (hQ : ∀ r, 58 ≤ r → r < 64 → ¬ r = A ∧ ¬ r = Q) (hm : m < 2) (hrec : ExS P m Q A J rec K) (R : RlB P m x S) (hn : nmB P m x) (hB : gBd P S r) (hd : depth + r + zN P x ≤ 12) (hKK : r + zN P x ≤ K)
    (hout : ∀ k, gOut P m r S k → gFi P m k) : ∀ d t N (I : Nat → Nat → Int32) l (b : Int32), t + d = 3 → 5 * d + 1 ≤ N → PgC I P → Lst I A Q 1 l → gSo l → (∀ y, y ∈ l → gFi P m y) → (b = 0 ∨ b = 1) → (b = 1 ↔ ∀ z, z / 4 < t → ¬ gOk P m S.1 z) →
    ∃ I' l', f_X9_explore_L71 rec N (.inl (58, Q, Int32.ofNat m, x, Int32.ofNat S.2.2, Int32.ofNat depth, b, Int32.ofNat t)) (I, J) = some ((), (I', J)) ∧ Lst I' A Q 1 l' ∧ gSo l' ∧
      (∀ y, y ∈ l' ↔ y ∈ l ∨ (∃ u, t ≤ u ∧ u < 3 ∧ thS P m r S u y) ∨ ((∀ z, ¬ gOk P m S.1 z) ∧ y = S.2.2)) ∧ (∀ i, ¬ i = 1 → I' Q i = I Q i) ∧ ∀ r, ¬ r = A → ¬ r = Q → I' r = I r := by
  intro d
  induction d with
  | zero =>
    intro t N I l b ht hN hP hL hs hF hb hbz
    obtain ⟨N, rfl⟩ := Nat.exists_eq_add_of_le' hN
    have ht3 : t = 3 := ht
    have e : ((3 : Int32) ≤ Int32.ofNat t) = True := (i_le (n := 3) (by decide) (by omega)).trans (eq_true (by omega))
    rw [show N + (5 * 0 + 1) = N + 1 by omega, f_X9_explore_L71]
    simp only [e, ↓reduceIte]
    rcases hb with q | q
    · subst q
      refine ⟨I, l, ?_, hL, hs, fun y => ?_, fun _ _ => rfl, fun _ _ _ => rfl⟩
      · simp only [↓reduceIte]
        rfl
      · constructor
        · exact Or.inl
        · rintro (g | ⟨u, g1, g2, _⟩ | ⟨g, _⟩)
          · exact g
          · omega
          · exact absurd (hbz.2 (fun z _ => g z)) (by decide)
    · have hno : ∀ z, ¬ gOk P m S.1 z := fun z hz => (hbz.1 q) z (by have := (gU_iff.1 hz.1).1; omega) hz
      have hr0 := g_stuck hB hno
      subst hr0
      have hk : gFi P m S.2.2 := hout _ rfl
      have hk2 := gFi_le hP.1 hk
      obtain ⟨I2, l2, c1, c2, c3, c4, c5, c6⟩ := ci_incl (J := J) hK hR hA hne hL hs (show S.2.2 < 2147483648 by omega) (fun y hy => by have := gFi_le hP.1 (hF y hy); omega) (gLi_len hP.1 hs hF) (fun g => gLi_lt hP.1 hs hF hk g)
      have c1' : f_X6_include Q (Int32.ofNat S.2.2) (I, J) = some ((), (I2, J)) := by
        unfold f_X6_include
        exact c1
      refine ⟨I2, l2, ?_, c2, c3, fun y => ?_, c5, c6⟩
      · subst q
        simp only [show ¬ (1 : Int32) = 0 by decide, ↓reduceIte, hK, c1', Option.bind_some]
        rfl
      · rw [c4 y]
        constructor
        · rintro (g | g)
          · exact Or.inl g
          · exact Or.inr (Or.inr ⟨hno, g⟩)
        · rintro (g | ⟨u, g1, g2, _⟩ | ⟨_, g⟩)
          · exact Or.inl g
          · omega
          · exact Or.inr g
  | succ d ih =>
    intro t N I l b ht hN hP hL hs hF hb hbz
    obtain ⟨N, rfl⟩ := Nat.exists_eq_add_of_le' hN
    have ht3 : t < 3 := by omega
    have h4 := hP.1.1 t ht3
    have e : ((3 : Int32) ≤ Int32.ofNat t) = False := (i_le (n := 3) (by decide) (by omega)).trans (eq_false (by omega))
    have em : (Int32.ofNat m = 1) = (m = 1) := i_eq (m := 1) (by omega) (by decide)
    have e2 : Int32.ofNat depth + 1 = Int32.ofNat (depth + 1) := i_ad (m := 1)
    obtain ⟨o, ho⟩ : ∃ o, o = if m = 1 then oB P x t else none := ⟨_, rfl⟩
    -- what is still to do, once this half is done
    have rest : ∀ I1 l1 (b1 : Int32), PgC I1 P → Lst I1 A Q 1 l1 → gSo l1 → (∀ y, y ∈ l1 → gFi P m y) → (∀ i, ¬ i = 1 → I1 Q i = I Q i) → (∀ r, ¬ r = A → ¬ r = Q → I1 r = I r) →
        (∀ y, y ∈ l1 ↔ y ∈ l ∨ ∃ k, o = some k ∧ ∃ s, r = s + 1 ∧ gOut P m s (gEf P S (t * 4 + k)) y) → (b1 = if o = none then b else 0) →
        ∃ I' l', f_X9_explore_L71 rec (N + 5 * d + 1 + 3) (.inr (.inr (.inl (58, Q, Int32.ofNat m, x, Int32.ofNat S.2.2, Int32.ofNat depth, b1, Int32.ofNat t, oIx t o)))) (I1, J) = some ((), (I', J)) ∧ Lst I' A Q 1 l' ∧ gSo l' ∧
          (∀ y, y ∈ l' ↔ y ∈ l ∨ (∃ u, t ≤ u ∧ u < 3 ∧ thS P m r S u y) ∨ ((∀ z, ¬ gOk P m S.1 z) ∧ y = S.2.2)) ∧ (∀ i, ¬ i = 1 → I' Q i = I Q i) ∧ ∀ r, ¬ r = A → ¬ r = Q → I' r = I r := by
      intro I1 l1 b1 hP1 hL1 hs1 hF1 f1 f2 hm1 hb1
      obtain ⟨N', I2, l2, b2, d1, d2, d3, d4, d5, d6, d7, d8, d9⟩ := ex_half (N := N + 5 * d + 1) hK hQ hm hrec R hn hB hd hKK hout ht3 o ho b1 hP1 hL1 hs1 hF1
      have hok := ok_iff hP.1 hm R hn ht3 o ho
      have hbb : (b2 = 0 ∨ b2 = 1) ∧ (b2 = 1 ↔ ∀ z, z / 4 < t + 1 → ¬ gOk P m S.1 z) := by
        have hsp : (∀ z, z / 4 < t + 1 → ¬ gOk P m S.1 z) ↔ (∀ z, z / 4 < t → ¬ gOk P m S.1 z) ∧ ¬ ∃ z, z / 4 = t ∧ gOk P m S.1 z := by
          constructor
          · intro g
            exact ⟨fun z hz => g z (by omega), fun ⟨z, h1, h2⟩ => g z (by omega) h2⟩
          · rintro ⟨g1, g2⟩ z hz hz2
            by_cases c : z / 4 = t
            · exact g2 ⟨z, c, hz2⟩
            · exact g1 z (by omega) hz2
        rw [hsp, hok, ← hbz]
        rcases d9 with ⟨_, g2, g3⟩ | ⟨g1, g2, _⟩
        · rw [g2, hb1]
          cases o with
          | none =>
            rw [if_pos rfl]
            refine ⟨hb, fun g => ⟨g, ?_⟩, fun g => g.1⟩
            rintro (⟨k, h⟩ | h)
            · cases h
            · exact g3 h
          | some k =>
            rw [if_neg (fun h => by cases h)]
            exact ⟨Or.inl rfl, fun g => absurd g (by decide), fun g => absurd (Or.inl ⟨k, rfl⟩) g.2⟩
        · rw [g1]
          exact ⟨Or.inl rfl, fun g => absurd g (by decide), fun g => absurd (Or.inr g2) g.2⟩
      obtain ⟨I3, l3, c1, c2, c3, c4, c5, c6⟩ := ih (t + 1) N' I2 l2 b2 (by omega) (by omega) d3 d4 d5 d6 hbb.1 hbb.2
      refine ⟨I3, l3, d2.trans c1, c2, c3, fun y => ?_, fun i hi => by rw [c5 i hi, d7 i hi, f1 i hi], fun r h1 h2 => by rw [c6 r h1 h2, d8 r h1 h2, f2 r h1 h2]⟩
      have ht2 : y ∈ l2 ↔ y ∈ l ∨ thS P m r S t y := by
        rw [thS_iff hP.1 hm R hn ht3 o ho]
        rcases d9 with ⟨g1, _, g3⟩ | ⟨_, g2, g3⟩
        · rw [g1 y, hm1 y]
          constructor
          · rintro (g | g)
            · exact Or.inl g
            · exact Or.inr (Or.inl g)
          · rintro (g | g | g)
            · exact Or.inl g
            · exact Or.inr g
            · exact absurd g.1 g3
        · rw [g3 y, hm1 y]
          constructor
          · rintro ((g | g) | g)
            · exact Or.inl g
            · exact Or.inr (Or.inl g)
            · exact Or.inr (Or.inr ⟨g2, g⟩)
          · rintro (g | g | g)
            · exact Or.inl (Or.inl g)
            · exact Or.inl (Or.inr g)
            · exact Or.inr g.2
      rw [c4 y, ht2]
      constructor
      · rintro ((g | g) | ⟨u, g1, g2, g3⟩ | g)
        · exact Or.inl g
        · exact Or.inr (Or.inl ⟨t, Nat.le_refl _, ht3, g⟩)
        · exact Or.inr (Or.inl ⟨u, by omega, g2, g3⟩)
        · exact Or.inr (Or.inr g)
      · rintro (g | ⟨u, g1, g2, g3⟩ | g)
        · exact Or.inl (Or.inl g)
        · by_cases c : u = t
          · subst c
            exact Or.inl (Or.inr g3)
          · exact Or.inr (Or.inl ⟨u, by omega, g2, g3⟩)
        · exact Or.inr (Or.inr g)
    have first : f_X9_explore_L71 rec (N + 5 * d + 1 + 5) (.inl (58, Q, Int32.ofNat m, x, Int32.ofNat S.2.2, Int32.ofNat depth, b, Int32.ofNat t)) (I, J) = f_X9_explore_L71 rec (N + 5 * d + 1 + 4) (.inr (.inl (58, Q, Int32.ofNat m, x, Int32.ofNat S.2.2, Int32.ofNat depth, b, Int32.ofNat t, oIx t o))) (I, J) := by
      obtain ⟨B, hBB⟩ : ∃ B, B = N + 5 * d + 1 + 4 := ⟨_, rfl⟩
      rw [show N + 5 * d + 1 + 5 = N + 5 * d + 1 + 4 + 1 by omega, ← hBB, f_X9_explore_L71]
      by_cases c : m = 1
      · rw [if_pos c] at ho
        have em' := em.trans (eq_true c)
        simp only [e, em', ↓reduceIte, not_true_eq_false, cp_old2 ht3 hP (R.1 t ht3), Option.bind_some, ho]
      · rw [if_neg c] at ho
        simp only [e, em, c, ↓reduceIte, not_false_eq_true, ho]
        rfl
    rw [show N + (5 * (d + 1) + 1) = N + 5 * d + 1 + 5 by omega, first, show N + 5 * d + 1 + 4 = N + 5 * d + 1 + 3 + 1 by omega]
    obtain ⟨B, hBB⟩ : ∃ B, B = N + 5 * d + 1 + 3 := ⟨_, rfl⟩
    rw [← hBB] at rest ⊢
    rw [f_X9_explore_L71]
    cases o with
    | none =>
      simp only [oIx, ↓reduceIte]
      refine rest I l b hP hL hs hF (fun _ _ => rfl) (fun _ _ _ => rfl) (fun y => ⟨Or.inl, ?_⟩) (if_pos rfl).symm
      rintro (g | ⟨k, g, _⟩)
      · exact g
      · cases g
    | some k =>
      have c : m = 1 := by
        by_cases c : m = 1
        · exact c
        · rw [if_neg c] at ho
          cases ho
      subst c
      rw [if_pos rfl] at ho
      have hk := fO_some _ _ ho.symm
      have hi := R.1 t ht3
      have hz := used_at hP.1 ht3 (show k < P.1 t by omega)
      have hx := (gU_iff.1 hz.1).1
      have hok := okD hP.1 R ht3 ho.symm
      obtain ⟨s, es, hB'⟩ := gBd_s hP.1 hB hok
      subst es
      obtain ⟨x1, x2, a1, a2, a3, a4⟩ := cp_drain R ht3 ho.symm hP
      have et := gEf_t0 (S := S) hk.2.2.1
      obtain ⟨I1, l1, b1, b2, b3, b4, b5, b6⟩ := hrec (depth + 1) s x2 (gEf P S (t * 4 + k)) I l a3 hB' (by omega) (by omega) (fun k' hk' => hout k' (gOut_s.2 ⟨_, hok, hk'⟩)) hP hL hs hF
      rw [et] at b1
      have em4 : Int32.ofNat (t * 4 + k) - Int32.ofNat (t * 4 + k) / 4 * 4 = Int32.ofNat k := by
        rw [x_md hx, hz.2.2]
      have e5 : Int32.ofNat k + 1 = Int32.ofNat (k + 1) := i_ad (m := 1)
      have p := hP.2.2 _ hz.1
      simp only [oIx, eLt, Option.bind_some, ↓reduceIte, K_58, K_59, K_60, K_61, K_62, K_63, R_58_0, R_58_1, R_58_2, R_58_3, R_58_4, true_and, and_true, eB, decide_true, decide_false, Bool.or_true, Bool.true_or, not_true_eq_false, not_false_eq_true, i_ne1 (show t * 4 + k < 2147483648 by omega), x_tn hx, x_ix hx, p.2.1, p.2.2.1 hk.2.2.1, a1, four0, em4, e5, a2, e2, b1]
      refine rest I1 l1 0 (PgC_fr hP (fun r h1 h2 => b6 r (hQ r h1 h2).1 (hQ r h1 h2).2)) b2 b3 (fun y hy => ?_) b5 b6 (fun y => ?_) (if_neg (fun h => by cases h)).symm
      · rcases (b4 y).1 hy with g | g
        · exact hF y g
        · exact hout y (gOut_s.2 ⟨_, hok, g⟩)
      · rw [b4 y]
        constructor
        · rintro (g | g)
          · exact Or.inl g
          · exact Or.inr ⟨k, rfl, s, rfl, g⟩
        · rintro (g | ⟨k', g1, s', g2, g3⟩)
          · exact Or.inl g
          · cases g1
            have : s' = s := by omega
            subst this
            exact Or.inr g3
end EPS
