/-! the class's calls about programs -/
def cP (e : Int32 → Nat) (z : Option ((Nat ⊕ Int32) × eMem)) (I : Nat → Nat → Int32) (J : Nat → Nat → Int64) (o : Int32 × Int32 × aP) : Prop :=
  ∃ I', z = some ((if o.1 = 0 then .inr o.2.1 else .inl (e o.1)), (I', J)) ∧ RPC I' o.2.2 ∧ ∀ r, ¬ (58 ≤ r ∧ r < 74) → I' r = I r
section EPS
variable {P : aP} {I I' I0 : Nat → Nat → Int32} {J J0 : Nat → Nat → Int64} {m r y z k n p t s N v w i j A Q K depth : Nat} {S : aT} {l L M : List Nat} {st X Y Z W : Int32} {x x' : Int64} {σ : eMem} {e : Int32 → Nat}
theorem ex_all (hK : KH Q = (5, 0)) (hR : RH Q 0 = A) (hA : KH A = (11, 720)) (hne : ¬ A = Q) (hQ : ∀ r, 58 ≤ r → r < 64 → ¬ r = A ∧ ¬ r = Q) (hm : m < 2) : ∀ K, ExS P m Q A J (f_X9_explore_M K) K := by
  intro K
  induction K with
  | zero =>
    intro depth r x S I l R hB hd hKK
    omega
  | succ K ih =>
    intro depth r x S I l R hB hd hKK hout hP hL hs hF
    have em : (Int32.ofNat m = 1) = (m = 1) := i_eq (m := 1) (by omega) (by decide)
    have ed : (Int32.ofNat depth ≤ 12) = True := (i_le (m := 12) (by omega) (by decide)).trans (eq_true (by omega))
    show ∃ I' l', f_X9_explore_N (f_X9_explore_M K) 58 Q (Int32.ofNat m) x (Int32.ofNat S.2.2) (Int32.ofNat depth) (I, J) = _ ∧ _
    have hloop : nmB P m x → ∃ I' l', f_X9_explore_22 (f_X9_explore_M K) 58 Q (Int32.ofNat m) x (Int32.ofNat S.2.2) (Int32.ofNat depth) (-1) (I, J) = some ((), (I', J)) ∧ Lst I' A Q 1 l' ∧ gSo l' ∧ (∀ y, y ∈ l' ↔ y ∈ l ∨ gOut P m r S y) ∧
        (∀ i, ¬ i = 1 → I' Q i = I Q i) ∧ ∀ r, ¬ r = A → ¬ r = Q → I' r = I r := by
      intro hn
      obtain ⟨I', l', c1, c2, c3, c4, c5, c6⟩ := ex_loop (J := J) hK hR hA hne hQ hm ih R hn hB hd (by omega) hout 3 0 1000000 I l 1 (by omega) (by omega) hP hL hs hF (Or.inr rfl) ⟨fun _ z hz => absurd hz (Nat.not_lt_zero _), fun _ => rfl⟩
      refine ⟨I', l', ?_, c2, c3, fun y => ?_, c5, c6⟩
      · unfold f_X9_explore_22
        rw [if_pos rfl]
        exact c1
      · rw [c4 y]
        constructor
        · rintro (g | ⟨u, g1, g2, z, g3, g4, s, g5, g6⟩ | ⟨g1, g2⟩)
          · exact Or.inl g
          · subst g5
            exact Or.inr (gOut_s.2 ⟨z, g4, g6⟩)
          · have := g_stuck hB g1
            subst this
            exact Or.inr g2
        · rintro (g | g)
          · exact Or.inl g
          · cases r with
            | zero =>
              refine Or.inr (Or.inr ⟨fun z hz => ?_, g⟩)
              have := g_over hB z hz.1
              rw [hz.2.1] at this
              cases this
            | succ r =>
              obtain ⟨z, g1, g2⟩ := gOut_s.1 g
              exact Or.inr (Or.inl ⟨z / 4, Nat.zero_le _, by have := (gU_iff.1 g1.1).1; omega, z, rfl, g1, r, rfl, g2⟩)
    unfold f_X9_explore_N
    by_cases c : m = 1
    · have em' := em.trans (eq_true c)
      rcases cp_at1 (J := J) (x := x) hP 3 0 1000000 (by decide) (by decide) with ⟨u, g1, g2, g3, g4, g5⟩ | ⟨g1, g2⟩
      · have g5' : f_X9_threadAtStore 58 x (I, J) = some (Int32.ofNat u, (I, J)) := by
          unfold f_X9_threadAtStore
          exact g5
        have R1 : RlB P 1 x S := c ▸ R
        obtain ⟨x', a1, a2, a3⟩ := cp_fill R1 g2 g3 g4 hP.1
        have e2 : Int32.ofNat depth + 1 = Int32.ofNat (depth + 1) := i_ad (m := 1)
        obtain ⟨I1, l1, b1, b2⟩ := ih (depth + 1) r x' S I l (c.symm ▸ a2) hB (by omega) (by omega) hout hP hL hs hF
        refine ⟨I1, l1, ?_, b2⟩
        simp only [ed, em', ↓reduceIte, not_true_eq_false, g5', Option.bind_some]
        unfold f_X9_explore_22
        rw [if_neg (by rw [i_ne1 (by omega)]; exact not_false)]
        have ep : f_X9_part x (0 + Int32.ofNat u) (I, J) = some (Int32.ofNat (pF x u), (I, J)) := by
          rw [ad0, cp_part (by omega)]
        simp only [ep, a1, Option.bind_some, e2, b1]
      · have g2' : f_X9_threadAtStore 58 x (I, J) = some (-1, (I, J)) := by
          unfold f_X9_threadAtStore
          exact g2
        have hl := hloop (fun _ u hu => g1 u (Nat.zero_le _) hu)
        simp only [ed, em', ↓reduceIte, not_true_eq_false, g2', Option.bind_some]
        exact hl
    · have em' := em.trans (eq_false c)
      have hl := hloop (fun f => absurd f c)
      simp only [ed, em', ↓reduceIte, not_false_eq_true]
      exact hl
theorem pF_0 : ∀ k, k < 9 → pF 0 k = 0 := by decide +kernel
theorem zN_all (hW : gWf P) : zN P x ≤ 6 := by
  have h1 : zN P x ≤ wN (gU P) 12 := wN_le (fun y hy => by
    rw [Bool.and_eq_true] at hy
    exact hy.1) 12
  rw [wN_U hW] at h1
  have := hW.2.1
  omega
theorem RlB_0 : RlB P m 0 gS0 := by
  refine ⟨fun t ht => by rw [pF_0 t (by omega)]; exact Nat.zero_le _, fun _ t ht => by rw [pF_0 t (by omega), pF_0 (3 + t) (by omega)]; exact Nat.le_refl _, fun y hy => ?_, fun q hq => pF_0 _ (by omega)⟩
  have := (gU_iff.1 hy).1
  rw [pF_0 (y / 4) (by omega)]
  exact ⟨fun g => (by cases g), fun g => absurd g.1 (Nat.not_lt_zero _)⟩
theorem ob_one (hK : KH Q = (5, 0)) (hR : RH Q 0 = A) (hA : KH A = (11, 720)) (hne : ¬ A = Q) (hQ : ∀ r, 58 ≤ r → r < 64 → ¬ r = A ∧ ¬ r = Q) (hm : m < 2) (hP : PgC I P) (hC : ChC I P m Q A) :
    ∃ I' l, f_X11_outcomesBy_15 2 (Int32.ofNat m) Q (I, J) = some (Q, (I', J)) ∧ PgC I' P ∧ ChC I' P m Q A ∧ Lst I' A Q 1 l ∧ gLi P m l ∧ ∀ r, ¬ r = A → ¬ r = Q → I' r = I r := by
  unfold f_X11_outcomesBy_15 f_X11_outcomesBy_44
  rcases hC with h0 | ⟨h1, l, h2, h3⟩
  · have hl0 : Lst (eup (eup I Q 1 0) Q 2 0) A Q 1 [] := ⟨by rw [up_k (by decide), up_eq]; rfl, fun i hi => absurd hi (Nat.not_lt_zero i)⟩
    have hP0 : PgC (eup (eup I Q 1 0) Q 2 0) P := PgC_fr hP (fun r h1 h2 => by rw [up_fr (hQ r h1 h2).2, up_fr (hQ r h1 h2).2])
    obtain ⟨I1, l1, b1, b2, b3, b4, b5, b6⟩ := ex_all (P := P) (J := J) hK hR hA hne hQ hm 16 0 (gTo P) 0 gS0 (eup (eup I Q 1 0) Q 2 0) [] RlB_0 (gBd_0 hP.1) (by have := zN_all (x := 0) hP.1; have := hP.1.2.1; omega) (by have := zN_all (x := 0) hP.1; have := hP.1.2.1; omega) (fun k hk => hk) hP0 hl0 (fun i j _ hj => absurd hj (Nat.not_lt_zero j)) (fun y hy => by cases hy)
    have hf : ∀ r, ¬ r = A → ¬ r = Q → eup I1 Q 2 1 r = I r := fun r h1 h2 => by rw [up_fr h2, b6 r h1 h2, up_fr h2, up_fr h2]
    have hl2 : Lst (eup I1 Q 2 1) A Q 1 l1 := ⟨by rw [up_k (by decide)]; exact b2.1, fun i hi => by rw [up_r hne]; exact b2.2 i hi⟩
    have hg : gLi P m l1 := ⟨b3, fun k => by
      rw [b4 k]
      exact ⟨fun g => g.elim (fun g => by cases g) id, Or.inr⟩⟩
    refine ⟨eup I1 Q 2 1, l1, ?_, PgC_fr hP (fun r h1 h2 => hf r (hQ r h1 h2).1 (hQ r h1 h2).2), Or.inr ⟨up_eq, l1, hl2, hg⟩, hl2, hg, hf⟩
    have b1' : f_X9_explore 58 Q (Int32.ofNat m) 0 0 0 (eup (eup I Q 1 0) Q 2 0, J) = some ((), (I1, J)) := by
      unfold f_X9_explore
      exact b1
    have f1 : f_X6_forget Q (I, J) = some ((), (eup (eup I Q 1 0) Q 2 0, J)) := by
      unfold f_X6_forget
      simp only [hK, eLt, Option.bind_some, ↓reduceIte, K_2, R_2_4, R_2_5, R_2_6, R_2_7, K_58, K_64, K_66, K_68, R_64_0, R_66_0, K_65, K_67, true_and, and_true, eB, decide_true, decide_false, Bool.or_true, Bool.true_or, not_true_eq_false, not_false_eq_true]
    simp only [hK, h0, eLt, Option.bind_some, ↓reduceIte, K_2, R_2_4, R_2_5, R_2_6, R_2_7, K_58, K_64, K_66, K_68, R_64_0, R_66_0, K_65, K_67, true_and, and_true, eB, decide_true, decide_false, Bool.or_true, Bool.true_or, not_true_eq_false, not_false_eq_true, f1, b1']
  · refine ⟨I, l, ?_, hP, Or.inr ⟨h1, l, h2, h3⟩, h2, h3, fun _ _ _ => rfl⟩
    simp only [hK, h1, ↓reduceIte, show ¬ (1 : Int32) = 0 by decide, not_false_eq_true]
theorem ChC_fr (h : ChC I P m Q A) (e1 : I' A = I A) (e2 : I' Q = I Q) : ChC I' P m Q A := by
  unfold ChC Lst at h ⊢
  rw [e1, e2]
  exact h
/-- the outcomes under a model, known by now -/
theorem ob_all (hm : m < 2) (h : RPC I P) : ∃ I' l Q A, f_X11_outcomesBy 2 (Int32.ofNat m) (I, J) = some (Q, (I', J)) ∧ RPC I' P ∧ Lst I' A Q 1 l ∧ gLi P m l ∧ KH Q = (5, 0) ∧ RH Q 0 = A ∧ KH A = (11, 720) ∧
    (Q = if m = 0 then 64 else 66) ∧ (A = if m = 0 then 65 else 67) ∧ ∀ r, ¬ r = A → ¬ r = Q → I' r = I r := by
  have em : (Int32.ofNat m = 0) = (m = 0) := i_eq (m := 0) (by omega) (by decide)
  unfold f_X11_outcomesBy
  by_cases c : m = 0
  · have em' := em.trans (eq_true c)
    obtain ⟨I', l, a1, a2, a3, a4, a5, a6⟩ := ob_one (J := J) K_64 R_64_0 K_65 (by decide) (fun r h1 h2 => ⟨by omega, by omega⟩) hm h.1 (c.symm ▸ h.2.1)
    refine ⟨I', l, 64, 65, ?_, ⟨a2, c ▸ a3, ChC_fr h.2.2 (a6 67 (by decide) (by decide)) (a6 66 (by decide) (by decide))⟩, a4, a5, K_64, R_64_0, K_65, (if_pos c).symm, (if_pos c).symm, a6⟩
    simp only [em', eLt, Option.bind_some, ↓reduceIte, K_2, R_2_4, R_2_5, R_2_6, R_2_7, K_58, K_64, K_66, K_68, R_64_0, R_66_0, K_65, K_67, true_and, and_true, eB, decide_true, decide_false, Bool.or_true, Bool.true_or, not_true_eq_false, not_false_eq_true]
    exact a1
  · have em' := em.trans (eq_false c)
    have c1 : m = 1 := by omega
    obtain ⟨I', l, a1, a2, a3, a4, a5, a6⟩ := ob_one (J := J) K_66 R_66_0 K_67 (by decide) (fun r h1 h2 => ⟨by omega, by omega⟩) hm h.1 (c1.symm ▸ h.2.2)
    refine ⟨I', l, 66, 67, ?_, ⟨a2, ChC_fr h.2.1 (a6 65 (by decide) (by decide)) (a6 64 (by decide) (by decide)), c1 ▸ a3⟩, a4, a5, K_66, R_66_0, K_67, (if_neg c).symm, (if_neg c).symm, a6⟩
    simp only [em', eLt, Option.bind_some, ↓reduceIte, K_2, R_2_4, R_2_5, R_2_6, R_2_7, K_58, K_64, K_66, K_68, R_64_0, R_66_0, K_65, K_67, true_and, and_true, eB, decide_true, decide_false, Bool.or_true, Bool.true_or, not_true_eq_false, not_false_eq_true]
    exact a1
end EPS
