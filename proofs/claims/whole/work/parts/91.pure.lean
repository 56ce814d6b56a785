/-! the invariant: to ask for a line -/
section EPV
variable {a a' b X : aS} {r i l l' q q' c c' k n p p' w z N o D : Nat} {v t x y s : Int32} {m : aM} {L ms : List aM}
/-- a place begins to wait -/
theorem V_beg {w : Bool} (hc : c < 4) (hl : l < 16) (hp : p < 4) (hno : ∀ p', p' < 4 → ¬ p' = p → aAt X c l p' = false) (hst : X.1 136 (4 * c + p) = 0 ∨ (X.1 136 (4 * c + p) = 1 ∧ X.1 135 (4 * c + p) = Int32.ofNat l))
    (h41 : X.1 141 (16 * c + l) = -1) (hA : FI X) (hC : CI X z2 z2 z1) : FI (aBeg X c (4 * c + p) l w) ∧ CI (aBeg X c (4 * c + p) l w) z2 z2 z1 := by
  have hFb := cF_beg (w := w) hp hl hno (hA.1 c hc).1
  have e135 : (aBeg X c (4 * c + p) l w).1 135 = eup X.1 135 (4 * c + p) (Int32.ofNat l) 135 := aBeg_135
  have e136 : (aBeg X c (4 * c + p) l w).1 136 = eup X.1 136 (4 * c + p) (if w = true then 5 else 4) 136 := aBeg_136
  have hsw : ∀ w : Bool, aWt (if w = true then (5 : Int32) else 4) = true ∧ ¬ (if w = true then (5 : Int32) else 4) = 0 := by decide
  unfold aBeg at hFb e135 e136 ⊢
  have y : ∀ r, (aW (aW (aW (aW X 135 (4 * c + p) (Int32.ofNat l)) 136 (4 * c + p) (if w = true then 5 else 4)) 139 (4 * c + p) 0) 140 (4 * c + p) (-1)).1 r (4 * c + p) = if r = 140 then -1 else if r = 139 then 0 else if r = 136 then (if w = true then 5 else 4) else if r = 135 then Int32.ofNat l else X.1 r (4 * c + p) := aW_4
  have yo : ∀ r i, ¬ ((r = 135 ∨ r = 136 ∨ r = 139 ∨ r = 140) ∧ i = 4 * c + p) → (aW (aW (aW (aW X 135 (4 * c + p) (Int32.ofNat l)) 136 (4 * c + p) (if w = true then 5 else 4)) 139 (4 * c + p) 0) 140 (4 * c + p) (-1)).1 r i = X.1 r i := fun r i g => by
    rw [aW_o (by omega), aW_o (by omega), aW_o (by omega), aW_o (by omega)]
  have y2 : (aW (aW (aW (aW X 135 (4 * c + p) (Int32.ofNat l)) 136 (4 * c + p) (if w = true then 5 else 4)) 139 (4 * c + p) 0) 140 (4 * c + p) (-1)).2 = X.2 := rfl
  generalize aW (aW (aW (aW X 135 (4 * c + p) (Int32.ofNat l)) 136 (4 * c + p) (if w = true then 5 else 4)) 139 (4 * c + p) 0) 140 (4 * c + p) (-1) = Y at *
  have hFY : cF Y c := cF_eq (aSend_1 (by decide)).symm (aSend_1 (by decide)).symm (aSend_1 (by decide)).symm hFb
  have er : ∀ r, ¬ (r = 135 ∨ r = 136 ∨ r = 139 ∨ r = 140) → Y.1 r = X.1 r := fun r g => funext fun i => yo r i (by omega)
  have y36 : Y.1 136 (4 * c + p) = (if w = true then 5 else 4) := by
    rw [y]
    rfl
  have y35 : Y.1 135 (4 * c + p) = Int32.ofNat l := by
    rw [y]
    rfl
  have y40 : Y.1 140 (4 * c + p) = -1 := by
    rw [y]
    rfl
  have y39 : Y.1 139 (4 * c + p) = 0 := by
    rw [y]
    rfl
  have hAY : FI Y := by
    refine FI_core (a := X) (fun c' hc' => ?_) (fun r g1 g2 => er r (by omega)) y2 hA
    obtain ⟨h1, h2, h3, h4, h5, h6, h7, h8⟩ := hA.1 c' hc'
    refine ⟨?_, ?_, ?_, lF_eq (er _ (by omega)) h4, sF_eq (er _ (by omega)) (er _ (by omega)) h5, tF_eq (er _ (by omega)) (er _ (by omega)) (er _ (by omega)) (er _ (by omega)) (er _ (by omega)) h6,
      bF_eq (er _ (by omega)) (er _ (by omega)) (er _ (by omega)) h7, gF2_eq (er _ (by omega)) (er _ (by omega)) h8⟩
    · by_cases g : c' = c
      · rw [g]
        exact hFY
      · exact cF_cc (fun p' hp' => ⟨yo _ _ (by omega), yo _ _ (by omega), yo _ _ (by omega)⟩) h1
    · intro p' hp'
      by_cases g : c' = c ∧ p' = p
      · obtain ⟨g1, g2⟩ := g
        subst g1 g2
        rw [y39, y40]
        exact ⟨Or.inl rfl, fun _ => rfl⟩
      · rw [yo 136 _ (by omega), yo 139 _ (by omega), yo 140 _ (by omega)]
        exact h2 p' hp'
    · intro p' hp'
      by_cases g : c' = c ∧ p' = p
      · obtain ⟨g1, g2⟩ := g
        subst g1 g2
        exact Or.inl y40
      · rw [yo 140 _ (by omega)]
        exact h3 p' hp'
  have set := fun l' => aPl_set (l := l') (hA.1 c hc).1 hFY hp (fun p' hp' g => ⟨yo 135 _ (by omega), yo 136 _ (by omega)⟩)
  have at_l : aAt Y c l p = true := aAt_iff.2 ⟨by rw [y36]; exact (hsw w).2, y35⟩
  have plY : aPl Y c l = some p := by
    rw [set l, if_pos at_l]
  have plX : ∀ p', aPl X c l = some p' → p' = p := by
    intro p' e
    obtain ⟨h1, h2⟩ := aPl_lt e
    by_cases g : p' = p
    · exact g
    · rw [hno p' h1 g] at h2
      cases h2
  have wX : aWs X c l = 0 := by
    unfold aWs
    cases e : aPl X c l with
    | none => rfl
    | some p' =>
      dsimp only
      rw [plX p' e]
      rcases hst with g | ⟨g, -⟩ <;> rw [g] <;> rfl
  have oth : ∀ l', l' < 16 → ¬ l' = l → aPl Y c l' = aPl X c l' := by
    intro l' hl' g
    have n1 : ¬ aAt Y c l' p = true := by
      intro q
      have := (aAt_iff.1 q).2
      rw [y35, i_eq (by omega) (by omega)] at this
      exact g this.symm
    have n2 : ¬ aPl X c l' = some p := by
      intro q
      have q2 := aAt_iff.1 (aPl_lt q).2
      rcases hst with e | ⟨-, e⟩
      · exact q2.1 e
      · rw [e, i_eq (by omega) (by omega)] at q2
        exact g q2.2.symm
    rw [set l', if_neg n1, if_neg n2]
  have pe : ∀ c' l', l' < 16 → ¬ (c' = c ∧ l' = l) → aPl Y c' l' = aPl X c' l' := by
    intro c' l' hl' g
    by_cases e : c' = c
    · rw [e]
      exact oth l' hl' (fun q => g ⟨e, q⟩)
    · exact aPl_cc (fun p' hp' => ⟨yo _ _ (by omega), yo _ _ (by omega)⟩)
  have pne : ∀ c' l' p', aPl X c' l' = some p' → ¬ (c' = c ∧ l' = l) → l' < 16 → ¬ 4 * c' + p' = 4 * c + p := by
    intro c' l' p' e g hl' q
    have h1 := (aPl_lt e).1
    have e1 : c' = c := by omega
    have e2 : p' = p := by omega
    subst e1 e2
    have q2 := aAt_iff.1 (aPl_lt e).2
    rcases hst with e3 | ⟨-, e3⟩
    · exact q2.1 e3
    · rw [e3, i_eq (by omega) (by omega)] at q2
      exact g ⟨rfl, q2.2.symm⟩
  have ws : ∀ c' l', l' < 16 → ¬ (c' = c ∧ l' = l) → aWs Y c' l' = aWs X c' l' := by
    intro c' l' hl' g
    unfold aWs
    rw [pe c' l' hl' g]
    cases e : aPl X c' l' with
    | none => rfl
    | some p' =>
      dsimp only
      rw [yo 136 _ (fun q => pne c' l' p' e g hl' q.2)]
  have lt : ∀ c' l', l' < 16 → aLt Y c' l' ≤ aLt X c' l' := by
    intro c' l' hl'
    by_cases g : c' = c ∧ l' = l
    · obtain ⟨e1, e2⟩ := g
      subst e1 e2
      unfold aLt
      rw [plY]
      dsimp only
      rw [y40, if_pos rfl]
      exact Nat.zero_le _
    · unfold aLt
      rw [pe c' l' hl' g]
      cases e : aPl X c' l' with
      | none => exact Nat.le_refl _
      | some p' =>
        dsimp only
        rw [yo 140 _ (fun q => pne c' l' p' e g hl' q.2)]
        exact Nat.le_refl _
  have hCY : CI Y (d2 c l) z2 z1 := by
    refine ⟨fun c' hc' l' hl' => ?_, fun l' hl' => ?_⟩
    · obtain ⟨g1, g2, g3⟩ := hC.1 c' hc' l' hl'
      refine ⟨?_, ?_, ?_⟩
      · have en : nR Y c' l' = nR X c' l' := by
          unfold nR cBz
          rw [y2, er 127 (by omega), er 128 (by omega)]
        rw [en]
        unfold z2 at g1
        unfold d2
        by_cases g : c' = c ∧ l' = l
        · obtain ⟨e1, e2⟩ := g
          subst e1 e2
          rw [wX] at g1
          have : aWs Y c' l' = 1 := by
            unfold aWs
            rw [plY]
            dsimp only
            rw [y36, if_pos (hsw w).1]
          rw [this, if_pos ⟨rfl, rfl⟩]
          omega
        · rw [ws c' l' hl' g, if_neg g]
          exact g1
      · unfold nP aLs at g2 ⊢
        rw [y2, er 141 (by omega)]
        exact g2
      · rw [er 141 (by omega)]
        by_cases g : c' = c ∧ l' = l
        · obtain ⟨e1, e2⟩ := g
          subst e1 e2
          exact fun _ => h41
        · rw [pe c' l' hl' g]
          exact g3
    · have g := hC.2 l' hl'
      have t0 := lt 0 l' hl'
      have t1 := lt 1 l' hl'
      have t2 := lt 2 l' hl'
      have t3 := lt 3 l' hl'
      unfold nFw nFc due at *
      rw [y2, er 127 (by omega), er 129 (by omega)]
      omega
  refine ⟨FI_send ⟨hl, hc, show 0 < 1000 by decide, Or.inl ⟨rfl, ?_⟩⟩ hAY, CI_send (by decide) hCY (fun c' l' hc' hl' => ?_) (fun c' l' hc' hl' => ?_) (fun l' hl' => ?_)⟩
  · show (if w = true then 1 else 0) < 3
    split <;> decide
  · unfold d2 z2
    have le1 : ∀ (P : Prop) {_ : Decidable P}, (if P then 1 else 0) + 0 ≤ 1 := by
      intro P _
      split <;> omega
    by_cases g : c' = c ∧ l' = l
    · rw [if_pos g]
      exact le1 _
    · rw [if_neg g, if_neg]
      · exact Nat.le_refl _
      · rintro (⟨-, q2⟩ | ⟨q, -⟩)
        · unfold pR at q2
          simp only [Bool.and_eq_true, decide_eq_true_eq] at q2
          exact g ⟨q2.2.2.symm, q2.2.1.symm⟩
        · omega
  · unfold z2
    rw [if_neg]
    · exact Nat.le_refl _
    · rintro (⟨-, q2⟩ | ⟨q, -⟩)
      · unfold pP at q2
        simp only [Bool.and_eq_true, decide_eq_true_eq] at q2
        have := q2.1
        split at this <;> omega
      · omega
  · unfold z1
    rw [if_neg (by omega)]
    exact Nat.le_refl _
/-- a line is left -/
theorem V_vac (hc : c < 4) (hp : p < 4) (hv : aVal (a.1 136 (4 * c + p)) = true) (hA : FI a) (hC : CI a z2 z2 z1) : FI (aVac a c (4 * c + p)) ∧ CI (aVac a c (4 * c + p)) z2 z2 z1 ∧ (aVac a c (4 * c + p)).1 136 (4 * c + p) = 0 := by
  obtain ⟨f1, f2, f3, f4, f5, f6, f7, f8⟩ := hA.1 c hc
  have hn := val_ne hv
  obtain ⟨l, hl, el⟩ := (f1.1 p hp).2.1 hn.1
  obtain ⟨n, hn1, en⟩ := (f1.1 p hp).2.2 hv
  have hpl : aPl a c l = some p := (pl_iff f1).2 ⟨hp, aAt_iff.2 ⟨hn.1, el⟩⟩
  have hN0 := nF_0 f2 hp hn.2
  have h41 : a.1 141 (16 * c + l) = -1 := (hC.1 c hc l hl).2.2 (by rw [hpl]; exact fun q => nomatch q)
  have hAB : FI (aW a 136 (4 * c + p) 0) := by
    refine FI_place hc hp (fun r i g1 g2 => aW_o (by omega)) rfl ?_ ?_ ?_ hA
    · rw [aW_e]
      exact ⟨Or.inl rfl, fun g => absurd rfl g, fun g => absurd g (by decide)⟩
    · rw [aW_e, aW_1 (by decide), aW_1 (by decide)]
      exact ⟨Or.inl hN0.1, fun _ => hN0.2⟩
    · rw [aW_1 (by decide)]
      exact Or.inl hN0.2
  have plB : aPl (aW a 136 (4 * c + p) 0) c l = none := by
    rw [aPl_set f1 (hAB.1 c hc).1 hp (fun p' hp' g => ⟨by rw [aW_1 (by decide)], aW_k (by omega)⟩), if_neg (fun g => (aAt_iff.1 g).1 aW_e), if_pos hpl]
  have hCB : CI (aW a 136 (4 * c + p) 0) z2 z2 z1 := by
    refine CI_settle hc hl f1 (hAB.1 c hc).1 hpl (aW_1 (by decide)) (fun i g => aW_k g) (by rw [aW_e]; decide) (fun i g => by rw [aW_1 (by decide)]) (aW_1 (by decide)) (aW_1 (by decide)) (aW_1 (by decide)) (aW_1 (by decide)) rfl hC rfl ?_ (fun _ _ _ => Nat.le_refl _) (fun l' => ?_)
    · unfold aWs
      rw [hpl]
      dsimp only
      rw [hn.2]
      exact Nat.le_refl _
    · have : aLt (aW a 136 (4 * c + p) 0) c l = 0 := by
        unfold aLt
        rw [plB]
      rw [this]
      split <;> omega
  unfold aVac
  by_cases q : a.1 136 (4 * c + p) = 1
  · rw [if_pos q]
    exact ⟨hAB, hCB, aW_e⟩
  · rw [if_neg q]
    have n1 : aNt (Int32.ofNat l) = l := i_tn (by omega)
    have n2 : aNt (Int32.ofNat n) = n := i_tn (by omega)
    rw [el, en, n1, n2]
    have e : aW (aSend (aW a 141 (16 * c + l) (Int32.ofNat n)) 4 2 l c n) 136 (4 * c + p) 0 = aSend (aW (aW a 136 (4 * c + p) 0) 141 (16 * c + l) (Int32.ofNat n)) 4 2 l c n := by
      rw [← aSend_aW (by decide), aW_cm (r := 141) (by decide)]
    rw [e]
    have m1 : ¬ Int32.ofNat n = -1 := by
      rw [i_ne1 (by omega)]
      exact not_false
    have hA2 := FI_lv (v := Int32.ofNat n) hc hl (Or.inr (aV_of hn1)) hAB
    have hC2 := CI_leave (v := Int32.ofNat n) hc hl plB (by rw [aW_1 (by decide)]; exact h41) m1 hCB
    refine ⟨FI_send ⟨hl, hc, hn1, Or.inl ⟨rfl, show 2 < 3 by decide⟩⟩ hA2, CI_send (by decide) hC2 (fun c' l' hc' hl' => ?_) (fun c' l' hc' hl' => ?_) (fun l' hl' => ?_), ?_⟩
    · unfold z2
      rw [if_neg]
      · exact Nat.le_refl _
      · rintro (⟨-, q2⟩ | ⟨q, -⟩)
        · unfold pR at q2
          simp at q2
        · omega
    · unfold d2 z2
      by_cases g : c' = c ∧ l' = l
      · rw [if_pos g]
        split <;> omega
      · rw [if_neg g, if_neg]
        · exact Nat.le_refl _
        · rintro (⟨-, q2⟩ | ⟨q, -⟩)
          · unfold pP at q2
            simp only [Bool.and_eq_true, decide_eq_true_eq] at q2
            exact g ⟨q2.2.2.symm, q2.2.1.symm⟩
          · omega
    · unfold z1
      rw [if_neg (by omega)]
      exact Nat.le_refl _
    · rw [aSend_1 (by decide), aW_1 (by decide), aW_e]
theorem V_ask {w : Bool} (hc : c < 4) (hl : l < 16) (hA : FI a) (hC : CI a z2 z2 z1) : FI (aAsk a c l w).2 ∧ CI (aAsk a c l w).2 z2 z2 z1 := by
  obtain ⟨f1, f2, f3, f4, f5, f6, f7, f8⟩ := hA.1 c hc
  unfold aAsk
  by_cases q1 : a.1 141 (16 * c + l) = -1
  · rw [if_pos q1]
    cases hP : aPl a c l with
    | some p =>
      obtain ⟨hp, hat⟩ := aPl_lt hP
      have hat2 := aAt_iff.1 hat
      dsimp only
      by_cases q2 : a.1 136 (4 * c + p) = 1 ∧ w = true
      · rw [if_pos q2]
        refine V_beg hc hl hp (fun p' hp' g => ?_) (Or.inr ⟨q2.1, hat2.2⟩) q1 hA hC
        cases e : aAt a c l p' with
        | false => rfl
        | true => exact absurd (f1.2 l p' p hp' hp e hat) g
      · rw [if_neg q2]
        exact ⟨hA, hC⟩
    | none =>
      have hno := aPl_none hP
      dsimp only
      cases hE : aEp a c with
      | some p =>
        obtain ⟨hp, hst⟩ := aEp_lt hE
        exact V_beg hc hl hp (fun p' hp' _ => hno p' hp') (Or.inl hst) q1 hA hC
      | none =>
        dsimp only
        cases hV : aVic a c with
        | none => exact ⟨hA, hC⟩
        | some p =>
          have hp := aVic_lt hV
          have hv := (may_val f1 hp (aVic_may hV)).1
          obtain ⟨v1, v2, v3⟩ := V_vac hc hp hv hA hC
          refine V_beg hc hl hp (fun p' hp' g => ?_) (Or.inl v3) ?_ v1 v2
          · have := hno p' hp'
            unfold aAt at this ⊢
            rw [aVac_136, aVac_1 (r := 135) (by decide) (by decide) (by decide), up_k (by omega)]
            exact this
          · -- the line that is left is another one
            unfold aVac
            split
            · rw [aW_1 (by decide)]
              exact q1
            · obtain ⟨l', hl', el⟩ := (f1.1 p hp).2.1 (val_ne hv).1
              have n1 : aNt (Int32.ofNat l') = l' := i_tn (by omega)
              have hne : ¬ l' = l := by
                intro e
                subst e
                have := hno p hp
                rw [aAt_iff.2 ⟨(val_ne hv).1, el⟩] at this
                cases this
              rw [el, n1, aW_1 (by decide), aSend_1 (by decide), aW_k (by omega)]
              exact q1
  · rw [if_neg q1]
    exact ⟨hA, hC⟩
theorem aBeg_row {P : Nat} {w : Bool} (h : ¬ q = 4) : (aBeg a c P l w).2 q = a.2 q := by
  unfold aBeg
  rw [aSend_k h]
  rfl
theorem aVac_row {P : Nat} (h : ¬ q = 4) : (aVac a c P).2 q = a.2 q := by
  unfold aVac
  split
  · rfl
  · rw [aW_2, aSend_k h]
    rfl
theorem aAsk_row {w : Bool} (h : ¬ q = 4) : (aAsk a c l w).2.2 q = a.2 q := by
  unfold aAsk
  split
  · split
    · split
      · exact aBeg_row h
      · rfl
    · split
      · exact aBeg_row h
      · split
        · exact (aBeg_row h).trans (aVac_row h)
        · rfl
  · rfl
theorem rE_of (h27 : b.1 127 = a.1 127) (hr : ∀ l, b.2 (15 + l) = a.2 (15 + l)) (h : rE a) : rE b := by
  intro l hl hb
  rw [h27] at hb
  rw [hr l]
  exact h l hl hb
theorem I_ask {w : Bool} (hc : c < 4) (hl : l < 16) (h : Inv a) : Inv (aAsk a c l w).2 := by
  obtain ⟨v1, v2⟩ := V_ask (w := w) hc hl h.1 h.2.1
  exact ⟨v1, v2, rE_of (aAsk_1 (by decide) (by decide) (by decide) (by decide) (by decide) (by decide)) (fun l' => aAsk_row (by omega)) h.2.2⟩
/-- there is room to ask -/
theorem I_qAsk {w : Bool} (hc : c < 4) (hl : l < 16) (h : Inv a) : qAsk a c l w := by
  obtain ⟨hA, hC, -⟩ := h
  obtain ⟨f1, f2, f3, f4, f5, f6, f7, f8⟩ := hA.1 c hc
  intro h1 h2
  have w0 : aWs a c l = 0 := by
    unfold aWs
    cases e : aPl a c l with
    | none => rfl
    | some p =>
      dsimp only
      rw [(h2 p e).1]
      rfl
  have l0 : aLs a c l = 0 := by
    unfold aLs
    rw [if_pos h1]
  refine ⟨?_, fun p hn hE hV => ?_⟩
  · have := V_q4 hA hC (fun i => if i = 16 * c + l then 1 else 0) (fun c' l' hc' hl' => ?_)
    · rw [sm_d, if_pos (by omega)] at this
      omega
    · by_cases g : 16 * c' + l' = 16 * c + l
      · have e1 : c' = c := by omega
        have e2 : l' = l := by omega
        rw [e1, e2, w0, l0, if_pos rfl]
        exact Nat.le_refl _
      · rw [if_neg g]
        exact Nat.zero_le _
  · have hp := aVic_lt hV
    have hv := (may_val f1 hp (aVic_may hV)).1
    obtain ⟨l', hl', el⟩ := (f1.1 p hp).2.1 (val_ne hv).1
    have hpl : aPl a c l' = some p := (pl_iff f1).2 ⟨hp, aAt_iff.2 ⟨(val_ne hv).1, el⟩⟩
    have hne : ¬ l' = l := by
      intro e
      rw [e, hn] at hpl
      cases hpl
    have w1 : aWs a c l' = 0 := by
      unfold aWs
      rw [hpl]
      dsimp only
      rw [(val_ne hv).2]
      rfl
    have l1 : aLs a c l' = 0 := by
      unfold aLs
      rw [(hC.1 c hc l' hl').2.2 (by rw [hpl]; exact fun q => nomatch q), if_pos rfl]
    have := V_q4 hA hC (fun i => (if i = 16 * c + l then 1 else 0) + (if i = 16 * c + l' then 1 else 0)) (fun c' l'' hc' hl'' => ?_)
    · rw [sm_add, sm_d, sm_d, if_pos (by omega), if_pos (by omega)] at this
      omega
    · by_cases g : 16 * c' + l'' = 16 * c + l
      · have e1 : c' = c := by omega
        have e2 : l'' = l := by omega
        rw [e1, e2, w0, l0, if_pos rfl, if_neg (by omega)]
        exact Nat.le_refl _
      · rw [if_neg g]
        by_cases g2 : 16 * c' + l'' = 16 * c + l'
        · have e1 : c' = c := by omega
          have e2 : l'' = l' := by omega
          rw [e1, e2, w1, l1, if_pos rfl]
          exact Nat.le_refl _
        · rw [if_neg g2]
          exact Nat.zero_le _
end EPV
