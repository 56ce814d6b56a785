/-! the invariant: requests and ANSWERs delivered; places -/
section EPV
variable {a a' b : aS} {r i l l' q q' c c' k n p p' w z N o D : Nat} {v t x y s : Int32} {m : aM} {L ms : List aM}
theorem CI_weak {hR hP hR' hP' : Nat → Nat → Nat} {hW hW' : Nat → Nat} (h : CI a hR hP hW) (h1 : ∀ c l, hR' c l ≤ hR c l) (h2 : ∀ c l, hP' c l ≤ hP c l) (h3 : ∀ l, hW' l ≤ hW l) : CI a hR' hP' hW' := by
  refine ⟨fun c hc l hl => ?_, fun l hl => ?_⟩
  · obtain ⟨g1, g2, g3⟩ := h.1 c hc l hl
    have := h1 c l
    have := h2 c l
    exact ⟨by omega, by omega, g3⟩
  · have := h.2 l hl
    have := h3 l
    omega
theorem dn_d1 : dn l 1 = d1 l := rfl
/-- a request is delivered -/
theorem V_req (hI : Inv a) (hL : a.2 4 = m :: ms) : Inv (aReq (aL a 4 ms) m) ∧ m.1 < 3 ∧ (aL a 4 ms).2 (15 + m.2.1) = a.2 (15 + m.2.1) ∧ (a.2 (15 + m.2.1)).length < 4 := by
  obtain ⟨hA, hC, hE⟩ := hI
  obtain ⟨hl, hc, hn, hm⟩ := hA.2.2 4 (by decide) m (by rw [hL]; exact List.mem_cons_self)
  have hk : m.1 < 3 := by omega
  have hA2 := FI_pop hL hA
  have hC2 : CI (aL a 4 ms) (if m.1 < 2 then d2 m.2.2.1 m.2.1 else z2) (if m.1 < 2 then z2 else d2 m.2.2.1 m.2.1) z1 := by
    refine CI_pop (by decide) hL hC (fun c' l' hc' hl' => ?_) (fun c' l' hc' hl' => ?_) (fun l' hl' => ?_)
    · rw [← tokR hk rfl]
      have : (if l' = m.2.1 ∧ pR c' l' m = true then 1 else 0) ≤ (if (4 = 4 ∧ pR c' l' m = true) ∨ (4 = 10 + c' ∧ pD l' m = true) then 1 else 0) := by
        by_cases g : pR c' l' m = true
        · rw [if_pos (Or.inl ⟨rfl, g⟩)]
          split <;> omega
        · rw [if_neg (fun q => g q.2)]
          exact Nat.zero_le _
      omega
    · rw [← tokP hk rfl]
      have : (if l' = m.2.1 ∧ pP c' l' m = true then 1 else 0) ≤ (if (4 = 4 ∧ pP c' l' m = true) ∨ (4 = 10 + c' ∧ pN l' m = true) then 1 else 0) := by
        by_cases g : pP c' l' m = true
        · rw [if_pos (Or.inl ⟨rfl, g⟩)]
          split <;> omega
        · rw [if_neg (fun q => g q.2)]
          exact Nat.zero_le _
      omega
    · exact Nat.zero_le _
  have htk : 1 ≤ (if m.1 < 2 then d2 m.2.2.1 m.2.1 else z2) m.2.2.1 m.2.1 + (if m.1 < 2 then z2 else d2 m.2.2.1 m.2.1) m.2.2.1 m.2.1 := by
    unfold d2
    split <;> simp
  have hrow := V_row hl hc hA2 hC2 htk
  have er : (aL a 4 ms).2 (15 + m.2.1) = a.2 (15 + m.2.1) := aL_k (by omega)
  refine ⟨?_, hk, er, by rw [← er]; exact hrow⟩
  have hE2 : rE (aL a 4 ms) := by
    intro l hl hb
    rw [aL_k (by omega)]
    exact hE l hl hb
  have ho := (hA.2.1 m.2.1 hl).1.1
  generalize aL a 4 ms = B at *
  by_cases q : B.1 127 m.2.1 = -1
  · rw [aReq_free hc ((hA2.2.1 m.2.1 hl).1.1) q (hE2 _ hl q)]
    obtain ⟨v1, v2⟩ := V_does hl hc hk hn q hA2 hC2
    refine ⟨v1, v2, fun l' hl' hb => ?_⟩
    rw [aDoes_q hc ((hA2.2.1 m.2.1 hl).1.1) (by omega)]
    by_cases e : l' = m.2.1
    · rw [e]
      exact hE2 _ hl q
    · rw [aDoes_27 e] at hb
      exact hE2 l' hl' hb
  · rw [aReq_busy q]
    refine ⟨FI_rpush hl ⟨hl, hc, hn, by omega⟩ hA2, CI_rpush hl hC2 (fun c' l' hc' hl' => ?_) (fun c' l' hc' hl' => ?_), fun l' hl' hb => ?_⟩
    · rw [tokR hk rfl]
      unfold z2
      omega
    · rw [tokP hk rfl]
      unfold z2
      omega
    · by_cases e : l' = m.2.1
      · exact absurd (e ▸ hb) q
      · show (aL B _ _).2 _ = _
        rw [aL_k (by omega)]
        exact hE2 l' hl' hb
/-- an ANSWER is delivered -/
theorem V_ans (hI : Inv a) (hL : a.2 14 = m :: ms) : Inv (aAnsw (aL a 14 ms) m) ∧ (m.1 = 8 ∨ m.1 = 9) ∧ wF (aL a 14 ms) m.2.1 := by
  obtain ⟨hA, hC, hE⟩ := hI
  obtain ⟨hl, hc, hn, hm⟩ := hA.2.2 14 (by decide) m (by rw [hL]; exact List.mem_cons_self)
  have hk : m.1 = 8 ∨ m.1 = 9 := by omega
  have hA2 := FI_pop hL hA
  have hC2 : CI (aL a 14 ms) z2 z2 (d1 m.2.1) := by
    refine CI_pop (by decide) hL hC (fun c' l' hc' hl' => Nat.zero_le _) (fun c' l' hc' hl' => Nat.zero_le _) (fun l' hl' => ?_)
    unfold d1 z1
    by_cases g : l' = m.2.1
    · rw [if_pos g, if_pos ⟨Or.inr rfl, g.symm⟩]
      exact Nat.le_refl _
    · rw [if_neg g]
      exact Nat.zero_le _
  have hE2 : rE (aL a 14 ms) := by
    intro l hl hb
    rw [aL_k (by omega)]
    exact hE l hl hb
  generalize aL a 14 ms = B at *
  obtain ⟨f1, f2, f3⟩ := hA2.2.1 m.2.1 hl
  have hdue := hC2.2 m.2.1 hl
  have hd1 : d1 m.2.1 m.2.1 = 1 := by
    unfold d1
    rw [if_pos rfl]
  rw [hd1] at hdue
  rcases f3 with f3 | ⟨c, D, hc2, h28, hD, h29, hkk⟩
  · unfold due at hdue
    rw [if_pos f3] at hdue
    omega
  have hb : ¬ B.1 127 m.2.1 = -1 := by
    rcases hkk with ⟨q, -⟩ | q <;> rw [q] <;> decide
  have nD : aNt (Int32.ofNat D) = D := i_tn (by omega)
  have hD1 : nFw B m.2.1 + 1 ≤ D := by
    unfold due at hdue
    rw [if_neg hb, h29, nD] at hdue
    exact hdue
  refine ⟨?_, hk, c, D, hc2, h28, by omega, by omega, h29, hkk⟩
  -- the value, and one ANSWER less
  have e5 : Int32.ofNat D - 1 = Int32.ofNat (D - 1) := i_sb (m := 1) (by omega)
  have key : ∀ X : aS, (X = B ∨ X = aW B 123 m.2.1 (Int32.ofNat m.2.2.2)) → FI (aW X 129 m.2.1 (Int32.ofNat (D - 1))) ∧ CI (aW X 129 m.2.1 (Int32.ofNat (D - 1))) z2 z2 z1 := by
    intro X hX
    have ex : ∀ r i, ¬ (r = 123 ∧ i = m.2.1) → X.1 r i = B.1 r i := by
      intro r i g
      rcases hX with e | e
      · rw [e]
      · rw [e, aW_o g]
    have ex2 : X.2 = B.2 := by
      rcases hX with e | e
      · rw [e]
      · rw [e]
        rfl
    have ev : aV (X.1 123 m.2.1) := by
      rcases hX with e | e
      · rw [e]
        exact f1.2
      · rw [e, aW_e]
        exact aV_of hn
    have eo : ∀ r i, ¬ ((r = 123 ∨ r = 129) ∧ i = m.2.1) → (aW X 129 m.2.1 (Int32.ofNat (D - 1))).1 r i = B.1 r i := fun r i g => by
      rw [aW_o (by omega), ex r i (by omega)]
    have er : ∀ r, ¬ r = 123 → ¬ r = 129 → (aW X 129 m.2.1 (Int32.ofNat (D - 1))).1 r = B.1 r := fun r g g' => funext fun i => eo r i (by omega)
    refine ⟨FI_line hl ⟨⟨?_, ?_⟩, ?_, ?_⟩ (fun r i g => eo r i (by omega)) ex2 hA2, fun c' hc' l' hl' => ?_, fun l' hl' => ?_⟩
    · rw [er 124 (by decide) (by decide)]
      exact f1.1
    · rw [aW_1 (by decide)]
      exact ev
    · exact kF_eq (by rw [er 125 (by decide) (by decide)]) (by rw [er 126 (by decide) (by decide)]) f2
    · refine Or.inr ⟨c, D - 1, hc2, ?_, by omega, aW_e, ?_⟩
      · rw [er 128 (by decide) (by decide)]
        exact h28
      · rw [er 127 (by decide) (by decide), er 124 (by decide) (by decide)]
        exact hkk
    · obtain ⟨g1, g2, g3⟩ := hC2.1 c' hc' l' hl'
      refine ⟨?_, ?_, ?_⟩
      · unfold nR cBz at g1 ⊢
        rw [aWs_eq (er 135 (by decide) (by decide)) (er 136 (by decide) (by decide)), er 127 (by decide) (by decide), er 128 (by decide) (by decide), aW_2, ex2]
        exact g1
      · unfold nP aLs at g2 ⊢
        rw [er 141 (by decide) (by decide), aW_2, ex2]
        exact g2
      · rw [aPl_eq (er 135 (by decide) (by decide)) (er 136 (by decide) (by decide)), er 141 (by decide) (by decide)]
        exact g3
    · have g := hC2.2 l' hl'
      have ef : nFw (aW X 129 m.2.1 (Int32.ofNat (D - 1))) l' = nFw B l' := by
        unfold nFw nFc
        have h1 := er 135 (by decide) (by decide)
        have h2 := er 136 (by decide) (by decide)
        have h3 := er 140 (by decide) (by decide)
        rw [aW_2, ex2, aLt_eq h1 h2 h3, aLt_eq h1 h2 h3, aLt_eq h1 h2 h3, aLt_eq h1 h2 h3]
      rw [ef]
      unfold due d1 z1 at *
      rw [er 127 (by decide) (by decide)]
      by_cases e : l' = m.2.1
      · subst e
        have nD1 : aNt (Int32.ofNat (D - 1)) = D - 1 := i_tn (by omega)
        rw [if_neg hb, aW_e, nD1]
        omega
      · rw [eo 129 l' (by omega)]
        rw [if_neg e] at g
        exact g
  have hX : (if m.1 = 8 then aW B 123 m.2.1 (Int32.ofNat m.2.2.2) else B) = B ∨ (if m.1 = 8 then aW B 123 m.2.1 (Int32.ofNat m.2.2.2) else B) = aW B 123 m.2.1 (Int32.ofNat m.2.2.2) := by
    split
    · exact Or.inr rfl
    · exact Or.inl rfl
  have hk2 := key _ hX
  have ex : ∀ r i, ¬ (r = 123 ∧ i = m.2.1) → (if m.1 = 8 then aW B 123 m.2.1 (Int32.ofNat m.2.2.2) else B).1 r i = B.1 r i := by
    intro r i g
    split
    · exact aW_o g
    · rfl
  have ex2 : (if m.1 = 8 then aW B 123 m.2.1 (Int32.ofNat m.2.2.2) else B).2 = B.2 := by
    split <;> rfl
  unfold aAnsw aAnsH
  rw [h29, e5]
  generalize (if m.1 = 8 then aW B 123 m.2.1 (Int32.ofNat m.2.2.2) else B) = X at *
  have y28 : (aW X 129 m.2.1 (Int32.ofNat (D - 1))).1 128 m.2.1 = Int32.ofNat c := by rw [aW_1 (by decide), ex 128 _ (by omega)]; exact h28
  have y27 : ∀ l', (aW X 129 m.2.1 (Int32.ofNat (D - 1))).1 127 l' = B.1 127 l' := fun l' => by rw [aW_1 (by decide), ex 127 _ (by omega)]
  have y24 : (aW X 129 m.2.1 (Int32.ofNat (D - 1))).1 124 m.2.1 = B.1 124 m.2.1 := by rw [aW_1 (by decide), ex 124 _ (by omega)]
  have n1 : aNt (Int32.ofNat c) = c := i_tn (by omega)
  obtain ⟨v1, v2⟩ := V_ends hl hc2 y28 (show D - 1 ≤ 3 by omega) aW_e (by rw [y27, y24]; exact hkk) hk2.1 hk2.2
  have er : ∀ l', (aEnds (aW X 129 m.2.1 (Int32.ofNat (D - 1))) m.2.1).2 (15 + l') = B.2 (15 + l') := fun l' => by
    rw [aEnds_q (by omega) (by rw [y28, n1]; exact hc2), aW_2, ex2]
  have e27 : ∀ l', ¬ l' = m.2.1 → (aEnds (aW X 129 m.2.1 (Int32.ofNat (D - 1))) m.2.1).1 127 l' = B.1 127 l' := by
    intro l' hne
    unfold aEnds aEndR aEndW
    split
    · split
      · rw [aGives_1 (by decide), aSh_27, aSh_27, aFo_27, aW_1 (by decide), aW_k hne, y27]
      · rw [aGives_1 (by decide), aFo_27, aW_1 (by decide), aW_k hne, y27]
    · rw [y27]
  obtain ⟨w1, w2, w3, w4⟩ := V_goes hl ((B.2 (15 + m.2.1)).length + 1) _ (by rw [er]; omega) v1 v2
  refine ⟨w1, w2, fun l' hl' hb' => ?_⟩
  by_cases e : l' = m.2.1
  · subst e
    exact w3 hb'
  · obtain ⟨w5, w6⟩ := w4 l' e
    rw [w5, e27 l' e] at hb'
    rw [w6, er]
    exact hE2 l' hl' hb'
/-! places -/
theorem pl_iff (hF : cF a c) : aPl a c l = some p ↔ p < 4 ∧ aAt a c l p = true := by
  constructor
  · exact fun h => aPl_lt h
  · rintro ⟨hp, hat⟩
    cases hP : aPl a c l with
    | none =>
      exfalso
      unfold aPl at hP
      have : p = 0 ∨ p = 1 ∨ p = 2 ∨ p = 3 := by omega
      rcases this with q | q | q | q <;> subst q <;> simp only [hat, ↓reduceIte] at hP
      · cases hP
      · split at hP <;> cases hP
      · split at hP
        · cases hP
        · split at hP <;> cases hP
      · split at hP
        · cases hP
        · split at hP
          · cases hP
          · split at hP <;> cases hP
    | some p' =>
      obtain ⟨hp', hat'⟩ := aPl_lt hP
      rw [hF.2 l p p' hp hp' hat hat']
theorem aPl_cc (h : ∀ p, p < 4 → b.1 135 (4 * c + p) = a.1 135 (4 * c + p) ∧ b.1 136 (4 * c + p) = a.1 136 (4 * c + p)) : aPl b c l = aPl a c l := by
  unfold aPl aAt
  rw [(h 0 (by decide)).1, (h 0 (by decide)).2, (h 1 (by decide)).1, (h 1 (by decide)).2, (h 2 (by decide)).1, (h 2 (by decide)).2, (h 3 (by decide)).1, (h 3 (by decide)).2]
/-- one place changes its line or state -/
theorem aPl_set (hFa : cF a c) (hFb : cF b c) (hp : p < 4) (h : ∀ p', p' < 4 → ¬ p' = p → b.1 135 (4 * c + p') = a.1 135 (4 * c + p') ∧ b.1 136 (4 * c + p') = a.1 136 (4 * c + p')) :
    aPl b c l = if aAt b c l p = true then some p else if aPl a c l = some p then none else aPl a c l := by
  have hat : ∀ p', p' < 4 → ¬ p' = p → aAt b c l p' = aAt a c l p' := by
    intro p' hp' g
    unfold aAt
    rw [(h p' hp' g).1, (h p' hp' g).2]
  by_cases q : aAt b c l p = true
  · rw [if_pos q]
    exact (pl_iff hFb).2 ⟨hp, q⟩
  · rw [if_neg q]
    cases e : aPl b c l with
    | some p' =>
      obtain ⟨h1, h2⟩ := (pl_iff hFb).1 e
      have hne : ¬ p' = p := fun g => q (g ▸ h2)
      rw [hat p' h1 hne] at h2
      have e2 := (pl_iff hFa).2 ⟨h1, h2⟩
      rw [e2, if_neg (fun g => hne (Option.some.inj g))]
    | none =>
      cases e2 : aPl a c l with
      | none => simp
      | some p' =>
        by_cases g : p' = p
        · rw [g, if_pos rfl]
        · obtain ⟨h1, h2⟩ := (pl_iff hFa).1 e2
          rw [← hat p' h1 g] at h2
          have := (pl_iff hFb).2 ⟨h1, h2⟩
          rw [e] at this
          cases this
/-- a place that has a line comes to rest with it, or without -/
theorem CI_settle {hR hP hR' : Nat → Nat → Nat} {hW hW' : Nat → Nat} (hc : c < 4) (hl : l < 16) (hFa : cF a c) (hFb : cF b c) (hp : aPl a c l = some p)
    (h35 : b.1 135 = a.1 135) (h36 : ∀ i, ¬ i = 4 * c + p → b.1 136 i = a.1 136 i) (hw : aWt (b.1 136 (4 * c + p)) = false) (h40 : ∀ i, ¬ i = 4 * c + p → b.1 140 i = a.1 140 i)
    (h41 : b.1 141 = a.1 141) (h27 : b.1 127 = a.1 127) (h28 : b.1 128 = a.1 128) (h29 : b.1 129 = a.1 129) (hq : b.2 = a.2) (h : CI a hR hP hW)
    (eR0 : hR' c l = 0) (eR1 : aWs a c l ≤ hR c l) (eR : ∀ c' l', ¬ (c' = c ∧ l' = l) → hR' c' l' ≤ hR c' l') (eW : ∀ l', hW' l' + (if l' = l then aLt b c l else 0) ≤ hW l' + (if l' = l then aLt a c l else 0)) : CI b hR' hP hW' := by
  obtain ⟨hp4, hat⟩ := aPl_lt hp
  have hln := (aAt_iff.1 hat).2
  have set := fun l' => aPl_set (l := l') hFa hFb hp4 (fun p' hp' g => ⟨by rw [h35], h36 _ (by omega)⟩)
  have oth : ∀ l', l' < 16 → ¬ l' = l → aPl b c l' = aPl a c l' := by
    intro l' hl' g
    rw [set l']
    have n1 : ¬ aAt b c l' p = true := by
      intro q
      have := (aAt_iff.1 q).2
      rw [h35, hln, i_eq (by omega) (by omega)] at this
      exact g this.symm
    have n2 : ¬ aPl a c l' = some p := by
      intro q
      have := (aAt_iff.1 (aPl_lt q).2).2
      rw [hln, i_eq (by omega) (by omega)] at this
      exact g this.symm
    rw [if_neg n1, if_neg n2]
  have cc : ∀ c' l', ¬ c' = c → aPl b c' l' = aPl a c' l' := fun c' l' g => aPl_cc (fun p' hp' => ⟨by rw [h35], h36 _ (by omega)⟩)
  have pne : ∀ c' l' p', aPl a c' l' = some p' → ¬ (c' = c ∧ l' = l) → l' < 16 → ¬ 4 * c' + p' = 4 * c + p := by
    intro c' l' p' e g hl' q
    have := (aPl_lt e).1
    have e1 : c' = c := by omega
    have e2 : p' = p := by omega
    subst e1 e2
    have e3 := (aAt_iff.1 (aPl_lt e).2).2
    rw [hln, i_eq (by omega) (by omega)] at e3
    exact g ⟨rfl, e3.symm⟩
  have pe : ∀ c' l', l' < 16 → ¬ (c' = c ∧ l' = l) → aPl b c' l' = aPl a c' l' := by
    intro c' l' hl' g
    by_cases e : c' = c
    · rw [e]
      exact oth l' hl' (fun q => g ⟨e, q⟩)
    · exact cc c' l' e
  have ws : ∀ c' l', l' < 16 → ¬ (c' = c ∧ l' = l) → aWs b c' l' = aWs a c' l' := by
    intro c' l' hl' g
    unfold aWs
    rw [pe c' l' hl' g]
    cases e : aPl a c' l' with
    | none => rfl
    | some p' =>
      dsimp only
      rw [h36 _ (pne c' l' p' e g hl')]
  have lt : ∀ c' l', l' < 16 → ¬ (c' = c ∧ l' = l) → aLt b c' l' = aLt a c' l' := by
    intro c' l' hl' g
    unfold aLt
    rw [pe c' l' hl' g]
    cases e : aPl a c' l' with
    | none => rfl
    | some p' =>
      dsimp only
      rw [h40 _ (pne c' l' p' e g hl')]
  have w0 : aWs b c l = 0 := by
    unfold aWs
    rw [set l]
    by_cases q : aAt b c l p = true
    · rw [if_pos q]
      dsimp only
      rw [hw]
      rfl
    · rw [if_neg q, if_pos hp]
  refine ⟨fun c' hc' l' hl' => ?_, fun l' hl' => ?_⟩
  · obtain ⟨g1, g2, g3⟩ := h.1 c' hc' l' hl'
    refine ⟨?_, ?_, ?_⟩
    · have en : nR b c' l' = nR a c' l' := by
        unfold nR cBz
        rw [hq, h27, h28]
      rw [en]
      by_cases g : c' = c ∧ l' = l
      · obtain ⟨e1, e2⟩ := g
        subst e1 e2
        rw [w0, eR0]
        omega
      · rw [ws c' l' hl' g]
        have := eR c' l' g
        omega
    · have en : nP b c' l' = nP a c' l' := by
        unfold nP
        rw [hq]
      unfold aLs at g2 ⊢
      rw [en, h41]
      exact g2
    · rw [h41]
      by_cases g : c' = c ∧ l' = l
      · obtain ⟨e1, e2⟩ := g
        subst e1 e2
        intro _
        exact g3 (by rw [hp]; exact fun q => nomatch q)
      · rw [pe c' l' hl' g]
        exact g3
  · have g := h.2 l' hl'
    have g2 := eW l'
    have ed : due b l' = due a l' := by
      unfold due
      rw [h27, h29]
    rw [ed]
    unfold nFw nFc at g ⊢
    rw [hq]
    by_cases e : l' = l
    · subst e
      rw [if_pos rfl, if_pos rfl] at g2
      have o : ∀ c', ¬ c' = c → aLt b c' l' = aLt a c' l' := fun c' q => lt c' l' hl' (fun k => q k.1)
      have : c = 0 ∨ c = 1 ∨ c = 2 ∨ c = 3 := by omega
      rcases this with q | q | q | q
      · subst q
        rw [o 1 (by decide), o 2 (by decide), o 3 (by decide)]
        omega
      · subst q
        rw [o 0 (by decide), o 2 (by decide), o 3 (by decide)]
        omega
      · subst q
        rw [o 0 (by decide), o 1 (by decide), o 3 (by decide)]
        omega
      · subst q
        rw [o 0 (by decide), o 1 (by decide), o 2 (by decide)]
        omega
    · rw [if_neg e, if_neg e] at g2
      rw [lt 0 l' hl' (fun k => e k.2), lt 1 l' hl' (fun k => e k.2), lt 2 l' hl' (fun k => e k.2), lt 3 l' hl' (fun k => e k.2)]
      omega
end EPV
