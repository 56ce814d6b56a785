/-! the invariant: the cores keep it -/
section EPV
variable {a a' b : aS} {r i l l' q q' c c' k n p p' w z N o D : Nat} {v t x y s : Int32} {m : aM} {L ms : List aM}
theorem cF_cc (h : ∀ p, p < 4 → b.1 135 (4 * c + p) = a.1 135 (4 * c + p) ∧ b.1 136 (4 * c + p) = a.1 136 (4 * c + p) ∧ b.1 137 (4 * c + p) = a.1 137 (4 * c + p)) (hF : cF a c) : cF b c := by
  refine cF_sub hF (fun p hp => ?_)
  obtain ⟨h1, h2, h3⟩ := h p hp
  rw [h1, h2, h3]
  exact ⟨(hF.1 p hp).1, fun g => ⟨g, rfl⟩, (hF.1 p hp).2.2⟩
theorem nF_cc (h : ∀ p, p < 4 → b.1 136 (4 * c + p) = a.1 136 (4 * c + p) ∧ b.1 139 (4 * c + p) = a.1 139 (4 * c + p) ∧ b.1 140 (4 * c + p) = a.1 140 (4 * c + p)) (hF : nF a c) : nF b c := by
  intro p hp
  obtain ⟨h1, h2, h3⟩ := h p hp
  rw [h1, h2, h3]
  exact hF p hp
theorem yF_cc (h : ∀ p, p < 4 → b.1 140 (4 * c + p) = a.1 140 (4 * c + p)) (hF : yF a c) : yF b c := by
  intro p hp
  rw [h p hp]
  exact hF p hp
theorem lF_cc (h : ∀ l, l < 16 → b.1 141 (16 * c + l) = a.1 141 (16 * c + l)) (hF : lF a c) : lF b c := by
  intro l hl
  rw [h l hl]
  exact hF l hl
/-- one place of a core changes, its line stays or goes -/
theorem FI_place (hc : c < 4) (hp : p < 4) (h : ∀ r i, ¬ (135 ≤ r ∧ r ≤ 140 ∧ i = 4 * c + p) → ¬ (r = 122 ∧ i = 18) → b.1 r i = a.1 r i) (hq : b.2 = a.2)
    (hs : (b.1 136 (4 * c + p) = 0 ∨ b.1 136 (4 * c + p) = 1 ∨ b.1 136 (4 * c + p) = 2 ∨ b.1 136 (4 * c + p) = 3 ∨ b.1 136 (4 * c + p) = 4 ∨ b.1 136 (4 * c + p) = 5) ∧
      (¬ b.1 136 (4 * c + p) = 0 → ¬ a.1 136 (4 * c + p) = 0 ∧ b.1 135 (4 * c + p) = a.1 135 (4 * c + p)) ∧ (aVal (b.1 136 (4 * c + p)) = true → aV (b.1 137 (4 * c + p))))
    (hn : (b.1 139 (4 * c + p) = 0 ∨ b.1 139 (4 * c + p) = 1 ∧ b.1 136 (4 * c + p) = 4) ∧ (aWt (b.1 136 (4 * c + p)) = false → b.1 140 (4 * c + p) = -1))
    (hy : b.1 140 (4 * c + p) = -1 ∨ ∃ k, (k = 3 ∨ k = 4) ∧ b.1 140 (4 * c + p) = Int32.ofNat k) (hA : FI a) : FI b := by
  have er : ∀ r, ¬ (135 ≤ r ∧ r ≤ 140) → ¬ r = 122 → b.1 r = a.1 r := fun r g g' => funext fun i => h r i (by omega) (by omega)
  have eo : ∀ c' p' r, p' < 4 → ¬ (c' = c ∧ p' = p) → ¬ r = 122 → b.1 r (4 * c' + p') = a.1 r (4 * c' + p') := fun c' p' r hp' g g' => h r _ (by omega) (by omega)
  refine FI_core (a := a) (fun c' hc' => ?_) (fun r g1 g2 => er r (by omega) (by omega)) hq hA
  obtain ⟨h1, h2, h3, h4, h5, h6, h7, h8⟩ := hA.1 c' hc'
  refine ⟨?_, ?_, ?_, lF_eq (er _ (by decide) (by decide)) h4, sF_eq (er _ (by decide) (by decide)) (er _ (by decide) (by decide)) h5, tF_eq (er _ (by decide) (by decide)) (er _ (by decide) (by decide)) (er _ (by decide) (by decide)) (er _ (by decide) (by decide)) (er _ (by decide) (by decide)) h6,
    bF_eq (er _ (by decide) (by decide)) (er _ (by decide) (by decide)) (er _ (by decide) (by decide)) h7, gF2_eq (er _ (by decide) (by decide)) (er _ (by decide) (by decide)) h8⟩
  · refine cF_sub h1 (fun p' hp' => ?_)
    by_cases g : c' = c ∧ p' = p
    · obtain ⟨g1, g2⟩ := g
      subst g1 g2
      exact hs
    · rw [eo c' p' 135 hp' g (by decide), eo c' p' 136 hp' g (by decide), eo c' p' 137 hp' g (by decide)]
      exact ⟨(h1.1 p' hp').1, fun q => ⟨q, rfl⟩, (h1.1 p' hp').2.2⟩
  · intro p' hp'
    by_cases g : c' = c ∧ p' = p
    · obtain ⟨g1, g2⟩ := g
      subst g1 g2
      exact hn
    · rw [eo c' p' 136 hp' g (by decide), eo c' p' 139 hp' g (by decide), eo c' p' 140 hp' g (by decide)]
      exact h2 p' hp'
  · intro p' hp'
    by_cases g : c' = c ∧ p' = p
    · obtain ⟨g1, g2⟩ := g
      subst g1 g2
      exact hy
    · rw [eo c' p' 140 hp' g (by decide)]
      exact h3 p' hp'
theorem FI_c {hh : c < 4} (hA : FI a) : coreF a c := hA.1 c hh
/-- what leaves changes -/
theorem FI_lv (hc : c < 4) (hl : l < 16) (hv : v = -1 ∨ aV v) (hA : FI a) : FI (aW a 141 (16 * c + l) v) := by
  have er : ∀ r, ¬ r = 141 → (aW a 141 (16 * c + l) v).1 r = a.1 r := fun r g => aW_1 g
  refine FI_core (a := a) (fun c' hc' => ?_) (fun r g1 g2 => er r (by omega)) rfl hA
  obtain ⟨h1, h2, h3, h4, h5, h6, h7, h8⟩ := hA.1 c' hc'
  refine ⟨cF_eq (er _ (by decide)) (er _ (by decide)) (er _ (by decide)) h1, nF_eq (er _ (by decide)) (er _ (by decide)) (er _ (by decide)) h2, yF_eq (er _ (by decide)) h3, fun l' hl' => ?_, sF_eq (er _ (by decide)) (er _ (by decide)) h5, tF_eq (er _ (by decide)) (er _ (by decide)) (er _ (by decide)) (er _ (by decide)) (er _ (by decide)) h6,
    bF_eq (er _ (by decide)) (er _ (by decide)) (er _ (by decide)) h7, gF2_eq (er _ (by decide)) (er _ (by decide)) h8⟩
  by_cases g : 16 * c' + l' = 16 * c + l
  · rw [g, aW_e]
    exact hv
  · rw [aW_k g]
    exact h4 l' hl'
theorem CI_leave {hR : Nat → Nat → Nat} {hW : Nat → Nat} (hc : c < 4) (hl : l < 16) (hn : aPl a c l = none) (h1 : a.1 141 (16 * c + l) = -1) (hv : ¬ v = -1) (h : CI a hR z2 hW) : CI (aW a 141 (16 * c + l) v) hR (d2 c l) hW := by
  have er : ∀ r, ¬ r = 141 → (aW a 141 (16 * c + l) v).1 r = a.1 r := fun r g => aW_1 g
  refine ⟨fun c' hc' l' hl' => ?_, fun l' hl' => ?_⟩
  · obtain ⟨g1, g2, g3⟩ := h.1 c' hc' l' hl'
    refine ⟨?_, ?_, ?_⟩
    · unfold nR cBz at g1 ⊢
      rw [aWs_eq (er _ (by decide)) (er _ (by decide)), er 127 (by decide), er 128 (by decide), aW_2]
      exact g1
    · have en : nP (aW a 141 (16 * c + l) v) c' l' = nP a c' l' := rfl
      rw [en]
      unfold aLs z2 at g2
      unfold aLs d2
      by_cases g : c' = c ∧ l' = l
      · obtain ⟨e1, e2⟩ := g
        subst e1 e2
        rw [h1, if_pos rfl] at g2
        rw [aW_e, if_pos ⟨rfl, rfl⟩, if_neg hv]
        omega
      · rw [aW_k (by omega), if_neg g]
        exact g2
    · rw [aPl_eq (er _ (by decide)) (er _ (by decide))]
      by_cases g : c' = c ∧ l' = l
      · obtain ⟨e1, e2⟩ := g
        subst e1 e2
        intro q
        exact absurd hn q
      · rw [aW_k (by omega)]
        exact g3
  · have g := h.2 l' hl'
    unfold nFw nFc due at g ⊢
    rw [aW_2, er 127 (by decide), er 129 (by decide), aLt_eq (er _ (by decide)) (er _ (by decide)) (er _ (by decide)), aLt_eq (er _ (by decide)) (er _ (by decide)) (er _ (by decide)), aLt_eq (er _ (by decide)) (er _ (by decide)) (er _ (by decide)), aLt_eq (er _ (by decide)) (er _ (by decide)) (er _ (by decide))]
    exact g
theorem CI_done (hc : c < 4) (hl : l < 16) (h : CI a z2 (d2 c l) z1) : CI (aW a 141 (16 * c + l) (-1)) z2 z2 z1 := by
  have er : ∀ r, ¬ r = 141 → (aW a 141 (16 * c + l) (-1)).1 r = a.1 r := fun r g => aW_1 g
  refine ⟨fun c' hc' l' hl' => ?_, fun l' hl' => ?_⟩
  · obtain ⟨g1, g2, g3⟩ := h.1 c' hc' l' hl'
    refine ⟨?_, ?_, ?_⟩
    · unfold nR cBz at g1 ⊢
      rw [aWs_eq (er _ (by decide)) (er _ (by decide)), er 127 (by decide), er 128 (by decide), aW_2]
      exact g1
    · have en : nP (aW a 141 (16 * c + l) (-1)) c' l' = nP a c' l' := rfl
      rw [en]
      unfold aLs d2 at g2
      unfold aLs z2
      by_cases g : c' = c ∧ l' = l
      · obtain ⟨e1, e2⟩ := g
        subst e1 e2
        rw [if_pos ⟨rfl, rfl⟩] at g2
        rw [aW_e, if_pos rfl]
        split at g2 <;> omega
      · rw [if_neg g] at g2
        rw [aW_k (by omega)]
        exact g2
    · rw [aPl_eq (er _ (by decide)) (er _ (by decide))]
      by_cases g : c' = c ∧ l' = l
      · obtain ⟨e1, e2⟩ := g
        subst e1 e2
        intro _
        exact aW_e
      · rw [aW_k (by omega)]
        exact g3
  · have g := h.2 l' hl'
    unfold nFw nFc due at g ⊢
    rw [aW_2, er 127 (by decide), er 129 (by decide), aLt_eq (er _ (by decide)) (er _ (by decide)) (er _ (by decide)), aLt_eq (er _ (by decide)) (er _ (by decide)) (er _ (by decide)), aLt_eq (er _ (by decide)) (er _ (by decide)) (er _ (by decide)), aLt_eq (er _ (by decide)) (er _ (by decide)) (er _ (by decide))]
    exact g
/-- a forward is remembered -/
theorem CI_later {hR hP : Nat → Nat → Nat} (hc : c < 4) (hl : l < 16) (hF : cF a c) (hp : aPl a c l = some p) (h : CI a hR hP (dn l (D + 1))) : CI (aW a 140 (4 * c + p) v) hR hP (dn l D) := by
  have er : ∀ r, ¬ r = 140 → (aW a 140 (4 * c + p) v).1 r = a.1 r := fun r g => aW_1 g
  obtain ⟨hp4, hat⟩ := aPl_lt hp
  have hln := (aAt_iff.1 hat).2
  have pe : ∀ c' l', aPl (aW a 140 (4 * c + p) v) c' l' = aPl a c' l' := fun c' l' => aPl_eq (er _ (by decide)) (er _ (by decide))
  refine ⟨fun c' hc' l' hl' => ?_, fun l' hl' => ?_⟩
  · obtain ⟨g1, g2, g3⟩ := h.1 c' hc' l' hl'
    refine ⟨?_, ?_, ?_⟩
    · unfold nR cBz at g1 ⊢
      rw [aWs_eq (er _ (by decide)) (er _ (by decide)), er 127 (by decide), er 128 (by decide), aW_2]
      exact g1
    · unfold nP aLs at g2 ⊢
      rw [er 141 (by decide), aW_2]
      exact g2
    · rw [pe, er 141 (by decide)]
      exact g3
  · have g := h.2 l' hl'
    have lt : ∀ c', aLt (aW a 140 (4 * c + p) v) c' l' ≤ aLt a c' l' + (if c' = c ∧ l' = l then 1 else 0) := by
      intro c'
      unfold aLt
      rw [pe]
      cases e : aPl a c' l' with
      | none => exact Nat.zero_le _
      | some p' =>
        dsimp only
        have hp' := (aPl_lt e).1
        by_cases g : 4 * c' + p' = 4 * c + p
        · have e1 : c' = c := by omega
          have e2 : p' = p := by omega
          have e3 := (aAt_iff.1 (aPl_lt e).2).2
          rw [g, hln, i_eq (by omega) (by omega)] at e3
          have h1 : (if c' = c ∧ l' = l then 1 else 0) = 1 := if_pos ⟨e1, e3.symm⟩
          rw [h1]
          split <;> omega
        · rw [aW_k g]
          exact Nat.le_add_right _ _
    have t0 := lt 0
    have t1 := lt 1
    have t2 := lt 2
    have t3 := lt 3
    unfold nFw nFc due dn at *
    rw [aW_2, er 127 (by decide), er 129 (by decide)]
    by_cases e : l' = l
    · rw [if_pos e] at g
      rw [if_pos e]
      have : (if 0 = c ∧ l' = l then 1 else 0) + (if 1 = c ∧ l' = l then 1 else 0) + (if 2 = c ∧ l' = l then 1 else 0) + (if 3 = c ∧ l' = l then 1 else 0) ≤ 1 := by
        have : c = 0 ∨ c = 1 ∨ c = 2 ∨ c = 3 := by omega
        rcases this with q | q | q | q <;> subst q <;> simp [e]
      omega
    · rw [if_neg e] at g
      rw [if_neg e]
      rw [if_neg (fun q => e q.2)] at t0 t1 t2 t3
      omega
/-- an ANSWER is sent -/
theorem V_rep (hl : l < 16) (hc : c < 4) (hv : v = -1 ∨ aV v) (hA : FI a) (h : CI a z2 z2 (dn l (D + 1))) : FI (aAns a c l v) ∧ CI (aAns a c l v) z2 z2 (dn l D) := by
  have cs : ∀ k n, CI (aSend a 14 k l c n) z2 z2 (dn l D) := by
    intro k n
    refine CI_send (by decide) h (fun c' l' hc' hl' => ?_) (fun c' l' hc' hl' => ?_) (fun l' hl' => ?_)
    · unfold z2
      rw [if_neg (by omega)]
      exact Nat.le_refl _
    · unfold z2
      rw [if_neg (by omega)]
      exact Nat.le_refl _
    · unfold dn
      by_cases g : l' = l
      · rw [if_pos ⟨Or.inr rfl, g.symm⟩, if_pos g, if_pos g]
        omega
      · rw [if_neg (fun q => g q.2.symm), if_neg g, if_neg g]
        exact Nat.le_refl _
  unfold aAns
  split
  · exact ⟨FI_send ⟨hl, hc, show 0 < 1000 by decide, Or.inr (Or.inr (Or.inr (Or.inl ⟨rfl, Or.inr rfl⟩)))⟩ hA, cs _ _⟩
  · next g => exact ⟨FI_send ⟨hl, hc, (aV_nt (hv.resolve_left g)).2, Or.inr (Or.inr (Or.inr (Or.inl ⟨rfl, Or.inl rfl⟩)))⟩ hA, cs _ _⟩
theorem dn_le : ∀ l', dn l D l' ≤ dn l (D + 1) l' := by
  intro l'
  unfold dn
  split <;> omega
theorem V_fetL (hl : l < 16) (hc : c < 4) (hA : FI a) (h : CI a z2 z2 (dn l (D + 1))) : FI (aFetL a c l) ∧ CI (aFetL a c l) z2 z2 (dn l D) := by
  unfold aFetL
  split
  · exact ⟨hA, CI_weak h (fun _ _ => Nat.le_refl _) (fun _ _ => Nat.le_refl _) dn_le⟩
  · exact V_rep hl hc ((hA.1 c hc).2.2.2.1 l hl) hA h
/-- FETCH or TAKE at a core -/
theorem V_fet (hl : l < 16) (hc : c < 4) (hk : k = 3 ∨ k = 4) (hA : FI a) (h : CI a z2 z2 (dn l (D + 1))) : FI (aFet a c l k) ∧ CI (aFet a c l k) z2 z2 (dn l D) := by
  obtain ⟨f1, f2, f3, f4, f5, f6, f7, f8⟩ := hA.1 c hc
  unfold aFet
  cases hp : aPl a c l with
  | none => exact V_fetL hl hc hA h
  | some p =>
    obtain ⟨hp4, hat⟩ := aPl_lt hp
    have hat2 := aAt_iff.1 hat
    dsimp only
    by_cases q1 : aWt (a.1 136 (4 * c + p)) = true
    · rw [if_pos q1]
      refine ⟨FI_place hc hp4 (fun r i g1 g2 => aW_o (by omega)) rfl ?_ ?_ ?_ hA, CI_later hc hl f1 hp h⟩
      · rw [aW_1 (by decide), aW_1 (by decide), aW_1 (by decide)]
        exact ⟨(f1.1 p hp4).1, fun g => ⟨g, rfl⟩, (f1.1 p hp4).2.2⟩
      · rw [aW_1 (by decide), aW_1 (by decide)]
        refine ⟨(f2 p hp4).1, fun g => ?_⟩
        rw [q1] at g
        cases g
      · rw [aW_e]
        exact Or.inr ⟨k, hk, rfl⟩
    · rw [if_neg q1]
      by_cases q2 : aOwn (a.1 136 (4 * c + p)) = true
      · rw [if_pos q2]
        have hv := own_val q2
        have hN0 := nF_0 f2 hp4 (by simpa using q1)
        obtain ⟨v1, v2⟩ := V_rep hl hc (Or.inr ((f1.1 p hp4).2.2 hv)) hA h
        have e : ∀ r, ¬ r = 153 → (aAns a c l (a.1 137 (4 * c + p))).1 r = a.1 r := fun r g => aAns_1 g
        have hpB : aPl (aAns a c l (a.1 137 (4 * c + p))) c l = some p := by rw [aPl_eq (e _ (by decide)) (e _ (by decide))]; exact hp
        have e36 := congrFun (e 136 (by decide)) (4 * c + p)
        have e37 := congrFun (e 137 (by decide)) (4 * c + p)
        have e39 := congrFun (e 139 (by decide)) (4 * c + p)
        have e40 := congrFun (e 140 (by decide)) (4 * c + p)
        generalize aAns a c l (a.1 137 (4 * c + p)) = B at *
        have hs : ∀ s : Int32, (s = 1 ∨ s = 0) → FI (aW B 136 (4 * c + p) s) ∧ CI (aW B 136 (4 * c + p) s) z2 z2 (dn l D) := by
          intro s hs
          have hsv : aWt s = false := by rcases hs with g | g <;> rw [g] <;> decide
          have hA2 : FI (aW B 136 (4 * c + p) s) := by
            refine FI_place hc hp4 (fun r i g1 g2 => aW_o (by omega)) rfl ?_ ?_ ?_ v1
            · rw [aW_e, aW_1 (by decide), aW_1 (by decide)]
              refine ⟨by rcases hs with g | g <;> rw [g] <;> simp, fun _ => ⟨by rw [e36]; exact hat2.1, rfl⟩, fun _ => by rw [e37]; exact (f1.1 p hp4).2.2 hv⟩
            · rw [aW_e, aW_1 (by decide), aW_1 (by decide), e39, e40]
              exact ⟨Or.inl hN0.1, fun _ => hN0.2⟩
            · rw [aW_1 (by decide), e40]
              exact Or.inl hN0.2
          refine ⟨hA2, CI_settle hc hl (v1.1 c hc).1 (hA2.1 c hc).1 hpB (aW_1 (by decide)) (fun i g => aW_k g) (by rw [aW_e]; exact hsv) (fun i g => by rw [aW_1 (by decide)]) (aW_1 (by decide)) (aW_1 (by decide)) (aW_1 (by decide)) (aW_1 (by decide)) rfl v2 rfl ?_ (fun _ _ _ => Nat.le_refl _) (fun l' => ?_)⟩
          · unfold aWs
            rw [hpB]
            dsimp only
            rw [e36]
            rw [if_neg q1]
            exact Nat.zero_le _
          · have : aLt (aW B 136 (4 * c + p) s) c l = 0 := by
              unfold aLt
              cases g : aPl (aW B 136 (4 * c + p) s) c l with
              | none => rfl
              | some p' =>
                dsimp only
                have g2 := aPl_lt g
                have : p' = p := by
                  have g3 := aAt_iff.1 g2.2
                  by_cases ee : p' = p
                  · exact ee
                  · rw [aW_k (by omega), aW_1 (by decide)] at g3
                    have g4 := (pl_iff (v1.1 c hc).1).2 ⟨g2.1, aAt_iff.2 g3⟩
                    rw [hpB] at g4
                    exact (Option.some.inj g4).symm
                subst this
                rw [aW_1 (by decide), e40, hN0.2, if_pos rfl]
            rw [this]
            split <;> omega
        by_cases q3 : k = 3
        · rw [if_pos q3]
          exact hs 1 (Or.inl rfl)
        · rw [if_neg q3]
          exact hs 0 (Or.inr rfl)
      · rw [if_neg q2]
        exact V_fetL hl hc hA h
/-- a transaction may be broken -/
theorem V_brk {hR hP : Nat → Nat → Nat} {hW : Nat → Nat} (hc : c < 4) (hA : FI a) (h : CI a hR hP hW) : FI (aBrk a c l k) ∧ CI (aBrk a c l k) hR hP hW := by
  have er : ∀ r, ¬ r = 146 → (aBrk a c l k).1 r = a.1 r := fun r g => aBrk_1 g
  refine ⟨FI_core (a := a) (fun c' hc' => ?_) (fun r g1 g2 => er r (by omega)) aBrk_2 hA, CI_eq (er _ (by decide)) (er _ (by decide)) (er _ (by decide)) (er _ (by decide)) (er _ (by decide)) (er _ (by decide)) (er _ (by decide)) aBrk_2 h⟩
  obtain ⟨h1, h2, h3, h4, h5, h6, h7, h8⟩ := hA.1 c' hc'
  refine ⟨cF_eq (er _ (by decide)) (er _ (by decide)) (er _ (by decide)) h1, nF_eq (er _ (by decide)) (er _ (by decide)) (er _ (by decide)) h2, yF_eq (er _ (by decide)) h3, lF_eq (er _ (by decide)) h4, sF_eq (er _ (by decide)) (er _ (by decide)) h5, ?_,
    bF_eq (er _ (by decide)) (er _ (by decide)) (er _ (by decide)) h7, gF2_eq (er _ (by decide)) (er _ (by decide)) h8⟩
  unfold tF
  rw [er 145 (by decide), er 142 (by decide), er 148 (by decide), er 149 (by decide)]
  refine ⟨h6.1, ?_, h6.2.2⟩
  unfold aBrk
  split
  · by_cases g : c' = c
    · rw [g, aW_e]
      exact Or.inr rfl
    · rw [aW_k g]
      exact h6.2.1
  · exact h6.2.1
/-- KILL at a core -/
theorem V_kil (hl : l < 16) (hc : c < 4) (hA : FI a) (h : CI a z2 z2 (dn l (D + 1))) : FI (aKil a c l) ∧ CI (aKil a c l) z2 z2 (dn l D) := by
  obtain ⟨v1, v2⟩ := V_brk (l := l) (k := 5) hc hA h
  unfold aKil
  generalize aBrk a c l 5 = B at *
  obtain ⟨f1, f2, f3, f4, f5, f6, f7, f8⟩ := v1.1 c hc
  have key : FI (aKilS B c l) ∧ CI (aKilS B c l) z2 z2 (dn l (D + 1)) := by
    unfold aKilS
    cases hp : aPl B c l with
    | none => exact ⟨v1, v2⟩
    | some p =>
      obtain ⟨hp4, hat⟩ := aPl_lt hp
      have hat2 := aAt_iff.1 hat
      dsimp only
      by_cases q1 : B.1 136 (4 * c + p) = 1
      · rw [if_pos q1]
        have hN0 := nF_0 f2 hp4 (by rw [q1]; decide)
        have hA2 : FI (aW B 136 (4 * c + p) 0) := by
          refine FI_place hc hp4 (fun r i g1 g2 => aW_o (by omega)) rfl ?_ ?_ ?_ v1
          · rw [aW_e]
            exact ⟨Or.inl rfl, fun g => absurd rfl g, fun g => absurd g (by decide)⟩
          · rw [aW_e, aW_1 (by decide), aW_1 (by decide)]
            exact ⟨Or.inl hN0.1, fun _ => hN0.2⟩
          · rw [aW_1 (by decide)]
            exact Or.inl hN0.2
        refine ⟨hA2, CI_settle hc hl f1 (hA2.1 c hc).1 hp (aW_1 (by decide)) (fun i g => aW_k g) (by rw [aW_e]; decide) (fun i g => by rw [aW_1 (by decide)]) (aW_1 (by decide)) (aW_1 (by decide)) (aW_1 (by decide)) (aW_1 (by decide)) rfl v2 rfl ?_ (fun _ _ _ => Nat.le_refl _) (fun l' => ?_)⟩
        · unfold aWs
          rw [hp]
          dsimp only
          rw [q1]
          exact Nat.le_refl _
        · have : aPl (aW B 136 (4 * c + p) 0) c l = none := by
            rw [aPl_set f1 (hA2.1 c hc).1 hp4 (fun p' hp' g => ⟨by rw [aW_1 (by decide)], aW_k (by omega)⟩), if_neg (fun g => (aAt_iff.1 g).1 aW_e), if_pos hp]
          have : aLt (aW B 136 (4 * c + p) 0) c l = 0 := by
            unfold aLt
            rw [this]
          rw [this]
          split <;> omega
      · rw [if_neg q1]
        by_cases q2 : B.1 136 (4 * c + p) = 4
        · rw [if_pos q2]
          have er : ∀ r, ¬ r = 139 → (aW B 139 (4 * c + p) 1).1 r = B.1 r := fun r g => aW_1 g
          refine ⟨FI_place hc hp4 (fun r i g1 g2 => aW_o (by omega)) rfl ?_ ?_ ?_ v1, CI_eq (er _ (by decide)) (er _ (by decide)) (er _ (by decide)) (er _ (by decide)) (er _ (by decide)) (er _ (by decide)) (er _ (by decide)) rfl v2⟩
          · rw [aW_1 (by decide), aW_1 (by decide), aW_1 (by decide)]
            exact ⟨(f1.1 p hp4).1, fun g => ⟨g, rfl⟩, (f1.1 p hp4).2.2⟩
          · rw [aW_e, aW_1 (by decide), aW_1 (by decide)]
            exact ⟨Or.inr ⟨rfl, q2⟩, (f2 p hp4).2⟩
          · rw [aW_1 (by decide)]
            exact f3 p hp4
        · rw [if_neg q2]
          exact ⟨v1, v2⟩
  exact V_rep hl hc (Or.inl rfl) key.1 key.2
/-- DATA at a core -/
theorem V_dat {what : Nat} (hl : l < 16) (hc : c < 4) (hw : what = 1 ∨ what = 2 ∨ what = 3) (hn : n < 1000) (hA : FI a) (h : CI a (d2 c l) z2 z1) :
    ∃ p, aPl a c l = some p ∧ aWt (a.1 136 (4 * c + p)) = true ∧ FI (aDat a c l (4 * c + p) what n) ∧ CI (aDat a c l (4 * c + p) what n) z2 z2 z1 := by
  obtain ⟨f1, f2, f3, f4, f5, f6, f7, f8⟩ := hA.1 c hc
  obtain ⟨g1, g2, g3⟩ := h.1 c hc l hl
  have hd : d2 c l c l = 1 := by
    unfold d2
    rw [if_pos ⟨rfl, rfl⟩]
  rw [hd] at g1
  cases hp : aPl a c l with
  | none =>
    exfalso
    unfold aWs at g1
    rw [hp] at g1
    dsimp only at g1
    omega
  | some p =>
    obtain ⟨hp4, hat⟩ := aPl_lt hp
    have hat2 := aAt_iff.1 hat
    have hwt : aWt (a.1 136 (4 * c + p)) = true := by
      unfold aWs at g1
      rw [hp] at g1
      dsimp only at g1
      by_cases q : aWt (a.1 136 (4 * c + p)) = true
      · exact q
      · rw [if_neg q] at g1
        omega
    refine ⟨p, rfl, hwt, ?_⟩
    have w36 : (if what = 1 ∧ ¬ a.1 139 (4 * c + p) = 0 ∧ a.1 136 (4 * c + p) = 4 then (0 : Int32) else Int32.ofNat what) = 0 ∨ (if what = 1 ∧ ¬ a.1 139 (4 * c + p) = 0 ∧ a.1 136 (4 * c + p) = 4 then (0 : Int32) else Int32.ofNat what) = 1 ∨ (if what = 1 ∧ ¬ a.1 139 (4 * c + p) = 0 ∧ a.1 136 (4 * c + p) = 4 then (0 : Int32) else Int32.ofNat what) = 2 ∨ (if what = 1 ∧ ¬ a.1 139 (4 * c + p) = 0 ∧ a.1 136 (4 * c + p) = 4 then (0 : Int32) else Int32.ofNat what) = 3 := by
      split
      · exact Or.inl rfl
      · rcases hw with q | q | q <;> subst q
        · exact Or.inr (Or.inl rfl)
        · exact Or.inr (Or.inr (Or.inl rfl))
        · exact Or.inr (Or.inr (Or.inr rfl))
    have e36 : (aDatS a (4 * c + p) what n).1 136 (4 * c + p) = (if what = 1 ∧ ¬ a.1 139 (4 * c + p) = 0 ∧ a.1 136 (4 * c + p) = 4 then 0 else Int32.ofNat what) := by
      rw [aDatS_r]
      rfl
    have e35 : (aDatS a (4 * c + p) what n).1 135 = a.1 135 := aDatS_1 (by decide) (by decide) (by decide) (by decide) (by decide) (by decide)
    have e37 : (aDatS a (4 * c + p) what n).1 137 (4 * c + p) = Int32.ofNat n := by
      rw [aDatS_r]
      rfl
    have e39 : (aDatS a (4 * c + p) what n).1 139 (4 * c + p) = 0 := by
      rw [aDatS_r]
      rfl
    have e40 : (aDatS a (4 * c + p) what n).1 140 (4 * c + p) = -1 := by
      rw [aDatS_r]
      rfl
    have hA2 : FI (aDatS a (4 * c + p) what n) := by
      refine FI_place hc hp4 (fun r i g1 g2 => aDatS_o g1 g2) rfl ?_ ?_ ?_ hA
      · rw [e36, e35, e37]
        refine ⟨?_, fun _ => ⟨hat2.1, rfl⟩, fun _ => aV_of hn⟩
        rcases w36 with q | q | q | q <;> rw [q] <;> simp
      · rw [e39, e40]
        exact ⟨Or.inl rfl, fun _ => rfl⟩
      · exact Or.inl e40
    have hlt : aLt (aDatS a (4 * c + p) what n) c l = 0 := by
      unfold aLt
      rw [aPl_set f1 (hA2.1 c hc).1 hp4 (fun p' hp' g => ⟨by rw [e35], aDatS_o (by omega) (by omega)⟩)]
      by_cases q : aAt (aDatS a (4 * c + p) what n) c l p = true
      · rw [if_pos q]
        dsimp only
        rw [e40, if_pos rfl]
      · rw [if_neg q, if_pos hp]
    have hC2 : CI (aDatS a (4 * c + p) what n) z2 z2 (dn l (aLt a c l)) := by
      refine CI_settle hc hl f1 (hA2.1 c hc).1 hp e35 (fun i g => aDatS_o (by omega) (by omega)) (by rw [e36]; rcases w36 with q | q | q | q <;> rw [q] <;> decide) (fun i g => aDatS_o (by omega) (by omega)) ?_ ?_ ?_ ?_ rfl h rfl ?_ (fun _ _ _ => Nat.zero_le _) (fun l' => ?_)
      · exact aDatS_1 (by decide) (by decide) (by decide) (by decide) (by decide) (by decide)
      · exact aDatS_1 (by decide) (by decide) (by decide) (by decide) (by decide) (by decide)
      · exact aDatS_1 (by decide) (by decide) (by decide) (by decide) (by decide) (by decide)
      · exact aDatS_1 (by decide) (by decide) (by decide) (by decide) (by decide) (by decide)
      · rw [hd]
        unfold aWs
        rw [hp]
        dsimp only
        split <;> omega
      · rw [hlt]
        unfold dn z1
        split <;> omega
    unfold aDat
    by_cases q : a.1 140 (4 * c + p) = -1
    · rw [if_pos q]
      have : aLt a c l = 0 := by
        unfold aLt
        rw [hp]
        dsimp only
        rw [if_pos q]
      rw [this, dn_0] at hC2
      exact ⟨hA2, hC2⟩
    · rw [if_neg q]
      have : aLt a c l = 0 + 1 := by
        unfold aLt
        rw [hp]
        dsimp only
        rw [if_neg q]
      rw [this] at hC2
      obtain ⟨k, hk, ek⟩ := (f3 p hp4).resolve_left q
      have nk : aNt (Int32.ofNat k) = k := i_tn (by omega)
      rw [ek, nk]
      have := V_fet hl hc hk hA2 hC2
      rw [dn_0] at this
      exact this
end EPV
