/-! the invariant: the home keeps it -/
section EPV
variable {a a' b : aS} {r i l l' q q' c c' k n p p' w z N o D : Nat} {v t x y : Int32} {m : aM} {L ms : List aM}
def dn (l D : Nat) : Nat → Nat := fun l' => if l' = l then D else 0
theorem due_ne (h : ¬ l' = l) (e : ∀ r, ¬ l' = l → b.1 r l' = a.1 r l') : due b l' = due a l' := by
  unfold due
  rw [e _ h, e _ h]
/-- a line begins to wait for ANSWERs -/
theorem V_wait (hl : l < 16) (hc : c < 4) (hk : k < 2) (hD : D ≤ 3) (hb : a.1 127 l = -1) (ho : k = 0 → ∃ o, o < 4 ∧ a.1 124 l = Int32.ofNat o) (fA : FI a) (h : CI a (d2 c l) z2 z1) :
    FI (aWaits a l k c D) ∧ CI (aWaits a l k c D) z2 z2 (dn l D) := by
  have e27 : (aWaits a l k c D).1 127 l = Int32.ofNat k := by
    unfold aWaits
    rw [aW_1 (by decide), aW_1 (by decide), aW_e]
  have e28 : (aWaits a l k c D).1 128 l = Int32.ofNat c := by
    unfold aWaits
    rw [aW_1 (by decide), aW_e]
  have e29 : (aWaits a l k c D).1 129 l = Int32.ofNat D := by
    unfold aWaits
    rw [aW_e]
  have eo : ∀ r i, ¬ (127 ≤ r ∧ r ≤ 129 ∧ i = l) → (aWaits a l k c D).1 r i = a.1 r i := by
    intro r i g
    unfold aWaits
    rw [aW_o (by omega), aW_o (by omega), aW_o (by omega)]
  have er : ∀ r, ¬ (127 ≤ r ∧ r ≤ 129) → (aWaits a l k c D).1 r = a.1 r := fun r g => funext fun i => eo r i (by omega)
  obtain ⟨f1, f2, f3⟩ := fA.2.1 l hl
  refine ⟨FI_line hl ⟨?_, ?_, ?_⟩ (fun r i g => eo r i (by omega)) rfl fA, fun c' hc' l' hl' => ?_, fun l' hl' => ?_⟩
  · unfold hF
    rw [eo 124 l (by omega), eo 123 l (by omega)]
    exact f1
  · exact kF_eq (eo 125 l (by omega)) (eo 126 l (by omega)) f2
  · refine Or.inr ⟨c, D, hc, e28, hD, e29, ?_⟩
    rw [e27, eo 124 l (by omega)]
    have : k = 0 ∨ k = 1 := by omega
    rcases this with q | q
    · exact Or.inl ⟨by rw [q]; rfl, ho q⟩
    · exact Or.inr (by rw [q]; rfl)
  · obtain ⟨g1, g2, g3⟩ := h.1 c' hc' l' hl'
    refine ⟨?_, g2, g3⟩
    have ew : aWs (aWaits a l k c D) c' l' = aWs a c' l' := aWs_eq (er 135 (by omega)) (er 136 (by omega))
    rw [ew]
    unfold nR cBz at g1 ⊢
    rw [aWaits_2]
    by_cases e : l' = l
    · subst e
      rw [hb, if_neg (fun q => q.1 rfl)] at g1
      have ec : (Int32.ofNat c = Int32.ofNat c') = (c = c') := i_eq (by omega) (by omega)
      simp only [e27, e28, ec]
      unfold d2 at g1
      unfold z2
      by_cases q : c = c'
      · subst q
        rw [if_pos ⟨by rw [i_ne1 (by omega)]; exact not_false, rfl⟩]
        rw [if_pos ⟨rfl, rfl⟩] at g1
        omega
      · rw [if_neg (fun g => q g.2)]
        omega
    · rw [eo 127 l' (by omega), eo 128 l' (by omega)]
      unfold z2
      omega
  · have g := h.2 l' hl'
    have ef : nFw (aWaits a l k c D) l' = nFw a l' := by
      unfold nFw nFc
      rw [aWaits_2, aLt_eq (er 135 (by omega)) (er 136 (by omega)) (er 140 (by omega)), aLt_eq (er 135 (by omega)) (er 136 (by omega)) (er 140 (by omega)), aLt_eq (er 135 (by omega)) (er 136 (by omega)) (er 140 (by omega)), aLt_eq (er 135 (by omega)) (er 136 (by omega)) (er 140 (by omega))]
    rw [ef]
    unfold due dn at *
    by_cases e : l' = l
    · subst e
      rw [hb, if_pos rfl] at g
      rw [e27, e29, if_pos rfl, if_neg (by rw [i_ne1 (by omega)]; exact not_false)]
      have : aNt (Int32.ofNat D) = D := i_tn (by omega)
      rw [this]
      unfold z1 at g
      omega
    · rw [eo 127 l' (by omega), eo 129 l' (by omega), if_neg e]
      unfold z1 at g
      exact g
/-- a line isn't busy any more -/
theorem V_free (hl : l < 16) (hc : c < 4) (hb : ¬ a.1 127 l = -1) (hbc : a.1 128 l = Int32.ofNat c) (h0 : a.1 129 l = Int32.ofNat 0) (fA : FI a) (h : CI a z2 z2 z1) :
    FI (aW a 127 l (-1)) ∧ CI (aW a 127 l (-1)) (d2 c l) z2 z1 := by
  obtain ⟨f1, f2, f3⟩ := fA.2.1 l hl
  have eo : ∀ r i, ¬ (r = 127 ∧ i = l) → (aW a 127 l (-1)).1 r i = a.1 r i := fun r i g => aW_o g
  have er : ∀ r, ¬ r = 127 → (aW a 127 l (-1)).1 r = a.1 r := fun r g => aW_1 g
  refine ⟨FI_line hl ⟨?_, ?_, Or.inl aW_e⟩ (fun r i g => eo r i (by omega)) rfl fA, fun c' hc' l' hl' => ?_, fun l' hl' => ?_⟩
  · unfold hF
    rw [er 124 (by decide), er 123 (by decide)]
    exact f1
  · exact kF_eq (by rw [er 125 (by decide)]) (by rw [er 126 (by decide)]) f2
  · obtain ⟨g1, g2, g3⟩ := h.1 c' hc' l' hl'
    refine ⟨?_, g2, g3⟩
    have ew : aWs (aW a 127 l (-1)) c' l' = aWs a c' l' := aWs_eq (er 135 (by omega)) (er 136 (by omega))
    rw [ew]
    unfold nR cBz at g1 ⊢
    rw [aW_2]
    unfold z2 at g1
    unfold d2
    by_cases e : l' = l
    · subst e
      have ec : (Int32.ofNat c = Int32.ofNat c') = (c = c') := i_eq (by omega) (by omega)
      simp only [hbc, ec] at g1
      rw [aW_e, if_neg (fun q => q.1 rfl)]
      by_cases q : c = c'
      · subst q
        rw [if_pos ⟨hb, rfl⟩] at g1
        rw [if_pos ⟨rfl, rfl⟩]
        omega
      · rw [if_neg (fun g => q g.1.symm)]
        omega
    · rw [eo 127 l' (by omega), eo 128 l' (by omega), show (if c' = c ∧ l' = l then 1 else 0) = 0 from if_neg (fun q => e q.2)]
      omega
  · have g := h.2 l' hl'
    have ef : nFw (aW a 127 l (-1)) l' = nFw a l' := by
      unfold nFw nFc
      rw [aW_2, aLt_eq (er 135 (by omega)) (er 136 (by omega)) (er 140 (by omega)), aLt_eq (er 135 (by omega)) (er 136 (by omega)) (er 140 (by omega)), aLt_eq (er 135 (by omega)) (er 136 (by omega)) (er 140 (by omega)), aLt_eq (er 135 (by omega)) (er 136 (by omega)) (er 140 (by omega))]
    rw [ef]
    unfold due at *
    by_cases e : l' = l
    · subst e
      rw [if_neg hb, h0] at g
      rw [aW_e, if_pos rfl]
      exact g
    · rw [eo 127 l' (by omega), eo 129 l' (by omega)]
      exact g
/-- what the home knows changes, of a line that isn't busy -/
theorem V_know {hR hP : Nat → Nat → Nat} {hW : Nat → Nat} (hl : l < 16) (hb : b.1 127 l = -1) (f1 : hF b l) (f2 : kF b l) (h : ∀ r i, ¬ (123 ≤ r ∧ r ≤ 126 ∧ i = l) → b.1 r i = a.1 r i) (hq : b.2 = a.2) (fA : FI a) (hC : CI a hR hP hW) : FI b ∧ CI b hR hP hW := by
  have er : ∀ r, ¬ (123 ≤ r ∧ r ≤ 126) → b.1 r = a.1 r := fun r g => funext fun i => h r i (by omega)
  exact ⟨FI_line hl ⟨f1, f2, Or.inl hb⟩ (fun r i g => h r i (by omega)) hq fA, CI_eq (er _ (by omega)) (er _ (by omega)) (er _ (by omega)) (er _ (by omega)) (er _ (by omega)) (er _ (by omega)) (er _ (by omega)) hq hC⟩
theorem V_cnt {hR hP : Nat → Nat → Nat} {hW : Nat → Nat} (fA : FI a) (hC : CI a hR hP hW) : FI (aC a k) ∧ CI (aC a k) hR hP hW := by
  have er : ∀ r, ¬ r = 153 → (aC a k).1 r = a.1 r := fun r g => aC_1 g
  exact ⟨⟨fun c hc => coreF_eq (fun r _ g _ => er r (by omega)) (fA.1 c hc), fun l hl => lineF_eq (fun r _ g => by rw [er r (by omega)]) (fA.2.1 l hl), fA.2.2⟩, CI_eq (er _ (by omega)) (er _ (by omega)) (er _ (by omega)) (er _ (by omega)) (er _ (by omega)) (er _ (by omega)) (er _ (by omega)) rfl hC⟩
theorem V_gives {what : Nat} (hl : l < 16) (hc : c < 4) (hw : 1 ≤ what) (hw2 : what < 4) (fA : FI a) (h : CI a (d2 c l) z2 z1) : FI (aGives a l c what) ∧ CI (aGives a l c what) z2 z2 z1 := by
  have hv := aV_nt (fA.2.1 l hl).1.2
  refine ⟨FI_send ⟨hl, hw2, hv.2, Or.inr (Or.inr (Or.inl ⟨by omega, by omega, Or.inl ⟨rfl, hw⟩⟩))⟩ fA, CI_send (by omega) h (fun c' l' hc' hl' => ?_) (fun c' l' hc' hl' => ?_) (fun l' hl' => ?_)⟩
  · unfold d2 z2 pD
    by_cases g : c' = c ∧ l' = l
    · rw [if_pos g]
      split <;> omega
    · rw [if_neg g, if_neg]
      · exact Nat.le_refl _
      · rintro (⟨q, -⟩ | ⟨q, q2⟩)
        · omega
        · simp only [decide_true, Bool.true_and, decide_eq_true_eq] at q2
          exact g ⟨by omega, q2.symm⟩
  · unfold z2
    rw [if_neg]
    · exact Nat.le_refl _
    · rintro (⟨q, -⟩ | ⟨q, q2⟩)
      · omega
      · exact absurd q2 (by unfold pN; simp)
  · unfold z1
    rw [if_neg (by omega)]
    exact Nat.le_refl _
theorem V_shares (hl : l < 16) (hc : c < 4) (hb : a.1 127 l = -1) {hR hP : Nat → Nat → Nat} {hW : Nat → Nat} (fA : FI a) (hC : CI a hR hP hW) : FI (aShares a l c) ∧ CI (aShares a l c) hR hP hW := by
  obtain ⟨f1, f2, f3⟩ := fA.2.1 l hl
  have key : ∃ b, (aShares a l c = b ∨ aShares a l c = aC b 9) ∧ (∀ r i, ¬ (125 ≤ r ∧ r ≤ 126 ∧ i = l) → b.1 r i = a.1 r i) ∧ b.2 = a.2 := by
    unfold aShares
    split
    · exact ⟨a, Or.inl rfl, fun r i _ => rfl, rfl⟩
    · split
      · exact ⟨a, Or.inl rfl, fun r i _ => rfl, rfl⟩
      · split
        · refine ⟨aW (aW a 126 l 1) 125 l (aSetB (a.1 125 l) c), Or.inr ?_, fun r i g => ?_, rfl⟩
          · rw [aW_aC (by decide)]
          · rw [aW_o (by omega), aW_o (by omega)]
        · exact ⟨aW a 125 l (aSetB (a.1 125 l) c), Or.inl rfl, fun r i g => aW_o (by omega), rfl⟩
  have hk := kF_shares hc f2
  obtain ⟨b, h1, h2, h3⟩ := key
  have hkb : kF b l := by
    rcases h1 with h1 | h1
    · rw [← h1]
      exact hk
    · rw [h1] at hk
      exact kF_eq (by rw [aC_1 (by decide)]) (by rw [aC_1 (by decide)]) hk
  have hv := V_know (a := a) (b := b) hl (by rw [h2 127 l (by omega)]; exact hb) ⟨by rw [h2 124 l (by omega)]; exact f1.1, by rw [h2 123 l (by omega)]; exact f1.2⟩ hkb (fun r i g => h2 r i (by omega)) h3 fA hC
  rcases h1 with h1 | h1
  · rw [h1]
    exact hv
  · rw [h1]
    exact V_cnt hv.1 hv.2
theorem V_forgets (hl : l < 16) (hb : a.1 127 l = -1) {hR hP : Nat → Nat → Nat} {hW : Nat → Nat} (fA : FI a) (hC : CI a hR hP hW) : FI (aForgets a l) ∧ CI (aForgets a l) hR hP hW := by
  obtain ⟨f1, f2, f3⟩ := fA.2.1 l hl
  have eo : ∀ r i, ¬ (125 ≤ r ∧ r ≤ 126 ∧ i = l) → (aForgets a l).1 r i = a.1 r i := fun r i g => by
    unfold aForgets
    rw [aW_o (by omega), aW_o (by omega)]
  exact V_know hl (by rw [eo 127 l (by omega)]; exact hb) ⟨by rw [eo 124 l (by omega)]; exact f1.1, by rw [eo 123 l (by omega)]; exact f1.2⟩ kF_forgets (fun r i g => eo r i (by omega)) rfl fA hC
theorem V_owner (hl : l < 16) (hb : a.1 127 l = -1) (ho : v = -1 ∨ ∃ o, o < 4 ∧ v = Int32.ofNat o) {hR hP : Nat → Nat → Nat} {hW : Nat → Nat} (fA : FI a) (hC : CI a hR hP hW) : FI (aW a 124 l v) ∧ CI (aW a 124 l v) hR hP hW := by
  obtain ⟨f1, f2, f3⟩ := fA.2.1 l hl
  exact V_know hl (by rw [aW_1 (by decide)]; exact hb) ⟨by rw [aW_e]; exact ho, by rw [aW_1 (by decide)]; exact f1.2⟩ (kF_eq (by rw [aW_1 (by decide)]) (by rw [aW_1 (by decide)]) f2) (fun r i g => aW_o (by omega)) rfl fA hC
theorem aSh_27 : (aShares a l c).1 127 = a.1 127 := aShares_1 (by decide) (by decide) (by decide)
theorem aFo_27 : (aForgets a l).1 127 = a.1 127 := aForgets_1 (by decide) (by decide)
/-- a request of a busy line is over, if no ANSWER is due any more -/
theorem V_ends (hl : l < 16) (hc : c < 4) (hbc : a.1 128 l = Int32.ofNat c) (hD : D ≤ 3) (h29 : a.1 129 l = Int32.ofNat D) (hk : (a.1 127 l = 0 ∧ ∃ o, o < 4 ∧ a.1 124 l = Int32.ofNat o) ∨ a.1 127 l = 1) (fA : FI a) (h : CI a z2 z2 z1) :
    FI (aEnds a l) ∧ CI (aEnds a l) z2 z2 z1 := by
  have n1 : aNt (Int32.ofNat c) = c := i_tn (by omega)
  have g1 : (Int32.ofNat D ≤ 0) = (D ≤ 0) := i_le (m := 0) (by omega) (by decide)
  have hb : ¬ a.1 127 l = -1 := by
    rcases hk with ⟨q, -⟩ | q <;> rw [q] <;> decide
  unfold aEnds
  rw [h29, hbc, n1]
  by_cases q : D ≤ 0
  · have : D = 0 := by omega
    subst this
    rw [if_pos (by rw [g1]; exact q)]
    obtain ⟨v1, v2⟩ := V_free hl hc hb hbc h29 fA h
    have b1 : (aW a 127 l (-1)).1 127 l = -1 := aW_e
    rcases hk with ⟨k1, o, ho, ho2⟩ | k1
    · have n2 : aNt (Int32.ofNat o) = o := i_tn (by omega)
      rw [if_pos k1, ho2, n2]
      unfold aEndR
      obtain ⟨v3, v4⟩ := V_owner (v := -1) hl b1 (Or.inl rfl) v1 v2
      have b2 : (aW (aW a 127 l (-1)) 124 l (-1)).1 127 l = -1 := by rw [aW_1 (by decide)]; exact b1
      obtain ⟨v5, v6⟩ := V_forgets hl b2 v3 v4
      have b3 : (aForgets (aW (aW a 127 l (-1)) 124 l (-1)) l).1 127 l = -1 := by rw [aFo_27]; exact b2
      obtain ⟨v7, v8⟩ := V_shares hl ho b3 v5 v6
      have b4 : (aShares (aForgets (aW (aW a 127 l (-1)) 124 l (-1)) l) l o).1 127 l = -1 := by rw [aSh_27]; exact b3
      obtain ⟨v9, v10⟩ := V_shares hl hc b4 v7 v8
      exact V_gives hl hc (by decide) (by decide) v9 v10
    · rw [if_neg (by rw [k1]; decide)]
      unfold aEndW
      obtain ⟨v3, v4⟩ := V_owner (v := Int32.ofNat c) hl b1 (Or.inr ⟨c, hc, rfl⟩) v1 v2
      have b2 : (aW (aW a 127 l (-1)) 124 l (Int32.ofNat c)).1 127 l = -1 := by rw [aW_1 (by decide)]; exact b1
      obtain ⟨v5, v6⟩ := V_forgets hl b2 v3 v4
      exact V_gives hl hc (by decide) (by decide) v5 v6
  · rw [if_neg (by rw [g1]; exact q)]
    exact ⟨fA, h⟩
/-- a FORWARD is sent -/
theorem V_fwd {hW : Nat → Nat} (hl : l < 16) (hc : c < 4) (ho : o < 4) (hk : k = 3 ∨ k = 4 ∨ k = 5) (hW2 : ∀ l', hW l' + (if l' = l then 1 else 0) ≤ D * (if l' = l then 1 else 0)) (fA : FI a) (h : CI a z2 z2 (dn l D)) :
    FI (aSend a (5 + o) k l c 0) ∧ CI (aSend a (5 + o) k l c 0) z2 z2 hW := by
  refine ⟨FI_send ⟨hl, hc, show 0 < 1000 by decide, Or.inr (Or.inl ⟨by omega, by omega, hk⟩)⟩ fA, CI_send (by omega) h (fun c' l' hc' hl' => ?_) (fun c' l' hc' hl' => ?_) (fun l' hl' => ?_)⟩
  · unfold z2
    rw [if_neg (by omega)]
    exact Nat.le_refl _
  · unfold z2
    rw [if_neg (by omega)]
    exact Nat.le_refl _
  · have := hW2 l'
    unfold dn
    by_cases g : l' = l
    · subst g
      rw [if_pos ⟨Or.inl (by omega), rfl⟩, if_pos rfl]
      rw [if_pos rfl] at this
      omega
    · rw [if_neg (fun q => g q.2.symm), if_neg g]
      rw [if_neg g] at this
      omega
theorem V_fwd1 (hl : l < 16) (hc : c < 4) (ho : o < 4) (hk : k = 3 ∨ k = 4 ∨ k = 5) (fA : FI a) (h : CI a z2 z2 (dn l (D + 1))) : FI (aSend a (5 + o) k l c 0) ∧ CI (aSend a (5 + o) k l c 0) z2 z2 (dn l D) := by
  refine V_fwd hl hc ho hk (fun l' => ?_) fA h
  unfold dn
  by_cases g : l' = l
  · rw [if_pos g, if_pos g]
    omega
  · rw [if_neg g, if_neg g]
    omega
theorem dn_0 : dn l 0 = z1 := by
  funext l'
  unfold dn z1
  split <;> rfl
theorem aSend_wa : aWaits (aSend a q k l c n) l' w c' N = aSend (aWaits a l' w c' N) q k l c n := by
  unfold aWaits
  rw [aSend_aW (by decide), aSend_aW (by decide), aSend_aW (by decide)]
theorem aK1_wa : aWaits (aK1 a l c p) l w c' N = aK1 (aWaits a l w c' N) l c p := by
  have e : aKc (aWaits a l w c' N) l c p = aKc a l c p := by
    unfold aKc
    rw [aWaits_1 (by decide) (by decide) (by decide), aWaits_1 (by decide) (by decide) (by decide)]
  unfold aK1
  rw [e]
  split
  · exact aSend_wa
  · rfl
theorem aKc_w : aKc (aWaits a l w c' N) l c p = aKc a l c p := by
  unfold aKc
  rw [aWaits_1 (by decide) (by decide) (by decide), aWaits_1 (by decide) (by decide) (by decide)]
theorem aKn_w : aKn1 (aWaits a l w c' N) l c p = aKn1 a l c p := by
  unfold aKn1
  rw [aKc_w]
theorem V_k1 (hl : l < 16) (hc : c < 4) (hp : p < 4) (fA : FI a) (h : CI a z2 z2 (dn l (aKn1 a l c p + D))) : FI (aK1 a l c p) ∧ CI (aK1 a l c p) z2 z2 (dn l D) := by
  unfold aK1
  unfold aKn1 at h
  by_cases g : aKc a l c p = true
  · rw [if_pos g] at h
    rw [if_pos g]
    rw [Nat.add_comm] at h
    exact V_fwd1 hl hc hp (by omega) fA h
  · rw [if_neg g] at h
    rw [if_neg g]
    rw [Nat.zero_add] at h
    exact ⟨fA, h⟩
theorem aKn_3 (hc : c < 4) : aKn a l c ≤ 3 := by
  have e : aKn1 a l c c = 0 := by
    unfold aKn1 aKc
    rw [decide_eq_true rfl]
    rfl
  have b : ∀ p, aKn1 a l c p ≤ 1 := by
    intro p
    unfold aKn1
    split <;> omega
  have := b 0
  have := b 1
  have := b 2
  have := b 3
  unfold aKn
  have : c = 0 ∨ c = 1 ∨ c = 2 ∨ c = 3 := by omega
  rcases this with q | q | q | q <;> subst q <;> omega
/-- a request of a line that isn't busy -/
theorem V_does {kd : Nat} (hl : l < 16) (hc : c < 4) (hk : kd < 3) (hn : n < 1000) (hb : a.1 127 l = -1) (fA : FI a) (h : CI a (if kd < 2 then d2 c l else z2) (if kd < 2 then z2 else d2 c l) z1) :
    FI (aDoes a kd l c n) ∧ CI (aDoes a kd l c n) z2 z2 z1 := by
  obtain ⟨f1, f2, f3⟩ := fA.2.1 l hl
  unfold aDoes
  by_cases k2 : kd = 2
  · subst k2
    rw [if_pos rfl]
    rw [if_neg (by decide), if_neg (by decide)] at h
    unfold aDoP
    have key : FI (if a.1 124 l = Int32.ofNat c then aW (aW a 123 l (Int32.ofNat n)) 124 l (-1) else a) ∧ CI (if a.1 124 l = Int32.ofNat c then aW (aW a 123 l (Int32.ofNat n)) 124 l (-1) else a) z2 (d2 c l) z1 := by
      split
      · refine V_know (a := a) hl ?_ ⟨?_, ?_⟩ (kF_eq ?_ ?_ f2) (fun r i g => ?_) rfl fA h
        · rw [aW_1 (by decide), aW_1 (by decide)]
          exact hb
        · rw [aW_e]
          exact Or.inl rfl
        · rw [aW_1 (by decide), aW_e]
          exact aV_of hn
        · rw [aW_1 (by decide), aW_1 (by decide)]
        · rw [aW_1 (by decide), aW_1 (by decide)]
        · rw [aW_o (by omega), aW_o (by omega)]
      · exact ⟨fA, h⟩
    refine ⟨FI_send ⟨hl, hc, show 0 < 1000 by decide, Or.inr (Or.inr (Or.inl ⟨by omega, by omega, Or.inr rfl⟩))⟩ key.1, CI_send (by omega) key.2 (fun c' l' hc' hl' => ?_) (fun c' l' hc' hl' => ?_) (fun l' hl' => ?_)⟩
    · unfold z2
      rw [if_neg]
      · exact Nat.le_refl _
      · rintro (⟨q, -⟩ | ⟨q, q2⟩)
        · omega
        · exact absurd q2 (by unfold pD; simp)
    · unfold d2 z2 pN
      by_cases g : c' = c ∧ l' = l
      · rw [if_pos g]
        split <;> omega
      · rw [if_neg g, if_neg]
        · exact Nat.le_refl _
        · rintro (⟨q, -⟩ | ⟨q, q2⟩)
          · omega
          · simp only [decide_true, Bool.true_and, decide_eq_true_eq] at q2
            exact g ⟨by omega, q2.symm⟩
    · unfold z1
      rw [if_neg (by omega)]
      exact Nat.le_refl _
  · have k3 : kd < 2 := by omega
    rw [if_neg k2]
    rw [if_pos k3, if_pos k3] at h
    by_cases q : a.1 124 l = -1 ∨ a.1 124 l = Int32.ofNat c
    · rw [if_pos q]
      by_cases k0 : kd = 0
      · rw [if_pos k0]
        unfold aDoR
        split
        · obtain ⟨v1, v2⟩ := V_owner (v := Int32.ofNat c) hl hb (Or.inr ⟨c, hc, rfl⟩) fA h
          exact V_gives hl hc (by decide) (by decide) v1 v2
        · obtain ⟨v1, v2⟩ := V_shares hl hc hb fA h
          exact V_gives hl hc (by decide) (by decide) v1 v2
      · rw [if_neg k0]
        have k1 : kd = 1 := by omega
        subst k1
        unfold aDoW
        have hK := aKn_3 (a := a) (l := l) hc
        obtain ⟨v1, v2⟩ := V_wait (k := 1) (D := aKn a l c) hl hc (by decide) hK hb (fun g => by cases g) fA h
        have eK : aWaits (aKills a l c) l 1 c (aKn a l c) = aKills (aWaits a l 1 c (aKn a l c)) l c := by
          unfold aKills
          rw [aK1_wa, aK1_wa, aK1_wa, aK1_wa]
        rw [eK]
        have eN : aKn a l c = aKn1 (aWaits a l 1 c (aKn a l c)) l c 0 + (aKn1 (aWaits a l 1 c (aKn a l c)) l c 1 + (aKn1 (aWaits a l 1 c (aKn a l c)) l c 2 + (aKn1 (aWaits a l 1 c (aKn a l c)) l c 3 + 0))) := by
          rw [aKn_w, aKn_w, aKn_w, aKn_w]
          unfold aKn
          omega
        have e29 : (aKills (aWaits a l 1 c (aKn a l c)) l c).1 129 l = Int32.ofNat (aKn a l c) := by
          rw [aKills_1 (by decide)]
          unfold aWaits
          rw [aW_e]
        have e28 : (aKills (aWaits a l 1 c (aKn a l c)) l c).1 128 l = Int32.ofNat c := by
          rw [aKills_1 (by decide)]
          unfold aWaits
          rw [aW_1 (by decide), aW_e]
        have e27 : (aKills (aWaits a l 1 c (aKn a l c)) l c).1 127 l = 1 := by
          rw [aKills_1 (by decide)]
          unfold aWaits
          rw [aW_1 (by decide), aW_1 (by decide), aW_e]
          rfl
        have key : FI (aKills (aWaits a l 1 c (aKn a l c)) l c) ∧ CI (aKills (aWaits a l 1 c (aKn a l c)) l c) z2 z2 z1 := by
          generalize hB : aWaits a l 1 c (aKn a l c) = B at *
          rw [eN] at v2
          obtain ⟨w1, w2⟩ := V_k1 (p := 0) hl hc (by decide) v1 v2
          have w2 : CI (aK1 B l c 0) z2 z2 (dn l (aKn1 (aK1 B l c 0) l c 1 + (aKn1 B l c 2 + (aKn1 B l c 3 + 0)))) := by rw [aKn1_1]; exact w2
          obtain ⟨w3, w4⟩ := V_k1 (p := 1) hl hc (by decide) w1 w2
          have w4 : CI (aK1 (aK1 B l c 0) l c 1) z2 z2 (dn l (aKn1 (aK1 (aK1 B l c 0) l c 1) l c 2 + (aKn1 B l c 3 + 0))) := by rw [aKn1_1, aKn1_1]; exact w4
          obtain ⟨w5, w6⟩ := V_k1 (p := 2) hl hc (by decide) w3 w4
          have w6 : CI (aK1 (aK1 (aK1 B l c 0) l c 1) l c 2) z2 z2 (dn l (aKn1 (aK1 (aK1 (aK1 B l c 0) l c 1) l c 2) l c 3 + 0)) := by rw [aKn1_1, aKn1_1, aKn1_1]; exact w6
          obtain ⟨w7, w8⟩ := V_k1 (p := 3) hl hc (by decide) w5 w6
          rw [dn_0] at w8
          exact ⟨w7, w8⟩
        exact V_ends hl hc e28 hK e29 (Or.inr e27) key.1 key.2
    · rw [if_neg q]
      rcases f1.1 with ho | ⟨o, ho, ho2⟩
      · exact absurd (Or.inl ho) q
      · have n2 : aNt (Int32.ofNat o) = o := i_tn (by omega)
        unfold aDoO
        rw [ho2, n2, aSend_wa]
        obtain ⟨v1, v2⟩ := V_wait (k := kd) (D := 1) hl hc k3 (by decide) hb (fun _ => ⟨o, ho, ho2⟩) fA h
        have := V_fwd1 (k := if kd = 0 then 3 else 4) (D := 0) (o := o) hl hc ho (by split <;> omega) v1 v2
        rw [dn_0] at this
        exact this
end EPV
