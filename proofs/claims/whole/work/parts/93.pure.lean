/-! the invariant: the cores' calls keep it -/
section EPV
variable {a a' b X : aS} {r i l l' q q' c c' k n p p' w z N o D K : Nat} {v t x y s : Int32} {m : aM} {L ms : List aM}
/-- cells that are not counted change -/
theorem I_core (hI : Inv a) (hh : ∀ c, c < 4 → coreF b c) (h : ∀ r, (123 ≤ r ∧ r ≤ 129) ∨ r = 135 ∨ r = 136 ∨ r = 140 ∨ r = 141 → b.1 r = a.1 r) (hq : b.2 = a.2) : Inv b :=
  ⟨FI_core hh (fun r g1 g2 => h r (by omega)) hq hI.1, CI_eq (h _ (by decide)) (h _ (by decide)) (h _ (by decide)) (h _ (by decide)) (h _ (by decide)) (h _ (by decide)) (h _ (by decide)) hq hI.2.1, rE_of (h _ (by decide)) (fun l => by rw [hq]) hI.2.2⟩
theorem I_cnt (hI : Inv a) : Inv (aC a k) :=
  I_core hI (fun c hc => coreF_eq (fun r _ g _ => aC_1 (by omega)) (hI.1.1 c hc)) (fun r hr => aC_1 (by omega)) rfl
theorem I_use {P : Nat} (hI : Inv a) : Inv (aUse a P) :=
  I_core hI (fun c hc => coreF_eq (fun r g1 g g3 => aUse_r (by omega) (by omega)) (hI.1.1 c hc)) (fun r hr => aUse_r (by omega) (by omega)) rfl
/-- strides -/
theorem I_151 (hl : l < 16) (hI : Inv a) : Inv (aW a 151 c (Int32.ofNat l)) := by
  have er : ∀ r, ¬ r = 151 → (aW a 151 c (Int32.ofNat l)).1 r = a.1 r := fun r g => aW_1 g
  refine I_core hI (fun c' hc' => ?_) (fun r hr => er r (by omega)) rfl
  obtain ⟨h1, h2, h3, h4, h5, h6, h7, h8⟩ := hI.1.1 c' hc'
  refine ⟨cF_eq (er _ (by decide)) (er _ (by decide)) (er _ (by decide)) h1, nF_eq (er _ (by decide)) (er _ (by decide)) (er _ (by decide)) h2, yF_eq (er _ (by decide)) h3, lF_eq (er _ (by decide)) h4, sF_eq (er _ (by decide)) (er _ (by decide)) h5, tF_eq (er _ (by decide)) (er _ (by decide)) (er _ (by decide)) (er _ (by decide)) (er _ (by decide)) h6,
    bF_eq (er _ (by decide)) (er _ (by decide)) (er _ (by decide)) h7, ?_⟩
  by_cases g : c' = c
  · rw [g]
    exact Or.inr ⟨l, hl, aW_e⟩
  · unfold gF2
    rw [aW_k g, er 152 (by decide)]
    exact h8
theorem I_152 (hl : l < 16) (hI : Inv a) : Inv (aW (aW a 152 c y) 151 c (Int32.ofNat l)) := by
  have er : ∀ r, ¬ r = 151 → ¬ r = 152 → (aW (aW a 152 c y) 151 c (Int32.ofNat l)).1 r = a.1 r := fun r g g' => (aW_1 g).trans (aW_1 g')
  refine I_core hI (fun c' hc' => ?_) (fun r hr => er r (by omega) (by omega)) rfl
  obtain ⟨h1, h2, h3, h4, h5, h6, h7, h8⟩ := hI.1.1 c' hc'
  refine ⟨cF_eq (er _ (by decide) (by decide)) (er _ (by decide) (by decide)) (er _ (by decide) (by decide)) h1, nF_eq (er _ (by decide) (by decide)) (er _ (by decide) (by decide)) (er _ (by decide) (by decide)) h2, yF_eq (er _ (by decide) (by decide)) h3, lF_eq (er _ (by decide) (by decide)) h4, sF_eq (er _ (by decide) (by decide)) (er _ (by decide) (by decide)) h5, tF_eq (er _ (by decide) (by decide)) (er _ (by decide) (by decide)) (er _ (by decide) (by decide)) (er _ (by decide) (by decide)) (er _ (by decide) (by decide)) h6,
    bF_eq (er _ (by decide) (by decide)) (er _ (by decide) (by decide)) (er _ (by decide) (by decide)) h7, ?_⟩
  by_cases g : c' = c
  · rw [g]
    exact Or.inr ⟨l, hl, aW_e⟩
  · unfold gF2
    rw [aW_k g, aW_1 (by decide), aW_1 (by decide), aW_k g]
    exact h8
theorem I_rd (hc : c < 4) (hl : l < 16) (hI : Inv a) : Inv (aRd a c l) := by
  unfold aRd
  split
  · exact I_151 hl hI
  · split
    · next h p hA =>
      have hI2 := I_152 (c := c) (y := Int32.ofNat l - a.1 151 c) hl hI
      have e : aW (aC (aBeg (aW a 152 c (Int32.ofNat l - a.1 151 c)) c (4 * c + p) h false) 6) 151 c (Int32.ofNat l) = aC (aBeg (aW (aW a 152 c (Int32.ofNat l - a.1 151 c)) 151 c (Int32.ofNat l)) c (4 * c + p) h false) 6 := by
        rw [aW_aC (by decide), ← aBeg_aW (r' := 151) (by decide) (by decide) (by decide) (by decide) (by decide)]
      rw [e]
      refine I_cnt ?_
      have hbe : ∀ r, ¬ r = 151 → ¬ r = 152 → (aW (aW a 152 c (Int32.ofNat l - a.1 151 c)) 151 c (Int32.ofNat l)).1 r = a.1 r := fun r g g' => (aW_1 g).trans (aW_1 g')
      generalize aW (aW a 152 c (Int32.ofNat l - a.1 151 c)) 151 c (Int32.ofNat l) = Y at *
      unfold aAhd at hA
      split at hA
      · next hcnd =>
        obtain ⟨d, hd, e3⟩ := i_in (b := 16) (by decide) hcnd.2.2.1 hcnd.2.2.2
        have e4 : aNt (Int32.ofNat d) = d := i_tn (by omega)
        rw [e3, e4] at hA
        cases hP : aPl a c d with
        | some p' =>
          rw [hP] at hA
          cases hA
        | none =>
          rw [hP] at hA
          dsimp only at hA
          split at hA
          · next h41 =>
            cases hE : aEp a c with
            | none =>
              rw [hE] at hA
              cases hA
            | some p' =>
              rw [hE] at hA
              cases hA
              have := I_ask (w := false) hc hd hI2
              unfold aAsk at this
              rw [hbe 141 (by decide) (by decide), if_pos h41, aPl_eq (hbe 135 (by decide) (by decide)) (hbe 136 (by decide) (by decide)), hP, aEp_eq (hbe 136 (by decide) (by decide)), hE] at this
              exact this
          · cases hA
      · cases hA
    · exact I_152 hl hI
theorem I_miss (hc : c < 4) (hl : l < 16) (hI : Inv a) : Inv (aMiss a c l) := by
  unfold aMiss
  split
  · exact I_rd hc hl (I_ask hc hl hI)
  · exact I_ask hc hl hI
/-- a set of lines grows by one that is allowed -/
theorem tF_pop (hl : l < 16) (ho : ¬ a.1 145 c = 0) (hf : aFull a c l = false) (h6 : tF a c) : aPop (aSetB (a.1 148 c ||| a.1 149 c) l) ≤ 4 := by
  by_cases q : aBit (a.1 148 c ||| a.1 149 c) l = true
  · rw [set_id hl q]
    exact (h6.2.2 ho).2
  · have q' : aBit (a.1 148 c ||| a.1 149 c) l = false := by
      cases g : aBit (a.1 148 c ||| a.1 149 c) l with
      | false => rfl
      | true => exact absurd g q
    rw [pop_set hl q']
    have := (h6.2.2 ho).2
    unfold aFull aIsIn at hf
    rw [q', decide_eq_false ho] at hf
    simp only [Bool.not_false, Bool.true_and, Bool.and_false, decide_eq_false_iff_not] at hf
    omega
theorem I_hit {P : Nat} (hl : l < 16) (hf : aFull a c l = false) (hI : Inv a) : Inv (aHitS a c l P) := by
  unfold aHitS
  have h1 : Inv (aC (aUse a P) 0) := I_cnt (I_use hI)
  split
  · exact h1
  · next ho =>
    have er : ∀ r, ¬ r = 148 → (aW (aC (aUse a P) 0) 148 c (aSetB (a.1 148 c) l)).1 r = (aC (aUse a P) 0).1 r := fun r g => aW_1 g
    refine I_core h1 (fun c' hc' => ?_) (fun r hr => er r (by omega)) rfl
    obtain ⟨h1, h2, h3, h4, h5, h6, h7, h8⟩ := h1.1.1 c' hc'
    refine ⟨cF_eq (er _ (by decide)) (er _ (by decide)) (er _ (by decide)) h1, nF_eq (er _ (by decide)) (er _ (by decide)) (er _ (by decide)) h2, yF_eq (er _ (by decide)) h3, lF_eq (er _ (by decide)) h4, sF_eq (er _ (by decide)) (er _ (by decide)) h5, ?_,
      bF_eq (er _ (by decide)) (er _ (by decide)) (er _ (by decide)) h7, gF2_eq (er _ (by decide)) (er _ (by decide)) h8⟩
    have h6' := (hI.1.1 c' hc').2.2.2.2.2.1
    have e0 : ∀ r, 142 ≤ r → r ≤ 149 → (aC (aUse a P) 0).1 r = a.1 r := fun r g1 g2 => by rw [aC_1 (by omega), aUse_r (by omega) (by omega)]
    unfold tF
    rw [er 145 (by decide), er 146 (by decide), er 142 (by decide), er 149 (by decide), e0 145 (by decide) (by decide), e0 146 (by decide) (by decide), e0 142 (by decide) (by decide), e0 149 (by decide) (by decide)]
    refine ⟨h6'.1, h6'.2.1, fun g => ⟨(h6'.2.2 g).1, ?_⟩⟩
    by_cases e : c' = c
    · subst e
      rw [aW_e, set_or hl]
      exact tF_pop hl ho hf h6'
    · rw [aW_k e, e0 148 (by decide) (by decide)]
      exact (h6'.2.2 g).2
/-- a line that is owned changes -/
theorem I_chg (hc : c < 4) (hl : l < 16) (hpl : aPl a c l = some p) (ho : aOwn (a.1 136 (4 * c + p)) = true) (hv : aV v) (hI : Inv a) : Inv (aChg a (4 * c + p) v) := by
  obtain ⟨hA, hC, hE⟩ := hI
  obtain ⟨hp, hat⟩ := aPl_lt hpl
  obtain ⟨f1, f2, f3, f4, f5, f6, f7, f8⟩ := hA.1 c hc
  have hvv := own_val ho
  have hn := val_ne hvv
  have hN0 := nF_0 f2 hp hn.2
  have y1 : (aChg a (4 * c + p) v).1 136 (4 * c + p) = 3 := by
    unfold aChg
    rw [aUse_r (by decide) (by decide), aW_1 (by decide), aW_e]
  have y2 : (aChg a (4 * c + p) v).1 137 (4 * c + p) = v := by
    unfold aChg
    rw [aUse_r (by decide) (by decide), aW_e]
  have hA2 : FI (aChg a (4 * c + p) v) := by
    refine FI_place (a := a) hc hp (fun r i g1 g2 => ?_) rfl ?_ ?_ ?_ hA
    · unfold aChg aUse
      rw [aW_o (by omega), aW_o (by omega), aW_o (by omega), aW_o (by omega)]
    · rw [y1, y2, aChg_r (by decide) (by decide) (by decide) (by decide)]
      exact ⟨Or.inr (Or.inr (Or.inr (Or.inl rfl))), fun _ => ⟨hn.1, rfl⟩, fun _ => hv⟩
    · rw [y1, aChg_r (by decide) (by decide) (by decide) (by decide), aChg_r (by decide) (by decide) (by decide) (by decide)]
      exact ⟨Or.inl hN0.1, fun _ => hN0.2⟩
    · rw [aChg_r (by decide) (by decide) (by decide) (by decide)]
      exact Or.inl hN0.2
  have e6 : ∀ i, ¬ i = 4 * c + p → (aChg a (4 * c + p) v).1 136 i = a.1 136 i := fun i g => by
    unfold aChg
    rw [aUse_r (by decide) (by decide), aW_1 (by decide), aW_k g]
  have hC2 : CI (aChg a (4 * c + p) v) z2 z2 z1 := by
    refine CI_settle hc hl f1 (hA2.1 c hc).1 hpl (aChg_r (by decide) (by decide) (by decide) (by decide)) e6 (by rw [y1]; decide) (fun i g => by rw [aChg_r (by decide) (by decide) (by decide) (by decide)]) (aChg_r (by decide) (by decide) (by decide) (by decide)) (aChg_r (by decide) (by decide) (by decide) (by decide)) (aChg_r (by decide) (by decide) (by decide) (by decide)) (aChg_r (by decide) (by decide) (by decide) (by decide)) rfl hC rfl ?_ (fun _ _ _ => Nat.le_refl _) (fun l' => ?_)
    · unfold aWs
      rw [hpl]
      dsimp only
      rw [hn.2]
      exact Nat.le_refl _
    · have : aLt (aChg a (4 * c + p) v) c l = 0 := by
        unfold aLt
        rw [aChg_pl hn.1, hpl]
        dsimp only
        rw [aChg_r (by decide) (by decide) (by decide) (by decide), hN0.2, if_pos rfl]
      rw [this]
      split <;> omega
  exact ⟨hA2, hC2, rE_of (aChg_r (by decide) (by decide) (by decide) (by decide)) (fun l => rfl) hE⟩
/-! how much is used -/
theorem u_ask {w : Bool} : (aAsk a c l w).2.1 122 18 = a.1 122 18 := by rw [aAsk_1 (by decide) (by decide) (by decide) (by decide) (by decide) (by decide)]
theorem aRd_u : (aRd a c l).1 122 18 = a.1 122 18 := by
  unfold aRd
  split
  · rw [aW_1 (by decide)]
  · split
    · rw [aW_1 (by decide), aC_1 (by decide), aBeg_1 (by decide) (by decide) (by decide) (by decide) (by decide), aW_1 (by decide)]
    · rw [aW_1 (by decide), aW_1 (by decide)]
theorem aMiss_u : (aMiss a c l).1 122 18 = a.1 122 18 := by
  unfold aMiss
  split
  · rw [aRd_u, u_ask]
  · exact u_ask
theorem aUse_u {P : Nat} : (aUse a P).1 122 18 = a.1 122 18 + 1 := by
  unfold aUse
  rw [aW_1 (by decide), aW_e]
theorem aChg_uu {P : Nat} : (aChg a P v).1 122 18 = a.1 122 18 + 1 := by
  unfold aChg
  rw [aUse_u, aW_1 (by decide), aW_1 (by decide)]
theorem I_load (hc : c < 4) (hl : l < 16) (hI : Inv a) (hu : uU a K) : Inv (aLoad a c l).2.2 ∧ uU (aLoad a c l).2.2 (K + 1) := by
  unfold aLoad
  cases hf : aFull a c l with
  | true => exact ⟨hI, uU_le hu (by omega)⟩
  | false =>
    rw [if_neg (by decide)]
    split
    · exact ⟨hI, uU_le hu (by omega)⟩
    · split
      · split
        · split
          · exact ⟨I_miss hc hl hI, uU_1 hu (Or.inl aMiss_u)⟩
          · refine ⟨I_hit hl hf hI, uU_1 hu (Or.inr ?_)⟩
            unfold aHitS
            split
            · rw [aC_1 (by decide), aUse_u]
            · rw [aW_1 (by decide), aC_1 (by decide), aUse_u]
        · exact ⟨I_miss hc hl hI, uU_1 hu (Or.inl aMiss_u)⟩
      · exact ⟨hI, uU_le hu (by omega)⟩
theorem I_store (hc : c < 4) (hl : l < 16) (hI : Inv a) (hu : uU a K) : Inv (aStore a c l v).2.2 ∧ uU (aStore a c l v).2.2 (K + 1) := by
  unfold aStore
  by_cases hv : v < 0 ∨ 999 < v
  · rw [if_pos hv]
    exact ⟨hI, uU_le hu (by omega)⟩
  rw [if_neg hv]
  have hvv : aV v := by
    obtain ⟨n, hn, e⟩ := i_in (x := v) (b := 1000) (by decide) (fun g => hv (Or.inl g)) (by
      have : ¬ 999 < v := fun g => hv (Or.inr g)
      rw [Int32.lt_iff_toInt_lt] at this ⊢
      have h1 : (999 : Int32).toInt = 999 := by decide
      have h2 : (Int32.ofNat 1000).toInt = 1000 := by decide
      rw [h1] at this
      rw [h2]
      omega)
    exact ⟨n, hn, e⟩
  split
  · next ho =>
    split
    · exact ⟨hI, uU_le hu (by omega)⟩
    · next hne =>
      refine ⟨?_, uU_1 hu (Or.inl ?_)⟩
      · obtain ⟨n, hn, en, hB2⟩ := (hI.1.1 c hc).2.2.2.2.2.2.1
        have nn : aNt (Int32.ofNat n) = n := i_tn (by omega)
        rw [en, nn, p1]
        have hn4 : n < 4 := by
          rw [en, show (Int32.ofNat n = 4) = (n = 4) from i_eq (m := 4) (by omega) (by decide)] at hne
          omega
        have er : ∀ r, ¬ r = 142 → ¬ r = 143 → ¬ r = 144 → (aW (aW (aW a 143 (4 * c + n) (Int32.ofNat l)) 144 (4 * c + n) v) 142 c (Int32.ofNat (n + 1))).1 r = a.1 r := fun r g1 g2 g3 => by rw [aW_1 g1, aW_1 g3, aW_1 g2]
        refine I_core hI (fun c' hc' => ?_) (fun r hr => er r (by omega) (by omega) (by omega)) rfl
        obtain ⟨h1, h2, h3, h4, h5, h6, h7, h8⟩ := hI.1.1 c' hc'
        refine ⟨cF_eq (er _ (by decide) (by decide) (by decide)) (er _ (by decide) (by decide) (by decide)) (er _ (by decide) (by decide) (by decide)) h1, nF_eq (er _ (by decide) (by decide) (by decide)) (er _ (by decide) (by decide) (by decide)) (er _ (by decide) (by decide) (by decide)) h2, yF_eq (er _ (by decide) (by decide) (by decide)) h3, lF_eq (er _ (by decide) (by decide) (by decide)) h4, sF_eq (er _ (by decide) (by decide) (by decide)) (er _ (by decide) (by decide) (by decide)) h5, ?_, ?_, gF2_eq (er _ (by decide) (by decide) (by decide)) (er _ (by decide) (by decide) (by decide)) h8⟩
        · unfold tF
          rw [er 145 (by decide) (by decide) (by decide), er 146 (by decide) (by decide) (by decide), er 148 (by decide) (by decide) (by decide), er 149 (by decide) (by decide) (by decide)]
          refine ⟨h6.1, h6.2.1, fun g => ?_⟩
          by_cases e : c' = c
          · rw [e] at g
            exact absurd ho g
          · rw [aW_k e, aW_1 (by decide), aW_1 (by decide)]
            exact h6.2.2 g
        · by_cases e : c' = c
          · subst e
            refine ⟨n + 1, by omega, aW_e, fun k hk => ?_⟩
            rw [aW_1 (r' := 143) (by decide), aW_1 (r' := 143) (by decide), aW_1 (r' := 144) (by decide)]
            by_cases g : k = n
            · subst g
              rw [aW_e, aW_e]
              exact ⟨⟨l, hl, rfl⟩, hvv⟩
            · rw [aW_k (by omega), aW_k (by omega), aW_1 (by decide)]
              exact hB2 k (by omega)
          · obtain ⟨n', hn', en', hB'⟩ := h7
            refine ⟨n', hn', by rw [aW_k e, aW_1 (by decide), aW_1 (by decide)]; exact en', fun k hk => ?_⟩
            rw [aW_1 (r' := 143) (by decide), aW_1 (r' := 143) (by decide), aW_1 (r' := 144) (by decide), aW_k (by omega), aW_k (by omega), aW_1 (by decide)]
            exact hB' k hk
      · rw [aW_1 (by decide), aW_1 (by decide), aW_1 (by decide)]
  · next ho =>
    cases hf : aFull a c l with
    | true => exact ⟨hI, uU_le hu (by omega)⟩
    | false =>
      rw [if_neg (by decide)]
      refine ⟨?_, uU_1 hu (Or.inl ?_)⟩
      · have er : ∀ r, ¬ r = 149 → ¬ r = 150 → (aW (aW a 149 c (aSetB (a.1 149 c) l)) 150 (16 * c + l) v).1 r = a.1 r := fun r g1 g2 => by rw [aW_1 g2, aW_1 g1]
        refine I_core hI (fun c' hc' => ?_) (fun r hr => er r (by omega) (by omega)) rfl
        obtain ⟨h1, h2, h3, h4, h5, h6, h7, h8⟩ := hI.1.1 c' hc'
        refine ⟨cF_eq (er _ (by decide) (by decide)) (er _ (by decide) (by decide)) (er _ (by decide) (by decide)) h1, nF_eq (er _ (by decide) (by decide)) (er _ (by decide) (by decide)) (er _ (by decide) (by decide)) h2, yF_eq (er _ (by decide) (by decide)) h3, lF_eq (er _ (by decide) (by decide)) h4, ?_, ?_,
          bF_eq (er _ (by decide) (by decide)) (er _ (by decide) (by decide)) (er _ (by decide) (by decide)) h7, gF2_eq (er _ (by decide) (by decide)) (er _ (by decide) (by decide)) h8⟩
        · intro l' hl' hb
          rw [aW_1 (r' := 149) (by decide)] at hb
          show aV ((aW (aW a 149 c (aSetB (a.1 149 c) l)) 150 (16 * c + l) v).1 150 (16 * c' + l'))
          by_cases e : 16 * c' + l' = 16 * c + l
          · rw [e, aW_e]
            exact hvv
          · rw [aW_k e, aW_1 (by decide)]
            by_cases e2 : c' = c
            · subst e2
              rw [aW_e, bit_set hl hl'] at hb
              refine h5 l' hl' ?_
              have : ¬ l' = l := by omega
              simpa [this] using hb
            · rw [aW_k e2] at hb
              exact h5 l' hl' hb
        · unfold tF
          rw [er 145 (by decide) (by decide), er 146 (by decide) (by decide), er 142 (by decide) (by decide), er 148 (by decide) (by decide), aW_1 (r' := 149) (by decide)]
          refine ⟨h6.1, h6.2.1, fun g => ⟨(h6.2.2 g).1, ?_⟩⟩
          by_cases e : c' = c
          · subst e
            rw [aW_e, or_set hl]
            exact tF_pop hl ho hf h6
          · rw [aW_k e]
            exact (h6.2.2 g).2
      · rw [aW_1 (by decide), aW_1 (by decide)]
theorem I_add (hc : c < 4) (hl : l < 16) (hI : Inv a) (hu : uU a K) : Inv (aAdd a c l y).2.2 ∧ uU (aAdd a c l y).2.2 (K + 1) := by
  unfold aAdd
  by_cases hy : y < 1 ∨ 9 < y
  · rw [if_pos hy]
    exact ⟨hI, uU_le hu (by omega)⟩
  rw [if_neg hy]
  split
  · cases hP : aPl a c l with
    | none => exact ⟨I_ask hc hl hI, uU_1 hu (Or.inl u_ask)⟩
    | some p =>
      dsimp only
      split
      · next ho =>
        have hp := (aPl_lt hP).1
        obtain ⟨n, hn, en⟩ := ((hI.1.1 c hc).1.1 p hp).2.2 (own_val ho)
        have hyy : ∃ k, k < 10 ∧ y = Int32.ofNat k := by
          obtain ⟨k, hk, e⟩ := i_in (x := y) (b := 10) (by decide) (fun g => hy (Or.inl (by
            rw [Int32.lt_iff_toInt_lt] at g ⊢
            have h1 : (1 : Int32).toInt = 1 := by decide
            have h0 : (0 : Int32).toInt = 0 := by decide
            rw [h0] at g
            rw [h1]
            omega))) (by
            have : ¬ 9 < y := fun g => hy (Or.inr g)
            rw [Int32.lt_iff_toInt_lt] at this ⊢
            have h1 : (9 : Int32).toInt = 9 := by decide
            have h2 : (Int32.ofNat 10).toInt = 10 := by decide
            rw [h1] at this
            rw [h2]
            omega)
          exact ⟨k, hk, e⟩
        obtain ⟨k, hk, ek⟩ := hyy
        have hv : aV ((a.1 137 (4 * c + p) + y) - (a.1 137 (4 * c + p) + y) / 1000 * 1000) := by
          rw [en, ek, i_ad]
          refine ⟨(n + k) % 1000, Nat.mod_lt _ (by decide), ?_⟩
          exact i_md (m := 1000) (by omega) (by decide)
        exact ⟨I_chg hc hl hP ho hv hI, uU_1 hu (Or.inr aChg_uu)⟩
      · exact ⟨I_ask hc hl hI, uU_1 hu (Or.inl u_ask)⟩
  · exact ⟨hI, uU_le hu (by omega)⟩
theorem I_drain (hc : c < 4) (hI : Inv a) (hu : uU a K) : Inv (aDrain a c).2.2 ∧ uU (aDrain a c).2.2 (K + 1) := by
  unfold aDrain
  split
  · exact ⟨hI, uU_le hu (by omega)⟩
  · next hne =>
    obtain ⟨n, hn, en, hB2⟩ := (hI.1.1 c hc).2.2.2.2.2.2.1
    cases n with
    | zero => exact absurd en hne
    | succ n =>
      obtain ⟨⟨l, hl, el⟩, hvv⟩ := hB2 0 (by omega)
      rw [Nat.add_zero] at el hvv
      have nl : aNt (Int32.ofNat l) = l := i_tn (by omega)
      rw [el, nl]
      cases hP : aPl a c l with
      | none => exact ⟨I_ask hc hl hI, uU_1 hu (Or.inl u_ask)⟩
      | some p =>
        dsimp only
        split
        · next ho =>
          have h1 := I_chg hc hl hP ho hvv hI
          have hu1 : uU (aChg a (4 * c + p) (a.1 144 (4 * c))) (K + 1) := uU_1 hu (Or.inr aChg_uu)
          have e42 : (aChg a (4 * c + p) (a.1 144 (4 * c))).1 142 c = Int32.ofNat (n + 1) := by
            rw [aChg_r (by decide) (by decide) (by decide) (by decide)]
            exact en
          generalize aChg a (4 * c + p) (a.1 144 (4 * c)) = B at *
          rw [aShf_D (by omega) e42]
          have eo : ∀ r i, ¬ (r = 142 ∧ i = c) → ¬ ((r = 143 ∨ r = 144) ∧ 4 * c ≤ i ∧ i < 4 * c + n) → (dShA c n 0 (aW B 142 c (Int32.ofNat n))).1 r i = B.1 r i := fun r i g1 g2 => by
            rw [dA_o _ _ _ _ _ (by omega), aW_o g1]
          have er : ∀ r, ¬ r = 142 → ¬ r = 143 → ¬ r = 144 → (dShA c n 0 (aW B 142 c (Int32.ofNat n))).1 r = B.1 r := fun r g1 g2 g3 => funext fun i => eo r i (by omega) (by omega)
          have e2 : (dShA c n 0 (aW B 142 c (Int32.ofNat n))).2 = B.2 := dA_2 _ _ _
          have c2 : (dShA c n 0 (aW B 142 c (Int32.ofNat n))).1 142 c = Int32.ofNat n := by rw [dA_o _ _ _ _ _ (by omega), aW_e]
          refine ⟨I_core h1 (fun c' hc' => ?_) (fun r hr => er r (by omega) (by omega) (by omega)) e2, uU_le (k := K + 1) ?_ (by omega)⟩
          · obtain ⟨h1, h2, h3, h4, h5, h6, h7, h8⟩ := h1.1.1 c' hc'
            refine ⟨cF_eq (er _ (by decide) (by decide) (by decide)) (er _ (by decide) (by decide) (by decide)) (er _ (by decide) (by decide) (by decide)) h1, nF_eq (er _ (by decide) (by decide) (by decide)) (er _ (by decide) (by decide) (by decide)) (er _ (by decide) (by decide) (by decide)) h2, yF_eq (er _ (by decide) (by decide) (by decide)) h3, lF_eq (er _ (by decide) (by decide) (by decide)) h4, sF_eq (er _ (by decide) (by decide) (by decide)) (er _ (by decide) (by decide) (by decide)) h5, ?_, ?_, gF2_eq (er _ (by decide) (by decide) (by decide)) (er _ (by decide) (by decide) (by decide)) h8⟩
            · unfold tF
              rw [er 145 (by decide) (by decide) (by decide), er 146 (by decide) (by decide) (by decide), er 148 (by decide) (by decide) (by decide), er 149 (by decide) (by decide) (by decide)]
              refine ⟨h6.1, h6.2.1, fun g => ?_⟩
              by_cases e : c' = c
              · subst e
                have := (h6.2.2 g).1
                rw [e42, show (Int32.ofNat (n + 1) = 0) = (n + 1 = 0) from i_eq (m := 0) (by omega) (by decide)] at this
                omega
              · rw [eo 142 c' (by omega) (by omega)]
                exact h6.2.2 g
            · obtain ⟨n', hn', en', hB'⟩ := h7
              by_cases e : c' = c
              · subst e
                have : n' = n + 1 := by
                  have := en'.symm.trans e42
                  rw [i_eq (by omega) (by omega)] at this
                  exact this
                subst this
                refine ⟨n, by omega, c2, fun k hk => ?_⟩
                rw [(dA_in _ _ _ _ (by omega) (by omega)).1, (dA_in _ _ _ _ (by omega) (by omega)).2, aW_o (by omega), aW_o (by omega)]
                exact hB' (k + 1) (by omega)
              · refine ⟨n', hn', by rw [eo 142 c' (by omega) (by omega)]; exact en', fun k hk => ?_⟩
                rw [eo 143 _ (by omega) (by omega), eo 144 _ (by omega) (by omega)]
                exact hB' k hk
          · obtain ⟨v, g1, g2⟩ := hu1
            exact ⟨v, by rw [er 122 (by decide) (by decide) (by decide)]; exact g1, g2⟩
        · exact ⟨I_ask hc hl hI, uU_1 hu (Or.inl u_ask)⟩
end EPV
