/-! the invariant: transactions begin and end; the start -/
section EPV
variable {a a' b X : aS} {r i l l' q q' c c' k n p p' w z N o D K : Nat} {v t x y s : Int32} {m : aM} {L ms : List aM}
theorem I_begin (hc : c < 4) (hI : Inv a) (hu : uU a K) : Inv (aBegin a c).2.2 ∧ uU (aBegin a c).2.2 (K + 1) := by
  unfold aBegin
  split
  · next h0 =>
    have er : ∀ r, ¬ r = 145 → ¬ r = 146 → ¬ r = 148 → ¬ r = 149 → (aW (aW (aW (aW a 145 c 1) 146 c 0) 148 c 0) 149 c 0).1 r = a.1 r := fun r g1 g2 g3 g4 => by rw [aW_1 g4, aW_1 g3, aW_1 g2, aW_1 g1]
    have eo : ∀ r i, ¬ i = c → (aW (aW (aW (aW a 145 c 1) 146 c 0) 148 c 0) 149 c 0).1 r i = a.1 r i := fun r i g => by rw [aW_o (by omega), aW_o (by omega), aW_o (by omega), aW_o (by omega)]
    have b45 : (aW (aW (aW (aW a 145 c 1) 146 c 0) 148 c 0) 149 c 0).1 145 c = 1 := by rw [aW_1 (by decide), aW_1 (by decide), aW_1 (by decide), aW_e]
    have b46 : (aW (aW (aW (aW a 145 c 1) 146 c 0) 148 c 0) 149 c 0).1 146 c = 0 := by rw [aW_1 (by decide), aW_1 (by decide), aW_e]
    have b48 : (aW (aW (aW (aW a 145 c 1) 146 c 0) 148 c 0) 149 c 0).1 148 c = 0 := by rw [aW_1 (by decide), aW_e]
    have b49 : (aW (aW (aW (aW a 145 c 1) 146 c 0) 148 c 0) 149 c 0).1 149 c = 0 := aW_e
    have b2 : (aW (aW (aW (aW a 145 c 1) 146 c 0) 148 c 0) 149 c 0).2 = a.2 := rfl
    dsimp only
    generalize aW (aW (aW (aW a 145 c 1) 146 c 0) 148 c 0) 149 c 0 = Y at *
    refine ⟨I_core hI (fun c' hc' => ?_) (fun r hr => er r (by omega) (by omega) (by omega) (by omega)) b2, uU_1 hu (Or.inl (by rw [er 122 (by decide) (by decide) (by decide) (by decide)]))⟩
    obtain ⟨h1, h2, h3, h4, h5, h6, h7, h8⟩ := hI.1.1 c' hc'
    have e := fun r (g : ¬ r = 145 ∧ ¬ r = 146 ∧ ¬ r = 148 ∧ ¬ r = 149) => er r g.1 g.2.1 g.2.2.1 g.2.2.2
    refine ⟨cF_eq (e _ (by decide)) (e _ (by decide)) (e _ (by decide)) h1, nF_eq (e _ (by decide)) (e _ (by decide)) (e _ (by decide)) h2, yF_eq (e _ (by decide)) h3, lF_eq (e _ (by decide)) h4, ?_, ?_,
      bF_eq (e _ (by decide)) (e _ (by decide)) (e _ (by decide)) h7, gF2_eq (e _ (by decide)) (e _ (by decide)) h8⟩
    · intro l hl hb
      rw [e 150 (by decide)]
      by_cases g : c' = c
      · rw [g, b49, bit_00 l hl] at hb
        cases hb
      · rw [eo 149 c' g] at hb
        exact h5 l hl hb
    · by_cases g : c' = c
      · subst g
        unfold tF
        rw [b45, b46, b48, b49, e 142 (by decide)]
        exact ⟨Or.inr rfl, Or.inl rfl, fun _ => ⟨h0.2, by rw [or_00]; decide⟩⟩
      · unfold tF
        rw [eo 145 c' g, eo 146 c' g, eo 148 c' g, eo 149 c' g, e 142 (by decide)]
        exact h6
  · exact ⟨hI, uU_le hu (by omega)⟩
/-- a transaction is over -/
theorem I_shut (hI : Inv a) : Inv (aW a 145 c 0) := by
  have er : ∀ r, ¬ r = 145 → (aW a 145 c 0).1 r = a.1 r := fun r g => aW_1 g
  refine I_core hI (fun c' hc' => ?_) (fun r hr => er r (by omega)) rfl
  obtain ⟨h1, h2, h3, h4, h5, h6, h7, h8⟩ := hI.1.1 c' hc'
  refine ⟨cF_eq (er _ (by decide)) (er _ (by decide)) (er _ (by decide)) h1, nF_eq (er _ (by decide)) (er _ (by decide)) (er _ (by decide)) h2, yF_eq (er _ (by decide)) h3, lF_eq (er _ (by decide)) h4, sF_eq (er _ (by decide)) (er _ (by decide)) h5, ?_,
    bF_eq (er _ (by decide)) (er _ (by decide)) (er _ (by decide)) h7, gF2_eq (er _ (by decide)) (er _ (by decide)) h8⟩
  unfold tF
  rw [er 146 (by decide), er 142 (by decide), er 148 (by decide), er 149 (by decide)]
  by_cases g : c' = c
  · rw [g, aW_e]
    rw [g] at h6
    exact ⟨Or.inl rfl, h6.2.1, fun q => absurd rfl q⟩
  · rw [aW_k g]
    exact h6
theorem I_147 (hI : Inv a) : Inv (aW a 147 c v) := by
  have er : ∀ r, ¬ r = 147 → (aW a 147 c v).1 r = a.1 r := fun r g => aW_1 g
  refine I_core hI (fun c' hc' => ?_) (fun r hr => er r (by omega)) rfl
  obtain ⟨h1, h2, h3, h4, h5, h6, h7, h8⟩ := hI.1.1 c' hc'
  exact ⟨cF_eq (er _ (by decide)) (er _ (by decide)) (er _ (by decide)) h1, nF_eq (er _ (by decide)) (er _ (by decide)) (er _ (by decide)) h2, yF_eq (er _ (by decide)) h3, lF_eq (er _ (by decide)) h4, sF_eq (er _ (by decide)) (er _ (by decide)) h5, tF_eq (er _ (by decide)) (er _ (by decide)) (er _ (by decide)) (er _ (by decide)) (er _ (by decide)) h6,
    bF_eq (er _ (by decide)) (er _ (by decide)) (er _ (by decide)) h7, gF2_eq (er _ (by decide)) (er _ (by decide)) h8⟩
theorem I_enW (hc : c < 4) : ∀ d k b K, k + d = 16 → Inv b → uU b K → (∀ l, l < 16 → aOwd b c l = true) → Inv (aEnW b c d k) ∧ uU (aEnW b c d k) (K + d) := by
  intro d
  induction d with
  | zero => intro k b K _ hI hu _; exact ⟨hI, hu⟩
  | succ d ih =>
    intro k b K h1 hI hu hO
    unfold aEnW
    by_cases q : aBit (b.1 149 c) k = true
    · rw [if_pos q]
      have hO1 := hO k (by omega)
      unfold aOwd at hO1
      rw [q] at hO1
      obtain ⟨p, hp, hpo⟩ := own_pl hO1
      have hne := (aAt_iff.1 (aPl_lt hp).2).1
      rw [hp]
      have hV := (hI.1.1 c hc).2.2.2.2.1 k (by omega) q
      obtain ⟨v1, v2⟩ := ih (k + 1) (aChg b (4 * c + p) (b.1 150 (16 * c + k))) (K + 1) (by omega) (I_chg hc (by omega) hp hpo hV hI) (uU_1 hu (Or.inr aChg_uu)) (fun l hl => aOwd_chg hne (hO l hl))
      exact ⟨v1, uU_le v2 (by omega)⟩
    · rw [if_neg q]
      obtain ⟨v1, v2⟩ := ih (k + 1) b K (by omega) hI hu hO
      exact ⟨v1, uU_le v2 (by omega)⟩
theorem I_enA (hc : c < 4) : ∀ d k b, k + d = 16 → Inv b → Inv (aEnA b c d k) ∧ (aEnA b c d k).1 122 18 = b.1 122 18 := by
  intro d
  induction d with
  | zero => intro k b _ hI; exact ⟨hI, rfl⟩
  | succ d ih =>
    intro k b h1 hI
    unfold aEnA
    split
    · exact ih (k + 1) b (by omega) hI
    · obtain ⟨v1, v2⟩ := ih (k + 1) (aAsk b c k true).2 (by omega) (I_ask hc (by omega) hI)
      exact ⟨v1, v2.trans u_ask⟩
theorem I_end (hc : c < 4) (hI : Inv a) (hu : uU a K) : Inv (aEnd a c).2.2 ∧ uU (aEnd a c).2.2 (K + 16) := by
  unfold aEnd
  split
  · exact ⟨hI, uU_le hu (by omega)⟩
  · split
    · by_cases q : aAre a c = true
      · rw [if_pos q]
        obtain ⟨v1, v2⟩ := I_enW hc 16 0 a K (by decide) hI hu (fun l hl => (aAreN_all 16 0 true q).2 l (by omega) (by omega))
        refine ⟨I_cnt (I_shut v1), ?_⟩
        obtain ⟨v, g1, g2⟩ := v2
        refine ⟨v, ?_, g2⟩
        rw [aC_1 (by decide), aW_1 (by decide)]
        exact g1
      · rw [if_neg q]
        obtain ⟨v1, v2⟩ := I_enA hc 16 0 a (by decide) hI
        refine ⟨v1, ?_⟩
        obtain ⟨v, g1, g2⟩ := hu
        exact ⟨v, v2.trans g1, by omega⟩
    · refine ⟨I_cnt (I_147 (I_shut hI)), uU_le (uU_1 hu (Or.inl ?_)) (by omega)⟩
      rw [aC_1 (by decide), aW_1 (by decide), aW_1 (by decide)]
theorem Rng_nil {A : Nat → Int32} {cap : Nat} {enc : aM → Int32} {F S : Int32} (hF : F = 0) (hS : S = 0) (hc : 0 < cap) : Rng A F S cap enc [] :=
  ⟨0, hc, hF, hS, Nat.zero_le _, fun k hk => nomatch hk⟩
/-! the start, of any memory that is so -/
def St_1 (S : Nat → Nat → Int32) : Prop := ∀ l, l < 16 → S (25 + 2 * l) 0 = S 123 l ∧ S (25 + 2 * l) 1 = S 124 l ∧ S (25 + 2 * l) 2 = 0 ∧ S 125 l = 0 ∧ S 126 l = 0 ∧ S (25 + 2 * l) 3 = 0 ∧ S 127 l = -1 ∧ S (25 + 2 * l) 7 = 0 ∧ S 123 l = 0 ∧ S 124 l = -1 ∧ S 130 l = 0
def St_2 (S : Nat → Nat → Int32) : Prop := ∀ q, q < 15 → S 21 q = 0 ∧ S 22 q = 0 ∧ S 132 q = 0 ∧ S 133 q = 0
def St_3 (S : Nat → Nat → Int32) : Prop := ∀ c, c < 4 → ∀ p, p < 4 → S (82 + 12 * c + p) 1 = 0 ∧ S 136 (4 * c + p) = 0 ∧ S (82 + 12 * c + p) 0 = -1 ∧ S (82 + 12 * c + p) 4 = 0 ∧ S 139 (4 * c + p) = 0 ∧ S (82 + 12 * c + p) 5 = 0 ∧ S 140 (4 * c + p) = -1
def St_4 (S : Nat → Nat → Int32) : Prop := ∀ c, c < 4 → ∀ l, l < 16 → S (76 + 12 * c) l = -1 ∧ S 141 (16 * c + l) = -1
def St_5 (S : Nat → Nat → Int32) : Prop := ∀ c, c < 4 → S (74 + 12 * c) 9 = 0 ∧ S 122 18 = 0 ∧ S (74 + 12 * c) 0 = Int32.ofNat c ∧ S (74 + 12 * c) 7 = 0 ∧ S 142 c = 0 ∧ S (74 + 12 * c) 10 = -1 ∧ S 151 c = -1 ∧ S (74 + 12 * c) 11 = 0 ∧ S 152 c = 0 ∧
    S (79 + 12 * c) 0 = 0 ∧ S 145 c = 0 ∧ S (79 + 12 * c) 1 = 0 ∧ S 146 c = 0 ∧ S (79 + 12 * c) 2 = 0 ∧ S 147 c = 0 ∧ S 149 c = 0
def St_6 (S : Nat → Nat → Int32) : Prop := ∀ k, k < 10 → S 3 k = 0 ∧ S 153 k = 0
theorem RepR_g {S : Nat → Nat → Int32} (st_1 : St_1 S) (st_2 : St_2 S) (st_3 : St_3 S) (st_4 : St_4 S) (st_5 : St_5 S) (st_6 : St_6 S) : RepR S (S, fun _ => []) := by
  refine ⟨fun r i _ => rfl, fun q hq => Rng_nil (st_2 q hq).2.2.1 (st_2 q hq).2.2.2 (by decide), fun l hl => ⟨(st_1 l hl).2.2.2.2.2.2.2.2.2.2, Nat.zero_le _, fun k hk => nomatch hk⟩⟩
theorem RepC_g {S : Nat → Nat → Int32} (st_1 : St_1 S) (st_2 : St_2 S) (st_3 : St_3 S) (st_4 : St_4 S) (st_5 : St_5 S) (st_6 : St_6 S) : RepC S (S, fun _ => []) := by
  refine ⟨fun l hl => ?_, fun q hq => Rng_nil (st_2 q hq).1 (st_2 q hq).2.1 (by decide), fun c p hc hp => ?_, fun c hc => ?_, fun c hc l hl => ?_, fun c hc => ?_, fun c hc => ?_, fun k hk => ?_⟩
  · obtain ⟨h1, h2, h3, h4, h5, h6, h7, h8, h9, h10, h11⟩ := st_1 l hl
    refine ⟨h1, h2, ?_, ?_, fun g => absurd h7 g, h8, Nat.zero_le _, fun k hk => nomatch hk⟩
    · show S (25 + 2 * l) 2 = if S 126 l = 0 then S 125 l else 15
      rw [h5, if_pos rfl, h3, h4]
    · show S (25 + 2 * l) 3 = if S 127 l = -1 then 0 else 1
      rw [h7, if_pos rfl, h6]
  · obtain ⟨h1, h2, h3, h4, h5, h6, h7⟩ := st_3 c hc p hp
    unfold PlOk
    have e : ∀ r i, ((S, fun _ => []) : aS).1 r i = S r i := fun _ _ => rfl
    rw [e, e, e, e, e, h1, h2, h3, h4, h5, h6, h7]
    exact ⟨rfl, rfl, fun g => absurd g (by decide), fun _ => rfl, fun _ => rfl⟩
  · obtain ⟨h1, h2, h3⟩ := st_5 c hc
    have e : ∀ p, p < 4 → ¬ aVal (S 136 (4 * c + p)) = true := by
      intro p hp g
      have : S 136 (4 * c + p) = 0 := (st_3 c hc p hp).2.1
      rw [this] at g
      exact absurd g (by decide)
    exact ⟨0, 0, h1, h2, Nat.le_refl _, by decide, fun p hp g => absurd g (e p hp), fun p p' hp _ g => absurd g (e p hp)⟩
  · obtain ⟨h1, h2⟩ := st_4 c hc l hl
    exact h1.trans h2.symm
  · obtain ⟨h1, h2, h3, h4, h5, h6, h7, h8, h9, h10⟩ := st_5 c hc
    refine ⟨h3, h4.trans h5.symm, h6.trans h7.symm, h8.trans h9.symm, fun k hk g => ?_⟩
    have g : Int32.ofNat k < S 142 c := g
    rw [h5, show (Int32.ofNat k < 0) = (k < 0) from i_lt (m := 0) (by omega) (by decide)] at g
    omega
  · obtain ⟨h1, h2, h3, h4, h5, h6, h7, h8, h9, h10, h11, h12, h13, h14, h15, h16⟩ := st_5 c hc
    exact ⟨h10.trans h11.symm, h12.trans h13.symm, h14.trans h15.symm, fun g => absurd h11 g⟩
  · obtain ⟨h1, h2⟩ := st_6 k hk
    exact h1.trans h2.symm
theorem Inv_g {S : Nat → Nat → Int32} (st_1 : St_1 S) (st_2 : St_2 S) (st_3 : St_3 S) (st_4 : St_4 S) (st_5 : St_5 S) (st_6 : St_6 S) : Inv (S, fun _ => []) := by
  have pl : ∀ c l, c < 4 → aPl (S, fun _ => []) c l = none := by
    intro c l hc
    cases e : aPl (S, fun _ => []) c l with
    | none => rfl
    | some p =>
      obtain ⟨h1, h2⟩ := aPl_lt e
      exact absurd (st_3 c hc p h1).2.1 (aAt_iff.1 h2).1
  refine ⟨⟨fun c hc => ?_, fun l hl => ?_, fun q hq m hm => nomatch hm⟩, ⟨fun c hc l hl => ⟨?_, ?_, fun g => absurd (pl c l hc) g⟩, fun l hl => ?_⟩, fun l hl _ => rfl⟩
  · obtain ⟨h1, h2, h3, h4, h5, h6, h7, h8, h9, h10, h11, h12, h13, h14, h15, h16⟩ := st_5 c hc
    refine ⟨⟨fun p hp => ⟨Or.inl (st_3 c hc p hp).2.1, fun g => absurd (st_3 c hc p hp).2.1 g, fun g => ?_⟩, fun l p p' hp hp' g _ => ?_⟩, fun p hp => ⟨Or.inl (st_3 c hc p hp).2.2.2.2.1, fun _ => (st_3 c hc p hp).2.2.2.2.2.2⟩, fun p hp => Or.inl (st_3 c hc p hp).2.2.2.2.2.2, fun l hl => Or.inl (st_4 c hc l hl).2, fun l hl g => ?_, ⟨Or.inl h11, Or.inl h13, fun g => absurd h11 g⟩,
      ⟨0, by decide, h5, fun k hk => absurd hk (Nat.not_lt_zero _)⟩, Or.inl ⟨h7, h9⟩⟩
    · have : S 136 (4 * c + p) = 0 := (st_3 c hc p hp).2.1
      dsimp only at g
      rw [this] at g
      exact absurd g (by decide)
    · exact absurd (st_3 c hc p hp).2.1 (aAt_iff.1 g).1
    · have : S 149 c = 0 := h16
      dsimp only at g
      rw [this, bit_00 l hl] at g
      cases g
  · obtain ⟨h1, h2, h3, h4, h5, h6, h7, h8, h9, h10, h11⟩ := st_1 l hl
    exact ⟨⟨Or.inl h10, 0, by decide, h9⟩, fun _ => ⟨0, by decide, by decide, h4⟩, Or.inl h7⟩
  · have : nR (S, fun _ => []) c l = 0 := by
      unfold nR cBz
      rw [if_neg (fun g => g.1 (st_1 l hl).2.2.2.2.2.2.1)]
      rfl
    rw [this]
    exact Nat.zero_le _
  · exact Nat.zero_le _
  · have e : ∀ c, c < 4 → aLt (S, fun _ => []) c l = 0 := by
      intro c hc
      unfold aLt
      rw [pl c l hc]
    unfold nFw nFc
    rw [e 0 (by decide), e 1 (by decide), e 2 (by decide), e 3 (by decide)]
    exact Nat.zero_le _
theorem uU_g {S : Nat → Nat → Int32} (st_5 : St_5 S) : uU (S, fun _ => []) 0 := ⟨0, (st_5 0 (by decide)).2.1, Nat.le_refl _⟩
def a0 : aS := (sg0.1, fun _ => [])
theorem st_1 : St_1 sg0.1 := by
  unfold St_1
  decide +kernel
theorem st_2 : St_2 sg0.1 := by
  unfold St_2
  decide +kernel
theorem st_3 : St_3 sg0.1 := by
  unfold St_3
  decide +kernel
theorem st_4 : St_4 sg0.1 := by
  unfold St_4
  decide +kernel
theorem st_5 : St_5 sg0.1 := by
  unfold St_5
  decide +kernel
theorem st_6 : St_6 sg0.1 := by
  unfold St_6
  decide +kernel
theorem RepR_0 : RepR sg0.1 a0 := RepR_g st_1 st_2 st_3 st_4 st_5 st_6
theorem RepC_0 : RepC sg0.1 a0 := RepC_g st_1 st_2 st_3 st_4 st_5 st_6
theorem Inv_0 : Inv a0 := Inv_g st_1 st_2 st_3 st_4 st_5 st_6
theorem uU_0 : uU a0 0 := uU_g st_5
end EPV
