/-! rising lists of outcomes -/
section EPZ
variable {P : aP} {I I' I0 : Nat → Nat → Int32} {J J0 : Nat → Nat → Int64} {A Q : Nat}

theorem ci_shift (hK : KH Q = (5, 0)) (hR : RH Q 0 = A) (hA : KH A = (11, 720)) (hne : ¬ A = Q) {k : Nat} {p : Nat} : ∀ d N (I : Nat → Nat → Int32), d < N → p + d < 720 →
    ∃ I', f_X6_include_71 N Q (Int32.ofNat k) (Int32.ofNat p) (Int32.ofNat (p + d)) (I, J) = some ((), (I', J)) ∧
      (∀ j, I' A j = if j < p then I A j else if j = p then Int32.ofNat k else if j ≤ p + d then I A (j - 1) else I A j) ∧ I' Q 1 = I Q 1 + 1 ∧
      (∀ i, ¬ i = 1 → I' Q i = I Q i) ∧ ∀ r, ¬ r = A → ¬ r = Q → I' r = I r := by
  intro d
  induction d with
  | zero =>
    intro N I hN hp
    obtain ⟨N, rfl⟩ := Nat.exists_eq_add_of_le' (Nat.succ_le_of_lt hN)
    have e : (Int32.ofNat (p + 0) ≤ Int32.ofNat p) = True := (i_le (by omega) (by omega)).trans (eq_true (by omega))
    have h1 : (Int32.ofNat p).toNatClampNeg = p := i_tn (by omega)
    have h2 : eix (Int32.ofNat p) 720 = true := i_ix (by omega) (by decide)
    refine ⟨eup (eup I A p (Int32.ofNat k)) Q 1 (I Q 1 + 1), ?_, fun j => ?_, ?_, fun i hi => ?_, fun r hr1 hr2 => ?_⟩
    · rw [show N + (0 + 1) = N + 1 by omega, f_X6_include_71]
      have e2 : eup I A p (Int32.ofNat k) Q 1 = I Q 1 := up_r (fun q => hne q.symm)
      simp only [eLt, Option.bind_some, ↓reduceIte, true_and, and_true, eB, decide_true, decide_false, Bool.or_true, Bool.true_or, not_true_eq_false, not_false_eq_true, e, hK, hR, hA, h1, h2, e2]
    · rw [up_r hne]
      by_cases q : j = p
      · subst q
        rw [up_eq, if_neg (by omega), if_pos rfl]
      · rw [up_k q]
        by_cases q1 : j < p
        · rw [if_pos q1]
        · rw [if_neg q1, if_neg q, if_neg (by omega)]
    · exact up_eq
    · rw [up_k hi, up_r (fun q => hne q.symm)]
    · rw [up_fr hr2, up_fr hr1]
  | succ d ih =>
    intro N I hN hp
    obtain ⟨N, rfl⟩ := Nat.exists_eq_add_of_le' (Nat.succ_le_of_lt hN)
    have e : (Int32.ofNat (p + (d + 1)) ≤ Int32.ofNat p) = False := (i_le (by omega) (by omega)).trans (eq_false (by omega))
    have e1 : Int32.ofNat (p + (d + 1)) - 1 = Int32.ofNat (p + d) := i_sb (n := p + (d + 1)) (m := 1) (by omega)
    have e3 : Int32.ofNat (p + (d + 1)) + (-1) = Int32.ofNat (p + d) := n1 (n := p + d)
    have h1 : (Int32.ofNat (p + d)).toNatClampNeg = p + d := i_tn (by omega)
    have h2 : eix (Int32.ofNat (p + d)) 720 = true := i_ix (by omega) (by decide)
    have h3 : (Int32.ofNat (p + (d + 1))).toNatClampNeg = p + (d + 1) := i_tn (by omega)
    have h4 : eix (Int32.ofNat (p + (d + 1))) 720 = true := i_ix (by omega) (by decide)
    obtain ⟨I', a1, a2, a3, a4, a5⟩ := ih (N + d + 1) (eup I A (p + (d + 1)) (I A (p + d))) (by omega) (by omega)
    refine ⟨I', ?_, fun j => ?_, ?_, fun i hi => ?_, fun r hr1 hr2 => ?_⟩
    · rw [show N + (d + 1 + 1) = N + d + 1 + 1 by omega, f_X6_include_71]
      simp only [eLt, Option.bind_some, ↓reduceIte, true_and, and_true, eB, decide_true, decide_false, Bool.or_true, Bool.true_or, not_true_eq_false, not_false_eq_true, e, e1, e3, hK, hR, hA, h1, h2, h3, h4]
      exact a1
    · rw [a2 j]
      by_cases q1 : j < p
      · rw [if_pos q1, if_pos q1, up_k (by omega)]
      · rw [if_neg q1, if_neg q1]
        by_cases q2 : j = p
        · rw [if_pos q2, if_pos q2]
        · rw [if_neg q2, if_neg q2]
          by_cases q3 : j ≤ p + d
          · rw [if_pos q3, if_pos (by omega), up_k (by omega)]
          · rw [if_neg q3]
            by_cases q4 : j = p + (d + 1)
            · subst q4
              rw [up_eq, if_pos (by omega)]
              rfl
            · rw [up_k q4, if_neg (by omega)]
    · rw [a3, up_r (fun q => hne q.symm)]
    · rw [a4 i hi, up_r (fun q => hne q.symm)]
    · rw [a5 r hr1 hr2, up_fr hr1]
theorem ci_find (hK : KH Q = (5, 0)) (hR : RH Q 0 = A) (hA : KH A = (11, 720)) {k : Nat} {l : List Nat} (hL : Lst I A Q 1 l) (hk : k < 2147483648) (hl : ∀ y, y ∈ l → y < 2147483648) (hn : l.length < 721) : ∀ d p N, p + d = l.length → d < N → (∀ i, i < p → l.getD i 0 < k) →
    ∃ p', p' ≤ l.length ∧ (∀ i, i < p' → l.getD i 0 < k) ∧ (p' < l.length → k ≤ l.getD p' 0) ∧
      f_X6_include_2 N Q (Int32.ofNat k) (Int32.ofNat p) (I, J) = f_X6_include_26 Q (Int32.ofNat k) (Int32.ofNat p') (I, J) := by
  intro d
  induction d with
  | zero =>
    intro p N hp hN hlt
    obtain ⟨N, rfl⟩ := Nat.exists_eq_add_of_le' (Nat.succ_le_of_lt hN)
    have e : (Int32.ofNat l.length ≤ Int32.ofNat p) = True := (i_le (by omega) (by omega)).trans (eq_true (by omega))
    refine ⟨p, by omega, hlt, fun q => by omega, ?_⟩
    rw [show N + (0 + 1) = N + 1 by omega, f_X6_include_2]
    simp only [eLt, Option.bind_some, ↓reduceIte, true_and, and_true, eB, decide_true, decide_false, Bool.or_true, Bool.true_or, not_true_eq_false, not_false_eq_true, e, hK, hR, hA, hL.1]
  | succ d ih =>
    intro p N hp hN hlt
    obtain ⟨N, rfl⟩ := Nat.exists_eq_add_of_le' (Nat.succ_le_of_lt hN)
    have e : (Int32.ofNat l.length ≤ Int32.ofNat p) = False := (i_le (by omega) (by omega)).trans (eq_false (by omega))
    have h1 : (Int32.ofNat p).toNatClampNeg = p := i_tn (by omega)
    have h2 : eix (Int32.ofNat p) 720 = true := i_ix (by omega) (by decide)
    have hp' : p < l.length := by omega
    have hv := hl _ (getD_mem hp')
    have e2 : (Int32.ofNat k ≤ Int32.ofNat (l.getD p 0)) = (k ≤ l.getD p 0) := i_le hk hv
    have e1 : Int32.ofNat p + 1 = Int32.ofNat (p + 1) := i_ad (m := 1)
    rw [show N + (d + 1 + 1) = N + d + 1 + 1 by omega]
    by_cases q : k ≤ l.getD p 0
    · refine ⟨p, by omega, hlt, fun _ => q, ?_⟩
      rw [f_X6_include_2]
      simp only [eLt, Option.bind_some, ↓reduceIte, true_and, and_true, eB, decide_true, decide_false, Bool.or_true, Bool.true_or, not_true_eq_false, not_false_eq_true, e, hK, hR, hA, hL.1, h1, h2, hL.2 p hp', e2, q]
    · obtain ⟨p', b1, b2, b3, b4⟩ := ih (p + 1) (N + d + 1) (by omega) (by omega) (fun i hi => by
        by_cases g : i = p
        · subst g
          omega
        · exact hlt i (by omega))
      refine ⟨p', b1, b2, b3, ?_⟩
      rw [f_X6_include_2]
      simp only [eLt, Option.bind_some, ↓reduceIte, true_and, and_true, eB, decide_true, decide_false, Bool.or_true, Bool.true_or, not_true_eq_false, not_false_eq_true, e, hK, hR, hA, hL.1, h1, h2, hL.2 p hp', e2, q, e1]
      exact b4
/-- the list once it has been put in -/
theorem ci_put (hK : KH Q = (5, 0)) (hR : RH Q 0 = A) (hA : KH A = (11, 720)) (hne : ¬ A = Q) {k p : Nat} {l : List Nat} (hL : Lst I A Q 1 l) (hp : p ≤ l.length) (hn : l.length < 720) (N : Nat) (hN : l.length < N) :
    ∃ I', f_X6_include_71 N Q (Int32.ofNat k) (Int32.ofNat p) (Int32.ofNat l.length) (I, J) = some ((), (I', J)) ∧ Lst I' A Q 1 (gIn l p k) ∧ (∀ i, ¬ i = 1 → I' Q i = I Q i) ∧ ∀ r, ¬ r = A → ¬ r = Q → I' r = I r := by
  obtain ⟨I', a1, a2, a3, a4, a5⟩ := ci_shift hK hR hA hne (J := J) (k := k) (p := p) (l.length - p) N I (by omega) (by omega)
  have e : p + (l.length - p) = l.length := by omega
  rw [e] at a1
  refine ⟨I', a1, ⟨?_, fun i hi => ?_⟩, a4, a5⟩
  · rw [a3, hL.1, gIn_len hp]
    exact i_ad (m := 1)
  · rw [gIn_len hp] at hi
    rw [a2 i, gIn_get hp, e]
    by_cases q1 : i < p
    · rw [if_pos q1, if_pos q1]
      exact hL.2 i (by omega)
    · rw [if_neg q1, if_neg q1]
      by_cases q2 : i = p
      · rw [if_pos q2, if_pos q2]
      · rw [if_neg q2, if_neg q2, if_pos (by omega)]
        exact hL.2 (i - 1) (by omega)
theorem ci_incl (hK : KH Q = (5, 0)) (hR : RH Q 0 = A) (hA : KH A = (11, 720)) (hne : ¬ A = Q) {k : Nat} {l : List Nat} (hL : Lst I A Q 1 l) (hs : gSo l) (hk : k < 2147483648) (hl : ∀ y, y ∈ l → y < 2147483648) (hn : l.length ≤ 720) (hr : ¬ k ∈ l → l.length < 720) :
    ∃ I' l', f_X6_include_2 1000000 Q (Int32.ofNat k) 0 (I, J) = some ((), (I', J)) ∧ Lst I' A Q 1 l' ∧ gSo l' ∧ (∀ y, y ∈ l' ↔ y ∈ l ∨ y = k) ∧ (∀ i, ¬ i = 1 → I' Q i = I Q i) ∧ ∀ r, ¬ r = A → ¬ r = Q → I' r = I r := by
  obtain ⟨p, b1, b2, b3, b4⟩ := ci_find hK hR hA (J := J) hL hk hl (by omega) l.length 0 1000000 (by omega) (by omega) (fun i hi => absurd hi (Nat.not_lt_zero i))
  rw [show (0 : Int32) = Int32.ofNat 0 from rfl, b4]
  have h1 : (Int32.ofNat p).toNatClampNeg = p := i_tn (by omega)
  have e : (Int32.ofNat l.length ≤ Int32.ofNat p) = (l.length ≤ p) := i_le (by omega) (by omega)
  have hput : ∀ (h : l.length < 720), (p < l.length → k < l.getD p 0) → (∃ I' l', f_X6_include_71 1000000 Q (Int32.ofNat k) (Int32.ofNat p) (I Q 1) (I, J) = some ((), (I', J)) ∧ Lst I' A Q 1 l' ∧ gSo l' ∧ (∀ y, y ∈ l' ↔ y ∈ l ∨ y = k) ∧ (∀ i, ¬ i = 1 → I' Q i = I Q i) ∧ ∀ r, ¬ r = A → ¬ r = Q → I' r = I r) := by
    intro h hp
    obtain ⟨I', c1, c2, c3, c4⟩ := ci_put hK hR hA (J := J) (k := k) hne hL b1 (by omega) 1000000 (by omega)
    rw [hL.1]
    exact ⟨I', gIn l p k, c1, c2, gIn_so hs b1 b2 hp, fun y => gIn_mem, c3, c4⟩
  by_cases q : l.length ≤ p
  · have hnot : ¬ k ∈ l := by
      intro g
      obtain ⟨i, g1, g2⟩ := mem_getD g
      have := b2 i (by omega)
      omega
    have h7 := hr hnot
    have e7 : (Int32.ofNat l.length < 720) = True := (i_lt (m := 720) (by omega) (by decide)).trans (eq_true h7)
    have h := hput h7 (fun g => absurd g (by omega))
    unfold f_X6_include_26 f_X6_include_48 f_X6_include_49
    simp only [eLt, Option.bind_some, ↓reduceIte, true_and, and_true, eB, decide_true, decide_false, Bool.or_true, Bool.true_or, not_true_eq_false, not_false_eq_true, hK, hL.1, e, q, e7]
    rw [hL.1] at h
    exact h
  · have h2 : eix (Int32.ofNat p) 720 = true := i_ix (by omega) (by decide)
    have hp' : p < l.length := by omega
    have hv := hl _ (getD_mem hp')
    have e2 : (Int32.ofNat (l.getD p 0) = Int32.ofNat k) = (l.getD p 0 = k) := i_eq hv hk
    have b3' := b3 hp'
    by_cases q2 : l.getD p 0 = k
    · refine ⟨I, l, ?_, hL, hs, fun y => ⟨Or.inl, ?_⟩, fun _ _ => rfl, fun _ _ _ => rfl⟩
      · unfold f_X6_include_26 f_X6_include_49 f_X6_include_64
        simp only [eLt, Option.bind_some, ↓reduceIte, true_and, and_true, eB, decide_true, decide_false, Bool.or_true, Bool.true_or, not_true_eq_false, not_false_eq_true, hK, hR, hA, hL.1, e, q, h1, h2, hL.2 p hp', e2, q2, show ¬ (1 : Int32) = 0 by decide]
      · rintro (g | g)
        · exact g
        · rw [g, ← q2]
          exact getD_mem hp'
    · have hnot : ¬ k ∈ l := by
        intro g
        obtain ⟨i, g1, g2⟩ := mem_getD g
        by_cases g3 : i < p
        · have := b2 i g3
          omega
        · by_cases g4 : i = p
          · subst g4
            exact q2 g2
          · have := hs p i (by omega) g1
            omega
      have h7 := hr hnot
      have e7 : (Int32.ofNat l.length < 720) = True := (i_lt (m := 720) (by omega) (by decide)).trans (eq_true h7)
      have h := hput h7 (fun g => by omega)
      unfold f_X6_include_26 f_X6_include_48 f_X6_include_49
      simp only [eLt, Option.bind_some, ↓reduceIte, true_and, and_true, eB, decide_true, decide_false, Bool.or_true, Bool.true_or, not_true_eq_false, not_false_eq_true, hK, hR, hA, hL.1, e, q, h1, h2, hL.2 p hp', e2, q2, e7]
      rw [hL.1] at h
      exact h

theorem ri_shift  (hne : ¬ 160 = 122) {k : Nat} {p : Nat} : ∀ d N (I : Nat → Nat → Int32), d < N → p + d < 1024 →
    ∃ I', f_X12_comesOut_100 N 122 (Int32.ofNat k) (Int32.ofNat p) (Int32.ofNat (p + d)) (I, J) = some ((), (I', J)) ∧
      (∀ j, I' 160 j = if j < p then I 160 j else if j = p then Int32.ofNat k else if j ≤ p + d then I 160 (j - 1) else I 160 j) ∧ I' 122 42 = I 122 42 + 1 ∧
      (∀ i, ¬ i = 42 → I' 122 i = I 122 i) ∧ ∀ r, ¬ r = 160 → ¬ r = 122 → I' r = I r := by
  intro d
  induction d with
  | zero =>
    intro N I hN hp
    obtain ⟨N, rfl⟩ := Nat.exists_eq_add_of_le' (Nat.succ_le_of_lt hN)
    have e : (Int32.ofNat (p + 0) ≤ Int32.ofNat p) = True := (i_le (by omega) (by omega)).trans (eq_true (by omega))
    have h1 : (Int32.ofNat p).toNatClampNeg = p := i_tn (by omega)
    have h2 : eix (Int32.ofNat p) 1024 = true := i_ix (by omega) (by decide)
    refine ⟨eup (eup I 160 p (Int32.ofNat k)) 122 42 (I 122 42 + 1), ?_, fun j => ?_, ?_, fun i hi => ?_, fun r hr1 hr2 => ?_⟩
    · rw [show N + (0 + 1) = N + 1 by omega, f_X12_comesOut_100]
      have e2 : eup I 160 p (Int32.ofNat k) 122 42 = I 122 42 := up_r (fun q => hne q.symm)
      simp only [eLt, Option.bind_some, ↓reduceIte, true_and, and_true, eB, decide_true, decide_false, Bool.or_true, Bool.true_or, not_true_eq_false, not_false_eq_true, e, K_122, R_122_41, K_160, h1, h2, e2]
    · rw [up_r hne]
      by_cases q : j = p
      · subst q
        rw [up_eq, if_neg (by omega), if_pos rfl]
      · rw [up_k q]
        by_cases q1 : j < p
        · rw [if_pos q1]
        · rw [if_neg q1, if_neg q, if_neg (by omega)]
    · exact up_eq
    · rw [up_k hi, up_r (fun q => hne q.symm)]
    · rw [up_fr hr2, up_fr hr1]
  | succ d ih =>
    intro N I hN hp
    obtain ⟨N, rfl⟩ := Nat.exists_eq_add_of_le' (Nat.succ_le_of_lt hN)
    have e : (Int32.ofNat (p + (d + 1)) ≤ Int32.ofNat p) = False := (i_le (by omega) (by omega)).trans (eq_false (by omega))
    have e1 : Int32.ofNat (p + (d + 1)) - 1 = Int32.ofNat (p + d) := i_sb (n := p + (d + 1)) (m := 1) (by omega)
    have e3 : Int32.ofNat (p + (d + 1)) + (-1) = Int32.ofNat (p + d) := n1 (n := p + d)
    have h1 : (Int32.ofNat (p + d)).toNatClampNeg = p + d := i_tn (by omega)
    have h2 : eix (Int32.ofNat (p + d)) 1024 = true := i_ix (by omega) (by decide)
    have h3 : (Int32.ofNat (p + (d + 1))).toNatClampNeg = p + (d + 1) := i_tn (by omega)
    have h4 : eix (Int32.ofNat (p + (d + 1))) 1024 = true := i_ix (by omega) (by decide)
    obtain ⟨I', a1, a2, a3, a4, a5⟩ := ih (N + d + 1) (eup I 160 (p + (d + 1)) (I 160 (p + d))) (by omega) (by omega)
    refine ⟨I', ?_, fun j => ?_, ?_, fun i hi => ?_, fun r hr1 hr2 => ?_⟩
    · rw [show N + (d + 1 + 1) = N + d + 1 + 1 by omega, f_X12_comesOut_100]
      simp only [eLt, Option.bind_some, ↓reduceIte, true_and, and_true, eB, decide_true, decide_false, Bool.or_true, Bool.true_or, not_true_eq_false, not_false_eq_true, e, e1, e3, K_122, R_122_41, K_160, h1, h2, h3, h4]
      exact a1
    · rw [a2 j]
      by_cases q1 : j < p
      · rw [if_pos q1, if_pos q1, up_k (by omega)]
      · rw [if_neg q1, if_neg q1]
        by_cases q2 : j = p
        · rw [if_pos q2, if_pos q2]
        · rw [if_neg q2, if_neg q2]
          by_cases q3 : j ≤ p + d
          · rw [if_pos q3, if_pos (by omega), up_k (by omega)]
          · rw [if_neg q3]
            by_cases q4 : j = p + (d + 1)
            · subst q4
              rw [up_eq, if_pos (by omega)]
              rfl
            · rw [up_k q4, if_neg (by omega)]
    · rw [a3, up_r (fun q => hne q.symm)]
    · rw [a4 i hi, up_r (fun q => hne q.symm)]
    · rw [a5 r hr1 hr2, up_fr hr1]
theorem ri_find  {k : Nat} {l : List Nat} (hL : Lst I 160 122 42 l) (hk : k < 2147483648) (hl : ∀ y, y ∈ l → y < 2147483648) (hn : l.length < 1025) : ∀ d p N, p + d = l.length → d < N → (∀ i, i < p → l.getD i 0 < k) →
    ∃ p', p' ≤ l.length ∧ (∀ i, i < p' → l.getD i 0 < k) ∧ (p' < l.length → k ≤ l.getD p' 0) ∧
      f_X12_comesOut_47 N 122 (Int32.ofNat k) (Int32.ofNat p) (I, J) = f_X12_comesOut_73 122 (Int32.ofNat k) (Int32.ofNat p') (I, J) := by
  intro d
  induction d with
  | zero =>
    intro p N hp hN hlt
    obtain ⟨N, rfl⟩ := Nat.exists_eq_add_of_le' (Nat.succ_le_of_lt hN)
    have e : (Int32.ofNat l.length ≤ Int32.ofNat p) = True := (i_le (by omega) (by omega)).trans (eq_true (by omega))
    refine ⟨p, by omega, hlt, fun q => by omega, ?_⟩
    rw [show N + (0 + 1) = N + 1 by omega, f_X12_comesOut_47]
    simp only [eLt, Option.bind_some, ↓reduceIte, true_and, and_true, eB, decide_true, decide_false, Bool.or_true, Bool.true_or, not_true_eq_false, not_false_eq_true, e, K_122, R_122_41, K_160, hL.1]
  | succ d ih =>
    intro p N hp hN hlt
    obtain ⟨N, rfl⟩ := Nat.exists_eq_add_of_le' (Nat.succ_le_of_lt hN)
    have e : (Int32.ofNat l.length ≤ Int32.ofNat p) = False := (i_le (by omega) (by omega)).trans (eq_false (by omega))
    have h1 : (Int32.ofNat p).toNatClampNeg = p := i_tn (by omega)
    have h2 : eix (Int32.ofNat p) 1024 = true := i_ix (by omega) (by decide)
    have hp' : p < l.length := by omega
    have hv := hl _ (getD_mem hp')
    have e2 : (Int32.ofNat k ≤ Int32.ofNat (l.getD p 0)) = (k ≤ l.getD p 0) := i_le hk hv
    have e1 : Int32.ofNat p + 1 = Int32.ofNat (p + 1) := i_ad (m := 1)
    rw [show N + (d + 1 + 1) = N + d + 1 + 1 by omega]
    by_cases q : k ≤ l.getD p 0
    · refine ⟨p, by omega, hlt, fun _ => q, ?_⟩
      rw [f_X12_comesOut_47]
      simp only [eLt, Option.bind_some, ↓reduceIte, true_and, and_true, eB, decide_true, decide_false, Bool.or_true, Bool.true_or, not_true_eq_false, not_false_eq_true, e, K_122, R_122_41, K_160, hL.1, h1, h2, hL.2 p hp', e2, q]
    · obtain ⟨p', b1, b2, b3, b4⟩ := ih (p + 1) (N + d + 1) (by omega) (by omega) (fun i hi => by
        by_cases g : i = p
        · subst g
          omega
        · exact hlt i (by omega))
      refine ⟨p', b1, b2, b3, ?_⟩
      rw [f_X12_comesOut_47]
      simp only [eLt, Option.bind_some, ↓reduceIte, true_and, and_true, eB, decide_true, decide_false, Bool.or_true, Bool.true_or, not_true_eq_false, not_false_eq_true, e, K_122, R_122_41, K_160, hL.1, h1, h2, hL.2 p hp', e2, q, e1]
      exact b4
/-- the list once it has been put in -/
theorem ri_put  (hne : ¬ 160 = 122) {k p : Nat} {l : List Nat} (hL : Lst I 160 122 42 l) (hp : p ≤ l.length) (hn : l.length < 1024) (N : Nat) (hN : l.length < N) :
    ∃ I', f_X12_comesOut_100 N 122 (Int32.ofNat k) (Int32.ofNat p) (Int32.ofNat l.length) (I, J) = some ((), (I', J)) ∧ Lst I' 160 122 42 (gIn l p k) ∧ (∀ i, ¬ i = 42 → I' 122 i = I 122 i) ∧ ∀ r, ¬ r = 160 → ¬ r = 122 → I' r = I r := by
  obtain ⟨I', a1, a2, a3, a4, a5⟩ := ri_shift  hne (J := J) (k := k) (p := p) (l.length - p) N I (by omega) (by omega)
  have e : p + (l.length - p) = l.length := by omega
  rw [e] at a1
  refine ⟨I', a1, ⟨?_, fun i hi => ?_⟩, a4, a5⟩
  · rw [a3, hL.1, gIn_len hp]
    exact i_ad (m := 1)
  · rw [gIn_len hp] at hi
    rw [a2 i, gIn_get hp, e]
    by_cases q1 : i < p
    · rw [if_pos q1, if_pos q1]
      exact hL.2 i (by omega)
    · rw [if_neg q1, if_neg q1]
      by_cases q2 : i = p
      · rw [if_pos q2, if_pos q2]
      · rw [if_neg q2, if_neg q2, if_pos (by omega)]
        exact hL.2 (i - 1) (by omega)
theorem ri_incl  (hne : ¬ 160 = 122) {k : Nat} {l : List Nat} (hL : Lst I 160 122 42 l) (hs : gSo l) (hk : k < 2147483648) (hl : ∀ y, y ∈ l → y < 2147483648) (hn : l.length ≤ 720) (hr : ¬ k ∈ l → l.length < 720) :
    ∃ I' l', f_X12_comesOut_47 1000000 122 (Int32.ofNat k) 0 (I, J) = some ((), (I', J)) ∧ Lst I' 160 122 42 l' ∧ gSo l' ∧ (∀ y, y ∈ l' ↔ y ∈ l ∨ y = k) ∧ (∀ i, ¬ i = 42 → I' 122 i = I 122 i) ∧ ∀ r, ¬ r = 160 → ¬ r = 122 → I' r = I r := by
  obtain ⟨p, b1, b2, b3, b4⟩ := ri_find  (J := J) hL hk hl (by omega) l.length 0 1000000 (by omega) (by omega) (fun i hi => absurd hi (Nat.not_lt_zero i))
  rw [show (0 : Int32) = Int32.ofNat 0 from rfl, b4]
  have h1 : (Int32.ofNat p).toNatClampNeg = p := i_tn (by omega)
  have e : (Int32.ofNat l.length ≤ Int32.ofNat p) = (l.length ≤ p) := i_le (by omega) (by omega)
  have hput : ∀ (h : l.length < 720), (p < l.length → k < l.getD p 0) → (∃ I' l', f_X12_comesOut_100 1000000 122 (Int32.ofNat k) (Int32.ofNat p) (I 122 42) (I, J) = some ((), (I', J)) ∧ Lst I' 160 122 42 l' ∧ gSo l' ∧ (∀ y, y ∈ l' ↔ y ∈ l ∨ y = k) ∧ (∀ i, ¬ i = 42 → I' 122 i = I 122 i) ∧ ∀ r, ¬ r = 160 → ¬ r = 122 → I' r = I r) := by
    intro h hp
    obtain ⟨I', c1, c2, c3, c4⟩ := ri_put  (J := J) (k := k) hne hL b1 (by omega) 1000000 (by omega)
    rw [hL.1]
    exact ⟨I', gIn l p k, c1, c2, gIn_so hs b1 b2 hp, fun y => gIn_mem, c3, c4⟩
  by_cases q : l.length ≤ p
  · have hnot : ¬ k ∈ l := by
      intro g
      obtain ⟨i, g1, g2⟩ := mem_getD g
      have := b2 i (by omega)
      omega
    have h7 := hr hnot
    have h := hput h7 (fun g => absurd g (by omega))
    unfold f_X12_comesOut_73 f_X12_comesOut_94
    simp only [eLt, Option.bind_some, ↓reduceIte, true_and, and_true, eB, decide_true, decide_false, Bool.or_true, Bool.true_or, not_true_eq_false, not_false_eq_true, K_122, hL.1, e, q]
    rw [hL.1] at h
    exact h
  · have h2 : eix (Int32.ofNat p) 1024 = true := i_ix (by omega) (by decide)
    have hp' : p < l.length := by omega
    have hv := hl _ (getD_mem hp')
    have e2 : (Int32.ofNat (l.getD p 0) = Int32.ofNat k) = (l.getD p 0 = k) := i_eq hv hk
    have b3' := b3 hp'
    by_cases q2 : l.getD p 0 = k
    · refine ⟨I, l, ?_, hL, hs, fun y => ⟨Or.inl, ?_⟩, fun _ _ => rfl, fun _ _ _ => rfl⟩
      · unfold f_X12_comesOut_73
        simp only [eLt, Option.bind_some, ↓reduceIte, true_and, and_true, eB, decide_true, decide_false, Bool.or_true, Bool.true_or, not_true_eq_false, not_false_eq_true, K_122, R_122_41, K_160, hL.1, e, q, h1, h2, hL.2 p hp', e2, q2]
      · rintro (g | g)
        · exact g
        · rw [g, ← q2]
          exact getD_mem hp'
    · have hnot : ¬ k ∈ l := by
        intro g
        obtain ⟨i, g1, g2⟩ := mem_getD g
        by_cases g3 : i < p
        · have := b2 i g3
          omega
        · by_cases g4 : i = p
          · subst g4
            exact q2 g2
          · have := hs p i (by omega) g1
            omega
      have h7 := hr hnot
      have h := hput h7 (fun g => by omega)
      unfold f_X12_comesOut_73 f_X12_comesOut_94
      simp only [eLt, Option.bind_some, ↓reduceIte, true_and, and_true, eB, decide_true, decide_false, Bool.or_true, Bool.true_or, not_true_eq_false, not_false_eq_true, K_122, R_122_41, K_160, hL.1, e, q, h1, h2, hL.2 p hp', e2, q2]
      rw [hL.1] at h
      exact h
end EPZ
