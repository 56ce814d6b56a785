/-! the class's calls about programs: each -/
section EPS
variable {P : aP} {I I' I0 : Nat → Nat → Int32} {J J0 : Nat → Nat → Int64} {m r y z k n p t s N v w i j A Q K depth : Nat} {S : aT} {l L M : List Nat} {st X Y Z W : Int32} {x x' : Int64} {σ : eMem} {e : Int32 → Nat}
theorem cP_th (E : Nat) (t : Int32) {z : Option ((Nat ⊕ Int32) × eMem)} {y : Int32} (hz : z = some (.inl E, (I, J))) (ht : ¬ t = 0) (he : e t = E) (h : RPC I P) : cP e z I J (t, y, P) := by
  refine ⟨I, ?_, h, fun _ _ => rfl⟩
  rw [hz, if_neg ht, he]
theorem m_ok (hm : m < 2) : f_X11_needWithin (Int32.ofNat m) 0 1 σ = some (.inr (), σ) :=
  nw_ok (by rw [i_lt0 (by omega)]; exact not_false) (by rw [show (Int32.ofNat m ≤ 1) = (m ≤ 1) from i_le (m := 1) (by omega) (by decide)]; omega)
theorem ct_outcomes (hm : m < 2) (h : RPC I P) : ∃ l, gLi P m l ∧ cP xEA (f_X11_outcomes 2 (Int32.ofNat m) (I, J)) I J (0, Int32.ofNat l.length, P) := by
  obtain ⟨I', l, Q, A, a1, a2, a3, a4, a5, a6, a7, a8, a9, a10⟩ := ob_all (J := J) hm h
  refine ⟨l, a4, I', ?_, a2, fun r hr => a10 r (by split at a9 <;> omega) (by split at a8 <;> omega)⟩
  unfold f_X11_outcomes
  simp only [m_ok hm, eThen, eLt, Option.bind_some, ↓reduceIte, K_2, R_2_4, R_2_5, R_2_6, R_2_7, K_58, K_64, K_66, K_68, R_64_0, R_66_0, K_65, K_67, true_and, and_true, eB, decide_true, decide_false, Bool.or_true, Bool.true_or, not_true_eq_false, not_false_eq_true, a1, a5, a3.1]
theorem ct_outcomesN (hb : X < 0 ∨ ¬ X ≤ 1) (h : RPC I P) : cP xEA (f_X11_outcomes 2 X (I, J)) I J (1, 0, P) := by
  refine cP_th 1 1 ?_ (by decide) rfl h
  unfold f_X11_outcomes
  rw [nw_no hb]
  rfl
theorem ct_outcome (hm : m < 2) (h : RPC I P) : ∃ l, gLi P m l ∧ ((Y < 0 ∨ ¬ Y < Int32.ofNat l.length) → cP xEQ (f_X11_outcome 2 (Int32.ofNat m) Y (I, J)) I J (1, 0, P)) ∧
    ∀ k, k < l.length → Y = Int32.ofNat k → cP xEQ (f_X11_outcome 2 (Int32.ofNat m) Y (I, J)) I J (0, Int32.ofNat (l.getD k 0), P) := by
  obtain ⟨I', l, Q, A, a1, a2, a3, a4, a5, a6, a7, a8, a9, a10⟩ := ob_all (J := J) hm h
  have hlen := gLi_len a2.1.1 a4.1 (fun k hk => (a4.2 k).1 hk)
  refine ⟨l, a4, fun hb => ?_, fun k hk hY => ?_⟩
  · refine ⟨I', ?_, a2, fun r hr => a10 r (by split at a9 <;> omega) (by split at a8 <;> omega)⟩
    unfold f_X11_outcome
    simp only [m_ok hm, eThen, eLt, Option.bind_some, ↓reduceIte, K_2, R_2_4, R_2_5, R_2_6, R_2_7, K_58, K_64, K_66, K_68, R_64_0, R_66_0, K_65, K_67, true_and, and_true, eB, decide_true, decide_false, Bool.or_true, Bool.true_or, not_true_eq_false, not_false_eq_true, a1, a5, a3.1, ni_no hb]
    rw [if_neg (by decide)]
    rfl
  · refine ⟨I', ?_, a2, fun r hr => a10 r (by split at a9 <;> omega) (by split at a8 <;> omega)⟩
    subst hY
    have h1 : (Int32.ofNat k).toNatClampNeg = k := i_tn (by omega)
    have h2 : eix (Int32.ofNat k) 720 = true := i_ix (by omega) (by decide)
    unfold f_X11_outcome
    simp only [m_ok hm, eThen, eLt, Option.bind_some, ↓reduceIte, K_2, R_2_4, R_2_5, R_2_6, R_2_7, K_58, K_64, K_66, K_68, R_64_0, R_66_0, K_65, K_67, true_and, and_true, eB, decide_true, decide_false, Bool.or_true, Bool.true_or, not_true_eq_false, not_false_eq_true, a1, a5, a3.1, a6, a7, ni_ok (show ¬ Int32.ofNat k < 0 by rw [i_lt0 (by omega)]; exact not_false) (show Int32.ofNat k < Int32.ofNat l.length by rw [i_lt (by omega) (by omega)]; exact hk), h1, h2, a3.2 k hk]
theorem ct_outcomeN (hb : X < 0 ∨ ¬ X ≤ 1) (h : RPC I P) : cP xEQ (f_X11_outcome 2 X Y (I, J)) I J (2, 0, P) := by
  refine cP_th 1 2 ?_ (by decide) rfl h
  unfold f_X11_outcome
  rw [nw_no hb]
  rfl
theorem ct_anew (hm : m < 2) (h : RPC I P) : ∃ l, gLi P m l ∧ cP xEA (f_X11_outcomesAnew 2 (Int32.ofNat m) (I, J)) I J (0, Int32.ofNat l.length, P) := by
  obtain ⟨I', l, a1, a2, a3⟩ := co_anew (J := J) hm h.1
  refine ⟨l, a2, I', ?_, ⟨PgC_fr h.1 (fun r h1 h2 => a3 r (by omega)), ChC_fr h.2.1 (a3 65 (by omega)) (a3 64 (by omega)), ChC_fr h.2.2 (a3 67 (by omega)) (a3 66 (by omega))⟩, fun r hr => a3 r (by omega)⟩
  unfold f_X11_outcomesAnew
  simp only [m_ok hm, eThen, eLt, Option.bind_some, ↓reduceIte, K_2, R_2_4, R_2_5, R_2_6, R_2_7, K_58, K_64, K_66, K_68, R_64_0, R_66_0, K_65, K_67, true_and, and_true, eB, decide_true, decide_false, Bool.or_true, Bool.true_or, not_true_eq_false, not_false_eq_true, a1]
theorem ct_anewN (hb : X < 0 ∨ ¬ X ≤ 1) (h : RPC I P) : cP xEA (f_X11_outcomesAnew 2 X (I, J)) I J (1, 0, P) := by
  refine cP_th 1 1 ?_ (by decide) rfl h
  unfold f_X11_outcomesAnew
  rw [nw_no hb]
  rfl
theorem cs_same (hl : Lst I 65 64 1 l) (hL : Lst I 67 66 1 l) (h7 : l.length ≤ 720) : ∀ d k N, k + d = l.length → d < N → f_X6_isSameAs_15 N 64 66 (Int32.ofNat k) (I, J) = some (1, (I, J)) := by
  intro d
  induction d with
  | zero =>
    intro k N hk hN
    have hk' : k = l.length := hk
    obtain ⟨N, rfl⟩ := Nat.exists_eq_add_of_le' (Nat.succ_le_of_lt hN)
    have e : (Int32.ofNat l.length ≤ Int32.ofNat k) = True := (i_le (by omega) (by omega)).trans (eq_true (by omega))
    rw [show N + (0 + 1) = N + 1 by omega, f_X6_isSameAs_15]
    simp only [eThen, eLt, Option.bind_some, ↓reduceIte, K_2, R_2_4, R_2_5, R_2_6, R_2_7, K_58, K_64, K_66, K_68, R_64_0, R_66_0, K_65, K_67, true_and, and_true, eB, decide_true, decide_false, Bool.or_true, Bool.true_or, not_true_eq_false, not_false_eq_true, hl.1, e]
  | succ d ih =>
    intro k N hk hN
    obtain ⟨N, rfl⟩ := Nat.exists_eq_add_of_le' (Nat.succ_le_of_lt hN)
    have e : (Int32.ofNat l.length ≤ Int32.ofNat k) = False := (i_le (by omega) (by omega)).trans (eq_false (by omega))
    have e1 : Int32.ofNat k + 1 = Int32.ofNat (k + 1) := i_ad (m := 1)
    have h1 : (Int32.ofNat k).toNatClampNeg = k := i_tn (by omega)
    have h2 : eix (Int32.ofNat k) 720 = true := i_ix (by omega) (by decide)
    rw [show N + (d + 1 + 1) = N + d + 1 + 1 by omega, f_X6_isSameAs_15]
    simp only [eThen, eLt, Option.bind_some, ↓reduceIte, K_2, R_2_4, R_2_5, R_2_6, R_2_7, K_58, K_64, K_66, K_68, R_64_0, R_66_0, K_65, K_67, true_and, and_true, eB, decide_true, decide_false, Bool.or_true, Bool.true_or, not_true_eq_false, not_false_eq_true, hl.1, e, h1, h2, hl.2 k (by omega), hL.2 k (by omega), e1]
    exact ih (k + 1) (N + d + 1) (by omega) (by omega)
theorem ct_alike (h : RPC I P) : ∃ I' l0 l1, gLi P 0 l0 ∧ gLi P 1 l1 ∧ f_X11_areAlike 2 (I, J) = some (if l0.length = l1.length then 1 else 0, (I', J)) ∧ RPC I' P ∧ ∀ r, ¬ (58 ≤ r ∧ r < 74) → I' r = I r := by
  obtain ⟨I1, l0, Q0, A0, a1, a2, a3, a4, a5, a6, a7, a8, a9, a10⟩ := ob_all (J := J) (m := 0) (by decide) h
  obtain ⟨I2, l1, Q1, A1, b1, b2, b3, b4, b5, b6, b7, b8, b9, b10⟩ := ob_all (J := J) (m := 1) (by decide) a2
  rw [if_pos rfl] at a8 a9
  rw [if_neg (by decide)] at b8 b9
  subst a8 a9 b8 b9
  have a1' : f_X11_outcomesBy 2 0 (I, J) = some (64, (I1, J)) := a1
  have b1' : f_X11_outcomesBy 2 1 (I1, J) = some (66, (I2, J)) := b1
  have hL0 : Lst I2 65 64 1 l0 := by
    unfold Lst
    rw [b10 65 (by decide) (by decide), b10 64 (by decide) (by decide)]
    exact a3
  have h0 := gLi_len a2.1.1 a4.1 (fun k hk => (a4.2 k).1 hk)
  have h1 := gLi_len b2.1.1 b4.1 (fun k hk => (b4.2 k).1 hk)
  refine ⟨I2, l0, l1, a4, b4, ?_, b2, fun r hr => by rw [b10 r (by omega) (by omega), a10 r (by omega) (by omega)]⟩
  have hs : f_X6_isSameAs 64 66 (I2, J) = some (if l0.length = l1.length then 1 else 0, (I2, J)) := by
    have el : (Int32.ofNat l0.length = Int32.ofNat l1.length) = (l0.length = l1.length) := i_eq (by omega) (by omega)
    unfold f_X6_isSameAs
    simp only [eThen, eLt, Option.bind_some, ↓reduceIte, K_2, R_2_4, R_2_5, R_2_6, R_2_7, K_58, K_64, K_66, K_68, R_64_0, R_66_0, K_65, K_67, true_and, and_true, eB, decide_true, decide_false, Bool.or_true, Bool.true_or, not_true_eq_false, not_false_eq_true, hL0.1, b3.1, el]
    by_cases q : l0.length = l1.length
    · have eq := gLi_alike a4 b4 q
      subst eq
      rw [if_pos rfl, if_pos rfl]
      exact cs_same hL0 b3 h0 l0.length 0 1000000 (by omega) (by omega)
    · rw [if_neg q, if_neg q]
  unfold f_X11_areAlike
  simp only [eThen, eLt, Option.bind_some, ↓reduceIte, K_2, R_2_4, R_2_5, R_2_6, R_2_7, K_58, K_64, K_66, K_68, R_64_0, R_66_0, K_65, K_67, true_and, and_true, eB, decide_true, decide_false, Bool.or_true, Bool.true_or, not_true_eq_false, not_false_eq_true, a1', b1', hs]
  by_cases q : l0.length = l1.length
  · simp only [q, ↓reduceIte]
    rfl
  · simp only [q, ↓reduceIte]
    rfl
end EPS
