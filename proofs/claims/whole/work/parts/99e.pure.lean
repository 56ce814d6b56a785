/-! the class's orders: what one gives, and all -/
section EPZ
variable {P : aP} {I I' I0 : Nat → Nat → Int32} {J J0 : Nat → Nat → Int64} {m r x y k n p t s N v w i j : Nat} {S : aT} {l L M : List Nat} {st : Int32}
theorem PgC_fr (h : PgC I P) (e : ∀ r, 58 ≤ r → r < 64 → I' r = I r) : PgC I' P :=
  ⟨h.1, fun t ht => by rw [e 63 (by decide) (by decide)]; exact h.2.1 t ht, fun x hx => by
    rw [e 59 (by decide) (by decide), e 60 (by decide) (by decide), e 61 (by decide) (by decide), e 62 (by decide) (by decide)]
    exact h.2.2 x hx⟩
theorem gSee_le (h : gWf P) (hS : gBd P S r) (hx : gU P x = true) : gSee P S x ≤ 15 := by
  refine gLk_le ?_ _ (fun k hk g => ?_)
  · have := hS.2.1 _ (h.2.2 x hx).2.1
    omega
  · rw [Bool.and_eq_true, decide_eq_true_iff] at g
    have hx' := gU_iff.1 hx
    have hu : gU P (x / 4 * 4 + k) = true := gU_iff.2 ⟨by omega, by rw [show (x / 4 * 4 + k) / 4 = x / 4 by omega]; omega⟩
    have := (h.2.2 _ hu).2.2 g.1.1
    show P.2.2.2 (x / 4 * 4 + k) ≤ 15
    omega
/-- what is done and what is there, once a step has become visible -/
theorem Os_s0 (hS : OsOk I S) (hx : x < 12) (hw : ¬ P.2.1 x = 0) (hw3 : ¬ P.2.1 x = 3) : OsOk (eup I 70 x 1) (gEf P S x) := by
  refine ⟨fun y hy => ?_, fun q hq => ?_⟩
  · show _ = if (decide (y = x) || S.1 y) = true then 1 else 0
    by_cases e : y = x
    · rw [e, up_eq, decide_eq_true rfl, Bool.true_or, if_pos rfl]
    · rw [up_k e, decide_eq_false e, Bool.false_or]
      exact hS.1 y hy
  · show _ = Int32.ofNat (gCo P S.2.1 x q)
    unfold gCo
    rw [if_neg hw, if_neg hw3, up_r (by decide)]
    exact hS.2 q hq
theorem Os_s1 {u : Nat} (hS : OsOk I S) (hx : x < 12) (hc : gCo P S.2.1 x = gUp S.2.1 (P.2.2.1 x) u) : OsOk (eup (eup I 70 x 1) 71 (P.2.2.1 x) (Int32.ofNat u)) (gEf P S x) := by
  refine ⟨fun y hy => ?_, fun q hq => ?_⟩
  · show _ = if (decide (y = x) || S.1 y) = true then 1 else 0
    rw [up_r (by decide)]
    by_cases e : y = x
    · rw [e, up_eq, decide_eq_true rfl, Bool.true_or, if_pos rfl]
    · rw [up_k e, decide_eq_false e, Bool.false_or]
      exact hS.1 y hy
  · show _ = Int32.ofNat (gCo P S.2.1 x q)
    rw [hc]
    by_cases e : q = P.2.2.1 x
    · rw [e, up_eq, gUp_eq]
    · rw [up_k e, up_r (by decide), gUp_ne e]
      exact hS.2 q hq
theorem co_run (h6 : L.length ≤ 6) (hU : OdU P L) : ∀ d i N (I : Nat → Nat → Int32) S, i + d = L.length → 2 * d + 1 ≤ N → OdOk I L → PgC I P → OsOk I S → gBd P S d → gRun P m S (L.drop i) →
    ∃ I', f_X5_outcomeOf_L46 N (.inl (68, 58, Int32.ofNat L.length, Int32.ofNat S.2.2, Int32.ofNat i)) (I, J) = some (Int32.ofNat (gTl P S (L.drop i)), (I', J)) ∧ ∀ r, ¬ r = 70 → ¬ r = 71 → I' r = I r := by
  intro d
  induction d with
  | zero =>
    intro i N I S hi hN hO hP hS hB hr
    obtain ⟨N, rfl⟩ := Nat.exists_eq_add_of_le' hN
    have e : (Int32.ofNat L.length ≤ Int32.ofNat i) = True := (i_le (by omega) (by omega)).trans (eq_true (by omega))
    refine ⟨I, ?_, fun _ _ _ => rfl⟩
    rw [show N + (2 * 0 + 1) = N + 1 by omega, f_X5_outcomeOf_L46, List.drop_eq_nil_of_le (by omega)]
    simp only [e, ↓reduceIte]
    rfl
  | succ d ih =>
    intro i N I S hi hN hO hP hS hB hr
    obtain ⟨N, rfl⟩ := Nat.exists_eq_add_of_le' hN
    have hil : i < L.length := by omega
    have e : (Int32.ofNat L.length ≤ Int32.ofNat i) = False := (i_le (by omega) (by omega)).trans (eq_false (by omega))
    have e1 : Int32.ofNat i + 1 = Int32.ofNat (i + 1) := i_ad (m := 1)
    have hx := hU _ (getD_mem hil)
    have ed : L.drop i = L.getD i 0 :: L.drop (i + 1) := by
      rw [List.getD_eq_getElem?_getD, List.getElem?_eq_getElem hil]
      exact List.drop_eq_getElem_cons hil
    rw [ed] at hr
    rw [ed]
    obtain ⟨s, es, hB'⟩ := gBd_s hP.1 hB hr.1
    have es' : s = d := by omega
    subst es'
    have hO0 := hO i hil
    generalize L.getD i 0 = x at *
    have hx' := (gU_iff.1 hx).1
    have hsee := gSee_le hP.1 hB hx
    obtain ⟨w1, w2, w3⟩ := hP.1.2.2 x hx
    obtain ⟨p1, p2, p3, p4⟩ := hP.2.2 x hx
    have d0 : (Int32.ofNat (P.2.1 x) = 0) = (P.2.1 x = 0) := i_eq (m := 0) (by omega) (by decide)
    have d3 : (Int32.ofNat (P.2.1 x) = 3) = (P.2.1 x = 3) := i_eq (m := 3) (by omega) (by decide)
    have dr : gTl P S (x :: L.drop (i + 1)) = gTl P (gEf P S x) (L.drop (i + 1)) := rfl
    have dt : (gEf P S x).2.2 = S.2.2 + gWt P x * min (gSee P S x) 9 := rfl
    -- how it goes on
    have go : ∀ I1, OsOk I1 (gEf P S x) → (∀ r, ¬ r = 70 → ¬ r = 71 → I1 r = I r) →
        ∃ I', f_X5_outcomeOf_L46 (N + 2 * s + 1 + 1) (.inr (68, 58, Int32.ofNat L.length, Int32.ofNat (gEf P S x).2.2, Int32.ofNat i)) (I1, J) = some (Int32.ofNat (gTl P (gEf P S x) (L.drop (i + 1))), (I', J)) ∧ ∀ r, ¬ r = 70 → ¬ r = 71 → I' r = I r := by
      intro I1 hI1 hf
      obtain ⟨I', b1, b2⟩ := ih (i + 1) (N + 2 * s + 1) I1 (gEf P S x) (by omega) (by omega) (fun i hi => by
        rw [hf 69 (by decide) (by decide)]
        exact hO i hi) (PgC_fr hP (fun r h1 h2 => hf r (by omega) (by omega))) hI1 hB' hr.2
      refine ⟨I', ?_, fun r h1 h2 => by rw [b2 r h1 h2, hf r h1 h2]⟩
      rw [f_X5_outcomeOf_L46, e1]
      exact b1
    rw [dr, show N + (2 * (s + 1) + 1) = N + 2 * s + 1 + 1 + 1 by omega, f_X5_outcomeOf_L46]
    have c0 : ∀ r i, ¬ r = 70 → eup I 70 x 1 r i = I r i := fun r i hr' => up_r hr'
    simp only [e, eLt, Option.bind_some, ↓reduceIte, K_58, K_59, K_60, K_61, K_62, K_63, R_58_0, R_58_1, R_58_2, R_58_3, R_58_4, K_68, K_69, K_70, K_71, R_68_0, R_68_1, R_68_2, R_68_3, K_72, R_72_0, K_73, true_and, and_true, eB, decide_true, decide_false, Bool.or_true, Bool.true_or, not_true_eq_false, not_false_eq_true, g_tn (show i < 6 by omega), g_ix (show i < 6 by omega), hO0, co_seen hx hP hS, cp_told hx hP (show gSee P S x < 2147483648 by omega), i_ad, x_tn hx', x_ix hx', c0 59 _ (by decide), c0 60 _ (by decide), c0 61 _ (by decide), c0 71 _ (by decide), p1, p2, d0, d3, t_tn w2, t_ix w2]
    rw [← dt]
    by_cases q : P.2.1 x = 0
    · simp only [q, ↓reduceIte, not_true_eq_false, p3 q]
      refine go _ (Os_s1 hS hx' ?_) (fun r h1 h2 => by rw [up_fr h2, up_fr h1])
      unfold gCo
      rw [if_pos q]
    · by_cases q3 : P.2.1 x = 3
      · have eq : Int32.ofNat (S.2.1 (P.2.2.1 x)) + 1 = Int32.ofNat (S.2.1 (P.2.2.1 x) + 1) := i_ad (m := 1)
        simp only [q, q3, ↓reduceIte, not_true_eq_false, not_false_eq_true, hS.2 _ w2, eq]
        refine go _ (Os_s1 hS hx' ?_) (fun r h1 h2 => by rw [up_fr h2, up_fr h1])
        unfold gCo
        rw [if_neg q, if_pos q3]
      · simp only [q, q3, ↓reduceIte, not_false_eq_true]
        exact go _ (Os_s0 hS hx' q q3) (fun r h1 h2 => by rw [up_fr h1])
theorem co_z2 {n : Int32} : ∀ d k N (I : Nat → Nat → Int32), k + d = 12 → d < N → (∀ x, x < k → I 70 x = 0) →
    ∃ I', f_X5_outcomeOf_22 N 68 58 n (Int32.ofNat k) (I, J) = f_X5_outcomeOf_L46 1000000 (.inl (68, 58, n, 0, 0)) (I', J) ∧ (∀ x, x < 12 → I' 70 x = 0) ∧ ∀ r, ¬ r = 70 → I' r = I r := by
  intro d
  induction d with
  | zero =>
    intro k N I hk hN hz
    obtain ⟨N, rfl⟩ := Nat.exists_eq_add_of_le' (Nat.succ_le_of_lt hN)
    have e : ((12 : Int32) ≤ Int32.ofNat k) = True := (i_le (n := 12) (by decide) (by omega)).trans (eq_true (by omega))
    refine ⟨I, ?_, fun x hx => hz x (by omega), fun _ _ => rfl⟩
    rw [show N + (0 + 1) = N + 1 by omega, f_X5_outcomeOf_22]
    simp only [e, ↓reduceIte]
  | succ d ih =>
    intro k N I hk hN hz
    obtain ⟨N, rfl⟩ := Nat.exists_eq_add_of_le' (Nat.succ_le_of_lt hN)
    have e : ((12 : Int32) ≤ Int32.ofNat k) = False := (i_le (n := 12) (by decide) (by omega)).trans (eq_false (by omega))
    have e1 : Int32.ofNat k + 1 = Int32.ofNat (k + 1) := i_ad (m := 1)
    obtain ⟨I', b1, b2, b3⟩ := ih (k + 1) (N + d + 1) (eup I 70 k 0) (by omega) (by omega) (fun x hx => by
      by_cases q : x = k
      · rw [q, up_eq]
      · rw [up_k q]
        exact hz x (by omega))
    refine ⟨I', ?_, b2, fun r hr => by rw [b3 r hr, up_fr hr]⟩
    rw [show N + (d + 1 + 1) = N + d + 1 + 1 by omega, f_X5_outcomeOf_22]
    simp only [e, eLt, Option.bind_some, ↓reduceIte, K_58, K_59, K_60, K_61, K_62, K_63, R_58_0, R_58_1, R_58_2, R_58_3, R_58_4, K_68, K_69, K_70, K_71, R_68_0, R_68_1, R_68_2, R_68_3, K_72, R_72_0, K_73, true_and, and_true, eB, decide_true, decide_false, Bool.or_true, Bool.true_or, not_true_eq_false, not_false_eq_true, x_tn (show k < 12 by omega), x_ix (show k < 12 by omega), e1]
    exact b1
theorem co_z1 {n : Int32} : ∀ d k N (I : Nat → Nat → Int32), k + d = 3 → d < N → (∀ x, x < k → I 71 x = 0) →
    ∃ I', f_X5_outcomeOf_2 N 68 58 n (Int32.ofNat k) (I, J) = f_X5_outcomeOf_22 1000000 68 58 n 0 (I', J) ∧ (∀ x, x < 3 → I' 71 x = 0) ∧ ∀ r, ¬ r = 71 → I' r = I r := by
  intro d
  induction d with
  | zero =>
    intro k N I hk hN hz
    obtain ⟨N, rfl⟩ := Nat.exists_eq_add_of_le' (Nat.succ_le_of_lt hN)
    have e : ((3 : Int32) ≤ Int32.ofNat k) = True := (i_le (n := 3) (by decide) (by omega)).trans (eq_true (by omega))
    refine ⟨I, ?_, fun x hx => hz x (by omega), fun _ _ => rfl⟩
    rw [show N + (0 + 1) = N + 1 by omega, f_X5_outcomeOf_2]
    simp only [e, ↓reduceIte]
  | succ d ih =>
    intro k N I hk hN hz
    obtain ⟨N, rfl⟩ := Nat.exists_eq_add_of_le' (Nat.succ_le_of_lt hN)
    have e : ((3 : Int32) ≤ Int32.ofNat k) = False := (i_le (n := 3) (by decide) (by omega)).trans (eq_false (by omega))
    have e1 : Int32.ofNat k + 1 = Int32.ofNat (k + 1) := i_ad (m := 1)
    obtain ⟨I', b1, b2, b3⟩ := ih (k + 1) (N + d + 1) (eup I 71 k 0) (by omega) (by omega) (fun x hx => by
      by_cases q : x = k
      · rw [q, up_eq]
      · rw [up_k q]
        exact hz x (by omega))
    refine ⟨I', ?_, b2, fun r hr => by rw [b3 r hr, up_fr hr]⟩
    rw [show N + (d + 1 + 1) = N + d + 1 + 1 by omega, f_X5_outcomeOf_2]
    simp only [e, eLt, Option.bind_some, ↓reduceIte, K_58, K_59, K_60, K_61, K_62, K_63, R_58_0, R_58_1, R_58_2, R_58_3, R_58_4, K_68, K_69, K_70, K_71, R_68_0, R_68_1, R_68_2, R_68_3, K_72, R_72_0, K_73, true_and, and_true, eB, decide_true, decide_false, Bool.or_true, Bool.true_or, not_true_eq_false, not_false_eq_true, t_tn (show k < 3 by omega), t_ix (show k < 3 by omega), e1]
    exact b1
/-- an allowed order's outcome -/
theorem co_outc (h6 : L.length ≤ 6) (hU : OdU P L) (hO : OdOk I L) (hP : PgC I P) (hB : gBd P gS0 L.length) (hr : gRun P m gS0 L) :
    ∃ I', f_X5_outcomeOf 68 58 (Int32.ofNat L.length) (I, J) = some (Int32.ofNat (gTl P gS0 L), (I', J)) ∧ ∀ r, ¬ r = 70 → ¬ r = 71 → I' r = I r := by
  obtain ⟨I1, a1, a2, a3⟩ := co_z1 (J := J) (n := Int32.ofNat L.length) 3 0 1000000 I (by decide) (by decide) (fun x hx => absurd hx (Nat.not_lt_zero x))
  obtain ⟨I2, b1, b2, b3⟩ := co_z2 (J := J) (n := Int32.ofNat L.length) 12 0 1000000 I1 (by decide) (by decide) (fun x hx => absurd hx (Nat.not_lt_zero x))
  have hf : ∀ r, ¬ r = 70 → ¬ r = 71 → I2 r = I r := fun r h1 h2 => by rw [b3 r h1, a3 r h2]
  obtain ⟨I3, c1, c2⟩ := co_run (J := J) (m := m) h6 hU L.length 0 1000000 I2 gS0 (by omega) (by omega) (fun i hi => by rw [hf 69 (by decide) (by decide)]; exact hO i hi)
    (PgC_fr hP (fun r h1 h2 => hf r (by omega) (by omega))) ⟨fun x hx => b2 x hx, fun q hq => by rw [b3 71 (by decide)]; exact a2 q hq⟩ hB hr
  refine ⟨I3, ?_, fun r h1 h2 => by rw [c2 r h1 h2, hf r h1 h2]⟩
  unfold f_X5_outcomeOf
  rw [show (0 : Int32) = Int32.ofNat 0 from rfl, a1, show (0 : Int32) = Int32.ofNat 0 from rfl, b1]
  exact c1
theorem gFi_le (h : gWf P) (hk : gFi P m k) : k ≤ 54000000 := gOut_le h _ _ (gBd_0 h) hk
end EPZ
