/-! the class: transactions begin and end -/
section EPD
variable {I I' I0 : Nat → Nat → Int32} {J : Nat → Nat → Int64} {a a' b : aS} {r i l q c k n p w z N o : Nat} {v t x y : Int32} {m : aM} {σ : eMem}
def oM (c : Nat) : Nat → Nat → (Nat → Nat → Int32) → Nat → Nat → Int32
  | 0, _, M => M
  | d + 1, k, M => oM c d (k + 1) (eup (eup M (80 + 12 * c) k 0) (81 + 12 * c) k (-1))
theorem oM_fr : ∀ d k M (r : Nat), ¬ r = 80 + 12 * c → ¬ r = 81 + 12 * c → oM c d k M r = M r := by
  intro d
  induction d with
  | zero => intro k M r h h2; rfl
  | succ d ih =>
    intro k M r h h2
    unfold oM
    rw [ih _ _ _ h h2, up_fr h2, up_fr h]
theorem oM_out : ∀ d k M i, i < k → oM c d k M (80 + 12 * c) i = M (80 + 12 * c) i ∧ oM c d k M (81 + 12 * c) i = M (81 + 12 * c) i := by
  intro d
  induction d with
  | zero => intro k M i h; exact ⟨rfl, rfl⟩
  | succ d ih =>
    intro k M i h
    unfold oM
    rw [(ih _ _ _ (by omega)).1, (ih _ _ _ (by omega)).2, up_o (by omega), up_o (by omega), up_o (r' := 81 + 12 * c) (by omega), up_o (r' := 81 + 12 * c) (by omega)]
    exact ⟨rfl, rfl⟩
theorem oM_in : ∀ d k M i, k ≤ i → i < k + d → oM c d k M (80 + 12 * c) i = 0 ∧ oM c d k M (81 + 12 * c) i = -1 := by
  intro d
  induction d with
  | zero => intro k M i h1 h2; omega
  | succ d ih =>
    intro k M i h1 h2
    unfold oM
    by_cases g : i = k
    · subst g
      rw [(oM_out _ _ _ _ (by omega)).1, (oM_out _ _ _ _ (by omega)).2, up_eq, up_o (by omega), up_eq]
      exact ⟨rfl, rfl⟩
    · exact ih _ _ _ (by omega) (by omega)
theorem cs_open1 (hc : c < 4) : ∀ d k N M, k + d = 16 → d + 1 ≤ N → f_X10_open_22 N (79 + 12 * c) (Int32.ofNat k) (M, J) = some (M (79 + 12 * c) 2, (oM c d k M, J)) := by
  intro d
  induction d with
  | zero =>
    intro k N M h1 h2
    obtain ⟨N, rfl⟩ := Nat.exists_eq_add_of_le h2
    rw [show 0 + 1 + N = N + 1 by omega, f_X10_open_22]
    have g1 : ((16 : Int32) ≤ Int32.ofNat k) = True := (i_le (n := 16) (by decide) (by omega)).trans (eq_true (by omega))
    simp only [eLt, Option.bind_some, ↓reduceIte, K_c74 hc, K_c75 hc, K_c76 hc, K_c77 hc, K_c78 hc, K_c79 hc, K_c80 hc, K_c81 hc, R_c1 hc, R_c2 hc, R_c3 hc, R_c4 hc, R_c5 hc, R_c6 hc, R_c8 hc, R_t5 hc, R_t6 hc, K_3, K_4, true_and, and_true, eB, decide_true, decide_false, Bool.or_true, Bool.true_or, not_true_eq_false, not_false_eq_true, g1]
    rfl
  | succ d ih =>
    intro k N M h1 h2
    obtain ⟨N, rfl⟩ := Nat.exists_eq_add_of_le h2
    rw [show d + 1 + 1 + N = d + 1 + N + 1 by omega, f_X10_open_22]
    have g1 : ((16 : Int32) ≤ Int32.ofNat k) = False := (i_le (n := 16) (by decide) (by omega)).trans (eq_false (by omega))
    have ht : (Int32.ofNat k).toNatClampNeg = k := i_tn (by omega)
    have hi : eix (Int32.ofNat k) 16 = true := i_ix (by omega) (by decide)
    simp only [eLt, Option.bind_some, ↓reduceIte, K_c74 hc, K_c75 hc, K_c76 hc, K_c77 hc, K_c78 hc, K_c79 hc, K_c80 hc, K_c81 hc, R_c1 hc, R_c2 hc, R_c3 hc, R_c4 hc, R_c5 hc, R_c6 hc, R_c8 hc, R_t5 hc, R_t6 hc, K_3, K_4, true_and, and_true, eB, decide_true, decide_false, Bool.or_true, Bool.true_or, not_true_eq_false, not_false_eq_true, g1, ht, hi, p1]
    rw [ih _ _ _ (by omega) (by omega), up_r (by omega), up_r (by omega)]
    rfl
theorem or_00 : (0 : Int32) ||| 0 = 0 := by decide
theorem bit_00 : ∀ l, l < 16 → aBit 0 l = false := by decide
theorem cs_open (hc : c < 4) (h : CF I0 I a) : cOk (f_X10_open (79 + 12 * c) (I, J)) I0 J (a.1 147 c) (aW (aW (aW (aW a 145 c 1) 146 c 0) 148 c 0) 149 c 0) := by
  have e2 : eup (eup (eup (eup I (79 + 12 * c) 0 1) (79 + 12 * c) 1 0) (79 + 12 * c) 3 0) (79 + 12 * c) 4 0 (79 + 12 * c) 2 = a.1 147 c := by
    rw [up_k (by decide), up_k (by decide), up_k (by decide), up_k (by decide)]
    exact tx_2 hc h
  unfold f_X10_open
  simp only [eLt, Option.bind_some, ↓reduceIte, K_c74 hc, K_c75 hc, K_c76 hc, K_c77 hc, K_c78 hc, K_c79 hc, K_c80 hc, K_c81 hc, R_c1 hc, R_c2 hc, R_c3 hc, R_c4 hc, R_c5 hc, R_c6 hc, R_c8 hc, R_t5 hc, R_t6 hc, K_3, K_4, true_and, and_true, eB, decide_true, decide_false, Bool.or_true, Bool.true_or, not_true_eq_false, not_false_eq_true]
  have := cs_open1 (J := J) hc 16 0 1000000 (eup (eup (eup (eup I (79 + 12 * c) 0 1) (79 + 12 * c) 1 0) (79 + 12 * c) 3 0) (79 + 12 * c) 4 0) (by decide) (by decide)
  have z0 : Int32.ofNat 0 = 0 := rfl
  rw [z0] at this
  rw [this, e2]
  have b : ∀ r, ¬ r = 145 → ¬ r = 146 → ¬ r = 148 → ¬ r = 149 → (aW (aW (aW (aW a 145 c 1) 146 c 0) 148 c 0) 149 c 0).1 r = a.1 r := fun r g1 g2 g3 g4 => by rw [aW_1 g4, aW_1 g3, aW_1 g2, aW_1 g1]
  refine c_ret (C_tx (a := a) hc (fun r g1 g2 g3 => by rw [oM_fr _ _ _ _ g2 g3, up_fr g1, up_fr g1, up_fr g1, up_fr g1]) (fun r i g1 g2 => by rw [aW_o (by omega), aW_o (by omega), aW_o (by omega), aW_o (by omega)]) rfl ?_ h)
  have f79 := oM_fr (c := c) 16 0 (eup (eup (eup (eup I (79 + 12 * c) 0 1) (79 + 12 * c) 1 0) (79 + 12 * c) 3 0) (79 + 12 * c) 4 0) (79 + 12 * c) (by omega) (by omega)
  have b45 : (aW (aW (aW (aW a 145 c 1) 146 c 0) 148 c 0) 149 c 0).1 145 c = 1 := by rw [aW_1 (by decide), aW_1 (by decide), aW_1 (by decide), aW_e]
  have b46 : (aW (aW (aW (aW a 145 c 1) 146 c 0) 148 c 0) 149 c 0).1 146 c = 0 := by rw [aW_1 (by decide), aW_1 (by decide), aW_e]
  have b48 : (aW (aW (aW (aW a 145 c 1) 146 c 0) 148 c 0) 149 c 0).1 148 c = 0 := by rw [aW_1 (by decide), aW_e]
  have b49 : (aW (aW (aW (aW a 145 c 1) 146 c 0) 148 c 0) 149 c 0).1 149 c = 0 := aW_e
  unfold TxOk
  rw [f79, e2, b45, b46, b48, b49, b 147 (by decide) (by decide) (by decide) (by decide), or_00]
  refine ⟨?_, ?_, rfl, fun _ => ⟨?_, ?_, fun l hl => ?_⟩⟩
  · rw [up_k (by decide), up_k (by decide), up_k (by decide), up_eq]
  · rw [up_k (by decide), up_k (by decide), up_eq]
  · rw [up_k (by decide), up_eq]
    decide
  · rw [up_eq]
    decide
  · rw [(oM_in _ _ _ _ (by omega) (by omega)).1, (oM_in _ _ _ _ (by omega) (by omega)).2, bit_00 l hl]
    exact ⟨rfl, rfl⟩
theorem T_shut (hc : c < 4) (h : CF I0 I a) : CF I0 (eup I (79 + 12 * c) 0 0) (aW a 145 c 0) := by
  refine C_tx (a := a) hc (fun r g1 g2 g3 => up_fr g1) (fun r i g1 g2 => aW_o (by omega)) rfl ?_ h
  obtain ⟨h1, h2, h3, h4⟩ := h.1.2.2.2.2.2.2.1 c hc
  unfold TxOk
  rw [up_eq, up_k (by decide), up_k (by decide), aW_e, aW_1 (by decide), aW_1 (r' := 147) (by decide)]
  exact ⟨rfl, h2, h3, fun g => absurd rfl g⟩
theorem T_count (hc : c < 4) (h : CF I0 I a) : CF I0 (eup I (79 + 12 * c) 2 (I (79 + 12 * c) 2 + 1)) (aW a 147 c (a.1 147 c + 1)) := by
  refine C_tx (a := a) hc (fun r g1 g2 g3 => up_fr g1) (fun r i g1 g2 => aW_o (by omega)) rfl ?_ h
  obtain ⟨h1, h2, h3, h4⟩ := h.1.2.2.2.2.2.2.1 c hc
  unfold TxOk
  rw [up_eq, up_k (by decide), up_k (by decide), up_k (by decide), up_k (by decide), up_fr (r' := 80 + 12 * c) (by omega), up_fr (r' := 81 + 12 * c) (by omega), aW_e, aW_1 (by decide), aW_1 (by decide), aW_1 (r' := 148) (by decide), aW_1 (r' := 149) (by decide), aW_1 (r' := 150) (by decide), h3]
  exact ⟨h1, h2, rfl, h4⟩
theorem cs_close (hc : c < 4) (h : CF I0 I a) : cOk (f_X10_close (79 + 12 * c) (I, J)) I0 J () (if a.1 146 c = 0 then aW a 145 c 0 else aW (aW a 145 c 0) 147 c (a.1 147 c + 1)) := by
  have e1 : eup I (79 + 12 * c) 0 0 (79 + 12 * c) 1 = a.1 146 c := by
    rw [up_k (by decide)]
    exact tx_1 hc h
  have h1 := T_shut hc h
  unfold f_X10_close f_X10_close_22
  simp only [eLt, Option.bind_some, ↓reduceIte, K_c74 hc, K_c75 hc, K_c76 hc, K_c77 hc, K_c78 hc, K_c79 hc, K_c80 hc, K_c81 hc, R_c1 hc, R_c2 hc, R_c3 hc, R_c4 hc, R_c5 hc, R_c6 hc, R_c8 hc, R_t5 hc, R_t6 hc, K_3, K_4, true_and, and_true, eB, decide_true, decide_false, Bool.or_true, Bool.true_or, not_true_eq_false, not_false_eq_true, e1]
  by_cases q : a.1 146 c = 0
  · simp only [q, ↓reduceIte]
    exact c_ret h1
  · simp only [q, ↓reduceIte]
    have h2 := T_count hc h1
    rw [aW_1 (r' := 147) (by decide)] at h2
    exact c_ret h2
/-- whether a line had to be asked for -/
def aEnF (a : aS) (c : Nat) : Nat → Nat → Bool → Bool
  | 0, _, s => s
  | n + 1, l, s => aEnF (if aOwd a c l = true then a else (aAsk a c l true).2) c n (l + 1) (s || !aOwd a c l)
theorem cs_askS {P : aS → Prop} (hc : c < 4) (hP : ∀ b l, l < 16 → P b → cF b c ∧ nF b c ∧ tF b c ∧ sF b c ∧ ¬ b.1 145 c = 0 ∧ (aOwd b c l = false → qAsk b c l true ∧ P (aAsk b c l true).2)) : ∀ d k N b I s, k + d = 16 → 5 * d + 1 ≤ N → P b → CF I0 I b →
    cOk (f_X0_askForStoredLines_L4 N (.inl (74 + 12 * c, bI s, Int32.ofNat k)) (I, J)) I0 J (bI (aEnF b c d k s)) (aEnA b c d k) := by
  intro d
  have h10 : ¬ (1 : Int32) = 0 := by decide
  induction d with
  | zero =>
    intro k N b I s h1 h2 hp h
    obtain ⟨N, rfl⟩ := Nat.exists_eq_add_of_le h2
    rw [show 5 * 0 + 1 + N = N + 1 by omega, f_X0_askForStoredLines_L4]
    have g1 : ((16 : Int32) ≤ Int32.ofNat k) = True := (i_le (n := 16) (by decide) (by omega)).trans (eq_true (by omega))
    have g2 : eB (bI s) = true := by cases s <;> rfl
    simp only [g1, g2, ↓reduceIte]
    exact c_ret h
  | succ d ih =>
    intro k N b I s h1 h2 hp h
    obtain ⟨N, rfl⟩ := Nat.exists_eq_add_of_le h2
    have hk : k < 16 := by omega
    obtain ⟨pF, pN, pT, pS, pO, pQ⟩ := hP b k hk hp
    have g1 : ((16 : Int32) ≤ Int32.ofNat k) = False := (i_le (n := 16) (by decide) (by omega)).trans (eq_false (by omega))
    have S : ∀ (s0 : Bool) (N2 : Nat), 5 * d + 3 ≤ N2 → s0 = aOwn (aStAt b c k) → cOk (f_X0_askForStoredLines_L4 N2 (.inr (.inr (.inl (74 + 12 * c, bI s, Int32.ofNat k, bI s0)))) (I, J)) I0 J (bI (aEnF b c (d + 1) k s)) (aEnA b c (d + 1) k) := by
      intro s0 N2 hN2 hs0
      obtain ⟨N2, rfl⟩ := Nat.exists_eq_add_of_le hN2
      rw [show 5 * d + 3 + N2 = 5 * d + 1 + N2 + 1 + 1 by omega, f_X0_askForStoredLines_L4]
      simp only [eLt, Option.bind_some, ↓reduceIte, K_c74 hc, K_c75 hc, K_c76 hc, K_c77 hc, K_c78 hc, K_c79 hc, K_c80 hc, K_c81 hc, R_c1 hc, R_c2 hc, R_c3 hc, R_c4 hc, R_c5 hc, R_c6 hc, R_c8 hc, R_t5 hc, R_t6 hc, K_3, K_4, true_and, and_true, eB, decide_true, decide_false, Bool.or_true, Bool.true_or, not_true_eq_false, not_false_eq_true, cs_stored hc hk h, pO]
      unfold aEnF aEnA
      have eo : aOwd b c k = (!aBit (b.1 149 c) k || s0) := by
        unfold aOwd
        rw [hs0]
      by_cases q : aBit (b.1 149 c) k = true
      · obtain ⟨n, hn, e⟩ := pS k hk q
        have m1 : ¬ Int32.ofNat n = -1 := by
          rw [i_ne1 (by omega)]
          exact not_false
        rw [q] at eo
        simp only [q, ↓reduceIte, e, m1]
        cases s0 with
        | true =>
          have e1 : aOwd b c k = true := eo
          have bt : bI true = 1 := rfl
          simp only [bt, h10, not_false_eq_true, ↓reduceIte, e1, Bool.not_true, Bool.or_false]
          rw [f_X0_askForStoredLines_L4, p1]
          exact ih (k + 1) _ b I s (by omega) (by omega) hp h
        | false =>
          have e1 : aOwd b c k = false := eo
          have bf : bI false = 0 := rfl
          obtain ⟨pQ1, pQ2⟩ := pQ e1
          simp only [bf, not_true_eq_false, ↓reduceIte, e1, Bool.not_false, Bool.or_true, Bool.false_eq_true]
          refine c_bind (cs_ask (w := true) hc hk pF pN pQ1 h) (fun I1 h3 => ?_)
          dsimp only
          rw [f_X0_askForStoredLines_L4, p1]
          exact ih (k + 1) _ _ I1 true (by omega) (by omega) pQ2 h3
      · have q' : aBit (b.1 149 c) k = false := by
          cases g : aBit (b.1 149 c) k with
          | false => rfl
          | true => exact absurd g q
        rw [q'] at eo
        have e1 : aOwd b c k = true := eo
        simp only [q, ↓reduceIte, Bool.false_eq_true, e1, Bool.not_true, Bool.or_false]
        rw [f_X0_askForStoredLines_L4, p1]
        exact ih (k + 1) _ b I s (by omega) (by omega) hp h
    have bt : bI true = 1 := rfl
    have bf : bI false = 0 := rfl
    rw [show 5 * (d + 1) + 1 + N = 5 * d + N + 4 + 1 + 1 by omega, f_X0_askForStoredLines_L4]
    simp only [eLt, Option.bind_some, ↓reduceIte, K_c74 hc, K_c75 hc, K_c76 hc, K_c77 hc, K_c78 hc, K_c79 hc, K_c80 hc, K_c81 hc, R_c1 hc, R_c2 hc, R_c3 hc, R_c4 hc, R_c5 hc, R_c6 hc, R_c8 hc, R_t5 hc, R_t6 hc, K_3, K_4, true_and, and_true, eB, decide_true, decide_false, Bool.or_true, Bool.true_or, not_true_eq_false, not_false_eq_true, g1, cs_place hc hk h]
    cases hPl : aPl b c k with
    | none =>
      have e5 : pI c none = 0 := rfl
      have e6 : aOwn (aStAt b c k) = false := by
        unfold aStAt
        rw [hPl]
        rfl
      simp only [e5, ↓reduceIte]
      rw [f_X0_askForStoredLines_L4, ← bf]
      exact S false _ (by omega) e6.symm
    | some p =>
      have hp4 := (aPl_lt hPl).1
      have e5 : pI c (some p) = 82 + 12 * c + p := rfl
      have e7 : ¬ 82 + 12 * c + p = 0 := by omega
      have e6 : aOwn (aStAt b c k) = aOwn (b.1 136 (4 * c + p)) := by
        unfold aStAt
        rw [hPl]
      simp only [e5, e7, ↓reduceIte, K_p hc hp4, cs_may hc hp4 h, Option.bind_some]
      cases q : aOwn (b.1 136 (4 * c + p)) with
      | true =>
        simp only [↓reduceIte, h10]
        rw [← bt]
        exact S true _ (by omega) (by rw [e6, q])
      | false =>
        simp only [↓reduceIte, Bool.false_eq_true]
        rw [f_X0_askForStoredLines_L4, ← bf]
        exact S false _ (by omega) (by rw [e6, q])
theorem aEnF_t : ∀ d k b, aEnF b c d k true = true := by
  intro d
  induction d with
  | zero => intro k b; rfl
  | succ d ih =>
    intro k b
    unfold aEnF
    rw [Bool.true_or]
    exact ih _ _
theorem aAreN_f : ∀ d k b, aAreN b c d k false = false := by
  intro d
  induction d with
  | zero => intro k b; rfl
  | succ d ih =>
    intro k b
    unfold aAreN
    rw [Bool.false_and]
    exact ih _ _
theorem aEnF_are : ∀ d k b, aEnF b c d k false = !aAreN b c d k true ∧ (aAreN b c d k true = true → aEnA b c d k = b) := by
  intro d
  induction d with
  | zero => intro k b; exact ⟨rfl, fun _ => rfl⟩
  | succ d ih =>
    intro k b
    unfold aEnF aAreN aEnA
    cases q : aOwd b c k with
    | true =>
      simp only [↓reduceIte, Bool.not_true, Bool.or_false, Bool.and_true]
      exact ih (k + 1) b
    | false =>
      simp only [Bool.not_false, Bool.or_true, Bool.and_false, aAreN_f, aEnF_t, Bool.false_eq_true, ↓reduceIte, false_implies, and_self]
def uFn (a : aS) (n : Nat) : Prop := ∃ v, a.1 122 18 = Int32.ofNat v ∧ v + n < 1900000000
theorem uFn_F (h : uFn a n) : uF a := by
  obtain ⟨v, h1, h2⟩ := h
  exact ⟨v, h1, by omega⟩
theorem aChg_u {P : Nat} (h : uFn a (n + 1)) : uFn (aChg a P v) n := by
  obtain ⟨v', h1, h2⟩ := h
  refine ⟨v' + 1, ?_, by omega⟩
  unfold aChg aUse
  rw [aW_1 (by decide), aW_e, aW_1 (by decide), aW_1 (by decide)]
  exact i_ad1 h1
theorem cs_endW (hc : c < 4) : ∀ d k N b I, k + d = 16 → 2 * d + 1 ≤ N → cF b c → sF b c → ¬ b.1 145 c = 0 → b.1 146 c = 0 → uFn b d → (∀ l, l < 16 → aOwd b c l = true) → CF I0 I b →
    cOk (f_X0_endTransaction_L41 N (.inl (74 + 12 * c, Int32.ofNat k)) (I, J)) I0 J 1 (aC (aW (aEnW b c d k) 145 c 0) 7) := by
  intro d
  have j7 : eix (7 : Int32) 10 = true := rfl
  have d7 : (7 : Int32).toNatClampNeg = 7 := rfl
  induction d with
  | zero =>
    intro k N b I h1 h2 hF hS ho hb hu hO h
    obtain ⟨N, rfl⟩ := Nat.exists_eq_add_of_le h2
    rw [show 2 * 0 + 1 + N = N + 1 by omega, f_X0_endTransaction_L41]
    have g1 : ((16 : Int32) ≤ Int32.ofNat k) = True := (i_le (n := 16) (by decide) (by omega)).trans (eq_true (by omega))
    simp only [eLt, Option.bind_some, ↓reduceIte, K_c74 hc, K_c75 hc, K_c76 hc, K_c77 hc, K_c78 hc, K_c79 hc, K_c80 hc, K_c81 hc, R_c1 hc, R_c2 hc, R_c3 hc, R_c4 hc, R_c5 hc, R_c6 hc, R_c8 hc, R_t5 hc, R_t6 hc, K_3, K_4, true_and, and_true, eB, decide_true, decide_false, Bool.or_true, Bool.true_or, not_true_eq_false, not_false_eq_true, g1, j7, d7]
    have h3 := C_cnt (k := 7) (by decide) h
    have h4 := cs_close (J := J) hc h3
    rw [aC_1 (by decide), if_pos hb, aW_aC (by decide)] at h4
    exact c_bind h4 (fun I2 h5 => c_ret h5)
  | succ d ih =>
    intro k N b I h1 h2 hF hS ho hb hu hO h
    obtain ⟨N, rfl⟩ := Nat.exists_eq_add_of_le h2
    have hk : k < 16 := by omega
    rw [show 2 * (d + 1) + 1 + N = 2 * d + 1 + N + 1 + 1 by omega, f_X0_endTransaction_L41]
    have g1 : ((16 : Int32) ≤ Int32.ofNat k) = False := (i_le (n := 16) (by decide) (by omega)).trans (eq_false (by omega))
    have hu' : uFn b d := by
      obtain ⟨v, g1, g2⟩ := hu
      exact ⟨v, g1, by omega⟩
    simp only [eLt, Option.bind_some, ↓reduceIte, K_c74 hc, K_c75 hc, K_c76 hc, K_c77 hc, K_c78 hc, K_c79 hc, K_c80 hc, K_c81 hc, R_c1 hc, R_c2 hc, R_c3 hc, R_c4 hc, R_c5 hc, R_c6 hc, R_c8 hc, R_t5 hc, R_t6 hc, K_3, K_4, true_and, and_true, eB, decide_true, decide_false, Bool.or_true, Bool.true_or, not_true_eq_false, not_false_eq_true, g1, cs_place hc hk h, cs_stored hc hk h, ho]
    unfold aEnW
    by_cases q : aBit (b.1 149 c) k = true
    · obtain ⟨n, hn, e⟩ := hS k hk q
      have m1 : ¬ Int32.ofNat n = -1 := by
        rw [i_ne1 (by omega)]
        exact not_false
      have hO1 := hO k hk
      unfold aOwd at hO1
      rw [q] at hO1
      obtain ⟨p, hp, hpo⟩ := own_pl hO1
      have hp4 := aPl_lt hp
      have hne := (aAt_iff.1 hp4.2).1
      have e5 : pI c (some p) = 82 + 12 * c + p := rfl
      have e7 : ¬ 82 + 12 * c + p = 0 := by omega
      simp only [q, ↓reduceIte, hp, e5, e7, e, m1]
      refine c_bind (cs_write1 hc hp4.1 hpo (uFn_F hu) h) (fun I1 h3 => ?_)
      dsimp only
      rw [f_X0_endTransaction_L41, p1]
      have hV := hS k hk q
      rw [e] at hV
      refine ih (k + 1) _ _ I1 (by omega) (by omega) (cF_chg hV hp4.1 hne hF) (fun l hl g => ?_) ?_ ?_ (aChg_u hu) (fun l hl => aOwd_chg hne (hO l hl)) h3
      · rw [aChg_r (r := 149) (by decide) (by decide) (by decide) (by decide)] at g
        rw [aChg_r (r := 150) (by decide) (by decide) (by decide) (by decide)]
        exact hS l hl g
      · rw [aChg_r (by decide) (by decide) (by decide) (by decide)]
        exact ho
      · rw [aChg_r (by decide) (by decide) (by decide) (by decide)]
        exact hb
    · simp only [q, ↓reduceIte, Bool.false_eq_true]
      by_cases q2 : pI c (aPl b c k) = 0
      · simp only [q2, ↓reduceIte]
        rw [f_X0_endTransaction_L41, p1]
        exact ih (k + 1) _ b I (by omega) (by omega) hF hS ho hb hu' hO h
      · simp only [q2, ↓reduceIte]
        rw [f_X0_endTransaction_L41, p1]
        exact ih (k + 1) _ b I (by omega) (by omega) hF hS ho hb hu' hO h
theorem cs_end {P : aS → Prop} (hc : c < 4) (hP : ∀ b l, l < 16 → P b → cF b c ∧ nF b c ∧ tF b c ∧ sF b c ∧ ¬ b.1 145 c = 0 ∧ (aOwd b c l = false → qAsk b c l true ∧ P (aAsk b c l true).2)) (ho : ¬ a.1 145 c = 0) (hp : P a) (hu : uFn a 16) (h : CF I0 I a) :
    cOk (f_X0_endTransaction (74 + 12 * c) (I, J)) I0 J (aEnd a c).2.1 (aEnd a c).2.2 := by
  have h10 : ¬ (1 : Int32) = 0 := by decide
  have j8 : eix (8 : Int32) 10 = true := rfl
  have d8 : (8 : Int32).toNatClampNeg = 8 := rfl
  obtain ⟨pF, pN, pT, pS, pO, pQ⟩ := hP a 0 (by decide) hp
  unfold f_X0_endTransaction aEnd
  simp only [eLt, Option.bind_some, ↓reduceIte, K_c74 hc, K_c75 hc, K_c76 hc, K_c77 hc, K_c78 hc, K_c79 hc, K_c80 hc, K_c81 hc, R_c1 hc, R_c2 hc, R_c3 hc, R_c4 hc, R_c5 hc, R_c6 hc, R_c8 hc, R_t5 hc, R_t6 hc, K_3, K_4, true_and, and_true, eB, decide_true, decide_false, Bool.or_true, Bool.true_or, not_true_eq_false, not_false_eq_true, tx_1 hc h, ho]
  by_cases q : a.1 146 c = 0
  · simp only [q, ↓reduceIte]
    unfold f_X0_askForStoredLines
    have hA := cs_askS (J := J) hc hP 16 0 1000000 a I false (by decide) (by decide) hp h
    have bf : bI false = 0 := rfl
    have z0 : Int32.ofNat 0 = 0 := rfl
    rw [bf, z0] at hA
    obtain ⟨f1, f2⟩ := aEnF_are (c := c) 16 0 a
    refine c_bind hA (fun I1 h1 => ?_)
    dsimp only
    rw [f1]
    by_cases q2 : aAreN a c 16 0 true = true
    · have q3 : aAre a c = true := q2
      rw [f2 q2] at h1
      simp only [q2, q3, Bool.not_true, bf, ↓reduceIte]
      have := cs_endW (J := J) hc 16 0 1000000 a I1 (by decide) (by decide) pF pS ho q hu (fun l hl => (aAreN_all 16 0 true q2).2 l (by omega) (by omega)) h1
      rw [z0] at this
      exact this
    · have q3 : ¬ aAre a c = true := q2
      have q4 : aAreN a c 16 0 true = false := by
        cases g : aAreN a c 16 0 true with
        | false => rfl
        | true => exact absurd g q2
      have bt : bI true = 1 := rfl
      simp only [q4, q3, Bool.not_false, bt, h10, ↓reduceIte, Bool.false_eq_true]
      exact c_ret h1
  · simp only [q, ↓reduceIte, j8, d8]
    have h3 := C_cnt (k := 8) (by decide) h
    have h4 := cs_close (J := J) hc h3
    rw [aC_1 (by decide), if_neg q, aC_1 (by decide), aW_aC (by decide), aW_aC (by decide)] at h4
    exact c_bind h4 (fun I2 h5 => c_ret h5)
end EPD
