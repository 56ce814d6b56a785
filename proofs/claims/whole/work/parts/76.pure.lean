/-! the class: to ask for a line -/
section EPD
variable {I I' I0 : Nat → Nat → Int32} {J : Nat → Nat → Int64} {a a' b : aS} {r i l q c k n p w z N o : Nat} {v t x y : Int32} {m : aM} {σ : eMem}
theorem i_nlt {x y : Int32} : (x ≤ y) = ¬ (y < x) := by
  apply propext
  rw [Int32.le_iff_toInt_le, Int32.lt_iff_toInt_lt]
  omega
theorem val_iff (hF : cF a c) (hp : p < 4) : aVal (a.1 136 (4 * c + p)) = (!decide (a.1 136 (4 * c + p) = 0) && !aWt (a.1 136 (4 * c + p))) := by
  rcases (hF.1 p hp).1 with q | q | q | q | q | q <;> rw [q] <;> decide
theorem val_ne (h : aVal x = true) : ¬ x = 0 ∧ aWt x = false := by
  unfold aVal aOwn at h
  simp only [Bool.or_eq_true, decide_eq_true_eq] at h
  rcases h with h | h | h <;> subst h <;> decide
theorem cs_vic1 {f : Option Nat} {M : Nat} (hc : c < 4) (hp : p < 4) (hF : cF a c) (hf : ∀ g, f = some g → g < 4 ∧ aVal (a.1 136 (4 * c + g)) = true) (h : CF I0 I a) (hM : n + 4 ≤ M) :
    ∃ M', n ≤ M' ∧ f_X0_longestUnused_L4 M (.inl (74 + 12 * c, pI c f, Int32.ofNat p)) (I, J) = f_X0_longestUnused_L4 M' (.inl (74 + 12 * c, pI c (aVicS a c f p), Int32.ofNat (p + 1))) (I, J) := by
  obtain ⟨M, rfl⟩ := Nat.exists_eq_add_of_le hM
  rw [show n + 4 + M = n + M + 3 + 1 by omega, f_X0_longestUnused_L4]
  have g1 : ((4 : Int32) ≤ Int32.ofNat p) = False := (i_le (n := 4) (by decide) (by omega)).trans (eq_false (by omega))
  have g2 : eix (Int32.ofNat p) 4 = true := i_ix hp (by decide)
  have g3 : (Int32.ofNat p).toNatClampNeg = p := i_tn (by omega)
  have h10 : ¬ (1 : Int32) = 0 := by decide
  have K0 : ∀ f', f_X0_longestUnused_L4 (n + M + 3) (.inr (.inl (74 + 12 * c, pI c f', Int32.ofNat p, 82 + 12 * c + p))) (I, J) = f_X0_longestUnused_L4 (n + M) (.inl (74 + 12 * c, pI c f', Int32.ofNat (p + 1))) (I, J) := by
    intro f'
    obtain ⟨X, hX⟩ : ∃ X, X = n + M := ⟨_, rfl⟩
    rw [← hX, f_X0_longestUnused_L4, f_X0_longestUnused_L4]
    simp only [↓reduceIte]
    rw [f_X0_longestUnused_L4, p1]
  simp only [eLt, Option.bind_some, ↓reduceIte, K_c74 hc, K_c75 hc, K_c76 hc, K_c77 hc, K_c78 hc, K_c79 hc, K_c80 hc, K_c81 hc, R_c1 hc, R_c2 hc, R_c3 hc, R_c4 hc, R_c5 hc, R_c6 hc, R_c8 hc, R_t5 hc, R_t6 hc, K_3, K_4, true_and, and_true, eB, decide_true, decide_false, Bool.or_true, Bool.true_or, not_true_eq_false, not_false_eq_true, g1, g2, g3, R_p hc hp, K_p hc hp, cs_hasV hc hp h]
  unfold aVicS
  by_cases q1 : aVal (a.1 136 (4 * c + p)) = true
  · have hv := val_ne q1
    obtain ⟨l', hl1, hl2⟩ := (hF.1 p hp).2.1 hv.1
    have e0 : I (82 + 12 * c + p) 0 = Int32.ofNat l' := by
      rw [pl_0 hc hp h, if_neg hv.1, hl2]
    have nl : aNt (Int32.ofNat l') = l' := i_tn (by omega)
    have em : aMay a c p = !aIsIn a c l' := by
      unfold aMay
      rw [hl2, nl, hv.2, decide_eq_false hv.1]
      simp
    simp only [q1, ↓reduceIte, h10, e0, cs_has hc hl1 h, Option.bind_some, em]
    by_cases q2 : aIsIn a c l' = true
    · simp only [q2, ↓reduceIte, h10, not_false_eq_true, Bool.not_true, Bool.false_eq_true]
      exact ⟨n + M, by omega, K0 f⟩
    · simp only [q2, ↓reduceIte, not_true_eq_false, Bool.not_false, Bool.false_eq_true]
      rw [f_X0_longestUnused_L4]
      simp only [h10, ↓reduceIte]
      cases f with
      | none =>
        have : pI c none = 0 := rfl
        simp only [this, ↓reduceIte]
        refine ⟨n + M, by omega, ?_⟩
        obtain ⟨X, hX⟩ : ∃ X, X = n + M := ⟨_, rfl⟩
        rw [← hX, f_X0_longestUnused_L4, f_X0_longestUnused_L4, p1]
        rfl
      | some g =>
        obtain ⟨hg, hgv⟩ := hf g rfl
        have e1 : pI c (some g) = 82 + 12 * c + g := rfl
        have e2 : ¬ 82 + 12 * c + g = 0 := by omega
        simp only [e1, e2, ↓reduceIte, K_p hc hg, K_p hc hp]
        obtain ⟨u, v, -, -, -, -, -, hu⟩ := h.1.2.2.2.1 c hc
        have e3 : (I (82 + 12 * c + g) 3 ≤ I (82 + 12 * c + p) 3) = ¬ (a.1 138 (4 * c + p) < a.1 138 (4 * c + g)) := by
          rw [i_nlt, hu p g hp hg q1 hgv]
        simp only [e3]
        by_cases q3 : a.1 138 (4 * c + p) < a.1 138 (4 * c + g)
        · simp only [q3, not_true_eq_false, ↓reduceIte]
          refine ⟨n + M, by omega, ?_⟩
          obtain ⟨X, hX⟩ : ∃ X, X = n + M := ⟨_, rfl⟩
          rw [← hX, f_X0_longestUnused_L4, f_X0_longestUnused_L4, p1]
          rfl
        · simp only [q3, not_false_eq_true, ↓reduceIte]
          refine ⟨n + M + 1, by omega, ?_⟩
          obtain ⟨X, hX⟩ : ∃ X, X = n + M + 1 := ⟨_, rfl⟩
          rw [show n + M + 2 = X + 1 by omega, ← hX, f_X0_longestUnused_L4, p1]
          rfl
  · have em : aMay a c p = false := by
      unfold aMay
      rw [val_iff hF hp] at q1
      rw [← Bool.and_assoc]
      have : (!decide (a.1 136 (4 * c + p) = 0) && !aWt (a.1 136 (4 * c + p))) = false := by
        cases q : (!decide (a.1 136 (4 * c + p) = 0) && !aWt (a.1 136 (4 * c + p))) with
        | false => rfl
        | true => exact absurd q q1
      rw [this]
      rfl
    simp only [q1, ↓reduceIte, em, Bool.false_eq_true]
    exact ⟨n + M, by omega, K0 f⟩
theorem vicS_ok {f : Option Nat} (hp : p < 4) (hF : cF a c) (hf : ∀ g, f = some g → g < 4 ∧ aVal (a.1 136 (4 * c + g)) = true) : ∀ g, aVicS a c f p = some g → g < 4 ∧ aVal (a.1 136 (4 * c + g)) = true := by
  intro g hg
  unfold aVicS at hg
  split at hg
  · next q =>
    have hv := (may_val hF hp q).1
    split at hg
    · cases hg
      exact ⟨hp, hv⟩
    · split at hg
      · cases hg
        exact ⟨hp, hv⟩
      · cases hg
        exact hf _ rfl
  · exact hf g hg
theorem cs_victim (hc : c < 4) (hF : cF a c) (h : CF I0 I a) : f_X0_longestUnused (74 + 12 * c) (I, J) = some (pI c (aVic a c), (I, J)) := by
  have f0 : ∀ g, (none : Option Nat) = some g → g < 4 ∧ aVal (a.1 136 (4 * c + g)) = true := fun g hg => by cases hg
  have f1 := vicS_ok (p := 0) (by decide) hF f0
  have f2 := vicS_ok (p := 1) (by decide) hF f1
  have f3 := vicS_ok (p := 2) (by decide) hF f2
  unfold f_X0_longestUnused
  rw [eLt]
  show f_X0_longestUnused_L4 1000000 (.inl (74 + 12 * c, pI c none, Int32.ofNat 0)) (I, J) = _
  obtain ⟨M1, h1, e1⟩ := cs_vic1 (J := J) (n := 20) (p := 0) hc (by decide) hF f0 h (show 20 + 4 ≤ 1000000 by decide)
  rw [e1]
  obtain ⟨M2, h2, e2⟩ := cs_vic1 (J := J) (n := 16) (p := 1) hc (by decide) hF f1 h h1
  rw [e2]
  obtain ⟨M3, h3, e3⟩ := cs_vic1 (J := J) (n := 12) (p := 2) hc (by decide) hF f2 h h2
  rw [e3]
  obtain ⟨M4, h4, e4⟩ := cs_vic1 (J := J) (n := 8) (p := 3) hc (by decide) hF f3 h h3
  rw [e4]
  obtain ⟨M5, rfl⟩ := Nat.exists_eq_add_of_le h4
  rw [show 8 + M5 = 7 + M5 + 1 by omega, f_X0_longestUnused_L4]
  have g1 : ((4 : Int32) ≤ Int32.ofNat (3 + 1)) = True := eq_true (by decide)
  simp only [g1, ↓reduceIte]
  rfl
theorem cs_emptyX (hc : c < 4) (hp : p < 4) : f_X7_becomeEmpty (82 + 12 * c + p) (I, J) = some ((), (eup (eup I (82 + 12 * c + p) 0 (-1)) (82 + 12 * c + p) 1 0, J)) := by
  unfold f_X7_becomeEmpty
  simp only [eLt, K_p hc hp, ↓reduceIte]
theorem cs_emptyP (hc : c < 4) (hp : p < 4) (h : CF I0 I a) : cOk (f_X7_becomeEmpty (82 + 12 * c + p) (I, J)) I0 J () (aW a 136 (4 * c + p) 0) := by
  rw [cs_emptyX hc hp]
  refine c_ret (C_plN (a := a) (p := p) hc hp (fun r k g => by rw [up_r g, up_r g]) (by rw [up_k (by decide), up_k (by decide)]) (fun r i g => aW_o (by omega)) rfl ?_ ?_ h)
  · unfold PlOk
    rw [aW_e, if_pos rfl]
    refine ⟨?_, ?_, fun g => absurd g (by decide), fun g => absurd g (by decide), fun g => absurd g (by decide)⟩
    · rw [up_eq]
    · rw [up_k (by decide), up_eq]
  · rw [aW_e]
    intro g
    exact absurd g (by decide)
theorem aW_4 {P : Nat} {s1 s2 s3 s4 : Int32} : ∀ r, (aW (aW (aW (aW a 135 P s1) 136 P s2) 139 P s3) 140 P s4).1 r P = if r = 140 then s4 else if r = 139 then s3 else if r = 136 then s2 else if r = 135 then s1 else a.1 r P := by
  intro r
  by_cases g1 : r = 140
  · subst g1
    rw [aW_e]
    rfl
  · rw [aW_1 g1, if_neg g1]
    by_cases g2 : r = 139
    · subst g2
      rw [aW_e]
      rfl
    · rw [aW_1 g2, if_neg g2]
      by_cases g3 : r = 136
      · subst g3
        rw [aW_e]
        rfl
      · rw [aW_1 g3, if_neg g3]
        by_cases g4 : r = 135
        · subst g4
          rw [aW_e]
          rfl
        · rw [aW_1 g4, if_neg g4]
theorem cs_waitFor {w : Bool} (hc : c < 4) (hp : p < 4) (h : CF I0 I a) : cOk (f_X7_waitFor (82 + 12 * c + p) (Int32.ofNat l) (bI w) (I, J)) I0 J ()
    (aW (aW (aW (aW a 135 (4 * c + p) (Int32.ofNat l)) 136 (4 * c + p) (if w = true then 5 else 4)) 139 (4 * c + p) 0) 140 (4 * c + p) (-1)) := by
  have h10 : ¬ (1 : Int32) = 0 := by decide
  have G : ∀ s : Int32, s = (if w = true then 5 else 4) → cOk (f_X7_waitFor_15 (82 + 12 * c + p) (82 + 12 * c + p) s (eup I (82 + 12 * c + p) 0 (Int32.ofNat l), J)) I0 J ()
      (aW (aW (aW (aW a 135 (4 * c + p) (Int32.ofNat l)) 136 (4 * c + p) (if w = true then 5 else 4)) 139 (4 * c + p) 0) 140 (4 * c + p) (-1)) := by
    intro s hs
    unfold f_X7_waitFor_15
    simp only [eLt, K_p hc hp, ↓reduceIte, eB, true_and, decide_true, Bool.true_or]
    have hs2 : ¬ s = 0 ∧ aVal s = false := by
      rw [hs]
      cases w <;> decide
    refine c_ret (C_plN (a := a) (p := p) hc hp (fun r k g => by rw [up_r g, up_r g, up_r g, up_r g]) (by rw [up_k (by decide), up_k (by decide), up_k (by decide), up_k (by decide)]) (fun r i g => ?_) rfl ?_ ?_ h)
    · rw [aW_o (by omega), aW_o (by omega), aW_o (by omega), aW_o (by omega)]
    · unfold PlOk
      rw [aW_4, aW_4, aW_4, aW_4, aW_4, ← hs]
      simp only [Nat.reduceEqDiff, ↓reduceIte, hs2.1]
      refine ⟨?_, ?_, fun g => ?_, fun _ => ?_, fun _ => ?_⟩
      · rw [up_k (by decide), up_k (by decide), up_eq]
      · rw [up_k (by decide), up_k (by decide), up_k (by decide), up_eq]
      · rw [hs2.2] at g
        cases g
      · rw [up_k (by decide), up_eq]
      · rw [up_eq]
        rfl
    · rw [aW_4, ← hs]
      simp only [Nat.reduceEqDiff, ↓reduceIte, hs2.2]
      intro g
      cases g
  unfold f_X7_waitFor
  simp only [eLt, K_p hc hp, ↓reduceIte]
  cases w with
  | true =>
    have : bI true = 1 := rfl
    simp only [this, h10, ↓reduceIte]
    exact G 5 rfl
  | false =>
    have : bI false = 0 := rfl
    simp only [this, ↓reduceIte]
    exact G 4 rfl
theorem co_0 (hc : c < 4) (h : CF I0 I a) : I (74 + 12 * c) 0 = Int32.ofNat c := (h.1.2.2.2.2.2.1 c hc).1
theorem lv_l (hc : c < 4) (hl : l < 16) (h : CF I0 I a) : I (76 + 12 * c) l = a.1 141 (16 * c + l) := h.1.2.2.2.2.1 c hc l hl
theorem cs_csend {kk w : Nat} (hc : c < 4) (hl : l < 16) (hw : w < 3) (hk : kk < 16) (hg : gCm m = Int32.ofNat (kk + 16 * l + 256 * c + 1024 * N)) (hv : v + 1 = Int32.ofNat N) (hq : (a.2 (5 * w + 4)).length < 64) (h : CF I0 I a) :
    cOk (f_X0_send (74 + 12 * c) (Int32.ofNat w) (Int32.ofNat kk) (Int32.ofNat l) v (I, J)) I0 J () (aPush a (5 * w + 4) m) := by
  unfold f_X0_send
  simp only [eLt, Option.bind_some, ↓reduceIte, K_c74 hc, K_c75 hc, K_c76 hc, K_c77 hc, K_c78 hc, K_c79 hc, K_c80 hc, K_c81 hc, R_c1 hc, R_c2 hc, R_c3 hc, R_c4 hc, R_c5 hc, R_c6 hc, R_c8 hc, R_t5 hc, R_t6 hc, K_3, K_4, true_and, and_true, eB, decide_true, decide_false, Bool.or_true, Bool.true_or, not_true_eq_false, not_false_eq_true, co_0 hc h, cs_of hk hl hc hv]
  exact c_bind (cs_send' (w := w) (z := 4) hw (by decide) rfl rfl hg.symm hq h) (fun I1 h1 => c_ret h1)
theorem cs_vacN (hc : c < 4) (hp : p < 4) (ho : aOwn (a.1 136 (4 * c + p)) = false) (h : CF I0 I a) :
    cOk (f_X0_vacate (74 + 12 * c) (82 + 12 * c + p) (I, J)) I0 J () (aW a 136 (4 * c + p) 0) := by
  unfold f_X0_vacate f_X0_vacate_44
  simp only [K_p hc hp, ↓reduceIte, cs_may hc hp h, ho, Option.bind_some, Bool.false_eq_true]
  exact c_bind (cs_emptyP hc hp h) (fun I1 h1 => c_ret h1)
theorem cs_vacO (hc : c < 4) (hp : p < 4) (hF : cF a c) (ho : aOwn (a.1 136 (4 * c + p)) = true) (hq : (a.2 4).length < 64) (h : CF I0 I a) :
    cOk (f_X0_vacate (74 + 12 * c) (82 + 12 * c + p) (I, J)) I0 J () (aVac a c (4 * c + p)) := by
  have hv : aVal (a.1 136 (4 * c + p)) = true := by
    unfold aVal
    rw [ho]
    simp
  have hn := val_ne hv
  obtain ⟨l, hl, hl2⟩ := (hF.1 p hp).2.1 hn.1
  obtain ⟨n, hn1, hn2⟩ := (hF.1 p hp).2.2 hv
  have e0 : I (82 + 12 * c + p) 0 = Int32.ofNat l := by
    rw [pl_0 hc hp h, if_neg hn.1, hl2]
  have e2 : I (82 + 12 * c + p) 2 = Int32.ofNat n := (pl_2 hc hp hv h).trans hn2
  have ht : (Int32.ofNat l).toNatClampNeg = l := i_tn (by omega)
  have hi : eix (Int32.ofNat l) 16 = true := i_ix hl (by decide)
  have j3 : eix (3 : Int32) 10 = true := rfl
  have d3 : (3 : Int32).toNatClampNeg = 3 := rfl
  have h10 : ¬ (1 : Int32) = 0 := by decide
  have e4 : ∀ k, eup (eup I (76 + 12 * c) l (Int32.ofNat n)) 3 3 (eup I (76 + 12 * c) l (Int32.ofNat n) 3 3 + 1) (82 + 12 * c + p) k = I (82 + 12 * c + p) k := fun k => by rw [up_r (by omega), up_r (by omega)]
  have h1 := P_leave (v := Int32.ofNat n) hc hl h
  have h2 := C_cnt (k := 3) (by decide) h1
  have n1 : aNt (Int32.ofNat l) = l := i_tn (by omega)
  have n2 : aNt (Int32.ofNat n) = n := i_tn (by omega)
  have ns : ¬ a.1 136 (4 * c + p) = 1 := by
    intro g
    rw [g] at ho
    exact absurd ho (by decide)
  unfold f_X0_vacate f_X0_vacate_44
  simp only [K_p hc hp, eLt, Option.bind_some, ↓reduceIte, K_c74 hc, K_c75 hc, K_c76 hc, K_c77 hc, K_c78 hc, K_c79 hc, K_c80 hc, K_c81 hc, R_c1 hc, R_c2 hc, R_c3 hc, R_c4 hc, R_c5 hc, R_c6 hc, R_c8 hc, R_t5 hc, R_t6 hc, K_3, K_4, true_and, and_true, eB, decide_true, decide_false, Bool.or_true, Bool.true_or, not_true_eq_false, not_false_eq_true, cs_may hc hp h, ho, h10, e0, e2, ht, hi, j3, d3, e4]
  refine c_bind (cs_csend (a := aC (aW a 141 (16 * c + l) (Int32.ofNat n)) 3) (w := 0) (kk := 2) (m := (2, l, c, n)) (N := n + 1) hc hl (by decide) (by decide) g_2 i_ad hq h2) (fun I1 h3 => ?_)
  dsimp only
  unfold aVac
  rw [if_neg ns, hl2, hn2, n1, n2]
  exact c_bind (cs_emptyP (a := aSend (aW a 141 (16 * c + l) (Int32.ofNat n)) 4 2 l c n) hc hp h3) (fun I1 h3 => c_ret h3)
/-- room for what is sent when a line is asked for -/
def qAsk (a : aS) (c l : Nat) (w : Bool) : Prop := a.1 141 (16 * c + l) = -1 → (∀ p, aPl a c l = some p → a.1 136 (4 * c + p) = 1 ∧ w = true) → (a.2 4).length < 64 ∧ (∀ p, aPl a c l = none → aEp a c = none → aVic a c = some p → (a.2 4).length < 63)
theorem cs_ask73 {w : Bool} (hc : c < 4) (hl : l < 16) (hp : p < 4) (hq : (a.2 4).length < 64) (h : CF I0 I a) :
    cOk (f_X0_ask_73 (74 + 12 * c) (Int32.ofNat l) (bI w) (82 + 12 * c + p) (I, J)) I0 J 1 (aBeg a c (4 * c + p) l w) := by
  have h10 : ¬ (1 : Int32) = 0 := by decide
  have j1 : eix (1 : Int32) 10 = true := rfl
  have d1 : (1 : Int32).toNatClampNeg = 1 := rfl
  have j2 : eix (2 : Int32) 10 = true := rfl
  have d2 : (2 : Int32).toNatClampNeg = 2 := rfl
  unfold f_X0_ask_73 f_X0_ask_92 f_X0_ask_108 aBeg
  simp only [K_p hc hp, ↓reduceIte]
  refine c_bind (cs_waitFor (l := l) (w := w) hc hp h) (fun I1 h1 => ?_)
  cases w with
  | true =>
    have : bI true = 1 := rfl
    simp only [eLt, Option.bind_some, ↓reduceIte, K_c74 hc, K_c75 hc, K_c76 hc, K_c77 hc, K_c78 hc, K_c79 hc, K_c80 hc, K_c81 hc, R_c1 hc, R_c2 hc, R_c3 hc, R_c4 hc, R_c5 hc, R_c6 hc, R_c8 hc, R_t5 hc, R_t6 hc, K_3, K_4, true_and, and_true, eB, decide_true, decide_false, Bool.or_true, Bool.true_or, not_true_eq_false, not_false_eq_true, this, h10, j1, d1, j2, d2]
    have h2 := C_cnt (k := 2) (by decide) h1
    exact c_bind (cs_csend (a := aC (aW (aW (aW (aW a 135 (4 * c + p) (Int32.ofNat l)) 136 (4 * c + p) 5) 139 (4 * c + p) 0) 140 (4 * c + p) (-1)) 2) (w := 0) (kk := 1) (m := (1, l, c, 0)) (N := 0) hc hl (by decide) (by decide) g_1 (by decide) hq h2) (fun I2 h3 => c_ret h3)
  | false =>
    have : bI false = 0 := rfl
    simp only [eLt, Option.bind_some, ↓reduceIte, K_c74 hc, K_c75 hc, K_c76 hc, K_c77 hc, K_c78 hc, K_c79 hc, K_c80 hc, K_c81 hc, R_c1 hc, R_c2 hc, R_c3 hc, R_c4 hc, R_c5 hc, R_c6 hc, R_c8 hc, R_t5 hc, R_t6 hc, K_3, K_4, true_and, and_true, eB, decide_true, decide_false, Bool.or_true, Bool.true_or, not_true_eq_false, not_false_eq_true, this, h10, j1, d1, j2, d2, Bool.false_eq_true]
    have h2 := C_cnt (k := 1) (by decide) h1
    exact c_bind (cs_csend (a := aC (aW (aW (aW (aW a 135 (4 * c + p) (Int32.ofNat l)) 136 (4 * c + p) 4) 139 (4 * c + p) 0) 140 (4 * c + p) (-1)) 1) (w := 0) (kk := 0) (m := (0, l, c, 0)) (N := 0) hc hl (by decide) (by decide) g_0 (by decide) hq h2) (fun I2 h3 => c_ret h3)
theorem cs_ask {w : Bool} (hc : c < 4) (hl : l < 16) (hF : cF a c) (hN : nF a c) (hq : qAsk a c l w) (h : CF I0 I a) :
    cOk (f_X0_ask (74 + 12 * c) (Int32.ofNat l) (bI w) (I, J)) I0 J (bI (aAsk a c l w).1) (aAsk a c l w).2 := by
  have ht : (Int32.ofNat l).toNatClampNeg = l := i_tn (by omega)
  have hi : eix (Int32.ofNat l) 16 = true := i_ix hl (by decide)
  have h10 : ¬ (1 : Int32) = 0 := by decide
  have bt : bI true = 1 := rfl
  have bf : bI false = 0 := rfl
  unfold f_X0_ask f_X0_ask_34 aAsk
  simp only [eLt, Option.bind_some, ↓reduceIte, K_c74 hc, K_c75 hc, K_c76 hc, K_c77 hc, K_c78 hc, K_c79 hc, K_c80 hc, K_c81 hc, R_c1 hc, R_c2 hc, R_c3 hc, R_c4 hc, R_c5 hc, R_c6 hc, R_c8 hc, R_t5 hc, R_t6 hc, K_3, K_4, true_and, and_true, eB, decide_true, decide_false, Bool.or_true, Bool.true_or, not_true_eq_false, not_false_eq_true, lv_l hc hl h, ht, hi, cs_place hc hl h]
  by_cases q1 : a.1 141 (16 * c + l) = -1
  · have hq1 := hq q1
    simp only [q1, ↓reduceIte]
    cases hP : aPl a c l with
    | some p =>
      obtain ⟨hp, hat⟩ := aPl_lt hP
      have e1 : pI c (some p) = 82 + 12 * c + p := rfl
      have e2 : ¬ 82 + 12 * c + p = 0 := by omega
      have hli : I (82 + 12 * c + p) 0 = Int32.ofNat l := by
        rw [pl_l hc hp hl h]
        exact hat
      simp only [e1, e2, ↓reduceIte, K_p hc hp, pl_1 hc hp h]
      by_cases q2 : a.1 136 (4 * c + p) = 1
      · cases w with
        | true =>
          have hq2 := hq1 (fun p' hp' => by
            rw [hP] at hp'
            cases hp'
            exact ⟨q2, rfl⟩)
          unfold f_X0_ask_36 f_X0_ask_45 f_X0_ask_54
          simp only [q2, bt, h10, e2, not_true_eq_false, not_false_eq_true, ↓reduceIte, K_p hc hp, hli, and_self]
          exact cs_ask73 (w := true) hc hl hp hq2.1 h
        | false =>
          simp only [q2, bf, not_true_eq_false, ↓reduceIte, Bool.false_eq_true, and_false]
          exact c_ret h
      · simp only [q2, not_false_eq_true, ↓reduceIte, false_and]
        exact c_ret h
    | none =>
      have hq2 := hq1 (fun p' hp' => by
        rw [hP] at hp'
        cases hp')
      have e0 : pI c none = 0 := rfl
      have hno : ∀ p, p < 4 → (I (82 + 12 * c + p) 0 = Int32.ofNat l) = False := by
        intro p hp
        rw [pl_l hc hp hl h]
        apply eq_false
        intro g
        unfold aPl at hP
        have : p = 0 ∨ p = 1 ∨ p = 2 ∨ p = 3 := by omega
        rcases this with e | e | e | e <;> subst e <;> simp only [g, ↓reduceIte] at hP
        · cases hP
        · split at hP <;> cases hP
        · split at hP
          · cases hP
          · split at hP <;> cases hP
        · split at hP
          · cases hP
          · split at hP
            · cases hP
            · split at hP <;> cases hP
      simp only [e0, ↓reduceIte]
      unfold f_X0_ask_36
      simp only [eLt, Option.bind_some, ↓reduceIte, K_c74 hc, K_c75 hc, K_c76 hc, K_c77 hc, K_c78 hc, K_c79 hc, K_c80 hc, K_c81 hc, R_c1 hc, R_c2 hc, R_c3 hc, R_c4 hc, R_c5 hc, R_c6 hc, R_c8 hc, R_t5 hc, R_t6 hc, K_3, K_4, true_and, and_true, eB, decide_true, decide_false, Bool.or_true, Bool.true_or, not_true_eq_false, not_false_eq_true, cs_empty hc h]
      cases hE : aEp a c with
      | some p =>
        obtain ⟨hp, hst⟩ := aEp_lt hE
        have e1 : pI c (some p) = 82 + 12 * c + p := rfl
        have e2 : ¬ 82 + 12 * c + p = 0 := by omega
        unfold f_X0_ask_45 f_X0_ask_54
        simp only [e1, e2, ↓reduceIte, K_p hc hp, hno p hp, eLt, Option.bind_some, ↓reduceIte, K_c74 hc, K_c75 hc, K_c76 hc, K_c77 hc, K_c78 hc, K_c79 hc, K_c80 hc, K_c81 hc, R_c1 hc, R_c2 hc, R_c3 hc, R_c4 hc, R_c5 hc, R_c6 hc, R_c8 hc, R_t5 hc, R_t6 hc, K_3, K_4, true_and, and_true, eB, decide_true, decide_false, Bool.or_true, Bool.true_or, not_true_eq_false, not_false_eq_true]
        refine c_bind (cs_vacN hc hp (by rw [hst]; decide) h) (fun I1 h1 => ?_)
        dsimp only
        rw [aW_id hst] at h1
        exact cs_ask73 hc hl hp hq2.1 h1
      | none =>
        unfold f_X0_ask_45
        simp only [e0, eLt, Option.bind_some, ↓reduceIte, K_c74 hc, K_c75 hc, K_c76 hc, K_c77 hc, K_c78 hc, K_c79 hc, K_c80 hc, K_c81 hc, R_c1 hc, R_c2 hc, R_c3 hc, R_c4 hc, R_c5 hc, R_c6 hc, R_c8 hc, R_t5 hc, R_t6 hc, K_3, K_4, true_and, and_true, eB, decide_true, decide_false, Bool.or_true, Bool.true_or, not_true_eq_false, not_false_eq_true, cs_victim hc hF h]
        cases hV : aVic a c with
        | none =>
          unfold f_X0_ask_54
          simp only [e0, eLt, Option.bind_some, ↓reduceIte, K_c74 hc, K_c75 hc, K_c76 hc, K_c77 hc, K_c78 hc, K_c79 hc, K_c80 hc, K_c81 hc, R_c1 hc, R_c2 hc, R_c3 hc, R_c4 hc, R_c5 hc, R_c6 hc, R_c8 hc, R_t5 hc, R_t6 hc, K_3, K_4, true_and, and_true, eB, decide_true, decide_false, Bool.or_true, Bool.true_or, not_true_eq_false, not_false_eq_true]
          exact c_ret h
        | some p =>
          have hp := aVic_lt hV
          have hq3 := hq2.2 p hP hE hV
          have hv := (may_val hF hp (aVic_may hV)).1
          have hvn := val_ne hv
          have e1 : pI c (some p) = 82 + 12 * c + p := rfl
          have e2 : ¬ 82 + 12 * c + p = 0 := by omega
          unfold f_X0_ask_54
          simp only [e1, e2, ↓reduceIte, K_p hc hp, hno p hp, eLt, Option.bind_some, ↓reduceIte, K_c74 hc, K_c75 hc, K_c76 hc, K_c77 hc, K_c78 hc, K_c79 hc, K_c80 hc, K_c81 hc, R_c1 hc, R_c2 hc, R_c3 hc, R_c4 hc, R_c5 hc, R_c6 hc, R_c8 hc, R_t5 hc, R_t6 hc, K_3, K_4, true_and, and_true, eB, decide_true, decide_false, Bool.or_true, Bool.true_or, not_true_eq_false, not_false_eq_true]
          cases ho : aOwn (a.1 136 (4 * c + p)) with
          | false =>
            have hst : a.1 136 (4 * c + p) = 1 := by
              unfold aVal at hv
              rw [ho] at hv
              simpa using hv
            refine c_bind (cs_vacN hc hp ho h) (fun I1 h1 => ?_)
            dsimp only
            unfold aVac
            rw [if_pos hst]
            exact cs_ask73 hc hl hp hq2.1 h1
          | true =>
            refine c_bind (cs_vacO hc hp hF ho hq2.1 h) (fun I1 h1 => ?_)
            dsimp only
            refine cs_ask73 hc hl hp ?_ h1
            have ns : ¬ a.1 136 (4 * c + p) = 1 := by
              intro g
              rw [g] at ho
              exact absurd ho (by decide)
            unfold aVac
            rw [if_neg ns, aW_2]
            refine Nat.lt_of_le_of_lt aSend_len ?_
            rw [aW_2]
            omega
  · simp only [q1, ↓reduceIte]
    exact c_ret h
end EPD
