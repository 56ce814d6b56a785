/-! the class: messages at a core -/
section EPD
variable {I I' I0 : Nat → Nat → Int32} {J : Nat → Nat → Int64} {a a' b : aS} {r i l q c k n p w z N o : Nat} {v t x y : Int32} {m : aM} {σ : eMem}
theorem cs_reply (hc : c < 4) (hl : l < 16) (hv : v = -1 ∨ aV v) (hq : (a.2 14).length < 64) (h : CF I0 I a) : cOk (f_X0_send (74 + 12 * c) 2 10 (Int32.ofNat l) v (I, J)) I0 J () (aAns a c l v) := by
  unfold aAns
  rcases hv with hv | ⟨n, hn, hv⟩
  · rw [if_pos hv, hv]
    exact c_eqa (cs_csend (w := 2) (kk := 10) (m := (9, l, c, 0)) (N := 0) hc hl (by decide) (by decide) g_9 (by decide) hq h) rfl
  · have n1 : aNt (Int32.ofNat n) = n := i_tn (by omega)
    have m1 : ¬ Int32.ofNat n = -1 := by
      rw [i_ne1 (by omega)]
      exact not_false
    rw [hv, if_neg m1, n1]
    exact c_eqa (cs_csend (w := 2) (kk := 10) (m := (8, l, c, n)) (N := n + 1) hc hl (by decide) (by decide) g_8 i_ad hq h) rfl
/-- a transaction is broken -/
theorem T_brk (hc : c < 4) (h : CF I0 I a) : CF I0 (eup I (79 + 12 * c) 1 1) (aW a 146 c 1) := by
  refine C_core (a := a) hc (fun r k g1 g2 => up_o (by omega)) (fun r i g1 g2 g3 g4 => aW_o (by omega)) rfl ?_ ?_ ?_ h
  · exact Lv_fr (h.1.2.2.2.2.1 c hc) (up_fr (by omega)) (fun l' _ => aW_o (by omega))
  · exact Co_fr (h.1.2.2.2.2.2.1 c hc) (fun k _ => up_o (by omega)) (up_fr (by omega)) (up_fr (by omega)) (aW_o (by omega)) (aW_o (by omega)) (aW_o (by omega)) (fun k _ => ⟨aW_o (by omega), aW_o (by omega)⟩)
  · obtain ⟨h1, h2, h3, h4⟩ := h.1.2.2.2.2.2.2.1 c hc
    unfold TxOk
    rw [up_k (by decide), up_eq, up_k (by decide), up_k (by decide), up_k (by decide), up_fr (r' := 80 + 12 * c) (by omega), up_fr (r' := 81 + 12 * c) (by omega), aW_e, aW_1 (by decide), aW_1 (by decide), aW_1 (by decide), aW_1 (by decide), aW_1 (by decide)]
    exact ⟨h1, rfl, h3, h4⟩
theorem cs_meet {kk : Nat} (hc : c < 4) (hl : l < 16) (hk : (k = 3 ∧ kk = 4) ∨ (k = 4 ∧ kk = 5) ∨ (k = 5 ∧ kk = 3)) (hS : sF a c) (h : CF I0 I a) :
    cOk (f_X10_meet (79 + 12 * c) (Int32.ofNat kk) (Int32.ofNat l) (I, J)) I0 J () (aBrk a c l k) := by
  have ht : (Int32.ofNat l).toNatClampNeg = l := i_tn (by omega)
  have hi : eix (Int32.ofNat l) 16 = true := i_ix hl (by decide)
  have h10 : ¬ (1 : Int32) = 0 := by decide
  have k4 : (Int32.ofNat kk = 4) = (kk = 4) := i_eq (m := 4) (by omega) (by decide)
  unfold f_X10_meet f_X10_meet_23 f_X10_meet_28 aBrk
  simp only [eLt, Option.bind_some, ↓reduceIte, K_c74 hc, K_c75 hc, K_c76 hc, K_c77 hc, K_c78 hc, K_c79 hc, K_c80 hc, K_c81 hc, R_c1 hc, R_c2 hc, R_c3 hc, R_c4 hc, R_c5 hc, R_c6 hc, R_c8 hc, R_t5 hc, R_t6 hc, K_3, K_4, true_and, and_true, eB, decide_true, decide_false, Bool.or_true, Bool.true_or, not_true_eq_false, not_false_eq_true, cs_has hc hl h, k4, ht, hi]
  by_cases q1 : aIsIn a c l = true
  · have ho : ¬ a.1 145 c = 0 := by
      intro g
      unfold aIsIn at q1
      rw [g] at q1
      simp at q1
    simp only [q1, h10, ↓reduceIte, true_and]
    by_cases q2 : kk = 4
    · have k3 : k = 3 := by omega
      simp only [q2, k3, not_true_eq_false, ↓reduceIte, tx_s hc hl ho h, true_implies]
      by_cases q3 : aBit (a.1 149 c) l = true
      · obtain ⟨n, hn, e⟩ := hS l hl q3
        have m1 : ¬ Int32.ofNat n = -1 := by
          rw [i_ne1 (by omega)]
          exact not_false
        simp only [q3, ↓reduceIte, e, m1]
        exact c_ret (T_brk hc h)
      · simp only [q3, ↓reduceIte, Bool.false_eq_true]
        exact c_ret h
    · have k3 : ¬ k = 3 := by omega
      simp only [q2, k3, not_false_eq_true, ↓reduceIte, false_implies]
      exact c_ret (T_brk hc h)
  · simp only [q1, Bool.false_eq_true, ↓reduceIte, false_and]
    exact c_ret h
theorem P_later (hc : c < 4) (hp : p < 4) (e : aFw x = y) (h : CF I0 I a) : CF I0 (eup I (82 + 12 * c + p) 5 y) (aW a 140 (4 * c + p) x) := by
  obtain ⟨h1, h2, h3, h4, h5⟩ := h.1.2.2.1 c p hc hp
  refine C_plN (a := a) (p := p) hc hp (fun r k g => up_r g) (up_k (by decide)) (fun r i g => aW_o (by omega)) rfl ?_ ?_ h
  · unfold PlOk
    rw [up_k (by decide), up_k (by decide), up_k (by decide), up_k (by decide), up_eq, aW_1 (by decide), aW_1 (by decide), aW_1 (by decide), aW_1 (by decide), aW_e]
    exact ⟨h1, h2, h3, h4, fun _ => e.symm⟩
  · rw [aW_1 (by decide)]
    exact id
theorem P_killed (hc : c < 4) (hp : p < 4) (h : CF I0 I a) : CF I0 (eup I (82 + 12 * c + p) 4 1) (aW a 139 (4 * c + p) 1) := by
  obtain ⟨h1, h2, h3, h4, h5⟩ := h.1.2.2.1 c p hc hp
  refine C_plN (a := a) (p := p) hc hp (fun r k g => up_r g) (up_k (by decide)) (fun r i g => aW_o (by omega)) rfl ?_ ?_ h
  · unfold PlOk
    rw [up_eq, up_k (by decide), up_k (by decide), up_k (by decide), up_k (by decide), aW_e, aW_1 (by decide), aW_1 (by decide), aW_1 (by decide), aW_1 (by decide)]
    exact ⟨h1, h2, h3, fun _ => rfl, h5⟩
  · rw [aW_1 (by decide)]
    exact id
theorem P_shared (hc : c < 4) (hp : p < 4) (ho : aVal (a.1 136 (4 * c + p)) = true) (h : CF I0 I a) : CF I0 (eup I (82 + 12 * c + p) 1 1) (aW a 136 (4 * c + p) 1) := by
  obtain ⟨h1, h2, h3, h4, h5⟩ := h.1.2.2.1 c p hc hp
  refine C_plN (a := a) (p := p) hc hp (fun r k g => up_r g) (up_k (by decide)) (fun r i g => aW_o (by omega)) rfl ?_ (fun _ => ho) h
  unfold PlOk
  rw [up_eq, up_k (by decide), up_k (by decide), up_k (by decide), up_k (by decide), aW_e, aW_1 (by decide), aW_1 (by decide), aW_1 (by decide), aW_1 (by decide)]
  refine ⟨rfl, ?_, fun _ => h3 ho, fun g => absurd g (by decide), fun g => absurd g (by decide)⟩
  rw [if_neg (by decide), h2, if_neg (val_ne ho).1]
theorem own_val (h : aOwn x = true) : aVal x = true := by
  unfold aVal
  rw [h]
  simp
theorem aAns_2 {v : Int32} (hq : ¬ q = 14) : (aAns a c l v).2 q = a.2 q := by
  unfold aAns
  split <;> exact aSend_k hq
theorem cs_giveL (hc : c < 4) (hl : l < 16) (hL : lF a c) (hq : (a.2 14).length < 64) (h : CF I0 I a) : cOk (f_X0_giveUp_68 (74 + 12 * c) (Int32.ofNat l) (I, J)) I0 J () (aFetL a c l) := by
  have ht : (Int32.ofNat l).toNatClampNeg = l := i_tn (by omega)
  have hi : eix (Int32.ofNat l) 16 = true := i_ix hl (by decide)
  unfold f_X0_giveUp_68 f_X0_giveUp_92 aFetL
  simp only [eLt, Option.bind_some, ↓reduceIte, K_c74 hc, K_c75 hc, K_c76 hc, K_c77 hc, K_c78 hc, K_c79 hc, K_c80 hc, K_c81 hc, R_c1 hc, R_c2 hc, R_c3 hc, R_c4 hc, R_c5 hc, R_c6 hc, R_c8 hc, R_t5 hc, R_t6 hc, K_3, K_4, true_and, and_true, eB, decide_true, decide_false, Bool.or_true, Bool.true_or, not_true_eq_false, not_false_eq_true, ht, hi, lv_l hc hl h]
  by_cases q : a.1 141 (16 * c + l) = -1
  · simp only [q, ↓reduceIte]
    exact c_ret h
  · simp only [q, ↓reduceIte]
    exact c_bind (cs_reply hc hl (hL l hl) hq h) (fun I1 h1 => c_ret h1)
theorem nF_0 (hN : nF a c) (hp : p < 4) (h : aWt (a.1 136 (4 * c + p)) = false) : a.1 139 (4 * c + p) = 0 ∧ a.1 140 (4 * c + p) = -1 := by
  refine ⟨?_, (hN p hp).2 h⟩
  rcases (hN p hp).1 with g | g
  · exact g
  · rw [g.2] at h
    exact absurd h (by decide)
theorem cs_give (hc : c < 4) (hl : l < 16) (hk : k = 3 ∨ k = 4) (hF : cF a c) (hN : nF a c) (hL : lF a c) (hq : (a.2 14).length < 64) (h : CF I0 I a) :
    cOk (f_X0_giveUp (74 + 12 * c) (Int32.ofNat (k + 1)) (Int32.ofNat l) (I, J)) I0 J () (aFet a c l k) := by
  have h10 : ¬ (1 : Int32) = 0 := by decide
  have k4 : (Int32.ofNat (k + 1) = 4) = (k = 3) := (i_eq (n := k + 1) (m := 4) (by omega) (by decide)).trans (by apply propext; omega)
  unfold f_X0_giveUp f_X0_giveUp_25 f_X0_giveUp_92 aFet
  simp only [eLt, Option.bind_some, ↓reduceIte, K_c74 hc, K_c75 hc, K_c76 hc, K_c77 hc, K_c78 hc, K_c79 hc, K_c80 hc, K_c81 hc, R_c1 hc, R_c2 hc, R_c3 hc, R_c4 hc, R_c5 hc, R_c6 hc, R_c8 hc, R_t5 hc, R_t6 hc, K_3, K_4, true_and, and_true, eB, decide_true, decide_false, Bool.or_true, Bool.true_or, not_true_eq_false, not_false_eq_true, cs_place hc hl h]
  cases hP : aPl a c l with
  | none =>
    have e0 : pI c none = 0 := rfl
    simp only [e0, ↓reduceIte]
    exact cs_giveL hc hl hL hq h
  | some p =>
    obtain ⟨hp, hat⟩ := aPl_lt hP
    have e1 : pI c (some p) = 82 + 12 * c + p := rfl
    have e2 : ¬ 82 + 12 * c + p = 0 := by omega
    simp only [e1, e2, ↓reduceIte, K_p hc hp, cs_waits hc hp h, Option.bind_some]
    by_cases q1 : aWt (a.1 136 (4 * c + p)) = true
    · simp only [q1, ↓reduceIte, h10]
      have : aFw (Int32.ofNat k) = Int32.ofNat (k + 1) := by
        unfold aFw
        rw [if_neg (by rw [i_ne1 (by omega)]; exact not_false)]
        exact i_ad
      exact c_ret (P_later hc hp this h)
    · simp only [q1, ↓reduceIte, Bool.false_eq_true, cs_may hc hp h, Option.bind_some]
      by_cases q2 : aOwn (a.1 136 (4 * c + p)) = true
      · have hv := own_val q2
        simp only [q2, ↓reduceIte, h10, pl_2 hc hp hv h]
        refine c_bind (cs_reply hc hl (Or.inr ((hF.1 p hp).2.2 hv)) hq h) (fun I1 h1 => ?_)
        simp only [k4]
        by_cases q3 : k = 3
        · simp only [q3, not_true_eq_false, ↓reduceIte]
          refine c_ret (P_shared hc hp ?_ h1)
          rw [aAns_1 (by decide)]
          exact hv
        · simp only [q3, not_false_eq_true, ↓reduceIte]
          exact c_bind (cs_emptyP hc hp h1) (fun I2 h2 => c_ret h2)
      · simp only [q2, ↓reduceIte, Bool.false_eq_true]
        exact cs_giveL hc hl hL hq h
theorem nF_eq (h6 : b.1 136 = a.1 136) (h9 : b.1 139 = a.1 139) (h0 : b.1 140 = a.1 140) (h : nF a c) : nF b c := by
  unfold nF at h ⊢
  rw [h6, h9, h0]
  exact h
theorem sF_eq (h9 : b.1 149 = a.1 149) (h0 : b.1 150 = a.1 150) (h : sF a c) : sF b c := by
  unfold sF at h ⊢
  rw [h9, h0]
  exact h
theorem cs_kill (hc : c < 4) (hl : l < 16) (hN : nF a c) (hq : (a.2 14).length < 64) (h : CF I0 I a) :
    cOk (f_X0_receiveKill (74 + 12 * c) (Int32.ofNat l) (I, J)) I0 J () (aAns (aKilS a c l) c l (-1)) := by
  have h10 : ¬ (1 : Int32) = 0 := by decide
  have G : ∀ (I1 : Nat → Nat → Int32) (b : aS), (b.2 14).length < 64 → CF I0 I1 b → cOk (f_X0_receiveKill_42 (74 + 12 * c) (Int32.ofNat l) (I1, J)) I0 J () (aAns b c l (-1)) := by
    intro I1 b hq1 h1
    unfold f_X0_receiveKill_42
    simp only [eLt, Option.bind_some, ↓reduceIte, K_c74 hc, K_c75 hc, K_c76 hc, K_c77 hc, K_c78 hc, K_c79 hc, K_c80 hc, K_c81 hc, R_c1 hc, R_c2 hc, R_c3 hc, R_c4 hc, R_c5 hc, R_c6 hc, R_c8 hc, R_t5 hc, R_t6 hc, K_3, K_4, true_and, and_true, eB, decide_true, decide_false, Bool.or_true, Bool.true_or, not_true_eq_false, not_false_eq_true]
    exact c_bind (cs_reply hc hl (Or.inl rfl) hq1 h1) (fun I2 h2 => c_ret h2)
  unfold f_X0_receiveKill f_X0_receiveKill_25 aKilS
  simp only [eLt, Option.bind_some, ↓reduceIte, K_c74 hc, K_c75 hc, K_c76 hc, K_c77 hc, K_c78 hc, K_c79 hc, K_c80 hc, K_c81 hc, R_c1 hc, R_c2 hc, R_c3 hc, R_c4 hc, R_c5 hc, R_c6 hc, R_c8 hc, R_t5 hc, R_t6 hc, K_3, K_4, true_and, and_true, eB, decide_true, decide_false, Bool.or_true, Bool.true_or, not_true_eq_false, not_false_eq_true, cs_place hc hl h]
  cases hP : aPl a c l with
  | none =>
    have e0 : pI c none = 0 := rfl
    simp only [e0, ↓reduceIte]
    exact G _ _ hq h
  | some p =>
    obtain ⟨hp, hat⟩ := aPl_lt hP
    have e1 : pI c (some p) = 82 + 12 * c + p := rfl
    have e2 : ¬ 82 + 12 * c + p = 0 := by omega
    simp only [e1, e2, ↓reduceIte, K_p hc hp, pl_1 hc hp h, true_and]
    by_cases q1 : a.1 136 (4 * c + p) = 1
    · simp only [q1, not_true_eq_false, ↓reduceIte]
      refine c_bind (cs_emptyP hc hp h) (fun I1 h1 => ?_)
      exact G _ _ hq h1
    · by_cases q2 : a.1 136 (4 * c + p) = 4
      · simp only [q2, not_true_eq_false, not_false_eq_true, ↓reduceIte, show ¬ (4 : Int32) = 1 by decide]
        exact G _ _ hq (P_killed hc hp h)
      · simp only [q1, q2, not_false_eq_true, ↓reduceIte]
        exact G _ _ hq h
theorem cs_useP (hc : c < 4) (hp : p < 4) : f_X0_use (74 + 12 * c) (82 + 12 * c + p) (I, J) = some ((), (eup (eup I (74 + 12 * c) 9 (I (74 + 12 * c) 9 + 1)) (82 + 12 * c + p) 3 (I (74 + 12 * c) 9 + 1), J)) := by
  unfold f_X0_use
  simp only [eLt, Option.bind_some, ↓reduceIte, K_c74 hc, K_c75 hc, K_c76 hc, K_c77 hc, K_c78 hc, K_c79 hc, K_c80 hc, K_c81 hc, R_c1 hc, R_c2 hc, R_c3 hc, R_c4 hc, R_c5 hc, R_c6 hc, R_c8 hc, R_t5 hc, R_t6 hc, K_3, K_4, true_and, and_true, eB, decide_true, decide_false, Bool.or_true, Bool.true_or, not_true_eq_false, not_false_eq_true, K_p hc hp, up_eq]
theorem aDatS_r {P what : Nat} : ∀ r, (aDatS a P what n).1 r P = if r = 140 then -1 else if r = 138 then a.1 122 18 + 1 else if r = 139 then 0 else if r = 136 then (if what = 1 ∧ ¬ a.1 139 P = 0 ∧ a.1 136 P = 4 then 0 else Int32.ofNat what) else if r = 137 then Int32.ofNat n else if r = 122 ∧ P = 18 then a.1 122 18 + 1 else a.1 r P := by
  intro r
  unfold aDatS aUse
  by_cases g1 : r = 140
  · subst g1
    rw [aW_e]
    rfl
  rw [aW_1 g1, if_neg g1]
  by_cases g2 : r = 138
  · subst g2
    rw [aW_e, aW_1 (by decide), aW_1 (by decide), aW_1 (by decide)]
    rfl
  rw [aW_1 g2, if_neg g2]
  by_cases g5 : r = 122 ∧ P = 18
  · obtain ⟨g5, g6⟩ := g5
    subst g5 g6
    rw [aW_e, aW_1 (by decide), aW_1 (by decide), aW_1 (by decide)]
    rfl
  rw [aW_o (by omega)]
  by_cases g3 : r = 139
  · subst g3
    rw [aW_e]
    rfl
  rw [aW_1 g3, if_neg g3]
  by_cases g4 : r = 136
  · subst g4
    rw [aW_e]
    rfl
  rw [aW_1 g4, if_neg g4]
  by_cases g7 : r = 137
  · subst g7
    rw [aW_e]
    rfl
  rw [aW_1 g7, if_neg g7, if_neg g5]
theorem aDatS_o {P what i : Nat} (h : ¬ (135 ≤ r ∧ r ≤ 140 ∧ i = P)) (h2 : ¬ (r = 122 ∧ i = 18)) : (aDatS a P what n).1 r i = a.1 r i := by
  unfold aDatS aUse
  rw [aW_o (by omega), aW_o (by omega), aW_o (by omega), aW_o (by omega), aW_o (by omega), aW_o (by omega)]
theorem aDatS_18 {P what : Nat} : (aDatS a P what n).1 122 18 = a.1 122 18 + 1 := by
  unfold aDatS aUse
  rw [aW_1 (by decide), aW_1 (by decide), aW_e, aW_1 (by decide), aW_1 (by decide), aW_1 (by decide)]
theorem nF_dat {what : Nat} (hp : p < 4) (hw : what = 1 ∨ what = 2 ∨ what = 3) (h : nF a c) : nF (aDatS a (4 * c + p) what n) c := by
  intro p' hp'
  by_cases g : p' = p
  · subst g
    refine ⟨Or.inl ?_, fun _ => ?_⟩
    · rw [aDatS_r]
      rfl
    · rw [aDatS_r]
      rfl
  · rw [aDatS_o (by omega) (by omega), aDatS_o (by omega) (by omega), aDatS_o (by omega) (by omega)]
    exact h p' hp'
theorem cs_data {what : Nat} (hc : c < 4) (hl : l < 16) (hP : aPl a c l = some p) (hwt : aWt (a.1 136 (4 * c + p)) = true) (hw : what = 1 ∨ what = 2 ∨ what = 3) (hn : n < 1000)
    (hla : a.1 140 (4 * c + p) = -1 ∨ ∃ k, (k = 3 ∨ k = 4) ∧ a.1 140 (4 * c + p) = Int32.ofNat k) (hF : cF a c) (hN : nF a c) (hL : lF a c) (hu : uF a) (hq : (a.2 14).length < 64) (h : CF I0 I a) :
    cOk (f_X0_receiveData (74 + 12 * c) (Int32.ofNat what) (Int32.ofNat l) (Int32.ofNat n) (I, J)) I0 J () (aDat a c l (4 * c + p) what n) := by
  obtain ⟨hp, hat⟩ := aPl_lt hP
  have h10 : ¬ (1 : Int32) = 0 := by decide
  have e1 : pI c (some p) = 82 + 12 * c + p := rfl
  have e2 : ¬ 82 + 12 * c + p = 0 := by omega
  have w1 : (Int32.ofNat what = 1) = (what = 1) := i_eq (m := 1) (by omega) (by decide)
  have hst := (aAt_iff.1 hat).1
  have G : ∀ (I1 : Nat → Nat → Int32), I1 (82 + 12 * c + p) 5 = aFw (a.1 140 (4 * c + p)) → CF I0 I1 (aDatS a (4 * c + p) what n) → cOk (f_X0_receiveData_55 (74 + 12 * c) (Int32.ofNat l) (82 + 12 * c + p) (I1, J)) I0 J () (aDat a c l (4 * c + p) what n) := by
    intro I1 h5 h1
    unfold f_X0_receiveData_55 f_X0_receiveData_73 aDat
    simp only [K_p hc hp, ↓reduceIte, h5]
    rcases hla with g | ⟨k, hk, g⟩
    · rw [g, if_pos rfl]
      have : aFw (-1) = 0 := rfl
      simp only [this, ↓reduceIte]
      exact c_ret h1
    · have m1 : ¬ Int32.ofNat k = -1 := by
        rw [i_ne1 (by omega)]
        exact not_false
      have n1 : aNt (Int32.ofNat k) = k := i_tn (by omega)
      have f1 : aFw (Int32.ofNat k) = Int32.ofNat (k + 1) := by
        unfold aFw
        rw [if_neg m1]
        exact i_ad
      have z1 : ¬ Int32.ofNat (k + 1) = 0 := by
        rw [show (Int32.ofNat (k + 1) = 0) = (k + 1 = 0) from i_eq (m := 0) (by omega) (by decide)]
        omega
      rw [g, if_neg m1, n1, f1]
      simp only [z1, ↓reduceIte, K_c74 hc]
      exact c_bind (cs_give hc hl hk (cF_dat hp hw hn hat hF) (nF_dat hp hw hN) (lF_eq (aDatS_1 (by decide) (by decide) (by decide) (by decide) (by decide) (by decide)) hL) hq h1) (fun I2 h2 => c_ret h2)
  have F : (if what = 1 ∧ ¬ a.1 139 (4 * c + p) = 0 ∧ a.1 136 (4 * c + p) = 4 then 0 else Int32.ofNat what) = Int32.ofNat what → cOk (f_X0_receiveData_42 (74 + 12 * c) (Int32.ofNat what) (Int32.ofNat l) (Int32.ofNat n) (82 + 12 * c + p) (I, J)) I0 J () (aDat a c l (4 * c + p) what n) := by
    intro hs
    unfold f_X0_receiveData_42 f_X7_fill
    simp only [eLt, Option.bind_some, ↓reduceIte, K_c74 hc, K_c75 hc, K_c76 hc, K_c77 hc, K_c78 hc, K_c79 hc, K_c80 hc, K_c81 hc, R_c1 hc, R_c2 hc, R_c3 hc, R_c4 hc, R_c5 hc, R_c6 hc, R_c8 hc, R_t5 hc, R_t6 hc, K_3, K_4, true_and, and_true, eB, decide_true, decide_false, Bool.or_true, Bool.true_or, not_true_eq_false, not_false_eq_true, K_p hc hp, cs_useP hc hp]
    have e9 : eup (eup I (82 + 12 * c + p) 1 (Int32.ofNat what)) (82 + 12 * c + p) 2 (Int32.ofNat n) (74 + 12 * c) 9 = I (74 + 12 * c) 9 := by
      rw [up_r (by omega), up_r (by omega)]
    rw [e9]
    refine G _ ?_ ?_
    · rw [up_k (by decide), up_r (by omega), up_k (by decide), up_k (by decide)]
      exact pl_5 hc hp hwt h
    refine C_plU (a := a) (p := p) hc hp (fun r k g1 g2 => ?_) ?_ up_eq (fun r i g1 g2 => aDatS_o g1 g2) aDatS_18 ?_ rfl ?_ hu h
    · rw [up_r g1, up_o g2, up_r g1, up_r g1]
    · rw [up_r (by omega), up_eq]
    · rw [aDatS_r]
      rfl
    · have wz : ¬ Int32.ofNat what = 0 := by
        rw [show (Int32.ofNat what = 0) = (what = 0) from i_eq (m := 0) (by omega) (by decide)]
        omega
      have hl0 := pl_0 hc hp h
      rw [if_neg hst] at hl0
      unfold PlOk
      rw [aDatS_r, aDatS_r, aDatS_r, aDatS_r, aDatS_r, hs]
      simp only [Nat.reduceEqDiff, ↓reduceIte, false_and, wz]
      have wn : aWt (Int32.ofNat what) = true → False := by
        rcases hw with g | g | g <;> rw [g] <;> decide
      refine ⟨?_, ?_, fun _ => ?_, fun g => (wn g).elim, fun g => (wn g).elim⟩
      · rw [up_k (by decide), up_r (by omega), up_k (by decide), up_eq]
      · rw [up_k (by decide), up_r (by omega), up_k (by decide), up_k (by decide)]
        exact hl0
      · rw [up_k (by decide), up_r (by omega), up_eq]
  unfold f_X0_receiveData
  simp only [eLt, Option.bind_some, ↓reduceIte, K_c74 hc, K_c75 hc, K_c76 hc, K_c77 hc, K_c78 hc, K_c79 hc, K_c80 hc, K_c81 hc, R_c1 hc, R_c2 hc, R_c3 hc, R_c4 hc, R_c5 hc, R_c6 hc, R_c8 hc, R_t5 hc, R_t6 hc, K_3, K_4, true_and, and_true, eB, decide_true, decide_false, Bool.or_true, Bool.true_or, not_true_eq_false, not_false_eq_true, cs_place hc hl h, hP, e1, e2, K_p hc hp, cs_waits hc hp h, hwt, h10, pl_4 hc hp hwt h, w1]
  by_cases q1 : what = 1
  · simp only [q1, not_true_eq_false, ↓reduceIte]
    by_cases q2 : a.1 139 (4 * c + p) = 0
    · simp only [q2, ↓reduceIte]
      rw [q1] at F
      exact F (by simp [q2])
    · simp only [q2, ↓reduceIte]
      have q3 : a.1 136 (4 * c + p) = 4 := by
        rcases (hN p hp).1 with g | g
        · exact absurd g q2
        · exact g.2
      simp only [cs_emptyX hc hp, Option.bind_some]
      rw [q1] at G
      refine G _ ?_ ?_
      · rw [up_k (by decide), up_k (by decide)]
        exact pl_5 hc hp hwt h
      refine C_plK (a := a) (p := p) hc hp (fun r k g => ?_) (fun r i g1 g2 => aDatS_o g1 g2) aDatS_18 ?_ rfl ?_ hu h
      · rw [up_r g, up_r g]
      · rw [aDatS_r]
        simp [q2, q3]
      · unfold PlOk
        rw [aDatS_r, aDatS_r, aDatS_r, aDatS_r, aDatS_r]
        simp only [Nat.reduceEqDiff, ↓reduceIte, false_and, true_and, q2, q3, not_false_eq_true, and_self]
        refine ⟨?_, ?_, fun g => absurd g (by decide), fun g => absurd g (by decide), fun g => absurd g (by decide)⟩
        · rw [up_eq]
        · rw [up_k (by decide), up_eq]
  · simp only [q1, not_false_eq_true, ↓reduceIte]
    exact F (by rw [if_neg (fun g => q1 g.1)])
/-- what must hold for a message to be taken by a core -/
def eD (a : aS) (c : Nat) (m : aM) : Prop :=
  mOk m ∧ cF a c ∧ nF a c ∧ lF a c ∧ sF a c ∧ uF a ∧ (((m.1 = 3 ∨ m.1 = 4) ∨ m.1 = 5) ∨ m.1 = 7 ∨ (m.1 = 6 ∧ (m.2.2.1 = 1 ∨ m.2.2.1 = 2 ∨ m.2.2.1 = 3) ∧
    ∃ p, aPl a c m.2.1 = some p ∧ aWt (a.1 136 (4 * c + p)) = true ∧ (a.1 140 (4 * c + p) = -1 ∨ ∃ k, (k = 3 ∨ k = 4) ∧ a.1 140 (4 * c + p) = Int32.ofNat k)))
theorem cs_recv (hc : c < 4) (hD : eD a c m) (hq : (a.2 14).length < 64) (h : CF I0 I a) : cOk (f_X0_receive (74 + 12 * c) (gCm m) (I, J)) I0 J () (aCore a c m) := by
  obtain ⟨⟨hm1, hl, hm3, hm4⟩, hF, hN, hL, hS, hu, hk⟩ := hD
  obtain ⟨k, l, w, n⟩ := m
  dsimp only at *
  have ht : (Int32.ofNat l).toNatClampNeg = l := i_tn (by omega)
  have hi : eix (Int32.ofNat l) 16 = true := i_ix hl (by decide)
  have hFb : ∀ k, cF (aBrk a c l k) c := fun k => cF_eq (aBrk_1 (by decide)) (aBrk_1 (by decide)) (aBrk_1 (by decide)) hF
  have hNb : ∀ k, nF (aBrk a c l k) c := fun k => nF_eq (aBrk_1 (by decide)) (aBrk_1 (by decide)) (aBrk_1 (by decide)) hN
  have hLb : ∀ k, lF (aBrk a c l k) c := fun k => lF_eq (aBrk_1 (by decide)) hL
  have hqb : ∀ k, ((aBrk a c l k).2 14).length < 64 := fun k => by rw [aBrk_2]; exact hq
  unfold f_X0_receive f_X0_receive_112 aCore
  rcases hk with (hk | hk) | hk | ⟨hk, hw, p, hP, hwt, hla⟩
  · rcases hk with hk | hk <;> subst hk
    · have z : Int32.ofNat 5 = 5 := rfl
      have z4 : Int32.ofNat 4 = 4 := rfl
      rw [g_3]
      simp only [b_kind (k := 4) (l := l) (c := 0) (N := 0) (by decide), b_line (k := 4) (c := 0) (N := 0) (by decide) hl (by decide) (by decide), Option.bind_some, z4, show ¬ (4 : Int32) = 3 by decide, ↓reduceIte, eLt, Option.bind_some, ↓reduceIte, K_c74 hc, K_c75 hc, K_c76 hc, K_c77 hc, K_c78 hc, K_c79 hc, K_c80 hc, K_c81 hc, R_c1 hc, R_c2 hc, R_c3 hc, R_c4 hc, R_c5 hc, R_c6 hc, R_c8 hc, R_t5 hc, R_t6 hc, K_3, K_4, true_and, and_true, eB, decide_true, decide_false, Bool.or_true, Bool.true_or, not_true_eq_false, not_false_eq_true,
        show ¬ 3 = 7 by decide, show ¬ 3 = 6 by decide, show ¬ 3 = 5 by decide]
      refine c_bind (cs_meet (k := 3) (kk := 4) hc hl (Or.inl ⟨rfl, rfl⟩) hS h) (fun I1 h1 => ?_)
      dsimp only
      exact c_bind (cs_give (k := 3) hc hl (Or.inl rfl) (hFb 3) (hNb 3) (hLb 3) (hqb 3) h1) (fun I2 h2 => c_ret h2)
    · have z : Int32.ofNat 5 = 5 := rfl
      rw [g_4]
      simp only [b_kind (k := 5) (l := l) (c := 0) (N := 0) (by decide), b_line (k := 5) (c := 0) (N := 0) (by decide) hl (by decide) (by decide), Option.bind_some, z, show ¬ (5 : Int32) = 3 by decide, show ¬ (5 : Int32) = 4 by decide, ↓reduceIte, eLt, Option.bind_some, ↓reduceIte, K_c74 hc, K_c75 hc, K_c76 hc, K_c77 hc, K_c78 hc, K_c79 hc, K_c80 hc, K_c81 hc, R_c1 hc, R_c2 hc, R_c3 hc, R_c4 hc, R_c5 hc, R_c6 hc, R_c8 hc, R_t5 hc, R_t6 hc, K_3, K_4, true_and, and_true, eB, decide_true, decide_false, Bool.or_true, Bool.true_or, not_true_eq_false, not_false_eq_true,
        show ¬ 4 = 7 by decide, show ¬ 4 = 6 by decide, show ¬ 4 = 5 by decide]
      refine c_bind (cs_meet (k := 4) (kk := 5) hc hl (Or.inr (Or.inl ⟨rfl, rfl⟩)) hS h) (fun I1 h1 => ?_)
      dsimp only
      exact c_bind (cs_give (k := 4) hc hl (Or.inr rfl) (hFb 4) (hNb 4) (hLb 4) (hqb 4) h1) (fun I2 h2 => c_ret h2)
  · subst hk
    have z : Int32.ofNat 3 = 3 := rfl
    rw [g_5]
    simp only [b_kind (k := 3) (l := l) (c := 0) (N := 0) (by decide), b_line (k := 3) (c := 0) (N := 0) (by decide) hl (by decide) (by decide), Option.bind_some, z, ↓reduceIte, eLt, Option.bind_some, ↓reduceIte, K_c74 hc, K_c75 hc, K_c76 hc, K_c77 hc, K_c78 hc, K_c79 hc, K_c80 hc, K_c81 hc, R_c1 hc, R_c2 hc, R_c3 hc, R_c4 hc, R_c5 hc, R_c6 hc, R_c8 hc, R_t5 hc, R_t6 hc, K_3, K_4, true_and, and_true, eB, decide_true, decide_false, Bool.or_true, Bool.true_or, not_true_eq_false, not_false_eq_true,
      show ¬ 5 = 7 by decide, show ¬ 5 = 6 by decide]
    refine c_bind (cs_meet (k := 5) (kk := 3) hc hl (Or.inr (Or.inr ⟨rfl, rfl⟩)) hS h) (fun I1 h1 => ?_)
    dsimp only
    unfold aKil
    exact c_bind (cs_kill hc hl (hNb 5) (hqb 5) h1) (fun I2 h2 => c_ret h2)
  · subst hk
    have z : Int32.ofNat 9 = 9 := rfl
    rw [g_7]
    simp only [b_kind (k := 9) (l := l) (c := 0) (N := 0) (by decide), b_line (k := 9) (c := 0) (N := 0) (by decide) hl (by decide) (by decide), Option.bind_some, z, ↓reduceIte, eLt, Option.bind_some, ↓reduceIte, K_c74 hc, K_c75 hc, K_c76 hc, K_c77 hc, K_c78 hc, K_c79 hc, K_c80 hc, K_c81 hc, R_c1 hc, R_c2 hc, R_c3 hc, R_c4 hc, R_c5 hc, R_c6 hc, R_c8 hc, R_t5 hc, R_t6 hc, K_3, K_4, true_and, and_true, eB, decide_true, decide_false, Bool.or_true, Bool.true_or, not_true_eq_false, not_false_eq_true,
      show ¬ (9 : Int32) = 3 by decide, show ¬ (9 : Int32) = 4 by decide, show ¬ (9 : Int32) = 5 by decide, show ¬ (9 : Int32) = 6 by decide, show ¬ (9 : Int32) = 7 by decide, show ¬ (9 : Int32) = 8 by decide, ht, hi]
    exact c_ret (P_leave hc hl h)
  · subst hk
    rw [hP]
    dsimp only
    have hd := cs_data (J := J) (I := I) (what := w) hc hl hP hwt hw hm4 hla hF hN hL hu hq h
    rw [g_6]
    have ez : ∀ W : Int32, W = Int32.ofNat (5 + w) → (1 : Int32) + W - 6 = Int32.ofNat w := by
      intro W e
      rw [e]
      show Int32.ofNat 1 + _ - Int32.ofNat 6 = _
      rw [i_ad, i_sb (by omega)]
      congr 1
      omega
    simp only [b_kind (k := 5 + w) (l := l) (c := 0) (N := n + 1) (by omega), b_line (k := 5 + w) (c := 0) (N := n + 1) (by omega) hl (by decide) (by omega), b_val (k := 5 + w) (c := 0) (N := n + 1) (by omega) hl (by decide) (by omega), Option.bind_some, b_v1,
      ez (Int32.ofNat (5 + w)) rfl, K_c74 hc, ↓reduceIte]
    rcases hw with q | q | q <;> subst q
    · have z : Int32.ofNat (5 + 1) = 6 := rfl
      simp only [z, show ¬ (6 : Int32) = 3 by decide, show ¬ (6 : Int32) = 4 by decide, show ¬ (6 : Int32) = 5 by decide, ↓reduceIte]
      exact c_bind hd (fun I2 h2 => c_ret h2)
    · have z : Int32.ofNat (5 + 2) = 7 := rfl
      simp only [z, show ¬ (7 : Int32) = 3 by decide, show ¬ (7 : Int32) = 4 by decide, show ¬ (7 : Int32) = 5 by decide, show ¬ (7 : Int32) = 6 by decide, ↓reduceIte]
      exact c_bind hd (fun I2 h2 => c_ret h2)
    · have z : Int32.ofNat (5 + 3) = 8 := rfl
      simp only [z, show ¬ (8 : Int32) = 3 by decide, show ¬ (8 : Int32) = 4 by decide, show ¬ (8 : Int32) = 5 by decide, show ¬ (8 : Int32) = 6 by decide, show ¬ (8 : Int32) = 7 by decide, ↓reduceIte]
      exact c_bind hd (fun I2 h2 => c_ret h2)
end EPD
