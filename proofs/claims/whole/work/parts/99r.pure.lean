/-! the reference: which result a step gives; stores -/
section EPT
variable {P : aP} {I I' I0 : Nat → Nat → Int32} {J J' J0 : Nat → Nat → Int64} {m r y z k n p t s N K v w i j : Nat} {l L M : List Nat} {X Y Z W : Int32} {σ : eMem} {b : Nat → Bool} {A : Int32}
theorem wN_skip {g : Nat → Bool} : ∀ d a, (∀ z, a ≤ z → z < a + d → g z = false) → wN g (a + d) = wN g a
  | 0, _, _ => rfl
  | d + 1, a, h => by
    show wN g (a + d) + (if g (a + d) = true then 1 else 0) = _
    rw [h (a + d) (by omega) (by omega), if_neg (by decide), wN_skip d a (fun z h1 h2 => h z h1 (by omega)), Nat.add_zero]
theorem t4' : (4 : Int32) * Int32.ofNat t = Int32.ofNat (4 * t) := i_mu (n := 4)
theorem used_at4 (h : gWf P) (ht : t < 3) (hk : k < P.1 t) : gU P (4 * t + k) = true ∧ 4 * t + k < 12 ∧ (4 * t + k) / 4 = t ∧ (4 * t + k) % 4 = k := by
  have := used_at h ht hk
  rw [Nat.mul_comm t 4] at this
  exact ⟨this.1, (gU_iff.1 this.1).1, this.2.1, this.2.2⟩
theorem rp_ro1 (h : PgR I P) (hb : ∀ x, x < 12 → (Int32.ofNat x ≤ A ↔ b x = false)) (ht : t < 3) : ∀ d k N, k + d = P.1 t → 5 * d + 1 + K ≤ N →
    ∃ M, K ≤ M ∧ f_X12_resultOf_L4 N (.inr (.inl (122, A, Int32.ofNat (wN (fun z => gR P z && b z) (4 * t + k)), Int32.ofNat t, Int32.ofNat k))) (I, J) = f_X12_resultOf_L4 M (.inl (122, A, Int32.ofNat (wN (fun z => gR P z && b z) (4 * t + 4)), Int32.ofNat (t + 1))) (I, J) := by
  have h4 := h.1.1 t ht
  have e1 : Int32.ofNat t + 1 = Int32.ofNat (t + 1) := i_ad (m := 1)
  intro d
  induction d with
  | zero =>
    intro k N hk hN
    have hk' : k = P.1 t := hk
    obtain ⟨N, rfl⟩ := Nat.exists_eq_add_of_le' hN
    have e : (Int32.ofNat (P.1 t) ≤ Int32.ofNat k) = True := (i_le (by omega) (by omega)).trans (eq_true (by omega))
    have hs : wN (fun z => gR P z && b z) (4 * t + 4) = wN (fun z => gR P z && b z) (4 * t + k) := by
      have := wN_skip (g := fun z => gR P z && b z) (4 - k) (4 * t + k) (fun z h1 h2 => by
        have hu : gU P z = false := (gU_false (by omega)).2 (by rw [show z / 4 = t by omega]; omega)
        unfold gR
        rw [hu, Bool.false_and, Bool.false_and])
      rw [show 4 * t + k + (4 - k) = 4 * t + 4 by omega] at this
      exact this
    refine ⟨N + K, by omega, ?_⟩
    obtain ⟨B, hB⟩ : ∃ B, B = N + K := ⟨_, rfl⟩
    rw [show N + (5 * 0 + 1 + K) = N + K + 1 by omega, ← hB, hs, f_X12_resultOf_L4]
    simp only [eLt, Option.bind_some, ↓reduceIte, K_122, R_122_33, R_122_34, R_122_35, R_122_36, K_154, K_155, K_156, K_157, true_and, and_true, eB, decide_true, decide_false, Bool.or_true, Bool.true_or, not_true_eq_false, not_false_eq_true, t_tn ht, t_ix ht, h.2.1 t ht, e, e1]
  | succ d ih =>
    intro k N hk hN
    obtain ⟨N, rfl⟩ := Nat.exists_eq_add_of_le' hN
    have e : (Int32.ofNat (P.1 t) ≤ Int32.ofNat k) = False := (i_le (by omega) (by omega)).trans (eq_false (by omega))
    obtain ⟨hu, hx, _, _⟩ := used_at4 h.1 ht (show k < P.1 t by omega)
    obtain ⟨w1, w2, w3⟩ := h.1.2.2 _ hu
    have ea : Int32.ofNat (4 * t) + Int32.ofNat k = Int32.ofNat (4 * t + k) := i_ad
    have d1 : (Int32.ofNat (P.2.1 (4 * t + k)) = 1) = (P.2.1 (4 * t + k) = 1) := i_eq (m := 1) (by omega) (by decide)
    have d3 : (Int32.ofNat (P.2.1 (4 * t + k)) = 3) = (P.2.1 (4 * t + k) = 3) := i_eq (m := 3) (by omega) (by decide)
    have ek : Int32.ofNat k + 1 = Int32.ofNat (k + 1) := i_ad (m := 1)
    have n10 : ¬ (1 : Int32) = 0 := by decide
    have hc : wN (fun z => gR P z && b z) (4 * t + (k + 1)) = wN (fun z => gR P z && b z) (4 * t + k) + (if (gR P (4 * t + k) && b (4 * t + k)) = true then 1 else 0) := rfl
    have hbx := hb _ hx
    -- from the flag on
    have fl : ∀ (g : Bool) N', 5 * d + 1 + K + 3 ≤ N' → g = gR P (4 * t + k) → ∃ M, K ≤ M ∧ f_X12_resultOf_L4 N' (.inr (.inr (.inr (.inl (122, A, Int32.ofNat (wN (fun z => gR P z && b z) (4 * t + k)), Int32.ofNat t, Int32.ofNat k, if g = true then 1 else 0))))) (I, J) = f_X12_resultOf_L4 M (.inl (122, A, Int32.ofNat (wN (fun z => gR P z && b z) (4 * t + 4)), Int32.ofNat (t + 1))) (I, J) := by
      intro g N' hN' hg
      have last : ∀ (c : Bool) N'', 5 * d + 1 + K + 1 ≤ N'' → c = (gR P (4 * t + k) && b (4 * t + k)) → ∃ M, K ≤ M ∧ f_X12_resultOf_L4 N'' (.inr (.inr (.inr (.inr (.inr (122, A, Int32.ofNat t, Int32.ofNat k, Int32.ofNat (wN (fun z => gR P z && b z) (4 * t + k)), if c = true then 1 else 0)))))) (I, J) = f_X12_resultOf_L4 M (.inl (122, A, Int32.ofNat (wN (fun z => gR P z && b z) (4 * t + 4)), Int32.ofNat (t + 1))) (I, J) := by
        intro c N'' hN'' hc'
        obtain ⟨N'', rfl⟩ := Nat.exists_eq_add_of_le' (show 1 ≤ N'' by omega)
        obtain ⟨M, m1, m2⟩ := ih (k + 1) N'' (by omega) (by omega)
        refine ⟨M, m1, ?_⟩
        rw [← m2, hc, ← hc']
        obtain ⟨B, hB⟩ : ∃ B, B = N'' := ⟨_, rfl⟩
        rw [← hB, f_X12_resultOf_L4, eLt, ek]
        cases c with
        | true => rw [if_pos rfl, if_pos rfl, show (1 : Int32) = Int32.ofNat 1 from rfl, i_ad]
        | false =>
          rw [if_neg (by decide), if_neg (by decide), Int32.add_zero]
          rfl
      obtain ⟨N', rfl⟩ := Nat.exists_eq_add_of_le' (show 2 ≤ N' by omega)
      rw [show N' + 2 = N' + 1 + 1 by omega, f_X12_resultOf_L4]
      cases g with
      | false =>
        simp only [Bool.false_eq_true, ↓reduceIte]
        rw [f_X12_resultOf_L4]
        exact last false N' (by omega) (by rw [← hg]; rfl)
      | true =>
        simp only [n10, ↓reduceIte, t4', ea]
        by_cases q : Int32.ofNat (4 * t + k) ≤ A
        · rw [if_pos q, f_X12_resultOf_L4]
          exact last false N' (by omega) (by rw [← hg, hbx.1 q]; rfl)
        · rw [if_neg q]
          have q' : b (4 * t + k) = true := Bool.not_eq_false _ ▸ (fun f => q (hbx.2 f))
          exact last true (N' + 1) (by omega) (by rw [← hg, q']; rfl)
    have hR : gR P (4 * t + k) = (decide (P.2.1 (4 * t + k) = 1) || decide (P.2.1 (4 * t + k) = 3)) := by
      unfold gR
      rw [hu, Bool.true_and]
    rw [show N + (5 * (d + 1) + 1 + K) = N + 5 * d + 1 + K + 3 + 1 + 1 by omega, f_X12_resultOf_L4]
    simp only [eLt, Option.bind_some, ↓reduceIte, K_122, R_122_33, R_122_34, R_122_35, R_122_36, K_154, K_155, K_156, K_157, true_and, and_true, eB, decide_true, decide_false, Bool.or_true, Bool.true_or, not_true_eq_false, not_false_eq_true, t_tn ht, t_ix ht, h.2.1 t ht, e, t4', ea, x_tn hx, x_ix hx, (h.2.2 _ hu).1, d1, d3]
    by_cases q1 : P.2.1 (4 * t + k) = 1
    · rw [if_pos q1, f_X12_resultOf_L4]
      exact fl true _ (by omega) (by rw [hR, decide_eq_true q1]; rfl)
    · rw [if_neg q1]
      by_cases q3 : P.2.1 (4 * t + k) = 3
      · simp only [q3, not_true_eq_false, ↓reduceIte]
        rw [f_X12_resultOf_L4]
        exact fl true _ (by omega) (by rw [hR, decide_eq_true q3, Bool.or_true])
      · simp only [q3, not_false_eq_true, ↓reduceIte]
        exact fl false _ (by omega) (by rw [hR, decide_eq_false q1, decide_eq_false q3]; rfl)
end EPT
