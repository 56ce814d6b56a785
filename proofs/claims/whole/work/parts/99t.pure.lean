/-! the reference: the store of a thread with a number -/
section EPT
variable {P : aP} {I I' I0 : Nat → Nat → Int32} {J J' J0 : Nat → Nat → Int64} {m r y z k n p t s N K v w i j : Nat} {l L M : List Nat} {X Y Z W : Int32} {σ : eMem} {b : Nat → Bool} {A : Int32}
/-- the store with a number among a thread's first steps -/
def sAt (P : aP) (t w : Nat) : Nat → Option Nat
  | 0 => none
  | k + 1 => if P.2.1 (4 * t + k) = 0 ∧ nS P t k = w then some k else sAt P t w k
def sAx (t : Nat) : Option Nat → Int32
  | none => -1
  | some j => Int32.ofNat (4 * t + j)
theorem sAt_some : ∀ k, sAt P t w k = some j → j < k ∧ P.2.1 (4 * t + j) = 0 ∧ nS P t j = w
  | 0, h => by cases h
  | k + 1, h => by
    unfold sAt at h
    by_cases q : P.2.1 (4 * t + k) = 0 ∧ nS P t k = w
    · rw [if_pos q] at h
      cases h
      exact ⟨by omega, q⟩
    · rw [if_neg q] at h
      have := sAt_some k h
      exact ⟨by omega, this.2⟩
theorem sAt_ex : ∀ k, w < nS P t k → ∃ j, sAt P t w k = some j
  | 0, h => by
    have := nS_le (P := P) (t := t) 0
    omega
  | k + 1, h => by
    unfold sAt
    by_cases q : P.2.1 (4 * t + k) = 0 ∧ nS P t k = w
    · exact ⟨k, if_pos q⟩
    · rw [if_neg q]
      refine sAt_ex k ?_
      rw [nS_s] at h
      by_cases q2 : P.2.1 (4 * t + k) = 0
      · rw [if_pos q2] at h
        have : ¬ nS P t k = w := fun g => q ⟨q2, g⟩
        omega
      · rw [if_neg q2] at h
        omega
theorem sb_0 (h : y < 2147483648) (g : z < 2147483648) : (Int32.ofNat y - Int32.ofNat z = 0) = (y = z) := by
  refine propext ⟨fun q => ?_, fun q => by rw [q, Int32.sub_self]⟩
  have e : Int32.ofNat y = Int32.ofNat z := by
    have := congrArg (· + Int32.ofNat z) q
    simp only [Int32.sub_add_cancel, Int32.zero_add] at this
    exact this
  rw [i_eq h g] at e
  exact e
theorem sb1 (a b : Int32) : a - b + (-1) = a - (b + 1) := by
  rw [Int32.sub_eq_add_neg, Int32.sub_eq_add_neg, Int32.neg_add, Int32.add_assoc, Int32.sub_eq_add_neg]
theorem rp_sa (h : PgR I P) (ht : t < 3) (hn : n ≤ P.1 t) (hw : w < 16) : ∀ d k N, k + d = n → 3 * d + 1 ≤ N →
    f_X12_storeAt_L9 N (.inl (122, Int32.ofNat t, Int32.ofNat n, Int32.ofNat w - Int32.ofNat (nS P t k), sAx t (sAt P t w k), Int32.ofNat k)) (I, J) = some (sAx t (sAt P t w n), (I, J)) := by
  have h4 := h.1.1 t ht
  intro d
  induction d with
  | zero =>
    intro k N hk hN
    have hk' : k = n := hk
    subst hk'
    obtain ⟨N, rfl⟩ := Nat.exists_eq_add_of_le' hN
    have e : (Int32.ofNat k ≤ Int32.ofNat k) = True := (i_le (by omega) (by omega)).trans (eq_true (by omega))
    rw [show N + (3 * 0 + 1) = N + 1 by omega, f_X12_storeAt_L9]
    simp only [e, ↓reduceIte]
  | succ d ih =>
    intro k N hk hN
    obtain ⟨N, rfl⟩ := Nat.exists_eq_add_of_le' hN
    have e : (Int32.ofNat n ≤ Int32.ofNat k) = False := (i_le (by omega) (by omega)).trans (eq_false (by omega))
    obtain ⟨hu, hx, _, _⟩ := used_at4 h.1 ht (show k < P.1 t by omega)
    obtain ⟨w1, w2, w3⟩ := h.1.2.2 _ hu
    have ea : Int32.ofNat (4 * t) + Int32.ofNat k = Int32.ofNat (4 * t + k) := i_ad
    have d0 : (Int32.ofNat (P.2.1 (4 * t + k)) = 0) = (P.2.1 (4 * t + k) = 0) := i_eq (m := 0) (by omega) (by decide)
    have ek : Int32.ofNat k + 1 = Int32.ofNat (k + 1) := i_ad (m := 1)
    have hle := nS_le (P := P) (t := t) k
    have el := sb_0 (y := w) (z := nS P t k) (by omega) (by omega)
    have hs : sAt P t w (k + 1) = if P.2.1 (4 * t + k) = 0 ∧ nS P t k = w then some k else sAt P t w k := rfl
    rw [show N + (3 * (d + 1) + 1) = N + (3 * d + 1) + 1 + 1 + 1 by omega, f_X12_storeAt_L9]
    simp only [eLt, Option.bind_some, ↓reduceIte, K_122, R_122_33, R_122_34, R_122_35, R_122_36, K_154, K_155, K_156, K_157, true_and, and_true, eB, decide_true, decide_false, Bool.or_true, Bool.true_or, not_true_eq_false, not_false_eq_true, e, t4', ea, x_tn hx, x_ix hx, (h.2.2 _ hu).1, d0, el]
    by_cases q : P.2.1 (4 * t + k) = 0
    · have ed : Int32.ofNat w - Int32.ofNat (nS P t k) + (-1) = Int32.ofNat w - Int32.ofNat (nS P t (k + 1)) := by
        rw [nS_s, if_pos q, ← i_ad]
        exact sb1 _ _
      have key := ih (k + 1) (N + (3 * d + 1)) (by omega) (by omega)
      rw [← ed, hs] at key
      by_cases q2 : w = nS P t k
      · rw [if_pos ⟨q, q2.symm⟩] at key
        have q2' : (w = nS P t k) = True := eq_true q2
        simp only [q, q2', not_true_eq_false, ↓reduceIte]
        rw [f_X12_storeAt_L9, f_X12_storeAt_L9, ek]
        exact key
      · rw [if_neg (fun g => q2 g.2.symm)] at key
        simp only [q, q2, not_true_eq_false, not_false_eq_true, ↓reduceIte]
        rw [f_X12_storeAt_L9, f_X12_storeAt_L9, ek]
        exact key
    · have key := ih (k + 1) (N + (3 * d + 1) + 1) (by omega) (by omega)
      rw [nS_s, if_neg q, Nat.add_zero, hs, if_neg (fun g => q g.1)] at key
      simp only [q, not_false_eq_true, ↓reduceIte]
      rw [f_X12_storeAt_L9, ek]
      exact key
theorem rp_storeAt (h : PgR I P) (ht : t < 3) (hn : n ≤ P.1 t) (hw : w < 16) : f_X12_storeAt 122 (Int32.ofNat t) (Int32.ofNat n) (Int32.ofNat w) (I, J) = some (sAx t (sAt P t w n), (I, J)) := by
  have key := rp_sa (J := J) h ht hn hw n 0 1000000 (by omega) (by have := h.1.1 t ht; omega)
  have e : Int32.ofNat w - Int32.ofNat (nS P t 0) = Int32.ofNat w := Int32.sub_zero _
  rw [e] at key
  unfold f_X12_storeAt
  exact key
end EPT
