/-! the reference: results, stores of a thread -/
section EPT
variable {P : aP} {I I' I0 : Nat → Nat → Int32} {J J' J0 : Nat → Nat → Int64} {m r y z k n p t s N K v w i j : Nat} {l L M : List Nat} {X Y Z W : Int32} {σ : eMem} {b : Nat → Bool} {A : Int32}
theorem rp_ro2 (h : PgR I P) (hb : ∀ x, x < 12 → (Int32.ofNat x ≤ A ↔ b x = false)) : ∀ d t N, t + d = 3 → 22 * d + 1 ≤ N →
    f_X12_resultOf_L4 N (.inl (122, A, Int32.ofNat (wN (fun z => gR P z && b z) (4 * t)), Int32.ofNat t)) (I, J) = some (Int32.ofNat (wN (fun z => gR P z && b z) 12), (I, J)) := by
  intro d
  induction d with
  | zero =>
    intro t N ht hN
    have ht3 : t = 3 := ht
    obtain ⟨N, rfl⟩ := Nat.exists_eq_add_of_le' hN
    have e : ((3 : Int32) ≤ Int32.ofNat t) = True := (i_le (n := 3) (by decide) (by omega)).trans (eq_true (by omega))
    subst ht3
    rw [show N + (22 * 0 + 1) = N + 1 by omega, f_X12_resultOf_L4]
    simp only [e, ↓reduceIte]
  | succ d ih =>
    intro t N ht hN
    have ht3 : t < 3 := by omega
    have h4 := h.1.1 t ht3
    obtain ⟨N, rfl⟩ := Nat.exists_eq_add_of_le' hN
    have e : ((3 : Int32) ≤ Int32.ofNat t) = False := (i_le (n := 3) (by decide) (by omega)).trans (eq_false (by omega))
    obtain ⟨M, m1, m2⟩ := rp_ro1 (J := J) (K := 22 * d + 1) h hb ht3 (P.1 t) 0 (N + (22 * d + 1) + 21) (by omega) (by omega)
    rw [show N + (22 * (d + 1) + 1) = N + (22 * d + 1) + 21 + 1 by omega, f_X12_resultOf_L4]
    simp only [e, ↓reduceIte]
    exact m2.trans (ih (t + 1) M (by omega) m1)
theorem rp_res (hy : y < 12) (h : PgR I P) : f_X12_resultOf 122 (Int32.ofNat y) (I, J) = some (Int32.ofNat (gNr P y), (I, J)) := by
  unfold f_X12_resultOf
  exact rp_ro2 (b := fun x => decide (y < x)) h (fun x hx => by
    rw [i_le (by omega) (by omega), decide_eq_false_iff_not]
    omega) 3 0 1000000 (by decide) (by decide)
/-- all results -/
def gAll (P : aP) : Nat := wN (gR P) 12
theorem rp_resN (h : PgR I P) : f_X12_resultOf 122 (-1) (I, J) = some (Int32.ofNat (gAll P), (I, J)) := by
  have key := rp_ro2 (J := J) (A := -1) (b := fun _ => true) h (fun x hx => by
    rw [Int32.le_iff_toInt_le, i_ti (by omega)]
    have : (-1 : Int32).toInt = -1 := by decide
    rw [this]
    constructor
    · intro g
      omega
    · intro g
      cases g) 3 0 1000000 (by decide) (by decide)
  have e : wN (fun z => gR P z && true) 12 = gAll P := wN_eq 12 (fun y _ => Bool.and_true _)
  rw [e] at key
  unfold f_X12_resultOf
  exact key
/-- the stores among a thread's first steps -/
def nS (P : aP) (t d : Nat) : Nat := wN (fun k => decide (P.2.1 (4 * t + k) = 0)) d
theorem nS_s : nS P t (k + 1) = nS P t k + (if P.2.1 (4 * t + k) = 0 then 1 else 0) := by
  show wN _ k + (if decide (P.2.1 (4 * t + k) = 0) = true then 1 else 0) = _
  simp only [decide_eq_true_eq]
  rfl
theorem nS_le : ∀ k, nS P t k ≤ k
  | 0 => Nat.le_refl _
  | k + 1 => by
    have := nS_le k
    rw [nS_s]
    split <;> omega
theorem nS_mono (h : j ≤ k) : nS P t j ≤ nS P t k := by
  have := wN_mono (f := fun k => decide (P.2.1 (4 * t + k) = 0)) (k - j) j
  rw [show j + (k - j) = k by omega] at this
  exact this
theorem rp_so (h : PgR I P) (ht : t < 3) (hn : n ≤ P.1 t) : ∀ d k N, k + d = n → 2 * d + 1 ≤ N →
    f_X12_storesOf_L5 N (.inl (122, Int32.ofNat t, Int32.ofNat n, Int32.ofNat (nS P t k), Int32.ofNat k)) (I, J) = some (Int32.ofNat (nS P t n), (I, J)) := by
  have h4 := h.1.1 t ht
  intro d
  induction d with
  | zero =>
    intro k N hk hN
    have hk' : k = n := hk
    subst hk'
    obtain ⟨N, rfl⟩ := Nat.exists_eq_add_of_le' hN
    have e : (Int32.ofNat k ≤ Int32.ofNat k) = True := (i_le (by omega) (by omega)).trans (eq_true (by omega))
    rw [show N + (2 * 0 + 1) = N + 1 by omega, f_X12_storesOf_L5]
    simp only [e, ↓reduceIte]
  | succ d ih =>
    intro k N hk hN
    obtain ⟨N, rfl⟩ := Nat.exists_eq_add_of_le' hN
    have e : (Int32.ofNat n ≤ Int32.ofNat k) = False := (i_le (by omega) (by omega)).trans (eq_false (by omega))
    obtain ⟨hu, hx, _, _⟩ := used_at4 h.1 ht (show k < P.1 t by omega)
    obtain ⟨w1, w2, w3⟩ := h.1.2.2 _ hu
    have ea : Int32.ofNat (4 * t) + Int32.ofNat k = Int32.ofNat (4 * t + k) := i_ad
    have d0 : (Int32.ofNat (P.2.1 (4 * t + k)) = 0) = (P.2.1 (4 * t + k) = 0) := i_eq (m := 0) (by omega) (by decide)
    have ek : Int32.ofNat k + 1 = Int32.ofNat (k + 1) := i_ad (m := 1)
    have key := ih (k + 1) (N + (2 * d + 1)) (by omega) (by omega)
    rw [nS_s] at key
    rw [show N + (2 * (d + 1) + 1) = N + (2 * d + 1) + 1 + 1 by omega, f_X12_storesOf_L5]
    simp only [eLt, Option.bind_some, ↓reduceIte, K_122, R_122_33, R_122_34, R_122_35, R_122_36, K_154, K_155, K_156, K_157, true_and, and_true, eB, decide_true, decide_false, Bool.or_true, Bool.true_or, not_true_eq_false, not_false_eq_true, e, t4', ea, x_tn hx, x_ix hx, (h.2.2 _ hu).1, d0]
    by_cases q : P.2.1 (4 * t + k) = 0
    · rw [if_pos q] at key
      simp only [q, not_true_eq_false, ↓reduceIte]
      rw [f_X12_storesOf_L5, eLt, ek, show (1 : Int32) = Int32.ofNat 1 from rfl, i_ad]
      exact key
    · rw [if_neg q, Nat.add_zero] at key
      simp only [q, not_false_eq_true, ↓reduceIte]
      rw [f_X12_storesOf_L5, eLt, ek, Int32.add_zero]
      exact key
theorem rp_stores (h : PgR I P) (ht : t < 3) (hn : n ≤ P.1 t) : f_X12_storesOf 122 (Int32.ofNat t) (Int32.ofNat n) (I, J) = some (Int32.ofNat (nS P t n), (I, J)) := by
  unfold f_X12_storesOf
  exact rp_so h ht hn n 0 1000000 (by omega) (by have := h.1.1 t ht; omega)
end EPT
