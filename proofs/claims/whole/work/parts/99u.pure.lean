/-! the reference's states: what is done in one -/
def dF (x : Int64) (t : Nat) : Nat := lgF x (3 * t) 3
def oF (x : Int64) (t : Nat) : Nat := lgF x (9 + 3 * t) 3
def vF (x : Int64) (q : Nat) : Nat := lgF x (18 + 4 * q) 4
def gF4 (x : Int64) (k : Nat) : Nat := lgF x (30 + 4 * k) 4
/-- the number told by the results of a state -/
def hF4 (x : Int64) : Nat → Nat
  | 0 => 0
  | k + 1 => hF4 x k + 10 ^ k * gF4 x k
def RlA (P : aP) (m : Nat) (x : Int64) (S : aT) : Prop := (∀ t, t < 3 → dF x t ≤ P.1 t) ∧ (m = 1 → ∀ t, t < 3 → oF x t ≤ nS P t (dF x t)) ∧ (¬ m = 1 → ∀ t, t < 3 → oF x t = 0) ∧
  (∀ y, gU P y = true → (S.1 y = true ↔ y % 4 < dF x (y / 4) ∧ (m = 1 → P.2.1 y = 0 → nS P (y / 4) (y % 4) < oF x (y / 4)))) ∧ (∀ q, q < 3 → vF x q = S.2.1 q) ∧
  (∀ y, gR P y = true → S.1 y = false → gF4 x (gNr P y) = 0) ∧ hF4 x (gAll P) = S.2.2
section EPT
variable {P : aP} {m r y z k n p t s N K v w i j : Nat} {S : aT} {x x' : Int64}
theorem hF4_eq : ∀ n, (∀ k, k < n → gF4 x' k = gF4 x k) → hF4 x' n = hF4 x n
  | 0, _ => rfl
  | n + 1, h => by
    unfold hF4
    rw [h n (by omega), hF4_eq n (fun k hk => h k (by omega))]
/-- one result more -/
theorem hF4_one (h0 : gF4 x k = 0) (h1 : gF4 x' k = v) (h : ∀ j, ¬ j = k → j < 7 → gF4 x' j = gF4 x j) : ∀ n, k < n → n ≤ 7 → hF4 x' n = hF4 x n + 10 ^ k * v
  | 0, g, _ => by omega
  | n + 1, g, g7 => by
    unfold hF4
    by_cases e : k = n
    · subst e
      rw [h0, h1, hF4_eq k (fun j hj => h j (by omega) (by omega)), Nat.mul_zero, Nat.add_zero]
    · rw [hF4_one h0 h1 h n (by omega) (by omega), h n (fun q => e q.symm) (by omega)]
      omega
theorem hF4_0 : ∀ n, (∀ k, k < n → gF4 x k = 0) → hF4 x n = 0
  | 0, _ => rfl
  | n + 1, h => by
    unfold hF4
    rw [hF4_0 n (fun k hk => h k (by omega)), h n (by omega), Nat.mul_zero]
theorem gNr_lt (hy : gR P y = true) : gNr P y < gAll P := by
  have hy12 : y < 12 := by
    unfold gR at hy
    rw [Bool.and_eq_true] at hy
    exact (gU_iff.1 hy.1).1
  have h1 := wN_one (g := fun z => gR P z && decide (y ≤ z)) (f := fun z => gR P z && decide (y < z)) (x := y) (by rw [hy, decide_eq_true (Nat.le_refl _)]; rfl) (by rw [decide_eq_false (Nat.lt_irrefl _), Bool.and_false]) (fun z hz => by
    by_cases c : y < z
    · rw [decide_eq_true c, decide_eq_true (show y ≤ z by omega)]
    · rw [decide_eq_false c, decide_eq_false (show ¬ y ≤ z by omega)]) 12 hy12
  have h2 : wN (fun z => gR P z && decide (y ≤ z)) 12 ≤ gAll P := wN_le (fun z hz => by
    rw [Bool.and_eq_true] at hz
    exact hz.1) 12
  unfold gNr
  omega
theorem gNr_inj (hy : gR P y = true) (hz : gR P z = true) (h : y < z) : gNr P z < gNr P y := by
  have hz12 : z < 12 := by
    unfold gR at hz
    rw [Bool.and_eq_true] at hz
    exact (gU_iff.1 hz.1).1
  have h1 := wN_one (g := fun u => gR P u && decide (z ≤ u)) (f := fun u => gR P u && decide (z < u)) (x := z) (by rw [hz, decide_eq_true (Nat.le_refl _)]; rfl) (by rw [decide_eq_false (Nat.lt_irrefl _), Bool.and_false]) (fun u hu => by
    by_cases c : z < u
    · rw [decide_eq_true c, decide_eq_true (show z ≤ u by omega)]
    · rw [decide_eq_false c, decide_eq_false (show ¬ z ≤ u by omega)]) 12 hz12
  have h2 : wN (fun u => gR P u && decide (z ≤ u)) 12 ≤ gNr P y := wN_le (fun u hu => by
    rw [Bool.and_eq_true, decide_eq_true_iff] at hu
    rw [hu.1, decide_eq_true (show y < u by omega)]
    rfl) 12
  unfold gNr at h2 ⊢
  omega
theorem gAll_le (h : gWf P) : gAll P ≤ 6 := by
  have h1 : gAll P ≤ wN (gU P) 12 := wN_le (fun y hy => by
    unfold gR at hy
    rw [Bool.and_eq_true] at hy
    exact hy.1) 12
  rw [wN_U h] at h1
  have := h.2.1
  omega
end EPT
