/-! the reference: what a load sees -/
section EPT
variable {P : aP} {I I' I0 : Nat → Nat → Int32} {J J' J0 : Nat → Nat → Int64} {m r y z k n p t s N K v w i j : Nat} {S : aT} {x x' : Int64}
theorem gLk_top {g : Nat → Bool} {v : Nat → Nat} {d a : Nat} : ∀ b, (∀ j, a ≤ j → j < a + b → g j = false) → gLk g v d (a + b) = gLk g v d a
  | 0, _ => rfl
  | b + 1, h => by
    show (if g (a + b) = true then _ else gLk g v d (a + b)) = _
    rw [h (a + b) (by omega) (by omega), if_neg (by decide), gLk_top b (fun j h1 h2 => h j h1 (by omega))]
/-- the stores with numbers from o to q, among the first n steps -/
def gQ (P : aP) (t p o q : Nat) (j : Nat) : Bool := decide (P.2.1 (4 * t + j) = 0 ∧ P.2.2.1 (4 * t + j) = p) && (decide (o ≤ nS P t j) && decide (nS P t j < q))
theorem gQ_step {o q d : Nat} (ho : o ≤ q) (hj : sAt P t q n = some j) :
    gLk (gQ P t p o (q + 1)) (fun k => P.2.2.2 (4 * t + k)) d n = if P.2.2.1 (4 * t + j) = p then P.2.2.2 (4 * t + j) else gLk (gQ P t p o q) (fun k => P.2.2.2 (4 * t + k)) d n := by
  obtain ⟨h1, h2, h3⟩ := sAt_some n hj
  have hab : ∀ q', q' ≤ q + 1 → ∀ i, j + 1 ≤ i → gQ P t p o q' i = false := by
    intro q' hq' i hi
    have hs := nS_s (P := P) (t := t) (k := j)
    rw [if_pos h2] at hs
    have hm := nS_mono (P := P) (t := t) hi
    unfold gQ
    rw [decide_eq_false (show ¬ nS P t i < q' by omega), Bool.and_false, Bool.and_false]
  have e1 := gLk_top (g := gQ P t p o (q + 1)) (v := fun k => P.2.2.2 (4 * t + k)) (d := d) (a := j + 1) (n - (j + 1)) (fun i hi _ => hab _ (Nat.le_refl _) i hi)
  have e2 := gLk_top (g := gQ P t p o q) (v := fun k => P.2.2.2 (4 * t + k)) (d := d) (a := j) (n - j) (fun i hi _ => by
    have hm := nS_mono (P := P) (t := t) hi
    unfold gQ
    rw [decide_eq_false (show ¬ nS P t i < q by omega), Bool.and_false, Bool.and_false])
  rw [show j + 1 + (n - (j + 1)) = n by omega] at e1
  rw [show j + (n - j) = n by omega] at e2
  rw [e1, e2]
  show (if gQ P t p o (q + 1) j = true then _ else gLk _ _ d j) = _
  have e3 : gLk (gQ P t p o (q + 1)) (fun k => P.2.2.2 (4 * t + k)) d j = gLk (gQ P t p o q) (fun k => P.2.2.2 (4 * t + k)) d j := gLk_eq j (fun i hi => by
    unfold gQ
    by_cases c : P.2.1 (4 * t + i) = 0
    · have hs := nS_s (P := P) (t := t) (k := i)
      rw [if_pos c] at hs
      have hm := nS_mono (P := P) (t := t) (show i + 1 ≤ j by omega)
      rw [decide_eq_true (show nS P t i < q + 1 by omega), decide_eq_true (show nS P t i < q by omega)]
    · rw [decide_eq_false (fun f => c f.1), Bool.false_and, Bool.false_and])
  rw [e3]
  by_cases c : P.2.2.1 (4 * t + j) = p
  · rw [if_pos c, if_pos]
    unfold gQ
    rw [decide_eq_true ⟨h2, c⟩, decide_eq_true (show o ≤ nS P t j by omega), decide_eq_true (show nS P t j < q + 1 by omega)]
    rfl
  · rw [if_neg c, if_neg]
    unfold gQ
    rw [decide_eq_false (fun f => c f.2), Bool.false_and]
    decide
theorem rp_see1 (h : PgR I P) (ht : t < 3) (hn : n ≤ P.1 t) (hp : p < 3) {o d0 : Nat} : ∀ d q N, q + d = nS P t n → o ≤ q → 2 * d + 1 ≤ N →
    f_X12_seenBy_L46 N (.inl (122, Int32.ofNat t, Int32.ofNat p, 1, Int32.ofNat (gLk (gQ P t p o q) (fun k => P.2.2.2 (4 * t + k)) d0 n), Int32.ofNat n, Int32.ofNat (nS P t n), Int32.ofNat q)) (I, J) = some (Int32.ofNat (gLk (gQ P t p o (nS P t n)) (fun k => P.2.2.2 (4 * t + k)) d0 n), (I, J)) := by
  have h4 := h.1.1 t ht
  have hns := nS_le (P := P) (t := t) n
  intro d
  induction d with
  | zero =>
    intro q N hq ho hN
    have hq' : q = nS P t n := hq
    subst hq'
    obtain ⟨N, rfl⟩ := Nat.exists_eq_add_of_le' hN
    have e : (Int32.ofNat (nS P t n) ≤ Int32.ofNat (nS P t n)) = True := (i_le (by omega) (by omega)).trans (eq_true (by omega))
    rw [show N + (2 * 0 + 1) = N + 1 by omega, f_X12_seenBy_L46]
    unfold f_X12_seenBy_101
    simp only [e, ↓reduceIte]
  | succ d ih =>
    intro q N hq ho hN
    obtain ⟨N, rfl⟩ := Nat.exists_eq_add_of_le' hN
    have e : (Int32.ofNat (nS P t n) ≤ Int32.ofNat q) = False := (i_le (by omega) (by omega)).trans (eq_false (by omega))
    obtain ⟨j, hj⟩ := sAt_ex (P := P) (t := t) (w := q) n (by omega)
    obtain ⟨h1, h2, h3⟩ := sAt_some n hj
    obtain ⟨hu, hx, _, _⟩ := used_at4 h.1 ht (show j < P.1 t by omega)
    obtain ⟨w1, w2, w3⟩ := h.1.2.2 _ hu
    have ep : (Int32.ofNat (P.2.2.1 (4 * t + j)) = Int32.ofNat p) = (P.2.2.1 (4 * t + j) = p) := i_eq (by omega) (by omega)
    have eq1 : Int32.ofNat q + 1 = Int32.ofNat (q + 1) := i_ad (m := 1)
    have key := ih (q + 1) (N + (2 * d + 1)) (by omega) (by omega) (by omega)
    rw [gQ_step (p := p) (d := d0) ho hj] at key
    have r := h.2.2 _ hu
    rw [show N + (2 * (d + 1) + 1) = N + (2 * d + 1) + 1 + 1 by omega, f_X12_seenBy_L46]
    simp only [e, eLt, Option.bind_some, ↓reduceIte, K_122, R_122_33, R_122_34, R_122_35, R_122_36, K_154, K_155, K_156, K_157, true_and, and_true, eB, decide_true, decide_false, Bool.or_true, Bool.true_or, not_true_eq_false, not_false_eq_true, show ¬ (1 : Int32) = 0 by decide, rp_storeAt h ht hn (show q < 16 by omega), hj, sAx, x_tn hx, x_ix hx, r.2.1, ep, r.2.2 h2]
    by_cases c : P.2.2.1 (4 * t + j) = p
    · rw [if_pos c] at key
      rw [if_neg (fun f => f c), f_X12_seenBy_L46, eq1]
      exact key
    · rw [if_neg c] at key
      rw [if_pos c, f_X12_seenBy_L46, eq1]
      exact key
end EPT
