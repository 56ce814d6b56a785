/-! programs: what their steps do, in the order in which they become visible -/
abbrev aP := (Nat → Nat) × (Nat → Nat) × (Nat → Nat) × (Nat → Nat)
abbrev aT := (Nat → Bool) × (Nat → Nat) × Nat
def gU (P : aP) (x : Nat) : Bool := decide (x < 12) && decide (x % 4 < P.1 (x / 4))
def gR (P : aP) (x : Nat) : Bool := gU P x && (decide (P.2.1 x = 1) || decide (P.2.1 x = 3))
def wN (f : Nat → Bool) : Nat → Nat
  | 0 => 0
  | k + 1 => wN f k + (if f k = true then 1 else 0)
def gNr (P : aP) (x : Nat) : Nat := wN (fun y => gR P y && decide (x < y)) 12
def gWt (P : aP) (x : Nat) : Nat := if gR P x = true then 10 ^ gNr P x else 0
def gOk (P : aP) (m : Nat) (D : Nat → Bool) (x : Nat) : Prop :=
  gU P x = true ∧ D x = false ∧ ∀ y, y < x → y / 4 = x / 4 → D y = false → m = 1 ∧ P.2.1 x = 1 ∧ P.2.1 y = 0
def gLk (g : Nat → Bool) (v : Nat → Nat) (d : Nat) : Nat → Nat
  | 0 => d
  | k + 1 => if g k = true then v k else gLk g v d k
def gSee (P : aP) (S : aT) (x : Nat) : Nat :=
  gLk (fun k => decide (P.2.1 (x / 4 * 4 + k) = 0 ∧ P.2.2.1 (x / 4 * 4 + k) = P.2.2.1 x) && !S.1 (x / 4 * 4 + k)) (fun k => P.2.2.2 (x / 4 * 4 + k)) (S.2.1 (P.2.2.1 x)) (x % 4)
def gUp (c : Nat → Nat) (q v : Nat) : Nat → Nat := fun i => if i = q then v else c i
def gCo (P : aP) (c : Nat → Nat) (x : Nat) : Nat → Nat :=
  if P.2.1 x = 0 then gUp c (P.2.2.1 x) (P.2.2.2 x) else if P.2.1 x = 3 then gUp c (P.2.2.1 x) (c (P.2.2.1 x) + 1) else c
def gEf (P : aP) (S : aT) (x : Nat) : aT := (fun y => decide (y = x) || S.1 y, gCo P S.2.1 x, S.2.2 + gWt P x * min (gSee P S x) 9)
def gOut (P : aP) (m : Nat) : Nat → aT → Nat → Prop
  | 0, S, k => k = S.2.2
  | r + 1, S, k => ∃ x, gOk P m S.1 x ∧ gOut P m r (gEf P S x) k
def gS0 : aT := (fun _ => false, fun _ => 0, 0)
def gTo (P : aP) : Nat := P.1 0 + P.1 1 + P.1 2
def gFi (P : aP) (m : Nat) (k : Nat) : Prop := gOut P m (gTo P) gS0 k
/-- a program as it may be -/
def gWf (P : aP) : Prop := (∀ t, t < 3 → P.1 t ≤ 4) ∧ gTo P ≤ 6 ∧ ∀ x, gU P x = true → P.2.1 x < 4 ∧ P.2.2.1 x < 3 ∧ (P.2.1 x = 0 → 1 ≤ P.2.2.2 x ∧ P.2.2.2 x ≤ 9)
/-- bounds on the way -/
def gBd (P : aP) (S : aT) (r : Nat) : Prop := r ≤ 6 ∧ (∀ q, q < 3 → S.2.1 q + r ≤ 15) ∧ S.2.2 + 9000000 * r ≤ 54000000 ∧ wN (fun y => gU P y && !S.1 y) 12 = r
section EPX
variable {P : aP} {m r x y k n : Nat} {S : aT} {f g : Nat → Bool}
theorem wN_le (h : ∀ y, f y = true → g y = true) : ∀ n, wN f n ≤ wN g n
  | 0 => Nat.le_refl _
  | n + 1 => by
    have ih := wN_le h n
    unfold wN
    by_cases q : f n = true
    · rw [if_pos q, if_pos (h n q)]
      omega
    · rw [if_neg q]
      split <;> omega
theorem wN_eq : ∀ n, (∀ y, y < n → f y = g y) → wN f n = wN g n
  | 0, _ => rfl
  | n + 1, h => by
    unfold wN
    rw [wN_eq n (fun y hy => h y (by omega)), h n (by omega)]
/-- one more -/
theorem wN_one (hx : g x = true) (hf : f x = false) (h : ∀ y, ¬ y = x → f y = g y) : ∀ n, x < n → wN g n = wN f n + 1
  | 0, q => by omega
  | n + 1, q => by
    unfold wN
    by_cases e : x = n
    · subst e
      rw [if_pos hx, hf, if_neg (by decide), wN_eq x (f := g) (g := f) (fun y hy => (h y (by omega)).symm)]
    · rw [wN_one hx hf h n (by omega), h n (by omega)]
      omega
theorem wN_0 : ∀ n, wN f n = 0 → ∀ y, y < n → f y = false
  | 0, _, y, hy => by omega
  | n + 1, h, y, hy => by
    unfold wN at h
    by_cases q : f n = true
    · rw [if_pos q] at h
      omega
    · by_cases e : y = n
      · subst e
        exact Bool.eq_false_iff.2 q
      · exact wN_0 n (by omega) y (by omega)
theorem wN_ex : ∀ n, 0 < wN f n → ∃ y, y < n ∧ f y = true
  | 0, h => by
    unfold wN at h
    omega
  | n + 1, h => by
    unfold wN at h
    by_cases q : f n = true
    · exact ⟨n, by omega, q⟩
    · rw [if_neg q] at h
      obtain ⟨y, h1, h2⟩ := wN_ex n (by omega)
      exact ⟨y, by omega, h2⟩
theorem gU_iff : gU P x = true ↔ x < 12 ∧ x % 4 < P.1 (x / 4) := by
  unfold gU
  rw [Bool.and_eq_true, decide_eq_true_iff, decide_eq_true_iff]
theorem four_le (h : n ≤ 4) : (if 0 < n then 1 else 0) + (if 1 < n then 1 else 0) + (if 2 < n then 1 else 0) + (if 3 < n then 1 else 0) = n := by
  repeat' split
  all_goals omega
theorem wN_U (h : gWf P) : wN (gU P) 12 = gTo P := by
  have h0 := four_le (h.1 0 (by decide))
  have h1 := four_le (h.1 1 (by decide))
  have h2 := four_le (h.1 2 (by decide))
  have e : wN (gU P) 12 = ((if 0 < P.1 0 then 1 else 0) + (if 1 < P.1 0 then 1 else 0) + (if 2 < P.1 0 then 1 else 0) + (if 3 < P.1 0 then 1 else 0)) +
      ((if 0 < P.1 1 then 1 else 0) + (if 1 < P.1 1 then 1 else 0) + (if 2 < P.1 1 then 1 else 0) + (if 3 < P.1 1 then 1 else 0)) +
      ((if 0 < P.1 2 then 1 else 0) + (if 1 < P.1 2 then 1 else 0) + (if 2 < P.1 2 then 1 else 0) + (if 3 < P.1 2 then 1 else 0)) := by
    unfold wN wN wN wN wN wN wN wN wN wN wN wN wN
    simp only [gU, Nat.reduceLT, Nat.reduceMod, Nat.reduceDiv, decide_true, Bool.true_and, decide_eq_true_iff]
    omega
  rw [e, h0, h1, h2]
  rfl
theorem gNr_le (h : gWf P) : gNr P x ≤ 6 := by
  have h1 : gNr P x ≤ wN (gU P) 12 := wN_le (fun y hy => by
    unfold gR at hy
    rw [Bool.and_eq_true, Bool.and_eq_true] at hy
    exact hy.1.1) 12
  rw [wN_U h] at h1
  have := h.2.1
  omega
theorem gWt_le (h : gWf P) : gWt P x ≤ 1000000 := by
  unfold gWt
  split
  · have h1 := gNr_le (x := x) h
    have h2 : 10 ^ gNr P x ≤ 10 ^ 6 := Nat.pow_le_pow_right (by decide) h1
    exact h2
  · exact Nat.zero_le _
theorem gBd_0 (h : gWf P) : gBd P gS0 (gTo P) := by
  refine ⟨h.2.1, fun q _ => ?_, ?_, ?_⟩
  · have := h.2.1
    show 0 + gTo P ≤ 15
    omega
  · have := h.2.1
    show 0 + 9000000 * gTo P ≤ 54000000
    omega
  · rw [← wN_U h]
    exact wN_eq 12 (fun y _ => by
      show (gU P y && !false) = gU P y
      rw [Bool.not_false, Bool.and_true])
theorem gBd_s (h : gWf P) (hS : gBd P S r) (hx : gOk P m S.1 x) : ∃ s, r = s + 1 ∧ gBd P (gEf P S x) s := by
  obtain ⟨h1, h2, h3, h4⟩ := hS
  obtain ⟨g1, g2, g3⟩ := hx
  have e := wN_one (g := fun y => gU P y && !S.1 y) (f := fun y => gU P y && !(gEf P S x).1 y) (x := x) (by
    show (gU P x && !S.1 x) = true
    rw [g1, g2]
    rfl) (by
    show (gU P x && !(decide (x = x) || S.1 x)) = false
    rw [decide_eq_true rfl, Bool.true_or, Bool.not_true, Bool.and_false]) (fun y hy => by
    show (gU P y && !(decide (y = x) || S.1 y)) = (gU P y && !S.1 y)
    rw [decide_eq_false hy, Bool.false_or]) 12 (gU_iff.1 g1).1
  rw [h4] at e
  obtain ⟨w1, w2, w3⟩ := h.2.2 x g1
  refine ⟨_, e, by omega, fun q hq => ?_, ?_, rfl⟩
  · have hq' := h2 q hq
    have hp' := h2 (P.2.2.1 x) w2
    show gCo P S.2.1 x q + _ ≤ 15
    unfold gCo
    split
    · rename_i hw
      have := w3 hw
      unfold gUp
      split <;> omega
    · split
      · unfold gUp
        split <;> omega
      · omega
  · show S.2.2 + gWt P x * min (gSee P S x) 9 + _ ≤ _
    have hw := gWt_le (x := x) h
    have : gWt P x * min (gSee P S x) 9 ≤ 1000000 * 9 := Nat.mul_le_mul hw (Nat.min_le_right _ _)
    omega
theorem gLk_eq {f g : Nat → Bool} {v : Nat → Nat} {d : Nat} : ∀ n, (∀ k, k < n → f k = g k) → gLk f v d n = gLk g v d n
  | 0, _ => rfl
  | n + 1, h => by
    unfold gLk
    rw [h n (by omega), gLk_eq n (fun k hk => h k (by omega))]
theorem gLk_le {g : Nat → Bool} {v : Nat → Nat} {d b : Nat} (hd : d ≤ b) : ∀ n, (∀ k, k < n → g k = true → v k ≤ b) → gLk g v d n ≤ b
  | 0, _ => hd
  | n + 1, h => by
    unfold gLk
    by_cases q : g n = true
    · rw [if_pos q]
      exact h n (by omega) q
    · rw [if_neg q]
      exact gLk_le hd n (fun k hk => h k (by omega))
/-- all done -/
theorem g_over (hS : gBd P S 0) : ∀ y, gU P y = true → S.1 y = true := by
  intro y hy
  have := wN_0 12 hS.2.2.2 y (gU_iff.1 hy).1
  rw [hy, Bool.true_and, Bool.not_eq_false'] at this
  exact this
theorem gOut_0 : gOut P m 0 S k ↔ k = S.2.2 := Iff.rfl
theorem gOut_s : gOut P m (r + 1) S k ↔ ∃ x, gOk P m S.1 x ∧ gOut P m r (gEf P S x) k := Iff.rfl
theorem gOut_le (h : gWf P) : ∀ r S, gBd P S r → gOut P m r S k → k ≤ 54000000
  | 0, S, hS, hk => by
    have := hS.2.2.1
    rw [gOut_0] at hk
    omega
  | r + 1, S, hS, hk => by
    obtain ⟨x, h1, h2⟩ := gOut_s.1 hk
    obtain ⟨s, e, h3⟩ := gBd_s h hS h1
    have e' : s = r := by omega
    subst e'
    exact gOut_le h s _ h3 h2
/-- what STRICT gives, BUFFERED gives -/
theorem gOut_m : ∀ r S, gOut P 0 r S k → gOut P m r S k
  | 0, _, hk => hk
  | r + 1, S, hk => by
    obtain ⟨x, h1, h2⟩ := gOut_s.1 hk
    refine gOut_s.2 ⟨x, ⟨h1.1, h1.2.1, fun y hy e hd => ?_⟩, gOut_m r _ h2⟩
    have := (h1.2.2 y hy e hd).1
    omega
end EPX
