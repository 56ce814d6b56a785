/-! the reference's states: one step more -/
section EPT
variable {P : aP} {m r y z k n p t s N K v w i j : Nat} {S S' : aT} {x x' : Int64}
theorem dU (hW : gWf P) (ht : t < 3) (hi : dF x t < P.1 t) (h1 : ∀ u, u < 3 → dF x' u = if u = t then dF x t + 1 else dF x u) (h2 : ∀ u, u < 3 → oF x' u = oF x u) (R : RlA P m x S) :
    (∀ u, u < 3 → dF x' u ≤ P.1 u) ∧ (m = 1 → ∀ u, u < 3 → oF x' u ≤ nS P u (dF x' u)) ∧ (¬ m = 1 → ∀ u, u < 3 → oF x' u = 0) ∧ rkA P x' + 1 ≤ rkA P x := by
  refine ⟨fun u hu => ?_, fun c u hu => ?_, fun c u hu => ?_, ?_⟩
  · rw [h1 u hu]
    split
    · rename_i e
      rw [e]
      omega
    · exact R.1 u hu
  · rw [h1 u hu, h2 u hu]
    have := R.2.1 c u hu
    split
    · rename_i e
      subst e
      have := nS_mono (P := P) (t := u) (show dF x u ≤ dF x u + 1 by omega)
      omega
    · exact this
  · rw [h2 u hu]
    exact R.2.2.1 c u hu
  · refine rkA_lt ht ?_ (fun u hu e => ?_)
    · unfold rkT
      rw [h1 t ht, h2 t ht, if_pos rfl]
      omega
    · unfold rkT
      rw [h1 u hu, h2 u hu, if_neg e]
theorem dU_y (hy : y < 12) (e : ¬ y = 4 * t + n) : (y % 4 < (if y / 4 = t then n + 1 else dF x (y / 4)) ↔ y % 4 < (if y / 4 = t then n else dF x (y / 4))) := by
  split
  · omega
  · exact Iff.rfl
/-- a store goes into its buffer -/
theorem RlA_a (hW : gWf P) (R : RlA P 1 x S) (ht : t < 3) (hi : dF x t < P.1 t) (hk : P.2.1 (4 * t + dF x t) = 0) (h1 : ∀ u, u < 3 → dF x' u = if u = t then dF x t + 1 else dF x u) (h2 : ∀ u, u < 3 → oF x' u = oF x u)
    (h3 : ∀ q, q < 3 → vF x' q = vF x q) (h4 : ∀ k, k < 7 → gF4 x' k = gF4 x k) : RlA P 1 x' S := by
  obtain ⟨a1, a2, a3, _⟩ := dU hW ht hi h1 h2 R
  refine ⟨a1, a2, a3, fun y hy => ?_, fun q hq => by rw [h3 q hq]; exact R.2.2.2.2.1 q hq, fun y hy hS => ?_, ?_⟩
  · have hy' := gU_iff.1 hy
    rw [R.2.2.2.1 y hy, h1 (y / 4) (by omega), h2 (y / 4) (by omega)]
    by_cases e : y / 4 = t
    · rw [if_pos e, e]
      constructor
      · rintro ⟨g1, g2⟩
        exact ⟨by omega, g2⟩
      · rintro ⟨g1, g2⟩
        refine ⟨?_, g2⟩
        by_cases c : y % 4 = dF x t
        · have := g2 rfl (by rw [← y4 (y := y), e, c]; exact hk)
          rw [c] at this
          have := R.2.1 rfl t ht
          omega
        · omega
    · rw [if_neg e]
  · have := gNr_lt hy
    have := gAll_le hW
    rw [h4 _ (by omega)]
    exact R.2.2.2.2.2.1 y hy hS
  · have := gAll_le hW
    rw [hF4_eq _ (fun k hk => h4 k (by omega))]
    exact R.2.2.2.2.2.2
/-- the number told -/
theorem hF4_y (hW : gWf P) (R : RlA P m x S) (hd : S.1 y = false) (hw : w = min (gSee P S y) 9) (h4 : ∀ k, k < 7 → gF4 x' k = if gR P y = true ∧ k = gNr P y then w else gF4 x k) :
    hF4 x' (gAll P) = S.2.2 + gWt P y * min (gSee P S y) 9 ∧ ∀ z, gR P z = true → ¬ z = y → S.1 z = false → gF4 x' (gNr P z) = 0 := by
  have ha := gAll_le hW
  by_cases c : gR P y = true
  · have hl := gNr_lt c
    constructor
    · unfold gWt
      rw [if_pos c, ← hw, ← R.2.2.2.2.2.2]
      refine hF4_one (R.2.2.2.2.2.1 y c hd) ?_ (fun j hj hj7 => ?_) _ hl (by omega)
      · rw [h4 _ (by omega), if_pos ⟨c, rfl⟩]
      · rw [h4 j hj7, if_neg (fun g => hj g.2)]
    · intro z hz hne hzd
      have hl2 := gNr_lt hz
      rw [h4 _ (by omega), if_neg, R.2.2.2.2.2.1 z hz hzd]
      rintro ⟨_, e⟩
      by_cases q : z < y
      · have := gNr_inj hz c q
        omega
      · have := gNr_inj c hz (by omega)
        omega
  · constructor
    · unfold gWt
      rw [if_neg c, Nat.zero_mul, Nat.add_zero, ← R.2.2.2.2.2.2]
      exact hF4_eq _ (fun k hk => by rw [h4 k (by omega), if_neg (fun g => c g.1)])
    · intro z hz hne hzd
      have hl2 := gNr_lt hz
      rw [h4 _ (by omega), if_neg (fun g => c g.1)]
      exact R.2.2.2.2.2.1 z hz hzd
theorem gCo_c {c c' : Nat → Nat} (h : ∀ q, q < 3 → c q = c' q) (hW : gWf P) (hu : gU P y = true) {q : Nat} (hq : q < 3) : gCo P c y q = gCo P c' y q := by
  obtain ⟨w1, w2, w3⟩ := hW.2.2 y hu
  unfold gCo
  split
  · unfold gUp
    split
    · rfl
    · exact h q hq
  · split
    · unfold gUp
      rw [h _ w2]
      split
      · rfl
      · exact h q hq
    · exact h q hq
/-- a step is done -/
theorem RlA_b (hW : gWf P) (R : RlA P m x S) (ht : t < 3) (hi : dF x t < P.1 t) (hk : m = 1 → ¬ P.2.1 (4 * t + dF x t) = 0) (h1 : ∀ u, u < 3 → dF x' u = if u = t then dF x t + 1 else dF x u) (h2 : ∀ u, u < 3 → oF x' u = oF x u)
    (h3 : ∀ q, q < 3 → vF x' q = gCo P (vF x) (4 * t + dF x t) q) (hw : w = min (gSee P S (4 * t + dF x t)) 9) (h4 : ∀ k, k < 7 → gF4 x' k = if gR P (4 * t + dF x t) = true ∧ k = gNr P (4 * t + dF x t) then w else gF4 x k) : RlA P m x' (gEf P S (4 * t + dF x t)) := by
  obtain ⟨a1, a2, a3, _⟩ := dU hW ht hi h1 h2 R
  obtain ⟨hu, hx, e1, e2⟩ := used_at4 hW ht hi
  have hd : S.1 (4 * t + dF x t) = false := by
    rw [← Bool.not_eq_true, R.2.2.2.1 _ hu, e1, e2]
    exact fun g => Nat.lt_irrefl _ g.1
  obtain ⟨b1, b2⟩ := hF4_y hW R hd hw h4
  refine ⟨a1, a2, a3, fun y hy => ?_, fun q hq => ?_, fun y hy hS => ?_, b1⟩
  · have hy' := gU_iff.1 hy
    show (decide (y = 4 * t + dF x t) || S.1 y) = true ↔ _
    rw [Bool.or_eq_true, decide_eq_true_iff, R.2.2.2.1 y hy, h1 (y / 4) (by omega), h2 (y / 4) (by omega)]
    by_cases e : y / 4 = t
    · rw [if_pos e, e]
      constructor
      · rintro (g | g)
        · subst g
          exact ⟨by omega, fun c c2 => absurd c2 (hk c)⟩
        · exact ⟨by omega, g.2⟩
      · rintro ⟨g1, g2⟩
        by_cases q : y % 4 = dF x t
        · exact Or.inl (by omega)
        · exact Or.inr ⟨by omega, g2⟩
    · rw [if_neg e]
      constructor
      · rintro (g | g)
        · omega
        · exact g
      · exact Or.inr
  · rw [h3 q hq]
    exact gCo_c R.2.2.2.2.1 hW hu hq
  · change (decide (y = 4 * t + dF x t) || S.1 y) = false at hS
    rw [Bool.or_eq_false_iff, decide_eq_false_iff_not] at hS
    exact b2 y hy hS.1 hS.2
/-- a store comes out -/
theorem RlA_o (hW : gWf P) (R : RlA P 1 x S) (ht : t < 3) (hj : sAt P t (oF x t) (dF x t) = some j) (h1 : ∀ u, u < 3 → dF x' u = dF x u) (h2 : ∀ u, u < 3 → oF x' u = if u = t then oF x t + 1 else oF x u)
    (h3 : ∀ q, q < 3 → vF x' q = gCo P (vF x) (4 * t + j) q) (h4 : ∀ k, k < 7 → gF4 x' k = gF4 x k) : RlA P 1 x' (gEf P S (4 * t + j)) ∧ rkA P x' + 1 ≤ rkA P x := by
  obtain ⟨j1, j2, j3⟩ := sAt_some _ hj
  have hdt := R.1 t ht
  obtain ⟨hu, hx, e1, e2⟩ := used_at4 hW ht (show j < P.1 t by omega)
  have hlt := nS_lt j2 j1
  have hd : S.1 (4 * t + j) = false := by
    rw [← Bool.not_eq_true, R.2.2.2.1 _ hu, e1, e2]
    intro g
    have := g.2 rfl j2
    omega
  have hR : ¬ gR P (4 * t + j) = true := by
    unfold gR
    rw [j2]
    simp
  obtain ⟨b1, b2⟩ := hF4_y (x' := x') (w := min (gSee P S (4 * t + j)) 9) hW R hd rfl (fun k hk => by rw [if_neg (fun g => hR g.1)]; exact h4 k hk)
  refine ⟨⟨fun u hu => by rw [h1 u hu]; exact R.1 u hu, fun c u hu => ?_, fun c => absurd rfl c, fun y hy => ?_, fun q hq => ?_, fun y hy hS => ?_, b1⟩, ?_⟩
  · rw [h1 u hu, h2 u hu]
    have := R.2.1 c u hu
    split
    · rename_i e
      subst e
      omega
    · exact this
  · have hy' := gU_iff.1 hy
    show (decide (y = 4 * t + j) || S.1 y) = true ↔ _
    rw [Bool.or_eq_true, decide_eq_true_iff, R.2.2.2.1 y hy, h1 (y / 4) (by omega), h2 (y / 4) (by omega)]
    by_cases e : y / 4 = t
    · rw [if_pos e, e]
      constructor
      · rintro (g | g)
        · subst g
          rw [show (4 * t + j) % 4 = j by omega]
          exact ⟨j1, fun _ _ => by omega⟩
        · exact ⟨g.1, fun c c2 => by have := g.2 c c2; omega⟩
      · rintro ⟨g1, g2⟩
        by_cases q : y % 4 = j
        · exact Or.inl (by omega)
        · refine Or.inr ⟨g1, fun c c2 => ?_⟩
          have g3 := g2 c c2
          by_cases q2 : nS P t (y % 4) = oF x t
          · have c2' : P.2.1 (4 * t + y % 4) = 0 := by rw [← e, y4]; exact c2
            exact absurd (nS_inj c2' j2 (q2.trans j3.symm)) q
          · omega
    · rw [if_neg e]
      constructor
      · rintro (g | g)
        · omega
        · exact g
      · exact Or.inr
  · rw [h3 q hq]
    exact gCo_c R.2.2.2.2.1 hW hu hq
  · change (decide (y = 4 * t + j) || S.1 y) = false at hS
    rw [Bool.or_eq_false_iff, decide_eq_false_iff_not] at hS
    exact b2 y hy hS.1 hS.2
  · refine rkA_lt ht ?_ (fun u hu e => ?_)
    · unfold rkT
      rw [h1 t ht, h2 t ht, if_pos rfl]
      have := nS_mono (P := P) (t := t) hdt
      omega
    · unfold rkT
      rw [h1 u hu, h2 u hu, if_neg e]
end EPT
