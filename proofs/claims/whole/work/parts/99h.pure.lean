/-! the search: its states and the steps that can be taken -/
section EPS
variable {P : aP} {I I' I0 : Nat → Nat → Int32} {J J0 : Nat → Nat → Int64} {m r y z k n p t s N v w i j : Nat} {S : aT} {l L M : List Nat} {st : Int32} {x x' : Int64} {σ : eMem}
def RlB (P : aP) (m : Nat) (x : Int64) (S : aT) : Prop := (∀ t, t < 3 → pF x t ≤ P.1 t) ∧ (m = 1 → ∀ t, t < 3 → pF x (3 + t) ≤ pF x t) ∧
  (∀ y, gU P y = true → (S.1 y = true ↔ y % 4 < pF x (y / 4) ∧ (m = 1 → P.2.1 y = 0 → y % 4 < pF x (3 + y / 4)))) ∧ ∀ q, q < 3 → pF x (6 + q) = S.2.1 q
/-- stores that are still to be met -/
def zN (P : aP) (x : Int64) : Nat := wN (fun y => gU P y && (decide (P.2.1 y = 0) && decide (pF x (y / 4) ≤ y % 4))) 12
def nmB (P : aP) (m : Nat) (x : Int64) : Prop := m = 1 → ∀ u, u < 3 → pF x u < P.1 u → ¬ P.2.1 (u * 4 + pF x u) = 0
theorem used_at (h : gWf P) (ht : t < 3) (hk : k < P.1 t) : gU P (t * 4 + k) = true ∧ (t * 4 + k) / 4 = t ∧ (t * 4 + k) % 4 = k := by
  have := h.1 t ht
  have e1 : (t * 4 + k) / 4 = t := by omega
  have e2 : (t * 4 + k) % 4 = k := by omega
  exact ⟨gU_iff.2 ⟨by omega, by rw [e1, e2]; exact hk⟩, e1, e2⟩
theorem okA (hW : gWf P) (hm : m < 2) (R : RlB P m x S) (hn : nmB P m x) (hx : gOk P m S.1 y) :
    (m = 1 ∧ ∃ k, oB P x (y / 4) = some k ∧ y = y / 4 * 4 + k) ∨ (y = y / 4 * 4 + pF x (y / 4) ∧ pF x (y / 4) < P.1 (y / 4) ∧ (m = 1 → oB P x (y / 4) = none ∨ P.2.1 y = 1)) := by
  obtain ⟨hu, hd, hall⟩ := hx
  have hu' := gU_iff.1 hu
  have ht : y / 4 < 3 := by omega
  have hy : y = y / 4 * 4 + y % 4 := by omega
  have h1 : ¬ (y % 4 < pF x (y / 4) ∧ (m = 1 → P.2.1 y = 0 → y % 4 < pF x (3 + y / 4))) := fun g => by
    have := (R.2.2.1 y hu).2 g
    rw [hd] at this
    cases this
  by_cases q : y % 4 < pF x (y / 4)
  · left
    have h2 : m = 1 ∧ P.2.1 y = 0 ∧ pF x (3 + y / 4) ≤ y % 4 := by
      by_cases c1 : m = 1
      · by_cases c2 : P.2.1 y = 0
        · by_cases c3 : y % 4 < pF x (3 + y / 4)
          · exact absurd ⟨q, fun _ _ => c3⟩ h1
          · exact ⟨c1, c2, by omega⟩
        · exact absurd ⟨q, fun _ c => absurd c c2⟩ h1
      · exact absurd ⟨q, fun c => absurd c c1⟩ h1
    obtain ⟨c1, c2, c3⟩ := h2
    refine ⟨c1, ?_⟩
    cases ho : oB P x (y / 4) with
    | none =>
      have := fO_none _ _ ho (y % 4) c3 (by omega)
      rw [← hy] at this
      exact absurd c2 this
    | some k =>
      obtain ⟨g1, g2, g3, g4⟩ := fO_some _ _ ho
      refine ⟨k, rfl, ?_⟩
      have k1 : ¬ y % 4 < k := fun g => by
        have := g4 (y % 4) c3 g
        rw [← hy] at this
        exact this c2
      have k2 : ¬ k < y % 4 := fun g => by
        have hz := used_at hW ht (show k < P.1 (y / 4) by omega)
        have hz2 : S.1 (y / 4 * 4 + k) = false := by
          rw [← Bool.not_eq_true, R.2.2.1 _ hz.1, hz.2.1, hz.2.2]
          intro f
          have := f.2 c1 g3
          omega
        have := (hall (y / 4 * 4 + k) (by omega) hz.2.1 hz2).2.1
        omega
      omega
  · right
    have hi : ¬ pF x (y / 4) < y % 4 := fun g => by
      have hz := used_at hW ht (show pF x (y / 4) < P.1 (y / 4) by omega)
      have hz2 : S.1 (y / 4 * 4 + pF x (y / 4)) = false := by
        rw [← Bool.not_eq_true, R.2.2.1 _ hz.1, hz.2.1, hz.2.2]
        intro f
        omega
      obtain ⟨c1, _, c3⟩ := hall (y / 4 * 4 + pF x (y / 4)) (by omega) hz.2.1 hz2
      exact hn c1 _ ht (by omega) c3
    refine ⟨by omega, by omega, fun c1 => ?_⟩
    cases ho : oB P x (y / 4) with
    | none => exact Or.inl rfl
    | some k =>
      right
      obtain ⟨g1, g2, g3, g4⟩ := fO_some _ _ ho
      have hz := used_at hW ht (show k < P.1 (y / 4) by omega)
      have hz2 : S.1 (y / 4 * 4 + k) = false := by
        rw [← Bool.not_eq_true, R.2.2.1 _ hz.1, hz.2.1, hz.2.2]
        intro f
        have := f.2 c1 g3
        omega
      exact (hall (y / 4 * 4 + k) (by omega) hz.2.1 hz2).2.1
theorem okD (hW : gWf P) (R : RlB P 1 x S) (ht : t < 3) (ho : oB P x t = some k) : gOk P 1 S.1 (t * 4 + k) := by
  obtain ⟨g1, g2, g3, g4⟩ := fO_some _ _ ho
  have hi := R.1 t ht
  have hz := used_at hW ht (show k < P.1 t by omega)
  refine ⟨hz.1, ?_, fun z h1 h2 h3 => ?_⟩
  · rw [← Bool.not_eq_true, R.2.2.1 _ hz.1, hz.2.1, hz.2.2]
    intro f
    have := f.2 rfl g3
    omega
  · rw [hz.2.1] at h2
    have hu := same_th hz.1 h1 (h2.trans hz.2.1.symm)
    have ez : z = t * 4 + z % 4 := by omega
    have hs := _root_.mt (R.2.2.1 z hu).2 (by rw [h3]; decide)
    rw [h2] at hs
    have hst : P.2.1 z = 0 ∧ pF x (3 + t) ≤ z % 4 := by
      by_cases c2 : P.2.1 z = 0
      · by_cases c3 : z % 4 < pF x (3 + t)
        · exact absurd ⟨by omega, fun _ _ => c3⟩ hs
        · exact ⟨c2, by omega⟩
      · exact absurd ⟨by omega, fun _ c => absurd c c2⟩ hs
    have := g4 (z % 4) hst.2 (by omega)
    rw [← ez] at this
    exact absurd hst.1 this
theorem okN (hW : gWf P) (R : RlB P m x S) (ht : t < 3) (hi : pF x t < P.1 t) (ho : m = 1 → oB P x t = none ∨ P.2.1 (t * 4 + pF x t) = 1) : gOk P m S.1 (t * 4 + pF x t) := by
  have hz := used_at hW ht hi
  refine ⟨hz.1, ?_, fun z h1 h2 h3 => ?_⟩
  · rw [← Bool.not_eq_true, R.2.2.1 _ hz.1, hz.2.1, hz.2.2]
    intro f
    omega
  · rw [hz.2.1] at h2
    have hu := same_th hz.1 h1 (h2.trans hz.2.1.symm)
    have ez : z = t * 4 + z % 4 := by omega
    have hs := _root_.mt (R.2.2.1 z hu).2 (by rw [h3]; decide)
    rw [h2] at hs
    have hst : m = 1 ∧ P.2.1 z = 0 ∧ pF x (3 + t) ≤ z % 4 := by
      by_cases c1 : m = 1
      · by_cases c2 : P.2.1 z = 0
        · by_cases c3 : z % 4 < pF x (3 + t)
          · exact absurd ⟨by omega, fun _ _ => c3⟩ hs
          · exact ⟨c1, c2, by omega⟩
        · exact absurd ⟨by omega, fun _ c => absurd c c2⟩ hs
      · exact absurd ⟨by omega, fun c => absurd c c1⟩ hs
    refine ⟨hst.1, ?_, hst.2.1⟩
    rcases ho hst.1 with g | g
    · have := fO_none _ _ g (z % 4) hst.2.2 (by omega)
      rw [← ez] at this
      exact absurd hst.2.1 this
    · exact g
theorem gLk_none {g : Nat → Bool} {v : Nat → Nat} {d : Nat} : ∀ n, (∀ k, k < n → g k = false) → gLk g v d n = d
  | 0, _ => rfl
  | n + 1, h => by
    unfold gLk
    rw [if_neg (by rw [h n (by omega)]; decide), gLk_none n (fun k hk => h k (by omega))]
theorem cp_res1 (hy : gU P y = true) (h : PgC I P) : ∀ k N, k ≤ y % 4 → 2 * k + 1 ≤ N →
    f_X9_resultOf_L41 N (.inl (58, x, Int32.ofNat (P.2.2.1 y), Int32.ofNat (y / 4 * 4 + pF x (3 + y / 4)), xDn (y / 4 * 4 + k))) (I, J) =
      some (Int32.ofNat (gLk (fun k => decide (P.2.1 (y / 4 * 4 + k) = 0 ∧ P.2.2.1 (y / 4 * 4 + k) = P.2.2.1 y) && decide (pF x (3 + y / 4) ≤ k)) (fun k => P.2.2.2 (y / 4 * 4 + k)) (pF x (6 + P.2.2.1 y)) k), (I, J)) := by
  have hy' := gU_iff.1 hy
  have hp := (h.1.2.2 y hy).2.1
  have hpf := pF_lt (x := x) (k := 3 + y / 4)
  have hend : ∀ N k, k ≤ y % 4 → k ≤ pF x (3 + y / 4) → f_X9_resultOf_L41 (N + 1) (.inl (58, x, Int32.ofNat (P.2.2.1 y), Int32.ofNat (y / 4 * 4 + pF x (3 + y / 4)), xDn (y / 4 * 4 + k))) (I, J) = some (Int32.ofNat (pF x (6 + P.2.2.1 y)), (I, J)) := by
    intro N k hk hkp
    have e : xDn (y / 4 * 4 + k) < Int32.ofNat (y / 4 * 4 + pF x (3 + y / 4)) := by
      cases hz : y / 4 * 4 + k with
      | zero =>
        show (-1 : Int32) < _
        rw [Int32.lt_iff_toInt_lt, i_ti (by omega)]
        have : (-1 : Int32).toInt = -1 := by decide
        omega
      | succ j =>
        show Int32.ofNat j < _
        rw [i_lt (by omega) (by omega)]
        omega
    rw [f_X9_resultOf_L41, if_pos e]
    unfold f_X9_resultOf_89
    rw [ad6, cp_part (by omega), Option.bind_some]
  intro k
  induction k with
  | zero =>
    intro N hk hN
    obtain ⟨N, rfl⟩ := Nat.exists_eq_add_of_le' hN
    rw [show N + (2 * 0 + 1) = N + 1 by omega, hend N 0 hk (Nat.zero_le _)]
    rfl
  | succ k ih =>
    intro N hk hN
    obtain ⟨N, rfl⟩ := Nat.exists_eq_add_of_le' hN
    by_cases c : k + 1 ≤ pF x (3 + y / 4)
    · rw [show N + (2 * (k + 1) + 1) = N + 2 * k + 2 + 1 by omega, hend _ _ hk c, gLk_none]
      intro k' hk'
      rw [decide_eq_false (show ¬ pF x (3 + y / 4) ≤ k' by omega), Bool.and_false]
    · have hx : y / 4 * 4 + k < 12 := by omega
      have hu : gU P (y / 4 * 4 + k) = true := gU_iff.2 ⟨hx, by rw [show (y / 4 * 4 + k) / 4 = y / 4 by omega]; omega⟩
      have e1 : (Int32.ofNat (y / 4 * 4 + k) < Int32.ofNat (y / 4 * 4 + pF x (3 + y / 4))) = False := (i_lt (by omega) (by omega)).trans (eq_false (by omega))
      have e2 : (Int32.ofNat (y / 4 * 4 + k) < 0) = False := i_lt0 (by omega)
      obtain ⟨p1, p2, p3, p4⟩ := h.2.2 _ hu
      obtain ⟨w1, w2, w3⟩ := h.1.2.2 _ hu
      have e3 : (Int32.ofNat (P.2.1 (y / 4 * 4 + k)) = 0) = (P.2.1 (y / 4 * 4 + k) = 0) := i_eq (m := 0) (by omega) (by decide)
      have e4 : (Int32.ofNat (P.2.2.1 (y / 4 * 4 + k)) = Int32.ofNat (P.2.2.1 y)) = (P.2.2.1 (y / 4 * 4 + k) = P.2.2.1 y) := i_eq (by omega) (by omega)
      have ih' := ih (N + 2 * k + 1) (by omega) (by omega)
      rw [show N + (2 * (k + 1) + 1) = N + 2 * k + 1 + 1 + 1 by omega, f_X9_resultOf_L41]
      unfold gLk
      rw [decide_eq_true (show pF x (3 + y / 4) ≤ k by omega), Bool.and_true]
      simp only [show xDn (y / 4 * 4 + (k + 1)) = Int32.ofNat (y / 4 * 4 + k) from rfl, e1, e2, eLt, Option.bind_some, ↓reduceIte, K_58, K_59, K_60, K_61, K_62, K_63, R_58_0, R_58_1, R_58_2, R_58_3, R_58_4, true_and, and_true, eB, decide_true, decide_false, Bool.or_true, Bool.true_or, not_true_eq_false, not_false_eq_true, x_tn hx, x_ix hx, p1, p2, e3, e4]
      by_cases q1 : P.2.1 (y / 4 * 4 + k) = 0
      · by_cases q2 : P.2.2.1 (y / 4 * 4 + k) = P.2.2.1 y
        · simp only [q1, q2, not_true_eq_false, ↓reduceIte, and_self, decide_true, p3 q1]
        · simp only [q1, q2, not_true_eq_false, not_false_eq_true, ↓reduceIte, and_false, decide_false, Bool.false_eq_true]
          rw [f_X9_resultOf_L41, xDn_s]
          exact ih'
      · simp only [q1, not_false_eq_true, ↓reduceIte, false_and, decide_false, Bool.false_eq_true]
        rw [f_X9_resultOf_L41, xDn_s]
        exact ih'
/-- what the next step of a thread sees -/
theorem cp_res (hm : m < 2) (R : RlB P m x S) (ht : t < 3) (hi : pF x t < P.1 t) (h : PgC I P) : f_X9_resultOf 58 (Int32.ofNat m) x (Int32.ofNat (t * 4 + pF x t)) (I, J) = some (Int32.ofNat (gSee P S (t * 4 + pF x t)), (I, J)) := by
  have hz := used_at h.1 ht hi
  have hx := (gU_iff.1 hz.1).1
  obtain ⟨w1, w2, w3⟩ := h.1.2.2 _ hz.1
  have em : (Int32.ofNat m = 1) = (m = 1) := i_eq (m := 1) (by omega) (by decide)
  have hD : ∀ k, k < pF x t → (S.1 (t * 4 + k) = true ↔ (m = 1 → P.2.1 (t * 4 + k) = 0 → k < pF x (3 + t))) := by
    intro k hk
    have hzk := used_at h.1 ht (show k < P.1 t by omega)
    rw [R.2.2.1 _ hzk.1, hzk.2.1, hzk.2.2]
    exact ⟨fun g => g.2, fun g => ⟨hk, g⟩⟩
  unfold f_X9_resultOf
  obtain ⟨N, hN⟩ : ∃ N, N = 1000000 := ⟨_, rfl⟩
  rw [← hN]
  simp only [eLt, Option.bind_some, ↓reduceIte, K_58, K_59, K_60, K_61, K_62, K_63, R_58_0, R_58_1, R_58_2, R_58_3, R_58_4, true_and, and_true, eB, decide_true, decide_false, Bool.or_true, Bool.true_or, not_true_eq_false, not_false_eq_true, x_tn hx, x_ix hx, (h.2.2 _ hz.1).2.1, four0, x_dv hx, hz.2.1, em]
  unfold gSee
  rw [hz.2.1, hz.2.2, ← R.2.2.2 _ w2]
  by_cases q : m = 1
  · have e2 : Int32.ofNat (t * 4 + pF x t) - 1 = xDn (t * 4 + pF x t) := by
      cases hc : t * 4 + pF x t with
      | zero => decide
      | succ j => exact i_sb (n := j + 1) (m := 1) (by omega)
    have key := cp_res1 (x := x) (J := J) hz.1 h (pF x t) N (by rw [hz.2.2]; exact Nat.le_refl _) (by have := pF_lt (x := x) (k := t); omega)
    rw [hz.2.1] at key
    simp only [q, eLt, Option.bind_some, ↓reduceIte, K_58, K_59, K_60, K_61, K_62, K_63, R_58_0, R_58_1, R_58_2, R_58_3, R_58_4, true_and, and_true, eB, decide_true, decide_false, Bool.or_true, Bool.true_or, not_true_eq_false, not_false_eq_true, ad3, cp_part (show 3 + t < 9 by omega), t4, i_ad, e2]
    rw [key]
    congr 3
    refine gLk_eq _ (fun k hk => ?_)
    have hd := hD k hk
    by_cases c : P.2.1 (t * 4 + k) = 0
    · by_cases c2 : pF x (3 + t) ≤ k
      · have hs : S.1 (t * 4 + k) = false := by
          rw [← Bool.not_eq_true, hd]
          intro f
          have := f q c
          omega
        rw [hs, decide_eq_true c2]
        rfl
      · have hs : S.1 (t * 4 + k) = true := hd.2 (fun _ _ => by omega)
        rw [hs, decide_eq_false c2]
        rfl
    · rw [decide_eq_false (fun f => c f.1), Bool.false_and, Bool.false_and]
  · simp only [q, not_false_eq_true, ↓reduceIte]
    unfold f_X9_resultOf_89
    rw [ad6, cp_part (by omega), Option.bind_some, gLk_none]
    intro k hk
    have hs : S.1 (t * 4 + k) = true := (hD k hk).2 (fun f => absurd f q)
    rw [hs]
    exact Bool.and_false _
end EPS
