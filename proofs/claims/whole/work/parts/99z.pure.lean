/-! the reference's states: where a step leads -/
/-- what a thread still has to do -/
def rkT (P : aP) (x : Int64) (t : Nat) : Nat := (P.1 t - dF x t) + (nS P t (P.1 t) - oF x t)
def rkA (P : aP) (x : Int64) : Nat := rkT P x 0 + rkT P x 1 + rkT P x 2
section EPT
variable {P : aP} {m r y z k n p t s N K v w i j : Nat} {S S' : aT} {x x' : Int64}
theorem rkA_le (h : gWf P) : rkA P x ≤ 12 := by
  have h0 := nS_le (P := P) (t := 0) (P.1 0)
  have h1 := nS_le (P := P) (t := 1) (P.1 1)
  have h2 := nS_le (P := P) (t := 2) (P.1 2)
  have := h.2.1
  unfold gTo at this
  unfold rkA rkT
  omega
theorem rkA_lt (ht : t < 3) (h1 : rkT P x' t + 1 ≤ rkT P x t) (h2 : ∀ u, u < 3 → ¬ u = t → rkT P x' u = rkT P x u) : rkA P x' + 1 ≤ rkA P x := by
  unfold rkA
  have e0 := h2 0 (by decide)
  have e1 := h2 1 (by decide)
  have e2 := h2 2 (by decide)
  have : t = 0 ∨ t = 1 ∨ t = 2 := by omega
  rcases this with q | q | q
  · subst q
    rw [e1 (by decide), e2 (by decide)]
    omega
  · subst q
    rw [e0 (by decide), e2 (by decide)]
    omega
  · subst q
    rw [e0 (by decide), e1 (by decide)]
    omega
theorem lgF_0 {f m : Nat} : lgF 0 f m = 0 := by
  unfold lgF
  apply Nat.eq_of_testBit_eq
  intro i
  rw [BitVec.testBit_toNat, BitVec.getLsbD_extractLsb']
  have : (0 : Int64).toBitVec = 0#64 := rfl
  rw [this, BitVec.getLsbD_zero, Bool.and_false, Nat.zero_testBit]
theorem RlA_0 : RlA P m 0 gS0 := by
  refine ⟨fun t _ => ?_, fun _ t _ => ?_, fun _ t _ => lgF_0, fun y _ => ?_, fun q _ => lgF_0, fun y _ _ => lgF_0, hF4_0 _ (fun k _ => lgF_0)⟩
  · unfold dF
    rw [lgF_0]
    exact Nat.zero_le _
  · unfold oF
    rw [lgF_0]
    exact Nat.zero_le _
  · unfold dF
    rw [lgF_0]
    constructor
    · intro h
      cases h
    · intro h
      exact absurd h.1 (Nat.not_lt_zero _)
theorem RlA_ne (hW : gWf P) (R : RlA P m x S) : ¬ x = -1 := by
  intro e
  have h := R.1 0 (by decide)
  have h4 := hW.1 0 (by decide)
  subst e
  have : dF (-1) 0 = 7 := by decide
  omega
/-- a step is done, or not, whatever the rest -/
theorem RlA_d (R : RlA P m x S) (R' : RlA P m x S') (hu : gU P y = true) : S.1 y = S'.1 y :=
  Bool.eq_iff_iff.2 ((R.2.2.2.1 y hu).trans (R'.2.2.2.1 y hu).symm)
theorem rl_see (hW : gWf P) (R : RlA P m x S) (R' : RlA P m x S') (hu : gU P y = true) : gSee P S y = gSee P S' y := by
  have hy := gU_iff.1 hu
  obtain ⟨w1, w2, w3⟩ := hW.2.2 y hu
  have h4 := hW.1 (y / 4) (by omega)
  unfold gSee
  rw [← R.2.2.2.2.1 _ w2, ← R'.2.2.2.2.1 _ w2]
  refine gLk_eq _ (fun k hk => ?_)
  have hz : gU P (y / 4 * 4 + k) = true := gU_iff.2 ⟨by omega, by rw [show (y / 4 * 4 + k) / 4 = y / 4 by omega, show (y / 4 * 4 + k) % 4 = k by omega]; omega⟩
  rw [RlA_d R R' hz]
theorem nS_st (h : P.2.1 (4 * t + k) = 0) : nS P t (k + 1) = nS P t k + 1 := by
  rw [nS_s, if_pos h]
theorem nS_no (h : ¬ P.2.1 (4 * t + k) = 0) : nS P t (k + 1) = nS P t k := by
  rw [nS_s, if_neg h]
  rfl
theorem nS_lt (h : P.2.1 (4 * t + k) = 0) (hk : k < n) : nS P t k < nS P t n := by
  have := nS_mono (P := P) (t := t) (show k + 1 ≤ n by omega)
  rw [nS_st h] at this
  omega
theorem nS_inj (h : P.2.1 (4 * t + k) = 0) (h' : P.2.1 (4 * t + j) = 0) (e : nS P t k = nS P t j) : k = j := by
  by_cases c : k < j
  · have := nS_lt h c
    omega
  · by_cases c2 : j < k
    · have := nS_lt h' c2
      omega
    · omega
theorem y4 : 4 * (y / 4) + y % 4 = y := by omega
/-- what is not done, though behind -/
theorem RlA_un (R : RlA P m x S) (hu : gU P y = true) (hd : S.1 y = false) (h : y % 4 < dF x (y / 4)) : m = 1 ∧ P.2.1 y = 0 ∧ oF x (y / 4) ≤ nS P (y / 4) (y % 4) := by
  have h1 : ¬ (y % 4 < dF x (y / 4) ∧ (m = 1 → P.2.1 y = 0 → nS P (y / 4) (y % 4) < oF x (y / 4))) := fun g => by
    rw [(R.2.2.2.1 y hu).2 g] at hd
    cases hd
  by_cases c1 : m = 1
  · by_cases c2 : P.2.1 y = 0
    · refine ⟨c1, c2, ?_⟩
      by_cases c3 : nS P (y / 4) (y % 4) < oF x (y / 4)
      · exact absurd ⟨h, fun _ _ => c3⟩ h1
      · omega
    · exact absurd ⟨h, fun _ c => absurd c c2⟩ h1
  · exact absurd ⟨h, fun c => absurd c c1⟩ h1
/-- all done -/
theorem ov_T : ovA P m x 3 = true ↔ ∀ t, t < 3 → dF x t = P.1 t ∧ (m = 1 → oF x t = nS P t (dF x t)) := by
  have e : ∀ t, ovT P m x t = true ↔ dF x t = P.1 t ∧ (m = 1 → oF x t = nS P t (dF x t)) := by
    intro t
    unfold ovT
    rw [Bool.and_eq_true, Bool.or_eq_true, decide_eq_true_iff, decide_eq_true_iff, decide_eq_true_iff]
    constructor
    · rintro ⟨h1, h2⟩
      exact ⟨h1, fun c => h2.resolve_left (fun g => g c)⟩
    · rintro ⟨h1, h2⟩
      by_cases c : m = 1
      · exact ⟨h1, Or.inr (h2 c)⟩
      · exact ⟨h1, Or.inl c⟩
  have e3 : ovA P m x 3 = (true && ovT P m x 0 && ovT P m x 1 && ovT P m x 2) := rfl
  rw [e3, Bool.true_and, Bool.and_eq_true, Bool.and_eq_true, e, e, e]
  constructor
  · rintro ⟨⟨h0, h1⟩, h2⟩ t ht
    have : t = 0 ∨ t = 1 ∨ t = 2 := by omega
    rcases this with q | q | q
    · rw [q]; exact h0
    · rw [q]; exact h1
    · rw [q]; exact h2
  · intro h
    exact ⟨⟨h 0 (by decide), h 1 (by decide)⟩, h 2 (by decide)⟩
theorem ov_0 (hW : gWf P) (R : RlA P m x S) (hB : gBd P S r) : ovA P m x 3 = true ↔ r = 0 := by
  rw [ov_T]
  constructor
  · intro h
    rw [← hB.2.2.2]
    have e : wN (fun y => gU P y && !S.1 y) 12 = wN (fun _ => false) 12 := wN_eq 12 (fun y _ => by
      by_cases hu : gU P y = true
      · have hy := gU_iff.1 hu
        obtain ⟨h1, h2⟩ := h (y / 4) (by omega)
        have : S.1 y = true := (R.2.2.2.1 y hu).2 ⟨by omega, fun c c2 => by
          rw [h2 c, h1]
          rw [← y4 (y := y)] at c2
          exact nS_lt c2 hy.2⟩
        rw [this]
        exact Bool.and_false _
      · rw [Bool.eq_false_iff.2 hu]
        rfl)
    rw [e]
    rfl
  · intro e t ht
    subst e
    have hd := R.1 t ht
    have h1 : dF x t = P.1 t := by
      by_cases c : dF x t < P.1 t
      · obtain ⟨hu, hx, e1, e2⟩ := used_at4 hW ht c
        have := ((R.2.2.2.1 _ hu).1 (g_over hB _ hu)).1
        rw [e1, e2] at this
        omega
      · omega
    refine ⟨h1, fun c => ?_⟩
    have ho := R.2.1 c t ht
    by_cases c2 : oF x t < nS P t (dF x t)
    · obtain ⟨j, hj⟩ := sAt_ex _ c2
      obtain ⟨j1, j2, j3⟩ := sAt_some _ hj
      obtain ⟨hu, hx, e1, e2⟩ := used_at4 hW ht (show j < P.1 t by omega)
      have := ((R.2.2.2.1 _ hu).1 (g_over hB _ hu)).2 c j2
      rw [e1, e2] at this
      omega
    · omega
/-- the next step of a thread can be taken -/
theorem ok_d (hW : gWf P) (R : RlA P m x S) (ht : t < 3) (hi : dF x t < P.1 t) (h : m = 1 → P.2.1 (4 * t + dF x t) = 1 ∨ oF x t = nS P t (dF x t)) : gOk P m S.1 (4 * t + dF x t) := by
  obtain ⟨hu, hx, e1, e2⟩ := used_at4 hW ht hi
  refine ⟨hu, ?_, fun z hz he hd => ?_⟩
  · rw [← Bool.not_eq_true, R.2.2.2.1 _ hu, e1, e2]
    exact fun g => Nat.lt_irrefl _ g.1
  · rw [e1] at he
    have hu2 := same_th hu hz (he.trans e1.symm)
    have hz2 : z % 4 < dF x t := by omega
    obtain ⟨g1, g2, g3⟩ := RlA_un R hu2 hd (by rw [he]; exact hz2)
    refine ⟨g1, ?_, g2⟩
    rcases h g1 with q | q
    · exact q
    · rw [he] at g3
      have g2' := g2
      rw [← y4 (y := z), he] at g2'
      have := nS_lt g2' hz2
      omega
/-- the oldest store of a buffer can come out -/
theorem ok_o (hW : gWf P) (R : RlA P 1 x S) (ht : t < 3) (hj : sAt P t (oF x t) (dF x t) = some j) : gOk P 1 S.1 (4 * t + j) := by
  obtain ⟨j1, j2, j3⟩ := sAt_some _ hj
  have hd := R.1 t ht
  obtain ⟨hu, hx, e1, e2⟩ := used_at4 hW ht (show j < P.1 t by omega)
  refine ⟨hu, ?_, fun z hz he hd => ?_⟩
  · rw [← Bool.not_eq_true, R.2.2.2.1 _ hu, e1, e2]
    intro g
    have := g.2 rfl j2
    omega
  · rw [e1] at he
    have hu2 := same_th hu hz (he.trans e1.symm)
    obtain ⟨g1, g2, g3⟩ := RlA_un R hu2 hd (by rw [he]; omega)
    rw [he] at g3
    rw [← y4 (y := z), he] at g2
    have := nS_lt g2 (show z % 4 < j by omega)
    omega
/-- what can be taken -/
theorem ok_inv (hW : gWf P) (R : RlA P m x S) (hk : gOk P m S.1 y) : (y = 4 * (y / 4) + dF x (y / 4) ∧ dF x (y / 4) < P.1 (y / 4) ∧ (m = 1 → ¬ P.2.1 y = 0 ∧ (P.2.1 y = 1 ∨ oF x (y / 4) = nS P (y / 4) (dF x (y / 4))))) ∨
    (m = 1 ∧ dF x (y / 4) < P.1 (y / 4) ∧ P.2.1 (4 * (y / 4) + dF x (y / 4)) = 0) ∨ (m = 1 ∧ sAt P (y / 4) (oF x (y / 4)) (dF x (y / 4)) = some (y % 4)) := by
  obtain ⟨hu, hd, hall⟩ := hk
  have hy := gU_iff.1 hu
  have ht : y / 4 < 3 := by omega
  have hun : ∀ j, j < dF x (y / 4) → P.2.1 (4 * (y / 4) + j) = 0 → nS P (y / 4) j = oF x (y / 4) → m = 1 → j < y % 4 → P.2.1 y = 1 := by
    intro j h1 h2 h3 hm h4
    obtain ⟨hu2, hx, e1, e2⟩ := used_at4 hW ht (show j < P.1 (y / 4) by omega)
    have hd2 : S.1 (4 * (y / 4) + j) = false := by
      rw [← Bool.not_eq_true, R.2.2.2.1 _ hu2, e1, e2]
      intro g
      have := g.2 hm h2
      omega
    exact (hall _ (by omega) e1 hd2).2.1
  by_cases c : y % 4 < dF x (y / 4)
  · right
    right
    obtain ⟨g1, g2, g3⟩ := RlA_un R hu hd c
    refine ⟨g1, ?_⟩
    have g2' : P.2.1 (4 * (y / 4) + y % 4) = 0 := by rw [y4]; exact g2
    have hlt := nS_lt g2' c
    obtain ⟨j, hj⟩ := sAt_ex (P := P) (t := y / 4) (w := oF x (y / 4)) (dF x (y / 4)) (by omega)
    obtain ⟨j1, j2, j3⟩ := sAt_some _ hj
    rw [hj]
    congr 1
    by_cases c2 : j < y % 4
    · have := hun j j1 j2 j3 g1 c2
      omega
    · by_cases c3 : y % 4 < j
      · have := nS_lt g2' c3
        omega
      · omega
  · by_cases c2 : dF x (y / 4) < y % 4
    · right
      left
      obtain ⟨hu2, hx, e1, e2⟩ := used_at4 hW ht (show dF x (y / 4) < P.1 (y / 4) by omega)
      have hd2 : S.1 (4 * (y / 4) + dF x (y / 4)) = false := by
        rw [← Bool.not_eq_true, R.2.2.2.1 _ hu2, e1, e2]
        exact fun g => Nat.lt_irrefl _ g.1
      have := hall _ (by omega) e1 hd2
      exact ⟨this.1, by omega, this.2.2⟩
    · have e : y = 4 * (y / 4) + dF x (y / 4) := by omega
      by_cases c3 : m = 1 ∧ P.2.1 y = 0
      · right
        left
        exact ⟨c3.1, by omega, by rw [← e]; exact c3.2⟩
      · left
        refine ⟨e, by omega, fun c4 => ⟨fun g => c3 ⟨c4, g⟩, ?_⟩⟩
        have ho := R.2.1 c4 _ ht
        by_cases c5 : oF x (y / 4) < nS P (y / 4) (dF x (y / 4))
        · obtain ⟨j, hj⟩ := sAt_ex _ c5
          obtain ⟨j1, j2, j3⟩ := sAt_some _ hj
          exact Or.inl (hun j j1 j2 j3 c4 (by omega))
        · exact Or.inr (by omega)
end EPT
