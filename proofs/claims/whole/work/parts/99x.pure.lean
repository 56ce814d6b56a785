/-! the reference: seenBy -/
section EPT
variable {P : aP} {I I' I0 : Nat → Nat → Int32} {J J' J0 : Nat → Nat → Int64} {m r y z k n p t s N K v w i j : Nat} {S : aT} {x x' : Int64}
theorem rp_seen (h : PgR I P) (hm : m < 2) (R : RlA P m x S) (ht : t < 3) (hi : dF x t < P.1 t) :
    f_X12_seenBy 122 x (Int32.ofNat t) (Int32.ofNat (P.2.2.1 (4 * t + dF x t))) (if m = 1 then 1 else 0) (I, J) = some (Int32.ofNat (gSee P S (4 * t + dF x t)), (I, J)) := by
  obtain ⟨hu, hx, e1, e2⟩ := used_at4 h.1 ht hi
  obtain ⟨w1, w2, w3⟩ := h.1.2.2 _ hu
  have h4 := h.1.1 t ht
  have hst := rp_stores (J := J) h ht (show dF x t ≤ P.1 t by omega)
  have hns := nS_le (P := P) (t := t) (dF x t)
  unfold f_X12_seenBy
  obtain ⟨N, hN⟩ : ∃ N, N = 1000000 := ⟨_, rfl⟩
  rw [← hN, f18, f9, f3]
  have p1 : f_X12_part x (Int32.ofNat (18 + 4 * P.2.2.1 (4 * t + dF x t))) 4 (I, J) = some (Int32.ofNat (vF x (P.2.2.1 (4 * t + dF x t))), (I, J)) := rp_part (m := 4) (by decide) (by omega) (by omega)
  have p2 : f_X12_part x (Int32.ofNat (3 * t)) 3 (I, J) = some (Int32.ofNat (dF x t), (I, J)) := rp_part (m := 3) (by decide) (by omega) (by omega)
  have p3 : f_X12_part x (Int32.ofNat (9 + 3 * t)) 3 (I, J) = some (Int32.ofNat (oF x t), (I, J)) := rp_part (m := 3) (by decide) (by omega) (by omega)
  simp only [p1, p2, p3, Option.bind_some, K_122, ↓reduceIte, hst]
  by_cases c : m = 1
  · subst c
    have ho := R.2.1 rfl t ht
    have key := rp_see1 (J := J) (o := oF x t) (d0 := vF x (P.2.2.1 (4 * t + dF x t))) h ht (show dF x t ≤ P.1 t by omega) w2 (nS P t (dF x t) - oF x t) (oF x t) N (by omega) (Nat.le_refl _) (by omega)
    rw [gQ_see h.1 R ht hi] at key
    rw [gLk_none (g := gQ P t (P.2.2.1 (4 * t + dF x t)) (oF x t) (oF x t)) _ (fun j _ => by
      unfold gQ
      by_cases c2 : oF x t ≤ nS P t j
      · rw [decide_eq_false (show ¬ nS P t j < oF x t by omega), Bool.and_false, Bool.and_false]
      · rw [decide_eq_false c2, Bool.false_and, Bool.and_false])] at key
    exact key
  · rw [if_neg c]
    obtain ⟨N', rfl⟩ : ∃ N', N = N' + 1 := ⟨N - 1, by omega⟩
    have e : gSee P S (4 * t + dF x t) = vF x (P.2.2.1 (4 * t + dF x t)) := by
      unfold gSee
      rw [e1, e2, R.2.2.2.2.1 _ w2]
      refine gLk_none _ (fun j hj => ?_)
      obtain ⟨hu2, hx2, e3, e4⟩ := used_at4 h.1 ht (show j < P.1 t by omega)
      have hS : S.1 (4 * t + j) = true := (R.2.2.2.1 _ hu2).2 ⟨by rw [e3, e4]; exact hj, fun f => absurd f c⟩
      rw [Nat.mul_comm t 4, hS]
      exact Bool.and_false _
    rw [f_X12_seenBy_L46, e]
    unfold f_X12_seenBy_101
    simp only [↓reduceIte, ite_self]
end EPT
