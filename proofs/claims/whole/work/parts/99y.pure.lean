/-! the reference: isOverAll -/
def ovT (P : aP) (m : Nat) (x : Int64) (t : Nat) : Bool := decide (dF x t = P.1 t) && (decide (¬ m = 1) || decide (oF x t = nS P t (dF x t)))
def ovA (P : aP) (m : Nat) (x : Int64) : Nat → Bool
  | 0 => true
  | t + 1 => ovA P m x t && ovT P m x t
section EPT
variable {P : aP} {I I' I0 : Nat → Nat → Int32} {J J' J0 : Nat → Nat → Int64} {m r y z k n p t s N K v w i j : Nat} {S : aT} {x x' : Int64}
theorem rp_ov (h : PgR I P) (hm : m < 2) (hd : ∀ t, t < 3 → dF x t ≤ P.1 t) : ∀ d t N, t + d = 3 → 3 * d + 1 ≤ N →
    f_X12_isOverAll_L6 N (.inl (122, x, if m = 1 then 1 else 0, if ovA P m x t = true then 1 else 0, Int32.ofNat t)) (I, J) = some (if ovA P m x 3 = true then 1 else 0, (I, J)) := by
  intro d
  induction d with
  | zero =>
    intro t N ht hN
    have ht3 : t = 3 := ht
    subst ht3
    obtain ⟨N, rfl⟩ := Nat.exists_eq_add_of_le' hN
    have e : ((3 : Int32) ≤ Int32.ofNat 3) = True := eq_true (by decide)
    rw [show N + (3 * 0 + 1) = N + 1 by omega, f_X12_isOverAll_L6]
    simp only [e, ↓reduceIte]
    by_cases c : ovA P m x 3 = true
    · simp only [c, ↓reduceIte]
      rfl
    · simp only [c, ↓reduceIte]
      rfl
  | succ d ih =>
    intro t N ht hN
    have ht3 : t < 3 := by omega
    have h4 := h.1.1 t ht3
    have hdt := hd t ht3
    obtain ⟨N, rfl⟩ := Nat.exists_eq_add_of_le' hN
    have e : ((3 : Int32) ≤ Int32.ofNat t) = False := (i_le (n := 3) (by decide) (by omega)).trans (eq_false (by omega))
    have e1 : Int32.ofNat t + 1 = Int32.ofNat (t + 1) := i_ad (m := 1)
    have key := ih (t + 1) (N + (3 * d + 1)) (by omega) (by omega)
    have hs : ovA P m x (t + 1) = (ovA P m x t && ovT P m x t) := rfl
    have p2 : f_X12_part x (Int32.ofNat (3 * t)) 3 (I, J) = some (Int32.ofNat (dF x t), (I, J)) := rp_part (m := 3) (by decide) (by omega) (by omega)
    have p3 : f_X12_part x (Int32.ofNat (9 + 3 * t)) 3 (I, J) = some (Int32.ofNat (oF x t), (I, J)) := rp_part (m := 3) (by decide) (by omega) (by omega)
    have hst := rp_stores (J := J) h ht3 hdt
    have hns := nS_le (P := P) (t := t) (dF x t)
    have ho : oF x t < 8 := lgM_lt
    have q1 : (Int32.ofNat (dF x t) = Int32.ofNat (P.1 t)) = (dF x t = P.1 t) := i_eq (by omega) (by omega)
    have q2 : (Int32.ofNat (oF x t) = Int32.ofNat (nS P t (dF x t))) = (oF x t = nS P t (dF x t)) := i_eq (by omega) (by omega)
    have no : (ovA P m x t && ovT P m x t) = false → f_X12_isOverAll_L6 (N + (3 * d + 1) + 1 + 1) (.inr (.inr (.inl (122, x, if m = 1 then 1 else 0, Int32.ofNat t)))) (I, J) = some (if ovA P m x 3 = true then 1 else 0, (I, J)) := by
      intro g
      rw [hs, g, if_neg (show ¬ false = true by decide)] at key
      rw [f_X12_isOverAll_L6, f_X12_isOverAll_L6, e1]
      exact key
    have yes : (ovA P m x t && ovT P m x t) = true → f_X12_isOverAll_L6 (N + (3 * d + 1) + 1 + 1) (.inr (.inl (122, x, if m = 1 then 1 else 0, Int32.ofNat t))) (I, J) = some (if ovA P m x 3 = true then 1 else 0, (I, J)) := by
      intro g
      rw [hs, g, if_pos rfl] at key
      rw [f_X12_isOverAll_L6, f_X12_isOverAll_L6, e1]
      exact key
    rw [show N + (3 * (d + 1) + 1) = N + (3 * d + 1) + 1 + 1 + 1 by omega, f_X12_isOverAll_L6, f9, f3]
    simp only [e, ↓reduceIte, p2, p3, Option.bind_some, K_122, R_122_33, K_154, t_tn ht3, t_ix ht3, h.2.1 t ht3, and_self, q1, hst, q2]
    by_cases c1 : ovA P m x t = true
    · simp only [c1, ↓reduceIte, show ¬ (1 : Int32) = 0 by decide]
      by_cases c2 : dF x t = P.1 t
      · rw [if_neg (fun f => f c2)]
        by_cases c3 : m = 1
        · rw [if_pos c3] at no yes ⊢
          rw [if_neg (by decide)]
          by_cases c4 : oF x t = nS P t (dF x t)
          · rw [if_neg (fun f => f c4)]
            refine yes ?_
            unfold ovT
            rw [c1, decide_eq_true c2, decide_eq_true c4, Bool.or_true]
            rfl
          · rw [if_pos c4]
            refine no ?_
            unfold ovT
            rw [decide_eq_false c4, decide_eq_false (show ¬ ¬ m = 1 from fun f => f c3), Bool.or_false, Bool.and_false, Bool.and_false]
        · rw [if_neg c3] at no yes ⊢
          rw [if_pos rfl]
          refine yes ?_
          unfold ovT
          rw [c1, decide_eq_true c2, decide_eq_true c3]
          rfl
      · rw [if_pos c2]
        refine no ?_
        unfold ovT
        rw [decide_eq_false c2, Bool.false_and, Bool.and_false]
    · simp only [c1, Bool.false_eq_true, ↓reduceIte]
      exact no (by rw [Bool.eq_false_iff.2 c1, Bool.false_and])
end EPT
