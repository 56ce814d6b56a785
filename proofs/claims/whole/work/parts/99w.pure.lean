/-! the reference: what the next step of a thread sees -/
section EPT
variable {P : aP} {I I' I0 : Nat → Nat → Int32} {J J' J0 : Nat → Nat → Int64} {m r y z k n p t s N K v w i j : Nat} {S : aT} {x x' : Int64}
theorem f30 : (30 : Int32) + (4 : Int32) * Int32.ofNat n = Int32.ofNat (30 + 4 * n) := by
  rw [show (4 : Int32) = Int32.ofNat 4 from rfl, i_mu]
  exact i_ad (n := 30)
theorem f18 : (18 : Int32) + (4 : Int32) * Int32.ofNat n = Int32.ofNat (18 + 4 * n) := by
  rw [show (4 : Int32) = Int32.ofNat 4 from rfl, i_mu]
  exact i_ad (n := 18)
theorem f9 : (9 : Int32) + (3 : Int32) * Int32.ofNat n = Int32.ofNat (9 + 3 * n) := by
  rw [show (3 : Int32) = Int32.ofNat 3 from rfl, i_mu]
  exact i_ad (n := 9)
theorem f3 : (3 : Int32) * Int32.ofNat n = Int32.ofNat (3 * n) := i_mu (n := 3)
/-- what is read from a state -/
theorem gQ_see (hW : gWf P) (R : RlA P 1 x S) (ht : t < 3) (hi : dF x t < P.1 t) :
    gLk (gQ P t (P.2.2.1 (4 * t + dF x t)) (oF x t) (nS P t (dF x t))) (fun k => P.2.2.2 (4 * t + k)) (vF x (P.2.2.1 (4 * t + dF x t))) (dF x t) = gSee P S (4 * t + dF x t) := by
  obtain ⟨hu, hx, e1, e2⟩ := used_at4 hW ht hi
  obtain ⟨w1, w2, w3⟩ := hW.2.2 _ hu
  unfold gSee
  rw [e1, e2, ← R.2.2.2.2.1 _ w2, Nat.mul_comm t 4]
  refine gLk_eq _ (fun j hj => ?_)
  obtain ⟨hu2, hx2, e3, e4⟩ := used_at4 hW ht (show j < P.1 t by omega)
  have hd := R.2.2.2.1 _ hu2
  rw [e3, e4] at hd
  unfold gQ
  by_cases c : P.2.1 (4 * t + j) = 0
  · have hs := nS_s (P := P) (t := t) (k := j)
    rw [if_pos c] at hs
    have hm := nS_mono (P := P) (t := t) (show j + 1 ≤ dF x t by omega)
    rw [decide_eq_true (show nS P t j < nS P t (dF x t) by omega), Bool.and_true]
    by_cases c2 : oF x t ≤ nS P t j
    · have hS : S.1 (4 * t + j) = false := by
        rw [← Bool.not_eq_true, hd]
        intro f
        have := f.2 rfl c
        omega
      rw [hS, decide_eq_true c2]
      rfl
    · have hS : S.1 (4 * t + j) = true := hd.2 ⟨hj, fun _ _ => by omega⟩
      rw [hS, decide_eq_false c2]
      rfl
  · rw [decide_eq_false (fun f => c f.1), Bool.false_and, Bool.false_and]
end EPT
