/-! the reference's step -/
section EPT
variable {P : aP} {I I' I0 : Nat → Nat → Int32} {J J' J0 : Nat → Nat → Int64} {a : aS} {m r y z k n p t s N v w i j : Nat} {l L M : List Nat} {X Y Z W : Int32} {σ : eMem}
theorem gTo_i (h : PgR I P) : I 154 0 + I 154 1 + I 154 2 = Int32.ofNat (gTo P) := by
  rw [h.2.1 0 (by decide), h.2.1 1 (by decide), h.2.1 2 (by decide), i_ad, i_ad]
  rfl
theorem rp_stepC (hA : ¬ stA X Y Z) (hB : ¬ stB Y W) (ht : t < 3) (hX : X = Int32.ofNat t) (hr : ¬ (P.1 t < 4 ∧ gTo P < 6)) (h : PgR I P) : rP (f_X12_step 122 X Y Z W (I, J)) I J (3, 0, P) := by
  rw [rp_step3 hA hB, hX]
  have h4 := h.1.1 t ht
  have h6 := h.1.2.1
  have e4 : (Int32.ofNat (P.1 t) = 4) = (P.1 t = 4) := i_eq (m := 4) (by omega) (by decide)
  have e6 : (Int32.ofNat (gTo P) = 6) = (gTo P = 6) := i_eq (m := 6) (by omega) (by decide)
  have u : ∀ t, eup I 122 32 0 154 t = I 154 t := fun t => up_r (by decide)
  have g : f_X12_step_116 122 (eup I 122 32 0, J) = some (0, (eup (eup I 122 32 0) 122 32 3, J)) := by
    unfold f_X12_step_116 f_X12_fails
    simp only [eLt, Option.bind_some, ↓reduceIte, K_122, R_122_33, R_122_34, R_122_35, R_122_36, K_154, K_155, K_156, K_157, true_and, and_true, eB, decide_true, decide_false, Bool.or_true, Bool.true_or, not_true_eq_false, not_false_eq_true]
  have z0 : (0 : Int32).toNatClampNeg = 0 := rfl
  have z1 : (1 : Int32).toNatClampNeg = 1 := rfl
  have z2 : (2 : Int32).toNatClampNeg = 2 := rfl
  have j0 : eix (0 : Int32) 3 = true := rfl
  have j1 : eix (1 : Int32) 3 = true := rfl
  have j2 : eix (2 : Int32) 3 = true := rfl
  unfold f_X12_step_81
  simp only [eLt, Option.bind_some, ↓reduceIte, K_122, R_122_33, R_122_34, R_122_35, R_122_36, K_154, K_155, K_156, K_157, true_and, and_true, eB, decide_true, decide_false, Bool.or_true, Bool.true_or, not_true_eq_false, not_false_eq_true, t_tn ht, t_ix ht, u, h.2.1 t ht, e4, g, z0, z1, z2, j0, j1, j2, gTo_i h, e6]
  by_cases c : P.1 t = 4
  · rw [if_pos c]
    exact rP_fail 0 3 h
  · have c6 : gTo P = 6 := by omega
    simp only [c, c6, ↓reduceIte, not_true_eq_false]
    exact rP_fail 0 3 h
theorem rp_stepD (hA : ¬ stA X Y Z) (hB : ¬ stB Y W) (ht : t < 3) (hw : w < 4) (hp : p < 3) (hv : w = 0 → 1 ≤ v ∧ v ≤ 9) (hX : X = Int32.ofNat t) (hY : Y = Int32.ofNat w) (hZ : (if ¬ Y = 2 then Z else 0) = Int32.ofNat p) (hW : w = 0 → W = Int32.ofNat v)
    (hr : P.1 t < 4 ∧ gTo P < 6) (h : PgR I P) : rP (f_X12_step 122 X Y Z W (I, J)) I J (0, Int32.ofNat (P.1 t + 1), gAp P t w p v) := by
  have hs : t * 4 + P.1 t < 12 := by omega
  have e1 : (4 : Int32) * Int32.ofNat t + Int32.ofNat (P.1 t) = Int32.ofNat (t * 4 + P.1 t) := by
    rw [show (4 : Int32) = Int32.ofNat 4 from rfl, i_mu, i_ad, Nat.mul_comm]
  have e4' : (Int32.ofNat (P.1 t) = 4) = False := (i_eq (m := 4) (by omega) (by decide)).trans (eq_false (by omega))
  have e6 : (Int32.ofNat (gTo P) = 6) = False := (i_eq (m := 6) (by omega) (by decide)).trans (eq_false (by omega))
  have e5 : Int32.ofNat (P.1 t) + 1 = Int32.ofNat (P.1 t + 1) := i_ad (m := 1)
  have hWf := gWf_ap (v := v) ht hr.1 hr.2 hw hp hv h.1
  obtain ⟨I5, hI5⟩ : ∃ I5, I5 = eup (eup (eup (eup (eup I 122 32 0) 155 (t * 4 + P.1 t) Y) 156 (t * 4 + P.1 t) (Int32.ofNat p)) 157 (t * 4 + P.1 t) W) 154 t (Int32.ofNat (P.1 t + 1)) := ⟨_, rfl⟩
  have a1 : ∀ u, u < 3 → I5 154 u = Int32.ofNat ((gAp P t w p v).1 u) := by
    intro u hu
    show _ = Int32.ofNat (gUp P.1 t (P.1 t + 1) u)
    rw [hI5]
    by_cases e : u = t
    · rw [e, up_eq, gUp_eq]
    · rw [up_k e, up_r (by decide), up_r (by decide), up_r (by decide), up_r (by decide), gUp_ne e]
      exact h.2.1 u hu
  have q55 : ∀ x, I5 155 x = eup (eup I 122 32 0) 155 (t * 4 + P.1 t) Y 155 x := fun x => by rw [hI5, up_r (by decide), up_r (by decide), up_r (by decide)]
  have q56 : ∀ x, I5 156 x = eup (eup (eup I 122 32 0) 155 (t * 4 + P.1 t) Y) 156 (t * 4 + P.1 t) (Int32.ofNat p) 156 x := fun x => by rw [hI5, up_r (by decide), up_r (by decide)]
  have q57 : ∀ x, I5 157 x = eup (eup (eup (eup I 122 32 0) 155 (t * 4 + P.1 t) Y) 156 (t * 4 + P.1 t) (Int32.ofNat p)) 157 (t * 4 + P.1 t) W 157 x := fun x => by rw [hI5, up_r (by decide)]
  refine ⟨I5, J, ?_, ⟨hWf, a1, fun x hx => ?_⟩, ?_, fun r h1 h2 => ?_, fun i h1 _ _ _ => ?_, fun _ _ _ => rfl⟩
  · have z0 : (0 : Int32).toNatClampNeg = 0 := rfl
    have z1 : (1 : Int32).toNatClampNeg = 1 := rfl
    have z2 : (2 : Int32).toNatClampNeg = 2 := rfl
    have j0 : eix (0 : Int32) 3 = true := rfl
    have j1 : eix (1 : Int32) 3 = true := rfl
    have j2 : eix (2 : Int32) 3 = true := rfl
    have u : ∀ t, eup I 122 32 0 154 t = I 154 t := fun t => up_r (by decide)
    have u2 : eup (eup (eup (eup I 122 32 0) 155 (t * 4 + P.1 t) Y) 156 (t * 4 + P.1 t) (Int32.ofNat p)) 157 (t * 4 + P.1 t) W 154 t = Int32.ofNat (P.1 t) := by
      rw [up_r (by decide), up_r (by decide), up_r (by decide), up_r (by decide)]
      exact h.2.1 t ht
    have u3 : I5 154 t = Int32.ofNat (P.1 t + 1) := by rw [hI5, up_eq]
    have g1 : ∀ q : Int32, q = Int32.ofNat p → f_X12_step_158 122 (Int32.ofNat t) W (Int32.ofNat (t * 4 + P.1 t)) 156 (Int32.ofNat (t * 4 + P.1 t)) q (eup (eup I 122 32 0) 155 (t * 4 + P.1 t) Y, J) = some (Int32.ofNat (P.1 t + 1), (I5, J)) := by
      intro q hq
      subst hq
      unfold f_X12_step_158
      simp only [eLt, Option.bind_some, ↓reduceIte, K_122, R_122_33, R_122_34, R_122_35, R_122_36, K_154, K_155, K_156, K_157, true_and, and_true, eB, decide_true, decide_false, Bool.or_true, Bool.true_or, not_true_eq_false, not_false_eq_true, x_tn hs, x_ix hs, t_tn ht, t_ix ht, u2, e5, ← hI5, u3]
    rw [rp_step3 hA hB, hX]
    unfold f_X12_step_81
    simp only [eLt, Option.bind_some, ↓reduceIte, K_122, R_122_33, R_122_34, R_122_35, R_122_36, K_154, K_155, K_156, K_157, true_and, and_true, eB, decide_true, decide_false, Bool.or_true, Bool.true_or, not_true_eq_false, not_false_eq_true, t_tn ht, t_ix ht, u, h.2.1 t ht, e4', z0, z1, z2, j0, j1, j2, gTo_i h, e6, e1, x_tn hs, x_ix hs]
    by_cases c : Y = 2
    · rw [if_neg (fun g => g c)] at hZ
      rw [if_neg (fun g => g c)]
      exact g1 0 hZ
    · rw [if_pos c] at hZ
      rw [if_pos c]
      exact g1 Z hZ
  · show I5 155 x = Int32.ofNat (gUp P.2.1 _ w x) ∧ I5 156 x = Int32.ofNat (gUp P.2.2.1 _ p x) ∧ (gUp P.2.1 _ w x = 0 → I5 157 x = Int32.ofNat (gUp P.2.2.2 _ v x))
    rw [q55, q56, q57]
    by_cases e : x = t * 4 + P.1 t
    · rw [e, gUp_eq, gUp_eq, gUp_eq, up_eq, up_eq, up_eq]
      exact ⟨hY, rfl, hW⟩
    · rw [gUp_ne e, gUp_ne e, gUp_ne e]
      have := h.2.2 x (((gAp_U ht hr.1).1 hx).resolve_right e)
      exact ⟨(up_k e).trans ((up_r (by decide)).trans this.1), (up_k e).trans ((up_r (by decide)).trans ((up_r (by decide)).trans this.2.1)), fun g => (up_k e).trans ((up_r (by decide)).trans ((up_r (by decide)).trans ((up_r (by decide)).trans (this.2.2 g))))⟩
  · rw [hI5, up_r (by decide), up_r (by decide), up_r (by decide), up_r (by decide), up_eq]
  · rw [hI5, up_fr (by omega), up_fr (by omega), up_fr (by omega), up_fr (by omega), up_fr (by omega)]
  · rw [hI5, up_r (by decide), up_r (by decide), up_r (by decide), up_r (by decide), up_k h1]
end EPT
