/-! the class's step; what a step's arguments are -/
section EPS
variable {P : aP} {I I' I0 : Nat → Nat → Int32} {J J0 : Nat → Nat → Int64} {m r y z k n p t s N v w i j A Q K depth : Nat} {S : aT} {l L M : List Nat} {X Y Z W : Int32} {x x' : Int64} {σ : eMem} {e : Int32 → Nat}
/-- a thread or a place that there is not -/
def stA (X Y Z : Int32) : Prop := (X < 0 ∨ ¬ X < 3) ∨ (¬ Y = 2 ∧ (Z < 0 ∨ ¬ Z < 3))
/-- a kind or a value that there is not -/
def stB (Y W : Int32) : Prop := (Y < 0 ∨ ¬ Y ≤ 3) ∨ (Y = 0 ∧ (W < 1 ∨ ¬ W ≤ 9))
theorem i_in3 (h0 : ¬ X < 0) (h1 : ¬ ¬ X < 3) : ∃ n, n < 3 ∧ X = Int32.ofNat n := i_in (b := 3) (by decide) h0 (Classical.not_not.1 h1)
theorem i_le_lt {b : Nat} (hb : b < 2147483647) (h : X ≤ Int32.ofNat b) : X < Int32.ofNat (b + 1) := by
  rw [Int32.lt_iff_toInt_lt, i_ti (by omega)]
  rw [Int32.le_iff_toInt_le, i_ti (by omega)] at h
  omega
theorem st_ok (hA : ¬ stA X Y Z) (hB : ¬ stB Y W) : ∃ t w p v, t < 3 ∧ w < 4 ∧ p < 3 ∧ (w = 0 → 1 ≤ v ∧ v ≤ 9) ∧ X = Int32.ofNat t ∧ Y = Int32.ofNat w ∧ (if ¬ Y = 2 then Z else 0) = Int32.ofNat p ∧ (if ¬ Y = 0 then 0 else W) = Int32.ofNat v ∧ (w = 0 → W = Int32.ofNat v) := by
  unfold stA at hA
  unfold stB at hB
  rw [not_or] at hA hB
  obtain ⟨hA1, hA2⟩ := hA
  obtain ⟨hB1, hB2⟩ := hB
  rw [not_or] at hA1 hB1
  obtain ⟨t, ht, et⟩ := i_in3 hA1.1 hA1.2
  obtain ⟨w, hw, ew⟩ := i_in (x := Y) (b := 4) (by decide) hB1.1 (i_le_lt (b := 3) (by decide) (Classical.not_not.1 hB1.2))
  have hp : ∃ p, p < 3 ∧ (if ¬ Y = 2 then Z else 0) = Int32.ofNat p := by
    by_cases q : Y = 2
    · exact ⟨0, by decide, by rw [if_neg (fun g => g q)]; rfl⟩
    · have h := fun g => hA2 ⟨q, g⟩
      rw [if_pos q]
      exact i_in3 (fun g => h (Or.inl g)) (fun g => h (Or.inr g))
  have hv : ∃ v, (w = 0 → 1 ≤ v ∧ v ≤ 9) ∧ (if ¬ Y = 0 then 0 else W) = Int32.ofNat v ∧ (w = 0 → W = Int32.ofNat v) := by
    by_cases q : Y = 0
    · have h := fun g => hB2 ⟨q, g⟩
      have h1 : ¬ W < 1 := fun g => h (Or.inl g)
      have h9 : W ≤ 9 := Classical.not_not.1 (fun g => h (Or.inr g))
      have t1 : (1 : Int32).toInt = 1 := by decide
      have t0 : (0 : Int32).toInt = 0 := by decide
      rw [Int32.lt_iff_toInt_lt, t1] at h1
      obtain ⟨v, hv, ev⟩ := i_in (x := W) (b := 10) (by decide) (by
        rw [Int32.lt_iff_toInt_lt, t0]
        omega) (i_le_lt (b := 9) (by decide) h9)
      rw [ev, i_ti (by omega)] at h1
      refine ⟨v, fun _ => by omega, ?_, fun _ => ev⟩
      rw [if_neg (fun g => g q)]
      exact ev
    · refine ⟨0, fun g => ?_, by rw [if_pos q]; rfl, fun g => ?_⟩
      · rw [g] at ew
        exact absurd ew q
      · rw [g] at ew
        exact absurd ew q
  obtain ⟨p, hp1, hp2⟩ := hp
  obtain ⟨v, hv1, hv2, hv3⟩ := hv
  exact ⟨t, w, p, v, ht, hw, hp1, hv1, et, ew, hp2, hv2, hv3⟩
theorem ct_stepA (hA : stA X Y Z) (h : RPC I P) : cP xE3 (f_X11_step 2 X Y Z W (I, J)) I J (1, 0, P) := by
  refine cP_th 0 1 ?_ (by decide) rfl h
  unfold f_X11_step
  by_cases q : X < 0 ∨ ¬ X < 3
  · rw [ni_no q]
    rfl
  · have hz := hA.resolve_left q
    rw [not_or] at q
    rw [ni_ok q.1 (Classical.not_not.1 q.2)]
    simp only [eThen, hz.1, ↓reduceIte, ni_no hz.2]
theorem st_need (hA : ¬ stA X Y Z) : f_X11_step 2 X Y Z W (I, J) = f_X11_step_15 2 X Y Z W (I, J) := by
  unfold stA at hA
  rw [not_or] at hA
  obtain ⟨hA1, hA2⟩ := hA
  rw [not_or] at hA1
  unfold f_X11_step
  rw [ni_ok hA1.1 (Classical.not_not.1 hA1.2)]
  by_cases q : Y = 2
  · simp only [eThen, q, ↓reduceIte]
  · have h : ¬ (Z < 0 ∨ ¬ Z < 3) := fun g => hA2 ⟨q, g⟩
    rw [not_or] at h
    simp only [eThen, q, ↓reduceIte, ni_ok h.1 (Classical.not_not.1 h.2)]
theorem ct_stepB (hA : ¬ stA X Y Z) (hB : stB Y W) (h : RPC I P) : cP xE3 (f_X11_step 2 X Y Z W (I, J)) I J (2, 0, P) := by
  refine cP_th 1 2 ?_ (by decide) rfl h
  rw [st_need hA]
  unfold f_X11_step_15
  by_cases q : Y < 0 ∨ ¬ Y ≤ 3
  · rw [nw_no q]
    rfl
  · have hz := hB.resolve_left q
    rw [not_or] at q
    rw [nw_ok q.1 (Classical.not_not.1 q.2)]
    simp only [eThen, hz.1, ↓reduceIte, not_true_eq_false, nw_no hz.2]
theorem st_need2 (hA : ¬ stA X Y Z) (hB : ¬ stB Y W) : f_X11_step 2 X Y Z W (I, J) = f_X11_step_33 2 X Y Z W (I, J) := by
  rw [st_need hA]
  unfold stB at hB
  rw [not_or] at hB
  obtain ⟨hB1, hB2⟩ := hB
  rw [not_or] at hB1
  unfold f_X11_step_15
  rw [nw_ok hB1.1 (Classical.not_not.1 hB1.2)]
  by_cases q : Y = 0
  · have h : ¬ (W < 1 ∨ ¬ W ≤ 9) := fun g => hB2 ⟨q, g⟩
    rw [not_or] at h
    simp only [eThen, q, ↓reduceIte, not_true_eq_false, nw_ok h.1 (Classical.not_not.1 h.2)]
  · simp only [eThen, q, ↓reduceIte, not_false_eq_true]
theorem ct_stepC (hA : ¬ stA X Y Z) (hB : ¬ stB Y W) (ht : t < 3) (hX : X = Int32.ofNat t) (hr : ¬ (P.1 t < 4 ∧ gTo P < 6)) (h : RPC I P) : cP xE3 (f_X11_step 2 X Y Z W (I, J)) I J (3, 0, P) := by
  refine cP_th 2 3 ?_ (by decide) rfl h
  rw [st_need2 hA hB, hX]
  unfold f_X11_step_33
  simp only [eThen, eLt, Option.bind_some, ↓reduceIte, K_2, R_2_4, R_2_5, R_2_6, R_2_7, K_58, K_64, K_66, true_and, and_true, eB, decide_true, decide_false, Bool.or_true, Bool.true_or, not_true_eq_false, not_false_eq_true, cp_room ht h.1, hr]
theorem ct_stepD (hA : ¬ stA X Y Z) (hB : ¬ stB Y W) (ht : t < 3) (hw : w < 4) (hp : p < 3) (hv : w = 0 → 1 ≤ v ∧ v ≤ 9) (hX : X = Int32.ofNat t) (hY : Y = Int32.ofNat w) (hZ : (if ¬ Y = 2 then Z else 0) = Int32.ofNat p) (hW : (if ¬ Y = 0 then 0 else W) = Int32.ofNat v)
    (hr : P.1 t < 4 ∧ gTo P < 6) (h : RPC I P) : cP xE3 (f_X11_step 2 X Y Z W (I, J)) I J (0, Int32.ofNat (P.1 t + 1), gAp P t w p v) := by
  obtain ⟨I1, hI1⟩ : ∃ I1, I1 = eup (eup (eup (eup I 64 1 0) 64 2 0) 66 1 0) 66 2 0 := ⟨_, rfl⟩
  have hf : ∀ r, ¬ r = 64 → ¬ r = 66 → I1 r = I r := fun r h1 h2 => by rw [hI1, up_fr h2, up_fr h2, up_fr h1, up_fr h1]
  obtain ⟨I2, b1, b2, b3⟩ := cp_append (J := J) (v := v) ht hr.1 hr.2 hw hp hv (PgC_fr h.1 (I' := I1) (fun r h1 h2 => hf r (by omega) (by omega)))
  have e64 : I1 64 2 = 0 := by rw [hI1, up_r (by decide), up_r (by decide), up_eq]
  have e66 : I1 66 2 = 0 := by rw [hI1, up_eq]
  refine ⟨I2, ?_, ⟨b2, Or.inl (by rw [b3 64 (by decide)]; exact e64), Or.inl (by rw [b3 66 (by decide)]; exact e66)⟩, fun r hr' => by rw [b3 r (by omega), hf r (by omega) (by omega)]⟩
  rw [st_need2 hA hB]
  have f1 : f_X6_forget 64 (I, J) = some ((), (eup (eup I 64 1 0) 64 2 0, J)) := by
    unfold f_X6_forget
    simp only [eThen, eLt, Option.bind_some, ↓reduceIte, K_2, R_2_4, R_2_5, R_2_6, R_2_7, K_58, K_64, K_66, true_and, and_true, eB, decide_true, decide_false, Bool.or_true, Bool.true_or, not_true_eq_false, not_false_eq_true]
  have f2 : f_X6_forget 66 (eup (eup I 64 1 0) 64 2 0, J) = some ((), (I1, J)) := by
    unfold f_X6_forget
    simp only [eThen, eLt, Option.bind_some, ↓reduceIte, K_2, R_2_4, R_2_5, R_2_6, R_2_7, K_58, K_64, K_66, true_and, and_true, eB, decide_true, decide_false, Bool.or_true, Bool.true_or, not_true_eq_false, not_false_eq_true, hI1]
  have g1 : ∀ q : Int32, q = Int32.ofNat p → f_X11_step_84 Y W 58 (Int32.ofNat t) Y q (I1, J) = some (.inr (Int32.ofNat (P.1 t + 1)), (I2, J)) := by
    intro q hq
    have g2 : ∀ u : Int32, u = Int32.ofNat v → f_X11_step_94 58 (Int32.ofNat t) Y q u (I1, J) = some (.inr (Int32.ofNat (P.1 t + 1)), (I2, J)) := by
      intro u hu
      unfold f_X11_step_94
      simp only [eThen, eLt, Option.bind_some, ↓reduceIte, K_2, R_2_4, R_2_5, R_2_6, R_2_7, K_58, K_64, K_66, true_and, and_true, eB, decide_true, decide_false, Bool.or_true, Bool.true_or, not_true_eq_false, not_false_eq_true, hY, hq, hu, b1]
    unfold f_X11_step_84
    by_cases c : Y = 0
    · rw [if_neg (fun g => g c)] at hW
      rw [if_neg (fun g => g c)]
      exact g2 W hW
    · rw [if_pos c] at hW
      rw [if_pos c]
      exact g2 0 hW
  unfold f_X11_step_33
  simp only [eThen, eLt, Option.bind_some, ↓reduceIte, K_2, R_2_4, R_2_5, R_2_6, R_2_7, K_58, K_64, K_66, true_and, and_true, eB, decide_true, decide_false, Bool.or_true, Bool.true_or, not_true_eq_false, not_false_eq_true, hX, cp_room ht h.1, hr, and_self, show ¬ (1 : Int32) = 0 by decide, f1, f2]
  by_cases c : Y = 2
  · rw [if_neg (fun g => g c)] at hZ
    rw [if_neg (fun g => g c)]
    exact g1 0 hZ
  · rw [if_pos c] at hZ
    rw [if_pos c]
    exact g1 Z hZ
end EPS
