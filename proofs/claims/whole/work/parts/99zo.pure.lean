/-! the law, call by call -/
section EPW
variable {a : aS} {P : aP} {K n m k N j d : Nat} {I I' : Nat → Nat → Int32} {J J' : Nat → Nat → Int64} {t v X Y Z W x4 : Int32} {L M : eMem → Option (Int32 × eMem)} {σ : eMem} {f : Int32 → Int64} {l : List Nat} {xs : Nat → Int32} {rc : Int32 → eMem → Option (Int32 × eMem)}
theorem LInv_le (h : LInv K σ) (hk : K ≤ k) : LInv k σ := by
  obtain ⟨a, P, h1, h2, h3, h4, h5, h6⟩ := h
  exact ⟨a, P, h1, h2, h3, h4, h5, uU_le h6 hk⟩
theorem x_two2 (hb : ¬ (X < 0 ∨ ¬ X ≤ 1)) : ∃ m, m < 2 ∧ X = Int32.ofNat m := by
  rw [not_or] at hb
  exact i_in (b := 2) (by decide) hb.1 (i_le_lt (b := 1) (by decide) (Classical.not_not.1 hb.2))
theorem o_outcomes (h : LInv K (I, J)) : Okc iL (f_L_outcomes 2 X 161) (f_X12_outcomes 122 X) (I, J) K := by
  obtain ⟨a, P, hC, hR, hP, hQ, hI, hu⟩ := h
  by_cases hb : X < 0 ∨ ¬ X ≤ 1
  · exact okc_P w_outcomes xo1 (ct_outcomesN hb hP) (fun I' J' q => rp_outcomesN hb q) hQ hC hR hI hu
  · obtain ⟨m, hm, e⟩ := x_two2 hb
    subst e
    obtain ⟨l, hl, hc⟩ := ct_outcomes (J := J) hm hP
    exact okc_P w_outcomes (Or.inl rfl) hc (fun I' J' q => by
      obtain ⟨l', hl', hr⟩ := rp_outcomes (J := J') hm q
      rw [gLi_eq hl hl']
      exact hr) hQ hC hR hI hu
theorem o_anew (h : LInv K (I, J)) : Okc iL (f_L_outcomesAnew 2 X 161) (f_X12_outcomesAnew 122 X) (I, J) K := by
  obtain ⟨a, P, hC, hR, hP, hQ, hI, hu⟩ := h
  by_cases hb : X < 0 ∨ ¬ X ≤ 1
  · exact okc_P w_anew xo1 (ct_anewN hb hP) (fun I' J' q => rp_anewN hb q) hQ hC hR hI hu
  · obtain ⟨m, hm, e⟩ := x_two2 hb
    subst e
    obtain ⟨l, hl, hc⟩ := ct_anew (J := J) hm hP
    exact okc_P w_anew (Or.inl rfl) hc (fun I' J' q => by
      obtain ⟨l', hl', hr⟩ := rp_anew (J := J') hm q
      rw [gLi_eq hl hl']
      exact hr) hQ hC hR hI hu
theorem o_outcome (h : LInv K (I, J)) : Okc iL (f_L_outcome 2 X Y 161) (f_X12_outcome 122 X Y) (I, J) K := by
  obtain ⟨a, P, hC, hR, hP, hQ, hI, hu⟩ := h
  by_cases hb : X < 0 ∨ ¬ X ≤ 1
  · exact okc_P w_outcome (Or.inr (Or.inr (Or.inl ⟨rfl, by decide⟩))) (ct_outcomeN hb hP) (fun I' J' q => rp_outcomeN hb q) hQ hC hR hI hu
  · obtain ⟨m, hm, e⟩ := x_two2 hb
    subst e
    obtain ⟨l, hl, hc1, hc2⟩ := ct_outcome (J := J) (Y := Y) hm hP
    have h720 := gLi_len hP.1.1 hl.1 (fun k hk => (hl.2 k).1 hk)
    by_cases c : Y < 0 ∨ ¬ Y < Int32.ofNat l.length
    · exact okc_P w_outcome xo1 (hc1 c) (fun I' J' q => by
        obtain ⟨l', hl', hr1, hr2⟩ := rp_outcome (J := J') (Y := Y) hm q
        rw [gLi_eq hl hl'] at c
        exact hr1 c) hQ hC hR hI hu
    · rw [not_or] at c
      obtain ⟨k, hk, e⟩ := i_in (x := Y) (b := l.length) (by omega) c.1 (Classical.not_not.1 c.2)
      exact okc_P w_outcome (Or.inl rfl) (hc2 k hk e) (fun I' J' q => by
        obtain ⟨l', hl', hr1, hr2⟩ := rp_outcome (J := J') (Y := Y) hm q
        have el := gLi_eq hl hl'
        subst el
        exact hr2 k hk e) hQ hC hR hI hu
theorem o_step (h : LInv K (I, J)) : Okc iL (f_L_step 2 X Y Z W 161) (f_X12_step 122 X Y Z W) (I, J) K := by
  obtain ⟨a, P, hC, hR, hP, hQ, hI, hu⟩ := h
  by_cases hA : stA X Y Z
  · exact okc_P w_step xo1 (ct_stepA hA hP) (fun I' J' q => rp_stepA hA q) hQ hC hR hI hu
  · by_cases hB : stB Y W
    · exact okc_P w_step (xo3 (Or.inr (Or.inr (Or.inl rfl)))) (ct_stepB hA hB hP) (fun I' J' q => rp_stepB hA hB q) hQ hC hR hI hu
    · obtain ⟨t, w, p, v, ht, hw, hp, hv, eX, eY, eZ, eW, eW2⟩ := st_ok hA hB
      by_cases hr : P.1 t < 4 ∧ gTo P < 6
      · exact okc_P w_step (Or.inl rfl) (ct_stepD hA hB ht hw hp hv eX eY eZ eW hr hP) (fun I' J' q => rp_stepD hA hB ht hw hp hv eX eY eZ eW2 hr q) hQ hC hR hI hu
      · exact okc_P w_step (xo3 (Or.inr (Or.inr (Or.inr rfl)))) (ct_stepC hA hB ht eX hr hP) (fun I' J' q => rp_stepC hA hB ht eX hr q) hQ hC hR hI hu
/-- one comparison of the law -/
theorem lw_i (h : Okc iL L M σ K) (R : eMem → Option (Int32 × eMem)) : ∃ σ', LInv (K + 400) σ' ∧ Option.bind (L σ) (fun r1 => if (KH 122).1 = 10 then Option.bind (M r1.2) (fun r2 => if (KH 122).1 = 10 then Option.bind (f_X12_thrown 122 r2.2) (fun r3 => if r3.1 = r1.1 then if ¬ r1.1 = (0 : Int32) then R r3.2 else if (KH 161).1 = 12 ∧ eix (0 : Int32) (KH 161).2 = true then if (lg_cmp (r3.2.2 161 (0 : Int32).toNatClampNeg) r2.1.toInt64) = (0 : Int32) then R r3.2 else if eB (0 : Int32) = true then some ((0 : Int32), r3.2) else none else none else if eB (0 : Int32) = true then some ((0 : Int32), r3.2) else none) else none) else none) = R σ' := by
  obtain ⟨k, b, σ1, σ2, h1, h2, h3, h4, h5⟩ := h
  have k10 : (KH 122).1 = 10 := rfl
  have ht : f_X12_thrown 122 σ2 = some (σ2.1 122 32, σ2) := by
    unfold f_X12_thrown
    rw [if_pos k10]
  refine ⟨σ2, h5, ?_⟩
  rw [h1, Option.bind_some]
  dsimp only
  rw [if_pos k10, h2, Option.bind_some]
  dsimp only
  rw [if_pos k10, ht, Option.bind_some]
  dsimp only
  rw [if_pos h3]
  by_cases c : k = 0
  · have k161 : (KH 161).1 = 12 ∧ eix (0 : Int32) (KH 161).2 = true := ⟨rfl, rfl⟩
    rw [if_neg (fun g => g c), if_pos k161, if_pos (show lg_cmp (σ2.2 161 (0 : Int32).toNatClampNeg) b.toInt64 = 0 from (lg_cmp_eq _ _).2 (h4 c))]
  · rw [if_pos c]
theorem lw_b (h : Okc bL L M σ K) (R : eMem → Option (Int32 × eMem)) : ∃ σ', LInv (K + 400) σ' ∧ Option.bind (L σ) (fun r1 => if (KH 122).1 = 10 then Option.bind (M r1.2) (fun r2 => if (KH 122).1 = 10 then Option.bind (f_X12_thrown 122 r2.2) (fun r3 => if r3.1 = r1.1 then if ¬ r1.1 = (0 : Int32) then R r3.2 else if (KH 161).1 = 12 ∧ eix (0 : Int32) (KH 161).2 = true then if r2.1 = (0 : Int32) then if (lg_cmp (r3.2.2 161 (0 : Int32).toNatClampNeg) (0 : Int64)) = (0 : Int32) then R r3.2 else if eB (0 : Int32) = true then some ((0 : Int32), r3.2) else none else if (lg_cmp (r3.2.2 161 (0 : Int32).toNatClampNeg) (1 : Int64)) = (0 : Int32) then R r3.2 else if eB (0 : Int32) = true then some ((0 : Int32), r3.2) else none else none else if eB (0 : Int32) = true then some ((0 : Int32), r3.2) else none) else none) else none) = R σ' := by
  obtain ⟨k, b, σ1, σ2, h1, h2, h3, h4, h5⟩ := h
  have k10 : (KH 122).1 = 10 := rfl
  have ht : f_X12_thrown 122 σ2 = some (σ2.1 122 32, σ2) := by
    unfold f_X12_thrown
    rw [if_pos k10]
  refine ⟨σ2, h5, ?_⟩
  rw [h1, Option.bind_some]
  dsimp only
  rw [if_pos k10, h2, Option.bind_some]
  dsimp only
  rw [if_pos k10, ht, Option.bind_some]
  dsimp only
  rw [if_pos h3]
  by_cases c : k = 0
  · have k161 : (KH 161).1 = 12 ∧ eix (0 : Int32) (KH 161).2 = true := ⟨rfl, rfl⟩
    have h4' := h4 c
    unfold bL at h4'
    rw [if_neg (fun g => g c), if_pos k161]
    by_cases c2 : b = 0
    · rw [if_pos c2] at h4'
      rw [if_pos c2, if_pos (show lg_cmp (σ2.2 161 (0 : Int32).toNatClampNeg) 0 = 0 from (lg_cmp_eq _ _).2 h4')]
    · rw [if_neg c2] at h4'
      rw [if_neg c2, if_pos (show lg_cmp (σ2.2 161 (0 : Int32).toNatClampNeg) 1 = 0 from (lg_cmp_eq _ _).2 h4')]
  · rw [if_pos c]
theorem c_0 (h : LInv K σ) (hK : K < 1000000000) (i1 : eix (x4 + 1) N = true) (i2 : eix (x4 + 2) N = true) : ∃ σ', LInv (K + 400) σ' ∧ f_law_0 N xs rc x4 σ = rc (x4 + 5) σ' := by
  obtain ⟨I, J⟩ := σ
  have hO : Okc iL (f_L_load 2 (xs (x4 + 1).toNatClampNeg) (xs (x4 + 2).toNatClampNeg) 161) (f_X12_load 122 (xs (x4 + 1).toNatClampNeg) (xs (x4 + 2).toNatClampNeg)) (I, J) K := by
    obtain ⟨a, P, hC, hR, hP, hQ, hI, hu⟩ := h
    exact okc_B w_load (bt_load hI hu hK) hP hQ hC hR
  unfold f_law_0
  simp only [i1, i2, ↓reduceIte]
  exact lw_i hO (rc (x4 + 5))
theorem c_1 (h : LInv K σ) (hK : K < 1000000000) (i1 : eix (x4 + 1) N = true) (i2 : eix (x4 + 2) N = true) (i3 : eix (x4 + 3) N = true) : ∃ σ', LInv (K + 400) σ' ∧ f_law_1 N xs rc x4 σ = rc (x4 + 5) σ' := by
  obtain ⟨I, J⟩ := σ
  have hO : Okc iL (f_L_store 2 (xs (x4 + 1).toNatClampNeg) (xs (x4 + 2).toNatClampNeg) (xs (x4 + 3).toNatClampNeg) 161) (f_X12_store 122 (xs (x4 + 1).toNatClampNeg) (xs (x4 + 2).toNatClampNeg) (xs (x4 + 3).toNatClampNeg)) (I, J) K := by
    obtain ⟨a, P, hC, hR, hP, hQ, hI, hu⟩ := h
    exact okc_B w_store (bt_store hI hu hK) hP hQ hC hR
  unfold f_law_1
  simp only [i1, i2, i3, ↓reduceIte]
  exact lw_i hO (rc (x4 + 5))
theorem c_2 (h : LInv K σ) (hK : K < 1000000000) (i1 : eix (x4 + 1) N = true) : ∃ σ', LInv (K + 400) σ' ∧ f_law_2 N xs rc x4 σ = rc (x4 + 5) σ' := by
  obtain ⟨I, J⟩ := σ
  have hO : Okc bL (f_L_drain 2 (xs (x4 + 1).toNatClampNeg) 161) (f_X12_drain 122 (xs (x4 + 1).toNatClampNeg)) (I, J) K := by
    obtain ⟨a, P, hC, hR, hP, hQ, hI, hu⟩ := h
    exact okc_B w_drain (bt_drain hI hu hK) hP hQ hC hR
  unfold f_law_2
  simp only [i1, ↓reduceIte]
  exact lw_b hO (rc (x4 + 5))
theorem c_3 (h : LInv K σ) (hK : K < 1000000000) (i1 : eix (x4 + 1) N = true) : ∃ σ', LInv (K + 400) σ' ∧ f_law_3 N xs rc x4 σ = rc (x4 + 5) σ' := by
  obtain ⟨I, J⟩ := σ
  have hO : Okc bL (f_L_fence 2 (xs (x4 + 1).toNatClampNeg) 161) (f_X12_fence 122 (xs (x4 + 1).toNatClampNeg)) (I, J) K := by
    obtain ⟨a, P, hC, hR, hP, hQ, hI, hu⟩ := h
    exact okc_B w_fence (bt_fence hI hu) hP hQ hC hR
  unfold f_law_3
  simp only [i1, ↓reduceIte]
  exact lw_b hO (rc (x4 + 5))
theorem c_4 (h : LInv K σ) (hK : K < 1000000000) (i1 : eix (x4 + 1) N = true) (i2 : eix (x4 + 2) N = true) (i3 : eix (x4 + 3) N = true) : ∃ σ', LInv (K + 400) σ' ∧ f_law_4 N xs rc x4 σ = rc (x4 + 5) σ' := by
  obtain ⟨I, J⟩ := σ
  have hO : Okc iL (f_L_add 2 (xs (x4 + 1).toNatClampNeg) (xs (x4 + 2).toNatClampNeg) (xs (x4 + 3).toNatClampNeg) 161) (f_X12_add 122 (xs (x4 + 1).toNatClampNeg) (xs (x4 + 2).toNatClampNeg) (xs (x4 + 3).toNatClampNeg)) (I, J) K := by
    obtain ⟨a, P, hC, hR, hP, hQ, hI, hu⟩ := h
    exact okc_B w_add (bt_addc hI hu hK) hP hQ hC hR
  unfold f_law_4
  simp only [i1, i2, i3, ↓reduceIte]
  exact lw_i hO (rc (x4 + 5))
theorem c_5 (h : LInv K σ) (hK : K < 1000000000) (i1 : eix (x4 + 1) N = true) : ∃ σ', LInv (K + 400) σ' ∧ f_law_5 N xs rc x4 σ = rc (x4 + 5) σ' := by
  obtain ⟨I, J⟩ := σ
  have hO : Okc iL (f_L_begin 2 (xs (x4 + 1).toNatClampNeg) 161) (f_X12_begin 122 (xs (x4 + 1).toNatClampNeg)) (I, J) K := by
    obtain ⟨a, P, hC, hR, hP, hQ, hI, hu⟩ := h
    exact okc_B w_begin (bt_begin hI hu) hP hQ hC hR
  unfold f_law_5
  simp only [i1, ↓reduceIte]
  exact lw_i hO (rc (x4 + 5))
theorem c_6 (h : LInv K σ) (hK : K < 1000000000) (i1 : eix (x4 + 1) N = true) : ∃ σ', LInv (K + 400) σ' ∧ f_law_6 N xs rc x4 σ = rc (x4 + 5) σ' := by
  obtain ⟨I, J⟩ := σ
  have hO : Okc iL (f_L_end 2 (xs (x4 + 1).toNatClampNeg) 161) (f_X12_end 122 (xs (x4 + 1).toNatClampNeg)) (I, J) K := by
    obtain ⟨a, P, hC, hR, hP, hQ, hI, hu⟩ := h
    exact okc_B w_end (bt_end hI hu hK) hP hQ hC hR
  unfold f_law_6
  simp only [i1, ↓reduceIte]
  exact lw_i hO (rc (x4 + 5))
theorem c_7 (h : LInv K σ) (hK : K < 1000000000) (i1 : eix (x4 + 1) N = true) (i2 : eix (x4 + 2) N = true) : ∃ σ', LInv (K + 400) σ' ∧ f_law_7 N xs rc x4 σ = rc (x4 + 5) σ' := by
  obtain ⟨I, J⟩ := σ
  have hO : Okc iL (f_L_deliver 2 (xs (x4 + 1).toNatClampNeg) (xs (x4 + 2).toNatClampNeg) 161) (f_X12_deliver 122 (xs (x4 + 1).toNatClampNeg) (xs (x4 + 2).toNatClampNeg)) (I, J) K := by
    obtain ⟨a, P, hC, hR, hP, hQ, hI, hu⟩ := h
    exact okc_B w_deliver (bt_deliver hI hu hK) hP hQ hC hR
  unfold f_law_7
  simp only [i1, i2, ↓reduceIte]
  exact lw_i hO (rc (x4 + 5))
theorem c_8 (h : LInv K σ) (hK : K < 1000000000) (i1 : eix (x4 + 1) N = true) : ∃ σ', LInv (K + 400) σ' ∧ f_law_8 N xs rc x4 σ = rc (x4 + 5) σ' := by
  obtain ⟨I, J⟩ := σ
  have hO : Okc iL (f_L_pump 2 (xs (x4 + 1).toNatClampNeg) 161) (f_X12_pump 122 (xs (x4 + 1).toNatClampNeg)) (I, J) K := by
    obtain ⟨a, P, hC, hR, hP, hQ, hI, hu⟩ := h
    exact okc_B w_pump (bt_pump hI hu hK) hP hQ hC hR
  unfold f_law_8
  simp only [i1, ↓reduceIte]
  exact lw_i hO (rc (x4 + 5))
theorem c_9 (h : LInv K σ) (hK : K < 1000000000) (i1 : eix (x4 + 1) N = true) (i2 : eix (x4 + 2) N = true) : ∃ σ', LInv (K + 400) σ' ∧ f_law_9 N xs rc x4 σ = rc (x4 + 5) σ' := by
  obtain ⟨I, J⟩ := σ
  have hO : Okc iL (f_L_queued 2 (xs (x4 + 1).toNatClampNeg) (xs (x4 + 2).toNatClampNeg) 161) (f_X12_queued 122 (xs (x4 + 1).toNatClampNeg) (xs (x4 + 2).toNatClampNeg)) (I, J) K := by
    obtain ⟨a, P, hC, hR, hP, hQ, hI, hu⟩ := h
    exact okc_B w_queued (bt_queued hI hu) hP hQ hC hR
  unfold f_law_9
  simp only [i1, i2, ↓reduceIte]
  exact lw_i hO (rc (x4 + 5))
theorem c_10 (h : LInv K σ) (hK : K < 1000000000) (i1 : eix (x4 + 1) N = true) (i2 : eix (x4 + 2) N = true) : ∃ σ', LInv (K + 400) σ' ∧ f_law_10 N xs rc x4 σ = rc (x4 + 5) σ' := by
  obtain ⟨I, J⟩ := σ
  have hO : Okc iL (f_L_stateOf 2 (xs (x4 + 1).toNatClampNeg) (xs (x4 + 2).toNatClampNeg) 161) (f_X12_stateOf 122 (xs (x4 + 1).toNatClampNeg) (xs (x4 + 2).toNatClampNeg)) (I, J) K := by
    obtain ⟨a, P, hC, hR, hP, hQ, hI, hu⟩ := h
    exact okc_B w_stateOf (bt_stateOf hI hu) hP hQ hC hR
  unfold f_law_10
  simp only [i1, i2, ↓reduceIte]
  exact lw_i hO (rc (x4 + 5))
theorem c_11 (h : LInv K σ) (hK : K < 1000000000) (i1 : eix (x4 + 1) N = true) (i2 : eix (x4 + 2) N = true) : ∃ σ', LInv (K + 400) σ' ∧ f_law_11 N xs rc x4 σ = rc (x4 + 5) σ' := by
  obtain ⟨I, J⟩ := σ
  have hO : Okc iL (f_L_valueIn 2 (xs (x4 + 1).toNatClampNeg) (xs (x4 + 2).toNatClampNeg) 161) (f_X12_valueIn 122 (xs (x4 + 1).toNatClampNeg) (xs (x4 + 2).toNatClampNeg)) (I, J) K := by
    obtain ⟨a, P, hC, hR, hP, hQ, hI, hu⟩ := h
    exact okc_B w_valueIn (bt_valueIn hI hu) hP hQ hC hR
  unfold f_law_11
  simp only [i1, i2, ↓reduceIte]
  exact lw_i hO (rc (x4 + 5))
theorem c_12 (h : LInv K σ) (hK : K < 1000000000) (i1 : eix (x4 + 1) N = true) : ∃ σ', LInv (K + 400) σ' ∧ f_law_12 N xs rc x4 σ = rc (x4 + 5) σ' := by
  obtain ⟨I, J⟩ := σ
  have hO : Okc iL (f_L_home 2 (xs (x4 + 1).toNatClampNeg) 161) (f_X12_home 122 (xs (x4 + 1).toNatClampNeg)) (I, J) K := by
    obtain ⟨a, P, hC, hR, hP, hQ, hI, hu⟩ := h
    exact okc_B w_home (bt_home hI hu) hP hQ hC hR
  unfold f_law_12
  simp only [i1, ↓reduceIte]
  exact lw_i hO (rc (x4 + 5))
theorem c_13 (h : LInv K σ) (hK : K < 1000000000) (i1 : eix (x4 + 1) N = true) : ∃ σ', LInv (K + 400) σ' ∧ f_law_13 N xs rc x4 σ = rc (x4 + 5) σ' := by
  obtain ⟨I, J⟩ := σ
  have hO : Okc iL (f_L_owner 2 (xs (x4 + 1).toNatClampNeg) 161) (f_X12_owner 122 (xs (x4 + 1).toNatClampNeg)) (I, J) K := by
    obtain ⟨a, P, hC, hR, hP, hQ, hI, hu⟩ := h
    exact okc_B w_owner (bt_owner hI hu) hP hQ hC hR
  unfold f_law_13
  simp only [i1, ↓reduceIte]
  exact lw_i hO (rc (x4 + 5))
theorem c_14 (h : LInv K σ) (hK : K < 1000000000) (i1 : eix (x4 + 1) N = true) : ∃ σ', LInv (K + 400) σ' ∧ f_law_14 N xs rc x4 σ = rc (x4 + 5) σ' := by
  obtain ⟨I, J⟩ := σ
  have hO : Okc iL (f_L_sharers 2 (xs (x4 + 1).toNatClampNeg) 161) (f_X12_sharers 122 (xs (x4 + 1).toNatClampNeg)) (I, J) K := by
    obtain ⟨a, P, hC, hR, hP, hQ, hI, hu⟩ := h
    exact okc_B w_sharers (bt_sharers hI hu) hP hQ hC hR
  unfold f_law_14
  simp only [i1, ↓reduceIte]
  exact lw_i hO (rc (x4 + 5))
theorem c_15 (h : LInv K σ) (hK : K < 1000000000) (i1 : eix (x4 + 1) N = true) : ∃ σ', LInv (K + 400) σ' ∧ f_law_15 N xs rc x4 σ = rc (x4 + 5) σ' := by
  obtain ⟨I, J⟩ := σ
  have hO : Okc iL (f_L_waiting 2 (xs (x4 + 1).toNatClampNeg) 161) (f_X12_waiting 122 (xs (x4 + 1).toNatClampNeg)) (I, J) K := by
    obtain ⟨a, P, hC, hR, hP, hQ, hI, hu⟩ := h
    exact okc_B w_waiting (bt_waiting hI hu) hP hQ hC hR
  unfold f_law_15
  simp only [i1, ↓reduceIte]
  exact lw_i hO (rc (x4 + 5))
theorem c_16 (h : LInv K σ) (hK : K < 1000000000) (i1 : eix (x4 + 1) N = true) : ∃ σ', LInv (K + 400) σ' ∧ f_law_16 N xs rc x4 σ = rc (x4 + 5) σ' := by
  obtain ⟨I, J⟩ := σ
  have hO : Okc iL (f_L_truth 2 (xs (x4 + 1).toNatClampNeg) 161) (f_X12_truth 122 (xs (x4 + 1).toNatClampNeg)) (I, J) K := by
    obtain ⟨a, P, hC, hR, hP, hQ, hI, hu⟩ := h
    exact okc_B w_truth (bt_truth hI hu) hP hQ hC hR
  unfold f_law_16
  simp only [i1, ↓reduceIte]
  exact lw_i hO (rc (x4 + 5))
theorem c_18 (h : LInv K σ) (hK : K < 1000000000) (i1 : eix (x4 + 1) N = true) : ∃ σ', LInv (K + 400) σ' ∧ f_law_18 N xs rc x4 σ = rc (x4 + 5) σ' := by
  obtain ⟨I, J⟩ := σ
  have hO : Okc iL (f_L_counter 2 (xs (x4 + 1).toNatClampNeg) 161) (f_X12_counter 122 (xs (x4 + 1).toNatClampNeg)) (I, J) K := by
    obtain ⟨a, P, hC, hR, hP, hQ, hI, hu⟩ := h
    exact okc_B w_counter (bt_counter hI hu) hP hQ hC hR
  unfold f_law_18
  simp only [i1, ↓reduceIte]
  exact lw_i hO (rc (x4 + 5))
theorem c_20 (h : LInv K σ) (hK : K < 1000000000) (i1 : eix (x4 + 1) N = true) (i2 : eix (x4 + 2) N = true) (i3 : eix (x4 + 3) N = true) (i4 : eix (x4 + 4) N = true) : ∃ σ', LInv (K + 400) σ' ∧ f_law_20 N xs rc x4 σ = rc (x4 + 5) σ' := by
  obtain ⟨I, J⟩ := σ
  have hO : Okc iL (f_L_step 2 (xs (x4 + 1).toNatClampNeg) (xs (x4 + 2).toNatClampNeg) (xs (x4 + 3).toNatClampNeg) (xs (x4 + 4).toNatClampNeg) 161) (f_X12_step 122 (xs (x4 + 1).toNatClampNeg) (xs (x4 + 2).toNatClampNeg) (xs (x4 + 3).toNatClampNeg) (xs (x4 + 4).toNatClampNeg)) (I, J) K := o_step h
  unfold f_law_20
  simp only [i1, i2, i3, i4, ↓reduceIte]
  exact lw_i hO (rc (x4 + 5))
theorem c_21 (h : LInv K σ) (hK : K < 1000000000) (i1 : eix (x4 + 1) N = true) : ∃ σ', LInv (K + 400) σ' ∧ f_law_21 N xs rc x4 σ = rc (x4 + 5) σ' := by
  obtain ⟨I, J⟩ := σ
  have hO : Okc iL (f_L_outcomes 2 (xs (x4 + 1).toNatClampNeg) 161) (f_X12_outcomes 122 (xs (x4 + 1).toNatClampNeg)) (I, J) K := o_outcomes h
  unfold f_law_21
  simp only [i1, ↓reduceIte]
  exact lw_i hO (rc (x4 + 5))
theorem c_22 (h : LInv K σ) (hK : K < 1000000000) (i1 : eix (x4 + 1) N = true) (i2 : eix (x4 + 2) N = true) : ∃ σ', LInv (K + 400) σ' ∧ f_law_22 N xs rc x4 σ = rc (x4 + 5) σ' := by
  obtain ⟨I, J⟩ := σ
  have hO : Okc iL (f_L_outcome 2 (xs (x4 + 1).toNatClampNeg) (xs (x4 + 2).toNatClampNeg) 161) (f_X12_outcome 122 (xs (x4 + 1).toNatClampNeg) (xs (x4 + 2).toNatClampNeg)) (I, J) K := o_outcome h
  unfold f_law_22
  simp only [i1, i2, ↓reduceIte]
  exact lw_i hO (rc (x4 + 5))
theorem c_23 (h : LInv K σ) (hK : K < 1000000000) (i1 : eix (x4 + 1) N = true) : ∃ σ', LInv (K + 400) σ' ∧ f_law_23 N xs rc x4 σ = rc (x4 + 5) σ' := by
  obtain ⟨I, J⟩ := σ
  have hO : Okc iL (f_L_outcomesAnew 2 (xs (x4 + 1).toNatClampNeg) 161) (f_X12_outcomesAnew 122 (xs (x4 + 1).toNatClampNeg)) (I, J) K := o_anew h
  unfold f_law_23
  simp only [i1, ↓reduceIte]
  exact lw_i hO (rc (x4 + 5))
theorem c_17 (h : LInv K σ) : ∃ σ', LInv (K + 400) σ' ∧ f_law_17 N xs rc x4 σ = rc (x4 + 5) σ' := by
  obtain ⟨I, J⟩ := σ
  obtain ⟨a, P, hC, hR, hP, hQ, hI, hu⟩ := h
  have k9 : (KH 2).1 = 9 := rfl
  have k10 : (KH 122).1 = 10 := rfl
  obtain ⟨h1, h2⟩ := b_coh hI
  obtain ⟨v, hv⟩ : ∃ v, v = bI (aCoh a) := ⟨_, rfl⟩
  rw [← hv] at h1 h2
  obtain ⟨I2, g1, g2, g3, g4, g5⟩ := h2 I J hR
  have g1 : f_X12_isCoherent 122 (I, J) = some (v, (I2, J)) := g1
  refine ⟨(I2, J), ⟨a, P, RepC_fr hC (fun r hr => g3 r (Or.inl hr)), g2, RPC_fr hP (fun r h1 h2 => g3 r (by omega)), PgR_fr hQ (fun r h1 h2 => g3 r (by omega)), hI, uU_le hu (by omega)⟩, ?_⟩
  unfold f_law_17
  rw [if_pos k9, h1 I J hC, Option.bind_some]
  dsimp only
  rw [if_pos k10]
  rw [g1]
  rw [Option.bind_some]
  dsimp only
  rw [if_pos rfl]
theorem c_19 (h : LInv K σ) : ∃ σ', LInv (K + 400) σ' ∧ f_law_19 N xs rc x4 σ = rc (x4 + 5) σ' := by
  obtain ⟨I, J⟩ := σ
  obtain ⟨a, P, hC, hR, hP, hQ, hI, hu⟩ := h
  have k9 : (KH 2).1 = 9 := rfl
  have k10 : (KH 122).1 = 10 := rfl
  obtain ⟨I1, h1, h2, h3⟩ := cp_clear (J := J) hP
  obtain ⟨I2, J2, g1, g2, g3, g4, g5, g6⟩ := rp_clear (J := J) (PgR_fr (I' := I1) hQ (fun r a b => h3 r (by omega)))
  refine ⟨(I2, J2), ⟨a, gP0 P, RepC_fr3 hC (fun r hr => (g4 r (by omega) (by omega)).trans (h3 r (by omega))), RepR_fr2 hR (fun r a b => (g4 r (by omega) (by omega)).trans (h3 r (by omega))) ((g5 18 (by decide) (by decide) (by decide) (by decide)).trans (by rw [h3 122 (by decide)])), RPC_fr h2 (fun r a b => g4 r (by omega) (by omega)), g2, hI, uU_le hu (by omega)⟩, ?_⟩
  unfold f_law_19
  rw [if_pos k9, h1, Option.bind_some]
  dsimp only
  rw [if_pos k10]
  rw [g1]
  rw [Option.bind_some]
  dsimp only
  rw [if_pos rfl]
theorem c_24 (h : LInv K σ) : ∃ σ', LInv (K + 400) σ' ∧ f_law_24 N xs rc x4 σ = rc (x4 + 5) σ' := by
  obtain ⟨I, J⟩ := σ
  obtain ⟨a, P, hC, hR, hP, hQ, hI, hu⟩ := h
  have k9 : (KH 2).1 = 9 := rfl
  have k10 : (KH 122).1 = 10 := rfl
  obtain ⟨I1, l0, l1, m0, m1, h1, h2, h3⟩ := ct_alike (J := J) hP
  obtain ⟨l0', l1', n0, n1, I2, J2, g1, g2, g3, g4, g5, g6⟩ := rp_alike (J := J) (PgR_fr (I' := I1) hQ (fun r a b => h3 r (by omega)))
  rw [← gLi_eq m0 n0, ← gLi_eq m1 n1] at g1
  refine ⟨(I2, J2), ⟨a, P, RepC_fr3 hC (fun r hr => (g4 r (by omega) (by omega)).trans (h3 r (by omega))), RepR_fr2 hR (fun r a b => (g4 r (by omega) (by omega)).trans (h3 r (by omega))) ((g5 18 (by decide) (by decide) (by decide) (by decide)).trans (by rw [h3 122 (by decide)])), RPC_fr h2 (fun r a b => g4 r (by omega) (by omega)), g2, hI, uU_le hu (by omega)⟩, ?_⟩
  unfold f_law_24
  rw [if_pos k9, h1, Option.bind_some]
  dsimp only
  rw [if_pos k10]
  rw [g1]
  rw [Option.bind_some]
  dsimp only
  rw [if_pos rfl]
theorem law_ix (hN : N ≤ 2560) (h : 5 * (j + 1) ≤ N) (k : Nat) (hk : k < 5) : eix (Int32.ofNat (5 * j) + Int32.ofNat k) N = true := by
  rw [i_ad]
  exact i_ix (by omega) (by omega)
theorem law_step (hN : N ≤ 2560) (hj : 5 * (j + 1) ≤ N) (h : LInv K σ) (hK : K < 1000000000) : ∃ σ', LInv (K + 400) σ' ∧ f_law N xs (n + 1) (Int32.ofNat (5 * j)) σ = f_law N xs n (Int32.ofNat (5 * (j + 1))) σ' := by
  have i0 : eix (Int32.ofNat (5 * j)) N = true := i_ix (by omega) (by omega)
  have i1 : eix (Int32.ofNat (5 * j) + 1) N = true := law_ix hN hj 1 (by decide)
  have i2 : eix (Int32.ofNat (5 * j) + 2) N = true := law_ix hN hj 2 (by decide)
  have i3 : eix (Int32.ofNat (5 * j) + 3) N = true := law_ix hN hj 3 (by decide)
  have i4 : eix (Int32.ofNat (5 * j) + 4) N = true := law_ix hN hj 4 (by decide)
  have e5 : Int32.ofNat N - 5 = Int32.ofNat (N - 5) := i_sb (m := 5) (by omega)
  have hlt : ¬ Int32.ofNat N - 5 < Int32.ofNat (5 * j) := by
    rw [e5, i_lt (by omega) (by omega)]
    omega
  have en : Int32.ofNat (5 * (j + 1)) = Int32.ofNat (5 * j) + 5 := (i_ad (n := 5 * j) (m := 5)).symm
  have key : ∃ σ', LInv (K + 400) σ' ∧ f_law N xs (n + 1) (Int32.ofNat (5 * j)) σ = f_law N xs n (Int32.ofNat (5 * j) + 5) σ' := by
    generalize hrc : f_law N xs n = rc
    rw [f_law, if_neg hlt, if_pos i0, hrc]
    by_cases q0 : ((xs (Int32.ofNat (5 * j)).toNatClampNeg) &&& (31 : Int32)) = (0 : Int32)
    · rw [if_pos q0]
      exact c_0 h hK i1 i2
    rw [if_neg q0]
    by_cases q1 : ((xs (Int32.ofNat (5 * j)).toNatClampNeg) &&& (31 : Int32)) = (1 : Int32)
    · rw [if_pos q1]
      exact c_1 h hK i1 i2 i3
    rw [if_neg q1]
    by_cases q2 : ((xs (Int32.ofNat (5 * j)).toNatClampNeg) &&& (31 : Int32)) = (2 : Int32)
    · rw [if_pos q2]
      exact c_2 h hK i1
    rw [if_neg q2]
    by_cases q3 : ((xs (Int32.ofNat (5 * j)).toNatClampNeg) &&& (31 : Int32)) = (3 : Int32)
    · rw [if_pos q3]
      exact c_3 h hK i1
    rw [if_neg q3]
    by_cases q4 : ((xs (Int32.ofNat (5 * j)).toNatClampNeg) &&& (31 : Int32)) = (4 : Int32)
    · rw [if_pos q4]
      exact c_4 h hK i1 i2 i3
    rw [if_neg q4]
    by_cases q5 : ((xs (Int32.ofNat (5 * j)).toNatClampNeg) &&& (31 : Int32)) = (5 : Int32)
    · rw [if_pos q5]
      exact c_5 h hK i1
    rw [if_neg q5]
    by_cases q6 : ((xs (Int32.ofNat (5 * j)).toNatClampNeg) &&& (31 : Int32)) = (6 : Int32)
    · rw [if_pos q6]
      exact c_6 h hK i1
    rw [if_neg q6]
    by_cases q7 : ((xs (Int32.ofNat (5 * j)).toNatClampNeg) &&& (31 : Int32)) = (7 : Int32)
    · rw [if_pos q7]
      exact c_7 h hK i1 i2
    rw [if_neg q7]
    by_cases q8 : ((xs (Int32.ofNat (5 * j)).toNatClampNeg) &&& (31 : Int32)) = (8 : Int32)
    · rw [if_pos q8]
      exact c_8 h hK i1
    rw [if_neg q8]
    by_cases q9 : ((xs (Int32.ofNat (5 * j)).toNatClampNeg) &&& (31 : Int32)) = (9 : Int32)
    · rw [if_pos q9]
      exact c_9 h hK i1 i2
    rw [if_neg q9]
    by_cases q10 : ((xs (Int32.ofNat (5 * j)).toNatClampNeg) &&& (31 : Int32)) = (10 : Int32)
    · rw [if_pos q10]
      exact c_10 h hK i1 i2
    rw [if_neg q10]
    by_cases q11 : ((xs (Int32.ofNat (5 * j)).toNatClampNeg) &&& (31 : Int32)) = (11 : Int32)
    · rw [if_pos q11]
      exact c_11 h hK i1 i2
    rw [if_neg q11]
    by_cases q12 : ((xs (Int32.ofNat (5 * j)).toNatClampNeg) &&& (31 : Int32)) = (12 : Int32)
    · rw [if_pos q12]
      exact c_12 h hK i1
    rw [if_neg q12]
    by_cases q13 : ((xs (Int32.ofNat (5 * j)).toNatClampNeg) &&& (31 : Int32)) = (13 : Int32)
    · rw [if_pos q13]
      exact c_13 h hK i1
    rw [if_neg q13]
    by_cases q14 : ((xs (Int32.ofNat (5 * j)).toNatClampNeg) &&& (31 : Int32)) = (14 : Int32)
    · rw [if_pos q14]
      exact c_14 h hK i1
    rw [if_neg q14]
    by_cases q15 : ((xs (Int32.ofNat (5 * j)).toNatClampNeg) &&& (31 : Int32)) = (15 : Int32)
    · rw [if_pos q15]
      exact c_15 h hK i1
    rw [if_neg q15]
    by_cases q16 : ((xs (Int32.ofNat (5 * j)).toNatClampNeg) &&& (31 : Int32)) = (16 : Int32)
    · rw [if_pos q16]
      exact c_16 h hK i1
    rw [if_neg q16]
    by_cases q17 : ((xs (Int32.ofNat (5 * j)).toNatClampNeg) &&& (31 : Int32)) = (17 : Int32)
    · rw [if_pos q17]
      exact c_17 h
    rw [if_neg q17]
    by_cases q18 : ((xs (Int32.ofNat (5 * j)).toNatClampNeg) &&& (31 : Int32)) = (18 : Int32)
    · rw [if_pos q18]
      exact c_18 h hK i1
    rw [if_neg q18]
    by_cases q19 : ((xs (Int32.ofNat (5 * j)).toNatClampNeg) &&& (31 : Int32)) = (19 : Int32)
    · rw [if_pos q19]
      exact c_19 h
    rw [if_neg q19]
    by_cases q20 : ((xs (Int32.ofNat (5 * j)).toNatClampNeg) &&& (31 : Int32)) = (20 : Int32)
    · rw [if_pos q20]
      exact c_20 h hK i1 i2 i3 i4
    rw [if_neg q20]
    by_cases q21 : ((xs (Int32.ofNat (5 * j)).toNatClampNeg) &&& (31 : Int32)) = (21 : Int32)
    · rw [if_pos q21]
      exact c_21 h hK i1
    rw [if_neg q21]
    by_cases q22 : ((xs (Int32.ofNat (5 * j)).toNatClampNeg) &&& (31 : Int32)) = (22 : Int32)
    · rw [if_pos q22]
      exact c_22 h hK i1 i2
    rw [if_neg q22]
    by_cases q23 : ((xs (Int32.ofNat (5 * j)).toNatClampNeg) &&& (31 : Int32)) = (23 : Int32)
    · rw [if_pos q23]
      exact c_23 h hK i1
    rw [if_neg q23]
    by_cases q24 : ((xs (Int32.ofNat (5 * j)).toNatClampNeg) &&& (31 : Int32)) = (24 : Int32)
    · rw [if_pos q24]
      exact c_24 h
    rw [if_neg q24]
    exact ⟨σ, LInv_le h (by omega), rfl⟩
  rw [en]
  exact key
theorem law_run (hN : N ≤ 2560) : ∀ d j n K σ, j + d = N / 5 → d + 1 ≤ n → LInv K σ → K + 400 * d ≤ 900000000 → ∃ σ', f_law N xs n (Int32.ofNat (5 * j)) σ = some (1, σ') := by
  intro d
  induction d with
  | zero =>
    intro j n K σ hj hn h hK
    obtain ⟨n, rfl⟩ := Nat.exists_eq_add_of_le' hn
    refine ⟨σ, ?_⟩
    have hlt : Int32.ofNat N - 5 < Int32.ofNat (5 * j) := by
      by_cases c : 5 ≤ N
      · rw [show Int32.ofNat N - 5 = Int32.ofNat (N - 5) from i_sb (m := 5) c, i_lt (by omega) (by omega)]
        omega
      · have e : j = 0 := by omega
        have : N = 0 ∨ N = 1 ∨ N = 2 ∨ N = 3 ∨ N = 4 := by omega
        rw [e]
        rcases this with q | q | q | q | q <;> (rw [q]; decide)
    rw [show n + (0 + 1) = n + 1 by omega, f_law, if_pos hlt, if_pos (by decide)]
  | succ d ih =>
    intro j n K σ hj hn h hK
    obtain ⟨n, rfl⟩ := Nat.exists_eq_add_of_le' hn
    obtain ⟨σ1, h1, h2⟩ := law_step (xs := xs) (n := n + (d + 1)) hN (show 5 * (j + 1) ≤ N by omega) h (by omega)
    obtain ⟨σ2, h3⟩ := ih (j + 1) (n + (d + 1)) (K + 400) σ1 (by omega) (by omega) h1 (by omega)
    refine ⟨σ2, ?_⟩
    rw [show n + (d + 1 + 1) = n + (d + 1) + 1 by omega, h2, h3]
end EPW
