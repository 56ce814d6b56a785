/-! the class: what comes to the home -/
section EPD
variable {I I' I0 : Nat → Nat → Int32} {J : Nat → Nat → Int64} {a a' b : aS} {r i l q c k n p w z N o : Nat} {v t x y : Int32} {m : aM} {σ : eMem}
theorem cs_putrow (hl : l < 16) (hr : (a.2 (15 + l)).length < 4) (h : CF I0 I a) : cOk (f_X2_putInRow (25 + 2 * l) (gCm m) (I, J)) I0 J () (aPush a (15 + l) m) := by
  obtain ⟨h0, h1, h2, h3, h4, h7, h8, h9⟩ := h.1.1 l hl
  have g1 : (Int32.ofNat 4 ≤ Int32.ofNat (a.2 (15 + l)).length) = False := (i_le (by decide) (by omega)).trans (eq_false (by omega))
  have g2 : eix (Int32.ofNat (a.2 (15 + l)).length) 4 = true := i_ix hr (by decide)
  have g3 : (Int32.ofNat (a.2 (15 + l)).length).toNatClampNeg = (a.2 (15 + l)).length := i_tn (by omega)
  have g11 : (11 ≤ 11 ∧ 11 < 18) = True := eq_true ⟨by decide, by decide⟩
  have hP := H_rpush (m := m) hl hr h
  have e : eup I (26 + 2 * l) (a.2 (15 + l)).length (gCm m) (25 + 2 * l) 7 = I (25 + 2 * l) 7 := up_r (by omega)
  unfold f_X2_putInRow f_X2_putInRow_32
  simp only [eLt, Option.bind_some, ↓reduceIte, K_23, R_23_0, R_23_1, R_23_2, K_3, K_4, K_24, K_l hl, K_w hl, R_l hl, R_l6 hl, true_and, and_true, eB, decide_true, decide_false, Bool.or_true, Bool.true_or, not_true_eq_false, not_false_eq_true, h7, g1, g2, g3, g11, e]
  rw [h7] at hP
  exact c_ret hP
theorem gC_l2 (hm : m.1 < 10) (hl : m.2.1 < 16) (hc : m.2.2.1 < 4) (hn : m.2.2.2 < 1000) (h6 : m.1 = 6 → m.2.2.1 < 4) : ∃ kk cc N, kk < 16 ∧ cc < 4 ∧ N ≤ 1000 ∧ gCm m = Int32.ofNat (kk + 16 * m.2.1 + 256 * cc + 1024 * N) := by
  obtain ⟨k, l, c, n⟩ := m
  dsimp only at *
  have : k = 0 ∨ k = 1 ∨ k = 2 ∨ k = 3 ∨ k = 4 ∨ k = 5 ∨ k = 6 ∨ k = 7 ∨ k = 8 ∨ k = 9 := by omega
  rcases this with q | q | q | q | q | q | q | q | q | q <;> subst q
  · exact ⟨_, _, _, by decide, hc, by decide, g_0⟩
  · exact ⟨_, _, _, by decide, hc, by decide, g_1⟩
  · exact ⟨_, _, _, by decide, hc, by omega, g_2⟩
  · exact ⟨_, _, _, by decide, by decide, by decide, g_3⟩
  · exact ⟨_, _, _, by decide, by decide, by decide, g_4⟩
  · exact ⟨_, _, _, by decide, by decide, by decide, g_5⟩
  · exact ⟨_, _, _, by omega, by decide, by omega, g_6⟩
  · exact ⟨_, _, _, by decide, by decide, by decide, g_7⟩
  · exact ⟨_, _, _, by decide, hc, by omega, g_8⟩
  · exact ⟨_, _, _, by decide, hc, by decide, g_9⟩
theorem aL_back {L : List aM} (h : a.2 q = L) : aL a q L = a := by
  refine Prod.ext rfl ?_
  funext s
  show eupA a.2 q L s = a.2 s
  by_cases g : s = q
  · subst g
    rw [uA_eq, h]
  · exact uA_ne g
theorem aReq_busy (h : ¬ a.1 127 m.2.1 = -1) : aReq a m = aPush a (15 + m.2.1) m := by
  unfold aReq aGoes
  have : (aPush a (15 + m.2.1) m).1 = a.1 := rfl
  rw [this, if_neg h]
theorem aReq_free (hc : m.2.2.1 < 4) (ho : a.1 124 m.2.1 = -1 ∨ ∃ o, o < 4 ∧ a.1 124 m.2.1 = Int32.ofNat o) (h : a.1 127 m.2.1 = -1) (hr : a.2 (15 + m.2.1) = []) : aReq a m = aDoes a m.1 m.2.1 m.2.2.1 m.2.2.2 := by
  unfold aReq
  rw [hr]
  have e1 : (aPush a (15 + m.2.1) m).1 = a.1 := rfl
  have e2 : (aPush a (15 + m.2.1) m).2 (15 + m.2.1) = [m] := by
    show (aL a _ _).2 _ = _
    rw [aL_e, hr]
    rfl
  have e3 : aL (aPush a (15 + m.2.1) m) (15 + m.2.1) [] = a := by
    have : aL (aPush a (15 + m.2.1) m) (15 + m.2.1) [] = aL a (15 + m.2.1) [] := by
      refine Prod.ext rfl ?_
      funext s
      show eupA (eupA a.2 _ _) _ [] s = eupA a.2 _ [] s
      by_cases g : s = 15 + m.2.1
      · subst g
        rw [uA_eq, uA_eq]
      · rw [uA_ne g, uA_ne g, uA_ne g]
    rw [this, aL_back hr]
  show aGoes 2 _ _ = _
  unfold aGoes
  rw [e1, if_pos h, e2]
  dsimp only
  rw [e3]
  unfold aGoes
  have er : (aDoes a m.1 m.2.1 m.2.2.1 m.2.2.2).2 (15 + m.2.1) = [] := by
    rw [aDoes_q hc ho (by omega), hr]
  split
  · rw [er]
  · rfl
theorem cs_req {M : Nat} (hk : m.1 < 3) (hl : m.2.1 < 16) (hc : m.2.2.1 < 4) (hn : m.2.2.2 < 1000) (hf : hF a m.2.1) (hK : kF a m.2.1) (hr : (a.2 (15 + m.2.1)).length < 4)
    (hB : a.1 127 m.2.1 = -1 → a.2 (15 + m.2.1) = []) (hq : aQ a M) (hM : M < 60) (h : CF I0 I a) : cOk (f_X1_receiveRequest 23 (gCm m) (I, J)) I0 J () (aReq a m) := by
  obtain ⟨kk, cc, N, g1, g2, g3, g4⟩ := gC_l2 (m := m) (by omega) hl hc hn (fun _ => hc)
  have e1 : ∀ σ : eMem, f_X4_lineOf (gCm m) σ = some (Int32.ofNat m.2.1, σ) := by
    intro σ
    rw [g4]
    exact b_line g1 hl g2 g3
  have ht : (Int32.ofNat m.2.1).toNatClampNeg = m.2.1 := i_tn (by omega)
  have hi : eix (Int32.ofNat m.2.1) 16 = true := i_ix hl (by decide)
  have e2 : I (25 + 2 * m.2.1) 3 = (if a.1 127 m.2.1 = -1 then 0 else 1) := (h.1.1 _ hl).2.2.2.1
  have hmm : m = (m.1, m.2.1, m.2.2.1, m.2.2.2) := rfl
  unfold f_X1_receiveRequest f_X1_receiveRequest_31
  simp only [eLt, Option.bind_some, ↓reduceIte, K_23, R_23_0, R_23_1, R_23_2, K_3, K_4, K_24, K_l hl, K_w hl, R_l hl, R_l6 hl, true_and, and_true, eB, decide_true, decide_false, Bool.or_true, Bool.true_or, not_true_eq_false, not_false_eq_true, e1, ht, hi, e2]
  by_cases q : a.1 127 m.2.1 = -1
  · simp only [q, ↓reduceIte]
    rw [aReq_free hc hf.1 q (hB q)]
    exact c_bind (cs_serve hl hc hk hn q hf hK hq hM h) (fun I1 h1 => c_ret h1)
  · simp only [q, ↓reduceIte, show ¬ (1 : Int32) = 0 by decide]
    rw [aReq_busy q]
    exact c_bind (cs_putrow hl hr h) (fun I1 h1 => c_ret h1)
/-- an ANSWER for a busy line, of which one is due -/
def wF (a : aS) (l : Nat) : Prop := ∃ c D, c < 4 ∧ a.1 128 l = Int32.ofNat c ∧ 1 ≤ D ∧ D ≤ 4 ∧ a.1 129 l = Int32.ofNat D ∧ ((a.1 127 l = 0 ∧ ∃ o, o < 4 ∧ a.1 124 l = Int32.ofNat o) ∨ a.1 127 l = 1)
theorem aGoes_busy (h : ¬ a.1 127 l = -1) : aGoes (n + 1) a l = a := by
  unfold aGoes
  rw [if_neg h]
theorem cs_ans34 {M : Nat} (hl : l < 16) (hB : Unit → wF a l) (hf : hF a l) (hK : kF a l) (hv : roV a l) (hL : roL a l) (hq : aQ a M) (hM : M < 50) (h : CF I0 I a) :
    cOk (f_X1_receiveAnswer_34 23 (25 + 2 * l) (I, J)) I0 J () (aGoes ((a.2 (15 + l)).length + 1) (aEnds (aW a 129 l (a.1 129 l - 1)) l) l) := by
  obtain ⟨c, D, hc, hbc, hD1, hD4, hD, hk⟩ := hB ()
  have hb : ¬ a.1 127 l = -1 := by
    rcases hk with ⟨q, -⟩ | q <;> rw [q] <;> decide
  have h5 : I (25 + 2 * l) 5 = Int32.ofNat D := ((h.1.1 l hl).2.2.2.2.1 hb).2.trans hD
  have e5 : Int32.ofNat D - 1 = Int32.ofNat (D - 1) := i_sb (m := 1) hD1
  have g1 : (Int32.ofNat (D - 1) ≤ 0) = (D - 1 ≤ 0) := i_le (m := 0) (by omega) (by decide)
  have h1 := H_due hl hb h
  have hrow := (h.1.1 l hl).2.2.2.2.2.2.1
  rw [h5, e5, hD, e5] at h1
  unfold f_X1_receiveAnswer_34
  simp only [eLt, Option.bind_some, ↓reduceIte, K_23, R_23_0, R_23_1, R_23_2, K_3, K_4, K_24, K_l hl, K_w hl, R_l hl, R_l6 hl, true_and, and_true, eB, decide_true, decide_false, Bool.or_true, Bool.true_or, not_true_eq_false, not_false_eq_true, h5, e5, up_eq, g1]
  rw [hD, e5]
  have b27 : (aW a 129 l (Int32.ofNat (D - 1))).1 127 l = a.1 127 l := by rw [aW_1 (by decide)]
  have b28 : (aW a 129 l (Int32.ofNat (D - 1))).1 128 l = Int32.ofNat c := by rw [aW_1 (by decide), hbc]
  have b24 : (aW a 129 l (Int32.ofNat (D - 1))).1 124 l = a.1 124 l := by rw [aW_1 (by decide)]
  have b29 : (aW a 129 l (Int32.ofNat (D - 1))).1 129 l = Int32.ofNat (D - 1) := aW_e
  have n1 : aNt (Int32.ofNat c) = c := i_tn (by omega)
  have hf1 : hF (aW a 129 l (Int32.ofNat (D - 1))) l := ⟨by rw [b24]; exact hf.1, by rw [aW_1 (by decide)]; exact hf.2⟩
  have hK1 : kF (aW a 129 l (Int32.ofNat (D - 1))) l := kF_eq (by rw [aW_1 (by decide)]) (by rw [aW_1 (by decide)]) hK
  have hq1 : ((aW a 129 l (Int32.ofNat (D - 1))).2 (10 + c)).length < 64 := by
    have := hq (10 + c) (by omega) (by omega)
    show (a.2 (10 + c)).length < 64
    omega
  by_cases q : D - 1 ≤ 0
  · simp only [q, ↓reduceIte]
    have fin : cOk (f_X1_finish 23 (25 + 2 * l) (eup I (25 + 2 * l) 5 (Int32.ofNat (D - 1)), J)) I0 J () (aEnds (aW a 129 l (Int32.ofNat (D - 1))) l) := by
      unfold aEnds
      rw [b29, b27, b28, b24, n1, if_pos (by rw [g1]; exact q)]
      rcases hk with ⟨k1, o, ho, ho2⟩ | k1
      · have n2 : aNt (Int32.ofNat o) = o := i_tn (by omega)
        rw [if_pos k1, ho2, n2]
        exact cs_finR hl ho hc (b24.trans ho2) (b27.trans k1) b28 hf1.2 hq1 h1
      · rw [if_neg (by rw [k1]; decide)]
        exact cs_finW hl hc (b27.trans k1) b28 hf1.2 hq1 h1
    refine c_bind fin (fun I2 h2 => ?_)
    dsimp only
    show cOk (f_X1_receiveAnswer_59 1000000 23 (25 + 2 * l) (Int32.ofNat 0) (I2, J)) I0 J () _
    have er : (aEnds (aW a 129 l (Int32.ofNat (D - 1))) l).2 (15 + l) = a.2 (15 + l) := by
      rw [aEnds_q (by omega) (by rw [b28, n1]; exact hc)]
      rfl
    refine cs_goes hl _ 0 1000000 _ I2 (M + 1) ?_ ?_ (by omega) (hF_ends hf1 (by rw [b28, n1]; exact hc)) (kF_ends (by rw [b28, n1]; exact hc) ?_ hK1) ?_ ?_ ?_ (by omega) h2
    · rw [er]
      omega
    · rw [er]
      omega
    · rw [b27, b24]
      intro g
      rcases hk with ⟨k1, o, ho, ho2⟩ | k1
      · have n2 : aNt (Int32.ofNat o) = o := i_tn (by omega)
        rw [ho2, n2]
        exact ho
      · rw [k1] at g
        exact absurd g (by decide)
    · intro m' hm'
      rw [er] at hm'
      exact hv m' hm'
    · intro m' hm'
      rw [er] at hm'
      exact hL m' hm'
    · intro q q1 q2
      have e1 := aEnds_len (a := aW a 129 l (Int32.ofNat (D - 1))) (l := l) (q := q)
      have e2 : ((aW a 129 l (Int32.ofNat (D - 1))).2 q).length ≤ M := hq q q1 q2
      omega
  · simp only [q, ↓reduceIte]
    have e6 : aEnds (aW a 129 l (Int32.ofNat (D - 1))) l = aW a 129 l (Int32.ofNat (D - 1)) := by
      unfold aEnds
      rw [b29, if_neg (by rw [g1]; exact q)]
    rw [e6, aGoes_busy (by rw [b27]; exact hb)]
    exact c_ret h1
theorem cs_answ {M : Nat} (hk : m.1 = 8 ∨ m.1 = 9) (hl : m.2.1 < 16) (hc : m.2.2.1 < 4) (hn : m.2.2.2 < 1000) (hB : wF a m.2.1) (hf : hF a m.2.1) (hK : kF a m.2.1) (hv : roV a m.2.1) (hL : roL a m.2.1)
    (hq : aQ a M) (hM : M < 50) (h : CF I0 I a) : cOk (f_X1_receiveAnswer 23 (gCm m) (I, J)) I0 J () (aAnsw a m) := by
  obtain ⟨k, l, c, n⟩ := m
  dsimp only at *
  have hb : ¬ a.1 127 l = -1 := by
    obtain ⟨c', D, -, -, -, -, -, g⟩ := hB
    rcases g with ⟨q, -⟩ | q <;> rw [q] <;> decide
  have ht : (Int32.ofNat l).toNatClampNeg = l := i_tn (by omega)
  have hi : eix (Int32.ofNat l) 16 = true := i_ix hl (by decide)
  have e2 : I (25 + 2 * l) 3 = (if a.1 127 l = -1 then 0 else 1) := (h.1.1 _ hl).2.2.2.1
  rw [if_neg hb] at e2
  have h10 : ¬ (1 : Int32) = 0 := by decide
  unfold f_X1_receiveAnswer aAnsw aAnsH
  dsimp only
  rcases hk with q | q <;> subst q
  · rw [g_8]
    have n1 : (Int32.ofNat n = -1) = False := i_ne1 (by omega)
    simp only [eLt, Option.bind_some, ↓reduceIte, K_23, R_23_0, R_23_1, R_23_2, K_3, K_4, K_24, K_l hl, K_w hl, R_l hl, R_l6 hl, true_and, and_true, eB, decide_true, decide_false, Bool.or_true, Bool.true_or, not_true_eq_false, not_false_eq_true, b_line (k := 10) (N := n + 1) (by decide) hl hc (by omega), ht, hi, e2, h10, b_val (k := 10) (N := n + 1) (by decide) hl hc (by omega), b_v1, n1]
    have h1 := H_val (v := Int32.ofNat n) hl h
    have e3 : (aW a 123 l (Int32.ofNat n)).1 129 l = a.1 129 l := by rw [aW_1 (by decide)]
    have := cs_ans34 (J := J) (M := M) (a := aW a 123 l (Int32.ofNat n)) hl (fun _ => ?_) ?_ ?_ hv hL hq hM h1
    · rw [e3] at this
      exact this
    · obtain ⟨c', D, g1, g2, g3, g4, g5, g6⟩ := hB
      refine ⟨c', D, g1, ?_, g3, g4, ?_, ?_⟩
      · rw [aW_1 (by decide)]
        exact g2
      · rw [aW_1 (by decide)]
        exact g5
      · rw [aW_1 (by decide), aW_1 (by decide)]
        exact g6
    · refine ⟨?_, ?_⟩
      · rw [aW_1 (by decide)]
        exact hf.1
      · rw [aW_e]
        exact aV_of hn
    · exact kF_eq (by rw [aW_1 (by decide)]) (by rw [aW_1 (by decide)]) hK
  · rw [g_9]
    simp only [eLt, Option.bind_some, ↓reduceIte, K_23, R_23_0, R_23_1, R_23_2, K_3, K_4, K_24, K_l hl, K_w hl, R_l hl, R_l6 hl, true_and, and_true, eB, decide_true, decide_false, Bool.or_true, Bool.true_or, not_true_eq_false, not_false_eq_true, show ¬ 9 = 8 by decide, b_line (k := 10) (N := 0) (by decide) hl hc (by decide), ht, hi, e2, h10, b_val (k := 10) (N := 0) (by decide) hl hc (by decide), b_v0]
    exact cs_ans34 hl (fun _ => hB) hf hK hv hL hq hM h
end EPD
