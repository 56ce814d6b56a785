/-! the reference: what comes to the home; places of a core -/
section EPT
variable {I I0 : Nat → Nat → Int32} {J : Nat → Nat → Int64} {a b : aS} {r i l q c k n : Nat} {v : Int32} {m : aM}
theorem RF_rpush (h : RF I0 I a) (hl : l < 16) (hn : (a.2 (15 + l)).length < 8) :
    RF I0 (eup (eup I 131 (8 * l + (a.2 (15 + l)).length) (gRm m)) 130 l (Int32.ofNat ((a.2 (15 + l)).length + 1))) (aPush a (15 + l) m) := by
  have efr : ∀ r, ¬ r = 130 → ¬ r = 131 → eup (eup I 131 (8 * l + (a.2 (15 + l)).length) (gRm m)) 130 l (Int32.ofNat ((a.2 (15 + l)).length + 1)) r = I r := by
    intro r g1 g2
    rw [up_fr g1, up_fr g2]
  refine ⟨⟨fun r i hs => ?_, fun q hq => ?_, fun l' hl' => ?_⟩, fun r hr => ?_, fun i hi => ?_⟩
  · rw [efr r (by unfold aSc at hs; omega) (by unfold aSc at hs; omega)]
    exact h.1.1 r i hs
  · unfold RqOk
    rw [efr 132 (by decide) (by decide), efr 133 (by decide) (by decide), efr 134 (by decide) (by decide)]
    unfold aPush
    rw [aL_k (by omega)]
    exact h.1.2.1 q hq
  · unfold RoOk aPush
    obtain ⟨j1, j2, j3⟩ := h.1.2.2 l' hl'
    by_cases g : l' = l
    · subst g
      rw [aL_e, up_eq]
      refine ⟨by rw [List.length_append]; rfl, by rw [List.length_append]; exact hn, fun k hk => ?_⟩
      rw [up_r (by decide)]
      have hk : k < (a.2 (15 + l')).length + 1 := by simpa using hk
      by_cases q : k < (a.2 (15 + l')).length
      · rw [List.getElem_append_left q, up_k (by omega)]
        exact j3 k q
      · have : k = (a.2 (15 + l')).length := by omega
        subst this
        rw [up_eq, List.getElem_append_right (by omega)]
        simp
    · rw [aL_k (by omega), up_k g, up_r (by decide)]
      refine ⟨j1, j2, fun k hk => ?_⟩
      rw [up_r (by decide), up_k (by omega)]
      exact j3 k hk
  · rw [efr r (by omega) (by omega)]
    exact h.2.1 r hr
  · rw [efr 122 (by decide) (by decide)]
    exact h.2.2 i hi
theorem rs_req (hk : m.1 < 3) (hl : m.2.1 < 16) (hc : m.2.2.1 < 4) (hn : m.2.2.2 < 1000) (hf : hF a m.2.1) (hv : roV a m.2.1) (hq : aQ a n) (hm : n < 90) (hr : (a.2 (15 + m.2.1)).length < 7) (h : RF I0 I a) :
    rOk (f_X12_atHome 122 0 (Int32.ofNat m.1) (Int32.ofNat m.2.1) (Int32.ofNat m.2.2.1) (Int32.ofNat m.2.2.2) (gRm m) (I, J)) I0 J () (aReq a m) := by
  have ht : (Int32.ofNat m.2.1).toNatClampNeg = m.2.1 := i_tn (by omega)
  have hi : eix (Int32.ofNat m.2.1) 16 = true := i_ix hl (by decide)
  obtain ⟨k1, k2, k3⟩ := h.1.2.2 m.2.1 hl
  have g2 : (8 : Int32) * Int32.ofNat m.2.1 + Int32.ofNat (a.2 (15 + m.2.1)).length = Int32.ofNat (8 * m.2.1 + (a.2 (15 + m.2.1)).length) := by
    show Int32.ofNat 8 * _ + _ = _
    rw [i_mu, i_ad]
  have g4 : eix (Int32.ofNat (8 * m.2.1 + (a.2 (15 + m.2.1)).length)) 128 = true := i_ix (by omega) (by decide)
  have g6 : (Int32.ofNat (8 * m.2.1 + (a.2 (15 + m.2.1)).length)).toNatClampNeg = 8 * m.2.1 + (a.2 (15 + m.2.1)).length := i_tn (by omega)
  have g7 : eup I 131 (8 * m.2.1 + (a.2 (15 + m.2.1)).length) (gRm m) 130 m.2.1 = Int32.ofNat (a.2 (15 + m.2.1)).length := by
    rw [up_r (by decide)]
    exact k1
  have g8 : Int32.ofNat (a.2 (15 + m.2.1)).length + 1 = Int32.ofNat ((a.2 (15 + m.2.1)).length + 1) := i_ad
  have hp := RF_rpush (m := m) h hl (by omega)
  unfold f_X12_atHome aReq
  simp only [eLet, Option.bind_some, ↓reduceIte, K_2, K_3, K_4, K_5, K_21, K_22, K_23, K_24, K_57, K_58, K_59, K_60, K_61, K_62, K_63, K_64, K_65, K_66, K_67, K_68, K_69, K_70, K_71, K_72, K_73, K_122, K_123, K_124, K_125, K_126, K_127, K_128, K_129, K_130, K_131, K_132, K_133, K_134, K_135, K_136, K_137, K_138, K_139, K_140, K_141, K_142, K_143, K_144, K_145, K_146, K_147, K_148, K_149, K_150, K_151, K_152, K_153, K_154, K_155, K_156, K_157, K_158, K_159, K_160, K_161, R_2_0, R_2_1, R_2_2, R_2_3, R_2_4, R_2_5, R_2_6, R_2_7, R_4_0, R_4_1, R_4_2, R_23_0, R_23_1, R_23_2, R_58_0, R_58_1, R_58_2, R_58_3, R_58_4, R_64_0, R_66_0, R_68_0, R_68_1, R_68_2, R_68_3, R_72_0, R_122_0, R_122_1, R_122_2, R_122_3, R_122_4, R_122_5, R_122_6, R_122_7, R_122_8, R_122_9, R_122_10, R_122_11, R_122_12, R_122_13, R_122_14, R_122_15, R_122_16, R_122_17, R_122_19, R_122_20, R_122_21, R_122_22, R_122_23, R_122_24, R_122_25, R_122_26, R_122_27, R_122_28, R_122_29, R_122_30, R_122_31, R_122_33, R_122_34, R_122_35, R_122_36, R_122_37, R_122_39, R_122_41, true_and, and_true, eB, decide_true, decide_false, Bool.or_true, Bool.true_or, not_true_eq_false, not_false_eq_true, ht, hi, k1, g2, g4, g6, g7, g8]
  unfold f_X12_atHome_73 f_X12_goesOn
  simp only [eLet, Option.bind_some, ↓reduceIte, K_2, K_3, K_4, K_5, K_21, K_22, K_23, K_24, K_57, K_58, K_59, K_60, K_61, K_62, K_63, K_64, K_65, K_66, K_67, K_68, K_69, K_70, K_71, K_72, K_73, K_122, K_123, K_124, K_125, K_126, K_127, K_128, K_129, K_130, K_131, K_132, K_133, K_134, K_135, K_136, K_137, K_138, K_139, K_140, K_141, K_142, K_143, K_144, K_145, K_146, K_147, K_148, K_149, K_150, K_151, K_152, K_153, K_154, K_155, K_156, K_157, K_158, K_159, K_160, K_161, R_2_0, R_2_1, R_2_2, R_2_3, R_2_4, R_2_5, R_2_6, R_2_7, R_4_0, R_4_1, R_4_2, R_23_0, R_23_1, R_23_2, R_58_0, R_58_1, R_58_2, R_58_3, R_58_4, R_64_0, R_66_0, R_68_0, R_68_1, R_68_2, R_68_3, R_72_0, R_122_0, R_122_1, R_122_2, R_122_3, R_122_4, R_122_5, R_122_6, R_122_7, R_122_8, R_122_9, R_122_10, R_122_11, R_122_12, R_122_13, R_122_14, R_122_15, R_122_16, R_122_17, R_122_19, R_122_20, R_122_21, R_122_22, R_122_23, R_122_24, R_122_25, R_122_26, R_122_27, R_122_28, R_122_29, R_122_30, R_122_31, R_122_33, R_122_34, R_122_35, R_122_36, R_122_37, R_122_39, R_122_41, true_and, and_true, eB, decide_true, decide_false, Bool.or_true, Bool.true_or, not_true_eq_false, not_false_eq_true]
  refine r_bind (rs_goes hl _ _ (aPush a (15 + m.2.1) m) _ n ?_ ?_ hf ?_ ?_ ?_ hp) (fun I1 h1 => r_ret h1)
  · unfold aPush
    rw [aL_e, List.length_append]
    exact Nat.lt_succ_self _
  · omega
  · intro m' hm'
    unfold aPush at hm'
    rw [aL_e, List.mem_append] at hm'
    rcases hm' with q | q
    · exact hv m' q
    · rw [List.mem_singleton] at q
      subst q
      exact ⟨hk, hl, hc, hn⟩
  · intro q q1 q2
    unfold aPush
    rw [aL_k (by omega)]
    exact hq q q1 q2
  · omega
theorem rs_ans (hk : m.1 = 8 ∨ m.1 = 9) (hl : m.2.1 < 16) (hn : m.2.2.2 < 1000) (hf : hF a m.2.1) (hv : roV a m.2.1) (hq : aQ a n) (hm : n < 80) (hr : (a.2 (15 + m.2.1)).length < 8)
    (hc : c < 4) (hbc : a.1 128 m.2.1 = Int32.ofNat c) (ho : a.1 127 m.2.1 = 0 → ∃ o, o < 4 ∧ a.1 124 m.2.1 = Int32.ofNat o) {w : Int32} (h : RF I0 I a) :
    rOk (f_X12_atHome 122 2 (Int32.ofNat m.1) (Int32.ofNat m.2.1) w (Int32.ofNat m.2.2.2) (gRm m) (I, J)) I0 J () (aAnsw a m) := by
  have ht : (Int32.ofNat m.2.1).toNatClampNeg = m.2.1 := i_tn (by omega)
  have hi : eix (Int32.ofNat m.2.1) 16 = true := i_ix hl (by decide)
  have g2 : ¬ (2 : Int32) = 0 := by decide
  have k8 : (Int32.ofNat m.1 = 8) = (m.1 = 8) := i_eq (by omega) (by decide)
  have e1 : I 123 m.2.1 = a.1 123 m.2.1 := R_get h (by unfold aSc; omega)
  have e2 : I 129 m.2.1 = a.1 129 m.2.1 := R_get h (by unfold aSc; omega)
  have key : ∀ (I1 : Nat → Nat → Int32), RF I0 I1 (if m.1 = 8 then aW a 123 m.2.1 (Int32.ofNat m.2.2.2) else a) → I1 129 m.2.1 = a.1 129 m.2.1 →
      rOk (Option.bind (f_X12_ends 122 (Int32.ofNat m.2.1) (eup I1 129 m.2.1 (a.1 129 m.2.1 - 1), J)) (fun r3 => f_X12_atHome_73 122 (Int32.ofNat m.2.1) r3.2)) I0 J () (aAnsw a m) := by
    intro I1 h1 h2
    have hA : ∀ r, ¬ r = 123 → ¬ r = 129 → (aW (if m.1 = 8 then aW a 123 m.2.1 (Int32.ofNat m.2.2.2) else a) 129 m.2.1 (a.1 129 m.2.1 - 1)).1 r = a.1 r := by
      intro r q1 q2
      rw [aW_1 q2]
      split
      · exact aW_1 q1
      · rfl
    have hA2 : (aW (if m.1 = 8 then aW a 123 m.2.1 (Int32.ofNat m.2.2.2) else a) 129 m.2.1 (a.1 129 m.2.1 - 1)).2 = a.2 := by
      rw [aW_2]
      split
      · rfl
      · rfl
    have hVv : aV ((aW (if m.1 = 8 then aW a 123 m.2.1 (Int32.ofNat m.2.2.2) else a) 129 m.2.1 (a.1 129 m.2.1 - 1)).1 123 m.2.1) := by
      rw [aW_1 (by decide)]
      split
      · rw [aW_e]
        exact aV_of hn
      · exact hf.2
    have hbc2 : (aW (if m.1 = 8 then aW a 123 m.2.1 (Int32.ofNat m.2.2.2) else a) 129 m.2.1 (a.1 129 m.2.1 - 1)).1 128 m.2.1 = Int32.ofNat c := by
      rw [hA 128 (by decide) (by decide)]
      exact hbc
    have hnt : aNt ((aW (if m.1 = 8 then aW a 123 m.2.1 (Int32.ofNat m.2.2.2) else a) 129 m.2.1 (a.1 129 m.2.1 - 1)).1 128 m.2.1) < 4 := by
      rw [hbc2]
      unfold aNt
      rw [i_tn (by omega)]
      exact hc
    refine r_bind (rs_ends hl hc hbc2 ?_ hVv ?_ (RF_w h1 (by unfold aSc; omega))) (fun I3 h3 => ?_)
    · rw [hA 127 (by decide) (by decide), hA 124 (by decide) (by decide)]
      exact ho
    · rw [hA2]
      have := hq (10 + c) (by omega) (by omega)
      omega
    · unfold f_X12_atHome_73 f_X12_goesOn aAnsw aAnsH
      have ero : (aEnds (aW (if m.1 = 8 then aW a 123 m.2.1 (Int32.ofNat m.2.2.2) else a) 129 m.2.1 (a.1 129 m.2.1 - 1)) m.2.1).2 (15 + m.2.1) = a.2 (15 + m.2.1) := by
        rw [aEnds_q (by omega) hnt, hA2]
      have hqq : aQ (aEnds (aW (if m.1 = 8 then aW a 123 m.2.1 (Int32.ofNat m.2.2.2) else a) 129 m.2.1 (a.1 129 m.2.1 - 1)) m.2.1) (n + 1) := by
        intro q q1 q2
        refine Nat.le_trans aEnds_len ?_
        rw [hA2]
        have := hq q q1 q2
        omega
      have hFf : hF (aEnds (aW (if m.1 = 8 then aW a 123 m.2.1 (Int32.ofNat m.2.2.2) else a) 129 m.2.1 (a.1 129 m.2.1 - 1)) m.2.1) m.2.1 := by
        refine hF_ends ⟨?_, hVv⟩ hnt
        rw [hA 124 (by decide) (by decide)]
        exact hf.1
      simp only [eLet, Option.bind_some, ↓reduceIte, K_2, K_3, K_4, K_5, K_21, K_22, K_23, K_24, K_57, K_58, K_59, K_60, K_61, K_62, K_63, K_64, K_65, K_66, K_67, K_68, K_69, K_70, K_71, K_72, K_73, K_122, K_123, K_124, K_125, K_126, K_127, K_128, K_129, K_130, K_131, K_132, K_133, K_134, K_135, K_136, K_137, K_138, K_139, K_140, K_141, K_142, K_143, K_144, K_145, K_146, K_147, K_148, K_149, K_150, K_151, K_152, K_153, K_154, K_155, K_156, K_157, K_158, K_159, K_160, K_161, R_2_0, R_2_1, R_2_2, R_2_3, R_2_4, R_2_5, R_2_6, R_2_7, R_4_0, R_4_1, R_4_2, R_23_0, R_23_1, R_23_2, R_58_0, R_58_1, R_58_2, R_58_3, R_58_4, R_64_0, R_66_0, R_68_0, R_68_1, R_68_2, R_68_3, R_72_0, R_122_0, R_122_1, R_122_2, R_122_3, R_122_4, R_122_5, R_122_6, R_122_7, R_122_8, R_122_9, R_122_10, R_122_11, R_122_12, R_122_13, R_122_14, R_122_15, R_122_16, R_122_17, R_122_19, R_122_20, R_122_21, R_122_22, R_122_23, R_122_24, R_122_25, R_122_26, R_122_27, R_122_28, R_122_29, R_122_30, R_122_31, R_122_33, R_122_34, R_122_35, R_122_36, R_122_37, R_122_39, R_122_41, true_and, and_true, eB, decide_true, decide_false, Bool.or_true, Bool.true_or, not_true_eq_false, not_false_eq_true]
      refine r_bind (rs_goes hl _ _ _ _ (n + 1) ?_ ?_ hFf ?_ hqq ?_ h3) (fun I4 h4 => r_ret h4)
      · rw [ero]
        exact Nat.lt_succ_self _
      · omega
      · intro m' hm'
        rw [ero] at hm'
        exact hv m' hm'
      · omega
  unfold f_X12_atHome
  simp only [eLet, Option.bind_some, ↓reduceIte, K_2, K_3, K_4, K_5, K_21, K_22, K_23, K_24, K_57, K_58, K_59, K_60, K_61, K_62, K_63, K_64, K_65, K_66, K_67, K_68, K_69, K_70, K_71, K_72, K_73, K_122, K_123, K_124, K_125, K_126, K_127, K_128, K_129, K_130, K_131, K_132, K_133, K_134, K_135, K_136, K_137, K_138, K_139, K_140, K_141, K_142, K_143, K_144, K_145, K_146, K_147, K_148, K_149, K_150, K_151, K_152, K_153, K_154, K_155, K_156, K_157, K_158, K_159, K_160, K_161, R_2_0, R_2_1, R_2_2, R_2_3, R_2_4, R_2_5, R_2_6, R_2_7, R_4_0, R_4_1, R_4_2, R_23_0, R_23_1, R_23_2, R_58_0, R_58_1, R_58_2, R_58_3, R_58_4, R_64_0, R_66_0, R_68_0, R_68_1, R_68_2, R_68_3, R_72_0, R_122_0, R_122_1, R_122_2, R_122_3, R_122_4, R_122_5, R_122_6, R_122_7, R_122_8, R_122_9, R_122_10, R_122_11, R_122_12, R_122_13, R_122_14, R_122_15, R_122_16, R_122_17, R_122_19, R_122_20, R_122_21, R_122_22, R_122_23, R_122_24, R_122_25, R_122_26, R_122_27, R_122_28, R_122_29, R_122_30, R_122_31, R_122_33, R_122_34, R_122_35, R_122_36, R_122_37, R_122_39, R_122_41, true_and, and_true, eB, decide_true, decide_false, Bool.or_true, Bool.true_or, not_true_eq_false, not_false_eq_true, g2, k8]
  by_cases q8 : m.1 = 8
  · have e3 : eup I 123 m.2.1 (Int32.ofNat m.2.2.2) 129 m.2.1 = a.1 129 m.2.1 := by
      rw [up_r (by decide)]
      exact e2
    simp only [q8, not_true_eq_false, ↓reduceIte]
    unfold f_X12_atHome_57
    simp only [eLet, Option.bind_some, ↓reduceIte, K_2, K_3, K_4, K_5, K_21, K_22, K_23, K_24, K_57, K_58, K_59, K_60, K_61, K_62, K_63, K_64, K_65, K_66, K_67, K_68, K_69, K_70, K_71, K_72, K_73, K_122, K_123, K_124, K_125, K_126, K_127, K_128, K_129, K_130, K_131, K_132, K_133, K_134, K_135, K_136, K_137, K_138, K_139, K_140, K_141, K_142, K_143, K_144, K_145, K_146, K_147, K_148, K_149, K_150, K_151, K_152, K_153, K_154, K_155, K_156, K_157, K_158, K_159, K_160, K_161, R_2_0, R_2_1, R_2_2, R_2_3, R_2_4, R_2_5, R_2_6, R_2_7, R_4_0, R_4_1, R_4_2, R_23_0, R_23_1, R_23_2, R_58_0, R_58_1, R_58_2, R_58_3, R_58_4, R_64_0, R_66_0, R_68_0, R_68_1, R_68_2, R_68_3, R_72_0, R_122_0, R_122_1, R_122_2, R_122_3, R_122_4, R_122_5, R_122_6, R_122_7, R_122_8, R_122_9, R_122_10, R_122_11, R_122_12, R_122_13, R_122_14, R_122_15, R_122_16, R_122_17, R_122_19, R_122_20, R_122_21, R_122_22, R_122_23, R_122_24, R_122_25, R_122_26, R_122_27, R_122_28, R_122_29, R_122_30, R_122_31, R_122_33, R_122_34, R_122_35, R_122_36, R_122_37, R_122_39, R_122_41, true_and, and_true, eB, decide_true, decide_false, Bool.or_true, Bool.true_or, not_true_eq_false, not_false_eq_true, ht, hi, e3]
    refine key _ ?_ e3
    rw [if_pos q8]
    exact RF_w h (by unfold aSc; omega)
  · simp only [q8, not_false_eq_true, ↓reduceIte, hi, eLet, Option.bind_some, ↓reduceIte, K_2, K_3, K_4, K_5, K_21, K_22, K_23, K_24, K_57, K_58, K_59, K_60, K_61, K_62, K_63, K_64, K_65, K_66, K_67, K_68, K_69, K_70, K_71, K_72, K_73, K_122, K_123, K_124, K_125, K_126, K_127, K_128, K_129, K_130, K_131, K_132, K_133, K_134, K_135, K_136, K_137, K_138, K_139, K_140, K_141, K_142, K_143, K_144, K_145, K_146, K_147, K_148, K_149, K_150, K_151, K_152, K_153, K_154, K_155, K_156, K_157, K_158, K_159, K_160, K_161, R_2_0, R_2_1, R_2_2, R_2_3, R_2_4, R_2_5, R_2_6, R_2_7, R_4_0, R_4_1, R_4_2, R_23_0, R_23_1, R_23_2, R_58_0, R_58_1, R_58_2, R_58_3, R_58_4, R_64_0, R_66_0, R_68_0, R_68_1, R_68_2, R_68_3, R_72_0, R_122_0, R_122_1, R_122_2, R_122_3, R_122_4, R_122_5, R_122_6, R_122_7, R_122_8, R_122_9, R_122_10, R_122_11, R_122_12, R_122_13, R_122_14, R_122_15, R_122_16, R_122_17, R_122_19, R_122_20, R_122_21, R_122_22, R_122_23, R_122_24, R_122_25, R_122_26, R_122_27, R_122_28, R_122_29, R_122_30, R_122_31, R_122_33, R_122_34, R_122_35, R_122_36, R_122_37, R_122_39, R_122_41, true_and, and_true, eB, decide_true, decide_false, Bool.or_true, Bool.true_or, not_true_eq_false, not_false_eq_true]
    unfold f_X12_atHome_57
    rw [ht, up_self rfl]
    simp only [eLet, Option.bind_some, ↓reduceIte, K_2, K_3, K_4, K_5, K_21, K_22, K_23, K_24, K_57, K_58, K_59, K_60, K_61, K_62, K_63, K_64, K_65, K_66, K_67, K_68, K_69, K_70, K_71, K_72, K_73, K_122, K_123, K_124, K_125, K_126, K_127, K_128, K_129, K_130, K_131, K_132, K_133, K_134, K_135, K_136, K_137, K_138, K_139, K_140, K_141, K_142, K_143, K_144, K_145, K_146, K_147, K_148, K_149, K_150, K_151, K_152, K_153, K_154, K_155, K_156, K_157, K_158, K_159, K_160, K_161, R_2_0, R_2_1, R_2_2, R_2_3, R_2_4, R_2_5, R_2_6, R_2_7, R_4_0, R_4_1, R_4_2, R_23_0, R_23_1, R_23_2, R_58_0, R_58_1, R_58_2, R_58_3, R_58_4, R_64_0, R_66_0, R_68_0, R_68_1, R_68_2, R_68_3, R_72_0, R_122_0, R_122_1, R_122_2, R_122_3, R_122_4, R_122_5, R_122_6, R_122_7, R_122_8, R_122_9, R_122_10, R_122_11, R_122_12, R_122_13, R_122_14, R_122_15, R_122_16, R_122_17, R_122_19, R_122_20, R_122_21, R_122_22, R_122_23, R_122_24, R_122_25, R_122_26, R_122_27, R_122_28, R_122_29, R_122_30, R_122_31, R_122_33, R_122_34, R_122_35, R_122_36, R_122_37, R_122_39, R_122_41, true_and, and_true, eB, decide_true, decide_false, Bool.or_true, Bool.true_or, not_true_eq_false, not_false_eq_true, ht, hi, e2]
    refine key _ ?_ e2
    rw [if_neg q8]
    exact h
end EPT
