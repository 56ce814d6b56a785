/-! the reference: the home's requests -/
section EPT
variable {I I0 : Nat → Nat → Int32} {J : Nat → Nat → Int64} {a b : aS} {r i l q c k n m : Nat} {v : Int32}
theorem rs_ends (hl : l < 16) (hc : c < 4) (hbc : a.1 128 l = Int32.ofNat c) (ho : a.1 127 l = 0 → ∃ o, o < 4 ∧ a.1 124 l = Int32.ofNat o) (hv : aV (a.1 123 l)) (hq : (a.2 (10 + c)).length < 128) (h : RF I0 I a) :
    rOk (f_X12_ends 122 (Int32.ofNat l) (I, J)) I0 J () (aEnds a l) := by
  have ht : (Int32.ofNat l).toNatClampNeg = l := i_tn (by omega)
  have hi : eix (Int32.ofNat l) 16 = true := i_ix hl (by decide)
  have e1 : I 129 l = a.1 129 l := R_get h (by unfold aSc; omega)
  have e2 : I 128 l = Int32.ofNat c := (R_get h (by unfold aSc; omega)).trans hbc
  have e3 : I 127 l = a.1 127 l := R_get h (by unfold aSc; omega)
  have e4 : aNt (a.1 128 l) = c := by
    unfold aNt
    rw [hbc]
    exact i_tn (by omega)
  unfold f_X12_ends aEnds
  simp only [eLet, Option.bind_some, ↓reduceIte, K_2, K_3, K_4, K_5, K_21, K_22, K_23, K_24, K_57, K_58, K_59, K_60, K_61, K_62, K_63, K_64, K_65, K_66, K_67, K_68, K_69, K_70, K_71, K_72, K_73, K_122, K_123, K_124, K_125, K_126, K_127, K_128, K_129, K_130, K_131, K_132, K_133, K_134, K_135, K_136, K_137, K_138, K_139, K_140, K_141, K_142, K_143, K_144, K_145, K_146, K_147, K_148, K_149, K_150, K_151, K_152, K_153, K_154, K_155, K_156, K_157, K_158, K_159, K_160, K_161, R_2_0, R_2_1, R_2_2, R_2_3, R_2_4, R_2_5, R_2_6, R_2_7, R_4_0, R_4_1, R_4_2, R_23_0, R_23_1, R_23_2, R_58_0, R_58_1, R_58_2, R_58_3, R_58_4, R_64_0, R_66_0, R_68_0, R_68_1, R_68_2, R_68_3, R_72_0, R_122_0, R_122_1, R_122_2, R_122_3, R_122_4, R_122_5, R_122_6, R_122_7, R_122_8, R_122_9, R_122_10, R_122_11, R_122_12, R_122_13, R_122_14, R_122_15, R_122_16, R_122_17, R_122_19, R_122_20, R_122_21, R_122_22, R_122_23, R_122_24, R_122_25, R_122_26, R_122_27, R_122_28, R_122_29, R_122_30, R_122_31, R_122_33, R_122_34, R_122_35, R_122_36, R_122_37, R_122_39, R_122_41, true_and, and_true, eB, decide_true, decide_false, Bool.or_true, Bool.true_or, not_true_eq_false, not_false_eq_true, ht, hi, e1, e2, e3, e4]
  by_cases g1 : a.1 129 l ≤ 0
  · simp only [g1, ↓reduceIte]
    have h1 : RF I0 (eup I 127 l (-1)) (aW a 127 l (-1)) := RF_w h (by unfold aSc; omega)
    by_cases g2 : a.1 127 l = 0
    · obtain ⟨o, ho1, ho2⟩ := ho g2
      have e5 : aNt (a.1 124 l) = o := by
        unfold aNt
        rw [ho2]
        exact i_tn (by omega)
      have e6 : eup I 127 l (-1) 124 l = Int32.ofNat o := by
        rw [up_r (by decide)]
        exact (R_get h (by unfold aSc; omega)).trans ho2
      simp only [g2, not_true_eq_false, ↓reduceIte, e5, e6]
      unfold aEndR
      refine r_bind (rs_forgets hl (RF_w h1 (by unfold aSc; omega))) (fun I2 h2 => ?_)
      refine r_bind (rs_shares hl h2) (fun I3 h3 => ?_)
      refine r_bind (rs_shares hl h3) (fun I4 h4 => ?_)
      refine r_bind (rs_gives (w := 1) hl hc (by decide) ?_ ?_ h4) (fun I5 h5 => ?_)
      · rw [aShares_1 (by decide) (by decide) (by decide), aShares_1 (by decide) (by decide) (by decide), aForgets_1 (by decide) (by decide), aW_1 (by decide), aW_1 (by decide)]
        exact hv
      · rw [aShares_2, aShares_2]
        exact hq
      · exact r_ret h5
    · simp only [g2, not_false_eq_true, ↓reduceIte]
      unfold aEndW
      refine r_bind (rs_forgets hl (RF_w h1 (by unfold aSc; omega))) (fun I2 h2 => ?_)
      refine r_bind (rs_gives (w := 3) hl hc (by decide) ?_ ?_ h2) (fun I5 h5 => ?_)
      · rw [aForgets_1 (by decide) (by decide), aW_1 (by decide), aW_1 (by decide)]
        exact hv
      · exact hq
      · exact r_ret h5
  · simp only [g1, ↓reduceIte]
    exact r_ret h
end EPT
