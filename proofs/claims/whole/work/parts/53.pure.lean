/-! the reference, part by part -/
section EPS
variable {I I0 : Nat → Nat → Int32} {J : Nat → Nat → Int64} {a b : aS} {r i l q c k n m : Nat} {v : Int32}
theorem i_ix (h : n < m) (g : m < 2147483648) : eix (Int32.ofNat n) m = true := by
  unfold eix
  rw [i_tn (by omega)]
  have : decide (Int32.ofNat n < 0) = false := by
    rw [decide_eq_false_iff_not, i_lt0 (by omega)]
    exact not_false
  rw [this]
  simp [h]
theorem i_el (h : n < 2147483648) (g : m < 2147483648) : (Int32.ofNat n = OfNat.ofNat m) = (n = m) := i_eq h g
theorem rs_sends {w z : Nat} (hw : w < 3) (hz : z < 5) (hl : l < 16) (hk : k < 16) (hc : c < 8) (hn : n < 1000) (h : RF I0 I a) (hq : (a.2 (5 * w + z)).length < 128) :
    rOk (f_X12_sends 122 (Int32.ofNat w) (Int32.ofNat z) (Int32.ofNat k) (Int32.ofNat l) (Int32.ofNat c) (Int32.ofNat n) (I, J)) I0 J () (aSend a (5 * w + z) k l c n) := by
  have hr := h.1.2.1 (5 * w + z) (by omega)
  obtain ⟨e, he, he2, hp⟩ := Rng_push (m := (k, l, c, n)) hr hq (by decide)
  have he2 : I 132 (5 * w + z) + I 133 (5 * w + z) - (I 132 (5 * w + z) + I 133 (5 * w + z)) / 128 * 128 = Int32.ofNat e := he2
  have hv : (5 : Int32) * Int32.ofNat w + Int32.ofNat z = Int32.ofNat (5 * w + z) := by
    show Int32.ofNat 5 * _ + _ = _
    rw [i_mu, i_ad]
  have hx : (128 : Int32) * Int32.ofNat (5 * w + z) + Int32.ofNat e = Int32.ofNat (128 * (5 * w + z) + e) := by
    show Int32.ofNat 128 * _ + _ = _
    rw [i_mu, i_ad]
  have hm : Int32.ofNat k + (16 : Int32) * Int32.ofNat l + (256 : Int32) * Int32.ofNat c + (2048 : Int32) * Int32.ofNat n = gRm (k, l, c, n) := by
    show Int32.ofNat k + Int32.ofNat 16 * _ + Int32.ofNat 256 * _ + Int32.ofNat 2048 * _ = _
    rw [i_mu, i_mu, i_mu, i_ad, i_ad, i_ad]
    rfl
  have ht : (Int32.ofNat (5 * w + z)).toNatClampNeg = 5 * w + z := i_tn (by omega)
  have hi : eix (Int32.ofNat (5 * w + z)) 15 = true := i_ix (by omega) (by decide)
  have hj : eix (Int32.ofNat (128 * (5 * w + z) + e)) 1920 = true := i_ix (by omega) (by decide)
  have hjt : (Int32.ofNat (128 * (5 * w + z) + e)).toNatClampNeg = 128 * (5 * w + z) + e := i_tn (by omega)
  have h128 : ¬ (128 : Int32) = 0 := by decide
  have j1 : eix (1 : Int32) 10 = true := rfl
  have j2 : eix (2 : Int32) 10 = true := rfl
  have j3 : eix (3 : Int32) 10 = true := rfl
  have j4 : eix (4 : Int32) 10 = true := rfl
  have j5 : eix (5 : Int32) 10 = true := rfl
  have d1 : (1 : Int32).toNatClampNeg = 1 := rfl
  have d2 : (2 : Int32).toNatClampNeg = 2 := rfl
  have d3 : (3 : Int32).toNatClampNeg = 3 := rfl
  have d4 : (4 : Int32).toNatClampNeg = 4 := rfl
  have d5 : (5 : Int32).toNatClampNeg = 5 := rfl
  have hP := RF_push h (q := 5 * w + z) (m := (k, l, c, n)) (by omega) he hp
  have g0 : (Int32.ofNat k = 0) = (k = 0) := i_eq (by omega) (by decide)
  have g1 : (Int32.ofNat k = 1) = (k = 1) := i_eq (by omega) (by decide)
  have g2 : (Int32.ofNat k = 2) = (k = 2) := i_eq (by omega) (by decide)
  have g3 : (Int32.ofNat k = 3) = (k = 3) := i_eq (by omega) (by decide)
  have g4 : (Int32.ofNat k = 4) = (k = 4) := i_eq (by omega) (by decide)
  have g5 : (Int32.ofNat k = 5) = (k = 5) := i_eq (by omega) (by decide)
  have hst : eup I 134 (128 * (5 * w + z) + e) (gRm (k, l, c, n)) 133 (5 * w + z) = I 133 (5 * w + z) := up_r (by decide)
  unfold f_X12_sends
  simp only [hv, eLet, Option.bind_some, ↓reduceIte, K_2, K_3, K_4, K_5, K_21, K_22, K_23, K_24, K_57, K_58, K_59, K_60, K_61, K_62, K_63, K_64, K_65, K_66, K_67, K_68, K_69, K_70, K_71, K_72, K_73, K_122, K_123, K_124, K_125, K_126, K_127, K_128, K_129, K_130, K_131, K_132, K_133, K_134, K_135, K_136, K_137, K_138, K_139, K_140, K_141, K_142, K_143, K_144, K_145, K_146, K_147, K_148, K_149, K_150, K_151, K_152, K_153, K_154, K_155, K_156, K_157, K_158, K_159, K_160, K_161, R_2_0, R_2_1, R_2_2, R_2_3, R_2_4, R_2_5, R_2_6, R_2_7, R_4_0, R_4_1, R_4_2, R_23_0, R_23_1, R_23_2, R_58_0, R_58_1, R_58_2, R_58_3, R_58_4, R_64_0, R_66_0, R_68_0, R_68_1, R_68_2, R_68_3, R_72_0, R_122_0, R_122_1, R_122_2, R_122_3, R_122_4, R_122_5, R_122_6, R_122_7, R_122_8, R_122_9, R_122_10, R_122_11, R_122_12, R_122_13, R_122_14, R_122_15, R_122_16, R_122_17, R_122_19, R_122_20, R_122_21, R_122_22, R_122_23, R_122_24, R_122_25, R_122_26, R_122_27, R_122_28, R_122_29, R_122_30, R_122_31, R_122_33, R_122_34, R_122_35, R_122_36, R_122_37, R_122_39, R_122_41, true_and, and_true, eB, decide_true, decide_false, Bool.or_true, Bool.true_or, not_true_eq_false, not_false_eq_true, hi, ht, he2, hx, hj, hjt, h128, hm, hst, j1, d1]
  unfold f_X12_sends_86 f_X12_sends_105 f_X12_sends_124 f_X12_sends_143 f_X12_sends_162 f_X12_sends_167
  simp only [eLet, Option.bind_some, ↓reduceIte, K_2, K_3, K_4, K_5, K_21, K_22, K_23, K_24, K_57, K_58, K_59, K_60, K_61, K_62, K_63, K_64, K_65, K_66, K_67, K_68, K_69, K_70, K_71, K_72, K_73, K_122, K_123, K_124, K_125, K_126, K_127, K_128, K_129, K_130, K_131, K_132, K_133, K_134, K_135, K_136, K_137, K_138, K_139, K_140, K_141, K_142, K_143, K_144, K_145, K_146, K_147, K_148, K_149, K_150, K_151, K_152, K_153, K_154, K_155, K_156, K_157, K_158, K_159, K_160, K_161, R_2_0, R_2_1, R_2_2, R_2_3, R_2_4, R_2_5, R_2_6, R_2_7, R_4_0, R_4_1, R_4_2, R_23_0, R_23_1, R_23_2, R_58_0, R_58_1, R_58_2, R_58_3, R_58_4, R_64_0, R_66_0, R_68_0, R_68_1, R_68_2, R_68_3, R_72_0, R_122_0, R_122_1, R_122_2, R_122_3, R_122_4, R_122_5, R_122_6, R_122_7, R_122_8, R_122_9, R_122_10, R_122_11, R_122_12, R_122_13, R_122_14, R_122_15, R_122_16, R_122_17, R_122_19, R_122_20, R_122_21, R_122_22, R_122_23, R_122_24, R_122_25, R_122_26, R_122_27, R_122_28, R_122_29, R_122_30, R_122_31, R_122_33, R_122_34, R_122_35, R_122_36, R_122_37, R_122_39, R_122_41, true_and, and_true, eB, decide_true, decide_false, Bool.or_true, Bool.true_or, not_true_eq_false, not_false_eq_true, j1, j2, j3, j4, j5, d1, d2, d3, d4, d5, g0, g1, g2, g3, g4, g5]
  unfold aSend aCk
  generalize eup (eup I 134 (128 * (5 * w + z) + e) (gRm (k, l, c, n))) 133 (5 * w + z) (I 133 (5 * w + z) + 1) = M at hP ⊢
  have hcase : k = 0 ∨ k = 1 ∨ k = 2 ∨ k = 3 ∨ k = 4 ∨ k = 5 ∨ (¬ k = 0 ∧ ¬ k = 1 ∧ ¬ k = 2 ∧ ¬ k = 3 ∧ ¬ k = 4 ∧ ¬ k = 5) := by omega
  rcases hcase with q | q | q | q | q | q | ⟨q0, q1, q2, q3, q4, q5⟩
  · subst q
    exact r_ret (RF_c0 (RF_c0 (RF_c0 (RF_c0 (RF_c1 hP)))))
  · subst q
    exact r_ret (RF_c0 (RF_c0 (RF_c0 (RF_c1 (RF_c0 hP)))))
  · subst q
    exact r_ret (RF_c0 (RF_c0 (RF_c1 (RF_c0 (RF_c0 hP)))))
  · subst q
    exact r_ret (RF_c1 (RF_c0 (RF_c0 (RF_c0 (RF_c0 hP)))))
  · subst q
    exact r_ret (RF_c1 (RF_c0 (RF_c0 (RF_c0 (RF_c0 hP)))))
  · subst q
    exact r_ret (RF_c0 (RF_c1 (RF_c0 (RF_c0 (RF_c0 hP)))))
  · simp only [q0, q1, q2, q3, q4, q5, not_false_eq_true, ↓reduceIte, false_or]
    exact r_ret (RF_c0 (RF_c0 (RF_c0 (RF_c0 (RF_c0 hP)))))
end EPS
