/-! the reference's calls: drain, end, deliver, pump -/
section EPT
variable {I I0 : Nat → Nat → Int32} {J : Nat → Nat → Int64} {a b : aS} {r i l q c k n p : Nat} {v t x y : Int32} {m : aM}
theorem rs_sh1 {b N : Nat} {a2 : aS} (hc : c < 4) (hb : b < 4) (hk : k < b) (e : a.1 142 c = Int32.ofNat b) (h : RF I0 I a) (hN : n + 1 ≤ N)
    (H : ∀ N I1, n ≤ N → RF I0 I1 (aShf1 a c k) → rOk (f_X12_drain_100 N 122 (Int32.ofNat c) (Int32.ofNat (4 * c + (k + 1))) (I1, J)) I0 J 1 a2) :
    rOk (f_X12_drain_100 N 122 (Int32.ofNat c) (Int32.ofNat (4 * c + k)) (I, J)) I0 J 1 a2 := by
  obtain ⟨N, rfl⟩ := Nat.exists_eq_add_of_le hN
  rw [show n + 1 + N = n + N + 1 by omega, f_X12_drain_100]
  have ht : (Int32.ofNat c).toNatClampNeg = c := i_tn (by omega)
  have hi : eix (Int32.ofNat c) 4 = true := i_ix hc (by decide)
  have e0 : I 142 c = Int32.ofNat b := (R_get h (by unfold aSc; omega)).trans e
  have e1 : I 143 (4 * c + (k + 1)) = a.1 143 (4 * c + (k + 1)) := R_get h (by unfold aSc; omega)
  have e2 : eup I 143 (4 * c + k) (a.1 143 (4 * c + (k + 1))) 144 (4 * c + (k + 1)) = a.1 144 (4 * c + (k + 1)) := by
    rw [up_r (by decide)]
    exact R_get h (by unfold aSc; omega)
  have g1 : (Int32.ofNat (4 * c + b) ≤ Int32.ofNat (4 * c + k)) = False := (i_le (by omega) (by omega)).trans (eq_false (by omega))
  have g2 : eix (Int32.ofNat (4 * c + k)) 16 = true := i_ix (by omega) (by decide)
  have g3 : (Int32.ofNat (4 * c + k)).toNatClampNeg = 4 * c + k := i_tn (by omega)
  have g4 : eix (Int32.ofNat (4 * c + (k + 1))) 16 = true := i_ix (by omega) (by decide)
  have g5 : (Int32.ofNat (4 * c + (k + 1))).toNatClampNeg = 4 * c + (k + 1) := i_tn (by omega)
  have g6 : (Int32.ofNat k < Int32.ofNat b) = True := eq_true ((i_lt (by omega) (by omega)).mpr hk)
  have g7 : Int32.ofNat (4 * c + k) + 1 = Int32.ofNat (4 * c + (k + 1)) := i_ad
  simp only [eLet, Option.bind_some, ↓reduceIte, K_2, K_3, K_4, K_5, K_21, K_22, K_23, K_24, K_57, K_58, K_59, K_60, K_61, K_62, K_63, K_64, K_65, K_66, K_67, K_68, K_69, K_70, K_71, K_72, K_73, K_122, K_123, K_124, K_125, K_126, K_127, K_128, K_129, K_130, K_131, K_132, K_133, K_134, K_135, K_136, K_137, K_138, K_139, K_140, K_141, K_142, K_143, K_144, K_145, K_146, K_147, K_148, K_149, K_150, K_151, K_152, K_153, K_154, K_155, K_156, K_157, K_158, K_159, K_160, K_161, R_2_0, R_2_1, R_2_2, R_2_3, R_2_4, R_2_5, R_2_6, R_2_7, R_4_0, R_4_1, R_4_2, R_23_0, R_23_1, R_23_2, R_58_0, R_58_1, R_58_2, R_58_3, R_58_4, R_64_0, R_66_0, R_68_0, R_68_1, R_68_2, R_68_3, R_72_0, R_122_0, R_122_1, R_122_2, R_122_3, R_122_4, R_122_5, R_122_6, R_122_7, R_122_8, R_122_9, R_122_10, R_122_11, R_122_12, R_122_13, R_122_14, R_122_15, R_122_16, R_122_17, R_122_19, R_122_20, R_122_21, R_122_22, R_122_23, R_122_24, R_122_25, R_122_26, R_122_27, R_122_28, R_122_29, R_122_30, R_122_31, R_122_33, R_122_34, R_122_35, R_122_36, R_122_37, R_122_39, R_122_41, true_and, and_true, eB, decide_true, decide_false, Bool.or_true, Bool.true_or, not_true_eq_false, not_false_eq_true, ht, hi, e0, m4, i_ad, g1, g2, g3, g4, g5, g7, e1, e2]
  refine H _ _ (by omega) ?_
  unfold aShf1
  rw [e, if_pos (by rw [g6]; trivial)]
  exact RF_w (RF_w h (by unfold aSc; omega)) (by unfold aSc; omega)
theorem rs_sh0 {b N : Nat} (hc : c < 4) (hb : b < 4) (e : a.1 142 c = Int32.ofNat b) (h : RF I0 I a) (hN : 1 ≤ N) :
    rOk (f_X12_drain_100 N 122 (Int32.ofNat c) (Int32.ofNat (4 * c + b)) (I, J)) I0 J 1 a := by
  obtain ⟨N, rfl⟩ := Nat.exists_eq_add_of_le hN
  rw [show 1 + N = N + 1 by omega, f_X12_drain_100]
  have ht : (Int32.ofNat c).toNatClampNeg = c := i_tn (by omega)
  have hi : eix (Int32.ofNat c) 4 = true := i_ix hc (by decide)
  have e0 : I 142 c = Int32.ofNat b := (R_get h (by unfold aSc; omega)).trans e
  have g1 : (Int32.ofNat (4 * c + b) ≤ Int32.ofNat (4 * c + b)) = True := eq_true ((i_le (by omega) (by omega)).mpr (Nat.le_refl _))
  simp only [eLet, Option.bind_some, ↓reduceIte, K_2, K_3, K_4, K_5, K_21, K_22, K_23, K_24, K_57, K_58, K_59, K_60, K_61, K_62, K_63, K_64, K_65, K_66, K_67, K_68, K_69, K_70, K_71, K_72, K_73, K_122, K_123, K_124, K_125, K_126, K_127, K_128, K_129, K_130, K_131, K_132, K_133, K_134, K_135, K_136, K_137, K_138, K_139, K_140, K_141, K_142, K_143, K_144, K_145, K_146, K_147, K_148, K_149, K_150, K_151, K_152, K_153, K_154, K_155, K_156, K_157, K_158, K_159, K_160, K_161, R_2_0, R_2_1, R_2_2, R_2_3, R_2_4, R_2_5, R_2_6, R_2_7, R_4_0, R_4_1, R_4_2, R_23_0, R_23_1, R_23_2, R_58_0, R_58_1, R_58_2, R_58_3, R_58_4, R_64_0, R_66_0, R_68_0, R_68_1, R_68_2, R_68_3, R_72_0, R_122_0, R_122_1, R_122_2, R_122_3, R_122_4, R_122_5, R_122_6, R_122_7, R_122_8, R_122_9, R_122_10, R_122_11, R_122_12, R_122_13, R_122_14, R_122_15, R_122_16, R_122_17, R_122_19, R_122_20, R_122_21, R_122_22, R_122_23, R_122_24, R_122_25, R_122_26, R_122_27, R_122_28, R_122_29, R_122_30, R_122_31, R_122_33, R_122_34, R_122_35, R_122_36, R_122_37, R_122_39, R_122_41, true_and, and_true, eB, decide_true, decide_false, Bool.or_true, Bool.true_or, not_true_eq_false, not_false_eq_true, ht, hi, e0, m4, i_ad, g1]
  exact r_ret h
theorem aShf1_no {b : Nat} (hb : b < 4) (hk : k < 4) (e : a.1 142 c = Int32.ofNat b) (hkb : b ≤ k) : aShf1 a c k = a := by
  unfold aShf1
  rw [if_neg]
  intro q
  rw [e, i_lt (by omega) (by omega)] at q
  omega
theorem aShf1_1 (h1 : ¬ r = 143) (h2 : ¬ r = 144) : (aShf1 a c k).1 r = a.1 r := by
  unfold aShf1
  split
  · rw [aW_1 h2, aW_1 h1]
  · rfl
theorem rs_shift {b : Nat} (hc : c < 4) (hb : b < 4) (e : a.1 142 c = Int32.ofNat (b + 1)) (h : RF I0 I (aW a 142 c (a.1 142 c - 1))) :
    rOk (f_X12_drain_100 1000000 122 (Int32.ofNat c) (Int32.ofNat (4 * c)) (I, J)) I0 J 1 (aShf a c) := by
  have e0 : (aW a 142 c (a.1 142 c - 1)).1 142 c = Int32.ofNat b := by
    rw [aW_e, e]
    exact i_sb (n := b + 1) (m := 1) (by omega)
  unfold aShf
  generalize aW a 142 c (a.1 142 c - 1) = a1 at h e0
  have e1 : (aShf1 a1 c 0).1 142 c = Int32.ofNat b := by rw [aShf1_1 (by decide) (by decide)]; exact e0
  have e2 : (aShf1 (aShf1 a1 c 0) c 1).1 142 c = Int32.ofNat b := by rw [aShf1_1 (by decide) (by decide)]; exact e1
  have e3 : (aShf1 (aShf1 (aShf1 a1 c 0) c 1) c 2).1 142 c = Int32.ofNat b := by rw [aShf1_1 (by decide) (by decide)]; exact e2
  show rOk (f_X12_drain_100 1000000 122 (Int32.ofNat c) (Int32.ofNat (4 * c + 0)) (I, J)) I0 J 1 _
  have hcs : b = 0 ∨ b = 1 ∨ b = 2 ∨ b = 3 := by omega
  rcases hcs with q | q | q | q <;> subst q
  · rw [aShf1_no (k := 2) (by decide) (by decide) e2 (by decide), aShf1_no (k := 1) (by decide) (by decide) e1 (by decide), aShf1_no (k := 0) (by decide) (by decide) e0 (by decide)]
    exact rs_sh0 hc (by decide) e0 h (by decide)
  · rw [aShf1_no (k := 2) (by decide) (by decide) e2 (by decide), aShf1_no (k := 1) (by decide) (by decide) e1 (by decide)]
    refine rs_sh1 (k := 0) (n := 100) hc (by decide) (by decide) e0 h (by decide) (fun N1 I1 hN1 h1 => ?_)
    exact rs_sh0 hc (by decide) e1 h1 (by omega)
  · rw [aShf1_no (k := 2) (by decide) (by decide) e2 (by decide)]
    refine rs_sh1 (k := 0) (n := 100) hc (by decide) (by decide) e0 h (by decide) (fun N1 I1 hN1 h1 => ?_)
    refine rs_sh1 (k := 1) (n := 90) hc (by decide) (by decide) e1 h1 (by omega) (fun N2 I2 hN2 h2 => ?_)
    exact rs_sh0 hc (by decide) e2 h2 (by omega)
  · refine rs_sh1 (k := 0) (n := 100) hc (by decide) (by decide) e0 h (by decide) (fun N1 I1 hN1 h1 => ?_)
    refine rs_sh1 (k := 1) (n := 90) hc (by decide) (by decide) e1 h1 (by omega) (fun N2 I2 hN2 h2 => ?_)
    refine rs_sh1 (k := 2) (n := 80) hc (by decide) (by decide) e2 h2 (by omega) (fun N3 I3 hN3 h3 => ?_)
    exact rs_sh0 hc (by decide) e3 h3 (by omega)
theorem aUse_w {P : Nat} (h1 : ¬ r = 122) (h2 : ¬ r = 138) : (aUse a P).1 r = a.1 r := aUse_1 h1 h2
theorem aChg_1 {P : Nat} (h1 : ¬ r = 136) (h2 : ¬ r = 137) (h3 : ¬ r = 122) (h4 : ¬ r = 138) : (aChg a P v).1 r = a.1 r := by
  unfold aChg
  rw [aUse_1 h3 h4, aW_1 h2, aW_1 h1]
theorem aChg_136 {P : Nat} : (aChg a P v).1 136 = eup a.1 136 P 3 136 := by
  unfold aChg
  rw [aUse_1 (by decide) (by decide), aW_1 (by decide)]
  rfl
theorem aChg_137 {P : Nat} : (aChg a P v).1 137 = eup a.1 137 P v 137 := by
  unfold aChg
  rw [aUse_1 (by decide) (by decide)]
  funext i
  by_cases g : i = P
  · subst g
    rw [aW_e, up_eq]
  · rw [aW_k g, aW_1 (by decide), up_k g]
theorem aChg_2 {P : Nat} : (aChg a P v).2 = a.2 := rfl
set_option maxRecDepth 20000 in
theorem rs_drain (hc : c < 4) (hF : cF a c) (hB : bF a c) (hq : (a.2 4).length < 126) (h : RepR I a) :
    rOp (f_X12_drain 122 (Int32.ofNat c) (I, J)) I J (aDrain a c) := by
  have ht : (Int32.ofNat c).toNatClampNeg = c := i_tn (by omega)
  have hi : eix (Int32.ofNat c) 4 = true := i_ix hc (by decide)
  have h10 : ¬ (1 : Int32) = 0 := by decide
  have h0 : RF (eup I 122 32 0) (eup I 122 32 0) a := RF_th h
  have e1 : eup I 122 32 0 142 c = a.1 142 c := R_get h0 (by unfold aSc; omega)
  have e2 : eup I 122 32 0 143 (4 * c) = a.1 143 (4 * c) := R_get h0 (by unfold aSc; omega)
  have e3 : eup I 122 32 0 144 (4 * c) = a.1 144 (4 * c) := R_get h0 (by unfold aSc; omega)
  have g1 : eix (Int32.ofNat (4 * c)) 16 = true := i_ix (by omega) (by decide)
  have g2 : (Int32.ofNat (4 * c)).toNatClampNeg = 4 * c := i_tn (by omega)
  obtain ⟨b, hb4, eb, hbb⟩ := hB
  unfold f_X12_drain aDrain f_X12_drain_20
  simp only [rs_isCore hc, Option.bind_some, eLet, Option.bind_some, ↓reduceIte, K_2, K_3, K_4, K_5, K_21, K_22, K_23, K_24, K_57, K_58, K_59, K_60, K_61, K_62, K_63, K_64, K_65, K_66, K_67, K_68, K_69, K_70, K_71, K_72, K_73, K_122, K_123, K_124, K_125, K_126, K_127, K_128, K_129, K_130, K_131, K_132, K_133, K_134, K_135, K_136, K_137, K_138, K_139, K_140, K_141, K_142, K_143, K_144, K_145, K_146, K_147, K_148, K_149, K_150, K_151, K_152, K_153, K_154, K_155, K_156, K_157, K_158, K_159, K_160, K_161, R_2_0, R_2_1, R_2_2, R_2_3, R_2_4, R_2_5, R_2_6, R_2_7, R_4_0, R_4_1, R_4_2, R_23_0, R_23_1, R_23_2, R_58_0, R_58_1, R_58_2, R_58_3, R_58_4, R_64_0, R_66_0, R_68_0, R_68_1, R_68_2, R_68_3, R_72_0, R_122_0, R_122_1, R_122_2, R_122_3, R_122_4, R_122_5, R_122_6, R_122_7, R_122_8, R_122_9, R_122_10, R_122_11, R_122_12, R_122_13, R_122_14, R_122_15, R_122_16, R_122_17, R_122_19, R_122_20, R_122_21, R_122_22, R_122_23, R_122_24, R_122_25, R_122_26, R_122_27, R_122_28, R_122_29, R_122_30, R_122_31, R_122_33, R_122_34, R_122_35, R_122_36, R_122_37, R_122_39, R_122_41, true_and, and_true, eB, decide_true, decide_false, Bool.or_true, Bool.true_or, not_true_eq_false, not_false_eq_true]
  simp only [rs_asks1, Option.bind_some, h10, ht, hi, ↓reduceIte, e1]
  by_cases q1 : a.1 142 c = 0
  · simp only [q1, not_true_eq_false, ↓reduceIte]
    exact rOp_of (r_ret h0)
  · have hb0 : ¬ b = 0 := fun q => q1 (by rw [eb, q]; rfl)
    obtain ⟨⟨l, hl, el⟩, hv⟩ := hbb 0 (by omega)
    have el : a.1 143 (4 * c) = Int32.ofNat l := el
    have e4 : aNt (Int32.ofNat l) = l := i_tn (by omega)
    simp only [q1, not_false_eq_true, ↓reduceIte, m4, g1, g2, e2, el, e4, rs_stateAt hc hF h0, rs_place hc hF.2 h0, rs_owned, Option.bind_some]
    unfold aStAt
    cases hp : aPl a c l with
    | none =>
      have : aOwn 0 = false := by decide
      simp only [this, Bool.false_eq_true, ↓reduceIte, not_true_eq_false]
      refine rOp_of (r_bind (rs_asks (w := true) hc hl hF hq h0) (fun I1 h1 => ?_))
      simp only [Bool.true_eq_false, and_false, ↓reduceIte]
      unfold f_X12_drain_66 f_X12_drain_67
      simp only [eLet, Option.bind_some, ↓reduceIte, K_2, K_3, K_4, K_5, K_21, K_22, K_23, K_24, K_57, K_58, K_59, K_60, K_61, K_62, K_63, K_64, K_65, K_66, K_67, K_68, K_69, K_70, K_71, K_72, K_73, K_122, K_123, K_124, K_125, K_126, K_127, K_128, K_129, K_130, K_131, K_132, K_133, K_134, K_135, K_136, K_137, K_138, K_139, K_140, K_141, K_142, K_143, K_144, K_145, K_146, K_147, K_148, K_149, K_150, K_151, K_152, K_153, K_154, K_155, K_156, K_157, K_158, K_159, K_160, K_161, R_2_0, R_2_1, R_2_2, R_2_3, R_2_4, R_2_5, R_2_6, R_2_7, R_4_0, R_4_1, R_4_2, R_23_0, R_23_1, R_23_2, R_58_0, R_58_1, R_58_2, R_58_3, R_58_4, R_64_0, R_66_0, R_68_0, R_68_1, R_68_2, R_68_3, R_72_0, R_122_0, R_122_1, R_122_2, R_122_3, R_122_4, R_122_5, R_122_6, R_122_7, R_122_8, R_122_9, R_122_10, R_122_11, R_122_12, R_122_13, R_122_14, R_122_15, R_122_16, R_122_17, R_122_19, R_122_20, R_122_21, R_122_22, R_122_23, R_122_24, R_122_25, R_122_26, R_122_27, R_122_28, R_122_29, R_122_30, R_122_31, R_122_33, R_122_34, R_122_35, R_122_36, R_122_37, R_122_39, R_122_41, true_and, and_true, eB, decide_true, decide_false, Bool.or_true, Bool.true_or, not_true_eq_false, not_false_eq_true]
      exact r_ret h1
    | some p =>
      have hp4 := aPl_lt hp
      by_cases q6 : aOwn (a.1 136 (4 * c + p)) = true
      · simp only [q6, ↓reduceIte, h10, not_false_eq_true, oI, e3]
        refine rOp_of (r_bind (rs_changes (by omega) h0) (fun I1 h1 => ?_))
        have e5 : I1 142 c = (aChg a (4 * c + p) (a.1 144 (4 * c))).1 142 c := R_get h1 (by unfold aSc; omega)
        have e6 : (aChg a (4 * c + p) (a.1 144 (4 * c))).1 142 c = Int32.ofNat (b - 1 + 1) := by
          rw [aChg_1 (by decide) (by decide) (by decide) (by decide), eb, show b - 1 + 1 = b by omega]
        simp only [eLet, Option.bind_some, ↓reduceIte, K_2, K_3, K_4, K_5, K_21, K_22, K_23, K_24, K_57, K_58, K_59, K_60, K_61, K_62, K_63, K_64, K_65, K_66, K_67, K_68, K_69, K_70, K_71, K_72, K_73, K_122, K_123, K_124, K_125, K_126, K_127, K_128, K_129, K_130, K_131, K_132, K_133, K_134, K_135, K_136, K_137, K_138, K_139, K_140, K_141, K_142, K_143, K_144, K_145, K_146, K_147, K_148, K_149, K_150, K_151, K_152, K_153, K_154, K_155, K_156, K_157, K_158, K_159, K_160, K_161, R_2_0, R_2_1, R_2_2, R_2_3, R_2_4, R_2_5, R_2_6, R_2_7, R_4_0, R_4_1, R_4_2, R_23_0, R_23_1, R_23_2, R_58_0, R_58_1, R_58_2, R_58_3, R_58_4, R_64_0, R_66_0, R_68_0, R_68_1, R_68_2, R_68_3, R_72_0, R_122_0, R_122_1, R_122_2, R_122_3, R_122_4, R_122_5, R_122_6, R_122_7, R_122_8, R_122_9, R_122_10, R_122_11, R_122_12, R_122_13, R_122_14, R_122_15, R_122_16, R_122_17, R_122_19, R_122_20, R_122_21, R_122_22, R_122_23, R_122_24, R_122_25, R_122_26, R_122_27, R_122_28, R_122_29, R_122_30, R_122_31, R_122_33, R_122_34, R_122_35, R_122_36, R_122_37, R_122_39, R_122_41, true_and, and_true, eB, decide_true, decide_false, Bool.or_true, Bool.true_or, not_true_eq_false, not_false_eq_true, ht, hi, e5]
        exact rs_shift hc (by omega) e6 (RF_w h1 (by unfold aSc; omega))
      · simp only [q6, ↓reduceIte, not_true_eq_false, Bool.false_eq_true]
        refine rOp_of (r_bind (rs_asks (w := true) hc hl hF hq h0) (fun I1 h1 => ?_))
        simp only [Bool.true_eq_false, and_false, ↓reduceIte]
        unfold f_X12_drain_66 f_X12_drain_67
        simp only [eLet, Option.bind_some, ↓reduceIte, K_2, K_3, K_4, K_5, K_21, K_22, K_23, K_24, K_57, K_58, K_59, K_60, K_61, K_62, K_63, K_64, K_65, K_66, K_67, K_68, K_69, K_70, K_71, K_72, K_73, K_122, K_123, K_124, K_125, K_126, K_127, K_128, K_129, K_130, K_131, K_132, K_133, K_134, K_135, K_136, K_137, K_138, K_139, K_140, K_141, K_142, K_143, K_144, K_145, K_146, K_147, K_148, K_149, K_150, K_151, K_152, K_153, K_154, K_155, K_156, K_157, K_158, K_159, K_160, K_161, R_2_0, R_2_1, R_2_2, R_2_3, R_2_4, R_2_5, R_2_6, R_2_7, R_4_0, R_4_1, R_4_2, R_23_0, R_23_1, R_23_2, R_58_0, R_58_1, R_58_2, R_58_3, R_58_4, R_64_0, R_66_0, R_68_0, R_68_1, R_68_2, R_68_3, R_72_0, R_122_0, R_122_1, R_122_2, R_122_3, R_122_4, R_122_5, R_122_6, R_122_7, R_122_8, R_122_9, R_122_10, R_122_11, R_122_12, R_122_13, R_122_14, R_122_15, R_122_16, R_122_17, R_122_19, R_122_20, R_122_21, R_122_22, R_122_23, R_122_24, R_122_25, R_122_26, R_122_27, R_122_28, R_122_29, R_122_30, R_122_31, R_122_33, R_122_34, R_122_35, R_122_36, R_122_37, R_122_39, R_122_41, true_and, and_true, eB, decide_true, decide_false, Bool.or_true, Bool.true_or, not_true_eq_false, not_false_eq_true]
        exact r_ret h1
theorem rs_drainN (hb : x < 0 ∨ 4 ≤ x) (h : RepR I a) : rOp (f_X12_drain 122 x (I, J)) I J (1, 0, a) := by
  unfold f_X12_drain f_X12_drain_20
  simp only [rs_isCoreN hb, Option.bind_some, eLet, Option.bind_some, ↓reduceIte, K_2, K_3, K_4, K_5, K_21, K_22, K_23, K_24, K_57, K_58, K_59, K_60, K_61, K_62, K_63, K_64, K_65, K_66, K_67, K_68, K_69, K_70, K_71, K_72, K_73, K_122, K_123, K_124, K_125, K_126, K_127, K_128, K_129, K_130, K_131, K_132, K_133, K_134, K_135, K_136, K_137, K_138, K_139, K_140, K_141, K_142, K_143, K_144, K_145, K_146, K_147, K_148, K_149, K_150, K_151, K_152, K_153, K_154, K_155, K_156, K_157, K_158, K_159, K_160, K_161, R_2_0, R_2_1, R_2_2, R_2_3, R_2_4, R_2_5, R_2_6, R_2_7, R_4_0, R_4_1, R_4_2, R_23_0, R_23_1, R_23_2, R_58_0, R_58_1, R_58_2, R_58_3, R_58_4, R_64_0, R_66_0, R_68_0, R_68_1, R_68_2, R_68_3, R_72_0, R_122_0, R_122_1, R_122_2, R_122_3, R_122_4, R_122_5, R_122_6, R_122_7, R_122_8, R_122_9, R_122_10, R_122_11, R_122_12, R_122_13, R_122_14, R_122_15, R_122_16, R_122_17, R_122_19, R_122_20, R_122_21, R_122_22, R_122_23, R_122_24, R_122_25, R_122_26, R_122_27, R_122_28, R_122_29, R_122_30, R_122_31, R_122_33, R_122_34, R_122_35, R_122_36, R_122_37, R_122_39, R_122_41, true_and, and_true, eB, decide_true, decide_false, Bool.or_true, Bool.true_or, not_true_eq_false, not_false_eq_true]
  simp only [rs_asks0, Option.bind_some, ↓reduceIte]
  exact rOp_of (r_ret (RF_th h))
theorem rs_are (hc : c < 4) (hF : cF a c) (h : RF I0 I a) : ∀ d k N (s : Bool), k + d = 16 → 5 * d + 1 ≤ N →
    f_X12_end_L71 N (.inl (122, Int32.ofNat c, if s = true then 1 else 0, Int32.ofNat k)) (I, J) = f_X12_end_L120 1000000 (.inl (122, Int32.ofNat c, if aAreN a c d k s = true then 1 else 0, 0)) (I, J) := by
  intro d
  have ht : (Int32.ofNat c).toNatClampNeg = c := i_tn (by omega)
  have hi : eix (Int32.ofNat c) 4 = true := i_ix hc (by decide)
  have h10 : ¬ (1 : Int32) = 0 := by decide
  induction d with
  | zero =>
    intro k N s h1 h2
    obtain ⟨N, rfl⟩ := Nat.exists_eq_add_of_le h2
    have : k = 16 := by omega
    subst this
    rw [show 5 * 0 + 1 + N = N + 1 by omega, f_X12_end_L71]
    have g1 : ((16 : Int32) ≤ Int32.ofNat 16) = True := eq_true (by decide)
    simp only [g1, ↓reduceIte]
    rfl
  | succ d ih =>
    intro k N s h1 h2
    obtain ⟨N, rfl⟩ := Nat.exists_eq_add_of_le h2
    rw [show 5 * (d + 1) + 1 + N = 5 * d + N + 5 + 1 by omega, f_X12_end_L71]
    have g1 : ((16 : Int32) ≤ Int32.ofNat k) = False := (i_le (n := 16) (by decide) (by omega)).trans (eq_false (by omega))
    have e1 : I 149 c = a.1 149 c := R_get h (by unfold aSc; omega)
    have K : ∀ s2 : Bool, f_X12_end_L71 (5 * d + N + 4) (.inr (.inr (.inr (122, Int32.ofNat c, Int32.ofNat k, if s2 = true then 1 else 0)))) (I, J) = f_X12_end_L120 1000000 (.inl (122, Int32.ofNat c, if aAreN a c d (k + 1) s2 = true then 1 else 0, 0)) (I, J) := by
      intro s2
      rw [f_X12_end_L71, p1]
      exact ih (k + 1) _ s2 (by omega) (by omega)
    have K0 : f_X12_end_L71 (5 * d + N + 5) (.inr (.inr (.inl (122, Int32.ofNat c, Int32.ofNat k)))) (I, J) = f_X12_end_L120 1000000 (.inl (122, Int32.ofNat c, if aAreN a c d (k + 1) false = true then 1 else 0, 0)) (I, J) := by
      rw [f_X12_end_L71]
      exact K false
    have K1 : f_X12_end_L71 (5 * d + N + 5) (.inr (.inl (122, Int32.ofNat c, Int32.ofNat k))) (I, J) = f_X12_end_L120 1000000 (.inl (122, Int32.ofNat c, if aAreN a c d (k + 1) true = true then 1 else 0, 0)) (I, J) := by
      rw [f_X12_end_L71]
      exact K true
    unfold aAreN
    cases s with
    | false =>
      simp only [g1, ↓reduceIte, Bool.false_eq_true, Bool.false_and]
      exact K0
    | true =>
      simp only [g1, ↓reduceIte, Bool.true_and, h10, K_2, K_3, K_4, K_5, K_21, K_22, K_23, K_24, K_57, K_58, K_59, K_60, K_61, K_62, K_63, K_64, K_65, K_66, K_67, K_68, K_69, K_70, K_71, K_72, K_73, K_122, K_123, K_124, K_125, K_126, K_127, K_128, K_129, K_130, K_131, K_132, K_133, K_134, K_135, K_136, K_137, K_138, K_139, K_140, K_141, K_142, K_143, K_144, K_145, K_146, K_147, K_148, K_149, K_150, K_151, K_152, K_153, K_154, K_155, K_156, K_157, K_158, K_159, K_160, K_161, R_2_0, R_2_1, R_2_2, R_2_3, R_2_4, R_2_5, R_2_6, R_2_7, R_4_0, R_4_1, R_4_2, R_23_0, R_23_1, R_23_2, R_58_0, R_58_1, R_58_2, R_58_3, R_58_4, R_64_0, R_66_0, R_68_0, R_68_1, R_68_2, R_68_3, R_72_0, R_122_0, R_122_1, R_122_2, R_122_3, R_122_4, R_122_5, R_122_6, R_122_7, R_122_8, R_122_9, R_122_10, R_122_11, R_122_12, R_122_13, R_122_14, R_122_15, R_122_16, R_122_17, R_122_19, R_122_20, R_122_21, R_122_22, R_122_23, R_122_24, R_122_25, R_122_26, R_122_27, R_122_28, R_122_29, R_122_30, R_122_31, R_122_33, R_122_34, R_122_35, R_122_36, R_122_37, R_122_39, R_122_41, ht, hi, e1, and_self]
      unfold aOwd
      by_cases q : aBit (a.1 149 c) k = true
      · simp only [q, aBit_n0 q, ↓reduceIte, rs_stateAt hc hF h, Option.bind_some, rs_owned, Bool.not_true, Bool.false_or]
        by_cases q2 : aOwn (aStAt a c k) = true
        · simp only [q2, ↓reduceIte, h10]
          exact K1
        · simp only [q2, ↓reduceIte, Bool.false_eq_true]
          exact K0
      · simp only [q, aBit_0 q, ↓reduceIte, Bool.not_false, Bool.true_or]
        exact K1
end EPT
