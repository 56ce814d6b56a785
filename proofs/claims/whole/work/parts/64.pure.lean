/-! the reference's calls: load, store, drain, fence, add, begin -/
section EPT
variable {I I0 : Nat → Nat → Int32} {J : Nat → Nat → Int64} {a b : aS} {r i l q c k n p : Nat} {v t x y : Int32} {m : aM}
theorem RF_self (h : RepR I a) : RF I I a := ⟨h, fun _ _ => rfl, fun _ _ => rfl⟩
set_option maxRecDepth 20000 in
theorem rs_load (hc : c < 4) (hl : l < 16) (hF : cF a c) (hB : bF a c) (hq : (a.2 4).length < 126) (h : RepR I a) :
    rOp (f_X12_load 122 (Int32.ofNat c) (Int32.ofNat l) (I, J)) I J (aLoad a c l) := by
  have ht : (Int32.ofNat c).toNatClampNeg = c := i_tn (by omega)
  have hi : eix (Int32.ofNat c) 4 = true := i_ix hc (by decide)
  have h10 : ¬ (1 : Int32) = 0 := by decide
  have h0 : RF (eup I 122 32 0) (eup I 122 32 0) a := RF_th h
  have e1 : eup I 122 32 0 145 c = a.1 145 c := R_get h0 (by unfold aSc; omega)
  have e2 : eup I 122 32 0 149 c = a.1 149 c := R_get h0 (by unfold aSc; omega)
  have e3 : eup I 122 32 0 150 (16 * c + l) = a.1 150 (16 * c + l) := R_get h0 (by unfold aSc; omega)
  have g1 : eix (Int32.ofNat (16 * c + l)) 64 = true := i_ix (by omega) (by decide)
  have g2 : (Int32.ofNat (16 * c + l)).toNatClampNeg = 16 * c + l := i_tn (by omega)
  have j0 : eix (0 : Int32) 10 = true := rfl
  have d0 : (0 : Int32).toNatClampNeg = 0 := rfl
  have f61 : ∀ (o : aR), o = (if aBuf a c l = -1 then (match aPl a c l with
    | some p => if aWt (a.1 136 (4 * c + p)) = true then ((0, -1, aMiss a c l) : aR) else (0, a.1 137 (4 * c + p), aHitS a c l (4 * c + p))
    | none => (0, -1, aMiss a c l)) else (0, aBuf a c l, a)) → rOp (f_X12_load_61 122 (Int32.ofNat c) (Int32.ofNat l) (eup I 122 32 0, J)) I J o := by
    intro o ho
    subst ho
    unfold f_X12_load_61
    simp only [eLet, Option.bind_some, ↓reduceIte, K_2, K_3, K_4, K_5, K_21, K_22, K_23, K_24, K_57, K_58, K_59, K_60, K_61, K_62, K_63, K_64, K_65, K_66, K_67, K_68, K_69, K_70, K_71, K_72, K_73, K_122, K_123, K_124, K_125, K_126, K_127, K_128, K_129, K_130, K_131, K_132, K_133, K_134, K_135, K_136, K_137, K_138, K_139, K_140, K_141, K_142, K_143, K_144, K_145, K_146, K_147, K_148, K_149, K_150, K_151, K_152, K_153, K_154, K_155, K_156, K_157, K_158, K_159, K_160, K_161, R_2_0, R_2_1, R_2_2, R_2_3, R_2_4, R_2_5, R_2_6, R_2_7, R_4_0, R_4_1, R_4_2, R_23_0, R_23_1, R_23_2, R_58_0, R_58_1, R_58_2, R_58_3, R_58_4, R_64_0, R_66_0, R_68_0, R_68_1, R_68_2, R_68_3, R_72_0, R_122_0, R_122_1, R_122_2, R_122_3, R_122_4, R_122_5, R_122_6, R_122_7, R_122_8, R_122_9, R_122_10, R_122_11, R_122_12, R_122_13, R_122_14, R_122_15, R_122_16, R_122_17, R_122_19, R_122_20, R_122_21, R_122_22, R_122_23, R_122_24, R_122_25, R_122_26, R_122_27, R_122_28, R_122_29, R_122_30, R_122_31, R_122_33, R_122_34, R_122_35, R_122_36, R_122_37, R_122_39, R_122_41, true_and, and_true, eB, decide_true, decide_false, Bool.or_true, Bool.true_or, not_true_eq_false, not_false_eq_true, rs_buf hc hB h0, rs_place hc hF.2 h0]
    by_cases q1 : aBuf a c l = -1
    · simp only [q1, ↓reduceIte]
      cases hp : aPl a c l with
      | none =>
        simp only [oI, ↓reduceIte]
        exact rOp_of (rs_miss hc hl hF hq h0)
      | some p =>
        have hp4 := aPl_lt hp
        have hm : (Int32.ofNat (4 * c + p) = -1) = False := i_ne1 (by omega)
        have hx : eix (Int32.ofNat (4 * c + p)) 16 = true := i_ix (by omega) (by decide)
        have hy : (Int32.ofNat (4 * c + p)).toNatClampNeg = 4 * c + p := i_tn (by omega)
        have e4 : eup I 122 32 0 136 (4 * c + p) = a.1 136 (4 * c + p) := R_get h0 (by unfold aSc; omega)
        simp only [oI, hm, hx, hy, e4, eLet, Option.bind_some, ↓reduceIte, K_2, K_3, K_4, K_5, K_21, K_22, K_23, K_24, K_57, K_58, K_59, K_60, K_61, K_62, K_63, K_64, K_65, K_66, K_67, K_68, K_69, K_70, K_71, K_72, K_73, K_122, K_123, K_124, K_125, K_126, K_127, K_128, K_129, K_130, K_131, K_132, K_133, K_134, K_135, K_136, K_137, K_138, K_139, K_140, K_141, K_142, K_143, K_144, K_145, K_146, K_147, K_148, K_149, K_150, K_151, K_152, K_153, K_154, K_155, K_156, K_157, K_158, K_159, K_160, K_161, R_2_0, R_2_1, R_2_2, R_2_3, R_2_4, R_2_5, R_2_6, R_2_7, R_4_0, R_4_1, R_4_2, R_23_0, R_23_1, R_23_2, R_58_0, R_58_1, R_58_2, R_58_3, R_58_4, R_64_0, R_66_0, R_68_0, R_68_1, R_68_2, R_68_3, R_72_0, R_122_0, R_122_1, R_122_2, R_122_3, R_122_4, R_122_5, R_122_6, R_122_7, R_122_8, R_122_9, R_122_10, R_122_11, R_122_12, R_122_13, R_122_14, R_122_15, R_122_16, R_122_17, R_122_19, R_122_20, R_122_21, R_122_22, R_122_23, R_122_24, R_122_25, R_122_26, R_122_27, R_122_28, R_122_29, R_122_30, R_122_31, R_122_33, R_122_34, R_122_35, R_122_36, R_122_37, R_122_39, R_122_41, true_and, and_true, eB, decide_true, decide_false, Bool.or_true, Bool.true_or, not_true_eq_false, not_false_eq_true, rs_wait]
        by_cases q2 : aWt (a.1 136 (4 * c + p)) = true
        · simp only [q2, ↓reduceIte, h10, not_false_eq_true]
          exact rOp_of (rs_miss hc hl hF hq h0)
        · simp only [q2, ↓reduceIte, not_true_eq_false, Bool.false_eq_true]
          refine rOp_of (r_bind (rs_uses (by omega) h0) (fun I1 h1 => ?_))
          have h2 : RF (eup I 122 32 0) (eup I1 153 0 (I1 153 0 + 1)) (aC (aUse a (4 * c + p)) 0) := RF_c1 h1
          have e5 : eup I1 153 0 (I1 153 0 + 1) 145 c = a.1 145 c := by
            rw [R_get h2 (by unfold aSc; omega), aC_1 (by decide), aUse_1 (by decide) (by decide)]
          have e6 : eup I1 153 0 (I1 153 0 + 1) 148 c = a.1 148 c := by
            rw [R_get h2 (by unfold aSc; omega), aC_1 (by decide), aUse_1 (by decide) (by decide)]
          have e7 : eup I1 153 0 (I1 153 0 + 1) 137 (4 * c + p) = a.1 137 (4 * c + p) := by
            rw [R_get h2 (by unfold aSc; omega), aC_1 (by decide), aUse_1 (by decide) (by decide)]
          simp only [eLet, Option.bind_some, ↓reduceIte, K_2, K_3, K_4, K_5, K_21, K_22, K_23, K_24, K_57, K_58, K_59, K_60, K_61, K_62, K_63, K_64, K_65, K_66, K_67, K_68, K_69, K_70, K_71, K_72, K_73, K_122, K_123, K_124, K_125, K_126, K_127, K_128, K_129, K_130, K_131, K_132, K_133, K_134, K_135, K_136, K_137, K_138, K_139, K_140, K_141, K_142, K_143, K_144, K_145, K_146, K_147, K_148, K_149, K_150, K_151, K_152, K_153, K_154, K_155, K_156, K_157, K_158, K_159, K_160, K_161, R_2_0, R_2_1, R_2_2, R_2_3, R_2_4, R_2_5, R_2_6, R_2_7, R_4_0, R_4_1, R_4_2, R_23_0, R_23_1, R_23_2, R_58_0, R_58_1, R_58_2, R_58_3, R_58_4, R_64_0, R_66_0, R_68_0, R_68_1, R_68_2, R_68_3, R_72_0, R_122_0, R_122_1, R_122_2, R_122_3, R_122_4, R_122_5, R_122_6, R_122_7, R_122_8, R_122_9, R_122_10, R_122_11, R_122_12, R_122_13, R_122_14, R_122_15, R_122_16, R_122_17, R_122_19, R_122_20, R_122_21, R_122_22, R_122_23, R_122_24, R_122_25, R_122_26, R_122_27, R_122_28, R_122_29, R_122_30, R_122_31, R_122_33, R_122_34, R_122_35, R_122_36, R_122_37, R_122_39, R_122_41, true_and, and_true, eB, decide_true, decide_false, Bool.or_true, Bool.true_or, not_true_eq_false, not_false_eq_true, j0, d0, ht, hi, e5]
          unfold f_X12_load_141 aHitS
          by_cases q3 : a.1 145 c = 0
          · simp only [q3, ↓reduceIte, eLet, Option.bind_some, ↓reduceIte, K_2, K_3, K_4, K_5, K_21, K_22, K_23, K_24, K_57, K_58, K_59, K_60, K_61, K_62, K_63, K_64, K_65, K_66, K_67, K_68, K_69, K_70, K_71, K_72, K_73, K_122, K_123, K_124, K_125, K_126, K_127, K_128, K_129, K_130, K_131, K_132, K_133, K_134, K_135, K_136, K_137, K_138, K_139, K_140, K_141, K_142, K_143, K_144, K_145, K_146, K_147, K_148, K_149, K_150, K_151, K_152, K_153, K_154, K_155, K_156, K_157, K_158, K_159, K_160, K_161, R_2_0, R_2_1, R_2_2, R_2_3, R_2_4, R_2_5, R_2_6, R_2_7, R_4_0, R_4_1, R_4_2, R_23_0, R_23_1, R_23_2, R_58_0, R_58_1, R_58_2, R_58_3, R_58_4, R_64_0, R_66_0, R_68_0, R_68_1, R_68_2, R_68_3, R_72_0, R_122_0, R_122_1, R_122_2, R_122_3, R_122_4, R_122_5, R_122_6, R_122_7, R_122_8, R_122_9, R_122_10, R_122_11, R_122_12, R_122_13, R_122_14, R_122_15, R_122_16, R_122_17, R_122_19, R_122_20, R_122_21, R_122_22, R_122_23, R_122_24, R_122_25, R_122_26, R_122_27, R_122_28, R_122_29, R_122_30, R_122_31, R_122_33, R_122_34, R_122_35, R_122_36, R_122_37, R_122_39, R_122_41, true_and, and_true, eB, decide_true, decide_false, Bool.or_true, Bool.true_or, not_true_eq_false, not_false_eq_true, hx, hy, ht, hi, e6, Int32.or_zero]
            rw [up_self e6, e7]
            exact r_ret h2
          · simp only [q3, ↓reduceIte, eLet, Option.bind_some, ↓reduceIte, K_2, K_3, K_4, K_5, K_21, K_22, K_23, K_24, K_57, K_58, K_59, K_60, K_61, K_62, K_63, K_64, K_65, K_66, K_67, K_68, K_69, K_70, K_71, K_72, K_73, K_122, K_123, K_124, K_125, K_126, K_127, K_128, K_129, K_130, K_131, K_132, K_133, K_134, K_135, K_136, K_137, K_138, K_139, K_140, K_141, K_142, K_143, K_144, K_145, K_146, K_147, K_148, K_149, K_150, K_151, K_152, K_153, K_154, K_155, K_156, K_157, K_158, K_159, K_160, K_161, R_2_0, R_2_1, R_2_2, R_2_3, R_2_4, R_2_5, R_2_6, R_2_7, R_4_0, R_4_1, R_4_2, R_23_0, R_23_1, R_23_2, R_58_0, R_58_1, R_58_2, R_58_3, R_58_4, R_64_0, R_66_0, R_68_0, R_68_1, R_68_2, R_68_3, R_72_0, R_122_0, R_122_1, R_122_2, R_122_3, R_122_4, R_122_5, R_122_6, R_122_7, R_122_8, R_122_9, R_122_10, R_122_11, R_122_12, R_122_13, R_122_14, R_122_15, R_122_16, R_122_17, R_122_19, R_122_20, R_122_21, R_122_22, R_122_23, R_122_24, R_122_25, R_122_26, R_122_27, R_122_28, R_122_29, R_122_30, R_122_31, R_122_33, R_122_34, R_122_35, R_122_36, R_122_37, R_122_39, R_122_41, true_and, and_true, eB, decide_true, decide_false, Bool.or_true, Bool.true_or, not_true_eq_false, not_false_eq_true, hx, hy, ht, hi, e6]
            rw [up_r (by decide), e7]
            exact r_ret (RF_w h2 (by unfold aSc; omega))
    · simp only [q1, ↓reduceIte]
      exact rOp_of (r_ret h0)
  unfold f_X12_load aLoad
  simp only [eLet, Option.bind_some, ↓reduceIte, K_2, K_3, K_4, K_5, K_21, K_22, K_23, K_24, K_57, K_58, K_59, K_60, K_61, K_62, K_63, K_64, K_65, K_66, K_67, K_68, K_69, K_70, K_71, K_72, K_73, K_122, K_123, K_124, K_125, K_126, K_127, K_128, K_129, K_130, K_131, K_132, K_133, K_134, K_135, K_136, K_137, K_138, K_139, K_140, K_141, K_142, K_143, K_144, K_145, K_146, K_147, K_148, K_149, K_150, K_151, K_152, K_153, K_154, K_155, K_156, K_157, K_158, K_159, K_160, K_161, R_2_0, R_2_1, R_2_2, R_2_3, R_2_4, R_2_5, R_2_6, R_2_7, R_4_0, R_4_1, R_4_2, R_23_0, R_23_1, R_23_2, R_58_0, R_58_1, R_58_2, R_58_3, R_58_4, R_64_0, R_66_0, R_68_0, R_68_1, R_68_2, R_68_3, R_72_0, R_122_0, R_122_1, R_122_2, R_122_3, R_122_4, R_122_5, R_122_6, R_122_7, R_122_8, R_122_9, R_122_10, R_122_11, R_122_12, R_122_13, R_122_14, R_122_15, R_122_16, R_122_17, R_122_19, R_122_20, R_122_21, R_122_22, R_122_23, R_122_24, R_122_25, R_122_26, R_122_27, R_122_28, R_122_29, R_122_30, R_122_31, R_122_33, R_122_34, R_122_35, R_122_36, R_122_37, R_122_39, R_122_41, true_and, and_true, eB, decide_true, decide_false, Bool.or_true, Bool.true_or, not_true_eq_false, not_false_eq_true, rs_asksLine hc hl, h10, rs_full hc h0, rs_fails]
  by_cases q1 : aFull a c l = true
  · simp only [q1, ↓reduceIte, h10]
    exact rOp_fail h
  · simp only [q1, ↓reduceIte, Bool.false_eq_true, ht, hi, e1, e2, eLet, Option.bind_some, ↓reduceIte, K_2, K_3, K_4, K_5, K_21, K_22, K_23, K_24, K_57, K_58, K_59, K_60, K_61, K_62, K_63, K_64, K_65, K_66, K_67, K_68, K_69, K_70, K_71, K_72, K_73, K_122, K_123, K_124, K_125, K_126, K_127, K_128, K_129, K_130, K_131, K_132, K_133, K_134, K_135, K_136, K_137, K_138, K_139, K_140, K_141, K_142, K_143, K_144, K_145, K_146, K_147, K_148, K_149, K_150, K_151, K_152, K_153, K_154, K_155, K_156, K_157, K_158, K_159, K_160, K_161, R_2_0, R_2_1, R_2_2, R_2_3, R_2_4, R_2_5, R_2_6, R_2_7, R_4_0, R_4_1, R_4_2, R_23_0, R_23_1, R_23_2, R_58_0, R_58_1, R_58_2, R_58_3, R_58_4, R_64_0, R_66_0, R_68_0, R_68_1, R_68_2, R_68_3, R_72_0, R_122_0, R_122_1, R_122_2, R_122_3, R_122_4, R_122_5, R_122_6, R_122_7, R_122_8, R_122_9, R_122_10, R_122_11, R_122_12, R_122_13, R_122_14, R_122_15, R_122_16, R_122_17, R_122_19, R_122_20, R_122_21, R_122_22, R_122_23, R_122_24, R_122_25, R_122_26, R_122_27, R_122_28, R_122_29, R_122_30, R_122_31, R_122_33, R_122_34, R_122_35, R_122_36, R_122_37, R_122_39, R_122_41, true_and, and_true, eB, decide_true, decide_false, Bool.or_true, Bool.true_or, not_true_eq_false, not_false_eq_true]
    by_cases q2 : a.1 145 c = 0
    · simp only [q2, ↓reduceIte, not_true_eq_false, false_and]
      exact f61 _ rfl
    · by_cases q3 : aBit (a.1 149 c) l = true
      · simp only [q2, q3, ↓reduceIte, not_false_eq_true, and_self, aBit_t q3, not_true_eq_false, m16, i_ad, g1, g2, e3]
        exact rOp_of (r_ret h0)
      · simp only [q2, q3, ↓reduceIte, not_false_eq_true, and_false, aBit_f q3, Bool.false_eq_true]
        exact f61 _ rfl
set_option maxRecDepth 20000 in
theorem rs_loadN (hb : (x < 0 ∨ 4 ≤ x) ∨ (y < 0 ∨ 16 ≤ y)) (h : RepR I a) : rOp (f_X12_load 122 x y (I, J)) I J (1, 0, a) := by
  unfold f_X12_load
  simp only [eLet, Option.bind_some, ↓reduceIte, K_2, K_3, K_4, K_5, K_21, K_22, K_23, K_24, K_57, K_58, K_59, K_60, K_61, K_62, K_63, K_64, K_65, K_66, K_67, K_68, K_69, K_70, K_71, K_72, K_73, K_122, K_123, K_124, K_125, K_126, K_127, K_128, K_129, K_130, K_131, K_132, K_133, K_134, K_135, K_136, K_137, K_138, K_139, K_140, K_141, K_142, K_143, K_144, K_145, K_146, K_147, K_148, K_149, K_150, K_151, K_152, K_153, K_154, K_155, K_156, K_157, K_158, K_159, K_160, K_161, R_2_0, R_2_1, R_2_2, R_2_3, R_2_4, R_2_5, R_2_6, R_2_7, R_4_0, R_4_1, R_4_2, R_23_0, R_23_1, R_23_2, R_58_0, R_58_1, R_58_2, R_58_3, R_58_4, R_64_0, R_66_0, R_68_0, R_68_1, R_68_2, R_68_3, R_72_0, R_122_0, R_122_1, R_122_2, R_122_3, R_122_4, R_122_5, R_122_6, R_122_7, R_122_8, R_122_9, R_122_10, R_122_11, R_122_12, R_122_13, R_122_14, R_122_15, R_122_16, R_122_17, R_122_19, R_122_20, R_122_21, R_122_22, R_122_23, R_122_24, R_122_25, R_122_26, R_122_27, R_122_28, R_122_29, R_122_30, R_122_31, R_122_33, R_122_34, R_122_35, R_122_36, R_122_37, R_122_39, R_122_41, true_and, and_true, eB, decide_true, decide_false, Bool.or_true, Bool.true_or, not_true_eq_false, not_false_eq_true, rs_asksLineN hb]
  exact rOp_of (r_ret (RF_th h))
set_option maxRecDepth 20000 in
theorem rs_store (hc : c < 4) (hl : l < 16) (hB : bF a c) (h : RepR I a) :
    rOp (f_X12_store 122 (Int32.ofNat c) (Int32.ofNat l) v (I, J)) I J (aStore a c l v) := by
  have ht : (Int32.ofNat c).toNatClampNeg = c := i_tn (by omega)
  have hi : eix (Int32.ofNat c) 4 = true := i_ix hc (by decide)
  have h10 : ¬ (1 : Int32) = 0 := by decide
  have h0 : RF (eup I 122 32 0) (eup I 122 32 0) a := RF_th h
  have e1 : eup I 122 32 0 145 c = a.1 145 c := R_get h0 (by unfold aSc; omega)
  have e2 : eup I 122 32 0 149 c = a.1 149 c := R_get h0 (by unfold aSc; omega)
  have e3 : eup I 122 32 0 142 c = a.1 142 c := R_get h0 (by unfold aSc; omega)
  have g1 : eix (Int32.ofNat (16 * c + l)) 64 = true := i_ix (by omega) (by decide)
  have g2 : (Int32.ofNat (16 * c + l)).toNatClampNeg = 16 * c + l := i_tn (by omega)
  unfold f_X12_store aStore f_X12_store_22
  simp only [eLet, Option.bind_some, ↓reduceIte, K_2, K_3, K_4, K_5, K_21, K_22, K_23, K_24, K_57, K_58, K_59, K_60, K_61, K_62, K_63, K_64, K_65, K_66, K_67, K_68, K_69, K_70, K_71, K_72, K_73, K_122, K_123, K_124, K_125, K_126, K_127, K_128, K_129, K_130, K_131, K_132, K_133, K_134, K_135, K_136, K_137, K_138, K_139, K_140, K_141, K_142, K_143, K_144, K_145, K_146, K_147, K_148, K_149, K_150, K_151, K_152, K_153, K_154, K_155, K_156, K_157, K_158, K_159, K_160, K_161, R_2_0, R_2_1, R_2_2, R_2_3, R_2_4, R_2_5, R_2_6, R_2_7, R_4_0, R_4_1, R_4_2, R_23_0, R_23_1, R_23_2, R_58_0, R_58_1, R_58_2, R_58_3, R_58_4, R_64_0, R_66_0, R_68_0, R_68_1, R_68_2, R_68_3, R_72_0, R_122_0, R_122_1, R_122_2, R_122_3, R_122_4, R_122_5, R_122_6, R_122_7, R_122_8, R_122_9, R_122_10, R_122_11, R_122_12, R_122_13, R_122_14, R_122_15, R_122_16, R_122_17, R_122_19, R_122_20, R_122_21, R_122_22, R_122_23, R_122_24, R_122_25, R_122_26, R_122_27, R_122_28, R_122_29, R_122_30, R_122_31, R_122_33, R_122_34, R_122_35, R_122_36, R_122_37, R_122_39, R_122_41, true_and, and_true, eB, decide_true, decide_false, Bool.or_true, Bool.true_or, not_true_eq_false, not_false_eq_true, rs_asksLine hc hl, h10, rs_fails]
  by_cases q1 : v < 0
  · simp only [q1, ↓reduceIte, true_or]
    exact rOp_fail h
  · by_cases q2 : v ≤ 999
    · have q3 : ¬ 999 < v := by
        rw [Int32.le_iff_toInt_le] at q2
        rw [Int32.lt_iff_toInt_lt]
        omega
      simp only [q1, q2, q3, ↓reduceIte, or_self, ht, hi, e1, e2, e3, eLet, Option.bind_some, ↓reduceIte, K_2, K_3, K_4, K_5, K_21, K_22, K_23, K_24, K_57, K_58, K_59, K_60, K_61, K_62, K_63, K_64, K_65, K_66, K_67, K_68, K_69, K_70, K_71, K_72, K_73, K_122, K_123, K_124, K_125, K_126, K_127, K_128, K_129, K_130, K_131, K_132, K_133, K_134, K_135, K_136, K_137, K_138, K_139, K_140, K_141, K_142, K_143, K_144, K_145, K_146, K_147, K_148, K_149, K_150, K_151, K_152, K_153, K_154, K_155, K_156, K_157, K_158, K_159, K_160, K_161, R_2_0, R_2_1, R_2_2, R_2_3, R_2_4, R_2_5, R_2_6, R_2_7, R_4_0, R_4_1, R_4_2, R_23_0, R_23_1, R_23_2, R_58_0, R_58_1, R_58_2, R_58_3, R_58_4, R_64_0, R_66_0, R_68_0, R_68_1, R_68_2, R_68_3, R_72_0, R_122_0, R_122_1, R_122_2, R_122_3, R_122_4, R_122_5, R_122_6, R_122_7, R_122_8, R_122_9, R_122_10, R_122_11, R_122_12, R_122_13, R_122_14, R_122_15, R_122_16, R_122_17, R_122_19, R_122_20, R_122_21, R_122_22, R_122_23, R_122_24, R_122_25, R_122_26, R_122_27, R_122_28, R_122_29, R_122_30, R_122_31, R_122_33, R_122_34, R_122_35, R_122_36, R_122_37, R_122_39, R_122_41, true_and, and_true, eB, decide_true, decide_false, Bool.or_true, Bool.true_or, not_true_eq_false, not_false_eq_true]
      by_cases q4 : a.1 145 c = 0
      · simp only [q4, ↓reduceIte]
        by_cases q5 : a.1 142 c = 4
        · simp only [q5, ↓reduceIte, not_true_eq_false]
          exact rOp_fail h
        · obtain ⟨b, hb4, eb, _⟩ := hB
          have hbn : ¬ b = 4 := fun q => q5 (by rw [eb, q]; rfl)
          have g3 : eix (Int32.ofNat (4 * c + b)) 16 = true := i_ix (by omega) (by decide)
          have g4 : (Int32.ofNat (4 * c + b)).toNatClampNeg = 4 * c + b := i_tn (by omega)
          have e4 : eup (eup I 122 32 0) 143 (4 * c + b) (Int32.ofNat l) 142 c = Int32.ofNat b := by
            rw [up_r (by decide), e3]
            exact eb
          have e5 : eup (eup (eup I 122 32 0) 143 (4 * c + b) (Int32.ofNat l)) 144 (4 * c + b) v 142 c = Int32.ofNat b := by
            rw [up_r (by decide), up_r (by decide), e3]
            exact eb
          have e6 : aNt (Int32.ofNat b) = b := i_tn (by omega)
          simp only [eb] at q5
          simp only [eb, q5, ↓reduceIte, not_false_eq_true, m4, i_ad, g3, g4, e4, e5, up_eq, e6]
          exact rOp_of (r_ret (RF_w (RF_w (RF_w h0 (by unfold aSc; omega)) (by unfold aSc; omega)) (by unfold aSc; omega)))
      · simp only [q4, ↓reduceIte, rs_full hc h0, Option.bind_some]
        by_cases q5 : aFull a c l = true
        · simp only [q5, ↓reduceIte, h10]
          exact rOp_fail h
        · have e6 : eup (eup (eup I 122 32 0) 149 c (a.1 149 c ||| ((1 : Int32) <<< (Int32.ofNat l &&& 31)))) 150 (16 * c + l) v 149 c = aSetB (a.1 149 c) l := by
            rw [up_r (by decide), up_eq]
            rfl
          simp only [q5, ↓reduceIte, Bool.false_eq_true, ht, hi, m16, i_ad, g1, g2, e2, eS, rs_bits, Option.bind_some, eLet, Option.bind_some, ↓reduceIte, K_2, K_3, K_4, K_5, K_21, K_22, K_23, K_24, K_57, K_58, K_59, K_60, K_61, K_62, K_63, K_64, K_65, K_66, K_67, K_68, K_69, K_70, K_71, K_72, K_73, K_122, K_123, K_124, K_125, K_126, K_127, K_128, K_129, K_130, K_131, K_132, K_133, K_134, K_135, K_136, K_137, K_138, K_139, K_140, K_141, K_142, K_143, K_144, K_145, K_146, K_147, K_148, K_149, K_150, K_151, K_152, K_153, K_154, K_155, K_156, K_157, K_158, K_159, K_160, K_161, R_2_0, R_2_1, R_2_2, R_2_3, R_2_4, R_2_5, R_2_6, R_2_7, R_4_0, R_4_1, R_4_2, R_23_0, R_23_1, R_23_2, R_58_0, R_58_1, R_58_2, R_58_3, R_58_4, R_64_0, R_66_0, R_68_0, R_68_1, R_68_2, R_68_3, R_72_0, R_122_0, R_122_1, R_122_2, R_122_3, R_122_4, R_122_5, R_122_6, R_122_7, R_122_8, R_122_9, R_122_10, R_122_11, R_122_12, R_122_13, R_122_14, R_122_15, R_122_16, R_122_17, R_122_19, R_122_20, R_122_21, R_122_22, R_122_23, R_122_24, R_122_25, R_122_26, R_122_27, R_122_28, R_122_29, R_122_30, R_122_31, R_122_33, R_122_34, R_122_35, R_122_36, R_122_37, R_122_39, R_122_41, true_and, and_true, eB, decide_true, decide_false, Bool.or_true, Bool.true_or, not_true_eq_false, not_false_eq_true]
          rw [e6]
          exact rOp_of (r_ret (RF_w (RF_w h0 (by unfold aSc; omega)) (by unfold aSc; omega)))
    · have q3 : 999 < v := by
        rw [Int32.le_iff_toInt_le] at q2
        rw [Int32.lt_iff_toInt_lt]
        omega
      simp only [q1, q2, q3, ↓reduceIte, or_true]
      exact rOp_fail h
set_option maxRecDepth 20000 in
theorem rs_storeN (hb : (x < 0 ∨ 4 ≤ x) ∨ (y < 0 ∨ 16 ≤ y)) (h : RepR I a) : rOp (f_X12_store 122 x y v (I, J)) I J (1, 0, a) := by
  unfold f_X12_store
  simp only [eLet, Option.bind_some, ↓reduceIte, K_2, K_3, K_4, K_5, K_21, K_22, K_23, K_24, K_57, K_58, K_59, K_60, K_61, K_62, K_63, K_64, K_65, K_66, K_67, K_68, K_69, K_70, K_71, K_72, K_73, K_122, K_123, K_124, K_125, K_126, K_127, K_128, K_129, K_130, K_131, K_132, K_133, K_134, K_135, K_136, K_137, K_138, K_139, K_140, K_141, K_142, K_143, K_144, K_145, K_146, K_147, K_148, K_149, K_150, K_151, K_152, K_153, K_154, K_155, K_156, K_157, K_158, K_159, K_160, K_161, R_2_0, R_2_1, R_2_2, R_2_3, R_2_4, R_2_5, R_2_6, R_2_7, R_4_0, R_4_1, R_4_2, R_23_0, R_23_1, R_23_2, R_58_0, R_58_1, R_58_2, R_58_3, R_58_4, R_64_0, R_66_0, R_68_0, R_68_1, R_68_2, R_68_3, R_72_0, R_122_0, R_122_1, R_122_2, R_122_3, R_122_4, R_122_5, R_122_6, R_122_7, R_122_8, R_122_9, R_122_10, R_122_11, R_122_12, R_122_13, R_122_14, R_122_15, R_122_16, R_122_17, R_122_19, R_122_20, R_122_21, R_122_22, R_122_23, R_122_24, R_122_25, R_122_26, R_122_27, R_122_28, R_122_29, R_122_30, R_122_31, R_122_33, R_122_34, R_122_35, R_122_36, R_122_37, R_122_39, R_122_41, true_and, and_true, eB, decide_true, decide_false, Bool.or_true, Bool.true_or, not_true_eq_false, not_false_eq_true, rs_asksLineN hb]
  exact rOp_of (r_ret (RF_th h))
theorem rs_fence (hc : c < 4) (h : RepR I a) : rOp (f_X12_fence 122 (Int32.ofNat c) (I, J)) I J (0, if a.1 142 c = 0 then 1 else 0, a) := by
  have ht : (Int32.ofNat c).toNatClampNeg = c := i_tn (by omega)
  have hi : eix (Int32.ofNat c) 4 = true := i_ix hc (by decide)
  have h10 : ¬ (1 : Int32) = 0 := by decide
  have h0 : RF (eup I 122 32 0) (eup I 122 32 0) a := RF_th h
  have e3 : eup I 122 32 0 142 c = a.1 142 c := R_get h0 (by unfold aSc; omega)
  unfold f_X12_fence f_X12_fence_24 f_X12_fence_25
  simp only [eLet, Option.bind_some, ↓reduceIte, K_2, K_3, K_4, K_5, K_21, K_22, K_23, K_24, K_57, K_58, K_59, K_60, K_61, K_62, K_63, K_64, K_65, K_66, K_67, K_68, K_69, K_70, K_71, K_72, K_73, K_122, K_123, K_124, K_125, K_126, K_127, K_128, K_129, K_130, K_131, K_132, K_133, K_134, K_135, K_136, K_137, K_138, K_139, K_140, K_141, K_142, K_143, K_144, K_145, K_146, K_147, K_148, K_149, K_150, K_151, K_152, K_153, K_154, K_155, K_156, K_157, K_158, K_159, K_160, K_161, R_2_0, R_2_1, R_2_2, R_2_3, R_2_4, R_2_5, R_2_6, R_2_7, R_4_0, R_4_1, R_4_2, R_23_0, R_23_1, R_23_2, R_58_0, R_58_1, R_58_2, R_58_3, R_58_4, R_64_0, R_66_0, R_68_0, R_68_1, R_68_2, R_68_3, R_72_0, R_122_0, R_122_1, R_122_2, R_122_3, R_122_4, R_122_5, R_122_6, R_122_7, R_122_8, R_122_9, R_122_10, R_122_11, R_122_12, R_122_13, R_122_14, R_122_15, R_122_16, R_122_17, R_122_19, R_122_20, R_122_21, R_122_22, R_122_23, R_122_24, R_122_25, R_122_26, R_122_27, R_122_28, R_122_29, R_122_30, R_122_31, R_122_33, R_122_34, R_122_35, R_122_36, R_122_37, R_122_39, R_122_41, true_and, and_true, eB, decide_true, decide_false, Bool.or_true, Bool.true_or, not_true_eq_false, not_false_eq_true, rs_isCore hc, rs_asks1, h10, ht, hi, e3]
  by_cases q : a.1 142 c = 0
  · simp only [q, not_true_eq_false, ↓reduceIte]
    exact rOp_of (r_ret h0)
  · simp only [q, not_false_eq_true, ↓reduceIte]
    exact rOp_of (r_ret h0)
theorem rs_fenceN (hb : x < 0 ∨ 4 ≤ x) (h : RepR I a) : rOp (f_X12_fence 122 x (I, J)) I J (1, 0, a) := by
  unfold f_X12_fence f_X12_fence_24 f_X12_fence_25
  simp only [eLet, Option.bind_some, ↓reduceIte, K_2, K_3, K_4, K_5, K_21, K_22, K_23, K_24, K_57, K_58, K_59, K_60, K_61, K_62, K_63, K_64, K_65, K_66, K_67, K_68, K_69, K_70, K_71, K_72, K_73, K_122, K_123, K_124, K_125, K_126, K_127, K_128, K_129, K_130, K_131, K_132, K_133, K_134, K_135, K_136, K_137, K_138, K_139, K_140, K_141, K_142, K_143, K_144, K_145, K_146, K_147, K_148, K_149, K_150, K_151, K_152, K_153, K_154, K_155, K_156, K_157, K_158, K_159, K_160, K_161, R_2_0, R_2_1, R_2_2, R_2_3, R_2_4, R_2_5, R_2_6, R_2_7, R_4_0, R_4_1, R_4_2, R_23_0, R_23_1, R_23_2, R_58_0, R_58_1, R_58_2, R_58_3, R_58_4, R_64_0, R_66_0, R_68_0, R_68_1, R_68_2, R_68_3, R_72_0, R_122_0, R_122_1, R_122_2, R_122_3, R_122_4, R_122_5, R_122_6, R_122_7, R_122_8, R_122_9, R_122_10, R_122_11, R_122_12, R_122_13, R_122_14, R_122_15, R_122_16, R_122_17, R_122_19, R_122_20, R_122_21, R_122_22, R_122_23, R_122_24, R_122_25, R_122_26, R_122_27, R_122_28, R_122_29, R_122_30, R_122_31, R_122_33, R_122_34, R_122_35, R_122_36, R_122_37, R_122_39, R_122_41, true_and, and_true, eB, decide_true, decide_false, Bool.or_true, Bool.true_or, not_true_eq_false, not_false_eq_true, rs_isCoreN hb, rs_asks0]
  exact rOp_of (r_ret (RF_th h))
set_option maxRecDepth 20000 in
theorem rs_add (hc : c < 4) (hl : l < 16) (hF : cF a c) (hB : bF a c) (hq : (a.2 4).length < 126) (h : RepR I a) :
    rOp (f_X12_add 122 (Int32.ofNat c) (Int32.ofNat l) v (I, J)) I J (aAdd a c l v) := by
  have ht : (Int32.ofNat c).toNatClampNeg = c := i_tn (by omega)
  have hi : eix (Int32.ofNat c) 4 = true := i_ix hc (by decide)
  have h10 : ¬ (1 : Int32) = 0 := by decide
  have h1000 : ¬ (1000 : Int32) = 0 := by decide
  have h0 : RF (eup I 122 32 0) (eup I 122 32 0) a := RF_th h
  have e1 : eup I 122 32 0 145 c = a.1 145 c := R_get h0 (by unfold aSc; omega)
  have e3 : eup I 122 32 0 142 c = a.1 142 c := R_get h0 (by unfold aSc; omega)
  have hask : rOp (Option.bind (f_X12_asksFor 122 (Int32.ofNat c) (Int32.ofNat l) 1 (eup I 122 32 0, J)) (fun r7 => if r7.1 = (0 : Int32) then f_X12_add_83 (-1 : Int32) r7.2 else f_X12_add_83 (0 : Int32) r7.2)) I J (0, -1, (aAsk a c l true).2) := by
    refine rOp_of (r_bind (rs_asks (w := true) hc hl hF hq h0) (fun I1 h1 => ?_))
    unfold f_X12_add_83
    simp only [Bool.true_eq_false, and_false, ↓reduceIte]
    exact r_ret h1
  unfold f_X12_add aAdd f_X12_add_22 f_X12_add_46
  simp only [eLet, Option.bind_some, ↓reduceIte, K_2, K_3, K_4, K_5, K_21, K_22, K_23, K_24, K_57, K_58, K_59, K_60, K_61, K_62, K_63, K_64, K_65, K_66, K_67, K_68, K_69, K_70, K_71, K_72, K_73, K_122, K_123, K_124, K_125, K_126, K_127, K_128, K_129, K_130, K_131, K_132, K_133, K_134, K_135, K_136, K_137, K_138, K_139, K_140, K_141, K_142, K_143, K_144, K_145, K_146, K_147, K_148, K_149, K_150, K_151, K_152, K_153, K_154, K_155, K_156, K_157, K_158, K_159, K_160, K_161, R_2_0, R_2_1, R_2_2, R_2_3, R_2_4, R_2_5, R_2_6, R_2_7, R_4_0, R_4_1, R_4_2, R_23_0, R_23_1, R_23_2, R_58_0, R_58_1, R_58_2, R_58_3, R_58_4, R_64_0, R_66_0, R_68_0, R_68_1, R_68_2, R_68_3, R_72_0, R_122_0, R_122_1, R_122_2, R_122_3, R_122_4, R_122_5, R_122_6, R_122_7, R_122_8, R_122_9, R_122_10, R_122_11, R_122_12, R_122_13, R_122_14, R_122_15, R_122_16, R_122_17, R_122_19, R_122_20, R_122_21, R_122_22, R_122_23, R_122_24, R_122_25, R_122_26, R_122_27, R_122_28, R_122_29, R_122_30, R_122_31, R_122_33, R_122_34, R_122_35, R_122_36, R_122_37, R_122_39, R_122_41, true_and, and_true, eB, decide_true, decide_false, Bool.or_true, Bool.true_or, not_true_eq_false, not_false_eq_true, rs_asksLine hc hl, h10, rs_fails]
  by_cases q1 : v < 1
  · simp only [q1, ↓reduceIte, true_or]
    exact rOp_fail h
  · by_cases q2 : v ≤ 9
    · have q3 : ¬ 9 < v := by
        rw [Int32.le_iff_toInt_le] at q2
        rw [Int32.lt_iff_toInt_lt]
        omega
      obtain ⟨b, hb4, eb, _⟩ := hB
      have b0 : (0 < Int32.ofNat b) = ¬ (b = 0) := (i_lt (n := 0) (by decide) (by omega)).trans (propext ⟨fun q => by omega, fun q => by omega⟩)
      have b1 : (Int32.ofNat b = 0) = (b = 0) := i_eq (by omega) (by decide)
      simp only [q1, q2, q3, ↓reduceIte, or_self, ht, hi, e1, e3, eb, b0, b1, eLet, Option.bind_some, ↓reduceIte, K_2, K_3, K_4, K_5, K_21, K_22, K_23, K_24, K_57, K_58, K_59, K_60, K_61, K_62, K_63, K_64, K_65, K_66, K_67, K_68, K_69, K_70, K_71, K_72, K_73, K_122, K_123, K_124, K_125, K_126, K_127, K_128, K_129, K_130, K_131, K_132, K_133, K_134, K_135, K_136, K_137, K_138, K_139, K_140, K_141, K_142, K_143, K_144, K_145, K_146, K_147, K_148, K_149, K_150, K_151, K_152, K_153, K_154, K_155, K_156, K_157, K_158, K_159, K_160, K_161, R_2_0, R_2_1, R_2_2, R_2_3, R_2_4, R_2_5, R_2_6, R_2_7, R_4_0, R_4_1, R_4_2, R_23_0, R_23_1, R_23_2, R_58_0, R_58_1, R_58_2, R_58_3, R_58_4, R_64_0, R_66_0, R_68_0, R_68_1, R_68_2, R_68_3, R_72_0, R_122_0, R_122_1, R_122_2, R_122_3, R_122_4, R_122_5, R_122_6, R_122_7, R_122_8, R_122_9, R_122_10, R_122_11, R_122_12, R_122_13, R_122_14, R_122_15, R_122_16, R_122_17, R_122_19, R_122_20, R_122_21, R_122_22, R_122_23, R_122_24, R_122_25, R_122_26, R_122_27, R_122_28, R_122_29, R_122_30, R_122_31, R_122_33, R_122_34, R_122_35, R_122_36, R_122_37, R_122_39, R_122_41, true_and, and_true, eB, decide_true, decide_false, Bool.or_true, Bool.true_or, not_true_eq_false, not_false_eq_true]
      by_cases q4 : b = 0
      · simp only [q4, not_true_eq_false, ↓reduceIte, true_and]
        by_cases q5 : a.1 145 c = 0
        · simp only [q5, ↓reduceIte, rs_stateAt hc hF h0, rs_place hc hF.2 h0, Option.bind_some, rs_owned]
          unfold aStAt
          cases hp : aPl a c l with
          | none =>
            have : aOwn 0 = false := by decide
            simp only [this, Bool.false_eq_true, ↓reduceIte, not_true_eq_false]
            exact hask
          | some p =>
            have hp4 := aPl_lt hp
            have hm : (Int32.ofNat (4 * c + p) = -1) = False := i_ne1 (by omega)
            have hx : eix (Int32.ofNat (4 * c + p)) 16 = true := i_ix (by omega) (by decide)
            have hy : (Int32.ofNat (4 * c + p)).toNatClampNeg = 4 * c + p := i_tn (by omega)
            have e4 : eup I 122 32 0 137 (4 * c + p) = a.1 137 (4 * c + p) := R_get h0 (by unfold aSc; omega)
            by_cases q6 : aOwn (a.1 136 (4 * c + p)) = true
            · simp only [q6, ↓reduceIte, h10, not_false_eq_true, oI, hx, hy, e4, h1000, and_self]
              exact rOp_of (r_bind (rs_changes (by omega) h0) (fun I1 h1 => r_ret h1))
            · simp only [q6, ↓reduceIte, not_true_eq_false, Bool.false_eq_true]
              exact hask
        · simp only [q5, ↓reduceIte]
          exact rOp_fail h
      · simp only [q4, not_false_eq_true, ↓reduceIte, false_and]
        exact rOp_fail h
    · have q3 : 9 < v := by
        rw [Int32.le_iff_toInt_le] at q2
        rw [Int32.lt_iff_toInt_lt]
        omega
      simp only [q1, q2, q3, ↓reduceIte, or_true]
      exact rOp_fail h
set_option maxRecDepth 20000 in
theorem rs_addN (hb : (x < 0 ∨ 4 ≤ x) ∨ (y < 0 ∨ 16 ≤ y)) (h : RepR I a) : rOp (f_X12_add 122 x y v (I, J)) I J (1, 0, a) := by
  unfold f_X12_add
  simp only [eLet, Option.bind_some, ↓reduceIte, K_2, K_3, K_4, K_5, K_21, K_22, K_23, K_24, K_57, K_58, K_59, K_60, K_61, K_62, K_63, K_64, K_65, K_66, K_67, K_68, K_69, K_70, K_71, K_72, K_73, K_122, K_123, K_124, K_125, K_126, K_127, K_128, K_129, K_130, K_131, K_132, K_133, K_134, K_135, K_136, K_137, K_138, K_139, K_140, K_141, K_142, K_143, K_144, K_145, K_146, K_147, K_148, K_149, K_150, K_151, K_152, K_153, K_154, K_155, K_156, K_157, K_158, K_159, K_160, K_161, R_2_0, R_2_1, R_2_2, R_2_3, R_2_4, R_2_5, R_2_6, R_2_7, R_4_0, R_4_1, R_4_2, R_23_0, R_23_1, R_23_2, R_58_0, R_58_1, R_58_2, R_58_3, R_58_4, R_64_0, R_66_0, R_68_0, R_68_1, R_68_2, R_68_3, R_72_0, R_122_0, R_122_1, R_122_2, R_122_3, R_122_4, R_122_5, R_122_6, R_122_7, R_122_8, R_122_9, R_122_10, R_122_11, R_122_12, R_122_13, R_122_14, R_122_15, R_122_16, R_122_17, R_122_19, R_122_20, R_122_21, R_122_22, R_122_23, R_122_24, R_122_25, R_122_26, R_122_27, R_122_28, R_122_29, R_122_30, R_122_31, R_122_33, R_122_34, R_122_35, R_122_36, R_122_37, R_122_39, R_122_41, true_and, and_true, eB, decide_true, decide_false, Bool.or_true, Bool.true_or, not_true_eq_false, not_false_eq_true, rs_asksLineN hb]
  exact rOp_of (r_ret (RF_th h))
set_option maxRecDepth 20000 in
theorem rs_begin (hc : c < 4) (hB : bF a c) (h : RepR I a) : rOp (f_X12_begin 122 (Int32.ofNat c) (I, J)) I J (aBegin a c) := by
  have ht : (Int32.ofNat c).toNatClampNeg = c := i_tn (by omega)
  have hi : eix (Int32.ofNat c) 4 = true := i_ix hc (by decide)
  have h10 : ¬ (1 : Int32) = 0 := by decide
  have h0 : RF (eup I 122 32 0) (eup I 122 32 0) a := RF_th h
  have e1 : eup I 122 32 0 145 c = a.1 145 c := R_get h0 (by unfold aSc; omega)
  have e3 : eup I 122 32 0 142 c = a.1 142 c := R_get h0 (by unfold aSc; omega)
  have e4 : eup (eup (eup (eup (eup I 122 32 0) 145 c 1) 146 c 0) 148 c 0) 149 c 0 147 c = a.1 147 c := by
    rw [up_r (by decide), up_r (by decide), up_r (by decide), up_r (by decide)]
    exact R_get h0 (by unfold aSc; omega)
  obtain ⟨b, hb4, eb, _⟩ := hB
  have b0 : (Int32.ofNat b ≤ 0) = (b = 0) := (i_le (m := 0) (by omega) (by decide)).trans (propext ⟨fun q => by omega, fun q => by omega⟩)
  have b1 : (Int32.ofNat b = 0) = (b = 0) := i_eq (by omega) (by decide)
  unfold f_X12_begin aBegin f_X12_begin_31
  simp only [rs_isCore hc, Option.bind_some, eLet, Option.bind_some, ↓reduceIte, K_2, K_3, K_4, K_5, K_21, K_22, K_23, K_24, K_57, K_58, K_59, K_60, K_61, K_62, K_63, K_64, K_65, K_66, K_67, K_68, K_69, K_70, K_71, K_72, K_73, K_122, K_123, K_124, K_125, K_126, K_127, K_128, K_129, K_130, K_131, K_132, K_133, K_134, K_135, K_136, K_137, K_138, K_139, K_140, K_141, K_142, K_143, K_144, K_145, K_146, K_147, K_148, K_149, K_150, K_151, K_152, K_153, K_154, K_155, K_156, K_157, K_158, K_159, K_160, K_161, R_2_0, R_2_1, R_2_2, R_2_3, R_2_4, R_2_5, R_2_6, R_2_7, R_4_0, R_4_1, R_4_2, R_23_0, R_23_1, R_23_2, R_58_0, R_58_1, R_58_2, R_58_3, R_58_4, R_64_0, R_66_0, R_68_0, R_68_1, R_68_2, R_68_3, R_72_0, R_122_0, R_122_1, R_122_2, R_122_3, R_122_4, R_122_5, R_122_6, R_122_7, R_122_8, R_122_9, R_122_10, R_122_11, R_122_12, R_122_13, R_122_14, R_122_15, R_122_16, R_122_17, R_122_19, R_122_20, R_122_21, R_122_22, R_122_23, R_122_24, R_122_25, R_122_26, R_122_27, R_122_28, R_122_29, R_122_30, R_122_31, R_122_33, R_122_34, R_122_35, R_122_36, R_122_37, R_122_39, R_122_41, true_and, and_true, eB, decide_true, decide_false, Bool.or_true, Bool.true_or, not_true_eq_false, not_false_eq_true]
  simp only [rs_asks1, Option.bind_some, h10, ht, hi, ↓reduceIte, not_false_eq_true]
  simp only [e1, e3, eb, b0, b1]
  simp only [rs_fails, e4, Option.bind_some]
  by_cases q4 : a.1 145 c = 0
  · simp only [q4, not_true_eq_false, ↓reduceIte, true_and]
    by_cases q5 : b = 0
    · simp only [q5, ↓reduceIte]
      exact rOp_of (r_ret (RF_w (RF_w (RF_w (RF_w h0 (by unfold aSc; omega)) (by unfold aSc; omega)) (by unfold aSc; omega)) (by unfold aSc; omega)))
    · simp only [q5, ↓reduceIte]
      exact rOp_fail h
  · simp only [q4, not_false_eq_true, ↓reduceIte, false_and]
    exact rOp_fail h
set_option maxRecDepth 20000 in
theorem rs_beginN (hb : x < 0 ∨ 4 ≤ x) (h : RepR I a) : rOp (f_X12_begin 122 x (I, J)) I J (1, 0, a) := by
  unfold f_X12_begin
  simp only [eLet, Option.bind_some, ↓reduceIte, K_2, K_3, K_4, K_5, K_21, K_22, K_23, K_24, K_57, K_58, K_59, K_60, K_61, K_62, K_63, K_64, K_65, K_66, K_67, K_68, K_69, K_70, K_71, K_72, K_73, K_122, K_123, K_124, K_125, K_126, K_127, K_128, K_129, K_130, K_131, K_132, K_133, K_134, K_135, K_136, K_137, K_138, K_139, K_140, K_141, K_142, K_143, K_144, K_145, K_146, K_147, K_148, K_149, K_150, K_151, K_152, K_153, K_154, K_155, K_156, K_157, K_158, K_159, K_160, K_161, R_2_0, R_2_1, R_2_2, R_2_3, R_2_4, R_2_5, R_2_6, R_2_7, R_4_0, R_4_1, R_4_2, R_23_0, R_23_1, R_23_2, R_58_0, R_58_1, R_58_2, R_58_3, R_58_4, R_64_0, R_66_0, R_68_0, R_68_1, R_68_2, R_68_3, R_72_0, R_122_0, R_122_1, R_122_2, R_122_3, R_122_4, R_122_5, R_122_6, R_122_7, R_122_8, R_122_9, R_122_10, R_122_11, R_122_12, R_122_13, R_122_14, R_122_15, R_122_16, R_122_17, R_122_19, R_122_20, R_122_21, R_122_22, R_122_23, R_122_24, R_122_25, R_122_26, R_122_27, R_122_28, R_122_29, R_122_30, R_122_31, R_122_33, R_122_34, R_122_35, R_122_36, R_122_37, R_122_39, R_122_41, true_and, and_true, eB, decide_true, decide_false, Bool.or_true, Bool.true_or, not_true_eq_false, not_false_eq_true, rs_isCoreN hb, rs_asks0]
  exact rOp_of (r_ret (RF_th h))
end EPT
