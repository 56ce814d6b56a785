/-! the reference: messages at a core, deliveries -/
section EPT
variable {I I0 : Nat → Nat → Int32} {J : Nat → Nat → Int64} {a b : aS} {r i l q c k n p : Nat} {v : Int32} {m : aM}
theorem cF_eq (h5 : b.1 135 = a.1 135) (h6 : b.1 136 = a.1 136) (h7 : b.1 137 = a.1 137) (h : cF a c) : cF b c := by
  unfold cF aAt at h ⊢
  rw [h5, h6, h7]
  exact h
theorem lF_eq (h5 : b.1 141 = a.1 141) (h : lF a c) : lF b c := by
  unfold lF at h ⊢
  rw [h5]
  exact h
theorem aAt_iff : aAt a c l p = true ↔ ¬ a.1 136 (4 * c + p) = 0 ∧ a.1 135 (4 * c + p) = Int32.ofNat l := by
  unfold aAt
  simp
/-- places whose states sink or stay among the taken, and keep their lines, stay in order -/
theorem cF_sub (hc : cF a c) (hs : ∀ p, p < 4 → (b.1 136 (4 * c + p) = 0 ∨ b.1 136 (4 * c + p) = 1 ∨ b.1 136 (4 * c + p) = 2 ∨ b.1 136 (4 * c + p) = 3 ∨ b.1 136 (4 * c + p) = 4 ∨ b.1 136 (4 * c + p) = 5) ∧
      (¬ b.1 136 (4 * c + p) = 0 → ¬ a.1 136 (4 * c + p) = 0 ∧ b.1 135 (4 * c + p) = a.1 135 (4 * c + p)) ∧ (aVal (b.1 136 (4 * c + p)) = true → aV (b.1 137 (4 * c + p)))) : cF b c := by
  refine ⟨fun p hp => ⟨(hs p hp).1, fun g => ?_, (hs p hp).2.2⟩, fun l p p' hp hp' g g' => ?_⟩
  · obtain ⟨h1, h2⟩ := (hs p hp).2.1 g
    rw [h2]
    exact (hc.1 p hp).2.1 h1
  · rw [aAt_iff] at g g'
    obtain ⟨h1, h2⟩ := (hs p hp).2.1 g.1
    obtain ⟨h3, h4⟩ := (hs p' hp').2.1 g'.1
    refine hc.2 l p p' hp hp' (aAt_iff.2 ⟨h1, ?_⟩) (aAt_iff.2 ⟨h3, ?_⟩)
    · rw [← h2]
      exact g.2
    · rw [← h4]
      exact g'.2
theorem aDatS_1 {P what : Nat} (h1 : ¬ r = 137) (h2 : ¬ r = 136) (h3 : ¬ r = 139) (h4 : ¬ r = 122) (h5 : ¬ r = 138) (h6 : ¬ r = 140) : (aDatS a P what n).1 r = a.1 r := by
  unfold aDatS
  rw [aW_1 h6, aUse_1 h4 h5, aW_1 h3, aW_1 h2, aW_1 h1]
theorem aDatS_2 {P what : Nat} : (aDatS a P what n).2 = a.2 := rfl
theorem aDatS_136 {P what : Nat} : (aDatS a P what n).1 136 = eup a.1 136 P (if what = 1 ∧ ¬ a.1 139 P = 0 ∧ a.1 136 P = 4 then 0 else Int32.ofNat what) 136 := by
  unfold aDatS
  rw [aW_1 (by decide), aUse_1 (by decide) (by decide), aW_1 (by decide)]
  funext i
  by_cases g : i = P
  · subst g
    rw [aW_e, up_eq]
  · rw [aW_k g, aW_1 (by decide), up_k g]
theorem aDatS_137 {P what : Nat} : (aDatS a P what n).1 137 = eup a.1 137 P (Int32.ofNat n) 137 := by
  unfold aDatS
  rw [aW_1 (by decide), aUse_1 (by decide) (by decide), aW_1 (by decide), aW_1 (by decide)]
  rfl
theorem cF_dat {what : Nat} (hp : p < 4) (hw : what = 1 ∨ what = 2 ∨ what = 3) (hn : n < 1000) (hat : aAt a c l p = true) (h : cF a c) : cF (aDatS a (4 * c + p) what n) c := by
  refine cF_sub h (fun p' hp' => ?_)
  rw [aDatS_136, aDatS_137, aDatS_1 (r := 135) (by decide) (by decide) (by decide) (by decide) (by decide) (by decide)]
  by_cases g : p' = p
  · subst g
    rw [up_eq, up_eq]
    refine ⟨?_, fun _ => ⟨(aAt_iff.1 hat).1, rfl⟩, fun _ => aV_of hn⟩
    split
    · exact Or.inl rfl
    · rcases hw with q | q | q <;> subst q
      · exact Or.inr (Or.inl rfl)
      · exact Or.inr (Or.inr (Or.inl rfl))
      · exact Or.inr (Or.inr (Or.inr (Or.inl rfl)))
  · rw [up_k (by omega), up_k (by omega)]
    exact ⟨(h.1 p' hp').1, fun q => ⟨q, rfl⟩, (h.1 p' hp').2.2⟩
theorem rs_dat {what : Nat} (hc : c < 4) (hl : l < 16) (hp : aPl a c l = some p) (hw : what = 1 ∨ what = 2 ∨ what = 3) (hn : n < 1000) (hla : a.1 140 (4 * c + p) = -1 ∨ ∃ k, (k = 3 ∨ k = 4) ∧ a.1 140 (4 * c + p) = Int32.ofNat k)
    (hF : cF a c) (hL : lF a c) (hq : (a.2 14).length < 128) (h : RF I0 I a) :
    rOk (f_X12_atCore 122 (Int32.ofNat c) (Int32.ofNat 6) (Int32.ofNat l) (Int32.ofNat what) (Int32.ofNat n) (I, J)) I0 J () (aDat a c l (4 * c + p) what n) := by
  have hp4 := aPl_lt hp
  have hx : eix (Int32.ofNat (4 * c + p)) 16 = true := i_ix (by omega) (by decide)
  have hy : (Int32.ofNat (4 * c + p)).toNatClampNeg = 4 * c + p := i_tn (by omega)
  have n7 : ¬ Int32.ofNat 6 = 7 := by decide
  have e6 : Int32.ofNat 6 = 6 := rfl
  have e1 : eup I 137 (4 * c + p) (Int32.ofNat n) 136 (4 * c + p) = a.1 136 (4 * c + p) := by
    rw [up_r (by decide)]
    exact R_get h (by unfold aSc; omega)
  have e2 : eup I 137 (4 * c + p) (Int32.ofNat n) 139 (4 * c + p) = a.1 139 (4 * c + p) := by
    rw [up_r (by decide)]
    exact R_get h (by unfold aSc; omega)
  have w1 : (Int32.ofNat what = 1) = (what = 1) := i_eq (by omega) (by decide)
  have h1 : RF I0 (eup I 137 (4 * c + p) (Int32.ofNat n)) (aW a 137 (4 * c + p) (Int32.ofNat n)) := RF_w h (by unfold aSc; omega)
  have key : ∀ s, s = (if what = 1 ∧ ¬ a.1 139 (4 * c + p) = 0 ∧ a.1 136 (4 * c + p) = 4 then 0 else Int32.ofNat what) →
      rOk (f_X12_atCore_83 122 (Int32.ofNat c) (Int32.ofNat l) (Int32.ofNat (4 * c + p)) 136 (Int32.ofNat (4 * c + p)) s (eup I 137 (4 * c + p) (Int32.ofNat n), J)) I0 J () (aDat a c l (4 * c + p) what n) := by
    intro s hs
    unfold f_X12_atCore_83
    simp only [eLet, Option.bind_some, ↓reduceIte, K_2, K_3, K_4, K_5, K_21, K_22, K_23, K_24, K_57, K_58, K_59, K_60, K_61, K_62, K_63, K_64, K_65, K_66, K_67, K_68, K_69, K_70, K_71, K_72, K_73, K_122, K_123, K_124, K_125, K_126, K_127, K_128, K_129, K_130, K_131, K_132, K_133, K_134, K_135, K_136, K_137, K_138, K_139, K_140, K_141, K_142, K_143, K_144, K_145, K_146, K_147, K_148, K_149, K_150, K_151, K_152, K_153, K_154, K_155, K_156, K_157, K_158, K_159, K_160, K_161, R_2_0, R_2_1, R_2_2, R_2_3, R_2_4, R_2_5, R_2_6, R_2_7, R_4_0, R_4_1, R_4_2, R_23_0, R_23_1, R_23_2, R_58_0, R_58_1, R_58_2, R_58_3, R_58_4, R_64_0, R_66_0, R_68_0, R_68_1, R_68_2, R_68_3, R_72_0, R_122_0, R_122_1, R_122_2, R_122_3, R_122_4, R_122_5, R_122_6, R_122_7, R_122_8, R_122_9, R_122_10, R_122_11, R_122_12, R_122_13, R_122_14, R_122_15, R_122_16, R_122_17, R_122_19, R_122_20, R_122_21, R_122_22, R_122_23, R_122_24, R_122_25, R_122_26, R_122_27, R_122_28, R_122_29, R_122_30, R_122_31, R_122_33, R_122_34, R_122_35, R_122_36, R_122_37, R_122_39, R_122_41, true_and, and_true, eB, decide_true, decide_false, Bool.or_true, Bool.true_or, not_true_eq_false, not_false_eq_true, hx, hy]
    refine r_bind (rs_uses (by omega) (RF_w (RF_w h1 (by unfold aSc; omega)) (by unfold aSc; omega))) (fun I2 h2 => ?_)
    have e3 : I2 140 (4 * c + p) = a.1 140 (4 * c + p) := by
      rw [R_get h2 (by unfold aSc; omega), aUse_1 (by decide) (by decide), aW_1 (by decide), aW_1 (by decide), aW_1 (by decide)]
    have h3 : RF I0 (eup I2 140 (4 * c + p) (-1)) (aDatS a (4 * c + p) what n) := by
      have := RF_w (r := 140) (i := 4 * c + p) (v := -1) h2 (by unfold aSc; omega)
      unfold aDatS
      rw [← hs]
      exact this
    simp only [eLet, Option.bind_some, ↓reduceIte, K_2, K_3, K_4, K_5, K_21, K_22, K_23, K_24, K_57, K_58, K_59, K_60, K_61, K_62, K_63, K_64, K_65, K_66, K_67, K_68, K_69, K_70, K_71, K_72, K_73, K_122, K_123, K_124, K_125, K_126, K_127, K_128, K_129, K_130, K_131, K_132, K_133, K_134, K_135, K_136, K_137, K_138, K_139, K_140, K_141, K_142, K_143, K_144, K_145, K_146, K_147, K_148, K_149, K_150, K_151, K_152, K_153, K_154, K_155, K_156, K_157, K_158, K_159, K_160, K_161, R_2_0, R_2_1, R_2_2, R_2_3, R_2_4, R_2_5, R_2_6, R_2_7, R_4_0, R_4_1, R_4_2, R_23_0, R_23_1, R_23_2, R_58_0, R_58_1, R_58_2, R_58_3, R_58_4, R_64_0, R_66_0, R_68_0, R_68_1, R_68_2, R_68_3, R_72_0, R_122_0, R_122_1, R_122_2, R_122_3, R_122_4, R_122_5, R_122_6, R_122_7, R_122_8, R_122_9, R_122_10, R_122_11, R_122_12, R_122_13, R_122_14, R_122_15, R_122_16, R_122_17, R_122_19, R_122_20, R_122_21, R_122_22, R_122_23, R_122_24, R_122_25, R_122_26, R_122_27, R_122_28, R_122_29, R_122_30, R_122_31, R_122_33, R_122_34, R_122_35, R_122_36, R_122_37, R_122_39, R_122_41, true_and, and_true, eB, decide_true, decide_false, Bool.or_true, Bool.true_or, not_true_eq_false, not_false_eq_true, hx, hy, e3]
    unfold aDat f_X12_atCore_129 f_X12_atCore_212
    rcases hla with q | ⟨k, hk, q⟩
    · simp only [q, eLet, Option.bind_some, ↓reduceIte, K_2, K_3, K_4, K_5, K_21, K_22, K_23, K_24, K_57, K_58, K_59, K_60, K_61, K_62, K_63, K_64, K_65, K_66, K_67, K_68, K_69, K_70, K_71, K_72, K_73, K_122, K_123, K_124, K_125, K_126, K_127, K_128, K_129, K_130, K_131, K_132, K_133, K_134, K_135, K_136, K_137, K_138, K_139, K_140, K_141, K_142, K_143, K_144, K_145, K_146, K_147, K_148, K_149, K_150, K_151, K_152, K_153, K_154, K_155, K_156, K_157, K_158, K_159, K_160, K_161, R_2_0, R_2_1, R_2_2, R_2_3, R_2_4, R_2_5, R_2_6, R_2_7, R_4_0, R_4_1, R_4_2, R_23_0, R_23_1, R_23_2, R_58_0, R_58_1, R_58_2, R_58_3, R_58_4, R_64_0, R_66_0, R_68_0, R_68_1, R_68_2, R_68_3, R_72_0, R_122_0, R_122_1, R_122_2, R_122_3, R_122_4, R_122_5, R_122_6, R_122_7, R_122_8, R_122_9, R_122_10, R_122_11, R_122_12, R_122_13, R_122_14, R_122_15, R_122_16, R_122_17, R_122_19, R_122_20, R_122_21, R_122_22, R_122_23, R_122_24, R_122_25, R_122_26, R_122_27, R_122_28, R_122_29, R_122_30, R_122_31, R_122_33, R_122_34, R_122_35, R_122_36, R_122_37, R_122_39, R_122_41, true_and, and_true, eB, decide_true, decide_false, Bool.or_true, Bool.true_or, not_true_eq_false, not_false_eq_true]
      exact r_ret h3
    · have q2 : (Int32.ofNat k = -1) = False := i_ne1 (by omega)
      have q3 : aNt (Int32.ofNat k) = k := i_tn (by omega)
      simp only [q, q2, q3, eLet, Option.bind_some, ↓reduceIte, K_2, K_3, K_4, K_5, K_21, K_22, K_23, K_24, K_57, K_58, K_59, K_60, K_61, K_62, K_63, K_64, K_65, K_66, K_67, K_68, K_69, K_70, K_71, K_72, K_73, K_122, K_123, K_124, K_125, K_126, K_127, K_128, K_129, K_130, K_131, K_132, K_133, K_134, K_135, K_136, K_137, K_138, K_139, K_140, K_141, K_142, K_143, K_144, K_145, K_146, K_147, K_148, K_149, K_150, K_151, K_152, K_153, K_154, K_155, K_156, K_157, K_158, K_159, K_160, K_161, R_2_0, R_2_1, R_2_2, R_2_3, R_2_4, R_2_5, R_2_6, R_2_7, R_4_0, R_4_1, R_4_2, R_23_0, R_23_1, R_23_2, R_58_0, R_58_1, R_58_2, R_58_3, R_58_4, R_64_0, R_66_0, R_68_0, R_68_1, R_68_2, R_68_3, R_72_0, R_122_0, R_122_1, R_122_2, R_122_3, R_122_4, R_122_5, R_122_6, R_122_7, R_122_8, R_122_9, R_122_10, R_122_11, R_122_12, R_122_13, R_122_14, R_122_15, R_122_16, R_122_17, R_122_19, R_122_20, R_122_21, R_122_22, R_122_23, R_122_24, R_122_25, R_122_26, R_122_27, R_122_28, R_122_29, R_122_30, R_122_31, R_122_33, R_122_34, R_122_35, R_122_36, R_122_37, R_122_39, R_122_41, true_and, and_true, eB, decide_true, decide_false, Bool.or_true, Bool.true_or, not_true_eq_false, not_false_eq_true]
      refine r_bind (rs_fetches hc hl hk (cF_dat hp4.1 hw hn hp4.2 hF) (lF_eq (aDatS_1 (by decide) (by decide) (by decide) (by decide) (by decide) (by decide)) hL) hq h3) (fun I4 h4 => ?_)
      exact r_ret h4
  unfold f_X12_atCore
  simp only [eLet, Option.bind_some, ↓reduceIte, K_2, K_3, K_4, K_5, K_21, K_22, K_23, K_24, K_57, K_58, K_59, K_60, K_61, K_62, K_63, K_64, K_65, K_66, K_67, K_68, K_69, K_70, K_71, K_72, K_73, K_122, K_123, K_124, K_125, K_126, K_127, K_128, K_129, K_130, K_131, K_132, K_133, K_134, K_135, K_136, K_137, K_138, K_139, K_140, K_141, K_142, K_143, K_144, K_145, K_146, K_147, K_148, K_149, K_150, K_151, K_152, K_153, K_154, K_155, K_156, K_157, K_158, K_159, K_160, K_161, R_2_0, R_2_1, R_2_2, R_2_3, R_2_4, R_2_5, R_2_6, R_2_7, R_4_0, R_4_1, R_4_2, R_23_0, R_23_1, R_23_2, R_58_0, R_58_1, R_58_2, R_58_3, R_58_4, R_64_0, R_66_0, R_68_0, R_68_1, R_68_2, R_68_3, R_72_0, R_122_0, R_122_1, R_122_2, R_122_3, R_122_4, R_122_5, R_122_6, R_122_7, R_122_8, R_122_9, R_122_10, R_122_11, R_122_12, R_122_13, R_122_14, R_122_15, R_122_16, R_122_17, R_122_19, R_122_20, R_122_21, R_122_22, R_122_23, R_122_24, R_122_25, R_122_26, R_122_27, R_122_28, R_122_29, R_122_30, R_122_31, R_122_33, R_122_34, R_122_35, R_122_36, R_122_37, R_122_39, R_122_41, true_and, and_true, eB, decide_true, decide_false, Bool.or_true, Bool.true_or, not_true_eq_false, not_false_eq_true, rs_place hc hF.2 h, hp, oI, n7, hx, hy, e6, e1, e2, w1]
  unfold f_X12_atCore_81
  by_cases q1 : what = 1
  · simp only [q1, not_true_eq_false, ↓reduceIte]
    by_cases q2 : a.1 139 (4 * c + p) = 0
    · simp only [q2, ↓reduceIte]
      rw [q1] at key
      refine key _ ?_
      simp [q2]
    · simp only [q2, ↓reduceIte]
      by_cases q3 : a.1 136 (4 * c + p) = 4
      · simp only [q3, not_true_eq_false, ↓reduceIte]
        rw [q1] at key
        refine key _ ?_
        simp [q2, q3]
      · simp only [q3, not_false_eq_true, ↓reduceIte]
        rw [q1] at key
        refine key _ ?_
        simp [q3]
  · simp only [q1, not_false_eq_true, ↓reduceIte]
    refine key _ ?_
    simp [q1]
theorem rs_fwd {w n : Int32} (hc : c < 4) (hl : l < 16) (hk : k = 3 ∨ k = 4) (hb : a.1 146 c = 0 ∨ a.1 146 c = 1) (hF : cF a c) (hL : lF a c) (hq : (a.2 14).length < 128) (h : RF I0 I a) :
    rOk (f_X12_atCore 122 (Int32.ofNat c) (Int32.ofNat k) (Int32.ofNat l) w n (I, J)) I0 J () (aFet (aBrk a c l k) c l k) := by
  have k7 : (Int32.ofNat k = 7) = False := (i_eq (m := 7) (by omega) (by decide)).trans (eq_false (by omega))
  have k6 : (Int32.ofNat k = 6) = False := (i_eq (m := 6) (by omega) (by decide)).trans (eq_false (by omega))
  have k5 : (Int32.ofNat k = 5) = False := (i_eq (m := 5) (by omega) (by decide)).trans (eq_false (by omega))
  unfold f_X12_atCore
  simp only [eLet, Option.bind_some, ↓reduceIte, K_2, K_3, K_4, K_5, K_21, K_22, K_23, K_24, K_57, K_58, K_59, K_60, K_61, K_62, K_63, K_64, K_65, K_66, K_67, K_68, K_69, K_70, K_71, K_72, K_73, K_122, K_123, K_124, K_125, K_126, K_127, K_128, K_129, K_130, K_131, K_132, K_133, K_134, K_135, K_136, K_137, K_138, K_139, K_140, K_141, K_142, K_143, K_144, K_145, K_146, K_147, K_148, K_149, K_150, K_151, K_152, K_153, K_154, K_155, K_156, K_157, K_158, K_159, K_160, K_161, R_2_0, R_2_1, R_2_2, R_2_3, R_2_4, R_2_5, R_2_6, R_2_7, R_4_0, R_4_1, R_4_2, R_23_0, R_23_1, R_23_2, R_58_0, R_58_1, R_58_2, R_58_3, R_58_4, R_64_0, R_66_0, R_68_0, R_68_1, R_68_2, R_68_3, R_72_0, R_122_0, R_122_1, R_122_2, R_122_3, R_122_4, R_122_5, R_122_6, R_122_7, R_122_8, R_122_9, R_122_10, R_122_11, R_122_12, R_122_13, R_122_14, R_122_15, R_122_16, R_122_17, R_122_19, R_122_20, R_122_21, R_122_22, R_122_23, R_122_24, R_122_25, R_122_26, R_122_27, R_122_28, R_122_29, R_122_30, R_122_31, R_122_33, R_122_34, R_122_35, R_122_36, R_122_37, R_122_39, R_122_41, true_and, and_true, eB, decide_true, decide_false, Bool.or_true, Bool.true_or, not_true_eq_false, not_false_eq_true, rs_place hc hF.2 h, k7, k6, k5]
  refine r_bind (rs_breaks hc (by omega) hb h) (fun I1 h1 => ?_)
  dsimp only
  refine r_bind (rs_fetches hc hl hk (cF_eq (aBrk_1 (by decide)) (aBrk_1 (by decide)) (aBrk_1 (by decide)) hF) (lF_eq (aBrk_1 (by decide)) hL) ?_ h1) (fun I2 h2 => r_ret h2)
  rw [aBrk_2]
  exact hq
theorem aPl_eq (h5 : b.1 135 = a.1 135) (h6 : b.1 136 = a.1 136) : aPl b c l = aPl a c l := by
  unfold aPl aAt
  rw [h5, h6]
theorem rs_kil {w n : Int32} (hc : c < 4) (hl : l < 16) (hb : a.1 146 c = 0 ∨ a.1 146 c = 1) (hF : cF a c) (hq : (a.2 14).length < 128) (h : RF I0 I a) :
    rOk (f_X12_atCore 122 (Int32.ofNat c) (Int32.ofNat 5) (Int32.ofNat l) w n (I, J)) I0 J () (aKil a c l) := by
  have k7 : (Int32.ofNat 5 = 7) = False := eq_false (by decide)
  have k6 : (Int32.ofNat 5 = 6) = False := eq_false (by decide)
  have k5 : (Int32.ofNat 5 = 5) = True := eq_true (by decide)
  have f205 : ∀ (I1 : Nat → Nat → Int32) (b : aS), (b.2 14).length < 128 → RF I0 I1 b → rOk (f_X12_atCore_205 122 (Int32.ofNat c) (Int32.ofNat l) (I1, J)) I0 J () (aAns b c l (-1)) := by
    intro I1 b hq h1
    unfold f_X12_atCore_205 f_X12_atCore_212
    simp only [eLet, Option.bind_some, ↓reduceIte, K_2, K_3, K_4, K_5, K_21, K_22, K_23, K_24, K_57, K_58, K_59, K_60, K_61, K_62, K_63, K_64, K_65, K_66, K_67, K_68, K_69, K_70, K_71, K_72, K_73, K_122, K_123, K_124, K_125, K_126, K_127, K_128, K_129, K_130, K_131, K_132, K_133, K_134, K_135, K_136, K_137, K_138, K_139, K_140, K_141, K_142, K_143, K_144, K_145, K_146, K_147, K_148, K_149, K_150, K_151, K_152, K_153, K_154, K_155, K_156, K_157, K_158, K_159, K_160, K_161, R_2_0, R_2_1, R_2_2, R_2_3, R_2_4, R_2_5, R_2_6, R_2_7, R_4_0, R_4_1, R_4_2, R_23_0, R_23_1, R_23_2, R_58_0, R_58_1, R_58_2, R_58_3, R_58_4, R_64_0, R_66_0, R_68_0, R_68_1, R_68_2, R_68_3, R_72_0, R_122_0, R_122_1, R_122_2, R_122_3, R_122_4, R_122_5, R_122_6, R_122_7, R_122_8, R_122_9, R_122_10, R_122_11, R_122_12, R_122_13, R_122_14, R_122_15, R_122_16, R_122_17, R_122_19, R_122_20, R_122_21, R_122_22, R_122_23, R_122_24, R_122_25, R_122_26, R_122_27, R_122_28, R_122_29, R_122_30, R_122_31, R_122_33, R_122_34, R_122_35, R_122_36, R_122_37, R_122_39, R_122_41, true_and, and_true, eB, decide_true, decide_false, Bool.or_true, Bool.true_or, not_true_eq_false, not_false_eq_true]
    exact r_bind (rs_answers hc hl (Or.inl rfl) hq h1) (fun I2 h2 => r_ret h2)
  unfold f_X12_atCore aKil
  simp only [eLet, Option.bind_some, ↓reduceIte, K_2, K_3, K_4, K_5, K_21, K_22, K_23, K_24, K_57, K_58, K_59, K_60, K_61, K_62, K_63, K_64, K_65, K_66, K_67, K_68, K_69, K_70, K_71, K_72, K_73, K_122, K_123, K_124, K_125, K_126, K_127, K_128, K_129, K_130, K_131, K_132, K_133, K_134, K_135, K_136, K_137, K_138, K_139, K_140, K_141, K_142, K_143, K_144, K_145, K_146, K_147, K_148, K_149, K_150, K_151, K_152, K_153, K_154, K_155, K_156, K_157, K_158, K_159, K_160, K_161, R_2_0, R_2_1, R_2_2, R_2_3, R_2_4, R_2_5, R_2_6, R_2_7, R_4_0, R_4_1, R_4_2, R_23_0, R_23_1, R_23_2, R_58_0, R_58_1, R_58_2, R_58_3, R_58_4, R_64_0, R_66_0, R_68_0, R_68_1, R_68_2, R_68_3, R_72_0, R_122_0, R_122_1, R_122_2, R_122_3, R_122_4, R_122_5, R_122_6, R_122_7, R_122_8, R_122_9, R_122_10, R_122_11, R_122_12, R_122_13, R_122_14, R_122_15, R_122_16, R_122_17, R_122_19, R_122_20, R_122_21, R_122_22, R_122_23, R_122_24, R_122_25, R_122_26, R_122_27, R_122_28, R_122_29, R_122_30, R_122_31, R_122_33, R_122_34, R_122_35, R_122_36, R_122_37, R_122_39, R_122_41, true_and, and_true, eB, decide_true, decide_false, Bool.or_true, Bool.true_or, not_true_eq_false, not_false_eq_true, rs_place hc hF.2 h, k7, k6]
  refine r_bind (rs_breaks hc (by omega) hb h) (fun I1 h1 => ?_)
  have hq' : ((aBrk a c l 5).2 14).length < 128 := by
    rw [aBrk_2]
    exact hq
  simp only [eLet, Option.bind_some, ↓reduceIte, K_2, K_3, K_4, K_5, K_21, K_22, K_23, K_24, K_57, K_58, K_59, K_60, K_61, K_62, K_63, K_64, K_65, K_66, K_67, K_68, K_69, K_70, K_71, K_72, K_73, K_122, K_123, K_124, K_125, K_126, K_127, K_128, K_129, K_130, K_131, K_132, K_133, K_134, K_135, K_136, K_137, K_138, K_139, K_140, K_141, K_142, K_143, K_144, K_145, K_146, K_147, K_148, K_149, K_150, K_151, K_152, K_153, K_154, K_155, K_156, K_157, K_158, K_159, K_160, K_161, R_2_0, R_2_1, R_2_2, R_2_3, R_2_4, R_2_5, R_2_6, R_2_7, R_4_0, R_4_1, R_4_2, R_23_0, R_23_1, R_23_2, R_58_0, R_58_1, R_58_2, R_58_3, R_58_4, R_64_0, R_66_0, R_68_0, R_68_1, R_68_2, R_68_3, R_72_0, R_122_0, R_122_1, R_122_2, R_122_3, R_122_4, R_122_5, R_122_6, R_122_7, R_122_8, R_122_9, R_122_10, R_122_11, R_122_12, R_122_13, R_122_14, R_122_15, R_122_16, R_122_17, R_122_19, R_122_20, R_122_21, R_122_22, R_122_23, R_122_24, R_122_25, R_122_26, R_122_27, R_122_28, R_122_29, R_122_30, R_122_31, R_122_33, R_122_34, R_122_35, R_122_36, R_122_37, R_122_39, R_122_41, true_and, and_true, eB, decide_true, decide_false, Bool.or_true, Bool.true_or, not_true_eq_false, not_false_eq_true, k5]
  unfold aKilS
  rw [aPl_eq (b := aBrk a c l 5) (a := a) (aBrk_1 (by decide)) (aBrk_1 (by decide))]
  cases hp : aPl a c l with
  | none =>
    simp only [oI, ↓reduceIte]
    unfold f_X12_atCore_180
    simp only [↓reduceIte]
    exact f205 _ _ hq' h1
  | some p =>
    have hp4 := aPl_lt hp
    have hx : eix (Int32.ofNat (4 * c + p)) 16 = true := i_ix (by omega) (by decide)
    have hy : (Int32.ofNat (4 * c + p)).toNatClampNeg = 4 * c + p := i_tn (by omega)
    have hm : (Int32.ofNat (4 * c + p) = -1) = False := i_ne1 (by omega)
    have e1 : I1 136 (4 * c + p) = (aBrk a c l 5).1 136 (4 * c + p) := R_get h1 (by unfold aSc; omega)
    simp only [oI, hm, hx, hy, e1, eLet, Option.bind_some, ↓reduceIte, K_2, K_3, K_4, K_5, K_21, K_22, K_23, K_24, K_57, K_58, K_59, K_60, K_61, K_62, K_63, K_64, K_65, K_66, K_67, K_68, K_69, K_70, K_71, K_72, K_73, K_122, K_123, K_124, K_125, K_126, K_127, K_128, K_129, K_130, K_131, K_132, K_133, K_134, K_135, K_136, K_137, K_138, K_139, K_140, K_141, K_142, K_143, K_144, K_145, K_146, K_147, K_148, K_149, K_150, K_151, K_152, K_153, K_154, K_155, K_156, K_157, K_158, K_159, K_160, K_161, R_2_0, R_2_1, R_2_2, R_2_3, R_2_4, R_2_5, R_2_6, R_2_7, R_4_0, R_4_1, R_4_2, R_23_0, R_23_1, R_23_2, R_58_0, R_58_1, R_58_2, R_58_3, R_58_4, R_64_0, R_66_0, R_68_0, R_68_1, R_68_2, R_68_3, R_72_0, R_122_0, R_122_1, R_122_2, R_122_3, R_122_4, R_122_5, R_122_6, R_122_7, R_122_8, R_122_9, R_122_10, R_122_11, R_122_12, R_122_13, R_122_14, R_122_15, R_122_16, R_122_17, R_122_19, R_122_20, R_122_21, R_122_22, R_122_23, R_122_24, R_122_25, R_122_26, R_122_27, R_122_28, R_122_29, R_122_30, R_122_31, R_122_33, R_122_34, R_122_35, R_122_36, R_122_37, R_122_39, R_122_41, true_and, and_true, eB, decide_true, decide_false, Bool.or_true, Bool.true_or, not_true_eq_false, not_false_eq_true]
    by_cases q1 : (aBrk a c l 5).1 136 (4 * c + p) = 1
    · simp only [q1, not_true_eq_false, ↓reduceIte]
      refine f205 _ _ ?_ (RF_w h1 (by unfold aSc; omega))
      exact hq'
    · simp only [q1, not_false_eq_true, ↓reduceIte]
      unfold f_X12_atCore_180
      simp only [hm, hx, hy, e1, eLet, Option.bind_some, ↓reduceIte, K_2, K_3, K_4, K_5, K_21, K_22, K_23, K_24, K_57, K_58, K_59, K_60, K_61, K_62, K_63, K_64, K_65, K_66, K_67, K_68, K_69, K_70, K_71, K_72, K_73, K_122, K_123, K_124, K_125, K_126, K_127, K_128, K_129, K_130, K_131, K_132, K_133, K_134, K_135, K_136, K_137, K_138, K_139, K_140, K_141, K_142, K_143, K_144, K_145, K_146, K_147, K_148, K_149, K_150, K_151, K_152, K_153, K_154, K_155, K_156, K_157, K_158, K_159, K_160, K_161, R_2_0, R_2_1, R_2_2, R_2_3, R_2_4, R_2_5, R_2_6, R_2_7, R_4_0, R_4_1, R_4_2, R_23_0, R_23_1, R_23_2, R_58_0, R_58_1, R_58_2, R_58_3, R_58_4, R_64_0, R_66_0, R_68_0, R_68_1, R_68_2, R_68_3, R_72_0, R_122_0, R_122_1, R_122_2, R_122_3, R_122_4, R_122_5, R_122_6, R_122_7, R_122_8, R_122_9, R_122_10, R_122_11, R_122_12, R_122_13, R_122_14, R_122_15, R_122_16, R_122_17, R_122_19, R_122_20, R_122_21, R_122_22, R_122_23, R_122_24, R_122_25, R_122_26, R_122_27, R_122_28, R_122_29, R_122_30, R_122_31, R_122_33, R_122_34, R_122_35, R_122_36, R_122_37, R_122_39, R_122_41, true_and, and_true, eB, decide_true, decide_false, Bool.or_true, Bool.true_or, not_true_eq_false, not_false_eq_true]
      by_cases q2 : (aBrk a c l 5).1 136 (4 * c + p) = 4
      · simp only [q2, not_true_eq_false, ↓reduceIte]
        refine f205 _ _ ?_ (RF_w h1 (by unfold aSc; omega))
        exact hq'
      · simp only [q2, not_false_eq_true, ↓reduceIte]
        exact f205 _ _ hq' h1
theorem rs_done {w n : Int32} (hc : c < 4) (hl : l < 16) (hF : cF a c) (h : RF I0 I a) :
    rOk (f_X12_atCore 122 (Int32.ofNat c) (Int32.ofNat 7) (Int32.ofNat l) w n (I, J)) I0 J () (aW a 141 (16 * c + l) (-1)) := by
  have k7 : (Int32.ofNat 7 = 7) = True := eq_true (by decide)
  have g1 : eix (Int32.ofNat (16 * c + l)) 64 = true := i_ix (by omega) (by decide)
  have g2 : (Int32.ofNat (16 * c + l)).toNatClampNeg = 16 * c + l := i_tn (by omega)
  unfold f_X12_atCore f_X12_atCore_212
  simp only [eLet, Option.bind_some, ↓reduceIte, K_2, K_3, K_4, K_5, K_21, K_22, K_23, K_24, K_57, K_58, K_59, K_60, K_61, K_62, K_63, K_64, K_65, K_66, K_67, K_68, K_69, K_70, K_71, K_72, K_73, K_122, K_123, K_124, K_125, K_126, K_127, K_128, K_129, K_130, K_131, K_132, K_133, K_134, K_135, K_136, K_137, K_138, K_139, K_140, K_141, K_142, K_143, K_144, K_145, K_146, K_147, K_148, K_149, K_150, K_151, K_152, K_153, K_154, K_155, K_156, K_157, K_158, K_159, K_160, K_161, R_2_0, R_2_1, R_2_2, R_2_3, R_2_4, R_2_5, R_2_6, R_2_7, R_4_0, R_4_1, R_4_2, R_23_0, R_23_1, R_23_2, R_58_0, R_58_1, R_58_2, R_58_3, R_58_4, R_64_0, R_66_0, R_68_0, R_68_1, R_68_2, R_68_3, R_72_0, R_122_0, R_122_1, R_122_2, R_122_3, R_122_4, R_122_5, R_122_6, R_122_7, R_122_8, R_122_9, R_122_10, R_122_11, R_122_12, R_122_13, R_122_14, R_122_15, R_122_16, R_122_17, R_122_19, R_122_20, R_122_21, R_122_22, R_122_23, R_122_24, R_122_25, R_122_26, R_122_27, R_122_28, R_122_29, R_122_30, R_122_31, R_122_33, R_122_34, R_122_35, R_122_36, R_122_37, R_122_39, R_122_41, true_and, and_true, eB, decide_true, decide_false, Bool.or_true, Bool.true_or, not_true_eq_false, not_false_eq_true, rs_place hc hF.2 h, k7, m16, i_ad, g1, g2]
  exact r_ret (RF_w h (by unfold aSc; omega))
/-- what must hold for a message to be taken from a queue -/
def cD (a : aS) (c : Nat) (m : aM) : Prop :=
  cF a c ∧ lF a c ∧ (a.1 146 c = 0 ∨ a.1 146 c = 1) ∧ (((m.1 = 3 ∨ m.1 = 4) ∨ m.1 = 5) ∨ m.1 = 7 ∨ (m.1 = 6 ∧ (m.2.2.1 = 1 ∨ m.2.2.1 = 2 ∨ m.2.2.1 = 3) ∧
    ∃ p, aPl a c m.2.1 = some p ∧ (a.1 140 (4 * c + p) = -1 ∨ ∃ k, (k = 3 ∨ k = 4) ∧ a.1 140 (4 * c + p) = Int32.ofNat k)))
def hD (a : aS) (q : Nat) (m : aM) : Prop :=
  hF a m.2.1 ∧ roV a m.2.1 ∧ (a.2 (15 + m.2.1)).length < 7 ∧ ((q = 4 ∧ m.1 < 3 ∧ m.2.2.1 < 4) ∨ (q = 14 ∧ (m.1 = 8 ∨ m.1 = 9) ∧
    ∃ c, c < 4 ∧ a.1 128 m.2.1 = Int32.ofNat c ∧ (a.1 127 m.2.1 = 0 → ∃ o, o < 4 ∧ a.1 124 m.2.1 = Int32.ofNat o)))
def qD (a : aS) (q : Nat) (m : aM) : Prop := mOk m ∧ ((q % 5 = 4 ∧ hD a q m) ∨ (q % 5 < 4 ∧ cD a (q % 5) m))
theorem RF_pop {ms : List aM} (hq : q < 15) (hL : a.2 q = m :: ms) (h : RF I0 I a) : ∃ f, f < 128 ∧ I 132 q = Int32.ofNat f ∧ I 134 (128 * q + f) = gRm m ∧
    RF I0 (eup (eup I 132 q ((I 132 q + 1) - (I 132 q + 1) / 128 * 128)) 133 q (I 133 q - 1)) (aL a q ms) := by
  have hr := h.1.2.1 q hq
  unfold RqOk at hr
  rw [hL] at hr
  obtain ⟨f, h1, h2, h3, h4, h5, h6⟩ := Rng_pop hr (by decide)
  refine ⟨f, h1, h2, h3, ⟨fun r i hs => ?_, fun q' hq' => ?_, fun l hl => ?_⟩, fun r hr => ?_, fun i hi => ?_⟩
  · rw [up_r (by unfold aSc at hs; omega), up_r (by unfold aSc at hs; omega)]
    exact h.1.1 r i hs
  · unfold RqOk
    have e1 : eup (eup I 132 q ((I 132 q + 1) - (I 132 q + 1) / 128 * 128)) 133 q (I 133 q - 1) 134 = I 134 := (up_fr (by decide)).trans (up_fr (by decide))
    have e2 : eup (eup I 132 q ((I 132 q + 1) - (I 132 q + 1) / 128 * 128)) 133 q (I 133 q - 1) 132 = eup I 132 q ((I 132 q + 1) - (I 132 q + 1) / 128 * 128) 132 := up_fr (by decide)
    rw [e1, e2]
    by_cases g : q' = q
    · subst g
      rw [up_eq, up_eq, aL_e]
      exact h6
    · rw [up_k g, up_k g, show eup I 132 q ((I 132 q + 1) - (I 132 q + 1) / 128 * 128) 133 q' = I 133 q' from up_r (by decide), aL_k g]
      exact h.1.2.1 q' hq'
  · unfold RoOk
    rw [(up_fr (by decide)).trans (up_fr (by decide)), (up_fr (by decide)).trans (up_fr (by decide)), aL_k (by omega)]
    exact h.1.2.2 l hl
  · rw [up_fr (by omega), up_fr (by omega)]
    exact h.2.1 r hr
  · rw [up_r (by omega), up_r (by omega)]
    exact h.2.2 i hi
theorem rs_del {w z : Nat} {ms : List aM} (hw : w < 3) (hz : z < 5) (hL : a.2 (5 * w + z) = m :: ms) (hD0 : qD (aL a (5 * w + z) ms) (5 * w + z) m) (hQ : aQ a 70) (h : RF I0 I a) :
    rOk (f_X12_delivers 122 (Int32.ofNat w) (Int32.ofNat z) (I, J)) I0 J (Int32.ofNat m.2.1) (aDel a (5 * w + z)) := by
  obtain ⟨f, h1, h2, h3, h4⟩ := RF_pop (by omega) hL h
  obtain ⟨hm, hD1⟩ := hD0
  have hv : (5 : Int32) * Int32.ofNat w + Int32.ofNat z = Int32.ofNat (5 * w + z) := by
    show Int32.ofNat 5 * _ + _ = _
    rw [i_mu, i_ad]
  have hx : (128 : Int32) * Int32.ofNat (5 * w + z) + Int32.ofNat f = Int32.ofNat (128 * (5 * w + z) + f) := by
    show Int32.ofNat 128 * _ + _ = _
    rw [i_mu, i_ad]
  have ht : (Int32.ofNat (5 * w + z)).toNatClampNeg = 5 * w + z := i_tn (by omega)
  have hi : eix (Int32.ofNat (5 * w + z)) 15 = true := i_ix (by omega) (by decide)
  have hj : eix (Int32.ofNat (128 * (5 * w + z) + f)) 1920 = true := i_ix (by omega) (by decide)
  have hjt : (Int32.ofNat (128 * (5 * w + z) + f)).toNatClampNeg = 128 * (5 * w + z) + f := i_tn (by omega)
  have g9 : ¬ (16 : Int32) = 0 := by decide
  have g10 : ¬ (256 : Int32) = 0 := by decide
  have g11 : ¬ (8 : Int32) = 0 := by decide
  have g12 : ¬ (2048 : Int32) = 0 := by decide
  have g13 : ¬ (128 : Int32) = 0 := by decide
  have hst : eup I 132 (5 * w + z) (Int32.ofNat f + 1 - (Int32.ofNat f + 1) / 128 * 128) 133 (5 * w + z) = I 133 (5 * w + z) := up_r (by decide)
  have z4 : (Int32.ofNat z = 4) = (z = 4) := i_eq (by omega) (by decide)
  rw [h2] at h4
  have hQ2 : aQ (aL a (5 * w + z) ms) 70 := by
    intro q q1 q2
    by_cases g : q = 5 * w + z
    · have := hQ q q1 q2
      rw [g, hL] at this
      rw [g, aL_e]
      have : ms.length + 1 ≤ 70 := this
      omega
    · rw [aL_k g]
      exact hQ q q1 q2
  have hQ14 : ((aL a (5 * w + z) ms).2 14).length < 128 := by
    have := hQ2 14 (by decide) (by decide)
    omega
  unfold f_X12_delivers f_X12_delivers_127 aDel
  simp only [hL]
  simp only [eLet, Option.bind_some, ↓reduceIte, K_2, K_3, K_4, K_5, K_21, K_22, K_23, K_24, K_57, K_58, K_59, K_60, K_61, K_62, K_63, K_64, K_65, K_66, K_67, K_68, K_69, K_70, K_71, K_72, K_73, K_122, K_123, K_124, K_125, K_126, K_127, K_128, K_129, K_130, K_131, K_132, K_133, K_134, K_135, K_136, K_137, K_138, K_139, K_140, K_141, K_142, K_143, K_144, K_145, K_146, K_147, K_148, K_149, K_150, K_151, K_152, K_153, K_154, K_155, K_156, K_157, K_158, K_159, K_160, K_161, R_2_0, R_2_1, R_2_2, R_2_3, R_2_4, R_2_5, R_2_6, R_2_7, R_4_0, R_4_1, R_4_2, R_23_0, R_23_1, R_23_2, R_58_0, R_58_1, R_58_2, R_58_3, R_58_4, R_64_0, R_66_0, R_68_0, R_68_1, R_68_2, R_68_3, R_72_0, R_122_0, R_122_1, R_122_2, R_122_3, R_122_4, R_122_5, R_122_6, R_122_7, R_122_8, R_122_9, R_122_10, R_122_11, R_122_12, R_122_13, R_122_14, R_122_15, R_122_16, R_122_17, R_122_19, R_122_20, R_122_21, R_122_22, R_122_23, R_122_24, R_122_25, R_122_26, R_122_27, R_122_28, R_122_29, R_122_30, R_122_31, R_122_33, R_122_34, R_122_35, R_122_36, R_122_37, R_122_39, R_122_41, true_and, and_true, eB, decide_true, decide_false, Bool.or_true, Bool.true_or, not_true_eq_false, not_false_eq_true, hv, ht, hi, h2, hx, hj, hjt, h3, g9, g10, g11, g12, g13, hst, gR_k hm, gR_l hm, gR_c hm, gR_n hm, z4]
  unfold aGot
  by_cases q4 : z = 4
  · subst q4
    have hD2 : hD (aL a (5 * w + 4) ms) (5 * w + 4) m := by
      rcases hD1 with q | q
      · exact q.2
      · exact absurd q.1 (by omega)
    obtain ⟨d1, d2, d3, d4⟩ := hD2
    simp only [not_true_eq_false, ↓reduceIte]
    rcases d4 with ⟨w4, k1, k2⟩ | ⟨w14, k1, c, k2, k3, k4⟩
    · rw [if_pos w4]
      have : w = 0 := by omega
      subst this
      exact r_bind (rs_req k1 hm.2.1 k2 hm.2.2.2 d1 d2 hQ2 (by decide) d3 h4) (fun I1 h5 => r_ret h5)
    · rw [if_neg (by omega), if_pos w14]
      have : w = 2 := by omega
      subst this
      exact r_bind (rs_ans k1 hm.2.1 hm.2.2.2 d1 d2 hQ2 (by decide) (by omega) k2 k3 k4 h4) (fun I1 h5 => r_ret h5)
  · have hD2 : cD (aL a (5 * w + z) ms) ((5 * w + z) % 5) m := by
      rcases hD1 with q | q
      · exact absurd q.1 (by omega)
      · exact q.2
    have e : (5 * w + z) % 5 = z := by omega
    rw [e] at hD2
    obtain ⟨d1, d2, d3, d4⟩ := hD2
    simp only [q4, not_false_eq_true, ↓reduceIte]
    rw [if_neg (by omega), if_neg (by omega), e]
    unfold aCore
    rcases d4 with (k | k) | k | ⟨k, k2, p, k3, k4⟩
    · rw [if_neg (by omega), if_neg (by omega), if_neg (by omega)]
      exact r_bind (rs_fwd (by omega) hm.2.1 k d3 d1 d2 hQ14 h4) (fun I1 h5 => r_ret h5)
    · rw [if_neg (by omega), if_neg (by omega), if_pos k, k]
      exact r_bind (rs_kil (by omega) hm.2.1 d3 d1 hQ14 h4) (fun I1 h5 => r_ret h5)
    · rw [if_pos k, k]
      exact r_bind (rs_done (by omega) hm.2.1 d1 h4) (fun I1 h5 => r_ret h5)
    · rw [if_neg (by omega), if_pos k, k]
      simp only [k3]
      exact r_bind (rs_dat (by omega) hm.2.1 k3 k2 hm.2.2.2 k4 d1 d2 hQ14 h4) (fun I1 h5 => r_ret h5)
end EPT
