/-! the reference's calls: load and store -/
section EPT
variable {I I0 : Nat → Nat → Int32} {J : Nat → Nat → Int64} {a b : aS} {r i l q c k n p : Nat} {v : Int32} {m : aM}
theorem aBeg_1 {P : Nat} {w : Bool} (h1 : ¬ r = 135) (h2 : ¬ r = 136) (h3 : ¬ r = 139) (h4 : ¬ r = 140) (h5 : ¬ r = 153) : (aBeg a c P l w).1 r = a.1 r := by
  unfold aBeg
  rw [aSend_1 h5, aW_1 h4, aW_1 h3, aW_1 h2, aW_1 h1]
theorem aBeg_135 {P : Nat} {w : Bool} : (aBeg a c P l w).1 135 = eup a.1 135 P (Int32.ofNat l) 135 := by
  unfold aBeg
  rw [aSend_1 (by decide), aW_1 (by decide), aW_1 (by decide), aW_1 (by decide)]
  rfl
theorem aBeg_136 {P : Nat} {w : Bool} : (aBeg a c P l w).1 136 = eup a.1 136 P (if w = true then 5 else 4) 136 := by
  unfold aBeg
  rw [aSend_1 (by decide), aW_1 (by decide), aW_1 (by decide)]
  funext i
  by_cases g : i = P
  · subst g
    rw [aW_e, up_eq]
  · rw [aW_k g, aW_1 (by decide), up_k g]
/-- a place that begins to wait for a line that no other place has -/
theorem cF_beg {w : Bool} (hp : p < 4) (hl : l < 16) (hno : ∀ p', p' < 4 → ¬ p' = p → aAt a c l p' = false) (h : cF a c) : cF (aBeg a c (4 * c + p) l w) c := by
  have hst : ∀ w : Bool, (if w = true then (5 : Int32) else 4) = 4 ∨ (if w = true then (5 : Int32) else 4) = 5 := by decide
  have hat : ∀ l' p', p' < 4 → ¬ p' = p → aAt (aBeg a c (4 * c + p) l w) c l' p' = aAt a c l' p' := by
    intro l' p' hp' g
    unfold aAt
    rw [aBeg_135, aBeg_136, up_k (by omega), up_k (by omega)]
  have hap : ∀ l', aAt (aBeg a c (4 * c + p) l w) c l' p = true → Int32.ofNat l = Int32.ofNat l' := by
    intro l' g
    have := (aAt_iff.1 g).2
    rw [aBeg_135, up_eq] at this
    exact this
  refine ⟨fun p' hp' => ?_, fun l' p1 p2 hp1 hp2 g1 g2 => ?_⟩
  · rw [aBeg_135, aBeg_136, aBeg_1 (r := 137) (by decide) (by decide) (by decide) (by decide) (by decide)]
    by_cases g : p' = p
    · subst g
      rw [up_eq, up_eq]
      refine ⟨?_, fun _ => ⟨l, hl, rfl⟩, fun q => ?_⟩
      · rcases hst w with q | q <;> rw [q]
        · exact Or.inr (Or.inr (Or.inr (Or.inr (Or.inl rfl))))
        · exact Or.inr (Or.inr (Or.inr (Or.inr (Or.inr rfl))))
      · rcases hst w with q2 | q2 <;> rw [q2] at q <;> exact absurd q (by decide)
    · rw [up_k (by omega), up_k (by omega)]
      exact h.1 p' hp'
  · by_cases e1 : p1 = p
    · by_cases e2 : p2 = p
      · omega
      · rw [hat _ _ hp2 e2] at g2
        rw [e1] at g1
        have e3 := hap l' g1
        have := hno p2 hp2 e2
        unfold aAt at this g2
        rw [e3] at this
        rw [this] at g2
        cases g2
    · rw [hat _ _ hp1 e1] at g1
      by_cases e2 : p2 = p
      · rw [e2] at g2
        have e3 := hap l' g2
        have := hno p1 hp1 e1
        unfold aAt at this g1
        rw [e3] at this
        rw [this] at g1
        cases g1
      · rw [hat _ _ hp2 e2] at g2
        exact h.2 l' p1 p2 hp1 hp2 g1 g2
theorem aPl_none (h : aPl a c l = none) : ∀ p, p < 4 → aAt a c l p = false := by
  intro p hp
  unfold aPl at h
  split at h
  · cases h
  · next q0 =>
    split at h
    · cases h
    · next q1 =>
      split at h
      · cases h
      · next q2 =>
        split at h
        · cases h
        · next q3 =>
          have : p = 0 ∨ p = 1 ∨ p = 2 ∨ p = 3 := by omega
          rcases this with e | e | e | e <;> subst e <;> simp_all
theorem aVac_1 {P : Nat} (h1 : ¬ r = 136) (h2 : ¬ r = 141) (h3 : ¬ r = 153) : (aVac a c P).1 r = a.1 r := by
  unfold aVac
  split
  · exact aW_1 h1
  · rw [aW_1 h1, aSend_1 h3, aW_1 h2]
theorem aVac_136 {P : Nat} : (aVac a c P).1 136 = eup a.1 136 P 0 136 := by
  unfold aVac
  split
  · rfl
  · funext i
    by_cases g : i = P
    · subst g
      rw [aW_e, up_eq]
    · rw [aW_k g, aSend_1 (by decide), aW_1 (by decide), up_k g]
theorem aVac_len {P : Nat} : ((aVac a c P).2 q).length ≤ (a.2 q).length + 1 := by
  unfold aVac
  split
  · rw [aW_2]
    omega
  · rw [aW_2]
    exact aSend_len
theorem cF_vac (hp : p < 4) (h : cF a c) : cF (aVac a c (4 * c + p)) c := by
  refine cF_sub h (fun p' hp' => ?_)
  rw [aVac_136, aVac_1 (r := 137) (by decide) (by decide) (by decide), aVac_1 (r := 135) (by decide) (by decide) (by decide)]
  by_cases g : p' = p
  · subst g
    rw [up_eq]
    exact ⟨Or.inl rfl, fun q => absurd rfl q, fun q => absurd q (by decide)⟩
  · rw [up_k (by omega)]
    exact ⟨(h.1 p' hp').1, fun q => ⟨q, rfl⟩, (h.1 p' hp').2.2⟩
theorem cF_ask {w : Bool} (hl : l < 16) (h : cF a c) : cF (aAsk a c l w).2 c := by
  unfold aAsk
  split
  · split
    · next p hp =>
      have hp4 := aPl_lt hp
      split
      · refine cF_beg hp4.1 hl (fun p' hp' g => ?_) h
        cases e : aAt a c l p' with
        | false => rfl
        | true => exact absurd (h.2 l p' p hp' hp4.1 e hp4.2) g
      · exact h
    · next hp =>
      split
      · next p hp2 =>
        exact cF_beg (aEp_lt hp2).1 hl (fun p' hp' _ => aPl_none hp p' hp') h
      · split
        · next p hp3 =>
          have hp4 := aVic_lt hp3
          refine cF_beg hp4 hl (fun p' hp' g => ?_) (cF_vac hp4 h)
          have := aPl_none hp p' hp'
          unfold aAt at this ⊢
          rw [aVac_136, aVac_1 (r := 135) (by decide) (by decide) (by decide), up_k (by omega)]
          exact this
        · exact h
  · exact h
theorem aBeg_len {P : Nat} {w : Bool} : ((aBeg a c P l w).2 q).length ≤ (a.2 q).length + 1 := aSend_len
theorem aAsk_len {w : Bool} : ((aAsk a c l w).2.2 q).length ≤ (a.2 q).length + 2 := by
  unfold aAsk
  split
  · split
    · split
      · exact Nat.le_trans aBeg_len (by omega)
      · show (a.2 q).length ≤ _
        omega
    · split
      · exact Nat.le_trans aBeg_len (by omega)
      · split
        · refine Nat.le_trans aBeg_len ?_
          have := @aVac_len a q c
          exact Nat.succ_le_succ aVac_len
        · show (a.2 q).length ≤ _
          omega
  · show (a.2 q).length ≤ _
    omega
theorem aAsk_1 {w : Bool} (h1 : ¬ r = 135) (h2 : ¬ r = 136) (h3 : ¬ r = 139) (h4 : ¬ r = 140) (h5 : ¬ r = 153) (h6 : ¬ r = 141) : (aAsk a c l w).2.1 r = a.1 r := by
  unfold aAsk
  split
  · split
    · split
      · exact aBeg_1 h1 h2 h3 h4 h5
      · rfl
    · split
      · exact aBeg_1 h1 h2 h3 h4 h5
      · split
        · refine (aBeg_1 h1 h2 h3 h4 h5).trans (aVac_1 h2 h6 h5)
        · rfl
  · rfl
/-- a core's buffer is in order -/
def bF (a : aS) (c : Nat) : Prop := ∃ b, b ≤ 4 ∧ a.1 142 c = Int32.ofNat b ∧ ∀ k, k < b → (∃ l, l < 16 ∧ a.1 143 (4 * c + k) = Int32.ofNat l) ∧ aV (a.1 144 (4 * c + k))
theorem rs_buf1 {b N : Nat} {f : Int32} {R : Option (Int32 × eMem)} (hc : c < 4) (hb : b ≤ 4) (hk : k < b) (e : a.1 142 c = Int32.ofNat b) (h : RF I0 I a) (hN : n + 2 ≤ N)
    (H : ∀ N, n ≤ N → f_X12_bufferedAt_L5 N (.inl (122, Int32.ofNat c, Int32.ofNat l, aBufS a c l f k, Int32.ofNat (k + 1))) (I, J) = R) :
    f_X12_bufferedAt_L5 N (.inl (122, Int32.ofNat c, Int32.ofNat l, f, Int32.ofNat k)) (I, J) = R := by
  obtain ⟨N, rfl⟩ := Nat.exists_eq_add_of_le hN
  rw [show n + 2 + N = n + N + 1 + 1 by omega, f_X12_bufferedAt_L5]
  have ht : (Int32.ofNat c).toNatClampNeg = c := i_tn (by omega)
  have hi : eix (Int32.ofNat c) 4 = true := i_ix hc (by decide)
  have e0 : I 142 c = Int32.ofNat b := (R_get h (by unfold aSc; omega)).trans e
  have e1 : I 143 (4 * c + k) = a.1 143 (4 * c + k) := R_get h (by unfold aSc; omega)
  have e2 : I 144 (4 * c + k) = a.1 144 (4 * c + k) := R_get h (by unfold aSc; omega)
  have g1 : (Int32.ofNat b ≤ Int32.ofNat k) = False := (i_le (by omega) (by omega)).trans (eq_false (by omega))
  have g2 : eix (Int32.ofNat (4 * c + k)) 16 = true := i_ix (by omega) (by decide)
  have g3 : (Int32.ofNat (4 * c + k)).toNatClampNeg = 4 * c + k := i_tn (by omega)
  have g4 : (Int32.ofNat k < Int32.ofNat b) = True := eq_true ((i_lt (by omega) (by omega)).mpr hk)
  simp only [eLet, Option.bind_some, ↓reduceIte, K_2, K_3, K_4, K_5, K_21, K_22, K_23, K_24, K_57, K_58, K_59, K_60, K_61, K_62, K_63, K_64, K_65, K_66, K_67, K_68, K_69, K_70, K_71, K_72, K_73, K_122, K_123, K_124, K_125, K_126, K_127, K_128, K_129, K_130, K_131, K_132, K_133, K_134, K_135, K_136, K_137, K_138, K_139, K_140, K_141, K_142, K_143, K_144, K_145, K_146, K_147, K_148, K_149, K_150, K_151, K_152, K_153, K_154, K_155, K_156, K_157, K_158, K_159, K_160, K_161, R_2_0, R_2_1, R_2_2, R_2_3, R_2_4, R_2_5, R_2_6, R_2_7, R_4_0, R_4_1, R_4_2, R_23_0, R_23_1, R_23_2, R_58_0, R_58_1, R_58_2, R_58_3, R_58_4, R_64_0, R_66_0, R_68_0, R_68_1, R_68_2, R_68_3, R_72_0, R_122_0, R_122_1, R_122_2, R_122_3, R_122_4, R_122_5, R_122_6, R_122_7, R_122_8, R_122_9, R_122_10, R_122_11, R_122_12, R_122_13, R_122_14, R_122_15, R_122_16, R_122_17, R_122_19, R_122_20, R_122_21, R_122_22, R_122_23, R_122_24, R_122_25, R_122_26, R_122_27, R_122_28, R_122_29, R_122_30, R_122_31, R_122_33, R_122_34, R_122_35, R_122_36, R_122_37, R_122_39, R_122_41, true_and, and_true, eB, decide_true, decide_false, Bool.or_true, Bool.true_or, not_true_eq_false, not_false_eq_true, ht, hi, e0, g1, m4, i_ad, g2, g3, e1, e2]
  unfold aBufS at H
  simp only [e, g4, true_and] at H
  by_cases q : a.1 143 (4 * c + k) = Int32.ofNat l
  · simp only [q, not_true_eq_false, ↓reduceIte] at H ⊢
    rw [f_X12_bufferedAt_L5, p1]
    exact H _ (by omega)
  · simp only [q, not_false_eq_true, ↓reduceIte] at H ⊢
    rw [f_X12_bufferedAt_L5, p1]
    exact H _ (by omega)
theorem rs_buf0 {b N : Nat} {f : Int32} (hc : c < 4) (hb : b ≤ 4) (e : a.1 142 c = Int32.ofNat b) (h : RF I0 I a) (hN : 1 ≤ N) :
    f_X12_bufferedAt_L5 N (.inl (122, Int32.ofNat c, Int32.ofNat l, f, Int32.ofNat b)) (I, J) = some (f, (I, J)) := by
  obtain ⟨N, rfl⟩ := Nat.exists_eq_add_of_le hN
  rw [show 1 + N = N + 1 by omega, f_X12_bufferedAt_L5]
  have ht : (Int32.ofNat c).toNatClampNeg = c := i_tn (by omega)
  have hi : eix (Int32.ofNat c) 4 = true := i_ix hc (by decide)
  have e0 : I 142 c = Int32.ofNat b := (R_get h (by unfold aSc; omega)).trans e
  have g1 : (Int32.ofNat b ≤ Int32.ofNat b) = True := eq_true ((i_le (by omega) (by omega)).mpr (Nat.le_refl _))
  simp only [eLet, Option.bind_some, ↓reduceIte, K_2, K_3, K_4, K_5, K_21, K_22, K_23, K_24, K_57, K_58, K_59, K_60, K_61, K_62, K_63, K_64, K_65, K_66, K_67, K_68, K_69, K_70, K_71, K_72, K_73, K_122, K_123, K_124, K_125, K_126, K_127, K_128, K_129, K_130, K_131, K_132, K_133, K_134, K_135, K_136, K_137, K_138, K_139, K_140, K_141, K_142, K_143, K_144, K_145, K_146, K_147, K_148, K_149, K_150, K_151, K_152, K_153, K_154, K_155, K_156, K_157, K_158, K_159, K_160, K_161, R_2_0, R_2_1, R_2_2, R_2_3, R_2_4, R_2_5, R_2_6, R_2_7, R_4_0, R_4_1, R_4_2, R_23_0, R_23_1, R_23_2, R_58_0, R_58_1, R_58_2, R_58_3, R_58_4, R_64_0, R_66_0, R_68_0, R_68_1, R_68_2, R_68_3, R_72_0, R_122_0, R_122_1, R_122_2, R_122_3, R_122_4, R_122_5, R_122_6, R_122_7, R_122_8, R_122_9, R_122_10, R_122_11, R_122_12, R_122_13, R_122_14, R_122_15, R_122_16, R_122_17, R_122_19, R_122_20, R_122_21, R_122_22, R_122_23, R_122_24, R_122_25, R_122_26, R_122_27, R_122_28, R_122_29, R_122_30, R_122_31, R_122_33, R_122_34, R_122_35, R_122_36, R_122_37, R_122_39, R_122_41, true_and, and_true, eB, decide_true, decide_false, Bool.or_true, Bool.true_or, not_true_eq_false, not_false_eq_true, ht, hi, e0, g1]
theorem aBufS_no {b : Nat} {f : Int32} (hb : b ≤ 4) (hk : k < 4) (e : a.1 142 c = Int32.ofNat b) (hkb : b ≤ k) : aBufS a c l f k = f := by
  unfold aBufS
  rw [if_neg]
  intro q
  rw [e, i_lt (by omega) (by omega)] at q
  omega
theorem rs_buf (hc : c < 4) (hb : bF a c) (h : RF I0 I a) : f_X12_bufferedAt 122 (Int32.ofNat c) (Int32.ofNat l) (I, J) = some (aBuf a c l, (I, J)) := by
  obtain ⟨b, hb4, e, _⟩ := hb
  unfold f_X12_bufferedAt aBuf
  show f_X12_bufferedAt_L5 1000000 (.inl (122, Int32.ofNat c, Int32.ofNat l, -1, Int32.ofNat 0)) (I, J) = _
  have hcs : b = 0 ∨ b = 1 ∨ b = 2 ∨ b = 3 ∨ b = 4 := by omega
  rcases hcs with q | q | q | q | q <;> subst q
  · rw [aBufS_no (k := 3) hb4 (by decide) e (by decide), aBufS_no (k := 2) hb4 (by decide) e (by decide), aBufS_no (k := 1) hb4 (by decide) e (by decide), aBufS_no (k := 0) hb4 (by decide) e (by decide)]
    exact rs_buf0 hc hb4 e h (by decide)
  · rw [aBufS_no (k := 3) hb4 (by decide) e (by decide), aBufS_no (k := 2) hb4 (by decide) e (by decide), aBufS_no (k := 1) hb4 (by decide) e (by decide)]
    refine rs_buf1 (n := 100) hc hb4 (by decide) e h (by decide) (fun N1 h1 => ?_)
    exact rs_buf0 hc hb4 e h (by omega)
  · rw [aBufS_no (k := 3) hb4 (by decide) e (by decide), aBufS_no (k := 2) hb4 (by decide) e (by decide)]
    refine rs_buf1 (n := 100) hc hb4 (by decide) e h (by decide) (fun N1 h1 => ?_)
    refine rs_buf1 (k := 1) (n := 90) hc hb4 (by decide) e h (by omega) (fun N1 h1 => ?_)
    exact rs_buf0 hc hb4 e h (by omega)
  · rw [aBufS_no (k := 3) hb4 (by decide) e (by decide)]
    refine rs_buf1 (n := 100) hc hb4 (by decide) e h (by decide) (fun N1 h1 => ?_)
    refine rs_buf1 (k := 1) (n := 90) hc hb4 (by decide) e h (by omega) (fun N1 h1 => ?_)
    refine rs_buf1 (k := 2) (n := 80) hc hb4 (by decide) e h (by omega) (fun N1 h1 => ?_)
    exact rs_buf0 hc hb4 e h (by omega)
  · refine rs_buf1 (n := 100) hc hb4 (by decide) e h (by decide) (fun N1 h1 => ?_)
    refine rs_buf1 (k := 1) (n := 90) hc hb4 (by decide) e h (by omega) (fun N1 h1 => ?_)
    refine rs_buf1 (k := 2) (n := 80) hc hb4 (by decide) e h (by omega) (fun N1 h1 => ?_)
    refine rs_buf1 (k := 3) (n := 70) hc hb4 (by decide) e h (by omega) (fun N1 h1 => ?_)
    exact rs_buf0 hc hb4 e h (by omega)
theorem rs_full (hc : c < 4) (h : RF I0 I a) : f_X12_isFull 122 (Int32.ofNat c) (Int32.ofNat l) (I, J) = some (if aFull a c l = true then 1 else 0, (I, J)) := by
  have ht : (Int32.ofNat c).toNatClampNeg = c := i_tn (by omega)
  have hi : eix (Int32.ofNat c) 4 = true := i_ix hc (by decide)
  have e1 : I 145 c = a.1 145 c := R_get h (by unfold aSc; omega)
  have e2 : I 148 c = a.1 148 c := R_get h (by unfold aSc; omega)
  have e3 : I 149 c = a.1 149 c := R_get h (by unfold aSc; omega)
  have h10 : ¬ (1 : Int32) = 0 := by decide
  have g4 : (Int32.ofNat (aPop (a.1 148 c ||| a.1 149 c)) = 4) = (aPop (a.1 148 c ||| a.1 149 c) = 4) := i_eq (by have := aPop_le (a.1 148 c ||| a.1 149 c); omega) (by decide)
  unfold f_X12_isFull f_X12_isFull_42 f_X12_isFull_43 aFull
  simp only [eLet, Option.bind_some, ↓reduceIte, K_2, K_3, K_4, K_5, K_21, K_22, K_23, K_24, K_57, K_58, K_59, K_60, K_61, K_62, K_63, K_64, K_65, K_66, K_67, K_68, K_69, K_70, K_71, K_72, K_73, K_122, K_123, K_124, K_125, K_126, K_127, K_128, K_129, K_130, K_131, K_132, K_133, K_134, K_135, K_136, K_137, K_138, K_139, K_140, K_141, K_142, K_143, K_144, K_145, K_146, K_147, K_148, K_149, K_150, K_151, K_152, K_153, K_154, K_155, K_156, K_157, K_158, K_159, K_160, K_161, R_2_0, R_2_1, R_2_2, R_2_3, R_2_4, R_2_5, R_2_6, R_2_7, R_4_0, R_4_1, R_4_2, R_23_0, R_23_1, R_23_2, R_58_0, R_58_1, R_58_2, R_58_3, R_58_4, R_64_0, R_66_0, R_68_0, R_68_1, R_68_2, R_68_3, R_72_0, R_122_0, R_122_1, R_122_2, R_122_3, R_122_4, R_122_5, R_122_6, R_122_7, R_122_8, R_122_9, R_122_10, R_122_11, R_122_12, R_122_13, R_122_14, R_122_15, R_122_16, R_122_17, R_122_19, R_122_20, R_122_21, R_122_22, R_122_23, R_122_24, R_122_25, R_122_26, R_122_27, R_122_28, R_122_29, R_122_30, R_122_31, R_122_33, R_122_34, R_122_35, R_122_36, R_122_37, R_122_39, R_122_41, true_and, and_true, eB, decide_true, decide_false, Bool.or_true, Bool.true_or, not_true_eq_false, not_false_eq_true, ht, hi, e1, e2, e3, rs_isIn hc h, rs_bits, g4]
  by_cases q1 : a.1 145 c = 0
  · simp [q1]
  · by_cases q2 : aIsIn a c l = true
    · simp [q1, q2, h10]
    · by_cases q3 : aPop (a.1 148 c ||| a.1 149 c) = 4
      · simp [q1, q2, q3]
      · simp [q1, q2, q3]
end EPT
