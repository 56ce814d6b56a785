/-! the reference: requests at the home -/
section EPT
variable {I I0 : Nat → Nat → Int32} {J : Nat → Nat → Int64} {a b : aS} {r i l q c k n m : Nat} {v : Int32}
/-- what the home knows of a line is in order -/
def hF (a : aS) (l : Nat) : Prop := (a.1 124 l = -1 ∨ ∃ o, o < 4 ∧ a.1 124 l = Int32.ofNat o) ∧ aV (a.1 123 l)
/-- queues but the home's requests are short -/
def aQ (a : aS) (n : Nat) : Prop := ∀ q, q < 15 → ¬ q = 4 → (a.2 q).length ≤ n
theorem aKc_1 {x y c' : Nat} : aKc (aK1 a l c x) l c' y = aKc a l c' y := by
  unfold aKc
  rw [aK1_1 (by decide), aK1_1 (by decide)]
theorem aKn1_1 {x y c' : Nat} : aKn1 (aK1 a l c x) l c' y = aKn1 a l c' y := by
  unfold aKn1
  rw [aKc_1]
theorem aK1_len {x : Nat} : ((aK1 a l c x).2 q).length ≤ (a.2 q).length + (if q = 5 + x then 1 else 0) := by
  unfold aK1
  split
  · by_cases g : q = 5 + x
    · subst g
      rw [aSend_e, List.length_append, if_pos rfl]
      exact Nat.le_refl _
    · rw [aSend_k g]
      omega
  · omega
theorem aK1_q {x : Nat} (h : ¬ q = 5 + x) : (aK1 a l c x).2 q = a.2 q := by
  unfold aK1
  split
  · exact aSend_k h
  · rfl
theorem aKills_len : ((aKills a l c).2 q).length ≤ (a.2 q).length + 1 := by
  unfold aKills
  have h0 := aK1_len (a := a) (l := l) (c := c) (q := q) (x := 0)
  have h1 := aK1_len (a := aK1 a l c 0) (l := l) (c := c) (q := q) (x := 1)
  have h2 := aK1_len (a := aK1 (aK1 a l c 0) l c 1) (l := l) (c := c) (q := q) (x := 2)
  have h3 := aK1_len (a := aK1 (aK1 (aK1 a l c 0) l c 1) l c 2) (l := l) (c := c) (q := q) (x := 3)
  split at h0 <;> split at h1 <;> split at h2 <;> split at h3 <;> omega
theorem aKills_q (h : q < 5 ∨ 9 ≤ q) : (aKills a l c).2 q = a.2 q := by
  unfold aKills
  rw [aK1_q (by omega), aK1_q (by omega), aK1_q (by omega), aK1_q (by omega)]
theorem rs_kill1 {x kd N : Nat} {a2 : aS} (hx : x < 4) (hl : l < 16) (hc : c < 4) (hm : m < 100) (hq : (a.2 (5 + x)).length < 128) (h : RF I0 I a) (hN : n + 3 ≤ N)
    (H : ∀ N I1, n ≤ N → RF I0 I1 (aK1 a l c x) → rOk (f_X12_does_L161 N (.inl (122, Int32.ofNat kd, Int32.ofNat l, Int32.ofNat c, Int32.ofNat (m + aKn1 a l c x), Int32.ofNat (x + 1))) (I1, J)) I0 J () a2) :
    rOk (f_X12_does_L161 N (.inl (122, Int32.ofNat kd, Int32.ofNat l, Int32.ofNat c, Int32.ofNat m, Int32.ofNat x)) (I, J)) I0 J () a2 := by
  obtain ⟨N, rfl⟩ := Nat.exists_eq_add_of_le hN
  rw [show n + 3 + N = n + N + 3 by omega]
  clear hN
  have ht : (Int32.ofNat l).toNatClampNeg = l := i_tn (by omega)
  have hi : eix (Int32.ofNat l) 16 = true := i_ix hl (by decide)
  have e1 : I 126 l = a.1 126 l := R_get h (by unfold aSc; omega)
  have e2 : I 125 l = a.1 125 l := R_get h (by unfold aSc; omega)
  have g1 : ((4 : Int32) ≤ Int32.ofNat x) = False := (i_le (n := 4) (m := x) (by decide) (by omega)).trans (eq_false (by omega))
  have g2 : (Int32.ofNat x = Int32.ofNat c) = (x = c) := i_eq (by omega) (by omega)
  have g3 : Int32.ofNat x + 1 = Int32.ofNat (x + 1) := i_ad
  have g4 : Int32.ofNat m + 1 = Int32.ofNat (m + 1) := i_ad
  have K1 : aKc a l c x = true → rOk (f_X12_does_L161 (n + N + 2) (.inr (.inl (122, Int32.ofNat kd, Int32.ofNat l, Int32.ofNat c, Int32.ofNat m, Int32.ofNat x))) (I, J)) I0 J () a2 := by
    intro g
    show rOk (f_X12_does_L161 (n + N + 1 + 1) _ _) I0 J () a2
    rw [f_X12_does_L161]
    simp only [eLet, Option.bind_some, ↓reduceIte, K_2, K_3, K_4, K_5, K_21, K_22, K_23, K_24, K_57, K_58, K_59, K_60, K_61, K_62, K_63, K_64, K_65, K_66, K_67, K_68, K_69, K_70, K_71, K_72, K_73, K_122, K_123, K_124, K_125, K_126, K_127, K_128, K_129, K_130, K_131, K_132, K_133, K_134, K_135, K_136, K_137, K_138, K_139, K_140, K_141, K_142, K_143, K_144, K_145, K_146, K_147, K_148, K_149, K_150, K_151, K_152, K_153, K_154, K_155, K_156, K_157, K_158, K_159, K_160, K_161, R_2_0, R_2_1, R_2_2, R_2_3, R_2_4, R_2_5, R_2_6, R_2_7, R_4_0, R_4_1, R_4_2, R_23_0, R_23_1, R_23_2, R_58_0, R_58_1, R_58_2, R_58_3, R_58_4, R_64_0, R_66_0, R_68_0, R_68_1, R_68_2, R_68_3, R_72_0, R_122_0, R_122_1, R_122_2, R_122_3, R_122_4, R_122_5, R_122_6, R_122_7, R_122_8, R_122_9, R_122_10, R_122_11, R_122_12, R_122_13, R_122_14, R_122_15, R_122_16, R_122_17, R_122_19, R_122_20, R_122_21, R_122_22, R_122_23, R_122_24, R_122_25, R_122_26, R_122_27, R_122_28, R_122_29, R_122_30, R_122_31, R_122_33, R_122_34, R_122_35, R_122_36, R_122_37, R_122_39, R_122_41, true_and, and_true, eB, decide_true, decide_false, Bool.or_true, Bool.true_or, not_true_eq_false, not_false_eq_true]
    refine r_bind (rs_sends (w := 1) (z := x) (k := 5) (n := 0) (by decide) (by omega) hl (by decide) (by omega) (by decide) h hq) (fun I1 h1 => ?_)
    dsimp only
    rw [f_X12_does_L161, g3, g4]
    have e : aKn1 a l c x = 1 := if_pos g
    rw [e] at H
    refine H (n + N) I1 (by omega) ?_
    unfold aK1
    rw [if_pos g]
    exact h1
  have K0 : ¬ aKc a l c x = true → rOk (f_X12_does_L161 (n + N + 2) (.inr (.inr (122, Int32.ofNat kd, Int32.ofNat l, Int32.ofNat c, Int32.ofNat m, Int32.ofNat x))) (I, J)) I0 J () a2 := by
    intro g
    show rOk (f_X12_does_L161 (n + N + 1 + 1) _ _) I0 J () a2
    rw [f_X12_does_L161, g3]
    have e : aKn1 a l c x = 0 := if_neg g
    rw [e] at H
    exact H (n + N + 1) I (by omega) (by
      unfold aK1
      rw [if_neg g]
      exact h)
  have e3 : f_X12_does_L161 (n + N + 3) (.inl (122, Int32.ofNat kd, Int32.ofNat l, Int32.ofNat c, Int32.ofNat m, Int32.ofNat x)) (I, J) =
      if aKc a l c x = true then f_X12_does_L161 (n + N + 2) (.inr (.inl (122, Int32.ofNat kd, Int32.ofNat l, Int32.ofNat c, Int32.ofNat m, Int32.ofNat x))) (I, J)
      else f_X12_does_L161 (n + N + 2) (.inr (.inr (122, Int32.ofNat kd, Int32.ofNat l, Int32.ofNat c, Int32.ofNat m, Int32.ofNat x))) (I, J) := by
    rw [f_X12_does_L161]
    simp only [eLet, Option.bind_some, ↓reduceIte, K_2, K_3, K_4, K_5, K_21, K_22, K_23, K_24, K_57, K_58, K_59, K_60, K_61, K_62, K_63, K_64, K_65, K_66, K_67, K_68, K_69, K_70, K_71, K_72, K_73, K_122, K_123, K_124, K_125, K_126, K_127, K_128, K_129, K_130, K_131, K_132, K_133, K_134, K_135, K_136, K_137, K_138, K_139, K_140, K_141, K_142, K_143, K_144, K_145, K_146, K_147, K_148, K_149, K_150, K_151, K_152, K_153, K_154, K_155, K_156, K_157, K_158, K_159, K_160, K_161, R_2_0, R_2_1, R_2_2, R_2_3, R_2_4, R_2_5, R_2_6, R_2_7, R_4_0, R_4_1, R_4_2, R_23_0, R_23_1, R_23_2, R_58_0, R_58_1, R_58_2, R_58_3, R_58_4, R_64_0, R_66_0, R_68_0, R_68_1, R_68_2, R_68_3, R_72_0, R_122_0, R_122_1, R_122_2, R_122_3, R_122_4, R_122_5, R_122_6, R_122_7, R_122_8, R_122_9, R_122_10, R_122_11, R_122_12, R_122_13, R_122_14, R_122_15, R_122_16, R_122_17, R_122_19, R_122_20, R_122_21, R_122_22, R_122_23, R_122_24, R_122_25, R_122_26, R_122_27, R_122_28, R_122_29, R_122_30, R_122_31, R_122_33, R_122_34, R_122_35, R_122_36, R_122_37, R_122_39, R_122_41, true_and, and_true, eB, decide_true, decide_false, Bool.or_true, Bool.true_or, not_true_eq_false, not_false_eq_true, ht, hi, e1, e2, g1, g2]
    unfold aKc
    by_cases q1 : x = c
    · simp [q1]
    · by_cases q2 : a.1 126 l = 0
      · by_cases q3 : aBit (a.1 125 l) x = true
        · have : (a.1 125 l >>> (Int32.ofNat x &&& 31)) &&& 1 = 1 := of_decide_eq_true q3
          simp [q1, q2, q3, this]
        · have : ¬ (a.1 125 l >>> (Int32.ofNat x &&& 31)) &&& 1 = 1 := fun e => q3 (decide_eq_true e)
          simp [q1, q2, q3, this]
      · simp [q1, q2]
  rw [e3]
  split
  · next g => exact K1 g
  · next g => exact K0 g
theorem aKn_le : aKn a l c ≤ 4 := by
  unfold aKn aKn1
  repeat' split
  all_goals omega
theorem rs_doW {kd : Nat} (hl : l < 16) (hc : c < 4) (hk0 : ¬ kd = 0) (hk : kd < 3) (hv : aV (a.1 123 l)) (hq : aQ a n) (hn : n < 100) (h : RF I0 I a) :
    rOk (f_X12_does_L161 1000000 (.inl (122, Int32.ofNat kd, Int32.ofNat l, Int32.ofNat c, 0, 0)) (I, J)) I0 J () (aDoW a kd l c) := by
  have hq' : ∀ q, q < 15 → ¬ q = 4 → (a.2 q).length < 128 := fun q h1 h2 => by have := hq q h1 h2; omega
  show rOk (f_X12_does_L161 1000000 (.inl (122, Int32.ofNat kd, Int32.ofNat l, Int32.ofNat c, Int32.ofNat 0, Int32.ofNat 0)) (I, J)) I0 J () (aDoW a kd l c)
  have hb := aKn_le (a := a) (l := l) (c := c)
  unfold aKn at hb
  refine rs_kill1 (x := 0) (n := 100) (by decide) hl hc (by decide) (hq' _ (by decide) (by decide)) h (by decide) (fun N1 I1 hN1 h1 => ?_)
  refine rs_kill1 (x := 1) (n := 97) (by decide) hl hc (by omega) ?_ h1 (by omega) (fun N2 I2 hN2 h2 => ?_)
  · rw [aK1_q (by decide)]
    exact hq' _ (by decide) (by decide)
  rw [aKn1_1]
  refine rs_kill1 (x := 2) (n := 94) (by decide) hl hc (by omega) ?_ h2 (by omega) (fun N3 I3 hN3 h3 => ?_)
  · rw [aK1_q (by decide), aK1_q (by decide)]
    exact hq' _ (by decide) (by decide)
  rw [aKn1_1, aKn1_1]
  refine rs_kill1 (x := 3) (n := 91) (by decide) hl hc (by omega) ?_ h3 (by omega) (fun N4 I4 hN4 h4 => ?_)
  · rw [aK1_q (by decide), aK1_q (by decide), aK1_q (by decide)]
    exact hq' _ (by decide) (by decide)
  rw [aKn1_1, aKn1_1, aKn1_1]
  obtain ⟨N5, rfl⟩ := Nat.exists_eq_add_of_le hN4
  have h4 : RF I0 I4 (aKills a l c) := h4
  have e : 0 + aKn1 a l c 0 + aKn1 a l c 1 + aKn1 a l c 2 + aKn1 a l c 3 = aKn a l c := by
    unfold aKn
    omega
  rw [e]
  have g1 : ((4 : Int32) ≤ Int32.ofNat (3 + 1)) = True := eq_true (by decide)
  rw [show 91 + N5 = 90 + N5 + 1 by omega]
  rw [f_X12_does_L161]
  simp only [eLet, Option.bind_some, ↓reduceIte, K_2, K_3, K_4, K_5, K_21, K_22, K_23, K_24, K_57, K_58, K_59, K_60, K_61, K_62, K_63, K_64, K_65, K_66, K_67, K_68, K_69, K_70, K_71, K_72, K_73, K_122, K_123, K_124, K_125, K_126, K_127, K_128, K_129, K_130, K_131, K_132, K_133, K_134, K_135, K_136, K_137, K_138, K_139, K_140, K_141, K_142, K_143, K_144, K_145, K_146, K_147, K_148, K_149, K_150, K_151, K_152, K_153, K_154, K_155, K_156, K_157, K_158, K_159, K_160, K_161, R_2_0, R_2_1, R_2_2, R_2_3, R_2_4, R_2_5, R_2_6, R_2_7, R_4_0, R_4_1, R_4_2, R_23_0, R_23_1, R_23_2, R_58_0, R_58_1, R_58_2, R_58_3, R_58_4, R_64_0, R_66_0, R_68_0, R_68_1, R_68_2, R_68_3, R_72_0, R_122_0, R_122_1, R_122_2, R_122_3, R_122_4, R_122_5, R_122_6, R_122_7, R_122_8, R_122_9, R_122_10, R_122_11, R_122_12, R_122_13, R_122_14, R_122_15, R_122_16, R_122_17, R_122_19, R_122_20, R_122_21, R_122_22, R_122_23, R_122_24, R_122_25, R_122_26, R_122_27, R_122_28, R_122_29, R_122_30, R_122_31, R_122_33, R_122_34, R_122_35, R_122_36, R_122_37, R_122_39, R_122_41, true_and, and_true, eB, decide_true, decide_false, Bool.or_true, Bool.true_or, not_true_eq_false, not_false_eq_true, g1]
  refine r_bind (rs_waits hl h4) (fun I5 h5 => ?_)
  dsimp only
  refine r_bind (rs_ends hl hc ?_ ?_ ?_ ?_ h5) (fun I6 h6 => ?_)
  · unfold aWaits
    rw [aW_1 (by decide), aW_e]
  · intro e0
    unfold aWaits at e0
    rw [aW_1 (by decide), aW_1 (by decide), aW_e] at e0
    have : (Int32.ofNat kd = 0) = (kd = 0) := i_eq (by omega) (by decide)
    rw [this] at e0
    exact absurd e0 hk0
  · rw [aWaits_1 (by decide) (by decide) (by decide), aKills_1 (by decide)]
    exact hv
  · rw [aWaits_2, aKills_q (by omega)]
    exact hq' _ (by omega) (by omega)
  · exact r_ret h6
theorem rs_has (hl : l < 16) (h : RF I0 I a) : f_X12_hasSharers 122 (Int32.ofNat l) (I, J) = some (if a.1 126 l = 0 ∧ a.1 125 l = 0 then 0 else 1, (I, J)) := by
  have ht : (Int32.ofNat l).toNatClampNeg = l := i_tn (by omega)
  have hi : eix (Int32.ofNat l) 16 = true := i_ix hl (by decide)
  have e1 : I 126 l = a.1 126 l := R_get h (by unfold aSc; omega)
  have e2 : I 125 l = a.1 125 l := R_get h (by unfold aSc; omega)
  unfold f_X12_hasSharers f_X12_hasSharers_18 f_X12_hasSharers_23
  simp only [eLet, Option.bind_some, ↓reduceIte, K_2, K_3, K_4, K_5, K_21, K_22, K_23, K_24, K_57, K_58, K_59, K_60, K_61, K_62, K_63, K_64, K_65, K_66, K_67, K_68, K_69, K_70, K_71, K_72, K_73, K_122, K_123, K_124, K_125, K_126, K_127, K_128, K_129, K_130, K_131, K_132, K_133, K_134, K_135, K_136, K_137, K_138, K_139, K_140, K_141, K_142, K_143, K_144, K_145, K_146, K_147, K_148, K_149, K_150, K_151, K_152, K_153, K_154, K_155, K_156, K_157, K_158, K_159, K_160, K_161, R_2_0, R_2_1, R_2_2, R_2_3, R_2_4, R_2_5, R_2_6, R_2_7, R_4_0, R_4_1, R_4_2, R_23_0, R_23_1, R_23_2, R_58_0, R_58_1, R_58_2, R_58_3, R_58_4, R_64_0, R_66_0, R_68_0, R_68_1, R_68_2, R_68_3, R_72_0, R_122_0, R_122_1, R_122_2, R_122_3, R_122_4, R_122_5, R_122_6, R_122_7, R_122_8, R_122_9, R_122_10, R_122_11, R_122_12, R_122_13, R_122_14, R_122_15, R_122_16, R_122_17, R_122_19, R_122_20, R_122_21, R_122_22, R_122_23, R_122_24, R_122_25, R_122_26, R_122_27, R_122_28, R_122_29, R_122_30, R_122_31, R_122_33, R_122_34, R_122_35, R_122_36, R_122_37, R_122_39, R_122_41, true_and, and_true, eB, decide_true, decide_false, Bool.or_true, Bool.true_or, not_true_eq_false, not_false_eq_true, ht, hi, e1, e2]
  by_cases g1 : a.1 126 l = 0 <;> by_cases g2 : a.1 125 l = 0 <;> simp [g1, g2]
theorem rs_does {kd : Nat} (hl : l < 16) (hc : c < 4) (hk : kd < 3) (hn : n < 1000) (hf : hF a l) (hq : aQ a m) (hm : m < 100) (h : RF I0 I a) :
    rOk (f_X12_does 122 (Int32.ofNat kd) (Int32.ofNat l) (Int32.ofNat c) (Int32.ofNat n) (I, J)) I0 J () (aDoes a kd l c n) := by
  have hq' : ∀ q, q < 15 → ¬ q = 4 → (a.2 q).length < 128 := fun q h1 h2 => by have := hq q h1 h2; omega
  have ht : (Int32.ofNat l).toNatClampNeg = l := i_tn (by omega)
  have hi : eix (Int32.ofNat l) 16 = true := i_ix hl (by decide)
  have e1 : I 124 l = a.1 124 l := R_get h (by unfold aSc; omega)
  have k2 : (Int32.ofNat kd = 2) = (kd = 2) := i_eq (by omega) (by decide)
  have k0 : (Int32.ofNat kd = 0) = (kd = 0) := i_eq (by omega) (by decide)
  have hP : ∀ s0 : Int32, kd = 2 → rOk (f_X12_does_25 122 (Int32.ofNat kd) (Int32.ofNat l) (Int32.ofNat c) (Int32.ofNat n) s0 (I, J)) I0 J () (aDoP a l c n) := by
    intro s0 g
    unfold f_X12_does_25
    simp only [eLet, Option.bind_some, ↓reduceIte, K_2, K_3, K_4, K_5, K_21, K_22, K_23, K_24, K_57, K_58, K_59, K_60, K_61, K_62, K_63, K_64, K_65, K_66, K_67, K_68, K_69, K_70, K_71, K_72, K_73, K_122, K_123, K_124, K_125, K_126, K_127, K_128, K_129, K_130, K_131, K_132, K_133, K_134, K_135, K_136, K_137, K_138, K_139, K_140, K_141, K_142, K_143, K_144, K_145, K_146, K_147, K_148, K_149, K_150, K_151, K_152, K_153, K_154, K_155, K_156, K_157, K_158, K_159, K_160, K_161, R_2_0, R_2_1, R_2_2, R_2_3, R_2_4, R_2_5, R_2_6, R_2_7, R_4_0, R_4_1, R_4_2, R_23_0, R_23_1, R_23_2, R_58_0, R_58_1, R_58_2, R_58_3, R_58_4, R_64_0, R_66_0, R_68_0, R_68_1, R_68_2, R_68_3, R_72_0, R_122_0, R_122_1, R_122_2, R_122_3, R_122_4, R_122_5, R_122_6, R_122_7, R_122_8, R_122_9, R_122_10, R_122_11, R_122_12, R_122_13, R_122_14, R_122_15, R_122_16, R_122_17, R_122_19, R_122_20, R_122_21, R_122_22, R_122_23, R_122_24, R_122_25, R_122_26, R_122_27, R_122_28, R_122_29, R_122_30, R_122_31, R_122_33, R_122_34, R_122_35, R_122_36, R_122_37, R_122_39, R_122_41, true_and, and_true, eB, decide_true, decide_false, Bool.or_true, Bool.true_or, not_true_eq_false, not_false_eq_true, ht, hi, e1, k2, g]
    unfold aDoP f_X12_does_57 f_X12_does_231
    by_cases g2 : a.1 124 l = Int32.ofNat c
    · simp only [eLet, Option.bind_some, ↓reduceIte, K_2, K_3, K_4, K_5, K_21, K_22, K_23, K_24, K_57, K_58, K_59, K_60, K_61, K_62, K_63, K_64, K_65, K_66, K_67, K_68, K_69, K_70, K_71, K_72, K_73, K_122, K_123, K_124, K_125, K_126, K_127, K_128, K_129, K_130, K_131, K_132, K_133, K_134, K_135, K_136, K_137, K_138, K_139, K_140, K_141, K_142, K_143, K_144, K_145, K_146, K_147, K_148, K_149, K_150, K_151, K_152, K_153, K_154, K_155, K_156, K_157, K_158, K_159, K_160, K_161, R_2_0, R_2_1, R_2_2, R_2_3, R_2_4, R_2_5, R_2_6, R_2_7, R_4_0, R_4_1, R_4_2, R_23_0, R_23_1, R_23_2, R_58_0, R_58_1, R_58_2, R_58_3, R_58_4, R_64_0, R_66_0, R_68_0, R_68_1, R_68_2, R_68_3, R_72_0, R_122_0, R_122_1, R_122_2, R_122_3, R_122_4, R_122_5, R_122_6, R_122_7, R_122_8, R_122_9, R_122_10, R_122_11, R_122_12, R_122_13, R_122_14, R_122_15, R_122_16, R_122_17, R_122_19, R_122_20, R_122_21, R_122_22, R_122_23, R_122_24, R_122_25, R_122_26, R_122_27, R_122_28, R_122_29, R_122_30, R_122_31, R_122_33, R_122_34, R_122_35, R_122_36, R_122_37, R_122_39, R_122_41, true_and, and_true, eB, decide_true, decide_false, Bool.or_true, Bool.true_or, not_true_eq_false, not_false_eq_true, g2]
      refine r_bind (rs_sends (w := 2) (z := c) (k := 7) (n := 0) (by decide) (by omega) hl (by decide) (by omega) (by decide) (RF_w (RF_w h (by unfold aSc; omega)) (by unfold aSc; omega)) (hq' _ (by omega) (by omega))) (fun I1 h1 => ?_)
      exact r_ret h1
    · simp only [eLet, Option.bind_some, ↓reduceIte, K_2, K_3, K_4, K_5, K_21, K_22, K_23, K_24, K_57, K_58, K_59, K_60, K_61, K_62, K_63, K_64, K_65, K_66, K_67, K_68, K_69, K_70, K_71, K_72, K_73, K_122, K_123, K_124, K_125, K_126, K_127, K_128, K_129, K_130, K_131, K_132, K_133, K_134, K_135, K_136, K_137, K_138, K_139, K_140, K_141, K_142, K_143, K_144, K_145, K_146, K_147, K_148, K_149, K_150, K_151, K_152, K_153, K_154, K_155, K_156, K_157, K_158, K_159, K_160, K_161, R_2_0, R_2_1, R_2_2, R_2_3, R_2_4, R_2_5, R_2_6, R_2_7, R_4_0, R_4_1, R_4_2, R_23_0, R_23_1, R_23_2, R_58_0, R_58_1, R_58_2, R_58_3, R_58_4, R_64_0, R_66_0, R_68_0, R_68_1, R_68_2, R_68_3, R_72_0, R_122_0, R_122_1, R_122_2, R_122_3, R_122_4, R_122_5, R_122_6, R_122_7, R_122_8, R_122_9, R_122_10, R_122_11, R_122_12, R_122_13, R_122_14, R_122_15, R_122_16, R_122_17, R_122_19, R_122_20, R_122_21, R_122_22, R_122_23, R_122_24, R_122_25, R_122_26, R_122_27, R_122_28, R_122_29, R_122_30, R_122_31, R_122_33, R_122_34, R_122_35, R_122_36, R_122_37, R_122_39, R_122_41, true_and, and_true, eB, decide_true, decide_false, Bool.or_true, Bool.true_or, not_true_eq_false, not_false_eq_true, g2]
      refine r_bind (rs_sends (w := 2) (z := c) (k := 7) (n := 0) (by decide) (by omega) hl (by decide) (by omega) (by decide) h (hq' _ (by omega) (by omega))) (fun I1 h1 => ?_)
      exact r_ret h1
  have h0 : ¬ kd = 2 → rOk (f_X12_does_25 122 (Int32.ofNat kd) (Int32.ofNat l) (Int32.ofNat c) (Int32.ofNat n) 0 (I, J)) I0 J () (if kd = 0 then aDoR a l c else aDoW a kd l c) := by
    intro g
    unfold f_X12_does_25
    simp only [eLet, Option.bind_some, ↓reduceIte, K_2, K_3, K_4, K_5, K_21, K_22, K_23, K_24, K_57, K_58, K_59, K_60, K_61, K_62, K_63, K_64, K_65, K_66, K_67, K_68, K_69, K_70, K_71, K_72, K_73, K_122, K_123, K_124, K_125, K_126, K_127, K_128, K_129, K_130, K_131, K_132, K_133, K_134, K_135, K_136, K_137, K_138, K_139, K_140, K_141, K_142, K_143, K_144, K_145, K_146, K_147, K_148, K_149, K_150, K_151, K_152, K_153, K_154, K_155, K_156, K_157, K_158, K_159, K_160, K_161, R_2_0, R_2_1, R_2_2, R_2_3, R_2_4, R_2_5, R_2_6, R_2_7, R_4_0, R_4_1, R_4_2, R_23_0, R_23_1, R_23_2, R_58_0, R_58_1, R_58_2, R_58_3, R_58_4, R_64_0, R_66_0, R_68_0, R_68_1, R_68_2, R_68_3, R_72_0, R_122_0, R_122_1, R_122_2, R_122_3, R_122_4, R_122_5, R_122_6, R_122_7, R_122_8, R_122_9, R_122_10, R_122_11, R_122_12, R_122_13, R_122_14, R_122_15, R_122_16, R_122_17, R_122_19, R_122_20, R_122_21, R_122_22, R_122_23, R_122_24, R_122_25, R_122_26, R_122_27, R_122_28, R_122_29, R_122_30, R_122_31, R_122_33, R_122_34, R_122_35, R_122_36, R_122_37, R_122_39, R_122_41, true_and, and_true, eB, decide_true, decide_false, Bool.or_true, Bool.true_or, not_true_eq_false, not_false_eq_true, k2, k0, g]
    by_cases g2 : kd = 0
    · simp only [eLet, Option.bind_some, ↓reduceIte, K_2, K_3, K_4, K_5, K_21, K_22, K_23, K_24, K_57, K_58, K_59, K_60, K_61, K_62, K_63, K_64, K_65, K_66, K_67, K_68, K_69, K_70, K_71, K_72, K_73, K_122, K_123, K_124, K_125, K_126, K_127, K_128, K_129, K_130, K_131, K_132, K_133, K_134, K_135, K_136, K_137, K_138, K_139, K_140, K_141, K_142, K_143, K_144, K_145, K_146, K_147, K_148, K_149, K_150, K_151, K_152, K_153, K_154, K_155, K_156, K_157, K_158, K_159, K_160, K_161, R_2_0, R_2_1, R_2_2, R_2_3, R_2_4, R_2_5, R_2_6, R_2_7, R_4_0, R_4_1, R_4_2, R_23_0, R_23_1, R_23_2, R_58_0, R_58_1, R_58_2, R_58_3, R_58_4, R_64_0, R_66_0, R_68_0, R_68_1, R_68_2, R_68_3, R_72_0, R_122_0, R_122_1, R_122_2, R_122_3, R_122_4, R_122_5, R_122_6, R_122_7, R_122_8, R_122_9, R_122_10, R_122_11, R_122_12, R_122_13, R_122_14, R_122_15, R_122_16, R_122_17, R_122_19, R_122_20, R_122_21, R_122_22, R_122_23, R_122_24, R_122_25, R_122_26, R_122_27, R_122_28, R_122_29, R_122_30, R_122_31, R_122_33, R_122_34, R_122_35, R_122_36, R_122_37, R_122_39, R_122_41, true_and, and_true, eB, decide_true, decide_false, Bool.or_true, Bool.true_or, not_true_eq_false, not_false_eq_true, g2, rs_has hl h]
      unfold aDoR f_X12_does_231
      by_cases g3 : a.1 126 l = 0 ∧ a.1 125 l = 0
      · simp only [eLet, Option.bind_some, ↓reduceIte, K_2, K_3, K_4, K_5, K_21, K_22, K_23, K_24, K_57, K_58, K_59, K_60, K_61, K_62, K_63, K_64, K_65, K_66, K_67, K_68, K_69, K_70, K_71, K_72, K_73, K_122, K_123, K_124, K_125, K_126, K_127, K_128, K_129, K_130, K_131, K_132, K_133, K_134, K_135, K_136, K_137, K_138, K_139, K_140, K_141, K_142, K_143, K_144, K_145, K_146, K_147, K_148, K_149, K_150, K_151, K_152, K_153, K_154, K_155, K_156, K_157, K_158, K_159, K_160, K_161, R_2_0, R_2_1, R_2_2, R_2_3, R_2_4, R_2_5, R_2_6, R_2_7, R_4_0, R_4_1, R_4_2, R_23_0, R_23_1, R_23_2, R_58_0, R_58_1, R_58_2, R_58_3, R_58_4, R_64_0, R_66_0, R_68_0, R_68_1, R_68_2, R_68_3, R_72_0, R_122_0, R_122_1, R_122_2, R_122_3, R_122_4, R_122_5, R_122_6, R_122_7, R_122_8, R_122_9, R_122_10, R_122_11, R_122_12, R_122_13, R_122_14, R_122_15, R_122_16, R_122_17, R_122_19, R_122_20, R_122_21, R_122_22, R_122_23, R_122_24, R_122_25, R_122_26, R_122_27, R_122_28, R_122_29, R_122_30, R_122_31, R_122_33, R_122_34, R_122_35, R_122_36, R_122_37, R_122_39, R_122_41, true_and, and_true, eB, decide_true, decide_false, Bool.or_true, Bool.true_or, not_true_eq_false, not_false_eq_true, g3, ht, hi]
        refine r_bind (rs_gives (w := 2) hl hc (by decide) ?_ ?_ (RF_w h (by unfold aSc; omega))) (fun I1 h1 => ?_)
        · rw [aW_1 (by decide)]
          exact hf.2
        · exact hq' _ (by omega) (by omega)
        · exact r_ret h1
      · have g4 : ¬ (1 : Int32) = 0 := by decide
        simp only [eLet, Option.bind_some, ↓reduceIte, K_2, K_3, K_4, K_5, K_21, K_22, K_23, K_24, K_57, K_58, K_59, K_60, K_61, K_62, K_63, K_64, K_65, K_66, K_67, K_68, K_69, K_70, K_71, K_72, K_73, K_122, K_123, K_124, K_125, K_126, K_127, K_128, K_129, K_130, K_131, K_132, K_133, K_134, K_135, K_136, K_137, K_138, K_139, K_140, K_141, K_142, K_143, K_144, K_145, K_146, K_147, K_148, K_149, K_150, K_151, K_152, K_153, K_154, K_155, K_156, K_157, K_158, K_159, K_160, K_161, R_2_0, R_2_1, R_2_2, R_2_3, R_2_4, R_2_5, R_2_6, R_2_7, R_4_0, R_4_1, R_4_2, R_23_0, R_23_1, R_23_2, R_58_0, R_58_1, R_58_2, R_58_3, R_58_4, R_64_0, R_66_0, R_68_0, R_68_1, R_68_2, R_68_3, R_72_0, R_122_0, R_122_1, R_122_2, R_122_3, R_122_4, R_122_5, R_122_6, R_122_7, R_122_8, R_122_9, R_122_10, R_122_11, R_122_12, R_122_13, R_122_14, R_122_15, R_122_16, R_122_17, R_122_19, R_122_20, R_122_21, R_122_22, R_122_23, R_122_24, R_122_25, R_122_26, R_122_27, R_122_28, R_122_29, R_122_30, R_122_31, R_122_33, R_122_34, R_122_35, R_122_36, R_122_37, R_122_39, R_122_41, true_and, and_true, eB, decide_true, decide_false, Bool.or_true, Bool.true_or, not_true_eq_false, not_false_eq_true, g3, g4]
        refine r_bind (rs_shares hl h) (fun I1 h1 => ?_)
        dsimp only
        refine r_bind (rs_gives (w := 1) hl hc (by decide) ?_ ?_ h1) (fun I1 h1 => ?_)
        · rw [aShares_1 (by decide) (by decide) (by decide)]
          exact hf.2
        · rw [aShares_2]
          exact hq' _ (by omega) (by omega)
        · exact r_ret h1
    · simp only [eLet, Option.bind_some, ↓reduceIte, K_2, K_3, K_4, K_5, K_21, K_22, K_23, K_24, K_57, K_58, K_59, K_60, K_61, K_62, K_63, K_64, K_65, K_66, K_67, K_68, K_69, K_70, K_71, K_72, K_73, K_122, K_123, K_124, K_125, K_126, K_127, K_128, K_129, K_130, K_131, K_132, K_133, K_134, K_135, K_136, K_137, K_138, K_139, K_140, K_141, K_142, K_143, K_144, K_145, K_146, K_147, K_148, K_149, K_150, K_151, K_152, K_153, K_154, K_155, K_156, K_157, K_158, K_159, K_160, K_161, R_2_0, R_2_1, R_2_2, R_2_3, R_2_4, R_2_5, R_2_6, R_2_7, R_4_0, R_4_1, R_4_2, R_23_0, R_23_1, R_23_2, R_58_0, R_58_1, R_58_2, R_58_3, R_58_4, R_64_0, R_66_0, R_68_0, R_68_1, R_68_2, R_68_3, R_72_0, R_122_0, R_122_1, R_122_2, R_122_3, R_122_4, R_122_5, R_122_6, R_122_7, R_122_8, R_122_9, R_122_10, R_122_11, R_122_12, R_122_13, R_122_14, R_122_15, R_122_16, R_122_17, R_122_19, R_122_20, R_122_21, R_122_22, R_122_23, R_122_24, R_122_25, R_122_26, R_122_27, R_122_28, R_122_29, R_122_30, R_122_31, R_122_33, R_122_34, R_122_35, R_122_36, R_122_37, R_122_39, R_122_41, true_and, and_true, eB, decide_true, decide_false, Bool.or_true, Bool.true_or, not_true_eq_false, not_false_eq_true, g2]
      exact rs_doW hl hc g2 hk hf.2 hq hm h
  have h1 : ¬ kd = 2 → ¬ a.1 124 l = -1 → rOk (f_X12_does_25 122 (Int32.ofNat kd) (Int32.ofNat l) (Int32.ofNat c) (Int32.ofNat n) 1 (I, J)) I0 J () (aDoO a kd l c) := by
    intro g go
    rcases hf.1 with ho | ⟨o, ho, ho2⟩
    · exact absurd ho go
    have e5 : aNt (a.1 124 l) = o := by
      unfold aNt
      rw [ho2]
      exact i_tn (by omega)
    have g4 : ¬ (1 : Int32) = 0 := by decide
    unfold f_X12_does_25 aDoO
    rw [e5]
    simp only [eLet, Option.bind_some, ↓reduceIte, K_2, K_3, K_4, K_5, K_21, K_22, K_23, K_24, K_57, K_58, K_59, K_60, K_61, K_62, K_63, K_64, K_65, K_66, K_67, K_68, K_69, K_70, K_71, K_72, K_73, K_122, K_123, K_124, K_125, K_126, K_127, K_128, K_129, K_130, K_131, K_132, K_133, K_134, K_135, K_136, K_137, K_138, K_139, K_140, K_141, K_142, K_143, K_144, K_145, K_146, K_147, K_148, K_149, K_150, K_151, K_152, K_153, K_154, K_155, K_156, K_157, K_158, K_159, K_160, K_161, R_2_0, R_2_1, R_2_2, R_2_3, R_2_4, R_2_5, R_2_6, R_2_7, R_4_0, R_4_1, R_4_2, R_23_0, R_23_1, R_23_2, R_58_0, R_58_1, R_58_2, R_58_3, R_58_4, R_64_0, R_66_0, R_68_0, R_68_1, R_68_2, R_68_3, R_72_0, R_122_0, R_122_1, R_122_2, R_122_3, R_122_4, R_122_5, R_122_6, R_122_7, R_122_8, R_122_9, R_122_10, R_122_11, R_122_12, R_122_13, R_122_14, R_122_15, R_122_16, R_122_17, R_122_19, R_122_20, R_122_21, R_122_22, R_122_23, R_122_24, R_122_25, R_122_26, R_122_27, R_122_28, R_122_29, R_122_30, R_122_31, R_122_33, R_122_34, R_122_35, R_122_36, R_122_37, R_122_39, R_122_41, true_and, and_true, eB, decide_true, decide_false, Bool.or_true, Bool.true_or, not_true_eq_false, not_false_eq_true, ht, hi, e1, k2, k0, g, g4, ho2]
    unfold f_X12_does_93 f_X12_does_231
    by_cases g2 : kd = 0
    · simp only [eLet, Option.bind_some, ↓reduceIte, K_2, K_3, K_4, K_5, K_21, K_22, K_23, K_24, K_57, K_58, K_59, K_60, K_61, K_62, K_63, K_64, K_65, K_66, K_67, K_68, K_69, K_70, K_71, K_72, K_73, K_122, K_123, K_124, K_125, K_126, K_127, K_128, K_129, K_130, K_131, K_132, K_133, K_134, K_135, K_136, K_137, K_138, K_139, K_140, K_141, K_142, K_143, K_144, K_145, K_146, K_147, K_148, K_149, K_150, K_151, K_152, K_153, K_154, K_155, K_156, K_157, K_158, K_159, K_160, K_161, R_2_0, R_2_1, R_2_2, R_2_3, R_2_4, R_2_5, R_2_6, R_2_7, R_4_0, R_4_1, R_4_2, R_23_0, R_23_1, R_23_2, R_58_0, R_58_1, R_58_2, R_58_3, R_58_4, R_64_0, R_66_0, R_68_0, R_68_1, R_68_2, R_68_3, R_72_0, R_122_0, R_122_1, R_122_2, R_122_3, R_122_4, R_122_5, R_122_6, R_122_7, R_122_8, R_122_9, R_122_10, R_122_11, R_122_12, R_122_13, R_122_14, R_122_15, R_122_16, R_122_17, R_122_19, R_122_20, R_122_21, R_122_22, R_122_23, R_122_24, R_122_25, R_122_26, R_122_27, R_122_28, R_122_29, R_122_30, R_122_31, R_122_33, R_122_34, R_122_35, R_122_36, R_122_37, R_122_39, R_122_41, true_and, and_true, eB, decide_true, decide_false, Bool.or_true, Bool.true_or, not_true_eq_false, not_false_eq_true, g2]
      refine r_bind (rs_sends (w := 1) (z := o) (k := 3) (n := 0) (by decide) (by omega) hl (by decide) (by omega) (by decide) h (hq' _ (by omega) (by omega))) (fun I1 h1 => ?_)
      dsimp only
      refine r_bind (rs_waits (k := 0) (n := 1) hl h1) (fun I2 h2 => ?_)
      exact r_ret h2
    · simp only [eLet, Option.bind_some, ↓reduceIte, K_2, K_3, K_4, K_5, K_21, K_22, K_23, K_24, K_57, K_58, K_59, K_60, K_61, K_62, K_63, K_64, K_65, K_66, K_67, K_68, K_69, K_70, K_71, K_72, K_73, K_122, K_123, K_124, K_125, K_126, K_127, K_128, K_129, K_130, K_131, K_132, K_133, K_134, K_135, K_136, K_137, K_138, K_139, K_140, K_141, K_142, K_143, K_144, K_145, K_146, K_147, K_148, K_149, K_150, K_151, K_152, K_153, K_154, K_155, K_156, K_157, K_158, K_159, K_160, K_161, R_2_0, R_2_1, R_2_2, R_2_3, R_2_4, R_2_5, R_2_6, R_2_7, R_4_0, R_4_1, R_4_2, R_23_0, R_23_1, R_23_2, R_58_0, R_58_1, R_58_2, R_58_3, R_58_4, R_64_0, R_66_0, R_68_0, R_68_1, R_68_2, R_68_3, R_72_0, R_122_0, R_122_1, R_122_2, R_122_3, R_122_4, R_122_5, R_122_6, R_122_7, R_122_8, R_122_9, R_122_10, R_122_11, R_122_12, R_122_13, R_122_14, R_122_15, R_122_16, R_122_17, R_122_19, R_122_20, R_122_21, R_122_22, R_122_23, R_122_24, R_122_25, R_122_26, R_122_27, R_122_28, R_122_29, R_122_30, R_122_31, R_122_33, R_122_34, R_122_35, R_122_36, R_122_37, R_122_39, R_122_41, true_and, and_true, eB, decide_true, decide_false, Bool.or_true, Bool.true_or, not_true_eq_false, not_false_eq_true, g2]
      refine r_bind (rs_sends (w := 1) (z := o) (k := 4) (n := 0) (by decide) (by omega) hl (by decide) (by omega) (by decide) h (hq' _ (by omega) (by omega))) (fun I1 h1 => ?_)
      dsimp only
      refine r_bind (rs_waits (n := 1) hl h1) (fun I2 h2 => ?_)
      exact r_ret h2
  unfold f_X12_does aDoes f_X12_does_24
  simp only [eLet, Option.bind_some, ↓reduceIte, K_2, K_3, K_4, K_5, K_21, K_22, K_23, K_24, K_57, K_58, K_59, K_60, K_61, K_62, K_63, K_64, K_65, K_66, K_67, K_68, K_69, K_70, K_71, K_72, K_73, K_122, K_123, K_124, K_125, K_126, K_127, K_128, K_129, K_130, K_131, K_132, K_133, K_134, K_135, K_136, K_137, K_138, K_139, K_140, K_141, K_142, K_143, K_144, K_145, K_146, K_147, K_148, K_149, K_150, K_151, K_152, K_153, K_154, K_155, K_156, K_157, K_158, K_159, K_160, K_161, R_2_0, R_2_1, R_2_2, R_2_3, R_2_4, R_2_5, R_2_6, R_2_7, R_4_0, R_4_1, R_4_2, R_23_0, R_23_1, R_23_2, R_58_0, R_58_1, R_58_2, R_58_3, R_58_4, R_64_0, R_66_0, R_68_0, R_68_1, R_68_2, R_68_3, R_72_0, R_122_0, R_122_1, R_122_2, R_122_3, R_122_4, R_122_5, R_122_6, R_122_7, R_122_8, R_122_9, R_122_10, R_122_11, R_122_12, R_122_13, R_122_14, R_122_15, R_122_16, R_122_17, R_122_19, R_122_20, R_122_21, R_122_22, R_122_23, R_122_24, R_122_25, R_122_26, R_122_27, R_122_28, R_122_29, R_122_30, R_122_31, R_122_33, R_122_34, R_122_35, R_122_36, R_122_37, R_122_39, R_122_41, true_and, and_true, eB, decide_true, decide_false, Bool.or_true, Bool.true_or, not_true_eq_false, not_false_eq_true, ht, hi, e1]
  by_cases g : kd = 2
  · rw [if_pos g]
    split
    · exact hP 0 g
    · split
      · exact hP 0 g
      · exact hP 1 g
  · rw [if_neg g]
    by_cases g1 : a.1 124 l = -1
    · rw [if_pos g1, if_pos (Or.inl g1)]
      exact h0 g
    · rw [if_neg g1]
      by_cases g2 : a.1 124 l = Int32.ofNat c
      · rw [if_pos g2, if_pos (Or.inr g2)]
        exact h0 g
      · rw [if_neg g2, if_neg (fun q => q.elim g1 g2)]
        exact h1 g g1
end EPT
