/-! the reference: places of a core -/
section EPT
variable {I I0 : Nat → Nat → Int32} {J : Nat → Nat → Int64} {a b : aS} {r i l q c k n : Nat} {v : Int32} {m : aM}
/-- a core's places are in order -/
def cF (a : aS) (c : Nat) : Prop :=
  (∀ p, p < 4 → (a.1 136 (4 * c + p) = 0 ∨ a.1 136 (4 * c + p) = 1 ∨ a.1 136 (4 * c + p) = 2 ∨ a.1 136 (4 * c + p) = 3 ∨ a.1 136 (4 * c + p) = 4 ∨ a.1 136 (4 * c + p) = 5) ∧
    (¬ a.1 136 (4 * c + p) = 0 → ∃ l, l < 16 ∧ a.1 135 (4 * c + p) = Int32.ofNat l) ∧ (aVal (a.1 136 (4 * c + p)) = true → aV (a.1 137 (4 * c + p)))) ∧
  ∀ l p p', p < 4 → p' < 4 → aAt a c l p = true → aAt a c l p' = true → p = p'
def oI (c : Nat) (o : Option Nat) : Int32 := match o with
  | some p => Int32.ofNat (4 * c + p)
  | none => -1
theorem m4 : (4 : Int32) * Int32.ofNat c = Int32.ofNat (4 * c) := i_mu
theorem m16 : (16 : Int32) * Int32.ofNat c = Int32.ofNat (16 * c) := i_mu
theorem p4 : Int32.ofNat n + 4 = Int32.ofNat (n + 4) := i_ad
theorem p1 : Int32.ofNat n + 1 = Int32.ofNat (n + 1) := i_ad
theorem n1 : Int32.ofNat (n + 1) + (-1) = Int32.ofNat n := by
  have : (-1 : Int32) = 0 - 1 := by decide
  rw [this, ← p1]
  show Int32.ofNat n + Int32.ofNat 1 + (Int32.ofNat 0 - Int32.ofNat 1) = _
  apply Int32.toBitVec.inj
  show BitVec.ofNat 32 n + 1#32 + (0#32 - 1#32) = BitVec.ofNat 32 n
  rw [BitVec.add_assoc]
  exact BitVec.add_zero _
theorem rs_pl1 {p N : Nat} {f : Int32} {R : Option (Int32 × eMem)} (hc : c < 4) (hp : p < 4) (h : RF I0 I a) (hN : n + 3 ≤ N)
    (H : ∀ N, n ≤ N → f_X12_placeOf_L7 N (.inl (122, Int32.ofNat c, Int32.ofNat l, if aAt a c l p = true then Int32.ofNat (4 * c + p) else f, Int32.ofNat (4 * c + (p + 1)))) (I, J) = R) :
    f_X12_placeOf_L7 N (.inl (122, Int32.ofNat c, Int32.ofNat l, f, Int32.ofNat (4 * c + p))) (I, J) = R := by
  obtain ⟨N, rfl⟩ := Nat.exists_eq_add_of_le hN
  rw [show n + 3 + N = n + N + 2 + 1 by omega, f_X12_placeOf_L7]
  have g1 : (Int32.ofNat (4 * c + 4) ≤ Int32.ofNat (4 * c + p)) = False := (i_le (by omega) (by omega)).trans (eq_false (by omega))
  have g2 : eix (Int32.ofNat (4 * c + p)) 16 = true := i_ix (by omega) (by decide)
  have g3 : (Int32.ofNat (4 * c + p)).toNatClampNeg = 4 * c + p := i_tn (by omega)
  have e1 : I 136 (4 * c + p) = a.1 136 (4 * c + p) := R_get h (by unfold aSc; omega)
  have e2 : I 135 (4 * c + p) = a.1 135 (4 * c + p) := R_get h (by unfold aSc; omega)
  have K0 : aAt a c l p = false → f_X12_placeOf_L7 (n + N + 2) (.inr (.inl (122, Int32.ofNat c, Int32.ofNat l, f, Int32.ofNat (4 * c + p)))) (I, J) = R := by
    intro g
    rw [g] at H
    rw [f_X12_placeOf_L7, f_X12_placeOf_L7, p1]
    exact H (n + N) (by omega)
  have K1 : aAt a c l p = true → f_X12_placeOf_L7 (n + N + 2) (.inr (.inr (122, Int32.ofNat c, Int32.ofNat l, Int32.ofNat (4 * c + p), Int32.ofNat (4 * c + p)))) (I, J) = R := by
    intro g
    rw [g] at H
    rw [f_X12_placeOf_L7, p1]
    exact H (n + N + 1) (by omega)
  simp only [eLet, Option.bind_some, ↓reduceIte, K_2, K_3, K_4, K_5, K_21, K_22, K_23, K_24, K_57, K_58, K_59, K_60, K_61, K_62, K_63, K_64, K_65, K_66, K_67, K_68, K_69, K_70, K_71, K_72, K_73, K_122, K_123, K_124, K_125, K_126, K_127, K_128, K_129, K_130, K_131, K_132, K_133, K_134, K_135, K_136, K_137, K_138, K_139, K_140, K_141, K_142, K_143, K_144, K_145, K_146, K_147, K_148, K_149, K_150, K_151, K_152, K_153, K_154, K_155, K_156, K_157, K_158, K_159, K_160, K_161, R_2_0, R_2_1, R_2_2, R_2_3, R_2_4, R_2_5, R_2_6, R_2_7, R_4_0, R_4_1, R_4_2, R_23_0, R_23_1, R_23_2, R_58_0, R_58_1, R_58_2, R_58_3, R_58_4, R_64_0, R_66_0, R_68_0, R_68_1, R_68_2, R_68_3, R_72_0, R_122_0, R_122_1, R_122_2, R_122_3, R_122_4, R_122_5, R_122_6, R_122_7, R_122_8, R_122_9, R_122_10, R_122_11, R_122_12, R_122_13, R_122_14, R_122_15, R_122_16, R_122_17, R_122_19, R_122_20, R_122_21, R_122_22, R_122_23, R_122_24, R_122_25, R_122_26, R_122_27, R_122_28, R_122_29, R_122_30, R_122_31, R_122_33, R_122_34, R_122_35, R_122_36, R_122_37, R_122_39, R_122_41, true_and, and_true, eB, decide_true, decide_false, Bool.or_true, Bool.true_or, not_true_eq_false, not_false_eq_true, m4, p4, g1, g2, g3, e1, e2]
  unfold aAt at K0 K1
  by_cases q1 : a.1 136 (4 * c + p) = 0
  · simp only [q1, ↓reduceIte]
    exact K0 (by simp [q1])
  · by_cases q2 : a.1 135 (4 * c + p) = Int32.ofNat l
    · simp only [q1, q2, ↓reduceIte, not_true_eq_false]
      exact K1 (by simp [q1, q2])
    · simp only [q1, q2, ↓reduceIte, not_false_eq_true]
      exact K0 (by simp [q2])
theorem rs_place (hc : c < 4) (hu : ∀ l p p', p < 4 → p' < 4 → aAt a c l p = true → aAt a c l p' = true → p = p') (h : RF I0 I a) :
    f_X12_placeOf 122 (Int32.ofNat c) (Int32.ofNat l) (I, J) = some (oI c (aPl a c l), (I, J)) := by
  unfold f_X12_placeOf eLet
  rw [m4]
  refine rs_pl1 (p := 0) (n := 100) hc (by decide) h (by decide) (fun N1 hN1 => ?_)
  refine rs_pl1 (p := 1) (n := 97) hc (by decide) h (by omega) (fun N2 hN2 => ?_)
  refine rs_pl1 (p := 2) (n := 94) hc (by decide) h (by omega) (fun N3 hN3 => ?_)
  refine rs_pl1 (p := 3) (n := 91) hc (by decide) h (by omega) (fun N4 hN4 => ?_)
  obtain ⟨N5, rfl⟩ := Nat.exists_eq_add_of_le hN4
  rw [show 91 + N5 = 90 + N5 + 1 by omega, f_X12_placeOf_L7]
  have g1 : (Int32.ofNat (4 * c + 4) ≤ Int32.ofNat (4 * c + (3 + 1))) = True := eq_true ((i_le (by omega) (by omega)).mpr (Nat.le_refl _))
  simp only [m4, p4, g1, ↓reduceIte]
  have h01 := hu l 0 1 (by decide) (by decide)
  have h02 := hu l 0 2 (by decide) (by decide)
  have h03 := hu l 0 3 (by decide) (by decide)
  have h12 := hu l 1 2 (by decide) (by decide)
  have h13 := hu l 1 3 (by decide) (by decide)
  have h23 := hu l 2 3 (by decide) (by decide)
  unfold aPl oI
  cases q0 : aAt a c l 0 <;> cases q1 : aAt a c l 1 <;> cases q2 : aAt a c l 2 <;> cases q3 : aAt a c l 3 <;> simp_all
theorem rs_ep1 {p N : Nat} {f y : Int32} {R : Option (Int32 × eMem)} (hc : c < 4) (hp : p < 4) (h : RF I0 I a) (hy : Int32.ofNat (4 * c + p) + (-1) = y) (hN : n + 2 ≤ N)
    (H : ∀ N, n ≤ N → f_X12_emptyPlace_L10 N (.inl (122, Int32.ofNat c, if a.1 136 (4 * c + p) = 0 then Int32.ofNat (4 * c + p) else f, y)) (I, J) = R) :
    f_X12_emptyPlace_L10 N (.inl (122, Int32.ofNat c, f, Int32.ofNat (4 * c + p))) (I, J) = R := by
  obtain ⟨N, rfl⟩ := Nat.exists_eq_add_of_le hN
  rw [show n + 2 + N = n + N + 1 + 1 by omega, f_X12_emptyPlace_L10]
  have g1 : (Int32.ofNat (4 * c + p) < Int32.ofNat (4 * c)) = False := (i_lt (by omega) (by omega)).trans (eq_false (by omega))
  have g2 : eix (Int32.ofNat (4 * c + p)) 16 = true := i_ix (by omega) (by decide)
  have g3 : (Int32.ofNat (4 * c + p)).toNatClampNeg = 4 * c + p := i_tn (by omega)
  have e1 : I 136 (4 * c + p) = a.1 136 (4 * c + p) := R_get h (by unfold aSc; omega)
  simp only [eLet, Option.bind_some, ↓reduceIte, K_2, K_3, K_4, K_5, K_21, K_22, K_23, K_24, K_57, K_58, K_59, K_60, K_61, K_62, K_63, K_64, K_65, K_66, K_67, K_68, K_69, K_70, K_71, K_72, K_73, K_122, K_123, K_124, K_125, K_126, K_127, K_128, K_129, K_130, K_131, K_132, K_133, K_134, K_135, K_136, K_137, K_138, K_139, K_140, K_141, K_142, K_143, K_144, K_145, K_146, K_147, K_148, K_149, K_150, K_151, K_152, K_153, K_154, K_155, K_156, K_157, K_158, K_159, K_160, K_161, R_2_0, R_2_1, R_2_2, R_2_3, R_2_4, R_2_5, R_2_6, R_2_7, R_4_0, R_4_1, R_4_2, R_23_0, R_23_1, R_23_2, R_58_0, R_58_1, R_58_2, R_58_3, R_58_4, R_64_0, R_66_0, R_68_0, R_68_1, R_68_2, R_68_3, R_72_0, R_122_0, R_122_1, R_122_2, R_122_3, R_122_4, R_122_5, R_122_6, R_122_7, R_122_8, R_122_9, R_122_10, R_122_11, R_122_12, R_122_13, R_122_14, R_122_15, R_122_16, R_122_17, R_122_19, R_122_20, R_122_21, R_122_22, R_122_23, R_122_24, R_122_25, R_122_26, R_122_27, R_122_28, R_122_29, R_122_30, R_122_31, R_122_33, R_122_34, R_122_35, R_122_36, R_122_37, R_122_39, R_122_41, true_and, and_true, eB, decide_true, decide_false, Bool.or_true, Bool.true_or, not_true_eq_false, not_false_eq_true, m4, g1, g2, g3, e1]
  by_cases q1 : a.1 136 (4 * c + p) = 0
  · simp only [q1, ↓reduceIte, not_true_eq_false]
    rw [if_pos q1] at H
    rw [f_X12_emptyPlace_L10, hy]
    exact H (n + N) (by omega)
  · simp only [q1, ↓reduceIte, not_false_eq_true]
    rw [if_neg q1] at H
    rw [f_X12_emptyPlace_L10, hy]
    exact H (n + N) (by omega)
theorem rs_empty (hc : c < 4) (h : RF I0 I a) : f_X12_emptyPlace 122 (Int32.ofNat c) (I, J) = some (oI c (aEp a c), (I, J)) := by
  unfold f_X12_emptyPlace eLet
  have e : (4 : Int32) * Int32.ofNat c + 4 - 1 = Int32.ofNat (4 * c + 3) := by
    rw [m4, p4]
    exact i_sb (n := 4 * c + 4) (m := 1) (by omega)
  rw [e]
  refine rs_ep1 (p := 3) (n := 100) (y := Int32.ofNat (4 * c + 2)) hc (by decide) h n1 (by decide) (fun N1 hN1 => ?_)
  refine rs_ep1 (p := 2) (n := 97) (y := Int32.ofNat (4 * c + 1)) hc (by decide) h n1 (by omega) (fun N2 hN2 => ?_)
  refine rs_ep1 (p := 1) (n := 94) (y := Int32.ofNat (4 * c + 0)) hc (by decide) h n1 (by omega) (fun N3 hN3 => ?_)
  refine rs_ep1 (p := 0) (n := 91) hc (by decide) h rfl (by omega) (fun N4 hN4 => ?_)
  obtain ⟨N5, rfl⟩ := Nat.exists_eq_add_of_le hN4
  rw [show 91 + N5 = 90 + N5 + 1 by omega, f_X12_emptyPlace_L10]
  have g1 : (Int32.ofNat (4 * c + 0) + (-1) < Int32.ofNat (4 * c)) = True := by
    have : c = 0 ∨ c = 1 ∨ c = 2 ∨ c = 3 := by omega
    rcases this with rfl | rfl | rfl | rfl <;> exact eq_true (by decide)
  simp only [m4, g1, ↓reduceIte]
  unfold aEp oI
  by_cases q0 : a.1 136 (4 * c + 0) = 0 <;> by_cases q1 : a.1 136 (4 * c + 1) = 0 <;> by_cases q2 : a.1 136 (4 * c + 2) = 0 <;> by_cases q3 : a.1 136 (4 * c + 3) = 0 <;> simp only [q0, q1, q2, q3, ↓reduceIte]
theorem rs_wait (x : Int32) (σ : eMem) : f_X12_isWaiting x σ = some (if aWt x = true then 1 else 0, σ) := by
  unfold f_X12_isWaiting f_X12_isWaiting_10 f_X12_isWaiting_15 aWt
  by_cases q1 : x = 4 <;> by_cases q2 : x = 5 <;> simp [q1, q2, eB]
theorem rs_owned (x : Int32) (σ : eMem) : f_X12_isOwned x σ = some (if aOwn x = true then 1 else 0, σ) := by
  unfold f_X12_isOwned f_X12_isOwned_10 f_X12_isOwned_15 aOwn
  by_cases q1 : x = 2 <;> by_cases q2 : x = 3 <;> simp [q1, q2, eB]
theorem aBit_t {x : Int32} (h : aBit x l = true) : (x >>> (Int32.ofNat l &&& 31)) &&& 1 = 1 := of_decide_eq_true h
theorem aBit_f {x : Int32} (h : ¬ aBit x l = true) : ¬ (x >>> (Int32.ofNat l &&& 31)) &&& 1 = 1 := fun e => h (decide_eq_true e)
theorem aBit_0 {x : Int32} (h : ¬ aBit x l = true) : (x >>> (Int32.ofNat l &&& 31)) &&& 1 = 0 := i_and1 (aBit_f h)
theorem aBit_n0 {x : Int32} (h : aBit x l = true) : ¬ (x >>> (Int32.ofNat l &&& 31)) &&& 1 = 0 := by
  rw [aBit_t h]
  decide
theorem rs_isIn (hc : c < 4) (h : RF I0 I a) : f_X12_isIn 122 (Int32.ofNat c) (Int32.ofNat l) (I, J) = some (if aIsIn a c l = true then 1 else 0, (I, J)) := by
  have ht : (Int32.ofNat c).toNatClampNeg = c := i_tn (by omega)
  have hi : eix (Int32.ofNat c) 4 = true := i_ix hc (by decide)
  have e1 : I 145 c = a.1 145 c := R_get h (by unfold aSc; omega)
  have e2 : I 148 c = a.1 148 c := R_get h (by unfold aSc; omega)
  have e3 : I 149 c = a.1 149 c := R_get h (by unfold aSc; omega)
  unfold f_X12_isIn f_X12_isIn_34 f_X12_isIn_35 aIsIn
  simp only [eLet, Option.bind_some, ↓reduceIte, K_2, K_3, K_4, K_5, K_21, K_22, K_23, K_24, K_57, K_58, K_59, K_60, K_61, K_62, K_63, K_64, K_65, K_66, K_67, K_68, K_69, K_70, K_71, K_72, K_73, K_122, K_123, K_124, K_125, K_126, K_127, K_128, K_129, K_130, K_131, K_132, K_133, K_134, K_135, K_136, K_137, K_138, K_139, K_140, K_141, K_142, K_143, K_144, K_145, K_146, K_147, K_148, K_149, K_150, K_151, K_152, K_153, K_154, K_155, K_156, K_157, K_158, K_159, K_160, K_161, R_2_0, R_2_1, R_2_2, R_2_3, R_2_4, R_2_5, R_2_6, R_2_7, R_4_0, R_4_1, R_4_2, R_23_0, R_23_1, R_23_2, R_58_0, R_58_1, R_58_2, R_58_3, R_58_4, R_64_0, R_66_0, R_68_0, R_68_1, R_68_2, R_68_3, R_72_0, R_122_0, R_122_1, R_122_2, R_122_3, R_122_4, R_122_5, R_122_6, R_122_7, R_122_8, R_122_9, R_122_10, R_122_11, R_122_12, R_122_13, R_122_14, R_122_15, R_122_16, R_122_17, R_122_19, R_122_20, R_122_21, R_122_22, R_122_23, R_122_24, R_122_25, R_122_26, R_122_27, R_122_28, R_122_29, R_122_30, R_122_31, R_122_33, R_122_34, R_122_35, R_122_36, R_122_37, R_122_39, R_122_41, true_and, and_true, eB, decide_true, decide_false, Bool.or_true, Bool.true_or, not_true_eq_false, not_false_eq_true, ht, hi, e1, e2, e3]
  by_cases q1 : a.1 145 c = 0
  · simp [q1]
  · by_cases q2 : aBit (a.1 148 c ||| a.1 149 c) l = true
    · simp [q1, q2, aBit_t q2]
    · simp [q1, q2, aBit_f q2]
theorem rs_vic1 {p N : Nat} {f : Option Nat} {R : Option (Int32 × eMem)} (hc : c < 4) (hp : p < 4) (hf : ∀ g, f = some g → g < 4) (hF : cF a c) (h : RF I0 I a) (hN : n + 6 ≤ N)
    (H : ∀ N, n ≤ N → f_X12_victim_L6 N (.inl (122, Int32.ofNat c, oI c (aVicS a c f p), Int32.ofNat (4 * c + (p + 1)))) (I, J) = R) :
    f_X12_victim_L6 N (.inl (122, Int32.ofNat c, oI c f, Int32.ofNat (4 * c + p))) (I, J) = R := by
  obtain ⟨N, rfl⟩ := Nat.exists_eq_add_of_le hN
  rw [show n + 6 + N = n + N + 5 + 1 by omega, f_X12_victim_L6]
  have g1 : (Int32.ofNat (4 * c + 4) ≤ Int32.ofNat (4 * c + p)) = False := (i_le (by omega) (by omega)).trans (eq_false (by omega))
  have g2 : eix (Int32.ofNat (4 * c + p)) 16 = true := i_ix (by omega) (by decide)
  have g3 : (Int32.ofNat (4 * c + p)).toNatClampNeg = 4 * c + p := i_tn (by omega)
  have e1 : I 136 (4 * c + p) = a.1 136 (4 * c + p) := R_get h (by unfold aSc; omega)
  have e2 : I 135 (4 * c + p) = a.1 135 (4 * c + p) := R_get h (by unfold aSc; omega)
  have e3 : I 138 (4 * c + p) = a.1 138 (4 * c + p) := R_get h (by unfold aSc; omega)
  have hno : ¬ (1 : Int32) = 0 := by decide
  -- the place stays as it was found
  have KS : ∀ d, aVicS a c f p = f → f_X12_victim_L6 (n + N + d + 2) (.inr (.inr (.inr (.inr (.inl (122, Int32.ofNat c, oI c f, Int32.ofNat (4 * c + p))))))) (I, J) = R := by
    intro d g
    rw [g] at H
    rw [f_X12_victim_L6, f_X12_victim_L6, p1]
    exact H _ (by omega)
  have KP : ∀ d, aVicS a c f p = some p → f_X12_victim_L6 (n + N + d + 2) (.inr (.inr (.inr (.inl (122, Int32.ofNat c, Int32.ofNat (4 * c + p)))))) (I, J) = R := by
    intro d g
    rw [g] at H
    rw [f_X12_victim_L6, f_X12_victim_L6, p1]
    exact H _ (by omega)
  have K0 : aMay a c p = false → f_X12_victim_L6 (n + N + 5) (.inr (.inl (122, Int32.ofNat c, oI c f, Int32.ofNat (4 * c + p)))) (I, J) = R := by
    intro g
    rw [f_X12_victim_L6, f_X12_victim_L6]
    simp only [↓reduceIte]
    refine KS 1 ?_
    unfold aVicS
    rw [g]
    rfl
  have K1 : aMay a c p = true → f_X12_victim_L6 (n + N + 5) (.inr (.inr (.inl (122, Int32.ofNat c, oI c f, Int32.ofNat (4 * c + p), 1)))) (I, J) = R := by
    intro g
    rw [f_X12_victim_L6]
    simp only [hno, ↓reduceIte]
    cases hff : f with
    | none =>
      have : oI c none = -1 := rfl
      rw [this]
      simp only [↓reduceIte]
      refine KP 2 ?_
      unfold aVicS
      rw [g, hff]
      rfl
    | some g' =>
      have hg' := hf g' hff
      have j1 : oI c (some g') = Int32.ofNat (4 * c + g') := rfl
      have j2 : (Int32.ofNat (4 * c + g') = -1) = False := i_ne1 (by omega)
      have j3 : eix (Int32.ofNat (4 * c + g')) 16 = true := i_ix (by omega) (by decide)
      have j4 : (Int32.ofNat (4 * c + g')).toNatClampNeg = 4 * c + g' := i_tn (by omega)
      have j5 : I 138 (4 * c + g') = a.1 138 (4 * c + g') := R_get h (by unfold aSc; omega)
      rw [hff] at KS KP
      rw [j1] at KS ⊢
      simp only [eLet, Option.bind_some, ↓reduceIte, K_2, K_3, K_4, K_5, K_21, K_22, K_23, K_24, K_57, K_58, K_59, K_60, K_61, K_62, K_63, K_64, K_65, K_66, K_67, K_68, K_69, K_70, K_71, K_72, K_73, K_122, K_123, K_124, K_125, K_126, K_127, K_128, K_129, K_130, K_131, K_132, K_133, K_134, K_135, K_136, K_137, K_138, K_139, K_140, K_141, K_142, K_143, K_144, K_145, K_146, K_147, K_148, K_149, K_150, K_151, K_152, K_153, K_154, K_155, K_156, K_157, K_158, K_159, K_160, K_161, R_2_0, R_2_1, R_2_2, R_2_3, R_2_4, R_2_5, R_2_6, R_2_7, R_4_0, R_4_1, R_4_2, R_23_0, R_23_1, R_23_2, R_58_0, R_58_1, R_58_2, R_58_3, R_58_4, R_64_0, R_66_0, R_68_0, R_68_1, R_68_2, R_68_3, R_72_0, R_122_0, R_122_1, R_122_2, R_122_3, R_122_4, R_122_5, R_122_6, R_122_7, R_122_8, R_122_9, R_122_10, R_122_11, R_122_12, R_122_13, R_122_14, R_122_15, R_122_16, R_122_17, R_122_19, R_122_20, R_122_21, R_122_22, R_122_23, R_122_24, R_122_25, R_122_26, R_122_27, R_122_28, R_122_29, R_122_30, R_122_31, R_122_33, R_122_34, R_122_35, R_122_36, R_122_37, R_122_39, R_122_41, true_and, and_true, eB, decide_true, decide_false, Bool.or_true, Bool.true_or, not_true_eq_false, not_false_eq_true, j2, j3, j4, j5, g2, g3, e3]
      by_cases q : a.1 138 (4 * c + g') ≤ a.1 138 (4 * c + p)
      · rw [if_pos q]
        refine KS 2 ?_
        unfold aVicS
        have q2 : ¬ a.1 138 (4 * c + p) < a.1 138 (4 * c + g') := by
          rw [Int32.le_iff_toInt_le] at q
          rw [Int32.lt_iff_toInt_lt]
          omega
        simp only [g, ↓reduceIte, q2]
      · rw [if_neg q]
        refine KP 2 ?_
        unfold aVicS
        have q2 : a.1 138 (4 * c + p) < a.1 138 (4 * c + g') := by
          rw [Int32.le_iff_toInt_le] at q
          rw [Int32.lt_iff_toInt_lt]
          omega
        simp only [g, ↓reduceIte, q2]
  simp only [eLet, Option.bind_some, ↓reduceIte, K_2, K_3, K_4, K_5, K_21, K_22, K_23, K_24, K_57, K_58, K_59, K_60, K_61, K_62, K_63, K_64, K_65, K_66, K_67, K_68, K_69, K_70, K_71, K_72, K_73, K_122, K_123, K_124, K_125, K_126, K_127, K_128, K_129, K_130, K_131, K_132, K_133, K_134, K_135, K_136, K_137, K_138, K_139, K_140, K_141, K_142, K_143, K_144, K_145, K_146, K_147, K_148, K_149, K_150, K_151, K_152, K_153, K_154, K_155, K_156, K_157, K_158, K_159, K_160, K_161, R_2_0, R_2_1, R_2_2, R_2_3, R_2_4, R_2_5, R_2_6, R_2_7, R_4_0, R_4_1, R_4_2, R_23_0, R_23_1, R_23_2, R_58_0, R_58_1, R_58_2, R_58_3, R_58_4, R_64_0, R_66_0, R_68_0, R_68_1, R_68_2, R_68_3, R_72_0, R_122_0, R_122_1, R_122_2, R_122_3, R_122_4, R_122_5, R_122_6, R_122_7, R_122_8, R_122_9, R_122_10, R_122_11, R_122_12, R_122_13, R_122_14, R_122_15, R_122_16, R_122_17, R_122_19, R_122_20, R_122_21, R_122_22, R_122_23, R_122_24, R_122_25, R_122_26, R_122_27, R_122_28, R_122_29, R_122_30, R_122_31, R_122_33, R_122_34, R_122_35, R_122_36, R_122_37, R_122_39, R_122_41, true_and, and_true, eB, decide_true, decide_false, Bool.or_true, Bool.true_or, not_true_eq_false, not_false_eq_true, m4, p4, g1, g2, g3, e1, e2, rs_wait]
  unfold aMay at K0 K1
  by_cases q1 : a.1 136 (4 * c + p) = 0
  · simp only [q1, ↓reduceIte]
    exact K0 (by simp [q1])
  · obtain ⟨l, hl1, hl2⟩ := (hF.1 p hp).2.1 q1
    have e5 : aNt (a.1 135 (4 * c + p)) = l := by
      unfold aNt
      rw [hl2]
      exact i_tn (by omega)
    rw [e5] at K0 K1
    simp only [q1, ↓reduceIte, hl2, rs_isIn hc h, Option.bind_some]
    by_cases q2 : aWt (a.1 136 (4 * c + p)) = true
    · simp only [q2, ↓reduceIte, hno, not_false_eq_true]
      exact K0 (by simp [q2])
    · simp only [q2, ↓reduceIte, not_true_eq_false, Bool.false_eq_true]
      by_cases q3 : aIsIn a c l = true
      · simp only [q3, ↓reduceIte, hno, not_false_eq_true]
        exact K0 (by simp [q3])
      · simp only [q3, ↓reduceIte, not_true_eq_false, Bool.false_eq_true]
        exact K1 (by simp [q1, q2, q3])
theorem aVicS_lt {p : Nat} {f : Option Nat} (hp : p < 4) (hf : ∀ g, f = some g → g < 4) : ∀ g, aVicS a c f p = some g → g < 4 := by
  intro g hg
  unfold aVicS at hg
  split at hg
  · split at hg
    · cases hg
      exact hp
    · split at hg
      · cases hg
        exact hp
      · cases hg
        exact hf _ rfl
  · exact hf g hg
theorem rs_victim (hc : c < 4) (hF : cF a c) (h : RF I0 I a) : f_X12_victim 122 (Int32.ofNat c) (I, J) = some (oI c (aVic a c), (I, J)) := by
  unfold f_X12_victim eLet
  rw [m4]
  have h0 : ∀ g, (none : Option Nat) = some g → g < 4 := fun g hg => by cases hg
  show f_X12_victim_L6 1000000 (.inl (122, Int32.ofNat c, oI c none, Int32.ofNat (4 * c + 0))) (I, J) = _
  have h1 := aVicS_lt (a := a) (c := c) (p := 0) (by decide) h0
  have h2 := aVicS_lt (a := a) (c := c) (p := 1) (by decide) h1
  have h3 := aVicS_lt (a := a) (c := c) (p := 2) (by decide) h2
  refine rs_vic1 (p := 0) (n := 100) hc (by decide) h0 hF h (by decide) (fun N1 hN1 => ?_)
  refine rs_vic1 (p := 1) (n := 94) hc (by decide) h1 hF h (by omega) (fun N2 hN2 => ?_)
  refine rs_vic1 (p := 2) (n := 88) hc (by decide) h2 hF h (by omega) (fun N3 hN3 => ?_)
  refine rs_vic1 (p := 3) (n := 82) hc (by decide) h3 hF h (by omega) (fun N4 hN4 => ?_)
  obtain ⟨N5, rfl⟩ := Nat.exists_eq_add_of_le hN4
  rw [show 82 + N5 = 81 + N5 + 1 by omega, f_X12_victim_L6]
  have g1 : (Int32.ofNat (4 * c + 4) ≤ Int32.ofNat (4 * c + (3 + 1))) = True := eq_true ((i_le (by omega) (by omega)).mpr (Nat.le_refl _))
  simp only [m4, p4, g1, ↓reduceIte]
  rfl
end EPT
