/-! the reference's calls: truth, isCoherent -/
section EPT
variable {I I0 : Nat → Nat → Int32} {J : Nat → Nat → Int64} {a b : aS} {r i l q c k n p o : Nat} {v t x y : Int32} {m : aM}
theorem eLt {α β : Type} (v : α) (k : α → β) : eLet v k = k v := (Eq.refl (eLet v k)).trans (Eq.refl (k v))
/-- the first value for a line among messages -/
def aVl (l : Nat) (d : Int32) : List aM → Int32
  | [] => d
  | m :: ms => if m.1 = 8 ∧ m.2.1 = l then Int32.ofNat m.2.2.2 else aVl l d ms
def aTruL (a : aS) (o l : Nat) : Int32 := if a.1 141 (16 * o + l) = -1 then aVl l (a.1 123 l) (a.2 14) else a.1 141 (16 * o + l)
def aTru (a : aS) (l : Nat) : Int32 :=
  if a.1 124 l = -1 then a.1 123 l
  else match aPl a (aNt (a.1 124 l)) l with
    | some p => if aOwn (a.1 136 (4 * aNt (a.1 124 l) + p)) = true then a.1 137 (4 * aNt (a.1 124 l) + p) else aTruL a (aNt (a.1 124 l)) l
    | none => aTruL a (aNt (a.1 124 l)) l
theorem rs_tru {L : List aM} {d : Int32} (hl : l < 16) (hL : Rng (fun k => I 134 (128 * 14 + k)) (I 132 14) (I 133 14) 128 gRm L) (hm : ∀ m, m ∈ L → mOk m) : ∀ j N, j ≤ L.length → 3 * j + 1 ≤ N →
    f_X12_truth_L113 N (.inl (122, Int32.ofNat l, 14, aVl l d (L.drop j), Int32.ofNat j + (-1))) (I, J) = some (aVl l d L, (I, J)) := by
  obtain ⟨f, h1, h2, h3, h4, h5⟩ := hL
  intro j
  induction j with
  | zero =>
    intro N hj hN
    obtain ⟨N, rfl⟩ := Nat.exists_eq_add_of_le hN
    rw [show 3 * 0 + 1 + N = N + 1 by omega, f_X12_truth_L113]
    have g1 : (Int32.ofNat 0 + (-1) < 0) = True := eq_true (by decide)
    simp only [g1, ↓reduceIte]
    rfl
  | succ j ih =>
    intro N hj hN
    obtain ⟨N, rfl⟩ := Nat.exists_eq_add_of_le hN
    rw [show 3 * (j + 1) + 1 + N = 3 * j + 1 + N + 2 + 1 by omega, f_X12_truth_L113, n1]
    have g1 : (Int32.ofNat j < 0) = False := i_lt0 (by omega)
    have g2 : eix (14 : Int32) 15 = true := rfl
    have g3 : (14 : Int32).toNatClampNeg = 14 := rfl
    have g4 : ¬ (128 : Int32) = 0 := by decide
    have g5 : Int32.ofNat f + Int32.ofNat j - (Int32.ofNat f + Int32.ofNat j) / 128 * 128 = Int32.ofNat ((f + j) % 128) := by
      rw [i_ad]
      exact i_md (m := 128) (by omega) (by decide)
    have g6 : (128 : Int32) * 14 + Int32.ofNat ((f + j) % 128) = Int32.ofNat (128 * 14 + (f + j) % 128) := by
      show Int32.ofNat (128 * 14) + _ = _
      rw [i_ad]
    have hb : (f + j) % 128 < 128 := Nat.mod_lt _ (by decide)
    have g7 : eix (Int32.ofNat (128 * 14 + (f + j) % 128)) 1920 = true := i_ix (by omega) (by decide)
    have g8 : (Int32.ofNat (128 * 14 + (f + j) % 128)).toNatClampNeg = 128 * 14 + (f + j) % 128 := i_tn (by omega)
    have g9 : ¬ (16 : Int32) = 0 := by decide
    have g10 : ¬ (2048 : Int32) = 0 := by decide
    have hj' : j < L.length := by omega
    have e1 : I 134 (128 * 14 + (f + j) % 128) = gRm L[j] := h5 j hj'
    have hmo := hm L[j] (List.getElem_mem hj')
    have k8 : (Int32.ofNat (L[j]).1 = 8) = ((L[j]).1 = 8) := i_eq (m := 8) (by have := hmo.1; omega) (by decide)
    have kl : (Int32.ofNat (L[j]).2.1 = Int32.ofNat l) = ((L[j]).2.1 = l) := i_eq (by have := hmo.2.1; omega) (by omega)
    have ed : L.drop j = L[j] :: L.drop (j + 1) := List.drop_eq_getElem_cons hj'
    have ee : aVl l d (L[j] :: L.drop (j + 1)) = if (L[j]).1 = 8 ∧ (L[j]).2.1 = l then Int32.ofNat (L[j]).2.2.2 else aVl l d (L.drop (j + 1)) := rfl
    rw [ed, ee] at ih
    simp only [g1, eLt, Option.bind_some, ↓reduceIte, K_2, K_3, K_4, K_5, K_21, K_22, K_23, K_24, K_57, K_58, K_59, K_60, K_61, K_62, K_63, K_64, K_65, K_66, K_67, K_68, K_69, K_70, K_71, K_72, K_73, K_122, K_123, K_124, K_125, K_126, K_127, K_128, K_129, K_130, K_131, K_132, K_133, K_134, K_135, K_136, K_137, K_138, K_139, K_140, K_141, K_142, K_143, K_144, K_145, K_146, K_147, K_148, K_149, K_150, K_151, K_152, K_153, K_154, K_155, K_156, K_157, K_158, K_159, K_160, K_161, R_2_0, R_2_1, R_2_2, R_2_3, R_2_4, R_2_5, R_2_6, R_2_7, R_4_0, R_4_1, R_4_2, R_23_0, R_23_1, R_23_2, R_58_0, R_58_1, R_58_2, R_58_3, R_58_4, R_64_0, R_66_0, R_68_0, R_68_1, R_68_2, R_68_3, R_72_0, R_122_0, R_122_1, R_122_2, R_122_3, R_122_4, R_122_5, R_122_6, R_122_7, R_122_8, R_122_9, R_122_10, R_122_11, R_122_12, R_122_13, R_122_14, R_122_15, R_122_16, R_122_17, R_122_19, R_122_20, R_122_21, R_122_22, R_122_23, R_122_24, R_122_25, R_122_26, R_122_27, R_122_28, R_122_29, R_122_30, R_122_31, R_122_33, R_122_34, R_122_35, R_122_36, R_122_37, R_122_39, R_122_41, true_and, and_true, eB, decide_true, decide_false, Bool.or_true, Bool.true_or, not_true_eq_false, not_false_eq_true, g2, g3, g4, h2, g5, g6, g7, g8, g9, g10, e1, gR_k hmo, gR_l hmo, gR_n hmo, k8, kl]
    by_cases q1 : (L[j]).1 = 8
    · by_cases q2 : (L[j]).2.1 = l
      · simp only [q1, q2, not_true_eq_false, ↓reduceIte]
        rw [f_X12_truth_L113]
        rw [if_pos ⟨q1, q2⟩] at ih
        exact ih _ (by omega) (by omega)
      · simp only [q1, q2, not_true_eq_false, not_false_eq_true, ↓reduceIte]
        rw [f_X12_truth_L113, f_X12_truth_L113]
        rw [if_neg (fun e => q2 e.2)] at ih
        exact ih _ (by omega) (by omega)
    · simp only [q1, not_false_eq_true, ↓reduceIte]
      rw [f_X12_truth_L113, f_X12_truth_L113]
      rw [if_neg (fun e => q1 e.1)] at ih
      exact ih _ (by omega) (by omega)
theorem rs_truL (hc : c < 4) (hl : l < 16) (hm : ∀ m, m ∈ a.2 14 → mOk m) (h : RF I0 I a) :
    f_X12_truth_63 122 (Int32.ofNat l) (Int32.ofNat c) (I, J) = some (aTruL a c l, (I, J)) := by
  have e1 : I 141 (16 * c + l) = a.1 141 (16 * c + l) := R_get h (by unfold aSc; omega)
  have e2 : I 123 l = a.1 123 l := R_get h (by unfold aSc; omega)
  have g1 : eix (Int32.ofNat (16 * c + l)) 64 = true := i_ix (by omega) (by decide)
  have g2 : (Int32.ofNat (16 * c + l)).toNatClampNeg = 16 * c + l := i_tn (by omega)
  have ht : (Int32.ofNat l).toNatClampNeg = l := i_tn (by omega)
  have hi : eix (Int32.ofNat l) 16 = true := i_ix hl (by decide)
  have g3 : eix (14 : Int32) 15 = true := rfl
  have g4 : (14 : Int32).toNatClampNeg = 14 := rfl
  have hr := h.1.2.1 14 (by decide)
  have e3 : I 133 14 - 1 = Int32.ofNat (a.2 14).length + (-1) := by
    rw [(Rng_len hr).1, Int32.sub_eq_add_neg]
  unfold f_X12_truth_63 aTruL
  simp only [eLt, Option.bind_some, ↓reduceIte, K_2, K_3, K_4, K_5, K_21, K_22, K_23, K_24, K_57, K_58, K_59, K_60, K_61, K_62, K_63, K_64, K_65, K_66, K_67, K_68, K_69, K_70, K_71, K_72, K_73, K_122, K_123, K_124, K_125, K_126, K_127, K_128, K_129, K_130, K_131, K_132, K_133, K_134, K_135, K_136, K_137, K_138, K_139, K_140, K_141, K_142, K_143, K_144, K_145, K_146, K_147, K_148, K_149, K_150, K_151, K_152, K_153, K_154, K_155, K_156, K_157, K_158, K_159, K_160, K_161, R_2_0, R_2_1, R_2_2, R_2_3, R_2_4, R_2_5, R_2_6, R_2_7, R_4_0, R_4_1, R_4_2, R_23_0, R_23_1, R_23_2, R_58_0, R_58_1, R_58_2, R_58_3, R_58_4, R_64_0, R_66_0, R_68_0, R_68_1, R_68_2, R_68_3, R_72_0, R_122_0, R_122_1, R_122_2, R_122_3, R_122_4, R_122_5, R_122_6, R_122_7, R_122_8, R_122_9, R_122_10, R_122_11, R_122_12, R_122_13, R_122_14, R_122_15, R_122_16, R_122_17, R_122_19, R_122_20, R_122_21, R_122_22, R_122_23, R_122_24, R_122_25, R_122_26, R_122_27, R_122_28, R_122_29, R_122_30, R_122_31, R_122_33, R_122_34, R_122_35, R_122_36, R_122_37, R_122_39, R_122_41, true_and, and_true, eB, decide_true, decide_false, Bool.or_true, Bool.true_or, not_true_eq_false, not_false_eq_true, m16, i_ad, g1, g2, e1, e2, ht, hi, g3, g4, e3]
  by_cases q : a.1 141 (16 * c + l) = -1
  · simp only [q, ↓reduceIte]
    have := rs_tru (J := J) (d := a.1 123 l) hl hr hm (a.2 14).length 1000000 (Nat.le_refl _) (by have := (Rng_len hr).2; omega)
    have e0 : aVl l (a.1 123 l) [] = a.1 123 l := rfl
    rw [List.drop_length, e0] at this
    exact this
  · simp only [q, ↓reduceIte]
theorem rs_truth (hl : l < 16) (hf : hF a l) (hF : ∀ c, c < 4 → cF a c) (hm : ∀ m, m ∈ a.2 14 → mOk m) (h : RepR I a) :
    rOp (f_X12_truth 122 (Int32.ofNat l) (I, J)) I J (0, aTru a l, a) := by
  have h10 : ¬ (1 : Int32) = 0 := by decide
  have h0 : RF (eup I 122 32 0) (eup I 122 32 0) a := RF_th h
  have ht : (Int32.ofNat l).toNatClampNeg = l := i_tn (by omega)
  have hi : eix (Int32.ofNat l) 16 = true := i_ix hl (by decide)
  have e1 : eup I 122 32 0 123 l = a.1 123 l := R_get h0 (by unfold aSc; omega)
  have e2 : eup I 122 32 0 124 l = a.1 124 l := R_get h0 (by unfold aSc; omega)
  unfold f_X12_truth aTru
  simp only [rs_isLine hl, Option.bind_some, eLt, Option.bind_some, ↓reduceIte, K_2, K_3, K_4, K_5, K_21, K_22, K_23, K_24, K_57, K_58, K_59, K_60, K_61, K_62, K_63, K_64, K_65, K_66, K_67, K_68, K_69, K_70, K_71, K_72, K_73, K_122, K_123, K_124, K_125, K_126, K_127, K_128, K_129, K_130, K_131, K_132, K_133, K_134, K_135, K_136, K_137, K_138, K_139, K_140, K_141, K_142, K_143, K_144, K_145, K_146, K_147, K_148, K_149, K_150, K_151, K_152, K_153, K_154, K_155, K_156, K_157, K_158, K_159, K_160, K_161, R_2_0, R_2_1, R_2_2, R_2_3, R_2_4, R_2_5, R_2_6, R_2_7, R_4_0, R_4_1, R_4_2, R_23_0, R_23_1, R_23_2, R_58_0, R_58_1, R_58_2, R_58_3, R_58_4, R_64_0, R_66_0, R_68_0, R_68_1, R_68_2, R_68_3, R_72_0, R_122_0, R_122_1, R_122_2, R_122_3, R_122_4, R_122_5, R_122_6, R_122_7, R_122_8, R_122_9, R_122_10, R_122_11, R_122_12, R_122_13, R_122_14, R_122_15, R_122_16, R_122_17, R_122_19, R_122_20, R_122_21, R_122_22, R_122_23, R_122_24, R_122_25, R_122_26, R_122_27, R_122_28, R_122_29, R_122_30, R_122_31, R_122_33, R_122_34, R_122_35, R_122_36, R_122_37, R_122_39, R_122_41, true_and, and_true, eB, decide_true, decide_false, Bool.or_true, Bool.true_or, not_true_eq_false, not_false_eq_true, rs_asks1, h10, ht, hi, e1, e2]
  rcases hf.1 with q | ⟨o, ho, q⟩
  · simp only [q, not_true_eq_false, ↓reduceIte]
    exact rOp_of (r_ret h0)
  · have q2 : (Int32.ofNat o = -1) = False := i_ne1 (by omega)
    have q3 : aNt (Int32.ofNat o) = o := i_tn (by omega)
    simp only [q, q2, q3, not_false_eq_true, ↓reduceIte, rs_place ho (hF o ho).2 h0]
    cases hp : aPl a o l with
    | none =>
      simp only [oI, eLt, Option.bind_some, ↓reduceIte, K_2, K_3, K_4, K_5, K_21, K_22, K_23, K_24, K_57, K_58, K_59, K_60, K_61, K_62, K_63, K_64, K_65, K_66, K_67, K_68, K_69, K_70, K_71, K_72, K_73, K_122, K_123, K_124, K_125, K_126, K_127, K_128, K_129, K_130, K_131, K_132, K_133, K_134, K_135, K_136, K_137, K_138, K_139, K_140, K_141, K_142, K_143, K_144, K_145, K_146, K_147, K_148, K_149, K_150, K_151, K_152, K_153, K_154, K_155, K_156, K_157, K_158, K_159, K_160, K_161, R_2_0, R_2_1, R_2_2, R_2_3, R_2_4, R_2_5, R_2_6, R_2_7, R_4_0, R_4_1, R_4_2, R_23_0, R_23_1, R_23_2, R_58_0, R_58_1, R_58_2, R_58_3, R_58_4, R_64_0, R_66_0, R_68_0, R_68_1, R_68_2, R_68_3, R_72_0, R_122_0, R_122_1, R_122_2, R_122_3, R_122_4, R_122_5, R_122_6, R_122_7, R_122_8, R_122_9, R_122_10, R_122_11, R_122_12, R_122_13, R_122_14, R_122_15, R_122_16, R_122_17, R_122_19, R_122_20, R_122_21, R_122_22, R_122_23, R_122_24, R_122_25, R_122_26, R_122_27, R_122_28, R_122_29, R_122_30, R_122_31, R_122_33, R_122_34, R_122_35, R_122_36, R_122_37, R_122_39, R_122_41, true_and, and_true, eB, decide_true, decide_false, Bool.or_true, Bool.true_or, not_true_eq_false, not_false_eq_true, rs_truL ho hl hm h0]
      exact rOp_of (r_ret h0)
    | some p =>
      have hp4 := (aPl_lt hp).1
      have hx : eix (Int32.ofNat (4 * o + p)) 16 = true := i_ix (by omega) (by decide)
      have hy : (Int32.ofNat (4 * o + p)).toNatClampNeg = 4 * o + p := i_tn (by omega)
      have hm1 : (Int32.ofNat (4 * o + p) = -1) = False := i_ne1 (by omega)
      have e3 : eup I 122 32 0 136 (4 * o + p) = a.1 136 (4 * o + p) := R_get h0 (by unfold aSc; omega)
      have e4 : eup I 122 32 0 137 (4 * o + p) = a.1 137 (4 * o + p) := R_get h0 (by unfold aSc; omega)
      simp only [oI, hm1, hx, hy, e3, e4, rs_owned, eLt, Option.bind_some, ↓reduceIte, K_2, K_3, K_4, K_5, K_21, K_22, K_23, K_24, K_57, K_58, K_59, K_60, K_61, K_62, K_63, K_64, K_65, K_66, K_67, K_68, K_69, K_70, K_71, K_72, K_73, K_122, K_123, K_124, K_125, K_126, K_127, K_128, K_129, K_130, K_131, K_132, K_133, K_134, K_135, K_136, K_137, K_138, K_139, K_140, K_141, K_142, K_143, K_144, K_145, K_146, K_147, K_148, K_149, K_150, K_151, K_152, K_153, K_154, K_155, K_156, K_157, K_158, K_159, K_160, K_161, R_2_0, R_2_1, R_2_2, R_2_3, R_2_4, R_2_5, R_2_6, R_2_7, R_4_0, R_4_1, R_4_2, R_23_0, R_23_1, R_23_2, R_58_0, R_58_1, R_58_2, R_58_3, R_58_4, R_64_0, R_66_0, R_68_0, R_68_1, R_68_2, R_68_3, R_72_0, R_122_0, R_122_1, R_122_2, R_122_3, R_122_4, R_122_5, R_122_6, R_122_7, R_122_8, R_122_9, R_122_10, R_122_11, R_122_12, R_122_13, R_122_14, R_122_15, R_122_16, R_122_17, R_122_19, R_122_20, R_122_21, R_122_22, R_122_23, R_122_24, R_122_25, R_122_26, R_122_27, R_122_28, R_122_29, R_122_30, R_122_31, R_122_33, R_122_34, R_122_35, R_122_36, R_122_37, R_122_39, R_122_41, true_and, and_true, eB, decide_true, decide_false, Bool.or_true, Bool.true_or, not_true_eq_false, not_false_eq_true]
      by_cases q4 : aOwn (a.1 136 (4 * o + p)) = true
      · simp only [q4, ↓reduceIte, h10]
        exact rOp_of (r_ret h0)
      · simp only [q4, ↓reduceIte, Bool.false_eq_true, rs_truL ho hl hm h0]
        exact rOp_of (r_ret h0)
theorem rs_truthN (hb : x < 0 ∨ 16 ≤ x) (h : RepR I a) : rOp (f_X12_truth 122 x (I, J)) I J (1, 0, a) := by
  unfold f_X12_truth
  simp only [rs_isLineN hb, Option.bind_some, eLt, Option.bind_some, ↓reduceIte, K_2, K_3, K_4, K_5, K_21, K_22, K_23, K_24, K_57, K_58, K_59, K_60, K_61, K_62, K_63, K_64, K_65, K_66, K_67, K_68, K_69, K_70, K_71, K_72, K_73, K_122, K_123, K_124, K_125, K_126, K_127, K_128, K_129, K_130, K_131, K_132, K_133, K_134, K_135, K_136, K_137, K_138, K_139, K_140, K_141, K_142, K_143, K_144, K_145, K_146, K_147, K_148, K_149, K_150, K_151, K_152, K_153, K_154, K_155, K_156, K_157, K_158, K_159, K_160, K_161, R_2_0, R_2_1, R_2_2, R_2_3, R_2_4, R_2_5, R_2_6, R_2_7, R_4_0, R_4_1, R_4_2, R_23_0, R_23_1, R_23_2, R_58_0, R_58_1, R_58_2, R_58_3, R_58_4, R_64_0, R_66_0, R_68_0, R_68_1, R_68_2, R_68_3, R_72_0, R_122_0, R_122_1, R_122_2, R_122_3, R_122_4, R_122_5, R_122_6, R_122_7, R_122_8, R_122_9, R_122_10, R_122_11, R_122_12, R_122_13, R_122_14, R_122_15, R_122_16, R_122_17, R_122_19, R_122_20, R_122_21, R_122_22, R_122_23, R_122_24, R_122_25, R_122_26, R_122_27, R_122_28, R_122_29, R_122_30, R_122_31, R_122_33, R_122_34, R_122_35, R_122_36, R_122_37, R_122_39, R_122_41, true_and, and_true, eB, decide_true, decide_false, Bool.or_true, Bool.true_or, not_true_eq_false, not_false_eq_true, rs_asks0]
  exact rOp_of (r_ret (RF_th h))
/-- whether two places of unlike cores are out of order -/
def aBoth (a : aS) (P O : Nat) : Bool :=
  !decide (P / 4 = O / 4) && (decide (a.1 135 P = a.1 135 O) && (!decide (a.1 136 P = 0) && (!decide (a.1 136 O = 0) && (!aWt (a.1 136 P) && !aWt (a.1 136 O)))))
def aBad (a : aS) (P O : Nat) : Bool := aBoth a P O && (aOwn (a.1 136 P) || !decide (a.1 137 P = a.1 137 O))
def aCohI (a : aS) (P : Nat) : Nat → Nat → Bool → Bool
  | 0, _, r => r
  | d + 1, o, r => aCohI a P d (o + 1) (r && !aBad a P o)
def aCohO (a : aS) : Nat → Nat → Bool → Bool
  | 0, _, r => r
  | d + 1, p, r => aCohO a d (p + 1) (aCohI a p 16 0 r)
def aCoh (a : aS) : Bool := aCohO a 16 0 true
def bI (s : Bool) : Int32 := if s = true then 1 else 0
theorem rs_co1 {N : Nat} {s : Bool} (hp : p < 16) (ho : o < 16) (h : RF I0 I a) (hN : n + 5 ≤ N) :
    ∃ N', n ≤ N' ∧ f_X12_isCoherent_L9 N (.inr (.inl (122, bI s, Int32.ofNat p, Int32.ofNat o))) (I, J) =
      f_X12_isCoherent_L9 N' (.inr (.inl (122, bI (s && !aBad a p o), Int32.ofNat p, Int32.ofNat (o + 1)))) (I, J) := by
  obtain ⟨N, rfl⟩ := Nat.exists_eq_add_of_le hN
  rw [show n + 5 + N = n + N + 4 + 1 by omega]
  have h10 : ¬ (1 : Int32) = 0 := by decide
  have g1 : ((16 : Int32) ≤ Int32.ofNat o) = False := (i_le (n := 16) (by decide) (by omega)).trans (eq_false (by omega))
  have g4 : ¬ (4 : Int32) = 0 := by decide
  have g5 : Int32.ofNat p / 4 = Int32.ofNat (p / 4) := i_dv (m := 4) (by omega) (by decide)
  have g6 : Int32.ofNat o / 4 = Int32.ofNat (o / 4) := i_dv (m := 4) (by omega) (by decide)
  have g7 : (Int32.ofNat (p / 4) = Int32.ofNat (o / 4)) = (p / 4 = o / 4) := i_eq (by omega) (by omega)
  have x1 : eix (Int32.ofNat p) 16 = true := i_ix hp (by decide)
  have x2 : eix (Int32.ofNat o) 16 = true := i_ix ho (by decide)
  have t1 : (Int32.ofNat p).toNatClampNeg = p := i_tn (by omega)
  have t2 : (Int32.ofNat o).toNatClampNeg = o := i_tn (by omega)
  have e1 : I 135 p = a.1 135 p := R_get h (by unfold aSc; omega)
  have e2 : I 135 o = a.1 135 o := R_get h (by unfold aSc; omega)
  have e3 : I 136 p = a.1 136 p := R_get h (by unfold aSc; omega)
  have e4 : I 136 o = a.1 136 o := R_get h (by unfold aSc; omega)
  have e5 : I 137 p = a.1 137 p := R_get h (by unfold aSc; omega)
  have e6 : I 137 o = a.1 137 o := R_get h (by unfold aSc; omega)
  have K0 : aBoth a p o = false → ∃ N', n ≤ N' ∧ f_X12_isCoherent_L9 (n + N + 4) (.inr (.inr (.inl (122, bI s, Int32.ofNat p, Int32.ofNat o)))) (I, J) =
      f_X12_isCoherent_L9 N' (.inr (.inl (122, bI (s && !aBad a p o), Int32.ofNat p, Int32.ofNat (o + 1)))) (I, J) := by
    intro g
    obtain ⟨M, hM⟩ : ∃ M, M = n + N := ⟨_, rfl⟩
    refine ⟨M, by omega, ?_⟩
    unfold aBad
    rw [g, f_X12_isCoherent_L9, f_X12_isCoherent_L9]
    cases s with
    | false =>
      have : bI false = 0 := rfl
      simp only [this, ↓reduceIte]
      rw [f_X12_isCoherent_L9, f_X12_isCoherent_L9, p1, hM]
      rfl
    | true =>
      have : bI true = 1 := rfl
      simp only [this, h10, ↓reduceIte]
      rw [f_X12_isCoherent_L9, f_X12_isCoherent_L9, p1, hM]
      rfl
  have K1 : aBoth a p o = true → ∃ N', n ≤ N' ∧ f_X12_isCoherent_L9 (n + N + 4) (.inr (.inr (.inr (.inl (122, bI s, Int32.ofNat p, Int32.ofNat o, 1))))) (I, J) =
      f_X12_isCoherent_L9 N' (.inr (.inl (122, bI (s && !aBad a p o), Int32.ofNat p, Int32.ofNat (o + 1)))) (I, J) := by
    intro g
    obtain ⟨M, hM⟩ : ∃ M, M = n + N + 1 := ⟨_, rfl⟩
    refine ⟨M, by omega, ?_⟩
    unfold aBad
    rw [g, f_X12_isCoherent_L9]
    cases s with
    | false =>
      have : bI false = 0 := rfl
      simp only [this, ↓reduceIte]
      rw [f_X12_isCoherent_L9, f_X12_isCoherent_L9, p1, hM]
      rfl
    | true =>
      have : bI true = 1 := rfl
      simp only [this, h10, ↓reduceIte, K_2, K_3, K_4, K_5, K_21, K_22, K_23, K_24, K_57, K_58, K_59, K_60, K_61, K_62, K_63, K_64, K_65, K_66, K_67, K_68, K_69, K_70, K_71, K_72, K_73, K_122, K_123, K_124, K_125, K_126, K_127, K_128, K_129, K_130, K_131, K_132, K_133, K_134, K_135, K_136, K_137, K_138, K_139, K_140, K_141, K_142, K_143, K_144, K_145, K_146, K_147, K_148, K_149, K_150, K_151, K_152, K_153, K_154, K_155, K_156, K_157, K_158, K_159, K_160, K_161, R_2_0, R_2_1, R_2_2, R_2_3, R_2_4, R_2_5, R_2_6, R_2_7, R_4_0, R_4_1, R_4_2, R_23_0, R_23_1, R_23_2, R_58_0, R_58_1, R_58_2, R_58_3, R_58_4, R_64_0, R_66_0, R_68_0, R_68_1, R_68_2, R_68_3, R_72_0, R_122_0, R_122_1, R_122_2, R_122_3, R_122_4, R_122_5, R_122_6, R_122_7, R_122_8, R_122_9, R_122_10, R_122_11, R_122_12, R_122_13, R_122_14, R_122_15, R_122_16, R_122_17, R_122_19, R_122_20, R_122_21, R_122_22, R_122_23, R_122_24, R_122_25, R_122_26, R_122_27, R_122_28, R_122_29, R_122_30, R_122_31, R_122_33, R_122_34, R_122_35, R_122_36, R_122_37, R_122_39, R_122_41, x1, x2, t1, t2, e3, e5, e6, rs_owned, Option.bind_some, true_and, and_self]
      by_cases q1 : aOwn (a.1 136 p) = true
      · simp only [q1, ↓reduceIte, h10, not_false_eq_true]
        rw [f_X12_isCoherent_L9, f_X12_isCoherent_L9, p1, hM]
        rfl
      · simp only [q1, ↓reduceIte, not_true_eq_false, Bool.false_eq_true]
        by_cases q2 : a.1 137 p = a.1 137 o
        · simp only [q2, not_true_eq_false, ↓reduceIte]
          rw [f_X12_isCoherent_L9, f_X12_isCoherent_L9, p1, hM]
          simp [bI]
        · simp only [q2, not_false_eq_true, ↓reduceIte]
          rw [f_X12_isCoherent_L9, f_X12_isCoherent_L9, p1, hM]
          simp [bI]
  have e : f_X12_isCoherent_L9 (n + N + 4 + 1) (.inr (.inl (122, bI s, Int32.ofNat p, Int32.ofNat o))) (I, J) =
      if aBoth a p o = true then f_X12_isCoherent_L9 (n + N + 4) (.inr (.inr (.inr (.inl (122, bI s, Int32.ofNat p, Int32.ofNat o, 1))))) (I, J)
      else f_X12_isCoherent_L9 (n + N + 4) (.inr (.inr (.inl (122, bI s, Int32.ofNat p, Int32.ofNat o)))) (I, J) := by
    rw [f_X12_isCoherent_L9]
    unfold aBoth
    simp only [g1, g4, g5, g6, g7, eLt, Option.bind_some, ↓reduceIte, K_2, K_3, K_4, K_5, K_21, K_22, K_23, K_24, K_57, K_58, K_59, K_60, K_61, K_62, K_63, K_64, K_65, K_66, K_67, K_68, K_69, K_70, K_71, K_72, K_73, K_122, K_123, K_124, K_125, K_126, K_127, K_128, K_129, K_130, K_131, K_132, K_133, K_134, K_135, K_136, K_137, K_138, K_139, K_140, K_141, K_142, K_143, K_144, K_145, K_146, K_147, K_148, K_149, K_150, K_151, K_152, K_153, K_154, K_155, K_156, K_157, K_158, K_159, K_160, K_161, R_2_0, R_2_1, R_2_2, R_2_3, R_2_4, R_2_5, R_2_6, R_2_7, R_4_0, R_4_1, R_4_2, R_23_0, R_23_1, R_23_2, R_58_0, R_58_1, R_58_2, R_58_3, R_58_4, R_64_0, R_66_0, R_68_0, R_68_1, R_68_2, R_68_3, R_72_0, R_122_0, R_122_1, R_122_2, R_122_3, R_122_4, R_122_5, R_122_6, R_122_7, R_122_8, R_122_9, R_122_10, R_122_11, R_122_12, R_122_13, R_122_14, R_122_15, R_122_16, R_122_17, R_122_19, R_122_20, R_122_21, R_122_22, R_122_23, R_122_24, R_122_25, R_122_26, R_122_27, R_122_28, R_122_29, R_122_30, R_122_31, R_122_33, R_122_34, R_122_35, R_122_36, R_122_37, R_122_39, R_122_41, true_and, and_true, eB, decide_true, decide_false, Bool.or_true, Bool.true_or, not_true_eq_false, not_false_eq_true, x1, x2, t1, t2, e1, e2, e3, e4, rs_wait]
    by_cases q1 : p / 4 = o / 4
    · simp [q1]
    by_cases q2 : ¬ a.1 135 p = a.1 135 o
    · simp [q1, q2]
    have q2 := Classical.not_not.1 q2
    by_cases q3 : a.1 136 p = 0
    · simp [q1, q2, q3]
    by_cases q4 : a.1 136 o = 0
    · simp [q1, q2, q3, q4]
    by_cases q5 : aWt (a.1 136 p) = true
    · simp [q1, q2, q3, q4, q5]
    by_cases q6 : aWt (a.1 136 o) = true
    · simp [q1, q2, q3, q4, q5, q6]
    simp [q1, q2, q3, q4, q5, q6]
  rw [e]
  cases hb : aBoth a p o with
  | false =>
    rw [if_neg (by decide)]
    exact K0 hb
  | true =>
    rw [if_pos rfl]
    exact K1 hb
theorem rs_coI {p : Nat} (hp : p < 16) (h : RF I0 I a) : ∀ d o s N, o + d = 16 → n + 5 * d ≤ N →
    ∃ N', n ≤ N' ∧ f_X12_isCoherent_L9 N (.inr (.inl (122, bI s, Int32.ofNat p, Int32.ofNat o))) (I, J) =
      f_X12_isCoherent_L9 N' (.inr (.inl (122, bI (aCohI a p d o s), Int32.ofNat p, Int32.ofNat 16))) (I, J) := by
  intro d
  induction d with
  | zero =>
    intro o s N h1 h2
    have : o = 16 := by omega
    subst this
    exact ⟨N, by omega, rfl⟩
  | succ d ih =>
    intro o s N h1 h2
    obtain ⟨N1, h3, h4⟩ := rs_co1 (s := s) (J := J) (n := n + 5 * d) (o := o) hp (by omega) h (show n + 5 * d + 5 ≤ N by omega)
    obtain ⟨N2, h5, h6⟩ := ih (o + 1) (s && !aBad a p o) N1 (by omega) h3
    exact ⟨N2, h5, h4.trans h6⟩
theorem rs_coO (h : RF I0 I a) : ∀ d p s N, p + d = 16 → 82 * d + 1 ≤ N →
    f_X12_isCoherent_L9 N (.inl (122, bI s, Int32.ofNat p)) (I, J) = some (bI (aCohO a d p s), (I, J)) := by
  intro d
  induction d with
  | zero =>
    intro p s N h1 h2
    have : p = 16 := by omega
    subst this
    obtain ⟨N, rfl⟩ := Nat.exists_eq_add_of_le h2
    rw [show 82 * 0 + 1 + N = N + 1 by omega, f_X12_isCoherent_L9]
    have g1 : ((16 : Int32) ≤ Int32.ofNat 16) = True := eq_true (by decide)
    have g2 : eB (bI s) = true := by cases s <;> rfl
    simp only [g1, g2, ↓reduceIte]
    rfl
  | succ d ih =>
    intro p s N h1 h2
    obtain ⟨N, rfl⟩ := Nat.exists_eq_add_of_le h2
    rw [show 82 * (d + 1) + 1 + N = 82 * d + N + 82 + 1 by omega, f_X12_isCoherent_L9]
    have g1 : ((16 : Int32) ≤ Int32.ofNat p) = False := (i_le (n := 16) (by decide) (by omega)).trans (eq_false (by omega))
    have g2 : ((16 : Int32) ≤ Int32.ofNat 16) = True := eq_true (by decide)
    simp only [g1, ↓reduceIte]
    obtain ⟨N1, h3, h4⟩ := rs_coI (J := J) (n := 82 * d + 2) (p := p) (by omega) h 16 0 s (82 * d + N + 82) (by omega) (by omega)
    have h4 : f_X12_isCoherent_L9 (82 * d + N + 82) (.inr (.inl (122, bI s, Int32.ofNat p, 0))) (I, J) = _ := h4
    rw [h4]
    obtain ⟨N2, rfl⟩ := Nat.exists_eq_add_of_le h3
    rw [show 82 * d + 2 + N2 = 82 * d + 1 + N2 + 1 by omega, f_X12_isCoherent_L9]
    simp only [g2, ↓reduceIte, p1]
    exact ih (p + 1) _ _ (by omega) (by omega)
theorem rs_coh (h : RepR I a) : rOp (f_X12_isCoherent 122 (I, J)) I J (0, bI (aCoh a), a) := by
  have h0 : RF (eup I 122 32 0) (eup I 122 32 0) a := RF_th h
  unfold f_X12_isCoherent
  simp only [eLt, Option.bind_some, ↓reduceIte, K_2, K_3, K_4, K_5, K_21, K_22, K_23, K_24, K_57, K_58, K_59, K_60, K_61, K_62, K_63, K_64, K_65, K_66, K_67, K_68, K_69, K_70, K_71, K_72, K_73, K_122, K_123, K_124, K_125, K_126, K_127, K_128, K_129, K_130, K_131, K_132, K_133, K_134, K_135, K_136, K_137, K_138, K_139, K_140, K_141, K_142, K_143, K_144, K_145, K_146, K_147, K_148, K_149, K_150, K_151, K_152, K_153, K_154, K_155, K_156, K_157, K_158, K_159, K_160, K_161, R_2_0, R_2_1, R_2_2, R_2_3, R_2_4, R_2_5, R_2_6, R_2_7, R_4_0, R_4_1, R_4_2, R_23_0, R_23_1, R_23_2, R_58_0, R_58_1, R_58_2, R_58_3, R_58_4, R_64_0, R_66_0, R_68_0, R_68_1, R_68_2, R_68_3, R_72_0, R_122_0, R_122_1, R_122_2, R_122_3, R_122_4, R_122_5, R_122_6, R_122_7, R_122_8, R_122_9, R_122_10, R_122_11, R_122_12, R_122_13, R_122_14, R_122_15, R_122_16, R_122_17, R_122_19, R_122_20, R_122_21, R_122_22, R_122_23, R_122_24, R_122_25, R_122_26, R_122_27, R_122_28, R_122_29, R_122_30, R_122_31, R_122_33, R_122_34, R_122_35, R_122_36, R_122_37, R_122_39, R_122_41, true_and, and_true, eB, decide_true, decide_false, Bool.or_true, Bool.true_or, not_true_eq_false, not_false_eq_true]
  have := rs_coO (J := J) h0 16 0 true 1000000 (by decide) (by decide)
  have e1 : bI true = 1 := rfl
  have e2 : Int32.ofNat 0 = 0 := rfl
  have e3 : aCohO a 16 0 true = aCoh a := rfl
  rw [e1, e2, e3] at this
  rw [this]
  exact rOp_of (r_ret h0)
end EPT
