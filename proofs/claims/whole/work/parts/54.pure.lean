/-! the reference: bits, and the home -/
section EPT
variable {I I0 : Nat → Nat → Int32} {J : Nat → Nat → Int64} {a b : aS} {r i l q c k n m : Nat} {v : Int32}
theorem pop_dec : ∀ f N, 0 < N → N < 2 ^ f → aPopN f (N &&& (N - 1)) + 1 = aPopN f N := by
  intro f
  induction f with
  | zero => intro N h1 h2; simp at h2; omega
  | succ f ih =>
    intro N h1 h2
    unfold aPopN
    have e0 : (N &&& (N - 1)) % 2 = 0 := by
      have := Nat.and_mod_two_eq_one (a := N) (b := N - 1)
      rcases Nat.mod_two_eq_zero_or_one (N &&& (N - 1)) with q | q
      · exact q
      · have := this.1 q
        omega
    rw [e0, Nat.and_div_two]
    rw [Nat.pow_succ] at h2
    rcases Nat.mod_two_eq_zero_or_one N with q | q
    · rw [show (N - 1) / 2 = N / 2 - 1 by omega, q]
      have := ih (N / 2) (by omega) (by omega)
      omega
    · rw [show (N - 1) / 2 = N / 2 by omega, q, Nat.and_self]
      omega
theorem pop_le : ∀ f N, aPopN f N ≤ f := by
  intro f
  induction f with
  | zero => intro N; exact Nat.le_refl 0
  | succ f ih =>
    intro N
    unfold aPopN
    have := ih (N / 2)
    have := Nat.mod_lt N (show 0 < 2 by decide)
    omega
theorem aPop_le (x : Int32) : aPop x ≤ 32 := pop_le 32 _
theorem aPop_zero : aPop 0 = 0 := by decide
theorem aPop_dec {x : Int32} (h : ¬ x = 0) : aPop (x &&& (x - 1)) + 1 = aPop x := by
  unfold aPop
  have h1 : (x &&& (x - 1)).toBitVec.toNat = x.toBitVec.toNat &&& (x.toBitVec.toNat - 1) := by
    show (x.toBitVec &&& (x.toBitVec - 1#32)).toNat = _
    rw [BitVec.toNat_and, BitVec.toNat_sub]
    have h2 : 0 < x.toBitVec.toNat := by
      rcases Nat.eq_zero_or_pos x.toBitVec.toNat with q | q
      · exfalso
        apply h
        apply Int32.toBitVec.inj
        apply BitVec.eq_of_toNat_eq
        rw [q]
        rfl
      · exact q
    have h3 := x.toBitVec.isLt
    congr 1
    show (2 ^ 32 - 1 + x.toBitVec.toNat) % 2 ^ 32 = _
    omega
  rw [h1]
  refine pop_dec 32 _ ?_ x.toBitVec.isLt
  rcases Nat.eq_zero_or_pos x.toBitVec.toNat with q | q
  · exfalso
    apply h
    apply Int32.toBitVec.inj
    apply BitVec.eq_of_toNat_eq
    rw [q]
    rfl
  · exact q
theorem rs_bits_4 (σ : eMem) : ∀ f n (x : Int32), aPop x < f → f_X12_bits_4 f (Int32.ofNat n) x σ = some (Int32.ofNat (n + aPop x), σ) := by
  intro f
  induction f with
  | zero => intro n x h; omega
  | succ f ih =>
    intro n x h
    unfold f_X12_bits_4 eLet
    by_cases g : x = 0
    · rw [if_pos g, g, aPop_zero]
      rfl
    · rw [if_neg g]
      have := aPop_dec g
      have e : Int32.ofNat n + 1 = Int32.ofNat (n + 1) := i_ad
      dsimp only
      rw [e, ih (n + 1) (x &&& (x - 1)) (by omega), show n + 1 + aPop (x &&& (x - 1)) = n + aPop x by omega]
theorem rs_bits (x : Int32) (σ : eMem) : f_X12_bits x σ = some (Int32.ofNat (aPop x), σ) := by
  have := rs_bits_4 σ 1000000 0 x (by have := aPop_le x; omega)
  rw [Nat.zero_add] at this
  exact this
theorem i_and1 {x : Int32} (h : ¬ x &&& 1 = 1) : x &&& 1 = 0 := by
  have h1 : (x &&& 1).toBitVec = x.toBitVec &&& 1#32 := rfl
  rcases Nat.mod_two_eq_zero_or_one x.toBitVec.toNat with q | q
  · apply Int32.toBitVec.inj
    apply BitVec.eq_of_toNat_eq
    rw [h1, BitVec.toNat_and]
    show x.toBitVec.toNat &&& 2 ^ 1 - 1 = 0
    rw [Nat.and_two_pow_sub_one_eq_mod]
    exact q
  · exfalso
    apply h
    apply Int32.toBitVec.inj
    apply BitVec.eq_of_toNat_eq
    rw [h1, BitVec.toNat_and]
    show x.toBitVec.toNat &&& 2 ^ 1 - 1 = 1
    rw [Nat.and_two_pow_sub_one_eq_mod]
    exact q
theorem rs_shares (hl : l < 16) (h : RF I0 I a) : rOk (f_X12_shares 122 (Int32.ofNat l) (Int32.ofNat c) (I, J)) I0 J () (aShares a l c) := by
  have ht : (Int32.ofNat l).toNatClampNeg = l := i_tn (by omega)
  have hi : eix (Int32.ofNat l) 16 = true := i_ix hl (by decide)
  have e1 : I 126 l = a.1 126 l := R_get h (by unfold aSc; omega)
  have e2 : I 125 l = a.1 125 l := R_get h (by unfold aSc; omega)
  have h9 : eix (9 : Int32) 10 = true := rfl
  have d9 : (9 : Int32).toNatClampNeg = 9 := rfl
  unfold f_X12_shares aShares f_X12_shares_65
  simp only [eLet, Option.bind_some, ↓reduceIte, K_2, K_3, K_4, K_5, K_21, K_22, K_23, K_24, K_57, K_58, K_59, K_60, K_61, K_62, K_63, K_64, K_65, K_66, K_67, K_68, K_69, K_70, K_71, K_72, K_73, K_122, K_123, K_124, K_125, K_126, K_127, K_128, K_129, K_130, K_131, K_132, K_133, K_134, K_135, K_136, K_137, K_138, K_139, K_140, K_141, K_142, K_143, K_144, K_145, K_146, K_147, K_148, K_149, K_150, K_151, K_152, K_153, K_154, K_155, K_156, K_157, K_158, K_159, K_160, K_161, R_2_0, R_2_1, R_2_2, R_2_3, R_2_4, R_2_5, R_2_6, R_2_7, R_4_0, R_4_1, R_4_2, R_23_0, R_23_1, R_23_2, R_58_0, R_58_1, R_58_2, R_58_3, R_58_4, R_64_0, R_66_0, R_68_0, R_68_1, R_68_2, R_68_3, R_72_0, R_122_0, R_122_1, R_122_2, R_122_3, R_122_4, R_122_5, R_122_6, R_122_7, R_122_8, R_122_9, R_122_10, R_122_11, R_122_12, R_122_13, R_122_14, R_122_15, R_122_16, R_122_17, R_122_19, R_122_20, R_122_21, R_122_22, R_122_23, R_122_24, R_122_25, R_122_26, R_122_27, R_122_28, R_122_29, R_122_30, R_122_31, R_122_33, R_122_34, R_122_35, R_122_36, R_122_37, R_122_39, R_122_41, true_and, and_true, eB, decide_true, decide_false, Bool.or_true, Bool.true_or, not_true_eq_false, not_false_eq_true, ht, hi, e1, e2, rs_bits, h9, d9]
  by_cases g1 : a.1 126 l = 0
  · simp only [g1, not_true_eq_false, ↓reduceIte]
    by_cases g2 : aBit (a.1 125 l) c = true
    · have g3 : ¬ (a.1 125 l >>> (Int32.ofNat c &&& 31)) &&& 1 = 0 := by
        have : (a.1 125 l >>> (Int32.ofNat c &&& 31)) &&& 1 = 1 := of_decide_eq_true g2
        rw [this]
        decide
      simp only [g2, g3, not_false_eq_true, ↓reduceIte]
      exact r_ret h
    · have g3 : (a.1 125 l >>> (Int32.ofNat c &&& 31)) &&& 1 = 0 := by
        have : ¬ (a.1 125 l >>> (Int32.ofNat c &&& 31)) &&& 1 = 1 := fun e => g2 (decide_eq_true e)
        exact i_and1 this
      have g4 : (Int32.ofNat (aPop (a.1 125 l)) = 2) = (aPop (a.1 125 l) = 2) := i_eq (by have := aPop_le (a.1 125 l); omega) (by decide)
      simp only [g2, g3, g4, not_true_eq_false, ↓reduceIte, Bool.false_eq_true]
      unfold f_X12_shares_53 f_X12_shares_65
      by_cases g5 : aPop (a.1 125 l) = 2
      · have e3 : eup (eup I 126 l 1) 153 9 (eup I 126 l 1 153 9 + 1) 125 l = a.1 125 l := by
          rw [up_r (by decide), up_r (by decide)]
          exact e2
        simp only [eLet, Option.bind_some, ↓reduceIte, K_2, K_3, K_4, K_5, K_21, K_22, K_23, K_24, K_57, K_58, K_59, K_60, K_61, K_62, K_63, K_64, K_65, K_66, K_67, K_68, K_69, K_70, K_71, K_72, K_73, K_122, K_123, K_124, K_125, K_126, K_127, K_128, K_129, K_130, K_131, K_132, K_133, K_134, K_135, K_136, K_137, K_138, K_139, K_140, K_141, K_142, K_143, K_144, K_145, K_146, K_147, K_148, K_149, K_150, K_151, K_152, K_153, K_154, K_155, K_156, K_157, K_158, K_159, K_160, K_161, R_2_0, R_2_1, R_2_2, R_2_3, R_2_4, R_2_5, R_2_6, R_2_7, R_4_0, R_4_1, R_4_2, R_23_0, R_23_1, R_23_2, R_58_0, R_58_1, R_58_2, R_58_3, R_58_4, R_64_0, R_66_0, R_68_0, R_68_1, R_68_2, R_68_3, R_72_0, R_122_0, R_122_1, R_122_2, R_122_3, R_122_4, R_122_5, R_122_6, R_122_7, R_122_8, R_122_9, R_122_10, R_122_11, R_122_12, R_122_13, R_122_14, R_122_15, R_122_16, R_122_17, R_122_19, R_122_20, R_122_21, R_122_22, R_122_23, R_122_24, R_122_25, R_122_26, R_122_27, R_122_28, R_122_29, R_122_30, R_122_31, R_122_33, R_122_34, R_122_35, R_122_36, R_122_37, R_122_39, R_122_41, true_and, and_true, eB, decide_true, decide_false, Bool.or_true, Bool.true_or, not_true_eq_false, not_false_eq_true, ht, hi, g5, not_true_eq_false, e3]
        exact r_ret (RF_w (RF_c1 (RF_w h (by unfold aSc; omega))) (by unfold aSc; omega))
      · simp only [eLet, Option.bind_some, ↓reduceIte, K_2, K_3, K_4, K_5, K_21, K_22, K_23, K_24, K_57, K_58, K_59, K_60, K_61, K_62, K_63, K_64, K_65, K_66, K_67, K_68, K_69, K_70, K_71, K_72, K_73, K_122, K_123, K_124, K_125, K_126, K_127, K_128, K_129, K_130, K_131, K_132, K_133, K_134, K_135, K_136, K_137, K_138, K_139, K_140, K_141, K_142, K_143, K_144, K_145, K_146, K_147, K_148, K_149, K_150, K_151, K_152, K_153, K_154, K_155, K_156, K_157, K_158, K_159, K_160, K_161, R_2_0, R_2_1, R_2_2, R_2_3, R_2_4, R_2_5, R_2_6, R_2_7, R_4_0, R_4_1, R_4_2, R_23_0, R_23_1, R_23_2, R_58_0, R_58_1, R_58_2, R_58_3, R_58_4, R_64_0, R_66_0, R_68_0, R_68_1, R_68_2, R_68_3, R_72_0, R_122_0, R_122_1, R_122_2, R_122_3, R_122_4, R_122_5, R_122_6, R_122_7, R_122_8, R_122_9, R_122_10, R_122_11, R_122_12, R_122_13, R_122_14, R_122_15, R_122_16, R_122_17, R_122_19, R_122_20, R_122_21, R_122_22, R_122_23, R_122_24, R_122_25, R_122_26, R_122_27, R_122_28, R_122_29, R_122_30, R_122_31, R_122_33, R_122_34, R_122_35, R_122_36, R_122_37, R_122_39, R_122_41, true_and, and_true, eB, decide_true, decide_false, Bool.or_true, Bool.true_or, not_true_eq_false, not_false_eq_true, ht, hi, g5, e2]
        exact r_ret (RF_w h (by unfold aSc; omega))
  · simp only [g1, not_false_eq_true, ↓reduceIte]
    exact r_ret h
theorem rs_forgets (hl : l < 16) (h : RF I0 I a) : rOk (f_X12_forgets 122 (Int32.ofNat l) (I, J)) I0 J () (aForgets a l) := by
  have ht : (Int32.ofNat l).toNatClampNeg = l := i_tn (by omega)
  have hi : eix (Int32.ofNat l) 16 = true := i_ix hl (by decide)
  unfold f_X12_forgets
  simp only [eLet, Option.bind_some, ↓reduceIte, K_2, K_3, K_4, K_5, K_21, K_22, K_23, K_24, K_57, K_58, K_59, K_60, K_61, K_62, K_63, K_64, K_65, K_66, K_67, K_68, K_69, K_70, K_71, K_72, K_73, K_122, K_123, K_124, K_125, K_126, K_127, K_128, K_129, K_130, K_131, K_132, K_133, K_134, K_135, K_136, K_137, K_138, K_139, K_140, K_141, K_142, K_143, K_144, K_145, K_146, K_147, K_148, K_149, K_150, K_151, K_152, K_153, K_154, K_155, K_156, K_157, K_158, K_159, K_160, K_161, R_2_0, R_2_1, R_2_2, R_2_3, R_2_4, R_2_5, R_2_6, R_2_7, R_4_0, R_4_1, R_4_2, R_23_0, R_23_1, R_23_2, R_58_0, R_58_1, R_58_2, R_58_3, R_58_4, R_64_0, R_66_0, R_68_0, R_68_1, R_68_2, R_68_3, R_72_0, R_122_0, R_122_1, R_122_2, R_122_3, R_122_4, R_122_5, R_122_6, R_122_7, R_122_8, R_122_9, R_122_10, R_122_11, R_122_12, R_122_13, R_122_14, R_122_15, R_122_16, R_122_17, R_122_19, R_122_20, R_122_21, R_122_22, R_122_23, R_122_24, R_122_25, R_122_26, R_122_27, R_122_28, R_122_29, R_122_30, R_122_31, R_122_33, R_122_34, R_122_35, R_122_36, R_122_37, R_122_39, R_122_41, true_and, and_true, eB, decide_true, decide_false, Bool.or_true, Bool.true_or, not_true_eq_false, not_false_eq_true, ht, hi]
  exact r_ret (RF_w (RF_w h (by unfold aSc; omega)) (by unfold aSc; omega))
theorem rs_waits (hl : l < 16) (h : RF I0 I a) : rOk (f_X12_waits 122 (Int32.ofNat l) (Int32.ofNat k) (Int32.ofNat c) (Int32.ofNat n) (I, J)) I0 J () (aWaits a l k c n) := by
  have ht : (Int32.ofNat l).toNatClampNeg = l := i_tn (by omega)
  have hi : eix (Int32.ofNat l) 16 = true := i_ix hl (by decide)
  unfold f_X12_waits
  simp only [eLet, Option.bind_some, ↓reduceIte, K_2, K_3, K_4, K_5, K_21, K_22, K_23, K_24, K_57, K_58, K_59, K_60, K_61, K_62, K_63, K_64, K_65, K_66, K_67, K_68, K_69, K_70, K_71, K_72, K_73, K_122, K_123, K_124, K_125, K_126, K_127, K_128, K_129, K_130, K_131, K_132, K_133, K_134, K_135, K_136, K_137, K_138, K_139, K_140, K_141, K_142, K_143, K_144, K_145, K_146, K_147, K_148, K_149, K_150, K_151, K_152, K_153, K_154, K_155, K_156, K_157, K_158, K_159, K_160, K_161, R_2_0, R_2_1, R_2_2, R_2_3, R_2_4, R_2_5, R_2_6, R_2_7, R_4_0, R_4_1, R_4_2, R_23_0, R_23_1, R_23_2, R_58_0, R_58_1, R_58_2, R_58_3, R_58_4, R_64_0, R_66_0, R_68_0, R_68_1, R_68_2, R_68_3, R_72_0, R_122_0, R_122_1, R_122_2, R_122_3, R_122_4, R_122_5, R_122_6, R_122_7, R_122_8, R_122_9, R_122_10, R_122_11, R_122_12, R_122_13, R_122_14, R_122_15, R_122_16, R_122_17, R_122_19, R_122_20, R_122_21, R_122_22, R_122_23, R_122_24, R_122_25, R_122_26, R_122_27, R_122_28, R_122_29, R_122_30, R_122_31, R_122_33, R_122_34, R_122_35, R_122_36, R_122_37, R_122_39, R_122_41, true_and, and_true, eB, decide_true, decide_false, Bool.or_true, Bool.true_or, not_true_eq_false, not_false_eq_true, ht, hi]
  exact r_ret (RF_w (RF_w (RF_w h (by unfold aSc; omega)) (by unfold aSc; omega)) (by unfold aSc; omega))
/-- an int that is a value -/
def aV (v : Int32) : Prop := ∃ n, n < 1000 ∧ v = Int32.ofNat n
theorem aV_nt (h : aV v) : v = Int32.ofNat (aNt v) ∧ aNt v < 1000 := by
  obtain ⟨n, h1, h2⟩ := h
  unfold aNt
  rw [h2, i_tn (by omega)]
  exact ⟨rfl, h1⟩
theorem rs_gives {w : Nat} (hl : l < 16) (hc : c < 4) (hw : w < 4) (hv : aV (a.1 123 l)) (hq : (a.2 (10 + c)).length < 128) (h : RF I0 I a) :
    rOk (f_X12_gives 122 (Int32.ofNat l) (Int32.ofNat c) (Int32.ofNat w) (I, J)) I0 J () (aGives a l c w) := by
  have ht : (Int32.ofNat l).toNatClampNeg = l := i_tn (by omega)
  have hi : eix (Int32.ofNat l) 16 = true := i_ix hl (by decide)
  have e1 : I 123 l = Int32.ofNat (aNt (a.1 123 l)) := (R_get h (by unfold aSc; omega)).trans (aV_nt hv).1
  unfold f_X12_gives aGives
  simp only [eLet, Option.bind_some, ↓reduceIte, K_2, K_3, K_4, K_5, K_21, K_22, K_23, K_24, K_57, K_58, K_59, K_60, K_61, K_62, K_63, K_64, K_65, K_66, K_67, K_68, K_69, K_70, K_71, K_72, K_73, K_122, K_123, K_124, K_125, K_126, K_127, K_128, K_129, K_130, K_131, K_132, K_133, K_134, K_135, K_136, K_137, K_138, K_139, K_140, K_141, K_142, K_143, K_144, K_145, K_146, K_147, K_148, K_149, K_150, K_151, K_152, K_153, K_154, K_155, K_156, K_157, K_158, K_159, K_160, K_161, R_2_0, R_2_1, R_2_2, R_2_3, R_2_4, R_2_5, R_2_6, R_2_7, R_4_0, R_4_1, R_4_2, R_23_0, R_23_1, R_23_2, R_58_0, R_58_1, R_58_2, R_58_3, R_58_4, R_64_0, R_66_0, R_68_0, R_68_1, R_68_2, R_68_3, R_72_0, R_122_0, R_122_1, R_122_2, R_122_3, R_122_4, R_122_5, R_122_6, R_122_7, R_122_8, R_122_9, R_122_10, R_122_11, R_122_12, R_122_13, R_122_14, R_122_15, R_122_16, R_122_17, R_122_19, R_122_20, R_122_21, R_122_22, R_122_23, R_122_24, R_122_25, R_122_26, R_122_27, R_122_28, R_122_29, R_122_30, R_122_31, R_122_33, R_122_34, R_122_35, R_122_36, R_122_37, R_122_39, R_122_41, true_and, and_true, eB, decide_true, decide_false, Bool.or_true, Bool.true_or, not_true_eq_false, not_false_eq_true, ht, hi, e1]
  refine r_bind (rs_sends (w := 2) (z := c) (k := 6) (by decide) (by omega) hl (by decide) (by omega) (aV_nt hv).2 h hq) (fun I1 h1 => ?_)
  exact r_ret h1
end EPT
