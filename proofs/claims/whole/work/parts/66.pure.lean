/-! the reference's calls: end, deliver, pump -/
section EPT
variable {I I0 : Nat → Nat → Int32} {J : Nat → Nat → Int64} {a b : aS} {r i l q c k n p : Nat} {v t x y : Int32} {m : aM}
/-- what a transaction stores are values -/
def sF (a : aS) (c : Nat) : Prop := ∀ l, l < 16 → aBit (a.1 149 c) l = true → aV (a.1 150 (16 * c + l))
theorem aChg_at {p' : Nat} (h : ¬ a.1 136 (4 * c + p) = 0) : aAt (aChg a (4 * c + p) v) c l p' = aAt a c l p' := by
  unfold aAt
  rw [aChg_136, aChg_1 (r := 135) (by decide) (by decide) (by decide) (by decide)]
  by_cases g : p' = p
  · subst g
    rw [up_eq]
    have : (3 : Int32) = 0 ↔ False := by decide
    simp [h]
  · rw [up_k (by omega)]
theorem aChg_pl (h : ¬ a.1 136 (4 * c + p) = 0) : aPl (aChg a (4 * c + p) v) c l = aPl a c l := by
  unfold aPl
  rw [aChg_at h, aChg_at h, aChg_at h, aChg_at h]
theorem cF_chg (hv : aV v) (hp : p < 4) (h : ¬ a.1 136 (4 * c + p) = 0) (hF : cF a c) : cF (aChg a (4 * c + p) v) c := by
  refine cF_sub hF (fun p' hp' => ?_)
  rw [aChg_136, aChg_137, aChg_1 (r := 135) (by decide) (by decide) (by decide) (by decide)]
  by_cases g : p' = p
  · subst g
    rw [up_eq, up_eq]
    exact ⟨Or.inr (Or.inr (Or.inr (Or.inl rfl))), fun _ => ⟨h, rfl⟩, fun _ => hv⟩
  · rw [up_k (by omega), up_k (by omega)]
    exact ⟨(hF.1 p' hp').1, fun q => ⟨q, rfl⟩, (hF.1 p' hp').2.2⟩
theorem aOwd_chg (h : ¬ a.1 136 (4 * c + p) = 0) (g : aOwd a c l = true) : aOwd (aChg a (4 * c + p) v) c l = true := by
  unfold aOwd aStAt at g ⊢
  rw [aChg_pl h, aChg_136, aChg_1 (r := 149) (by decide) (by decide) (by decide) (by decide)]
  cases q : aBit (a.1 149 c) l with
  | false => rfl
  | true =>
    rw [q] at g
    cases hp : aPl a c l with
    | none => rw [hp] at g; exact g
    | some p' =>
      rw [hp] at g
      dsimp only at g ⊢
      by_cases e : p' = p
      · subst e
        rw [up_eq]
        rfl
      · rw [up_k (by omega)]
        exact g
theorem own_pl (g : aOwn (aStAt a c l) = true) : ∃ p, aPl a c l = some p ∧ aOwn (a.1 136 (4 * c + p)) = true := by
  unfold aStAt at g
  cases hp : aPl a c l with
  | none =>
    rw [hp] at g
    have g : aOwn 0 = true := g
    exact absurd g (by decide)
  | some p => rw [hp] at g; exact ⟨p, rfl, g⟩
theorem rs_enW (hc : c < 4) : ∀ d k N b I, k + d = 16 → 5 * d + 1 ≤ N → cF b c → sF b c → (∀ l, l < 16 → aOwd b c l = true) → RF I0 I b →
    rOk (f_X12_end_L120 N (.inl (122, Int32.ofNat c, 1, Int32.ofNat k)) (I, J)) I0 J 1 (aC (aW (aEnW b c d k) 145 c 0) 7) := by
  intro d
  have ht : (Int32.ofNat c).toNatClampNeg = c := i_tn (by omega)
  have hi : eix (Int32.ofNat c) 4 = true := i_ix hc (by decide)
  have h10 : ¬ (1 : Int32) = 0 := by decide
  have j7 : eix (7 : Int32) 10 = true := rfl
  have d7 : (7 : Int32).toNatClampNeg = 7 := rfl
  induction d with
  | zero =>
    intro k N b I h1 h2 hF hS hO h
    obtain ⟨N, rfl⟩ := Nat.exists_eq_add_of_le h2
    have : k = 16 := by omega
    subst this
    rw [show 5 * 0 + 1 + N = N + 1 by omega, f_X12_end_L120]
    have g1 : ((16 : Int32) ≤ Int32.ofNat 16) = True := eq_true (by decide)
    simp only [g1, h10, eLet, Option.bind_some, ↓reduceIte, K_2, K_3, K_4, K_5, K_21, K_22, K_23, K_24, K_57, K_58, K_59, K_60, K_61, K_62, K_63, K_64, K_65, K_66, K_67, K_68, K_69, K_70, K_71, K_72, K_73, K_122, K_123, K_124, K_125, K_126, K_127, K_128, K_129, K_130, K_131, K_132, K_133, K_134, K_135, K_136, K_137, K_138, K_139, K_140, K_141, K_142, K_143, K_144, K_145, K_146, K_147, K_148, K_149, K_150, K_151, K_152, K_153, K_154, K_155, K_156, K_157, K_158, K_159, K_160, K_161, R_2_0, R_2_1, R_2_2, R_2_3, R_2_4, R_2_5, R_2_6, R_2_7, R_4_0, R_4_1, R_4_2, R_23_0, R_23_1, R_23_2, R_58_0, R_58_1, R_58_2, R_58_3, R_58_4, R_64_0, R_66_0, R_68_0, R_68_1, R_68_2, R_68_3, R_72_0, R_122_0, R_122_1, R_122_2, R_122_3, R_122_4, R_122_5, R_122_6, R_122_7, R_122_8, R_122_9, R_122_10, R_122_11, R_122_12, R_122_13, R_122_14, R_122_15, R_122_16, R_122_17, R_122_19, R_122_20, R_122_21, R_122_22, R_122_23, R_122_24, R_122_25, R_122_26, R_122_27, R_122_28, R_122_29, R_122_30, R_122_31, R_122_33, R_122_34, R_122_35, R_122_36, R_122_37, R_122_39, R_122_41, true_and, and_true, eB, decide_true, decide_false, Bool.or_true, Bool.true_or, not_true_eq_false, not_false_eq_true, ht, hi, j7, d7]
    exact r_ret (RF_c1 (RF_w h (by unfold aSc; omega)))
  | succ d ih =>
    intro k N b I h1 h2 hF hS hO h
    obtain ⟨N, rfl⟩ := Nat.exists_eq_add_of_le h2
    rw [show 5 * (d + 1) + 1 + N = 5 * d + N + 5 + 1 by omega, f_X12_end_L120]
    have g1 : ((16 : Int32) ≤ Int32.ofNat k) = False := (i_le (n := 16) (by decide) (by omega)).trans (eq_false (by omega))
    have e1 : I 149 c = b.1 149 c := R_get h (by unfold aSc; omega)
    simp only [g1, eLet, Option.bind_some, ↓reduceIte, K_2, K_3, K_4, K_5, K_21, K_22, K_23, K_24, K_57, K_58, K_59, K_60, K_61, K_62, K_63, K_64, K_65, K_66, K_67, K_68, K_69, K_70, K_71, K_72, K_73, K_122, K_123, K_124, K_125, K_126, K_127, K_128, K_129, K_130, K_131, K_132, K_133, K_134, K_135, K_136, K_137, K_138, K_139, K_140, K_141, K_142, K_143, K_144, K_145, K_146, K_147, K_148, K_149, K_150, K_151, K_152, K_153, K_154, K_155, K_156, K_157, K_158, K_159, K_160, K_161, R_2_0, R_2_1, R_2_2, R_2_3, R_2_4, R_2_5, R_2_6, R_2_7, R_4_0, R_4_1, R_4_2, R_23_0, R_23_1, R_23_2, R_58_0, R_58_1, R_58_2, R_58_3, R_58_4, R_64_0, R_66_0, R_68_0, R_68_1, R_68_2, R_68_3, R_72_0, R_122_0, R_122_1, R_122_2, R_122_3, R_122_4, R_122_5, R_122_6, R_122_7, R_122_8, R_122_9, R_122_10, R_122_11, R_122_12, R_122_13, R_122_14, R_122_15, R_122_16, R_122_17, R_122_19, R_122_20, R_122_21, R_122_22, R_122_23, R_122_24, R_122_25, R_122_26, R_122_27, R_122_28, R_122_29, R_122_30, R_122_31, R_122_33, R_122_34, R_122_35, R_122_36, R_122_37, R_122_39, R_122_41, true_and, and_true, eB, decide_true, decide_false, Bool.or_true, Bool.true_or, not_true_eq_false, not_false_eq_true, ht, hi, e1]
    unfold aEnW
    by_cases q : aBit (b.1 149 c) k = true
    · have hO1 := hO k (by omega)
      unfold aOwd at hO1
      rw [q] at hO1
      obtain ⟨p, hp, hpo⟩ := own_pl hO1
      have hp4 := aPl_lt hp
      have hne := (aAt_iff.1 hp4.2).1
      have g2 : eix (Int32.ofNat (16 * c + k)) 64 = true := i_ix (by omega) (by decide)
      have g3 : (Int32.ofNat (16 * c + k)).toNatClampNeg = 16 * c + k := i_tn (by omega)
      have e2 : I 150 (16 * c + k) = b.1 150 (16 * c + k) := R_get h (by unfold aSc; omega)
      simp only [q, aBit_t q, not_true_eq_false, ↓reduceIte, hp]
      rw [f_X12_end_L120]
      simp only [h10, eLet, Option.bind_some, ↓reduceIte, K_2, K_3, K_4, K_5, K_21, K_22, K_23, K_24, K_57, K_58, K_59, K_60, K_61, K_62, K_63, K_64, K_65, K_66, K_67, K_68, K_69, K_70, K_71, K_72, K_73, K_122, K_123, K_124, K_125, K_126, K_127, K_128, K_129, K_130, K_131, K_132, K_133, K_134, K_135, K_136, K_137, K_138, K_139, K_140, K_141, K_142, K_143, K_144, K_145, K_146, K_147, K_148, K_149, K_150, K_151, K_152, K_153, K_154, K_155, K_156, K_157, K_158, K_159, K_160, K_161, R_2_0, R_2_1, R_2_2, R_2_3, R_2_4, R_2_5, R_2_6, R_2_7, R_4_0, R_4_1, R_4_2, R_23_0, R_23_1, R_23_2, R_58_0, R_58_1, R_58_2, R_58_3, R_58_4, R_64_0, R_66_0, R_68_0, R_68_1, R_68_2, R_68_3, R_72_0, R_122_0, R_122_1, R_122_2, R_122_3, R_122_4, R_122_5, R_122_6, R_122_7, R_122_8, R_122_9, R_122_10, R_122_11, R_122_12, R_122_13, R_122_14, R_122_15, R_122_16, R_122_17, R_122_19, R_122_20, R_122_21, R_122_22, R_122_23, R_122_24, R_122_25, R_122_26, R_122_27, R_122_28, R_122_29, R_122_30, R_122_31, R_122_33, R_122_34, R_122_35, R_122_36, R_122_37, R_122_39, R_122_41, true_and, and_true, eB, decide_true, decide_false, Bool.or_true, Bool.true_or, not_true_eq_false, not_false_eq_true, rs_place hc hF.2 h, hp, oI, m16, i_ad, g2, g3, e2]
      refine r_bind (rs_changes (by omega) h) (fun I1 h1 => ?_)
      dsimp only
      rw [f_X12_end_L120, p1]
      have hV := hS k (by omega) q
      refine ih (k + 1) _ _ I1 (by omega) (by omega) (cF_chg hV hp4.1 hne hF) (fun l hl g => ?_) (fun l hl => aOwd_chg hne (hO l hl)) h1
      rw [aChg_1 (r := 149) (by decide) (by decide) (by decide) (by decide)] at g
      rw [aChg_1 (r := 150) (by decide) (by decide) (by decide) (by decide)]
      exact hS l hl g
    · simp only [q, aBit_f q, not_false_eq_true, ↓reduceIte, Bool.false_eq_true]
      rw [f_X12_end_L120]
      simp only [↓reduceIte]
      rw [f_X12_end_L120]
      simp only [↓reduceIte]
      rw [f_X12_end_L120, p1]
      exact ih (k + 1) _ b I (by omega) (by omega) hF hS hO h
theorem rs_enA (hc : c < 4) : ∀ d k N b I, k + d = 16 → 7 * d + 1 ≤ N → cF b c → (b.2 4).length + 2 * d < 126 → RF I0 I b →
    rOk (f_X12_end_L120 N (.inl (122, Int32.ofNat c, 0, Int32.ofNat k)) (I, J)) I0 J (-1) (aEnA b c d k) := by
  intro d
  have ht : (Int32.ofNat c).toNatClampNeg = c := i_tn (by omega)
  have hi : eix (Int32.ofNat c) 4 = true := i_ix hc (by decide)
  have h10 : ¬ (1 : Int32) = 0 := by decide
  induction d with
  | zero =>
    intro k N b I h1 h2 hF hq h
    obtain ⟨N, rfl⟩ := Nat.exists_eq_add_of_le h2
    have : k = 16 := by omega
    subst this
    rw [show 7 * 0 + 1 + N = N + 1 by omega, f_X12_end_L120]
    have g1 : ((16 : Int32) ≤ Int32.ofNat 16) = True := eq_true (by decide)
    simp only [g1, not_true_eq_false, ↓reduceIte]
    exact r_ret h
  | succ d ih =>
    intro k N b I h1 h2 hF hq h
    obtain ⟨N, rfl⟩ := Nat.exists_eq_add_of_le h2
    rw [show 7 * (d + 1) + 1 + N = 7 * d + N + 7 + 1 by omega, f_X12_end_L120]
    have g1 : ((16 : Int32) ≤ Int32.ofNat k) = False := (i_le (n := 16) (by decide) (by omega)).trans (eq_false (by omega))
    have e1 : I 149 c = b.1 149 c := R_get h (by unfold aSc; omega)
    simp only [g1, eLet, Option.bind_some, ↓reduceIte, K_2, K_3, K_4, K_5, K_21, K_22, K_23, K_24, K_57, K_58, K_59, K_60, K_61, K_62, K_63, K_64, K_65, K_66, K_67, K_68, K_69, K_70, K_71, K_72, K_73, K_122, K_123, K_124, K_125, K_126, K_127, K_128, K_129, K_130, K_131, K_132, K_133, K_134, K_135, K_136, K_137, K_138, K_139, K_140, K_141, K_142, K_143, K_144, K_145, K_146, K_147, K_148, K_149, K_150, K_151, K_152, K_153, K_154, K_155, K_156, K_157, K_158, K_159, K_160, K_161, R_2_0, R_2_1, R_2_2, R_2_3, R_2_4, R_2_5, R_2_6, R_2_7, R_4_0, R_4_1, R_4_2, R_23_0, R_23_1, R_23_2, R_58_0, R_58_1, R_58_2, R_58_3, R_58_4, R_64_0, R_66_0, R_68_0, R_68_1, R_68_2, R_68_3, R_72_0, R_122_0, R_122_1, R_122_2, R_122_3, R_122_4, R_122_5, R_122_6, R_122_7, R_122_8, R_122_9, R_122_10, R_122_11, R_122_12, R_122_13, R_122_14, R_122_15, R_122_16, R_122_17, R_122_19, R_122_20, R_122_21, R_122_22, R_122_23, R_122_24, R_122_25, R_122_26, R_122_27, R_122_28, R_122_29, R_122_30, R_122_31, R_122_33, R_122_34, R_122_35, R_122_36, R_122_37, R_122_39, R_122_41, true_and, and_true, eB, decide_true, decide_false, Bool.or_true, Bool.true_or, not_true_eq_false, not_false_eq_true, ht, hi, e1]
    unfold aEnA aOwd
    by_cases q : aBit (b.1 149 c) k = true
    · simp only [q, aBit_t q, not_true_eq_false, ↓reduceIte, Bool.not_true, Bool.false_or]
      rw [f_X12_end_L120]
      simp only [h10, ↓reduceIte]
      rw [f_X12_end_L120]
      simp only [h10, ↓reduceIte, K_2, K_3, K_4, K_5, K_21, K_22, K_23, K_24, K_57, K_58, K_59, K_60, K_61, K_62, K_63, K_64, K_65, K_66, K_67, K_68, K_69, K_70, K_71, K_72, K_73, K_122, K_123, K_124, K_125, K_126, K_127, K_128, K_129, K_130, K_131, K_132, K_133, K_134, K_135, K_136, K_137, K_138, K_139, K_140, K_141, K_142, K_143, K_144, K_145, K_146, K_147, K_148, K_149, K_150, K_151, K_152, K_153, K_154, K_155, K_156, K_157, K_158, K_159, K_160, K_161, R_2_0, R_2_1, R_2_2, R_2_3, R_2_4, R_2_5, R_2_6, R_2_7, R_4_0, R_4_1, R_4_2, R_23_0, R_23_1, R_23_2, R_58_0, R_58_1, R_58_2, R_58_3, R_58_4, R_64_0, R_66_0, R_68_0, R_68_1, R_68_2, R_68_3, R_72_0, R_122_0, R_122_1, R_122_2, R_122_3, R_122_4, R_122_5, R_122_6, R_122_7, R_122_8, R_122_9, R_122_10, R_122_11, R_122_12, R_122_13, R_122_14, R_122_15, R_122_16, R_122_17, R_122_19, R_122_20, R_122_21, R_122_22, R_122_23, R_122_24, R_122_25, R_122_26, R_122_27, R_122_28, R_122_29, R_122_30, R_122_31, R_122_33, R_122_34, R_122_35, R_122_36, R_122_37, R_122_39, R_122_41, rs_stateAt hc hF h, Option.bind_some, rs_owned]
      by_cases q2 : aOwn (aStAt b c k) = true
      · simp only [q2, ↓reduceIte, h10, not_false_eq_true]
        rw [f_X12_end_L120, p1]
        exact ih (k + 1) _ b I (by omega) (by omega) hF (by omega) h
      · simp only [q2, ↓reduceIte, Bool.false_eq_true, not_true_eq_false]
        refine r_bind (rs_asks (w := true) hc (by omega) hF (by omega) h) (fun I1 h1 => ?_)
        simp only [Bool.true_eq_false, and_false, ↓reduceIte]
        rw [f_X12_end_L120, f_X12_end_L120, f_X12_end_L120, p1]
        have := @aAsk_len b k 4 c true
        exact ih (k + 1) _ _ I1 (by omega) (by omega) (cF_ask (by omega) hF) (by omega) h1
    · simp only [q, aBit_f q, not_false_eq_true, ↓reduceIte, Bool.false_eq_true, Bool.not_false, Bool.true_or]
      rw [f_X12_end_L120]
      simp only [↓reduceIte]
      rw [f_X12_end_L120]
      simp only [↓reduceIte]
      rw [f_X12_end_L120, p1]
      exact ih (k + 1) _ b I (by omega) (by omega) hF (by omega) h
theorem aAreN_all : ∀ d k s, aAreN a c d k s = true → s = true ∧ ∀ l, k ≤ l → l < k + d → aOwd a c l = true := by
  intro d
  induction d with
  | zero => intro k s h; exact ⟨h, fun l h1 h2 => by omega⟩
  | succ d ih =>
    intro k s h
    unfold aAreN at h
    obtain ⟨h1, h2⟩ := ih _ _ h
    rw [Bool.and_eq_true] at h1
    refine ⟨h1.1, fun l g1 g2 => ?_⟩
    by_cases e : l = k
    · rw [e]
      exact h1.2
    · exact h2 l (by omega) (by omega)
set_option maxRecDepth 20000 in
theorem rs_end (hc : c < 4) (hF : cF a c) (hS : sF a c) (hq : (a.2 4).length < 90) (h : RepR I a) :
    rOp (f_X12_end 122 (Int32.ofNat c) (I, J)) I J (aEnd a c) := by
  have ht : (Int32.ofNat c).toNatClampNeg = c := i_tn (by omega)
  have hi : eix (Int32.ofNat c) 4 = true := i_ix hc (by decide)
  have h10 : ¬ (1 : Int32) = 0 := by decide
  have j8 : eix (8 : Int32) 10 = true := rfl
  have d8 : (8 : Int32).toNatClampNeg = 8 := rfl
  have h0 : RF (eup I 122 32 0) (eup I 122 32 0) a := RF_th h
  have e1 : eup I 122 32 0 145 c = a.1 145 c := R_get h0 (by unfold aSc; omega)
  have e2 : eup I 122 32 0 146 c = a.1 146 c := R_get h0 (by unfold aSc; omega)
  have e3 : eup (eup I 122 32 0) 145 c 0 147 c = a.1 147 c := by
    rw [up_r (by decide)]
    exact R_get h0 (by unfold aSc; omega)
  unfold f_X12_end aEnd
  simp only [rs_isCore hc, Option.bind_some, eLet, Option.bind_some, ↓reduceIte, K_2, K_3, K_4, K_5, K_21, K_22, K_23, K_24, K_57, K_58, K_59, K_60, K_61, K_62, K_63, K_64, K_65, K_66, K_67, K_68, K_69, K_70, K_71, K_72, K_73, K_122, K_123, K_124, K_125, K_126, K_127, K_128, K_129, K_130, K_131, K_132, K_133, K_134, K_135, K_136, K_137, K_138, K_139, K_140, K_141, K_142, K_143, K_144, K_145, K_146, K_147, K_148, K_149, K_150, K_151, K_152, K_153, K_154, K_155, K_156, K_157, K_158, K_159, K_160, K_161, R_2_0, R_2_1, R_2_2, R_2_3, R_2_4, R_2_5, R_2_6, R_2_7, R_4_0, R_4_1, R_4_2, R_23_0, R_23_1, R_23_2, R_58_0, R_58_1, R_58_2, R_58_3, R_58_4, R_64_0, R_66_0, R_68_0, R_68_1, R_68_2, R_68_3, R_72_0, R_122_0, R_122_1, R_122_2, R_122_3, R_122_4, R_122_5, R_122_6, R_122_7, R_122_8, R_122_9, R_122_10, R_122_11, R_122_12, R_122_13, R_122_14, R_122_15, R_122_16, R_122_17, R_122_19, R_122_20, R_122_21, R_122_22, R_122_23, R_122_24, R_122_25, R_122_26, R_122_27, R_122_28, R_122_29, R_122_30, R_122_31, R_122_33, R_122_34, R_122_35, R_122_36, R_122_37, R_122_39, R_122_41, true_and, and_true, eB, decide_true, decide_false, Bool.or_true, Bool.true_or, not_true_eq_false, not_false_eq_true]
  simp only [rs_asks1, Option.bind_some, h10, ht, hi, ↓reduceIte, not_false_eq_true, e1, e2, rs_fails, e3, j8, d8]
  by_cases q1 : a.1 145 c = 0
  · simp only [q1, not_true_eq_false, ↓reduceIte]
    exact rOp_fail h
  · by_cases q2 : a.1 146 c = 0
    · simp only [q1, q2, not_false_eq_true, ↓reduceIte]
      have := rs_are (J := J) hc hF h0 16 0 1000000 true (by decide) (by decide)
      simp only [↓reduceIte] at this
      have this : f_X12_end_L71 1000000 (.inl (122, Int32.ofNat c, 1, 0)) (eup I 122 32 0, J) = f_X12_end_L120 1000000 (.inl (122, Int32.ofNat c, if aAre a c = true then 1 else 0, 0)) (eup I 122 32 0, J) := this
      rw [this]
      by_cases q3 : aAre a c = true
      · rw [if_pos q3, if_pos q3]
        refine rOp_of (rs_enW hc 16 0 _ a _ (by decide) (by decide) hF hS (fun l hl => ?_) h0)
        exact (aAreN_all 16 0 true q3).2 l (by omega) (by omega)
      · rw [if_neg q3, if_neg q3]
        exact rOp_of (rs_enA hc 16 0 _ a _ (by decide) (by decide) hF (by omega) h0)
    · simp only [q1, q2, not_false_eq_true, ↓reduceIte]
      exact rOp_of (r_ret (RF_c1 (RF_w (RF_w h0 (by unfold aSc; omega)) (by unfold aSc; omega))))
theorem rs_endN (hb : x < 0 ∨ 4 ≤ x) (h : RepR I a) : rOp (f_X12_end 122 x (I, J)) I J (1, 0, a) := by
  unfold f_X12_end
  simp only [rs_isCoreN hb, Option.bind_some, eLet, Option.bind_some, ↓reduceIte, K_2, K_3, K_4, K_5, K_21, K_22, K_23, K_24, K_57, K_58, K_59, K_60, K_61, K_62, K_63, K_64, K_65, K_66, K_67, K_68, K_69, K_70, K_71, K_72, K_73, K_122, K_123, K_124, K_125, K_126, K_127, K_128, K_129, K_130, K_131, K_132, K_133, K_134, K_135, K_136, K_137, K_138, K_139, K_140, K_141, K_142, K_143, K_144, K_145, K_146, K_147, K_148, K_149, K_150, K_151, K_152, K_153, K_154, K_155, K_156, K_157, K_158, K_159, K_160, K_161, R_2_0, R_2_1, R_2_2, R_2_3, R_2_4, R_2_5, R_2_6, R_2_7, R_4_0, R_4_1, R_4_2, R_23_0, R_23_1, R_23_2, R_58_0, R_58_1, R_58_2, R_58_3, R_58_4, R_64_0, R_66_0, R_68_0, R_68_1, R_68_2, R_68_3, R_72_0, R_122_0, R_122_1, R_122_2, R_122_3, R_122_4, R_122_5, R_122_6, R_122_7, R_122_8, R_122_9, R_122_10, R_122_11, R_122_12, R_122_13, R_122_14, R_122_15, R_122_16, R_122_17, R_122_19, R_122_20, R_122_21, R_122_22, R_122_23, R_122_24, R_122_25, R_122_26, R_122_27, R_122_28, R_122_29, R_122_30, R_122_31, R_122_33, R_122_34, R_122_35, R_122_36, R_122_37, R_122_39, R_122_41, true_and, and_true, eB, decide_true, decide_false, Bool.or_true, Bool.true_or, not_true_eq_false, not_false_eq_true]
  simp only [rs_asks0, Option.bind_some, ↓reduceIte, not_true_eq_false]
  exact rOp_of (r_ret (RF_th h))
theorem rs_isQ {w z : Nat} (hw : w < 3) (hz : z < 5) : f_X12_isQueue 122 (Int32.ofNat w) (Int32.ofNat z) (I, J) = some (1, (eup I 122 32 0, J)) := by
  have g0 : (Int32.ofNat z < 0) = False := i_lt0 (by omega)
  have g1 : (Int32.ofNat z ≤ 4) = True := eq_true ((i_le (m := 4) (by omega) (by decide)).mpr (by omega))
  have g2 : (Int32.ofNat w < 0) = False := i_lt0 (by omega)
  have g3 : (Int32.ofNat w ≤ 2) = True := eq_true ((i_le (m := 2) (by omega) (by decide)).mpr (by omega))
  unfold f_X12_isQueue f_X12_isQueue_28 f_X12_isQueue_43
  simp only [g0, g1, g2, g3, eLet, Option.bind_some, ↓reduceIte, K_2, K_3, K_4, K_5, K_21, K_22, K_23, K_24, K_57, K_58, K_59, K_60, K_61, K_62, K_63, K_64, K_65, K_66, K_67, K_68, K_69, K_70, K_71, K_72, K_73, K_122, K_123, K_124, K_125, K_126, K_127, K_128, K_129, K_130, K_131, K_132, K_133, K_134, K_135, K_136, K_137, K_138, K_139, K_140, K_141, K_142, K_143, K_144, K_145, K_146, K_147, K_148, K_149, K_150, K_151, K_152, K_153, K_154, K_155, K_156, K_157, K_158, K_159, K_160, K_161, R_2_0, R_2_1, R_2_2, R_2_3, R_2_4, R_2_5, R_2_6, R_2_7, R_4_0, R_4_1, R_4_2, R_23_0, R_23_1, R_23_2, R_58_0, R_58_1, R_58_2, R_58_3, R_58_4, R_64_0, R_66_0, R_68_0, R_68_1, R_68_2, R_68_3, R_72_0, R_122_0, R_122_1, R_122_2, R_122_3, R_122_4, R_122_5, R_122_6, R_122_7, R_122_8, R_122_9, R_122_10, R_122_11, R_122_12, R_122_13, R_122_14, R_122_15, R_122_16, R_122_17, R_122_19, R_122_20, R_122_21, R_122_22, R_122_23, R_122_24, R_122_25, R_122_26, R_122_27, R_122_28, R_122_29, R_122_30, R_122_31, R_122_33, R_122_34, R_122_35, R_122_36, R_122_37, R_122_39, R_122_41, true_and, and_true, eB, decide_true, decide_false, Bool.or_true, Bool.true_or, not_true_eq_false, not_false_eq_true, up_eq]
theorem rs_isQ1 (h : y < 0 ∨ ¬ y ≤ 4) : f_X12_isQueue 122 x y (I, J) = some (0, (eup I 122 32 1, J)) := by
  have h10 : ¬ (1 : Int32) = 0 := by decide
  unfold f_X12_isQueue f_X12_isQueue_10 f_X12_isQueue_28 f_X12_isQueue_43
  by_cases g : y < 0
  · simp only [g, eLet, Option.bind_some, ↓reduceIte, K_2, K_3, K_4, K_5, K_21, K_22, K_23, K_24, K_57, K_58, K_59, K_60, K_61, K_62, K_63, K_64, K_65, K_66, K_67, K_68, K_69, K_70, K_71, K_72, K_73, K_122, K_123, K_124, K_125, K_126, K_127, K_128, K_129, K_130, K_131, K_132, K_133, K_134, K_135, K_136, K_137, K_138, K_139, K_140, K_141, K_142, K_143, K_144, K_145, K_146, K_147, K_148, K_149, K_150, K_151, K_152, K_153, K_154, K_155, K_156, K_157, K_158, K_159, K_160, K_161, R_2_0, R_2_1, R_2_2, R_2_3, R_2_4, R_2_5, R_2_6, R_2_7, R_4_0, R_4_1, R_4_2, R_23_0, R_23_1, R_23_2, R_58_0, R_58_1, R_58_2, R_58_3, R_58_4, R_64_0, R_66_0, R_68_0, R_68_1, R_68_2, R_68_3, R_72_0, R_122_0, R_122_1, R_122_2, R_122_3, R_122_4, R_122_5, R_122_6, R_122_7, R_122_8, R_122_9, R_122_10, R_122_11, R_122_12, R_122_13, R_122_14, R_122_15, R_122_16, R_122_17, R_122_19, R_122_20, R_122_21, R_122_22, R_122_23, R_122_24, R_122_25, R_122_26, R_122_27, R_122_28, R_122_29, R_122_30, R_122_31, R_122_33, R_122_34, R_122_35, R_122_36, R_122_37, R_122_39, R_122_41, true_and, and_true, eB, decide_true, decide_false, Bool.or_true, Bool.true_or, not_true_eq_false, not_false_eq_true, up_eq, h10]
  · simp only [g, h.resolve_left g, eLet, Option.bind_some, ↓reduceIte, K_2, K_3, K_4, K_5, K_21, K_22, K_23, K_24, K_57, K_58, K_59, K_60, K_61, K_62, K_63, K_64, K_65, K_66, K_67, K_68, K_69, K_70, K_71, K_72, K_73, K_122, K_123, K_124, K_125, K_126, K_127, K_128, K_129, K_130, K_131, K_132, K_133, K_134, K_135, K_136, K_137, K_138, K_139, K_140, K_141, K_142, K_143, K_144, K_145, K_146, K_147, K_148, K_149, K_150, K_151, K_152, K_153, K_154, K_155, K_156, K_157, K_158, K_159, K_160, K_161, R_2_0, R_2_1, R_2_2, R_2_3, R_2_4, R_2_5, R_2_6, R_2_7, R_4_0, R_4_1, R_4_2, R_23_0, R_23_1, R_23_2, R_58_0, R_58_1, R_58_2, R_58_3, R_58_4, R_64_0, R_66_0, R_68_0, R_68_1, R_68_2, R_68_3, R_72_0, R_122_0, R_122_1, R_122_2, R_122_3, R_122_4, R_122_5, R_122_6, R_122_7, R_122_8, R_122_9, R_122_10, R_122_11, R_122_12, R_122_13, R_122_14, R_122_15, R_122_16, R_122_17, R_122_19, R_122_20, R_122_21, R_122_22, R_122_23, R_122_24, R_122_25, R_122_26, R_122_27, R_122_28, R_122_29, R_122_30, R_122_31, R_122_33, R_122_34, R_122_35, R_122_36, R_122_37, R_122_39, R_122_41, true_and, and_true, eB, decide_true, decide_false, Bool.or_true, Bool.true_or, not_true_eq_false, not_false_eq_true, up_eq, h10]
theorem rs_isQ2 (h0 : ¬ y < 0) (h1 : y ≤ 4) (h : x < 0 ∨ ¬ x ≤ 2) : f_X12_isQueue 122 x y (I, J) = some (0, (eup I 122 32 2, J)) := by
  have h10 : ¬ (2 : Int32) = 0 := by decide
  unfold f_X12_isQueue f_X12_isQueue_23 f_X12_isQueue_28 f_X12_isQueue_43
  by_cases g : x < 0
  · simp only [h0, h1, g, eLet, Option.bind_some, ↓reduceIte, K_2, K_3, K_4, K_5, K_21, K_22, K_23, K_24, K_57, K_58, K_59, K_60, K_61, K_62, K_63, K_64, K_65, K_66, K_67, K_68, K_69, K_70, K_71, K_72, K_73, K_122, K_123, K_124, K_125, K_126, K_127, K_128, K_129, K_130, K_131, K_132, K_133, K_134, K_135, K_136, K_137, K_138, K_139, K_140, K_141, K_142, K_143, K_144, K_145, K_146, K_147, K_148, K_149, K_150, K_151, K_152, K_153, K_154, K_155, K_156, K_157, K_158, K_159, K_160, K_161, R_2_0, R_2_1, R_2_2, R_2_3, R_2_4, R_2_5, R_2_6, R_2_7, R_4_0, R_4_1, R_4_2, R_23_0, R_23_1, R_23_2, R_58_0, R_58_1, R_58_2, R_58_3, R_58_4, R_64_0, R_66_0, R_68_0, R_68_1, R_68_2, R_68_3, R_72_0, R_122_0, R_122_1, R_122_2, R_122_3, R_122_4, R_122_5, R_122_6, R_122_7, R_122_8, R_122_9, R_122_10, R_122_11, R_122_12, R_122_13, R_122_14, R_122_15, R_122_16, R_122_17, R_122_19, R_122_20, R_122_21, R_122_22, R_122_23, R_122_24, R_122_25, R_122_26, R_122_27, R_122_28, R_122_29, R_122_30, R_122_31, R_122_33, R_122_34, R_122_35, R_122_36, R_122_37, R_122_39, R_122_41, true_and, and_true, eB, decide_true, decide_false, Bool.or_true, Bool.true_or, not_true_eq_false, not_false_eq_true, up_eq, h10]
  · simp only [h0, h1, g, h.resolve_left g, eLet, Option.bind_some, ↓reduceIte, K_2, K_3, K_4, K_5, K_21, K_22, K_23, K_24, K_57, K_58, K_59, K_60, K_61, K_62, K_63, K_64, K_65, K_66, K_67, K_68, K_69, K_70, K_71, K_72, K_73, K_122, K_123, K_124, K_125, K_126, K_127, K_128, K_129, K_130, K_131, K_132, K_133, K_134, K_135, K_136, K_137, K_138, K_139, K_140, K_141, K_142, K_143, K_144, K_145, K_146, K_147, K_148, K_149, K_150, K_151, K_152, K_153, K_154, K_155, K_156, K_157, K_158, K_159, K_160, K_161, R_2_0, R_2_1, R_2_2, R_2_3, R_2_4, R_2_5, R_2_6, R_2_7, R_4_0, R_4_1, R_4_2, R_23_0, R_23_1, R_23_2, R_58_0, R_58_1, R_58_2, R_58_3, R_58_4, R_64_0, R_66_0, R_68_0, R_68_1, R_68_2, R_68_3, R_72_0, R_122_0, R_122_1, R_122_2, R_122_3, R_122_4, R_122_5, R_122_6, R_122_7, R_122_8, R_122_9, R_122_10, R_122_11, R_122_12, R_122_13, R_122_14, R_122_15, R_122_16, R_122_17, R_122_19, R_122_20, R_122_21, R_122_22, R_122_23, R_122_24, R_122_25, R_122_26, R_122_27, R_122_28, R_122_29, R_122_30, R_122_31, R_122_33, R_122_34, R_122_35, R_122_36, R_122_37, R_122_39, R_122_41, true_and, and_true, eB, decide_true, decide_false, Bool.or_true, Bool.true_or, not_true_eq_false, not_false_eq_true, up_eq, h10]
theorem m5 : (5 : Int32) * Int32.ofNat c = Int32.ofNat (5 * c) := i_mu
theorem rs_deliver {w z : Nat} (hw : w < 3) (hz : z < 5) (hD : ∀ m ms, a.2 (5 * w + z) = m :: ms → qD (aL a (5 * w + z) ms) (5 * w + z) m) (hQ : aQ a 70) (h : RepR I a) :
    rOp (f_X12_deliver 122 (Int32.ofNat w) (Int32.ofNat z) (I, J)) I J (match a.2 (5 * w + z) with
      | [] => (3, 0, a)
      | m :: _ => (0, Int32.ofNat m.2.1, aDel a (5 * w + z))) := by
  have h10 : ¬ (1 : Int32) = 0 := by decide
  have h0 : RF (eup I 122 32 0) (eup I 122 32 0) a := RF_th h
  have ht : (Int32.ofNat (5 * w + z)).toNatClampNeg = 5 * w + z := i_tn (by omega)
  have hi : eix (Int32.ofNat (5 * w + z)) 15 = true := i_ix (by omega) (by decide)
  have e1 : eup I 122 32 0 133 (5 * w + z) = Int32.ofNat (a.2 (5 * w + z)).length := (Rng_len (h0.1.2.1 (5 * w + z) (by omega))).1
  have e2 : (a.2 (5 * w + z)).length ≤ 128 := (Rng_len (h0.1.2.1 (5 * w + z) (by omega))).2
  unfold f_X12_deliver f_X12_deliver_38
  simp only [rs_isQ hw hz, Option.bind_some, eLet, Option.bind_some, ↓reduceIte, K_2, K_3, K_4, K_5, K_21, K_22, K_23, K_24, K_57, K_58, K_59, K_60, K_61, K_62, K_63, K_64, K_65, K_66, K_67, K_68, K_69, K_70, K_71, K_72, K_73, K_122, K_123, K_124, K_125, K_126, K_127, K_128, K_129, K_130, K_131, K_132, K_133, K_134, K_135, K_136, K_137, K_138, K_139, K_140, K_141, K_142, K_143, K_144, K_145, K_146, K_147, K_148, K_149, K_150, K_151, K_152, K_153, K_154, K_155, K_156, K_157, K_158, K_159, K_160, K_161, R_2_0, R_2_1, R_2_2, R_2_3, R_2_4, R_2_5, R_2_6, R_2_7, R_4_0, R_4_1, R_4_2, R_23_0, R_23_1, R_23_2, R_58_0, R_58_1, R_58_2, R_58_3, R_58_4, R_64_0, R_66_0, R_68_0, R_68_1, R_68_2, R_68_3, R_72_0, R_122_0, R_122_1, R_122_2, R_122_3, R_122_4, R_122_5, R_122_6, R_122_7, R_122_8, R_122_9, R_122_10, R_122_11, R_122_12, R_122_13, R_122_14, R_122_15, R_122_16, R_122_17, R_122_19, R_122_20, R_122_21, R_122_22, R_122_23, R_122_24, R_122_25, R_122_26, R_122_27, R_122_28, R_122_29, R_122_30, R_122_31, R_122_33, R_122_34, R_122_35, R_122_36, R_122_37, R_122_39, R_122_41, true_and, and_true, eB, decide_true, decide_false, Bool.or_true, Bool.true_or, not_true_eq_false, not_false_eq_true]
  simp only [h10, not_false_eq_true, ↓reduceIte, m5, i_ad, ht, hi, e1, rs_fails, Option.bind_some]
  cases hL : a.2 (5 * w + z) with
  | nil =>
    have : Int32.ofNat ([] : List aM).length = 0 := rfl
    simp only [this, not_true_eq_false, ↓reduceIte]
    exact rOp_fail h
  | cons m ms =>
    rw [hL] at e2
    have : (Int32.ofNat (m :: ms).length = 0) = False := (i_eq (m := 0) (Nat.lt_of_le_of_lt e2 (by decide)) (by decide)).trans (eq_false (Nat.succ_ne_zero _))
    simp only [this, not_false_eq_true, ↓reduceIte]
    exact rOp_of (r_bind (rs_del hw hz hL (hD m ms hL) hQ h0) (fun I1 h1 => r_ret h1))
theorem rs_deliver1 (hb : y < 0 ∨ ¬ y ≤ 4) (h : RepR I a) : rOp (f_X12_deliver 122 x y (I, J)) I J (1, 0, a) := by
  unfold f_X12_deliver
  simp only [rs_isQ1 hb, Option.bind_some, eLet, Option.bind_some, ↓reduceIte, K_2, K_3, K_4, K_5, K_21, K_22, K_23, K_24, K_57, K_58, K_59, K_60, K_61, K_62, K_63, K_64, K_65, K_66, K_67, K_68, K_69, K_70, K_71, K_72, K_73, K_122, K_123, K_124, K_125, K_126, K_127, K_128, K_129, K_130, K_131, K_132, K_133, K_134, K_135, K_136, K_137, K_138, K_139, K_140, K_141, K_142, K_143, K_144, K_145, K_146, K_147, K_148, K_149, K_150, K_151, K_152, K_153, K_154, K_155, K_156, K_157, K_158, K_159, K_160, K_161, R_2_0, R_2_1, R_2_2, R_2_3, R_2_4, R_2_5, R_2_6, R_2_7, R_4_0, R_4_1, R_4_2, R_23_0, R_23_1, R_23_2, R_58_0, R_58_1, R_58_2, R_58_3, R_58_4, R_64_0, R_66_0, R_68_0, R_68_1, R_68_2, R_68_3, R_72_0, R_122_0, R_122_1, R_122_2, R_122_3, R_122_4, R_122_5, R_122_6, R_122_7, R_122_8, R_122_9, R_122_10, R_122_11, R_122_12, R_122_13, R_122_14, R_122_15, R_122_16, R_122_17, R_122_19, R_122_20, R_122_21, R_122_22, R_122_23, R_122_24, R_122_25, R_122_26, R_122_27, R_122_28, R_122_29, R_122_30, R_122_31, R_122_33, R_122_34, R_122_35, R_122_36, R_122_37, R_122_39, R_122_41, true_and, and_true, eB, decide_true, decide_false, Bool.or_true, Bool.true_or, not_true_eq_false, not_false_eq_true]
  exact rOp_of (r_ret (RF_th h))
theorem rs_deliver2 (h0 : ¬ y < 0) (h1 : y ≤ 4) (hb : x < 0 ∨ ¬ x ≤ 2) (h : RepR I a) : rOp (f_X12_deliver 122 x y (I, J)) I J (2, 0, a) := by
  unfold f_X12_deliver
  simp only [rs_isQ2 h0 h1 hb, Option.bind_some, eLet, Option.bind_some, ↓reduceIte, K_2, K_3, K_4, K_5, K_21, K_22, K_23, K_24, K_57, K_58, K_59, K_60, K_61, K_62, K_63, K_64, K_65, K_66, K_67, K_68, K_69, K_70, K_71, K_72, K_73, K_122, K_123, K_124, K_125, K_126, K_127, K_128, K_129, K_130, K_131, K_132, K_133, K_134, K_135, K_136, K_137, K_138, K_139, K_140, K_141, K_142, K_143, K_144, K_145, K_146, K_147, K_148, K_149, K_150, K_151, K_152, K_153, K_154, K_155, K_156, K_157, K_158, K_159, K_160, K_161, R_2_0, R_2_1, R_2_2, R_2_3, R_2_4, R_2_5, R_2_6, R_2_7, R_4_0, R_4_1, R_4_2, R_23_0, R_23_1, R_23_2, R_58_0, R_58_1, R_58_2, R_58_3, R_58_4, R_64_0, R_66_0, R_68_0, R_68_1, R_68_2, R_68_3, R_72_0, R_122_0, R_122_1, R_122_2, R_122_3, R_122_4, R_122_5, R_122_6, R_122_7, R_122_8, R_122_9, R_122_10, R_122_11, R_122_12, R_122_13, R_122_14, R_122_15, R_122_16, R_122_17, R_122_19, R_122_20, R_122_21, R_122_22, R_122_23, R_122_24, R_122_25, R_122_26, R_122_27, R_122_28, R_122_29, R_122_30, R_122_31, R_122_33, R_122_34, R_122_35, R_122_36, R_122_37, R_122_39, R_122_41, true_and, and_true, eB, decide_true, decide_false, Bool.or_true, Bool.true_or, not_true_eq_false, not_false_eq_true]
  exact rOp_of (r_ret (RF_th h))
end EPT
