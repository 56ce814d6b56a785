/-! the reference's calls: pump, and those that only look -/
section EPT
variable {I I0 : Nat → Nat → Int32} {J : Nat → Nat → Int64} {a b : aS} {r i l q c k n p : Nat} {v t x y : Int32} {m : aM}
/-- what keeps on holding while messages are delivered; the number bounds the uses -/
def dOk (P : Nat → aS → Prop) : Prop := (∀ u, u < 400 → ∀ a q m ms, P u a → q < 15 → a.2 q = m :: ms → qD (aL a q ms) q m ∧ aQ a 70 ∧ P (u + 1) (aDel a q)) ∧ ∀ u, u < 400 → ∀ a, P u a → P (u + 1) a
theorem aDel_cons {ms : List aM} (h : a.2 q = m :: ms) : aDel a q = aGot (aL a q ms) q m := by
  unfold aDel
  rw [h]
theorem rs_pm1 {P : Nat → aS → Prop} {s : Nat × aS} {w z u : Nat} {x1 x3 : Int32} (hP : dOk P) (hu : u < 400) (hw : w < 3) (hz : z < 5) (hp : P u s.2) (h : RF I0 I s.2)
    (H : ∀ I1, RF I0 I1 (aPm1 s (5 * w + z)).2 → P (u + 1) (aPm1 s (5 * w + z)).2 →
      rOk (f_X12_pump_L29 n (.inr (.inr (.inl (122, x1, Int32.ofNat (aPm1 s (5 * w + z)).1, x3, Int32.ofNat w, Int32.ofNat (z + 1))))) (I1, J)) I0 J v b) :
    rOk (f_X12_pump_L29 (n + 4) (.inr (.inr (.inl (122, x1, Int32.ofNat s.1, x3, Int32.ofNat w, Int32.ofNat z)))) (I, J)) I0 J v b := by
  have h10 : ¬ (1 : Int32) = 0 := by decide
  have ht : (Int32.ofNat (5 * w + z)).toNatClampNeg = 5 * w + z := i_tn (by omega)
  have hi : eix (Int32.ofNat (5 * w + z)) 15 = true := i_ix (by omega) (by decide)
  have e1 : I 133 (5 * w + z) = Int32.ofNat (s.2.2 (5 * w + z)).length := (Rng_len (h.1.2.1 (5 * w + z) (by omega))).1
  have e2 : (s.2.2 (5 * w + z)).length ≤ 128 := (Rng_len (h.1.2.1 (5 * w + z) (by omega))).2
  have g1 : ((4 : Int32) < Int32.ofNat z) = False := (i_lt (n := 4) (by decide) (by omega)).trans (eq_false (by omega))
  rw [f_X12_pump_L29]
  simp only [g1, eLet, Option.bind_some, ↓reduceIte, K_2, K_3, K_4, K_5, K_21, K_22, K_23, K_24, K_57, K_58, K_59, K_60, K_61, K_62, K_63, K_64, K_65, K_66, K_67, K_68, K_69, K_70, K_71, K_72, K_73, K_122, K_123, K_124, K_125, K_126, K_127, K_128, K_129, K_130, K_131, K_132, K_133, K_134, K_135, K_136, K_137, K_138, K_139, K_140, K_141, K_142, K_143, K_144, K_145, K_146, K_147, K_148, K_149, K_150, K_151, K_152, K_153, K_154, K_155, K_156, K_157, K_158, K_159, K_160, K_161, R_2_0, R_2_1, R_2_2, R_2_3, R_2_4, R_2_5, R_2_6, R_2_7, R_4_0, R_4_1, R_4_2, R_23_0, R_23_1, R_23_2, R_58_0, R_58_1, R_58_2, R_58_3, R_58_4, R_64_0, R_66_0, R_68_0, R_68_1, R_68_2, R_68_3, R_72_0, R_122_0, R_122_1, R_122_2, R_122_3, R_122_4, R_122_5, R_122_6, R_122_7, R_122_8, R_122_9, R_122_10, R_122_11, R_122_12, R_122_13, R_122_14, R_122_15, R_122_16, R_122_17, R_122_19, R_122_20, R_122_21, R_122_22, R_122_23, R_122_24, R_122_25, R_122_26, R_122_27, R_122_28, R_122_29, R_122_30, R_122_31, R_122_33, R_122_34, R_122_35, R_122_36, R_122_37, R_122_39, R_122_41, true_and, and_true, eB, decide_true, decide_false, Bool.or_true, Bool.true_or, not_true_eq_false, not_false_eq_true, m5, i_ad, ht, hi, e1]
  unfold aPm1 at H
  cases hL : s.2.2 (5 * w + z) with
  | nil =>
    rw [hL] at H
    have g2 : (Int32.ofNat ([] : List aM).length ≤ 0) = True := eq_true (by decide)
    simp only [g2, ↓reduceIte]
    rw [f_X12_pump_L29]
    simp only [↓reduceIte]
    rw [f_X12_pump_L29]
    have g3 : ((-1 : Int32) < 0) = True := eq_true (by decide)
    simp only [g3, ↓reduceIte]
    rw [f_X12_pump_L29]
    simp only [eLet, Int32.add_zero, p1]
    exact H I h (hP.2 _ hu _ hp)
  | cons m ms =>
    rw [hL] at H e2
    have g2 : (Int32.ofNat (m :: ms).length ≤ 0) = False := (i_le (m := 0) (Nat.lt_of_le_of_lt e2 (by decide)) (by decide)).trans (eq_false (by simp))
    simp only [g2, ↓reduceIte]
    rw [f_X12_pump_L29]
    simp only [h10, ↓reduceIte, K_122]
    obtain ⟨d1, d2, d3⟩ := hP.1 _ hu _ _ _ _ hp (by omega) hL
    refine r_bind (rs_del hw hz hL d1 d2 h) (fun I1 h1 => ?_)
    dsimp only
    rw [f_X12_pump_L29]
    have hm : m.2.1 < 2147483648 := by have := d1.1.2.1; omega
    simp only [i_lt0 hm, ↓reduceIte]
    rw [f_X12_pump_L29]
    simp only [eLet, p1]
    exact H I1 h1 d3
def aPmW (s : Nat × aS) (w : Nat) : Nat × aS := aPm1 (aPm1 (aPm1 (aPm1 (aPm1 s (5 * w + 0)) (5 * w + 1)) (5 * w + 2)) (5 * w + 3)) (5 * w + 4)
theorem rs_pmW {P : Nat → aS → Prop} {s : Nat × aS} {w u : Nat} {x1 x3 : Int32} (hP : dOk P) (hu : u + 5 ≤ 400) (hw : w < 3) (hp : P u s.2) (h : RF I0 I s.2)
    (H : ∀ I1, RF I0 I1 (aPmW s w).2 → P (u + 5) (aPmW s w).2 →
      rOk (f_X12_pump_L29 n (.inr (.inl (122, x1, Int32.ofNat (aPmW s w).1, x3, Int32.ofNat w + (-1)))) (I1, J)) I0 J v b) :
    rOk (f_X12_pump_L29 (n + 22) (.inr (.inl (122, x1, Int32.ofNat s.1, x3, Int32.ofNat w))) (I, J)) I0 J v b := by
  rw [f_X12_pump_L29]
  simp only [i_lt0 (show w < 2147483648 by omega), ↓reduceIte]
  refine rs_pm1 (z := 0) (n := n + 17) hP (by omega) hw (by decide) hp h (fun I1 h1 p1 => ?_)
  refine rs_pm1 (z := 1) (n := n + 13) hP (by omega) hw (by decide) p1 h1 (fun I1 h1 p1 => ?_)
  refine rs_pm1 (z := 2) (n := n + 9) hP (by omega) hw (by decide) p1 h1 (fun I1 h1 p1 => ?_)
  refine rs_pm1 (z := 3) (n := n + 5) hP (by omega) hw (by decide) p1 h1 (fun I1 h1 p1 => ?_)
  refine rs_pm1 (z := 4) (n := n + 1) hP (by omega) hw (by decide) p1 h1 (fun I1 h1 p1 => ?_)
  rw [f_X12_pump_L29]
  have g1 : ((4 : Int32) < Int32.ofNat (4 + 1)) = True := eq_true (by decide)
  simp only [g1, ↓reduceIte]
  exact H I1 h1 p1
theorem aPmR_eq {s : Nat × aS} : aPmR s = aPmW (aPmW (aPmW s 2) 1) 0 := by
  simp only [aPmR, aPmW, List.foldl_cons, List.foldl_nil, Nat.reduceMul, Nat.reduceAdd]
theorem rs_pmR {P : Nat → aS → Prop} {s : Nat × aS} {u : Nat} {x1 x3 : Int32} (hP : dOk P) (hu : u + 15 ≤ 400) (hx : ¬ x1 ≤ x3) (hp : P u s.2) (h : RF I0 I s.2)
    (H : ∀ I1, RF I0 I1 (aPmR s).2 → P (u + 15) (aPmR s).2 → rOk (f_X12_pump_L29 n (.inl (122, x1, Int32.ofNat (aPmR s).1, x3 + 1)) (I1, J)) I0 J v b) :
    rOk (f_X12_pump_L29 (n + 68) (.inl (122, x1, Int32.ofNat s.1, x3)) (I, J)) I0 J v b := by
  rw [aPmR_eq] at H
  rw [f_X12_pump_L29]
  simp only [hx, ↓reduceIte]
  refine rs_pmW (w := 2) (n := n + 45) hP (by omega) (by decide) hp h (fun I1 h1 p1 => ?_)
  refine rs_pmW (w := 1) (n := n + 23) hP (by omega) (by decide) p1 h1 (fun I1 h1 p1 => ?_)
  refine rs_pmW (w := 0) (n := n + 1) hP (by omega) (by decide) p1 h1 (fun I1 h1 p1 => ?_)
  rw [f_X12_pump_L29]
  have g1 : (Int32.ofNat 0 + (-1) < 0) = True := eq_true (by decide)
  simp only [g1, ↓reduceIte]
  exact H I1 h1 p1
theorem rs_pmN {P : Nat → aS → Prop} {N : Nat} (hP : dOk P) (hN : N < 1000) : ∀ d j s I u, j + d = N → u + 15 * d ≤ 400 → P u s.2 → RF I0 I s.2 →
    rOk (f_X12_pump_L29 (n + 68 * d + 1) (.inl (122, Int32.ofNat N, Int32.ofNat s.1, Int32.ofNat j)) (I, J)) I0 J (Int32.ofNat (aPm d s).1) (aPm d s).2 := by
  intro d
  induction d with
  | zero =>
    intro j s I u h1 hu hp h
    have : j = N := by omega
    subst this
    rw [f_X12_pump_L29]
    simp only [i_le (n := j) (m := j) (by omega) (by omega), Nat.le_refl, ↓reduceIte]
    exact r_ret h
  | succ d ih =>
    intro j s I u h1 hu hp h
    rw [show n + 68 * (d + 1) + 1 = n + 68 * d + 1 + 68 by omega]
    refine rs_pmR hP (by omega) ?_ hp h (fun I1 h2 p2 => ?_)
    · rw [i_le (by omega) (by omega)]
      omega
    · rw [p1]
      exact ih (j + 1) _ I1 _ (by omega) (by omega) p2 h2
theorem rs_pump {P : Nat → aS → Prop} {N u : Nat} (hP : dOk P) (hu : u ≤ 100) (h1 : 1 ≤ N) (h2 : N ≤ 20) (hp : P u a) (h : RepR I a) :
    rOp (f_X12_pump 122 (Int32.ofNat N) (I, J)) I J (0, Int32.ofNat (aPm N (0, a)).1, (aPm N (0, a)).2) := by
  have h10 : ¬ (1 : Int32) = 0 := by decide
  have g1 : (Int32.ofNat N < 1) = False := (i_lt (m := 1) (by omega) (by decide)).trans (eq_false (by omega))
  have g2 : ((20 : Int32) < Int32.ofNat N) = False := (i_lt (n := 20) (by decide) (by omega)).trans (eq_false (by omega))
  unfold f_X12_pump f_X12_pump_17
  simp only [g1, g2, ↓reduceIte, K_122, rs_asks1, Option.bind_some, h10, not_false_eq_true]
  obtain ⟨n, hn⟩ := Nat.exists_eq_add_of_le (show 68 * N + 1 ≤ 1000000 by omega)
  rw [show 1000000 = n + 68 * N + 1 by omega]
  exact rOp_of (rs_pmN (n := n) hP (by omega) N 0 (0, a) _ u (by omega) (by omega) hp (RF_th h))
theorem rs_pumpN (hb : x < 1 ∨ 20 < x) (h : RepR I a) : rOp (f_X12_pump 122 x (I, J)) I J (1, 0, a) := by
  have e : f_X12_pump 122 x (I, J) = some (0, (eup I 122 32 1, J)) := by
    unfold f_X12_pump f_X12_pump_16 f_X12_pump_17
    by_cases g : x < 1
    · simp only [g, ↓reduceIte, K_122, rs_asks0, Option.bind_some, not_true_eq_false]
    · simp only [g, hb.resolve_left g, ↓reduceIte, K_122, rs_asks0, Option.bind_some, not_true_eq_false]
  rw [e]
  exact rOp_of (r_ret (RF_th h))
theorem rs_queued {w z : Nat} (hw : w < 3) (hz : z < 5) (h : RepR I a) : rOp (f_X12_queued 122 (Int32.ofNat w) (Int32.ofNat z) (I, J)) I J (0, Int32.ofNat (a.2 (5 * w + z)).length, a) := by
  have h10 : ¬ (1 : Int32) = 0 := by decide
  have h0 : RF (eup I 122 32 0) (eup I 122 32 0) a := RF_th h
  have ht : (Int32.ofNat (5 * w + z)).toNatClampNeg = 5 * w + z := i_tn (by omega)
  have hi : eix (Int32.ofNat (5 * w + z)) 15 = true := i_ix (by omega) (by decide)
  have e1 : eup I 122 32 0 133 (5 * w + z) = Int32.ofNat (a.2 (5 * w + z)).length := (Rng_len (h0.1.2.1 (5 * w + z) (by omega))).1
  unfold f_X12_queued f_X12_queued_23
  simp only [rs_isQ hw hz, Option.bind_some, eLet, Option.bind_some, ↓reduceIte, K_2, K_3, K_4, K_5, K_21, K_22, K_23, K_24, K_57, K_58, K_59, K_60, K_61, K_62, K_63, K_64, K_65, K_66, K_67, K_68, K_69, K_70, K_71, K_72, K_73, K_122, K_123, K_124, K_125, K_126, K_127, K_128, K_129, K_130, K_131, K_132, K_133, K_134, K_135, K_136, K_137, K_138, K_139, K_140, K_141, K_142, K_143, K_144, K_145, K_146, K_147, K_148, K_149, K_150, K_151, K_152, K_153, K_154, K_155, K_156, K_157, K_158, K_159, K_160, K_161, R_2_0, R_2_1, R_2_2, R_2_3, R_2_4, R_2_5, R_2_6, R_2_7, R_4_0, R_4_1, R_4_2, R_23_0, R_23_1, R_23_2, R_58_0, R_58_1, R_58_2, R_58_3, R_58_4, R_64_0, R_66_0, R_68_0, R_68_1, R_68_2, R_68_3, R_72_0, R_122_0, R_122_1, R_122_2, R_122_3, R_122_4, R_122_5, R_122_6, R_122_7, R_122_8, R_122_9, R_122_10, R_122_11, R_122_12, R_122_13, R_122_14, R_122_15, R_122_16, R_122_17, R_122_19, R_122_20, R_122_21, R_122_22, R_122_23, R_122_24, R_122_25, R_122_26, R_122_27, R_122_28, R_122_29, R_122_30, R_122_31, R_122_33, R_122_34, R_122_35, R_122_36, R_122_37, R_122_39, R_122_41, true_and, and_true, eB, decide_true, decide_false, Bool.or_true, Bool.true_or, not_true_eq_false, not_false_eq_true, h10, m5, i_ad, ht, hi, e1]
  exact rOp_of (r_ret h0)
theorem rs_queued1 (hb : y < 0 ∨ ¬ y ≤ 4) (h : RepR I a) : rOp (f_X12_queued 122 x y (I, J)) I J (1, 0, a) := by
  unfold f_X12_queued f_X12_queued_23
  simp only [rs_isQ1 hb, Option.bind_some, eLet, Option.bind_some, ↓reduceIte, K_2, K_3, K_4, K_5, K_21, K_22, K_23, K_24, K_57, K_58, K_59, K_60, K_61, K_62, K_63, K_64, K_65, K_66, K_67, K_68, K_69, K_70, K_71, K_72, K_73, K_122, K_123, K_124, K_125, K_126, K_127, K_128, K_129, K_130, K_131, K_132, K_133, K_134, K_135, K_136, K_137, K_138, K_139, K_140, K_141, K_142, K_143, K_144, K_145, K_146, K_147, K_148, K_149, K_150, K_151, K_152, K_153, K_154, K_155, K_156, K_157, K_158, K_159, K_160, K_161, R_2_0, R_2_1, R_2_2, R_2_3, R_2_4, R_2_5, R_2_6, R_2_7, R_4_0, R_4_1, R_4_2, R_23_0, R_23_1, R_23_2, R_58_0, R_58_1, R_58_2, R_58_3, R_58_4, R_64_0, R_66_0, R_68_0, R_68_1, R_68_2, R_68_3, R_72_0, R_122_0, R_122_1, R_122_2, R_122_3, R_122_4, R_122_5, R_122_6, R_122_7, R_122_8, R_122_9, R_122_10, R_122_11, R_122_12, R_122_13, R_122_14, R_122_15, R_122_16, R_122_17, R_122_19, R_122_20, R_122_21, R_122_22, R_122_23, R_122_24, R_122_25, R_122_26, R_122_27, R_122_28, R_122_29, R_122_30, R_122_31, R_122_33, R_122_34, R_122_35, R_122_36, R_122_37, R_122_39, R_122_41, true_and, and_true, eB, decide_true, decide_false, Bool.or_true, Bool.true_or, not_true_eq_false, not_false_eq_true]
  exact rOp_of (r_ret (RF_th h))
theorem rs_queued2 (h0 : ¬ y < 0) (h1 : y ≤ 4) (hb : x < 0 ∨ ¬ x ≤ 2) (h : RepR I a) : rOp (f_X12_queued 122 x y (I, J)) I J (2, 0, a) := by
  unfold f_X12_queued f_X12_queued_23
  simp only [rs_isQ2 h0 h1 hb, Option.bind_some, eLet, Option.bind_some, ↓reduceIte, K_2, K_3, K_4, K_5, K_21, K_22, K_23, K_24, K_57, K_58, K_59, K_60, K_61, K_62, K_63, K_64, K_65, K_66, K_67, K_68, K_69, K_70, K_71, K_72, K_73, K_122, K_123, K_124, K_125, K_126, K_127, K_128, K_129, K_130, K_131, K_132, K_133, K_134, K_135, K_136, K_137, K_138, K_139, K_140, K_141, K_142, K_143, K_144, K_145, K_146, K_147, K_148, K_149, K_150, K_151, K_152, K_153, K_154, K_155, K_156, K_157, K_158, K_159, K_160, K_161, R_2_0, R_2_1, R_2_2, R_2_3, R_2_4, R_2_5, R_2_6, R_2_7, R_4_0, R_4_1, R_4_2, R_23_0, R_23_1, R_23_2, R_58_0, R_58_1, R_58_2, R_58_3, R_58_4, R_64_0, R_66_0, R_68_0, R_68_1, R_68_2, R_68_3, R_72_0, R_122_0, R_122_1, R_122_2, R_122_3, R_122_4, R_122_5, R_122_6, R_122_7, R_122_8, R_122_9, R_122_10, R_122_11, R_122_12, R_122_13, R_122_14, R_122_15, R_122_16, R_122_17, R_122_19, R_122_20, R_122_21, R_122_22, R_122_23, R_122_24, R_122_25, R_122_26, R_122_27, R_122_28, R_122_29, R_122_30, R_122_31, R_122_33, R_122_34, R_122_35, R_122_36, R_122_37, R_122_39, R_122_41, true_and, and_true, eB, decide_true, decide_false, Bool.or_true, Bool.true_or, not_true_eq_false, not_false_eq_true]
  exact rOp_of (r_ret (RF_th h))
theorem rs_stateOf (hc : c < 4) (hl : l < 16) (hF : cF a c) (h : RepR I a) :
    rOp (f_X12_stateOf 122 (Int32.ofNat c) (Int32.ofNat l) (I, J)) I J (0, aStAt a c l + (if a.1 141 (16 * c + l) = -1 then 0 else 10), a) := by
  have h10 : ¬ (1 : Int32) = 0 := by decide
  have h0 : RF (eup I 122 32 0) (eup I 122 32 0) a := RF_th h
  have e1 : eup I 122 32 0 141 (16 * c + l) = a.1 141 (16 * c + l) := R_get h0 (by unfold aSc; omega)
  have g1 : eix (Int32.ofNat (16 * c + l)) 64 = true := i_ix (by omega) (by decide)
  have g2 : (Int32.ofNat (16 * c + l)).toNatClampNeg = 16 * c + l := i_tn (by omega)
  unfold f_X12_stateOf f_X12_stateOf_36 f_X12_stateOf_41
  simp only [rs_asksLine hc hl, Option.bind_some, eLet, Option.bind_some, ↓reduceIte, K_2, K_3, K_4, K_5, K_21, K_22, K_23, K_24, K_57, K_58, K_59, K_60, K_61, K_62, K_63, K_64, K_65, K_66, K_67, K_68, K_69, K_70, K_71, K_72, K_73, K_122, K_123, K_124, K_125, K_126, K_127, K_128, K_129, K_130, K_131, K_132, K_133, K_134, K_135, K_136, K_137, K_138, K_139, K_140, K_141, K_142, K_143, K_144, K_145, K_146, K_147, K_148, K_149, K_150, K_151, K_152, K_153, K_154, K_155, K_156, K_157, K_158, K_159, K_160, K_161, R_2_0, R_2_1, R_2_2, R_2_3, R_2_4, R_2_5, R_2_6, R_2_7, R_4_0, R_4_1, R_4_2, R_23_0, R_23_1, R_23_2, R_58_0, R_58_1, R_58_2, R_58_3, R_58_4, R_64_0, R_66_0, R_68_0, R_68_1, R_68_2, R_68_3, R_72_0, R_122_0, R_122_1, R_122_2, R_122_3, R_122_4, R_122_5, R_122_6, R_122_7, R_122_8, R_122_9, R_122_10, R_122_11, R_122_12, R_122_13, R_122_14, R_122_15, R_122_16, R_122_17, R_122_19, R_122_20, R_122_21, R_122_22, R_122_23, R_122_24, R_122_25, R_122_26, R_122_27, R_122_28, R_122_29, R_122_30, R_122_31, R_122_33, R_122_34, R_122_35, R_122_36, R_122_37, R_122_39, R_122_41, true_and, and_true, eB, decide_true, decide_false, Bool.or_true, Bool.true_or, not_true_eq_false, not_false_eq_true, h10, rs_stateAt hc hF h0, m16, i_ad, g1, g2, e1]
  by_cases q : a.1 141 (16 * c + l) = -1
  · simp only [q, not_true_eq_false, ↓reduceIte]
    exact rOp_of (r_ret h0)
  · simp only [q, not_false_eq_true, ↓reduceIte]
    exact rOp_of (r_ret h0)
theorem rs_stateOfN (hb : (x < 0 ∨ 4 ≤ x) ∨ (y < 0 ∨ 16 ≤ y)) (h : RepR I a) : rOp (f_X12_stateOf 122 x y (I, J)) I J (1, 0, a) := by
  unfold f_X12_stateOf f_X12_stateOf_41
  simp only [eLet, Option.bind_some, ↓reduceIte, K_2, K_3, K_4, K_5, K_21, K_22, K_23, K_24, K_57, K_58, K_59, K_60, K_61, K_62, K_63, K_64, K_65, K_66, K_67, K_68, K_69, K_70, K_71, K_72, K_73, K_122, K_123, K_124, K_125, K_126, K_127, K_128, K_129, K_130, K_131, K_132, K_133, K_134, K_135, K_136, K_137, K_138, K_139, K_140, K_141, K_142, K_143, K_144, K_145, K_146, K_147, K_148, K_149, K_150, K_151, K_152, K_153, K_154, K_155, K_156, K_157, K_158, K_159, K_160, K_161, R_2_0, R_2_1, R_2_2, R_2_3, R_2_4, R_2_5, R_2_6, R_2_7, R_4_0, R_4_1, R_4_2, R_23_0, R_23_1, R_23_2, R_58_0, R_58_1, R_58_2, R_58_3, R_58_4, R_64_0, R_66_0, R_68_0, R_68_1, R_68_2, R_68_3, R_72_0, R_122_0, R_122_1, R_122_2, R_122_3, R_122_4, R_122_5, R_122_6, R_122_7, R_122_8, R_122_9, R_122_10, R_122_11, R_122_12, R_122_13, R_122_14, R_122_15, R_122_16, R_122_17, R_122_19, R_122_20, R_122_21, R_122_22, R_122_23, R_122_24, R_122_25, R_122_26, R_122_27, R_122_28, R_122_29, R_122_30, R_122_31, R_122_33, R_122_34, R_122_35, R_122_36, R_122_37, R_122_39, R_122_41, true_and, and_true, eB, decide_true, decide_false, Bool.or_true, Bool.true_or, not_true_eq_false, not_false_eq_true, rs_asksLineN hb]
  exact rOp_of (r_ret (RF_th h))
def aValIn (a : aS) (c l : Nat) : Int32 := match aPl a c l with
  | some p => if aWt (a.1 136 (4 * c + p)) = true then -1 else a.1 137 (4 * c + p)
  | none => -1
theorem rs_valueIn (hc : c < 4) (hl : l < 16) (hF : cF a c) (h : RepR I a) : rOp (f_X12_valueIn 122 (Int32.ofNat c) (Int32.ofNat l) (I, J)) I J (0, aValIn a c l, a) := by
  have h10 : ¬ (1 : Int32) = 0 := by decide
  have h0 : RF (eup I 122 32 0) (eup I 122 32 0) a := RF_th h
  unfold f_X12_valueIn f_X12_valueIn_35 f_X12_valueIn_45 aValIn
  simp only [rs_asksLine hc hl, Option.bind_some, eLet, Option.bind_some, ↓reduceIte, K_2, K_3, K_4, K_5, K_21, K_22, K_23, K_24, K_57, K_58, K_59, K_60, K_61, K_62, K_63, K_64, K_65, K_66, K_67, K_68, K_69, K_70, K_71, K_72, K_73, K_122, K_123, K_124, K_125, K_126, K_127, K_128, K_129, K_130, K_131, K_132, K_133, K_134, K_135, K_136, K_137, K_138, K_139, K_140, K_141, K_142, K_143, K_144, K_145, K_146, K_147, K_148, K_149, K_150, K_151, K_152, K_153, K_154, K_155, K_156, K_157, K_158, K_159, K_160, K_161, R_2_0, R_2_1, R_2_2, R_2_3, R_2_4, R_2_5, R_2_6, R_2_7, R_4_0, R_4_1, R_4_2, R_23_0, R_23_1, R_23_2, R_58_0, R_58_1, R_58_2, R_58_3, R_58_4, R_64_0, R_66_0, R_68_0, R_68_1, R_68_2, R_68_3, R_72_0, R_122_0, R_122_1, R_122_2, R_122_3, R_122_4, R_122_5, R_122_6, R_122_7, R_122_8, R_122_9, R_122_10, R_122_11, R_122_12, R_122_13, R_122_14, R_122_15, R_122_16, R_122_17, R_122_19, R_122_20, R_122_21, R_122_22, R_122_23, R_122_24, R_122_25, R_122_26, R_122_27, R_122_28, R_122_29, R_122_30, R_122_31, R_122_33, R_122_34, R_122_35, R_122_36, R_122_37, R_122_39, R_122_41, true_and, and_true, eB, decide_true, decide_false, Bool.or_true, Bool.true_or, not_true_eq_false, not_false_eq_true, h10, rs_place hc hF.2 h0]
  cases hp : aPl a c l with
  | none =>
    simp only [oI, ↓reduceIte]
    exact rOp_of (r_ret h0)
  | some p =>
    have hp4 := (aPl_lt hp).1
    have hx : eix (Int32.ofNat (4 * c + p)) 16 = true := i_ix (by omega) (by decide)
    have hy : (Int32.ofNat (4 * c + p)).toNatClampNeg = 4 * c + p := i_tn (by omega)
    have hm : (Int32.ofNat (4 * c + p) = -1) = False := i_ne1 (by omega)
    have e1 : eup I 122 32 0 136 (4 * c + p) = a.1 136 (4 * c + p) := R_get h0 (by unfold aSc; omega)
    have e2 : eup I 122 32 0 137 (4 * c + p) = a.1 137 (4 * c + p) := R_get h0 (by unfold aSc; omega)
    simp only [oI, hm, hx, hy, e1, e2, rs_wait, eLet, Option.bind_some, ↓reduceIte, K_2, K_3, K_4, K_5, K_21, K_22, K_23, K_24, K_57, K_58, K_59, K_60, K_61, K_62, K_63, K_64, K_65, K_66, K_67, K_68, K_69, K_70, K_71, K_72, K_73, K_122, K_123, K_124, K_125, K_126, K_127, K_128, K_129, K_130, K_131, K_132, K_133, K_134, K_135, K_136, K_137, K_138, K_139, K_140, K_141, K_142, K_143, K_144, K_145, K_146, K_147, K_148, K_149, K_150, K_151, K_152, K_153, K_154, K_155, K_156, K_157, K_158, K_159, K_160, K_161, R_2_0, R_2_1, R_2_2, R_2_3, R_2_4, R_2_5, R_2_6, R_2_7, R_4_0, R_4_1, R_4_2, R_23_0, R_23_1, R_23_2, R_58_0, R_58_1, R_58_2, R_58_3, R_58_4, R_64_0, R_66_0, R_68_0, R_68_1, R_68_2, R_68_3, R_72_0, R_122_0, R_122_1, R_122_2, R_122_3, R_122_4, R_122_5, R_122_6, R_122_7, R_122_8, R_122_9, R_122_10, R_122_11, R_122_12, R_122_13, R_122_14, R_122_15, R_122_16, R_122_17, R_122_19, R_122_20, R_122_21, R_122_22, R_122_23, R_122_24, R_122_25, R_122_26, R_122_27, R_122_28, R_122_29, R_122_30, R_122_31, R_122_33, R_122_34, R_122_35, R_122_36, R_122_37, R_122_39, R_122_41, true_and, and_true, eB, decide_true, decide_false, Bool.or_true, Bool.true_or, not_true_eq_false, not_false_eq_true]
    by_cases q : aWt (a.1 136 (4 * c + p)) = true
    · simp only [q, ↓reduceIte, h10]
      exact rOp_of (r_ret h0)
    · simp only [q, ↓reduceIte, Bool.false_eq_true]
      exact rOp_of (r_ret h0)
theorem rs_valueInN (hb : (x < 0 ∨ 4 ≤ x) ∨ (y < 0 ∨ 16 ≤ y)) (h : RepR I a) : rOp (f_X12_valueIn 122 x y (I, J)) I J (1, 0, a) := by
  unfold f_X12_valueIn
  simp only [eLet, Option.bind_some, ↓reduceIte, K_2, K_3, K_4, K_5, K_21, K_22, K_23, K_24, K_57, K_58, K_59, K_60, K_61, K_62, K_63, K_64, K_65, K_66, K_67, K_68, K_69, K_70, K_71, K_72, K_73, K_122, K_123, K_124, K_125, K_126, K_127, K_128, K_129, K_130, K_131, K_132, K_133, K_134, K_135, K_136, K_137, K_138, K_139, K_140, K_141, K_142, K_143, K_144, K_145, K_146, K_147, K_148, K_149, K_150, K_151, K_152, K_153, K_154, K_155, K_156, K_157, K_158, K_159, K_160, K_161, R_2_0, R_2_1, R_2_2, R_2_3, R_2_4, R_2_5, R_2_6, R_2_7, R_4_0, R_4_1, R_4_2, R_23_0, R_23_1, R_23_2, R_58_0, R_58_1, R_58_2, R_58_3, R_58_4, R_64_0, R_66_0, R_68_0, R_68_1, R_68_2, R_68_3, R_72_0, R_122_0, R_122_1, R_122_2, R_122_3, R_122_4, R_122_5, R_122_6, R_122_7, R_122_8, R_122_9, R_122_10, R_122_11, R_122_12, R_122_13, R_122_14, R_122_15, R_122_16, R_122_17, R_122_19, R_122_20, R_122_21, R_122_22, R_122_23, R_122_24, R_122_25, R_122_26, R_122_27, R_122_28, R_122_29, R_122_30, R_122_31, R_122_33, R_122_34, R_122_35, R_122_36, R_122_37, R_122_39, R_122_41, true_and, and_true, eB, decide_true, decide_false, Bool.or_true, Bool.true_or, not_true_eq_false, not_false_eq_true, rs_asksLineN hb]
  exact rOp_of (r_ret (RF_th h))
theorem rs_home (hl : l < 16) (h : RepR I a) : rOp (f_X12_home 122 (Int32.ofNat l) (I, J)) I J (0, a.1 123 l, a) := by
  have h10 : ¬ (1 : Int32) = 0 := by decide
  have h0 : RF (eup I 122 32 0) (eup I 122 32 0) a := RF_th h
  have ht : (Int32.ofNat l).toNatClampNeg = l := i_tn (by omega)
  have hi : eix (Int32.ofNat l) 16 = true := i_ix hl (by decide)
  have e1 : eup I 122 32 0 123 l = a.1 123 l := R_get h0 (by unfold aSc; omega)
  unfold f_X12_home f_X12_home_21
  simp only [rs_isLine hl, Option.bind_some, eLet, Option.bind_some, ↓reduceIte, K_2, K_3, K_4, K_5, K_21, K_22, K_23, K_24, K_57, K_58, K_59, K_60, K_61, K_62, K_63, K_64, K_65, K_66, K_67, K_68, K_69, K_70, K_71, K_72, K_73, K_122, K_123, K_124, K_125, K_126, K_127, K_128, K_129, K_130, K_131, K_132, K_133, K_134, K_135, K_136, K_137, K_138, K_139, K_140, K_141, K_142, K_143, K_144, K_145, K_146, K_147, K_148, K_149, K_150, K_151, K_152, K_153, K_154, K_155, K_156, K_157, K_158, K_159, K_160, K_161, R_2_0, R_2_1, R_2_2, R_2_3, R_2_4, R_2_5, R_2_6, R_2_7, R_4_0, R_4_1, R_4_2, R_23_0, R_23_1, R_23_2, R_58_0, R_58_1, R_58_2, R_58_3, R_58_4, R_64_0, R_66_0, R_68_0, R_68_1, R_68_2, R_68_3, R_72_0, R_122_0, R_122_1, R_122_2, R_122_3, R_122_4, R_122_5, R_122_6, R_122_7, R_122_8, R_122_9, R_122_10, R_122_11, R_122_12, R_122_13, R_122_14, R_122_15, R_122_16, R_122_17, R_122_19, R_122_20, R_122_21, R_122_22, R_122_23, R_122_24, R_122_25, R_122_26, R_122_27, R_122_28, R_122_29, R_122_30, R_122_31, R_122_33, R_122_34, R_122_35, R_122_36, R_122_37, R_122_39, R_122_41, true_and, and_true, eB, decide_true, decide_false, Bool.or_true, Bool.true_or, not_true_eq_false, not_false_eq_true, rs_asks1, h10, ht, hi, e1]
  exact rOp_of (r_ret h0)
theorem rs_homeN (hb : x < 0 ∨ 16 ≤ x) (h : RepR I a) : rOp (f_X12_home 122 x (I, J)) I J (1, 0, a) := by
  unfold f_X12_home f_X12_home_21
  simp only [rs_isLineN hb, Option.bind_some, eLet, Option.bind_some, ↓reduceIte, K_2, K_3, K_4, K_5, K_21, K_22, K_23, K_24, K_57, K_58, K_59, K_60, K_61, K_62, K_63, K_64, K_65, K_66, K_67, K_68, K_69, K_70, K_71, K_72, K_73, K_122, K_123, K_124, K_125, K_126, K_127, K_128, K_129, K_130, K_131, K_132, K_133, K_134, K_135, K_136, K_137, K_138, K_139, K_140, K_141, K_142, K_143, K_144, K_145, K_146, K_147, K_148, K_149, K_150, K_151, K_152, K_153, K_154, K_155, K_156, K_157, K_158, K_159, K_160, K_161, R_2_0, R_2_1, R_2_2, R_2_3, R_2_4, R_2_5, R_2_6, R_2_7, R_4_0, R_4_1, R_4_2, R_23_0, R_23_1, R_23_2, R_58_0, R_58_1, R_58_2, R_58_3, R_58_4, R_64_0, R_66_0, R_68_0, R_68_1, R_68_2, R_68_3, R_72_0, R_122_0, R_122_1, R_122_2, R_122_3, R_122_4, R_122_5, R_122_6, R_122_7, R_122_8, R_122_9, R_122_10, R_122_11, R_122_12, R_122_13, R_122_14, R_122_15, R_122_16, R_122_17, R_122_19, R_122_20, R_122_21, R_122_22, R_122_23, R_122_24, R_122_25, R_122_26, R_122_27, R_122_28, R_122_29, R_122_30, R_122_31, R_122_33, R_122_34, R_122_35, R_122_36, R_122_37, R_122_39, R_122_41, true_and, and_true, eB, decide_true, decide_false, Bool.or_true, Bool.true_or, not_true_eq_false, not_false_eq_true, rs_asks0]
  exact rOp_of (r_ret (RF_th h))
theorem rs_owner (hl : l < 16) (h : RepR I a) : rOp (f_X12_owner 122 (Int32.ofNat l) (I, J)) I J (0, a.1 124 l, a) := by
  have h10 : ¬ (1 : Int32) = 0 := by decide
  have h0 : RF (eup I 122 32 0) (eup I 122 32 0) a := RF_th h
  have ht : (Int32.ofNat l).toNatClampNeg = l := i_tn (by omega)
  have hi : eix (Int32.ofNat l) 16 = true := i_ix hl (by decide)
  have e1 : eup I 122 32 0 124 l = a.1 124 l := R_get h0 (by unfold aSc; omega)
  unfold f_X12_owner f_X12_owner_21
  simp only [rs_isLine hl, Option.bind_some, eLet, Option.bind_some, ↓reduceIte, K_2, K_3, K_4, K_5, K_21, K_22, K_23, K_24, K_57, K_58, K_59, K_60, K_61, K_62, K_63, K_64, K_65, K_66, K_67, K_68, K_69, K_70, K_71, K_72, K_73, K_122, K_123, K_124, K_125, K_126, K_127, K_128, K_129, K_130, K_131, K_132, K_133, K_134, K_135, K_136, K_137, K_138, K_139, K_140, K_141, K_142, K_143, K_144, K_145, K_146, K_147, K_148, K_149, K_150, K_151, K_152, K_153, K_154, K_155, K_156, K_157, K_158, K_159, K_160, K_161, R_2_0, R_2_1, R_2_2, R_2_3, R_2_4, R_2_5, R_2_6, R_2_7, R_4_0, R_4_1, R_4_2, R_23_0, R_23_1, R_23_2, R_58_0, R_58_1, R_58_2, R_58_3, R_58_4, R_64_0, R_66_0, R_68_0, R_68_1, R_68_2, R_68_3, R_72_0, R_122_0, R_122_1, R_122_2, R_122_3, R_122_4, R_122_5, R_122_6, R_122_7, R_122_8, R_122_9, R_122_10, R_122_11, R_122_12, R_122_13, R_122_14, R_122_15, R_122_16, R_122_17, R_122_19, R_122_20, R_122_21, R_122_22, R_122_23, R_122_24, R_122_25, R_122_26, R_122_27, R_122_28, R_122_29, R_122_30, R_122_31, R_122_33, R_122_34, R_122_35, R_122_36, R_122_37, R_122_39, R_122_41, true_and, and_true, eB, decide_true, decide_false, Bool.or_true, Bool.true_or, not_true_eq_false, not_false_eq_true, rs_asks1, h10, ht, hi, e1]
  exact rOp_of (r_ret h0)
theorem rs_ownerN (hb : x < 0 ∨ 16 ≤ x) (h : RepR I a) : rOp (f_X12_owner 122 x (I, J)) I J (1, 0, a) := by
  unfold f_X12_owner f_X12_owner_21
  simp only [rs_isLineN hb, Option.bind_some, eLet, Option.bind_some, ↓reduceIte, K_2, K_3, K_4, K_5, K_21, K_22, K_23, K_24, K_57, K_58, K_59, K_60, K_61, K_62, K_63, K_64, K_65, K_66, K_67, K_68, K_69, K_70, K_71, K_72, K_73, K_122, K_123, K_124, K_125, K_126, K_127, K_128, K_129, K_130, K_131, K_132, K_133, K_134, K_135, K_136, K_137, K_138, K_139, K_140, K_141, K_142, K_143, K_144, K_145, K_146, K_147, K_148, K_149, K_150, K_151, K_152, K_153, K_154, K_155, K_156, K_157, K_158, K_159, K_160, K_161, R_2_0, R_2_1, R_2_2, R_2_3, R_2_4, R_2_5, R_2_6, R_2_7, R_4_0, R_4_1, R_4_2, R_23_0, R_23_1, R_23_2, R_58_0, R_58_1, R_58_2, R_58_3, R_58_4, R_64_0, R_66_0, R_68_0, R_68_1, R_68_2, R_68_3, R_72_0, R_122_0, R_122_1, R_122_2, R_122_3, R_122_4, R_122_5, R_122_6, R_122_7, R_122_8, R_122_9, R_122_10, R_122_11, R_122_12, R_122_13, R_122_14, R_122_15, R_122_16, R_122_17, R_122_19, R_122_20, R_122_21, R_122_22, R_122_23, R_122_24, R_122_25, R_122_26, R_122_27, R_122_28, R_122_29, R_122_30, R_122_31, R_122_33, R_122_34, R_122_35, R_122_36, R_122_37, R_122_39, R_122_41, true_and, and_true, eB, decide_true, decide_false, Bool.or_true, Bool.true_or, not_true_eq_false, not_false_eq_true, rs_asks0]
  exact rOp_of (r_ret (RF_th h))
theorem rs_sharers (hl : l < 16) (h : RepR I a) : rOp (f_X12_sharers 122 (Int32.ofNat l) (I, J)) I J (0, if a.1 126 l = 0 then a.1 125 l else 15, a) := by
  have h10 : ¬ (1 : Int32) = 0 := by decide
  have h0 : RF (eup I 122 32 0) (eup I 122 32 0) a := RF_th h
  have ht : (Int32.ofNat l).toNatClampNeg = l := i_tn (by omega)
  have hi : eix (Int32.ofNat l) 16 = true := i_ix hl (by decide)
  have e1 : eup I 122 32 0 126 l = a.1 126 l := R_get h0 (by unfold aSc; omega)
  have e2 : eup I 122 32 0 125 l = a.1 125 l := R_get h0 (by unfold aSc; omega)
  unfold f_X12_sharers f_X12_sharers_35
  simp only [rs_isLine hl, Option.bind_some, eLet, Option.bind_some, ↓reduceIte, K_2, K_3, K_4, K_5, K_21, K_22, K_23, K_24, K_57, K_58, K_59, K_60, K_61, K_62, K_63, K_64, K_65, K_66, K_67, K_68, K_69, K_70, K_71, K_72, K_73, K_122, K_123, K_124, K_125, K_126, K_127, K_128, K_129, K_130, K_131, K_132, K_133, K_134, K_135, K_136, K_137, K_138, K_139, K_140, K_141, K_142, K_143, K_144, K_145, K_146, K_147, K_148, K_149, K_150, K_151, K_152, K_153, K_154, K_155, K_156, K_157, K_158, K_159, K_160, K_161, R_2_0, R_2_1, R_2_2, R_2_3, R_2_4, R_2_5, R_2_6, R_2_7, R_4_0, R_4_1, R_4_2, R_23_0, R_23_1, R_23_2, R_58_0, R_58_1, R_58_2, R_58_3, R_58_4, R_64_0, R_66_0, R_68_0, R_68_1, R_68_2, R_68_3, R_72_0, R_122_0, R_122_1, R_122_2, R_122_3, R_122_4, R_122_5, R_122_6, R_122_7, R_122_8, R_122_9, R_122_10, R_122_11, R_122_12, R_122_13, R_122_14, R_122_15, R_122_16, R_122_17, R_122_19, R_122_20, R_122_21, R_122_22, R_122_23, R_122_24, R_122_25, R_122_26, R_122_27, R_122_28, R_122_29, R_122_30, R_122_31, R_122_33, R_122_34, R_122_35, R_122_36, R_122_37, R_122_39, R_122_41, true_and, and_true, eB, decide_true, decide_false, Bool.or_true, Bool.true_or, not_true_eq_false, not_false_eq_true, rs_asks1, h10, ht, hi, e1, e2]
  by_cases q : a.1 126 l = 0
  · simp only [q, ↓reduceIte]
    exact rOp_of (r_ret h0)
  · simp only [q, ↓reduceIte]
    exact rOp_of (r_ret h0)
theorem rs_sharersN (hb : x < 0 ∨ 16 ≤ x) (h : RepR I a) : rOp (f_X12_sharers 122 x (I, J)) I J (1, 0, a) := by
  unfold f_X12_sharers f_X12_sharers_35
  simp only [rs_isLineN hb, Option.bind_some, eLet, Option.bind_some, ↓reduceIte, K_2, K_3, K_4, K_5, K_21, K_22, K_23, K_24, K_57, K_58, K_59, K_60, K_61, K_62, K_63, K_64, K_65, K_66, K_67, K_68, K_69, K_70, K_71, K_72, K_73, K_122, K_123, K_124, K_125, K_126, K_127, K_128, K_129, K_130, K_131, K_132, K_133, K_134, K_135, K_136, K_137, K_138, K_139, K_140, K_141, K_142, K_143, K_144, K_145, K_146, K_147, K_148, K_149, K_150, K_151, K_152, K_153, K_154, K_155, K_156, K_157, K_158, K_159, K_160, K_161, R_2_0, R_2_1, R_2_2, R_2_3, R_2_4, R_2_5, R_2_6, R_2_7, R_4_0, R_4_1, R_4_2, R_23_0, R_23_1, R_23_2, R_58_0, R_58_1, R_58_2, R_58_3, R_58_4, R_64_0, R_66_0, R_68_0, R_68_1, R_68_2, R_68_3, R_72_0, R_122_0, R_122_1, R_122_2, R_122_3, R_122_4, R_122_5, R_122_6, R_122_7, R_122_8, R_122_9, R_122_10, R_122_11, R_122_12, R_122_13, R_122_14, R_122_15, R_122_16, R_122_17, R_122_19, R_122_20, R_122_21, R_122_22, R_122_23, R_122_24, R_122_25, R_122_26, R_122_27, R_122_28, R_122_29, R_122_30, R_122_31, R_122_33, R_122_34, R_122_35, R_122_36, R_122_37, R_122_39, R_122_41, true_and, and_true, eB, decide_true, decide_false, Bool.or_true, Bool.true_or, not_true_eq_false, not_false_eq_true, rs_asks0]
  exact rOp_of (r_ret (RF_th h))
theorem rs_waiting (hl : l < 16) (h : RepR I a) : rOp (f_X12_waiting 122 (Int32.ofNat l) (I, J)) I J (0, Int32.ofNat (a.2 (15 + l)).length + (if a.1 127 l = -1 then 0 else 1), a) := by
  have h10 : ¬ (1 : Int32) = 0 := by decide
  have h0 : RF (eup I 122 32 0) (eup I 122 32 0) a := RF_th h
  have ht : (Int32.ofNat l).toNatClampNeg = l := i_tn (by omega)
  have hi : eix (Int32.ofNat l) 16 = true := i_ix hl (by decide)
  have e1 : eup I 122 32 0 127 l = a.1 127 l := R_get h0 (by unfold aSc; omega)
  have e2 : eup I 122 32 0 130 l = Int32.ofNat (a.2 (15 + l)).length := (h0.1.2.2 l hl).1
  unfold f_X12_waiting f_X12_waiting_32 f_X12_waiting_37
  simp only [rs_isLine hl, Option.bind_some, eLet, Option.bind_some, ↓reduceIte, K_2, K_3, K_4, K_5, K_21, K_22, K_23, K_24, K_57, K_58, K_59, K_60, K_61, K_62, K_63, K_64, K_65, K_66, K_67, K_68, K_69, K_70, K_71, K_72, K_73, K_122, K_123, K_124, K_125, K_126, K_127, K_128, K_129, K_130, K_131, K_132, K_133, K_134, K_135, K_136, K_137, K_138, K_139, K_140, K_141, K_142, K_143, K_144, K_145, K_146, K_147, K_148, K_149, K_150, K_151, K_152, K_153, K_154, K_155, K_156, K_157, K_158, K_159, K_160, K_161, R_2_0, R_2_1, R_2_2, R_2_3, R_2_4, R_2_5, R_2_6, R_2_7, R_4_0, R_4_1, R_4_2, R_23_0, R_23_1, R_23_2, R_58_0, R_58_1, R_58_2, R_58_3, R_58_4, R_64_0, R_66_0, R_68_0, R_68_1, R_68_2, R_68_3, R_72_0, R_122_0, R_122_1, R_122_2, R_122_3, R_122_4, R_122_5, R_122_6, R_122_7, R_122_8, R_122_9, R_122_10, R_122_11, R_122_12, R_122_13, R_122_14, R_122_15, R_122_16, R_122_17, R_122_19, R_122_20, R_122_21, R_122_22, R_122_23, R_122_24, R_122_25, R_122_26, R_122_27, R_122_28, R_122_29, R_122_30, R_122_31, R_122_33, R_122_34, R_122_35, R_122_36, R_122_37, R_122_39, R_122_41, true_and, and_true, eB, decide_true, decide_false, Bool.or_true, Bool.true_or, not_true_eq_false, not_false_eq_true, rs_asks1, h10, ht, hi, e1, e2]
  by_cases q : a.1 127 l = -1
  · simp only [q, not_true_eq_false, ↓reduceIte]
    exact rOp_of (r_ret h0)
  · simp only [q, not_false_eq_true, ↓reduceIte]
    exact rOp_of (r_ret h0)
theorem rs_waitingN (hb : x < 0 ∨ 16 ≤ x) (h : RepR I a) : rOp (f_X12_waiting 122 x (I, J)) I J (1, 0, a) := by
  unfold f_X12_waiting f_X12_waiting_37
  simp only [rs_isLineN hb, Option.bind_some, eLet, Option.bind_some, ↓reduceIte, K_2, K_3, K_4, K_5, K_21, K_22, K_23, K_24, K_57, K_58, K_59, K_60, K_61, K_62, K_63, K_64, K_65, K_66, K_67, K_68, K_69, K_70, K_71, K_72, K_73, K_122, K_123, K_124, K_125, K_126, K_127, K_128, K_129, K_130, K_131, K_132, K_133, K_134, K_135, K_136, K_137, K_138, K_139, K_140, K_141, K_142, K_143, K_144, K_145, K_146, K_147, K_148, K_149, K_150, K_151, K_152, K_153, K_154, K_155, K_156, K_157, K_158, K_159, K_160, K_161, R_2_0, R_2_1, R_2_2, R_2_3, R_2_4, R_2_5, R_2_6, R_2_7, R_4_0, R_4_1, R_4_2, R_23_0, R_23_1, R_23_2, R_58_0, R_58_1, R_58_2, R_58_3, R_58_4, R_64_0, R_66_0, R_68_0, R_68_1, R_68_2, R_68_3, R_72_0, R_122_0, R_122_1, R_122_2, R_122_3, R_122_4, R_122_5, R_122_6, R_122_7, R_122_8, R_122_9, R_122_10, R_122_11, R_122_12, R_122_13, R_122_14, R_122_15, R_122_16, R_122_17, R_122_19, R_122_20, R_122_21, R_122_22, R_122_23, R_122_24, R_122_25, R_122_26, R_122_27, R_122_28, R_122_29, R_122_30, R_122_31, R_122_33, R_122_34, R_122_35, R_122_36, R_122_37, R_122_39, R_122_41, true_and, and_true, eB, decide_true, decide_false, Bool.or_true, Bool.true_or, not_true_eq_false, not_false_eq_true, rs_asks0]
  exact rOp_of (r_ret (RF_th h))
theorem rs_counter (hk : k < 10) (h : RepR I a) : rOp (f_X12_counter 122 (Int32.ofNat k) (I, J)) I J (0, a.1 153 k, a) := by
  have h10 : ¬ (1 : Int32) = 0 := by decide
  have h0 : RF (eup I 122 32 0) (eup I 122 32 0) a := RF_th h
  have ht : (Int32.ofNat k).toNatClampNeg = k := i_tn (by omega)
  have hi : eix (Int32.ofNat k) 10 = true := i_ix hk (by decide)
  have e1 : eup I 122 32 0 153 k = a.1 153 k := R_get h0 (by unfold aSc; omega)
  have g1 : (Int32.ofNat k < 0) = False := i_lt0 (by omega)
  have g2 : ((9 : Int32) < Int32.ofNat k) = False := (i_lt (n := 9) (by decide) (by omega)).trans (eq_false (by omega))
  unfold f_X12_counter f_X12_counter_16 f_X12_counter_32
  simp only [g1, g2, Option.bind_some, eLet, Option.bind_some, ↓reduceIte, K_2, K_3, K_4, K_5, K_21, K_22, K_23, K_24, K_57, K_58, K_59, K_60, K_61, K_62, K_63, K_64, K_65, K_66, K_67, K_68, K_69, K_70, K_71, K_72, K_73, K_122, K_123, K_124, K_125, K_126, K_127, K_128, K_129, K_130, K_131, K_132, K_133, K_134, K_135, K_136, K_137, K_138, K_139, K_140, K_141, K_142, K_143, K_144, K_145, K_146, K_147, K_148, K_149, K_150, K_151, K_152, K_153, K_154, K_155, K_156, K_157, K_158, K_159, K_160, K_161, R_2_0, R_2_1, R_2_2, R_2_3, R_2_4, R_2_5, R_2_6, R_2_7, R_4_0, R_4_1, R_4_2, R_23_0, R_23_1, R_23_2, R_58_0, R_58_1, R_58_2, R_58_3, R_58_4, R_64_0, R_66_0, R_68_0, R_68_1, R_68_2, R_68_3, R_72_0, R_122_0, R_122_1, R_122_2, R_122_3, R_122_4, R_122_5, R_122_6, R_122_7, R_122_8, R_122_9, R_122_10, R_122_11, R_122_12, R_122_13, R_122_14, R_122_15, R_122_16, R_122_17, R_122_19, R_122_20, R_122_21, R_122_22, R_122_23, R_122_24, R_122_25, R_122_26, R_122_27, R_122_28, R_122_29, R_122_30, R_122_31, R_122_33, R_122_34, R_122_35, R_122_36, R_122_37, R_122_39, R_122_41, true_and, and_true, eB, decide_true, decide_false, Bool.or_true, Bool.true_or, not_true_eq_false, not_false_eq_true, rs_asks1, h10, ht, hi, e1]
  exact rOp_of (r_ret h0)
theorem rs_counterN (hb : x < 0 ∨ 9 < x) (h : RepR I a) : rOp (f_X12_counter 122 x (I, J)) I J (1, 0, a) := by
  have e : f_X12_counter 122 x (I, J) = some (0, (eup I 122 32 1, J)) := by
    unfold f_X12_counter f_X12_counter_15 f_X12_counter_16 f_X12_counter_32
    by_cases g : x < 0
    · simp only [g, ↓reduceIte, K_122, rs_asks0, Option.bind_some]
    · simp only [g, hb.resolve_left g, ↓reduceIte, K_122, rs_asks0, Option.bind_some]
  rw [e]
  exact rOp_of (r_ret (RF_th h))
end EPT
