/-! the class: mail, and the home's cells -/
section EPD
variable {I I' I0 : Nat → Nat → Int32} {J : Nat → Nat → Int64} {a a' b : aS} {r i l q c k n p w z N : Nat} {v t x y : Int32} {m : aM} {σ : eMem}
theorem b_kind (hk : k < 16) : f_X4_kindOf (Int32.ofNat (k + 16 * l + 256 * c + 1024 * N)) σ = some (Int32.ofNat k, σ) := by
  unfold f_X4_kindOf
  rw [b_15]
  congr 3
  omega
theorem b_line (hk : k < 16) (hl : l < 16) (hc : c < 4) (hN : N ≤ 1000) : f_X4_lineOf (Int32.ofNat (k + 16 * l + 256 * c + 1024 * N)) σ = some (Int32.ofNat l, σ) := by
  unfold f_X4_lineOf
  rw [b_shr4 (by omega), b_15]
  congr 3
  omega
theorem b_core (hk : k < 16) (hl : l < 16) (hc : c < 4) (hN : N ≤ 1000) : f_X4_coreOf (Int32.ofNat (k + 16 * l + 256 * c + 1024 * N)) σ = some (Int32.ofNat c, σ) := by
  unfold f_X4_coreOf
  rw [b_shr8 (by omega), b_3]
  congr 3
  omega
theorem b_val (hk : k < 16) (hl : l < 16) (hc : c < 4) (hN : N ≤ 1000) : f_X4_valueOf (Int32.ofNat (k + 16 * l + 256 * c + 1024 * N)) σ = some (Int32.ofNat N - 1, σ) := by
  unfold f_X4_valueOf
  rw [b_shr10 (by omega)]
  congr 4
  omega
theorem b_v1 : Int32.ofNat (n + 1) - 1 = Int32.ofNat n := i_sb (n := n + 1) (m := 1) (by omega)
theorem b_v0 : Int32.ofNat 0 - 1 = -1 := by decide
theorem g_0 : gCm (0, l, c, n) = Int32.ofNat (0 + 16 * l + 256 * c + 1024 * 0) := by
  unfold gCm gCn
  congr 1
  simp only
  omega
theorem g_1 : gCm (1, l, c, n) = Int32.ofNat (1 + 16 * l + 256 * c + 1024 * 0) := by
  unfold gCm gCn
  congr 1
theorem g_2 : gCm (2, l, c, n) = Int32.ofNat (2 + 16 * l + 256 * c + 1024 * (n + 1)) := rfl
theorem g_3 : gCm (3, l, c, n) = Int32.ofNat (4 + 16 * l + 256 * 0 + 1024 * 0) := by
  unfold gCm gCn
  congr 1
theorem g_4 : gCm (4, l, c, n) = Int32.ofNat (5 + 16 * l + 256 * 0 + 1024 * 0) := by
  unfold gCm gCn
  congr 1
theorem g_5 : gCm (5, l, c, n) = Int32.ofNat (3 + 16 * l + 256 * 0 + 1024 * 0) := by
  unfold gCm gCn
  congr 1
theorem g_6 : gCm (6, l, c, n) = Int32.ofNat ((5 + c) + 16 * l + 256 * 0 + 1024 * (n + 1)) := by
  unfold gCm gCn
  congr 1
theorem g_7 : gCm (7, l, c, n) = Int32.ofNat (9 + 16 * l + 256 * 0 + 1024 * 0) := by
  unfold gCm gCn
  congr 1
theorem g_8 : gCm (8, l, c, n) = Int32.ofNat (10 + 16 * l + 256 * c + 1024 * (n + 1)) := rfl
theorem g_9 : gCm (9, l, c, n) = Int32.ofNat (10 + 16 * l + 256 * c + 1024 * 0) := by
  unfold gCm gCn
  congr 1
theorem cs_send (hw : w < 3) (hz : z < 5) (hq : (a.2 (5 * w + z)).length < 64) (h : CF I0 I a) :
    cOk (f_X3_send 4 (Int32.ofNat w) (Int32.ofNat z) (gCm m) (I, J)) I0 J () (aPush a (5 * w + z) m) := by
  have hr := h.1.2.1 (5 * w + z) (by omega)
  obtain ⟨e, he, he2, hp⟩ := Rng_push (m := m) hr hq (by decide)
  have he2 : I 21 (5 * w + z) + I 22 (5 * w + z) - (I 21 (5 * w + z) + I 22 (5 * w + z)) / 64 * 64 = Int32.ofNat e := he2
  have hv : Int32.ofNat w * (5 : Int32) + Int32.ofNat z = Int32.ofNat (5 * w + z) := by
    show _ * Int32.ofNat 5 + _ = _
    rw [i_mu, i_ad, Nat.mul_comm]
  have g0 : (Int32.ofNat (5 * w + z) < 0) = False := i_lt0 (by omega)
  have g1 : ((15 : Int32) ≤ Int32.ofNat (5 * w + z)) = False := (i_le (n := 15) (by decide) (by omega)).trans (eq_false (by omega))
  have ht : (Int32.ofNat (5 * w + z)).toNatClampNeg = 5 * w + z := i_tn (by omega)
  have hi : eix (Int32.ofNat (5 * w + z)) 15 = true := i_ix (by omega) (by decide)
  have hj : eix (Int32.ofNat e) 64 = true := i_ix he (by decide)
  have hjt : (Int32.ofNat e).toNatClampNeg = e := i_tn (by omega)
  have hs : I 22 (5 * w + z) = Int32.ofNat (a.2 (5 * w + z)).length := (Rng_len hr).1
  have g2 : (I 22 (5 * w + z) < 64) = True := by
    rw [hs]
    exact (i_lt (m := 64) (by omega) (by decide)).trans (eq_true hq)
  have h64 : ¬ (64 : Int32) = 0 := by decide
  have hst : eup I (6 + (5 * w + z)) e (gCm m) 22 (5 * w + z) = I 22 (5 * w + z) := up_r (by omega)
  unfold f_X3_send
  simp only [hv, eLt, Option.bind_some, ↓reduceIte, K_2, K_3, K_4, K_5, K_21, K_22, K_23, K_24, K_57, K_58, K_59, K_60, K_61, K_62, K_63, K_64, K_65, K_66, K_67, K_68, K_69, K_70, K_71, K_72, K_73, K_122, K_123, K_124, K_125, K_126, K_127, K_128, K_129, K_130, K_131, K_132, K_133, K_134, K_135, K_136, K_137, K_138, K_139, K_140, K_141, K_142, K_143, K_144, K_145, K_146, K_147, K_148, K_149, K_150, K_151, K_152, K_153, K_154, K_155, K_156, K_157, K_158, K_159, K_160, K_161, R_2_0, R_2_1, R_2_2, R_2_3, R_2_4, R_2_5, R_2_6, R_2_7, R_4_0, R_4_1, R_4_2, R_23_0, R_23_1, R_23_2, R_58_0, R_58_1, R_58_2, R_58_3, R_58_4, R_64_0, R_66_0, R_68_0, R_68_1, R_68_2, R_68_3, R_72_0, R_122_0, R_122_1, R_122_2, R_122_3, R_122_4, R_122_5, R_122_6, R_122_7, R_122_8, R_122_9, R_122_10, R_122_11, R_122_12, R_122_13, R_122_14, R_122_15, R_122_16, R_122_17, R_122_19, R_122_20, R_122_21, R_122_22, R_122_23, R_122_24, R_122_25, R_122_26, R_122_27, R_122_28, R_122_29, R_122_30, R_122_31, R_122_33, R_122_34, R_122_35, R_122_36, R_122_37, R_122_39, R_122_41, true_and, and_true, eB, decide_true, decide_false, Bool.or_true, Bool.true_or, not_true_eq_false, not_false_eq_true, g0, g1, hi, ht, g2, h64, he2, R_q (show 5 * w + z < 15 by omega), K_q (show 5 * w + z < 15 by omega), hj, hjt, hst]
  exact c_ret (C_push (by omega) h he hp)
theorem cs_send' {x1 x2 x3 : Int32} (hw : w < 3) (hz : z < 5) (e1 : x1 = Int32.ofNat w) (e2 : x2 = Int32.ofNat z) (e3 : x3 = gCm m) (hq : (a.2 (5 * w + z)).length < 64) (h : CF I0 I a) :
    cOk (f_X3_send 4 x1 x2 x3 (I, J)) I0 J () (aPush a (5 * w + z) m) := by
  subst e1 e2 e3
  exact cs_send hw hz hq h
theorem cs_take {ms : List aM} (hw : w < 3) (hz : z < 5) (hL : a.2 (5 * w + z) = m :: ms) (h : CF I0 I a) :
    cOk (f_X3_take 4 (Int32.ofNat w) (Int32.ofNat z) (I, J)) I0 J (gCm m) (aL a (5 * w + z) ms) := by
  have hr := h.1.2.1 (5 * w + z) (by omega)
  unfold MlOk at hr
  rw [hL] at hr
  obtain ⟨f, h1, h2, h3, h4, h5, h6⟩ := Rng_pop hr (by decide)
  have hv : Int32.ofNat w * (5 : Int32) + Int32.ofNat z = Int32.ofNat (5 * w + z) := by
    show _ * Int32.ofNat 5 + _ = _
    rw [i_mu, i_ad, Nat.mul_comm]
  have g0 : (Int32.ofNat (5 * w + z) < 0) = False := i_lt0 (by omega)
  have g1 : ((15 : Int32) ≤ Int32.ofNat (5 * w + z)) = False := (i_le (n := 15) (by decide) (by omega)).trans (eq_false (by omega))
  have ht : (Int32.ofNat (5 * w + z)).toNatClampNeg = 5 * w + z := i_tn (by omega)
  have hi : eix (Int32.ofNat (5 * w + z)) 15 = true := i_ix (by omega) (by decide)
  have hj : eix (Int32.ofNat f) 64 = true := i_ix h1 (by decide)
  have hjt : (Int32.ofNat f).toNatClampNeg = f := i_tn (by omega)
  have g2 : (I 22 (5 * w + z) = 0) = False := by
    rw [h4]
    exact (i_eq (m := 0) (by omega) (by decide)).trans (eq_false (by omega))
  have h64 : ¬ (64 : Int32) = 0 := by decide
  have hst : eup I 21 (5 * w + z) (Int32.ofNat f + 1 - (Int32.ofNat f + 1) / 64 * 64) 22 (5 * w + z) = I 22 (5 * w + z) := up_r (by decide)
  unfold f_X3_take
  simp only [hv, eLt, Option.bind_some, ↓reduceIte, K_2, K_3, K_4, K_5, K_21, K_22, K_23, K_24, K_57, K_58, K_59, K_60, K_61, K_62, K_63, K_64, K_65, K_66, K_67, K_68, K_69, K_70, K_71, K_72, K_73, K_122, K_123, K_124, K_125, K_126, K_127, K_128, K_129, K_130, K_131, K_132, K_133, K_134, K_135, K_136, K_137, K_138, K_139, K_140, K_141, K_142, K_143, K_144, K_145, K_146, K_147, K_148, K_149, K_150, K_151, K_152, K_153, K_154, K_155, K_156, K_157, K_158, K_159, K_160, K_161, R_2_0, R_2_1, R_2_2, R_2_3, R_2_4, R_2_5, R_2_6, R_2_7, R_4_0, R_4_1, R_4_2, R_23_0, R_23_1, R_23_2, R_58_0, R_58_1, R_58_2, R_58_3, R_58_4, R_64_0, R_66_0, R_68_0, R_68_1, R_68_2, R_68_3, R_72_0, R_122_0, R_122_1, R_122_2, R_122_3, R_122_4, R_122_5, R_122_6, R_122_7, R_122_8, R_122_9, R_122_10, R_122_11, R_122_12, R_122_13, R_122_14, R_122_15, R_122_16, R_122_17, R_122_19, R_122_20, R_122_21, R_122_22, R_122_23, R_122_24, R_122_25, R_122_26, R_122_27, R_122_28, R_122_29, R_122_30, R_122_31, R_122_33, R_122_34, R_122_35, R_122_36, R_122_37, R_122_39, R_122_41, true_and, and_true, eB, decide_true, decide_false, Bool.or_true, Bool.true_or, not_true_eq_false, not_false_eq_true, g0, g1, hi, ht, g2, h64, h2, R_q (show 5 * w + z < 15 by omega), K_q (show 5 * w + z < 15 by omega), hj, hjt, h3, hst]
  rw [h2] at h6
  refine c_ret (C_mail (a := a) (q := 5 * w + z) (by omega) (fun r i g1 g2 g3 => ?_) rfl (fun q2 g => aL_k g) ?_ h)
  · rw [up_o g3, up_o g2]
  · unfold MlOk
    rw [up_eq, up_fr (by omega), up_fr (by omega), show eup (eup I 21 (5 * w + z) (Int32.ofNat f + 1 - (Int32.ofNat f + 1) / 64 * 64)) 22 (5 * w + z) (I 22 (5 * w + z) - 1) 21 (5 * w + z) = Int32.ofNat f + 1 - (Int32.ofNat f + 1) / 64 * 64 by rw [up_o (by omega), up_eq], aL_e]
    exact h6
theorem cs_size (hw : w < 3) (hz : z < 5) (h : RepC I a) : f_X3_size 4 (Int32.ofNat w) (Int32.ofNat z) (I, J) = some (Int32.ofNat (a.2 (5 * w + z)).length, (I, J)) := by
  have hr := h.2.1 (5 * w + z) (by omega)
  have hv : Int32.ofNat w * (5 : Int32) + Int32.ofNat z = Int32.ofNat (5 * w + z) := by
    show _ * Int32.ofNat 5 + _ = _
    rw [i_mu, i_ad, Nat.mul_comm]
  have g0 : (Int32.ofNat (5 * w + z) < 0) = False := i_lt0 (by omega)
  have g1 : (Int32.ofNat (5 * w + z) < 15) = True := (i_lt (m := 15) (by omega) (by decide)).trans (eq_true (by omega))
  have ht : (Int32.ofNat (5 * w + z)).toNatClampNeg = 5 * w + z := i_tn (by omega)
  have hi : eix (Int32.ofNat (5 * w + z)) 15 = true := i_ix (by omega) (by decide)
  have hs : I 22 (5 * w + z) = Int32.ofNat (a.2 (5 * w + z)).length := (Rng_len hr).1
  unfold f_X3_size f_X3_size_26
  simp only [hv, eLt, Option.bind_some, ↓reduceIte, K_2, K_3, K_4, K_5, K_21, K_22, K_23, K_24, K_57, K_58, K_59, K_60, K_61, K_62, K_63, K_64, K_65, K_66, K_67, K_68, K_69, K_70, K_71, K_72, K_73, K_122, K_123, K_124, K_125, K_126, K_127, K_128, K_129, K_130, K_131, K_132, K_133, K_134, K_135, K_136, K_137, K_138, K_139, K_140, K_141, K_142, K_143, K_144, K_145, K_146, K_147, K_148, K_149, K_150, K_151, K_152, K_153, K_154, K_155, K_156, K_157, K_158, K_159, K_160, K_161, R_2_0, R_2_1, R_2_2, R_2_3, R_2_4, R_2_5, R_2_6, R_2_7, R_4_0, R_4_1, R_4_2, R_23_0, R_23_1, R_23_2, R_58_0, R_58_1, R_58_2, R_58_3, R_58_4, R_64_0, R_66_0, R_68_0, R_68_1, R_68_2, R_68_3, R_72_0, R_122_0, R_122_1, R_122_2, R_122_3, R_122_4, R_122_5, R_122_6, R_122_7, R_122_8, R_122_9, R_122_10, R_122_11, R_122_12, R_122_13, R_122_14, R_122_15, R_122_16, R_122_17, R_122_19, R_122_20, R_122_21, R_122_22, R_122_23, R_122_24, R_122_25, R_122_26, R_122_27, R_122_28, R_122_29, R_122_30, R_122_31, R_122_33, R_122_34, R_122_35, R_122_36, R_122_37, R_122_39, R_122_41, true_and, and_true, eB, decide_true, decide_false, Bool.or_true, Bool.true_or, not_true_eq_false, not_false_eq_true, g0, g1, hi, ht, hs]
theorem aW_cm {r' i' : Nat} (h : ¬ r = r') : aW (aW a r i v) r' i' x = aW (aW a r' i' x) r i v := by
  refine Prod.ext ?_ rfl
  funext s j
  show eup (eup a.1 r i v) r' i' x s j = eup (eup a.1 r' i' x) r i v s j
  unfold eup
  by_cases g1 : s = r' ∧ j = i'
  · rw [if_pos g1, if_neg (by omega), if_pos g1]
  · rw [if_neg g1, if_neg g1]
theorem aW_aC {r' i' : Nat} (h : ¬ r' = 153) : aW (aC a k) r' i' x = aC (aW a r' i' x) k := by
  unfold aC
  rw [aW_cm (by omega), aW_1 (by omega)]
theorem aW_id (h : a.1 r i = v) : aW a r i v = a := by
  refine Prod.ext ?_ rfl
  exact up_self h
theorem aW_ov : aW (aW a r i v) r i x = aW a r i x := by
  refine Prod.ext ?_ rfl
  funext s j
  show eup (eup a.1 r i v) r i x s j = eup a.1 r i x s j
  unfold eup
  by_cases g1 : s = r ∧ j = i
  · rw [if_pos g1, if_pos g1]
  · rw [if_neg g1, if_neg g1, if_neg g1]
theorem H_val (hl : l < 16) (h : CF I0 I a) : CF I0 (eup I (25 + 2 * l) 0 v) (aW a 123 l v) := by
  obtain ⟨h0, h1, h2, h3, h4, h7, h8, h9⟩ := h.1.1 l hl
  have e : ∀ k, ¬ k = 0 → eup I (25 + 2 * l) 0 v (25 + 2 * l) k = I (25 + 2 * l) k := fun k hk => up_k hk
  have e2 : eup I (25 + 2 * l) 0 v (26 + 2 * l) = I (26 + 2 * l) := up_fr (by omega)
  have e3 : ∀ r, ¬ r = 123 → (aW a 123 l v).1 r = a.1 r := fun r hr => aW_1 hr
  refine C_home (a := a) hl (fun r g1 g2 => up_fr g1) (fun r i g => aW_o (by omega)) (fun q g => rfl) ?_ h
  unfold HmOk
  rw [up_eq, e 1 (by decide), e 2 (by decide), e 3 (by decide), e 4 (by decide), e 5 (by decide), e 7 (by decide), e2, aW_e, e3 124 (by decide), e3 125 (by decide), e3 126 (by decide), e3 127 (by decide), e3 128 (by decide), e3 129 (by decide), aW_2]
  exact ⟨rfl, h1, h2, h3, h4, h7, h8, h9⟩
theorem H_own (hl : l < 16) (h : CF I0 I a) : CF I0 (eup I (25 + 2 * l) 1 v) (aW a 124 l v) := by
  obtain ⟨h0, h1, h2, h3, h4, h7, h8, h9⟩ := h.1.1 l hl
  have e : ∀ k, ¬ k = 1 → eup I (25 + 2 * l) 1 v (25 + 2 * l) k = I (25 + 2 * l) k := fun k hk => up_k hk
  have e2 : eup I (25 + 2 * l) 1 v (26 + 2 * l) = I (26 + 2 * l) := up_fr (by omega)
  have e3 : ∀ r, ¬ r = 124 → (aW a 124 l v).1 r = a.1 r := fun r hr => aW_1 hr
  refine C_home (a := a) hl (fun r g1 g2 => up_fr g1) (fun r i g => aW_o (by omega)) (fun q g => rfl) ?_ h
  unfold HmOk
  rw [up_eq, e 0 (by decide), e 2 (by decide), e 3 (by decide), e 4 (by decide), e 5 (by decide), e 7 (by decide), e2, aW_e, e3 123 (by decide), e3 125 (by decide), e3 126 (by decide), e3 127 (by decide), e3 128 (by decide), e3 129 (by decide), aW_2]
  exact ⟨h0, rfl, h2, h3, h4, h7, h8, h9⟩
theorem H_shr (hl : l < 16) (hv : v = if y = 0 then x else 15) (h : CF I0 I a) : CF I0 (eup I (25 + 2 * l) 2 v) (aW (aW a 125 l x) 126 l y) := by
  obtain ⟨h0, h1, h2, h3, h4, h7, h8, h9⟩ := h.1.1 l hl
  have e : ∀ k, ¬ k = 2 → eup I (25 + 2 * l) 2 v (25 + 2 * l) k = I (25 + 2 * l) k := fun k hk => up_k hk
  have e2 : eup I (25 + 2 * l) 2 v (26 + 2 * l) = I (26 + 2 * l) := up_fr (by omega)
  have e3 : ∀ r, ¬ r = 125 → ¬ r = 126 → (aW (aW a 125 l x) 126 l y).1 r = a.1 r := fun r hr hr2 => (aW_1 hr2).trans (aW_1 hr)
  have e4 : (aW (aW a 125 l x) 126 l y).1 125 l = x := by rw [aW_1 (by decide), aW_e]
  refine C_home (a := a) hl (fun r g1 g2 => up_fr g1) (fun r i g => by rw [aW_o (by omega), aW_o (by omega)]) (fun q g => rfl) ?_ h
  unfold HmOk
  rw [up_eq, e 0 (by decide), e 1 (by decide), e 3 (by decide), e 4 (by decide), e 5 (by decide), e 7 (by decide), e2, e4, aW_e, e3 123 (by decide) (by decide), e3 124 (by decide) (by decide), e3 127 (by decide) (by decide), e3 128 (by decide) (by decide), e3 129 (by decide) (by decide), aW_2, aW_2]
  exact ⟨h0, h1, hv, h3, h4, h7, h8, h9⟩
theorem H_wait (hl : l < 16) (hk : k < 3) (hc : c < 4) (h : CF I0 I a) :
    CF I0 (eup (eup (eup I (25 + 2 * l) 3 1) (25 + 2 * l) 4 (gCm (k, l, c, 0))) (25 + 2 * l) 5 (Int32.ofNat n)) (aWaits a l k c n) := by
  obtain ⟨h0, h1, h2, h3, h4, h7, h8, h9⟩ := h.1.1 l hl
  have e : ∀ j, ¬ j = 3 → ¬ j = 4 → ¬ j = 5 → eup (eup (eup I (25 + 2 * l) 3 1) (25 + 2 * l) 4 (gCm (k, l, c, 0))) (25 + 2 * l) 5 (Int32.ofNat n) (25 + 2 * l) j = I (25 + 2 * l) j := fun j g1 g2 g3 => by rw [up_k g3, up_k g2, up_k g1]
  have e2 : eup (eup (eup I (25 + 2 * l) 3 1) (25 + 2 * l) 4 (gCm (k, l, c, 0))) (25 + 2 * l) 5 (Int32.ofNat n) (26 + 2 * l) = I (26 + 2 * l) := by rw [up_fr (by omega), up_fr (by omega), up_fr (by omega)]
  have e27 : (aWaits a l k c n).1 127 l = Int32.ofNat k := by
    unfold aWaits
    rw [aW_1 (by decide), aW_1 (by decide), aW_e]
  have e28 : (aWaits a l k c n).1 128 l = Int32.ofNat c := by
    unfold aWaits
    rw [aW_1 (by decide), aW_e]
  have e29 : (aWaits a l k c n).1 129 l = Int32.ofNat n := by
    unfold aWaits
    rw [aW_e]
  have n1 : aNt (Int32.ofNat k) = k := i_tn (by omega)
  have n2 : aNt (Int32.ofNat c) = c := i_tn (by omega)
  refine C_home (a := a) hl (fun r g1 g2 => by rw [up_fr g1, up_fr g1, up_fr g1]) (fun r i g => ?_) (fun q g => rfl) ?_ h
  · unfold aWaits
    rw [aW_o (by omega), aW_o (by omega), aW_o (by omega)]
  · unfold HmOk
    rw [e 0 (by decide) (by decide) (by decide), e 1 (by decide) (by decide) (by decide), e 2 (by decide) (by decide) (by decide), e 7 (by decide) (by decide) (by decide), e2, e27, e28, e29, up_eq, aWaits_2,
      aWaits_1 (r := 123) (by decide) (by decide) (by decide), aWaits_1 (r := 124) (by decide) (by decide) (by decide), aWaits_1 (r := 125) (by decide) (by decide) (by decide), aWaits_1 (r := 126) (by decide) (by decide) (by decide), n1, n2]
    refine ⟨h0, h1, h2, ?_, fun _ => ⟨?_, rfl⟩, h7, h8, h9⟩
    · rw [up_k (by decide), up_k (by decide), up_eq, if_neg]
      rw [i_ne1 (by omega)]
      exact not_false
    · rw [up_k (by decide), up_eq]
theorem H_free (hl : l < 16) (h : CF I0 I a) : CF I0 (eup I (25 + 2 * l) 3 0) (aW a 127 l (-1)) := by
  obtain ⟨h0, h1, h2, h3, h4, h7, h8, h9⟩ := h.1.1 l hl
  have e : ∀ k, ¬ k = 3 → eup I (25 + 2 * l) 3 0 (25 + 2 * l) k = I (25 + 2 * l) k := fun k hk => up_k hk
  have e2 : eup I (25 + 2 * l) 3 0 (26 + 2 * l) = I (26 + 2 * l) := up_fr (by omega)
  have e3 : ∀ r, ¬ r = 127 → (aW a 127 l (-1)).1 r = a.1 r := fun r hr => aW_1 hr
  refine C_home (a := a) hl (fun r g1 g2 => up_fr g1) (fun r i g => aW_o (by omega)) (fun q g => rfl) ?_ h
  unfold HmOk
  rw [up_eq, e 0 (by decide), e 1 (by decide), e 2 (by decide), e 4 (by decide), e 5 (by decide), e 7 (by decide), e2, aW_e, e3 123 (by decide), e3 124 (by decide), e3 125 (by decide), e3 126 (by decide), e3 128 (by decide), e3 129 (by decide), aW_2]
  exact ⟨h0, h1, h2, rfl, fun g => absurd rfl g, h7, h8, h9⟩
/-- what the class doesn't keep for a line that isn't busy -/
theorem H_unw (hl : l < 16) (hb : a.1 127 l = -1) (h : CF I0 I a) : CF I0 I (aW (aWaits a l k c n) 127 l (-1)) := by
  obtain ⟨h0, h1, h2, h3, h4, h7, h8, h9⟩ := h.1.1 l hl
  have e : ∀ r, 123 ≤ r → r ≤ 126 → (aW (aWaits a l k c n) 127 l (-1)).1 r = a.1 r := fun r g1 g2 => by
    rw [aW_1 (by omega), aWaits_1 (by omega) (by omega) (by omega)]
  refine C_home (a := a) hl (fun r g1 g2 => rfl) (fun r i g => ?_) (fun q g => rfl) ?_ h
  · unfold aWaits
    rw [aW_o (by omega), aW_o (by omega), aW_o (by omega), aW_o (by omega)]
  · unfold HmOk
    rw [e 123 (by decide) (by decide), e 124 (by decide) (by decide), e 125 (by decide) (by decide), e 126 (by decide) (by decide), aW_e, aW_2, aWaits_2]
    rw [hb] at h3
    exact ⟨h0, h1, h2, h3, fun g => absurd rfl g, h7, h8, h9⟩
theorem H_due (hl : l < 16) (hb : ¬ a.1 127 l = -1) (h : CF I0 I a) : CF I0 (eup I (25 + 2 * l) 5 (I (25 + 2 * l) 5 - 1)) (aW a 129 l (a.1 129 l - 1)) := by
  obtain ⟨h0, h1, h2, h3, h4, h7, h8, h9⟩ := h.1.1 l hl
  have e : ∀ k, ¬ k = 5 → eup I (25 + 2 * l) 5 (I (25 + 2 * l) 5 - 1) (25 + 2 * l) k = I (25 + 2 * l) k := fun k hk => up_k hk
  have e2 : eup I (25 + 2 * l) 5 (I (25 + 2 * l) 5 - 1) (26 + 2 * l) = I (26 + 2 * l) := up_fr (by omega)
  have e3 : ∀ r, ¬ r = 129 → (aW a 129 l (a.1 129 l - 1)).1 r = a.1 r := fun r hr => aW_1 hr
  refine C_home (a := a) hl (fun r g1 g2 => up_fr g1) (fun r i g => aW_o (by omega)) (fun q g => rfl) ?_ h
  unfold HmOk
  rw [up_eq, e 0 (by decide), e 1 (by decide), e 2 (by decide), e 3 (by decide), e 4 (by decide), e 7 (by decide), e2, aW_e, e3 123 (by decide), e3 124 (by decide), e3 125 (by decide), e3 126 (by decide), e3 127 (by decide), e3 128 (by decide), aW_2, (h4 hb).2]
  exact ⟨h0, h1, h2, h3, fun g => ⟨(h4 hb).1, rfl⟩, h7, h8, h9⟩
theorem H_rpush (hl : l < 16) (hr : (a.2 (15 + l)).length < 4) (h : CF I0 I a) :
    CF I0 (eup (eup I (26 + 2 * l) (a.2 (15 + l)).length (gCm m)) (25 + 2 * l) 7 (I (25 + 2 * l) 7 + 1)) (aPush a (15 + l) m) := by
  obtain ⟨h0, h1, h2, h3, h4, h7, h8, h9⟩ := h.1.1 l hl
  have e : ∀ k, ¬ k = 7 → eup (eup I (26 + 2 * l) (a.2 (15 + l)).length (gCm m)) (25 + 2 * l) 7 (I (25 + 2 * l) 7 + 1) (25 + 2 * l) k = I (25 + 2 * l) k := fun k hk => by rw [up_k hk, up_r (by omega)]
  have e2 : eup (eup I (26 + 2 * l) (a.2 (15 + l)).length (gCm m)) (25 + 2 * l) 7 (I (25 + 2 * l) 7 + 1) (26 + 2 * l) = eup I (26 + 2 * l) (a.2 (15 + l)).length (gCm m) (26 + 2 * l) := up_fr (by omega)
  have e4 : (aPush a (15 + l) m).2 (15 + l) = a.2 (15 + l) ++ [m] := aL_e
  have e5 : (aPush a (15 + l) m).1 = a.1 := rfl
  refine C_home (a := a) hl (fun r g1 g2 => by rw [up_fr g1, up_fr g2]) (fun r i g => rfl) (fun q g => aL_k g) ?_ h
  unfold HmOk
  rw [up_eq, e 0 (by decide), e 1 (by decide), e 2 (by decide), e 3 (by decide), e 4 (by decide), e 5 (by decide), e2, e4, e5, h7]
  refine ⟨h0, h1, h2, h3, h4, by rw [List.length_append]; exact i_ad, by rw [List.length_append]; exact hr, fun k hk => ?_⟩
  rw [List.length_append] at hk
  have hk : k < (a.2 (15 + l)).length + 1 := hk
  by_cases g : k < (a.2 (15 + l)).length
  · rw [List.getElem_append_left g, up_k (by omega)]
    exact h9 k g
  · have : k = (a.2 (15 + l)).length := by omega
    subst this
    rw [List.getElem_append_right (Nat.le_refl _), up_eq]
    simp
end EPD
