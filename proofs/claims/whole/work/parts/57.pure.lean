/-! the reference: rows, and what comes to the home -/
section EPT
variable {I I0 : Nat → Nat → Int32} {J : Nat → Nat → Int64} {a b : aS} {r i l q c k n m : Nat} {v : Int32}
theorem aEnds_q (h : q < 10 ∨ 14 ≤ q) (hc : aNt (a.1 128 l) < 4) : (aEnds a l).2 q = a.2 q := by
  unfold aEnds aEndR aEndW aGives
  split
  · split
    · rw [aSend_k (by omega), aShares_2, aShares_2]
      rfl
    · rw [aSend_k (by omega)]
      rfl
  · rfl
theorem aEnds_len : ((aEnds a l).2 q).length ≤ (a.2 q).length + 1 := by
  have H : ∀ (b : aS) (q' k l c n : Nat), ((aSend b q' k l c n).2 q).length ≤ (b.2 q).length + 1 := by
    intro b q' k l c n
    by_cases g : q = q'
    · subst g
      rw [aSend_e, List.length_append]
      exact Nat.le_refl _
    · rw [aSend_k g]
      omega
  unfold aEnds aEndR aEndW aGives
  split
  · split
    · refine Nat.le_trans (H _ _ _ _ _ _) ?_
      rw [aShares_2, aShares_2]
      exact Nat.le_refl _
    · exact H _ _ _ _ _ _
  · omega
theorem aSend_len {q' c n : Nat} : ((aSend a q' k l c n).2 q).length ≤ (a.2 q).length + 1 := by
  by_cases g : q = q'
  · subst g
    rw [aSend_e, List.length_append]
    exact Nat.le_refl _
  · rw [aSend_k g]
    omega
theorem aDoP_2 : (aDoP a l c n).2 = eupA a.2 (10 + c) (a.2 (10 + c) ++ [(7, l, c, 0)]) := by
  unfold aDoP
  rw [aSend_2]
  split
  · rfl
  · rfl
theorem bc_wait : aNt ((aWaits a l k c n).1 128 l) = aNt (Int32.ofNat c) := by
  unfold aWaits
  rw [aW_1 (by decide), aW_e]
theorem aDoW_q {kd : Nat} (hc : c < 4) (h : q < 5 ∨ 14 ≤ q) : (aDoW a kd l c).2 q = a.2 q := by
  unfold aDoW
  rw [aEnds_q (by omega)]
  · rw [aWaits_2, aKills_q (by omega)]
  · rw [bc_wait]
    unfold aNt
    rw [i_tn (by omega)]
    exact hc
theorem aDoes_q {kd : Nat} (hc : c < 4) (ho : a.1 124 l = -1 ∨ ∃ o, o < 4 ∧ a.1 124 l = Int32.ofNat o) (h : q < 5 ∨ 14 ≤ q) : (aDoes a kd l c n).2 q = a.2 q := by
  unfold aDoes
  split
  · rw [aDoP_2]
    exact uA_ne (by omega)
  · split
    · split
      · unfold aDoR aGives
        split
        · rw [aSend_k (by omega)]
          rfl
        · rw [aSend_k (by omega), aShares_2]
      · exact aDoW_q hc h
    · next g =>
      unfold aDoO
      rcases ho with ho | ⟨o, ho1, ho2⟩
      · exact absurd (Or.inl ho) g
      · have e5 : aNt (a.1 124 l) = o := by
          unfold aNt
          rw [ho2]
          exact i_tn (by omega)
        rw [aWaits_2, e5, aSend_k (by omega)]
theorem aDoes_len {kd : Nat} (hc : c < 4) : ((aDoes a kd l c n).2 q).length ≤ (a.2 q).length + 1 := by
  unfold aDoes
  split
  · rw [aDoP_2]
    by_cases g : q = 10 + c
    · subst g
      rw [uA_eq, List.length_append]
      exact Nat.le_refl _
    · rw [uA_ne g]
      omega
  · split
    · split
      · unfold aDoR aGives
        split
        · exact aSend_len
        · refine Nat.le_trans aSend_len ?_
          rw [aShares_2]
          exact Nat.le_refl _
      · unfold aDoW
        by_cases g : q < 10 ∨ 14 ≤ q
        · rw [aEnds_q g]
          · rw [aWaits_2]
            exact aKills_len
          · rw [bc_wait]
            unfold aNt
            rw [i_tn (by omega)]
            exact hc
        · refine Nat.le_trans aEnds_len ?_
          rw [aWaits_2, aKills_q (by omega)]
          exact Nat.le_refl _
    · unfold aDoO
      rw [aWaits_2]
      exact aSend_len
theorem aEnds_1 (h : ¬ r = 124) (h1 : ¬ r = 125) (h2 : ¬ r = 126) (h3 : ¬ r = 127) (h4 : ¬ r = 153) : (aEnds a l).1 r = a.1 r := by
  unfold aEnds aEndR aEndW
  split
  · split
    · rw [aGives_1 h4, aShares_1 h1 h2 h4, aShares_1 h1 h2 h4, aForgets_1 h1 h2, aW_1 h, aW_1 h3]
    · rw [aGives_1 h4, aForgets_1 h1 h2, aW_1 h, aW_1 h3]
  · rfl
theorem aV_of (h : n < 1000) : aV (Int32.ofNat n) := ⟨n, h, rfl⟩
theorem aEnds_124 : (aEnds a l).1 124 l = a.1 124 l ∨ (aEnds a l).1 124 l = -1 ∨ (aEnds a l).1 124 l = Int32.ofNat (aNt (a.1 128 l)) := by
  unfold aEnds aEndR aEndW
  split
  · split
    · rw [aGives_1 (by decide), aShares_1 (by decide) (by decide) (by decide), aShares_1 (by decide) (by decide) (by decide), aForgets_1 (by decide) (by decide), aW_e]
      exact Or.inr (Or.inl rfl)
    · rw [aGives_1 (by decide), aForgets_1 (by decide) (by decide), aW_e]
      exact Or.inr (Or.inr rfl)
  · exact Or.inl rfl
theorem hF_ends (h : hF a l) (hc : aNt (a.1 128 l) < 4) : hF (aEnds a l) l := by
  refine ⟨?_, ?_⟩
  · rcases aEnds_124 (a := a) (l := l) with e | e | e
    · rw [e]
      exact h.1
    · exact Or.inl e
    · exact Or.inr ⟨_, hc, e⟩
  · rw [aEnds_1 (by decide) (by decide) (by decide) (by decide) (by decide)]
    exact h.2
theorem hF_does {kd : Nat} (hc : c < 4) (hn : n < 1000) (h : hF a l) : hF (aDoes a kd l c n) l := by
  unfold aDoes
  split
  · unfold aDoP
    refine ⟨?_, ?_⟩
    · rw [aSend_1 (by decide)]
      split
      · rw [aW_e]
        exact Or.inl rfl
      · exact h.1
    · rw [aSend_1 (by decide)]
      split
      · rw [aW_1 (by decide), aW_e]
        exact aV_of hn
      · exact h.2
  · split
    · split
      · unfold aDoR
        split
        · refine ⟨?_, ?_⟩
          · rw [aGives_1 (by decide), aW_e]
            exact Or.inr ⟨c, hc, rfl⟩
          · rw [aGives_1 (by decide), aW_1 (by decide)]
            exact h.2
        · refine ⟨?_, ?_⟩
          · rw [aGives_1 (by decide), aShares_1 (by decide) (by decide) (by decide)]
            exact h.1
          · rw [aGives_1 (by decide), aShares_1 (by decide) (by decide) (by decide)]
            exact h.2
      · unfold aDoW
        refine hF_ends ⟨?_, ?_⟩ ?_
        · rw [aWaits_1 (by decide) (by decide) (by decide), aKills_1 (by decide)]
          exact h.1
        · rw [aWaits_1 (by decide) (by decide) (by decide), aKills_1 (by decide)]
          exact h.2
        · rw [bc_wait]
          unfold aNt
          rw [i_tn (by omega)]
          exact hc
    · unfold aDoO
      refine ⟨?_, ?_⟩
      · rw [aWaits_1 (by decide) (by decide) (by decide), aSend_1 (by decide)]
        exact h.1
      · rw [aWaits_1 (by decide) (by decide) (by decide), aSend_1 (by decide)]
        exact h.2
/-- a message whose parts are small -/
def mOk (m : aM) : Prop := m.1 < 16 ∧ m.2.1 < 16 ∧ m.2.2.1 < 8 ∧ m.2.2.2 < 1000
theorem gR_b {m : aM} (h : mOk m) : gRn m < 2147483648 := by
  obtain ⟨h1, h2, h3, h4⟩ := h
  unfold gRn
  omega
theorem gR_k {m : aM} (h : mOk m) : gRm m - gRm m / 16 * 16 = Int32.ofNat m.1 := by
  show gRm m - gRm m / Int32.ofNat 16 * Int32.ofNat 16 = _
  unfold gRm
  rw [i_md (gR_b h) (by decide)]
  obtain ⟨h1, h2, h3, h4⟩ := h
  unfold gRn
  congr 1
  omega
theorem gR_l {m : aM} (h : mOk m) : gRm m / 16 - gRm m / 16 / 16 * 16 = Int32.ofNat m.2.1 := by
  show gRm m / Int32.ofNat 16 - gRm m / Int32.ofNat 16 / Int32.ofNat 16 * Int32.ofNat 16 = _
  unfold gRm
  have := gR_b h
  rw [i_dv (gR_b h) (by decide), i_md (by omega) (by decide)]
  obtain ⟨h1, h2, h3, h4⟩ := h
  unfold gRn
  congr 1
  omega
theorem gR_c {m : aM} (h : mOk m) : gRm m / 256 - gRm m / 256 / 8 * 8 = Int32.ofNat m.2.2.1 := by
  show gRm m / Int32.ofNat 256 - gRm m / Int32.ofNat 256 / Int32.ofNat 8 * Int32.ofNat 8 = _
  unfold gRm
  have := gR_b h
  rw [i_dv (gR_b h) (by decide), i_md (by omega) (by decide)]
  obtain ⟨h1, h2, h3, h4⟩ := h
  unfold gRn
  congr 1
  omega
theorem gR_n {m : aM} (h : mOk m) : gRm m / 2048 = Int32.ofNat m.2.2.2 := by
  show gRm m / Int32.ofNat 2048 = _
  unfold gRm
  rw [i_dv (gR_b h) (by decide)]
  obtain ⟨h1, h2, h3, h4⟩ := h
  unfold gRn
  congr 1
  omega
/-- a row's cells moved down -/
def rSh (l : Nat) : Nat → Nat → (Nat → Nat → Int32) → Nat → Nat → Int32
  | 0, _, M => M
  | d + 1, k, M => rSh l d (k + 1) (eup M 131 (8 * l + k) (M 131 (8 * l + (k + 1))))
theorem rSh_fr : ∀ d k M (r : Nat), ¬ r = 131 → rSh l d k M r = M r := by
  intro d
  induction d with
  | zero => intro k M r h; rfl
  | succ d ih =>
    intro k M r h
    unfold rSh
    rw [ih _ _ _ h, up_fr h]
theorem rSh_out : ∀ d k M i, (i < 8 * l + k ∨ 8 * l + k + d ≤ i) → rSh l d k M 131 i = M 131 i := by
  intro d
  induction d with
  | zero => intro k M i h; rfl
  | succ d ih =>
    intro k M i h
    unfold rSh
    rw [ih _ _ _ (by omega), up_k (by omega)]
theorem rSh_in : ∀ d k M i, k ≤ i → i < k + d → rSh l d k M 131 (8 * l + i) = M 131 (8 * l + (i + 1)) := by
  intro d
  induction d with
  | zero => intro k M i h1 h2; omega
  | succ d ih =>
    intro k M i h1 h2
    unfold rSh
    by_cases g : i = k
    · subst g
      rw [rSh_out _ _ _ _ (by omega), up_eq]
    · rw [ih _ _ _ (by omega) (by omega), up_k (by omega)]
theorem rs_shl {x2 : Int32} (hl : l < 16) : ∀ d k N M, k + d = n → n < 8 → M 130 l = Int32.ofNat n →
    f_X12_goesOn_L0 (N + d) (.inr (122, Int32.ofNat l, x2, Int32.ofNat k)) (M, J) = f_X12_goesOn_L0 N (.inr (122, Int32.ofNat l, x2, Int32.ofNat n)) (rSh l d k M, J) := by
  intro d
  have ht : (Int32.ofNat l).toNatClampNeg = l := i_tn (by omega)
  have hi : eix (Int32.ofNat l) 16 = true := i_ix hl (by decide)
  induction d with
  | zero => intro k N M h1 h2 h3; rw [show k = n by omega]; rfl
  | succ d ih =>
    intro k N M h1 h2 h3
    rw [show N + (d + 1) = N + d + 1 by omega, f_X12_goesOn_L0]
    have g1 : (Int32.ofNat n ≤ Int32.ofNat k) = False := (i_le (by omega) (by omega)).trans (eq_false (by omega))
    have g2 : (8 : Int32) * Int32.ofNat l + Int32.ofNat k = Int32.ofNat (8 * l + k) := by
      show Int32.ofNat 8 * _ + _ = _
      rw [i_mu, i_ad]
    have g3 : Int32.ofNat (8 * l + k) + 1 = Int32.ofNat (8 * l + (k + 1)) := i_ad
    have g4 : eix (Int32.ofNat (8 * l + (k + 1))) 128 = true := i_ix (by omega) (by decide)
    have g5 : eix (Int32.ofNat (8 * l + k)) 128 = true := i_ix (by omega) (by decide)
    have g6 : (Int32.ofNat (8 * l + k)).toNatClampNeg = 8 * l + k := i_tn (by omega)
    have g7 : (Int32.ofNat (8 * l + (k + 1))).toNatClampNeg = 8 * l + (k + 1) := i_tn (by omega)
    have g8 : Int32.ofNat k + 1 = Int32.ofNat (k + 1) := i_ad
    simp only [eLet, Option.bind_some, ↓reduceIte, K_2, K_3, K_4, K_5, K_21, K_22, K_23, K_24, K_57, K_58, K_59, K_60, K_61, K_62, K_63, K_64, K_65, K_66, K_67, K_68, K_69, K_70, K_71, K_72, K_73, K_122, K_123, K_124, K_125, K_126, K_127, K_128, K_129, K_130, K_131, K_132, K_133, K_134, K_135, K_136, K_137, K_138, K_139, K_140, K_141, K_142, K_143, K_144, K_145, K_146, K_147, K_148, K_149, K_150, K_151, K_152, K_153, K_154, K_155, K_156, K_157, K_158, K_159, K_160, K_161, R_2_0, R_2_1, R_2_2, R_2_3, R_2_4, R_2_5, R_2_6, R_2_7, R_4_0, R_4_1, R_4_2, R_23_0, R_23_1, R_23_2, R_58_0, R_58_1, R_58_2, R_58_3, R_58_4, R_64_0, R_66_0, R_68_0, R_68_1, R_68_2, R_68_3, R_72_0, R_122_0, R_122_1, R_122_2, R_122_3, R_122_4, R_122_5, R_122_6, R_122_7, R_122_8, R_122_9, R_122_10, R_122_11, R_122_12, R_122_13, R_122_14, R_122_15, R_122_16, R_122_17, R_122_19, R_122_20, R_122_21, R_122_22, R_122_23, R_122_24, R_122_25, R_122_26, R_122_27, R_122_28, R_122_29, R_122_30, R_122_31, R_122_33, R_122_34, R_122_35, R_122_36, R_122_37, R_122_39, R_122_41, true_and, and_true, eB, decide_true, decide_false, Bool.or_true, Bool.true_or, not_true_eq_false, not_false_eq_true, ht, hi, h3, g1, g2, g3, g4, g5, g6, g7, g8]
    rw [ih (k + 1) N _ (by omega) h2 (by rw [up_r (by decide)]; exact h3)]
    rfl
/-- the first of a row taken out -/
theorem RF_row {m : aM} {ms : List aM} (h : RF I0 I a) (hl : l < 16) (hr : a.2 (15 + l) = m :: ms) :
    RF I0 (rSh l ms.length 0 (eup I 130 l (Int32.ofNat ms.length))) (aL a (15 + l) ms) := by
  have h3 := h.1.2.2 l hl
  unfold RoOk at h3
  obtain ⟨k1, k2, k3⟩ := h3
  rw [hr] at k2
  have k2 : ms.length + 1 ≤ 8 := k2
  have efr : ∀ r, ¬ r = 130 → ¬ r = 131 → rSh l ms.length 0 (eup I 130 l (Int32.ofNat ms.length)) r = I r := by
    intro r g1 g2
    rw [rSh_fr _ _ _ _ g2, up_fr g1]
  refine ⟨⟨fun r i hs => ?_, fun q hq => ?_, fun l' hl' => ?_⟩, fun r hr => ?_, fun i hi => ?_⟩
  · rw [efr r (by unfold aSc at hs; omega) (by unfold aSc at hs; omega)]
    exact h.1.1 r i hs
  · unfold RqOk
    rw [efr 132 (by decide) (by decide), efr 133 (by decide) (by decide), efr 134 (by decide) (by decide), aL_k (by omega)]
    exact h.1.2.1 q hq
  · unfold RoOk
    rw [rSh_fr _ _ _ 130 (by decide)]
    by_cases g : l' = l
    · subst g
      rw [aL_e, up_eq]
      refine ⟨rfl, by omega, fun k hk => ?_⟩
      rw [rSh_in _ _ _ _ (by omega) (by omega), up_r (by decide)]
      have := k3 (k + 1) (by rw [hr]; simp; omega)
      rw [this]
      congr 1
      simp only [hr]
      rfl
    · rw [aL_k (by omega), up_k g]
      obtain ⟨j1, j2, j3⟩ := h.1.2.2 l' hl'
      refine ⟨j1, j2, fun k hk => ?_⟩
      rw [rSh_out _ _ _ _ (by omega), up_r (by decide)]
      exact j3 k hk
  · rw [efr r (by omega) (by omega)]
    exact h.2.1 r hr
  · rw [efr 122 (by decide) (by decide)]
    exact h.2.2 i hi
/-- the messages of a row are requests -/
def roV (a : aS) (l : Nat) : Prop := ∀ m, m ∈ a.2 (15 + l) → m.1 < 3 ∧ m.2.1 < 16 ∧ m.2.2.1 < 4 ∧ m.2.2.2 < 1000
theorem rs_goes (hl : l < 16) : ∀ n N a I m, (a.2 (15 + l)).length < n → 20 * n ≤ N → hF a l → roV a l → aQ a m → m + n < 100 → RF I0 I a →
    rOk (f_X12_goesOn_L0 N (.inl (122, Int32.ofNat l)) (I, J)) I0 J () (aGoes n a l) := by
  intro n
  have ht : (Int32.ofNat l).toNatClampNeg = l := i_tn (by omega)
  have hi : eix (Int32.ofNat l) 16 = true := i_ix hl (by decide)
  induction n with
  | zero => intro N a I m h1; omega
  | succ n ih =>
    intro N a I m h1 h2 hf hv hq hm h
    obtain ⟨N, rfl⟩ := Nat.exists_eq_add_of_le h2
    rw [show 20 * (n + 1) + N = 20 * n + N + 19 + 1 by omega, f_X12_goesOn_L0]
    have e1 : I 127 l = a.1 127 l := R_get h (by unfold aSc; omega)
    have hro := h.1.2.2 l hl
    obtain ⟨k1, k2, k3⟩ := hro
    unfold aGoes
    simp only [eLet, Option.bind_some, ↓reduceIte, K_2, K_3, K_4, K_5, K_21, K_22, K_23, K_24, K_57, K_58, K_59, K_60, K_61, K_62, K_63, K_64, K_65, K_66, K_67, K_68, K_69, K_70, K_71, K_72, K_73, K_122, K_123, K_124, K_125, K_126, K_127, K_128, K_129, K_130, K_131, K_132, K_133, K_134, K_135, K_136, K_137, K_138, K_139, K_140, K_141, K_142, K_143, K_144, K_145, K_146, K_147, K_148, K_149, K_150, K_151, K_152, K_153, K_154, K_155, K_156, K_157, K_158, K_159, K_160, K_161, R_2_0, R_2_1, R_2_2, R_2_3, R_2_4, R_2_5, R_2_6, R_2_7, R_4_0, R_4_1, R_4_2, R_23_0, R_23_1, R_23_2, R_58_0, R_58_1, R_58_2, R_58_3, R_58_4, R_64_0, R_66_0, R_68_0, R_68_1, R_68_2, R_68_3, R_72_0, R_122_0, R_122_1, R_122_2, R_122_3, R_122_4, R_122_5, R_122_6, R_122_7, R_122_8, R_122_9, R_122_10, R_122_11, R_122_12, R_122_13, R_122_14, R_122_15, R_122_16, R_122_17, R_122_19, R_122_20, R_122_21, R_122_22, R_122_23, R_122_24, R_122_25, R_122_26, R_122_27, R_122_28, R_122_29, R_122_30, R_122_31, R_122_33, R_122_34, R_122_35, R_122_36, R_122_37, R_122_39, R_122_41, true_and, and_true, eB, decide_true, decide_false, Bool.or_true, Bool.true_or, not_true_eq_false, not_false_eq_true, ht, hi, e1, k1]
    by_cases g1 : a.1 127 l = -1
    · simp only [g1, not_true_eq_false, ↓reduceIte]
      cases hr : a.2 (15 + l) with
      | nil =>
        have g2 : (Int32.ofNat ([] : List aM).length ≤ 0) = True := eq_true (by decide)
        simp only [g2, ↓reduceIte]
        unfold f_X12_goesOn_106
        exact r_ret h
      | cons mm ms =>
        rw [hr] at k1 k2 h1
        have k2 : ms.length + 1 ≤ 8 := k2
        have h1 : ms.length + 1 < n + 1 := h1
        have g2 : (Int32.ofNat (mm :: ms).length ≤ 0) = False := (i_le (n := ms.length + 1) (m := 0) (by omega) (by decide)).trans (eq_false (by omega))
        have g3 : (8 : Int32) * Int32.ofNat l = Int32.ofNat (8 * l + 0) := by
          show Int32.ofNat 8 * _ = _
          rw [i_mu, Nat.add_zero]
        have g4 : eix (Int32.ofNat (8 * l + 0)) 128 = true := i_ix (by omega) (by decide)
        have g5 : (Int32.ofNat (8 * l + 0)).toNatClampNeg = 8 * l + 0 := i_tn (by omega)
        have g6 : Int32.ofNat (mm :: ms).length - 1 = Int32.ofNat ms.length := i_sb (n := ms.length + 1) (m := 1) (by omega)
        have g7 : I 131 (8 * l + 0) = gRm mm := by
          have := k3 0 (by rw [hr]; simp)
          rw [this]
          congr 1
          simp only [hr]
          rfl
        simp only [g2, g3, g4, g5, g6, g7, ↓reduceIte]
        show rOk (f_X12_goesOn_L0 _ (.inr (122, Int32.ofNat l, gRm mm, Int32.ofNat 0)) _) I0 J () _
        rw [show 20 * n + N + 19 = (20 * n + N + 18 - ms.length) + 1 + ms.length by omega, rs_shl hl ms.length 0 _ _ (by omega) (by omega) up_eq, f_X12_goesOn_L0]
        have h4 := RF_row h hl hr
        have e2 : rSh l ms.length 0 (eup I 130 l (Int32.ofNat ms.length)) 130 l = Int32.ofNat ms.length := by
          rw [rSh_fr _ _ _ _ (by decide), up_eq]
        have g8 : (Int32.ofNat ms.length ≤ Int32.ofNat ms.length) = True := (i_le (by omega) (by omega)).trans (eq_true (Nat.le_refl _))
        have g9 : ¬ (16 : Int32) = 0 := by decide
        have g10 : ¬ (256 : Int32) = 0 := by decide
        have g11 : ¬ (8 : Int32) = 0 := by decide
        have g12 : ¬ (2048 : Int32) = 0 := by decide
        obtain ⟨v1, v2, v3, v4⟩ := hv mm (by rw [hr]; exact List.mem_cons_self)
        have hmo : mOk mm := ⟨by omega, v2, by omega, v4⟩
        simp only [eLet, Option.bind_some, ↓reduceIte, K_2, K_3, K_4, K_5, K_21, K_22, K_23, K_24, K_57, K_58, K_59, K_60, K_61, K_62, K_63, K_64, K_65, K_66, K_67, K_68, K_69, K_70, K_71, K_72, K_73, K_122, K_123, K_124, K_125, K_126, K_127, K_128, K_129, K_130, K_131, K_132, K_133, K_134, K_135, K_136, K_137, K_138, K_139, K_140, K_141, K_142, K_143, K_144, K_145, K_146, K_147, K_148, K_149, K_150, K_151, K_152, K_153, K_154, K_155, K_156, K_157, K_158, K_159, K_160, K_161, R_2_0, R_2_1, R_2_2, R_2_3, R_2_4, R_2_5, R_2_6, R_2_7, R_4_0, R_4_1, R_4_2, R_23_0, R_23_1, R_23_2, R_58_0, R_58_1, R_58_2, R_58_3, R_58_4, R_64_0, R_66_0, R_68_0, R_68_1, R_68_2, R_68_3, R_72_0, R_122_0, R_122_1, R_122_2, R_122_3, R_122_4, R_122_5, R_122_6, R_122_7, R_122_8, R_122_9, R_122_10, R_122_11, R_122_12, R_122_13, R_122_14, R_122_15, R_122_16, R_122_17, R_122_19, R_122_20, R_122_21, R_122_22, R_122_23, R_122_24, R_122_25, R_122_26, R_122_27, R_122_28, R_122_29, R_122_30, R_122_31, R_122_33, R_122_34, R_122_35, R_122_36, R_122_37, R_122_39, R_122_41, true_and, and_true, eB, decide_true, decide_false, Bool.or_true, Bool.true_or, not_true_eq_false, not_false_eq_true, ht, hi, e2, g8, g9, g10, g11, g12, gR_k hmo, gR_c hmo, gR_n hmo]
        have hf2 : hF (aL a (15 + l) ms) l := hf
        have hq2 : aQ (aL a (15 + l) ms) m := by
          intro q q1 q2
          rw [aL_k (by omega)]
          exact hq q q1 q2
        refine r_bind (rs_does hl v3 v1 v4 hf2 hq2 (by omega) h4) (fun I1 h5 => ?_)
        have e3 : (aDoes (aL a (15 + l) ms) mm.1 l mm.2.2.1 mm.2.2.2).2 (15 + l) = ms := by
          rw [aDoes_q v3 hf2.1 (by omega), aL_e]
        refine ih _ _ I1 (m + 1) ?_ (by omega) (hF_does v3 v4 hf2) ?_ ?_ (by omega) h5
        · rw [e3]
          omega
        · intro m' hm'
          rw [e3] at hm'
          exact hv m' (by rw [hr]; exact List.mem_cons_of_mem _ hm')
        · intro q q1 q2
          have := aDoes_len (a := aL a (15 + l) ms) (kd := mm.1) (l := l) (c := mm.2.2.1) (n := mm.2.2.2) (q := q) v3
          have := hq2 q q1 q2
          omega
    · simp only [g1, not_false_eq_true, ↓reduceIte]
      unfold f_X12_goesOn_106
      exact r_ret h
end EPT
