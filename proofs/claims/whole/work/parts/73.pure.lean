/-! the class: rows, and what comes to the home -/
section EPD
variable {I I' I0 : Nat → Nat → Int32} {J : Nat → Nat → Int64} {a a' b : aS} {r i l q c k n p w z N o : Nat} {v t x y : Int32} {m : aM} {σ : eMem}
def shT (o c : Nat) : Bool := decide (aBit 0 o = false) && ((!aBit (aSetB 0 o) c || decide (aSetB 0 o = aSetB (0 ||| (1 : Int32) <<< (Int32.ofNat c &&& 31)) o)) && ((aBit (aSetB 0 o) c || decide (aSetB (aSetB 0 o) c = aSetB (0 ||| (1 : Int32) <<< (Int32.ofNat c &&& 31)) o)) && decide (aPop (aSetB 0 o) = 1)))
theorem sh_t : ∀ o, o < 4 → ∀ c, c < 4 → shT o c = true := by decide +kernel
theorem pop_0 : ¬ aPop 0 = 2 := by decide
theorem z_or {x : Int32} : 0 ||| x = x := by
  apply Int32.toBitVec.inj
  show 0#32 ||| x.toBitVec = x.toBitVec
  exact BitVec.zero_or
/-- two sharers anew -/
theorem shares_2 (ho : o < 4) (hc : c < 4) : aShares (aShares (aForgets a l) l o) l c = aW (aW a 125 l (((1 : Int32) <<< (Int32.ofNat c &&& 31)) ||| ((1 : Int32) <<< (Int32.ofNat o &&& 31)))) 126 l 0 := by
  have := sh_t o ho c hc
  unfold shT at this
  simp only [Bool.and_eq_true, decide_eq_true_eq, Bool.or_eq_true, Bool.not_eq_true', z_or] at this
  obtain ⟨h1, h2, h3, h4⟩ := this
  have g1 : (aForgets a l).1 126 l = 0 := by
    unfold aForgets
    rw [aW_e]
  have g2 : (aForgets a l).1 125 l = 0 := by
    unfold aForgets
    rw [aW_1 (by decide), aW_e]
  have e1 : aShares (aForgets a l) l o = aW (aForgets a l) 125 l (aSetB 0 o) := by
    unfold aShares
    rw [g1, g2, if_neg (by decide), if_neg (by rw [h1]; decide), if_neg pop_0]
  have g3 : (aW (aForgets a l) 125 l (aSetB 0 o)).1 126 l = 0 := by rw [aW_1 (by decide), g1]
  have g4 : (aW (aForgets a l) 125 l (aSetB 0 o)).1 125 l = aSetB 0 o := aW_e
  have e3 : aSetB ((1 : Int32) <<< (Int32.ofNat c &&& 31)) o = ((1 : Int32) <<< (Int32.ofNat c &&& 31)) ||| ((1 : Int32) <<< (Int32.ofNat o &&& 31)) := rfl
  have e4 : ∀ x, aW (aForgets a l) 125 l x = aW (aW a 125 l x) 126 l 0 := by
    intro x
    unfold aForgets
    rw [aW_cm (r := 126) (by decide), aW_ov]
  rw [e1]
  unfold aShares
  rw [g3, g4, if_neg (by decide)]
  by_cases q : aBit (aSetB 0 o) c = true
  · rw [if_pos q, e4, ← e3]
    rcases h2 with h2 | h2
    · rw [q] at h2
      cases h2
    · rw [h2]
  · rw [if_neg q, h4, if_neg (by decide), e4, aW_cm (r := 126) (by decide), aW_ov, ← e3]
    rcases h3 with h3 | h3
    · exact absurd h3 q
    · rw [h3]
theorem cs_become (hl : l < 16) (ho : o < 4) (hc : c < 4) (hown : a.1 124 l = Int32.ofNat o) (h : CF I0 I a) :
    cOk (f_X2_becomeSharedWith (25 + 2 * l) (Int32.ofNat c) (I, J)) I0 J () (aW (aShares (aShares (aForgets a l) l o) l c) 124 l (-1)) := by
  have e1 : I (25 + 2 * l) 1 = Int32.ofNat o := (h.1.1 l hl).2.1.trans hown
  have m1 : (Int32.ofNat o = -1) = False := i_ne1 (by omega)
  have e2 : ∀ x, eup I (25 + 2 * l) 2 x (25 + 2 * l) 1 = Int32.ofNat o := fun x => (up_k (by decide)).trans e1
  unfold f_X2_becomeSharedWith f_X2_becomeSharedWith_30
  simp only [eLt, Option.bind_some, ↓reduceIte, K_23, R_23_0, R_23_1, R_23_2, K_3, K_4, K_24, K_l hl, K_w hl, R_l hl, R_l6 hl, true_and, and_true, eB, decide_true, decide_false, Bool.or_true, Bool.true_or, not_true_eq_false, not_false_eq_true, e2, m1, up_eq]
  rw [shares_2 ho hc]
  have e3 : ∀ x y, eup (eup I (25 + 2 * l) 2 x) (25 + 2 * l) 2 y = eup I (25 + 2 * l) 2 y := by
    intro x y
    funext s j
    unfold eup
    by_cases g1 : s = 25 + 2 * l ∧ j = 2
    · rw [if_pos g1, if_pos g1]
    · rw [if_neg g1, if_neg g1, if_neg g1]
  rw [e3]
  exact c_ret (H_own hl (H_shr hl (by rw [if_pos rfl]) h))
theorem cs_finR (hl : l < 16) (ho : o < 4) (hc : c < 4) (hown : a.1 124 l = Int32.ofNat o) (hb : a.1 127 l = 0) (hbc : a.1 128 l = Int32.ofNat c) (hv : aV (a.1 123 l)) (hq : (a.2 (10 + c)).length < 64) (h : CF I0 I a) :
    cOk (f_X1_finish 23 (25 + 2 * l) (I, J)) I0 J () (aEndR a l c o) := by
  have n0 : aNt 0 = 0 := rfl
  have n1 : aNt (Int32.ofNat c) = c := i_tn (by omega)
  have hH := (h.1.1 l hl).2.2.2.2.1 (by rw [hb]; decide)
  rw [hb, hbc, n0, n1, g_0] at hH
  have e4 : eup I (25 + 2 * l) 3 0 (25 + 2 * l) 4 = Int32.ofNat (0 + 16 * l + 256 * c + 1024 * 0) := (up_k (by decide)).trans hH.1
  have bk : ∀ σ : eMem, f_X4_kindOf (Int32.ofNat (0 + 16 * l + 256 * c + 1024 * 0)) σ = some (Int32.ofNat 0, σ) := fun σ => b_kind (by decide)
  have bc : ∀ σ : eMem, f_X4_coreOf (Int32.ofNat (0 + 16 * l + 256 * c + 1024 * 0)) σ = some (Int32.ofNat c, σ) := fun σ => b_core (by decide) hl hc (by decide)
  have g1 : ¬ Int32.ofNat 0 = 1 := by decide
  unfold f_X1_finish f_X1_finish_59
  simp only [eLt, Option.bind_some, ↓reduceIte, K_23, R_23_0, R_23_1, R_23_2, K_3, K_4, K_24, K_l hl, K_w hl, R_l hl, R_l6 hl, true_and, and_true, eB, decide_true, decide_false, Bool.or_true, Bool.true_or, not_true_eq_false, not_false_eq_true, e4, bk, bc, g1]
  have h1 := H_free hl h
  refine c_bind (cs_become hl ho hc ?_ h1) (fun I2 h2 => ?_)
  · rw [aW_1 (by decide)]
    exact hown
  dsimp only
  have e5 : aW (aShares (aShares (aForgets (aW a 127 l (-1)) l) l o) l c) 124 l (-1) = aShares (aShares (aForgets (aW (aW a 127 l (-1)) 124 l (-1)) l) l o) l c := by
    rw [shares_2 ho hc, shares_2 ho hc, aW_cm (r := 126) (by decide), aW_cm (r := 125) (by decide)]
  rw [e5] at h2
  unfold aEndR
  refine c_bind (cs_gives (w := 1) (kd := 0) (N := 0) (Or.inl rfl) hl (by decide) hc (by decide) ?_ ?_ h2) (fun I3 h3 => c_ret h3)
  · rw [aShares_1 (by decide) (by decide) (by decide), aShares_1 (by decide) (by decide) (by decide), aForgets_1 (by decide) (by decide), aW_1 (by decide), aW_1 (by decide)]
    exact hv
  · rw [aShares_2, aShares_2]
    exact hq
theorem cs_finW (hl : l < 16) (hc : c < 4) (hb : a.1 127 l = 1) (hbc : a.1 128 l = Int32.ofNat c) (hv : aV (a.1 123 l)) (hq : (a.2 (10 + c)).length < 64) (h : CF I0 I a) :
    cOk (f_X1_finish 23 (25 + 2 * l) (I, J)) I0 J () (aEndW a l c) := by
  have n0 : aNt 1 = 1 := rfl
  have n1 : aNt (Int32.ofNat c) = c := i_tn (by omega)
  have hH := (h.1.1 l hl).2.2.2.2.1 (by rw [hb]; decide)
  rw [hb, hbc, n0, n1, g_1] at hH
  have e4 : eup I (25 + 2 * l) 3 0 (25 + 2 * l) 4 = Int32.ofNat (1 + 16 * l + 256 * c + 1024 * 0) := (up_k (by decide)).trans hH.1
  have bk : ∀ σ : eMem, f_X4_kindOf (Int32.ofNat (1 + 16 * l + 256 * c + 1024 * 0)) σ = some (Int32.ofNat 1, σ) := fun σ => b_kind (by decide)
  have bc : ∀ σ : eMem, f_X4_coreOf (Int32.ofNat (1 + 16 * l + 256 * c + 1024 * 0)) σ = some (Int32.ofNat c, σ) := fun σ => b_core (by decide) hl hc (by decide)
  have g1 : Int32.ofNat 1 = 1 := rfl
  unfold f_X1_finish f_X1_finish_59
  simp only [eLt, Option.bind_some, ↓reduceIte, K_23, R_23_0, R_23_1, R_23_2, K_3, K_4, K_24, K_l hl, K_w hl, R_l hl, R_l6 hl, true_and, and_true, eB, decide_true, decide_false, Bool.or_true, Bool.true_or, not_true_eq_false, not_false_eq_true, e4, bk, bc, g1]
  refine c_bind (cs_belong hl (H_free hl h)) (fun I2 h2 => ?_)
  dsimp only
  unfold aEndW
  refine c_bind (cs_gives (w := 3) (kd := 1) (N := 0) (Or.inr (Or.inr rfl)) hl (by decide) hc (by decide) ?_ ?_ h2) (fun I3 h3 => c_ret h3)
  · rw [aForgets_1 (by decide) (by decide), aW_1 (by decide), aW_1 (by decide)]
    exact hv
  · exact hq
/-- a row's cells moved down -/
def cSh (l : Nat) : Nat → Nat → (Nat → Nat → Int32) → Nat → Nat → Int32
  | 0, _, M => M
  | d + 1, k, M => cSh l d (k + 1) (eup M (26 + 2 * l) k (M (26 + 2 * l) (k + 1)))
theorem cSh_fr : ∀ d k M (r : Nat), ¬ r = 26 + 2 * l → cSh l d k M r = M r := by
  intro d
  induction d with
  | zero => intro k M r h; rfl
  | succ d ih =>
    intro k M r h
    unfold cSh
    rw [ih _ _ _ h, up_fr h]
theorem cSh_out : ∀ d k M i, i < k → cSh l d k M (26 + 2 * l) i = M (26 + 2 * l) i := by
  intro d
  induction d with
  | zero => intro k M i h; rfl
  | succ d ih =>
    intro k M i h
    unfold cSh
    rw [ih _ _ _ (by omega), up_k (by omega)]
theorem cSh_in : ∀ d k M i, k ≤ i → i < k + d → cSh l d k M (26 + 2 * l) i = M (26 + 2 * l) (i + 1) := by
  intro d
  induction d with
  | zero => intro k M i h1 h2; omega
  | succ d ih =>
    intro k M i h1 h2
    unfold cSh
    by_cases g : i = k
    · subst g
      rw [cSh_out _ _ _ _ (by omega), up_eq]
    · rw [ih _ _ _ (by omega) (by omega), up_k (by omega)]
theorem cs_shl (hl : l < 16) : ∀ d k N M, k + d = n → n < 4 → M (25 + 2 * l) 7 = Int32.ofNat n → d + 1 ≤ N →
    f_X2_takeFromRow_19 N (25 + 2 * l) x (Int32.ofNat k) (M, J) = some (x, (cSh l d k M, J)) := by
  intro d
  induction d with
  | zero =>
    intro k N M h1 h2 h3 h4
    obtain ⟨N, rfl⟩ := Nat.exists_eq_add_of_le h4
    rw [show 0 + 1 + N = N + 1 by omega, f_X2_takeFromRow_19]
    have g1 : (Int32.ofNat n ≤ Int32.ofNat k) = True := (i_le (by omega) (by omega)).trans (eq_true (by omega))
    unfold f_X2_takeFromRow_58
    simp only [eLt, Option.bind_some, ↓reduceIte, K_23, R_23_0, R_23_1, R_23_2, K_3, K_4, K_24, K_l hl, K_w hl, R_l hl, R_l6 hl, true_and, and_true, eB, decide_true, decide_false, Bool.or_true, Bool.true_or, not_true_eq_false, not_false_eq_true, h3, g1]
    rfl
  | succ d ih =>
    intro k N M h1 h2 h3 h4
    obtain ⟨N, rfl⟩ := Nat.exists_eq_add_of_le h4
    rw [show d + 1 + 1 + N = d + 1 + N + 1 by omega, f_X2_takeFromRow_19]
    have g1 : (Int32.ofNat n ≤ Int32.ofNat k) = False := (i_le (by omega) (by omega)).trans (eq_false (by omega))
    have g2 : (Int32.ofNat 4 ≤ Int32.ofNat (k + 1)) = False := (i_le (by omega) (by omega)).trans (eq_false (by omega))
    have g4 : eix (Int32.ofNat (k + 1)) 4 = true := i_ix (by omega) (by decide)
    have g5 : eix (Int32.ofNat k) 4 = true := i_ix (by omega) (by decide)
    have g6 : (Int32.ofNat k).toNatClampNeg = k := i_tn (by omega)
    have g7 : (Int32.ofNat (k + 1)).toNatClampNeg = k + 1 := i_tn (by omega)
    have g11 : (11 ≤ 11 ∧ 11 < 18) = True := eq_true ⟨by decide, by decide⟩
    simp only [eLt, Option.bind_some, ↓reduceIte, K_23, R_23_0, R_23_1, R_23_2, K_3, K_4, K_24, K_l hl, K_w hl, R_l hl, R_l6 hl, true_and, and_true, eB, decide_true, decide_false, Bool.or_true, Bool.true_or, not_true_eq_false, not_false_eq_true, h3, g1, p1, g2, g4, g5, g6, g7, g11]
    rw [ih (k + 1) _ _ (by omega) h2 (by rw [up_r (by omega)]; exact h3) (by omega)]
    rfl
theorem cs_rpop {ms : List aM} (hl : l < 16) (hr : a.2 (15 + l) = m :: ms) (h : CF I0 I a) : cOk (f_X2_takeFromRow (25 + 2 * l) (I, J)) I0 J (gCm m) (aL a (15 + l) ms) := by
  obtain ⟨h0, h1, h2, h3, h4, h7, h8, h9⟩ := h.1.1 l hl
  have h80 : ms.length + 1 ≤ 4 := by rw [hr] at h8; exact h8
  have h70 : I (25 + 2 * l) 7 - 1 = Int32.ofNat ms.length := by
    rw [h7, hr]
    exact i_sb (n := ms.length + 1) (m := 1) (by omega)
  have e0 : I (26 + 2 * l) 0 = gCm m := by
    have := h9 0 (by rw [hr]; simp)
    rw [this]
    simp only [hr]
    rfl
  have j0 : eix (0 : Int32) 4 = true := rfl
  have d0 : (0 : Int32).toNatClampNeg = 0 := rfl
  unfold f_X2_takeFromRow
  simp only [eLt, Option.bind_some, ↓reduceIte, K_23, R_23_0, R_23_1, R_23_2, K_3, K_4, K_24, K_l hl, K_w hl, R_l hl, R_l6 hl, true_and, and_true, eB, decide_true, decide_false, Bool.or_true, Bool.true_or, not_true_eq_false, not_false_eq_true, j0, d0, e0, h70]
  have := cs_shl (J := J) (x := gCm m) hl ms.length 0 1000000 (eup I (25 + 2 * l) 7 (Int32.ofNat ms.length)) (by omega) (by omega) up_eq (by omega)
  have z0 : Int32.ofNat 0 = 0 := rfl
  rw [z0] at this
  rw [this]
  have efr : ∀ r, ¬ r = 25 + 2 * l → ¬ r = 26 + 2 * l → cSh l ms.length 0 (eup I (25 + 2 * l) 7 (Int32.ofNat ms.length)) r = I r := by
    intro r g1 g2
    rw [cSh_fr _ _ _ _ g2, up_fr g1]
  have e5 : cSh l ms.length 0 (eup I (25 + 2 * l) 7 (Int32.ofNat ms.length)) (25 + 2 * l) = eup I (25 + 2 * l) 7 (Int32.ofNat ms.length) (25 + 2 * l) := cSh_fr _ _ _ _ (by omega)
  refine c_ret (C_home (a := a) hl efr (fun r i g => rfl) (fun q g => aL_k g) ?_ h)
  unfold HmOk
  rw [e5, up_k (by decide), up_k (by decide), up_k (by decide), up_k (by decide), up_k (by decide), up_k (by decide), up_eq, aL_e]
  refine ⟨h0, h1, h2, h3, h4, rfl, by omega, fun k hk => ?_⟩
  rw [cSh_in _ _ _ _ (by omega) (by omega), up_r (by omega)]
  have := h9 (k + 1) (by rw [hr]; simp; omega)
  rw [this]
  simp only [hr]
  rfl
theorem kF_eq (h5 : b.1 125 l = a.1 125 l) (h6 : b.1 126 l = a.1 126 l) (h : kF a l) : kF b l := by
  unfold kF at h ⊢
  rw [h5, h6]
  exact h
def shU (N c : Nat) : Bool := !decide (aPop (Int32.ofNat N) ≤ 2) || (decide (aPop (Int32.ofNat N) = 2) || (decide (aPop (aSetB (Int32.ofNat N) c) ≤ 2) && decide (aSetB (Int32.ofNat N) c = Int32.ofNat (aNt (aSetB (Int32.ofNat N) c)) ∧ aNt (aSetB (Int32.ofNat N) c) < 16)))
theorem sh_u : ∀ N, N < 16 → ∀ c, c < 4 → shU N c = true := by decide +kernel
theorem kF_shares (hc : c < 4) (h : kF a l) : kF (aShares a l c) l := by
  unfold aShares
  by_cases q1 : a.1 126 l = 0
  · obtain ⟨N, hN, hN2, hN3⟩ := h q1
    rw [if_neg (fun g => g q1)]
    by_cases q2 : aBit (a.1 125 l) c = true
    · rw [if_pos q2]
      exact h
    · rw [if_neg q2]
      by_cases q3 : aPop (a.1 125 l) = 2
      · rw [if_pos q3]
        intro g
        rw [aW_1 (by decide), aC_1 (by decide), aW_e] at g
        exact absurd g (by decide)
      · rw [if_neg q3]
        intro g
        have := sh_u N hN c hc
        unfold shU at this
        rw [hN3] at q3
        simp only [Bool.or_eq_true, Bool.and_eq_true, decide_eq_true_eq, Bool.not_eq_true', decide_eq_false_iff_not] at this
        rcases this with g1 | g1 | ⟨g1, g2, g3⟩
        · exact absurd hN2 g1
        · exact absurd g1 q3
        · refine ⟨_, g3, ?_, ?_⟩
          · rw [← g2]
            exact g1
          · rw [aW_e, hN3]
            exact g2
  · rw [if_pos q1]
    exact h
theorem kF_forgets : kF (aForgets a l) l := by
  intro g
  refine ⟨0, by decide, by decide, ?_⟩
  unfold aForgets
  rw [aW_1 (by decide), aW_e]
  rfl
theorem kF_gives {what : Nat} (h : kF a l) : kF (aGives a l c what) l := kF_eq (by rw [aGives_1 (by decide)]) (by rw [aGives_1 (by decide)]) h
theorem kF_ends (hc : aNt (a.1 128 l) < 4) (ho : a.1 127 l = 0 → aNt (a.1 124 l) < 4) (h : kF a l) : kF (aEnds a l) l := by
  unfold aEnds aEndR aEndW
  split
  · split
    · next g => exact kF_gives (kF_shares hc (kF_shares (ho g) kF_forgets))
    · exact kF_gives kF_forgets
  · exact h
theorem kF_does {kd : Nat} (hc : c < 4) (hk : kd < 3) (h : kF a l) : kF (aDoes a kd l c n) l := by
  unfold aDoes
  split
  · unfold aDoP
    refine kF_eq ?_ ?_ h
    · rw [aSend_1 (by decide)]
      split
      · rw [aW_1 (by decide), aW_1 (by decide)]
      · rfl
    · rw [aSend_1 (by decide)]
      split
      · rw [aW_1 (by decide), aW_1 (by decide)]
      · rfl
  · split
    · split
      · unfold aDoR
        split
        · exact kF_gives (kF_eq (by rw [aW_1 (by decide)]) (by rw [aW_1 (by decide)]) h)
        · exact kF_gives (kF_shares hc h)
      · next g =>
        unfold aDoW
        refine kF_ends ?_ (fun q => ?_) (kF_eq ?_ ?_ h)
        · rw [bc_wait]
          unfold aNt
          rw [i_tn (by omega)]
          exact hc
        · exfalso
          unfold aWaits at q
          rw [aW_1 (by decide), aW_1 (by decide), aW_e] at q
          have : (Int32.ofNat kd = 0) = (kd = 0) := i_eq (m := 0) (by omega) (by decide)
          rw [this] at q
          exact g q
        · rw [aWaits_1 (by decide) (by decide) (by decide), aKills_1 (by decide)]
        · rw [aWaits_1 (by decide) (by decide) (by decide), aKills_1 (by decide)]
    · unfold aDoO
      refine kF_eq ?_ ?_ h
      · rw [aWaits_1 (by decide) (by decide) (by decide), aSend_1 (by decide)]
      · rw [aWaits_1 (by decide) (by decide) (by decide), aSend_1 (by decide)]
/-- a row's messages are of its line -/
def roL (a : aS) (l : Nat) : Prop := ∀ m, m ∈ a.2 (15 + l) → m.2.1 = l
theorem cs_goes (hl : l < 16) : ∀ n i N a I m, (a.2 (15 + l)).length < n → (a.2 (15 + l)).length + i ≤ 4 → n + 1 ≤ N → hF a l → kF a l → roV a l → roL a l → aQ a m → m + n < 60 → CF I0 I a →
    cOk (f_X1_receiveAnswer_59 N 23 (25 + 2 * l) (Int32.ofNat i) (I, J)) I0 J () (aGoes n a l) := by
  intro n
  induction n with
  | zero => intro i N a I m h1; omega
  | succ n ih =>
    intro i N a I m h1 h1i h2 hf hK hv hL hq hm h
    obtain ⟨N, rfl⟩ := Nat.exists_eq_add_of_le h2
    rw [show n + 1 + 1 + N = n + 1 + N + 1 by omega, f_X1_receiveAnswer_59]
    obtain ⟨k0, k1, k2, k3, k4, k7, k8, k9⟩ := h.1.1 l hl
    have g0 : ((4 : Int32) ≤ Int32.ofNat i) = (4 ≤ i) := i_le (n := 4) (by decide) (by omega)
    have z0 : (Int32.ofNat (a.2 (15 + l)).length ≤ 0) = ((a.2 (15 + l)).length ≤ 0) := i_le (m := 0) (by omega) (by decide)
    unfold aGoes f_X1_receiveAnswer_93
    simp only [eLt, Option.bind_some, ↓reduceIte, K_23, R_23_0, R_23_1, R_23_2, K_3, K_4, K_24, K_l hl, K_w hl, R_l hl, R_l6 hl, true_and, and_true, eB, decide_true, decide_false, Bool.or_true, Bool.true_or, not_true_eq_false, not_false_eq_true, k3, k7, g0, z0]
    cases hr : a.2 (15 + l) with
    | nil =>
      have : ([] : List aM).length ≤ 0 := Nat.le_refl 0
      simp only [this, ↓reduceIte, ite_self]
      exact c_ret h
    | cons mm ms =>
      rw [hr] at h1 h1i
      have h1 : ms.length + 1 < n + 1 := h1
      have h1i : ms.length + 1 + i ≤ 4 := h1i
      have g1 : ¬ 4 ≤ i := by omega
      have g2 : ¬ (mm :: ms).length ≤ 0 := by simp
      simp only [g1, g2, ↓reduceIte]
      by_cases q : a.1 127 l = -1
      · simp only [q, ↓reduceIte, not_true_eq_false]
        obtain ⟨v1, v2, v3, v4⟩ := hv mm (by rw [hr]; exact List.mem_cons_self)
        have hll := hL mm (by rw [hr]; exact List.mem_cons_self)
        refine c_bind (cs_rpop hl hr h) (fun I1 h1c => ?_)
        dsimp only
        have hq2 : aQ (aL a (15 + l) ms) m := by
          intro q q1 q2
          rw [aL_k (by omega)]
          exact hq q q1 q2
        have hmm : mm = (mm.1, l, mm.2.2.1, mm.2.2.2) := by rw [← hll]
        rw [show gCm mm = gCm (mm.1, l, mm.2.2.1, mm.2.2.2) from congrArg gCm hmm]
        refine c_bind (cs_serve (a := aL a (15 + l) ms) hl v3 v1 v4 q hf hK hq2 (by omega) h1c) (fun I2 h2c => ?_)
        dsimp only
        rw [p1]
        have er : (aDoes (aL a (15 + l) ms) mm.1 l mm.2.2.1 mm.2.2.2).2 (15 + l) = ms := by
          rw [aDoes_q (a := aL a (15 + l) ms) (q := 15 + l) v3 hf.1 (by omega), aL_e]
        refine ih (i + 1) _ _ I2 (m + 1) ?_ ?_ (by omega) (hF_does v3 v4 hf) (kF_does v3 v1 hK) ?_ ?_ ?_ (by omega) h2c
        · rw [er]
          omega
        · rw [er]
          omega
        · intro m' hm'
          rw [er] at hm'
          exact hv m' (by rw [hr]; exact List.mem_cons_of_mem _ hm')
        · intro m' hm'
          rw [er] at hm'
          exact hL m' (by rw [hr]; exact List.mem_cons_of_mem _ hm')
        · intro q q1 q2
          have := hq2 q q1 q2
          have := aDoes_len (a := aL a (15 + l) ms) (l := l) (n := mm.2.2.2) (q := q) (kd := mm.1) v3
          omega
      · simp only [q, ↓reduceIte, show ¬ (1 : Int32) = 0 by decide, not_false_eq_true]
        exact c_ret h
end EPD
