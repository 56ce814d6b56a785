/-! the class's calls that only look -/
section EPD
variable {I I' I0 : Nat → Nat → Int32} {J : Nat → Nat → Int64} {a a' b : aS} {r i l q c k n p w z N o : Nat} {v t x y : Int32} {m : aM} {σ : eMem}
theorem l_tn (hl : l < 16) : (Int32.ofNat l).toNatClampNeg = l := i_tn (by omega)
theorem l_ix (hl : l < 16) : eix (Int32.ofNat l) 16 = true := i_ix hl (by decide)
theorem ct_stateOf (hc : c < 4) (hl : l < 16) (h : RepC I a) : cOp xE1 (f_X11_stateOf 2 (Int32.ofNat c) (Int32.ofNat l) (I, J)) I J (0, aStAt a c l + (if a.1 141 (16 * c + l) = -1 then 0 else 10), a) := by
  have h0 := CF_s h
  refine cOp_ok rfl ?_
  have G : ∀ s : Int32, s = aStAt a c l → cOk (f_X11_stateOf_31 2 (Int32.ofNat c) (Int32.ofNat l) s (I, J)) I J (.inr (aStAt a c l + (if a.1 141 (16 * c + l) = -1 then 0 else 10))) a := by
    intro s hs
    unfold f_X11_stateOf_31 f_X11_stateOf_58
    simp only [eThen, eLt, Option.bind_some, ↓reduceIte, K_2, R_2_0, R_2_1, R_2_2, R_2_3, K_57, K_3, K_4, K_23, K_24, R_23_0, R_23_1, R_23_2, true_and, and_true, eB, decide_true, decide_false, Bool.or_true, Bool.true_or, not_true_eq_false, not_false_eq_true, c_tn hc, c_ix hc, l_tn hl, l_ix hl, K_c74 hc, K_c75 hc, K_c76 hc, K_c77 hc, K_c78 hc, K_c79 hc, K_c80 hc, K_c81 hc, R_c hc, R_c1 hc, R_c2 hc, R_c3 hc, R_c4 hc, R_c5 hc, R_c6 hc, R_c8 hc, R_t5 hc, R_t6 hc, lv_l hc hl h0]
    by_cases q : a.1 141 (16 * c + l) = -1
    · simp only [q, not_true_eq_false, ↓reduceIte]
      rw [hs, Int32.add_zero]
      exact c_ret h0
    · simp only [q, not_false_eq_true, ↓reduceIte]
      rw [hs]
      exact c_ret h0
  unfold f_X11_stateOf
  simp only [nc_ok hc, nl_ok hl, eThen, eLt, Option.bind_some, ↓reduceIte, K_2, R_2_0, R_2_1, R_2_2, R_2_3, K_57, K_3, K_4, K_23, K_24, R_23_0, R_23_1, R_23_2, true_and, and_true, eB, decide_true, decide_false, Bool.or_true, Bool.true_or, not_true_eq_false, not_false_eq_true, c_tn hc, c_ix hc, K_c74 hc, K_c75 hc, K_c76 hc, K_c77 hc, K_c78 hc, K_c79 hc, K_c80 hc, K_c81 hc, R_c hc, R_c1 hc, R_c2 hc, R_c3 hc, R_c4 hc, R_c5 hc, R_c6 hc, R_c8 hc, R_t5 hc, R_t6 hc, cs_place hc hl h0]
  cases hP : aPl a c l with
  | none =>
    have e5 : pI c none = 0 := rfl
    simp only [e5, ↓reduceIte]
    exact G 0 (by unfold aStAt; rw [hP])
  | some p =>
    have hp := (aPl_lt hP).1
    have e5 : pI c (some p) = 82 + 12 * c + p := rfl
    have e6 : ¬ 82 + 12 * c + p = 0 := by omega
    simp only [e5, e6, ↓reduceIte, K_p hc hp, pl_1 hc hp h0]
    exact G _ (by unfold aStAt; rw [hP])
theorem ct_stateOfN (hb : (x < 0 ∨ 4 ≤ x) ∨ (y < 0 ∨ 16 ≤ y)) (h : RepC I a) : cOp xE1 (f_X11_stateOf 2 x y (I, J)) I J (1, 0, a) :=
  cOp_th 0 1 (two_no hb _) (by decide) rfl h
theorem ct_valueIn (hc : c < 4) (hl : l < 16) (hF : cF a c) (h : RepC I a) : cOp xE1 (f_X11_valueIn 2 (Int32.ofNat c) (Int32.ofNat l) (I, J)) I J (0, aValIn a c l, a) := by
  have h0 := CF_s h
  have h10 : ¬ (1 : Int32) = 0 := by decide
  refine cOp_ok rfl ?_
  unfold f_X11_valueIn f_X11_valueIn_37 f_X11_valueIn_38 aValIn
  simp only [nc_ok hc, nl_ok hl, eThen, eLt, Option.bind_some, ↓reduceIte, K_2, R_2_0, R_2_1, R_2_2, R_2_3, K_57, K_3, K_4, K_23, K_24, R_23_0, R_23_1, R_23_2, true_and, and_true, eB, decide_true, decide_false, Bool.or_true, Bool.true_or, not_true_eq_false, not_false_eq_true, c_tn hc, c_ix hc, K_c74 hc, K_c75 hc, K_c76 hc, K_c77 hc, K_c78 hc, K_c79 hc, K_c80 hc, K_c81 hc, R_c hc, R_c1 hc, R_c2 hc, R_c3 hc, R_c4 hc, R_c5 hc, R_c6 hc, R_c8 hc, R_t5 hc, R_t6 hc, cs_place hc hl h0]
  cases hP : aPl a c l with
  | none =>
    have e5 : pI c none = 0 := rfl
    simp only [e5, ↓reduceIte]
    exact c_ret h0
  | some p =>
    obtain ⟨hp, hat⟩ := aPl_lt hP
    have e5 : pI c (some p) = 82 + 12 * c + p := rfl
    have e6 : ¬ 82 + 12 * c + p = 0 := by omega
    have hst := (aAt_iff.1 hat).1
    have hvi := val_iff hF hp
    rw [decide_eq_false hst] at hvi
    simp only [e5, e6, ↓reduceIte, K_p hc hp, cs_hasV hc hp h0, Option.bind_some]
    cases hw : aWt (a.1 136 (4 * c + p)) with
    | true =>
      rw [hw] at hvi
      have hv : aVal (a.1 136 (4 * c + p)) = false := hvi
      simp only [hv, Bool.false_eq_true, ↓reduceIte]
      exact c_ret h0
    | false =>
      rw [hw] at hvi
      have hv : aVal (a.1 136 (4 * c + p)) = true := hvi
      simp only [hv, Bool.false_eq_true, ↓reduceIte, h10, pl_2 hc hp hv h0]
      exact c_ret h0
theorem ct_valueInN (hb : (x < 0 ∨ 4 ≤ x) ∨ (y < 0 ∨ 16 ≤ y)) (h : RepC I a) : cOp xE1 (f_X11_valueIn 2 x y (I, J)) I J (1, 0, a) :=
  cOp_th 0 1 (two_no hb _) (by decide) rfl h
theorem ct_home (hl : l < 16) (h : RepC I a) : cOp xE1 (f_X11_home 2 (Int32.ofNat l) (I, J)) I J (0, a.1 123 l, a) := by
  refine cOp_ok rfl ?_
  unfold f_X11_home
  simp only [nl_ok hl, eThen, eLt, Option.bind_some, ↓reduceIte, K_2, R_2_0, R_2_1, R_2_2, R_2_3, K_57, K_3, K_4, K_23, K_24, R_23_0, R_23_1, R_23_2, true_and, and_true, eB, decide_true, decide_false, Bool.or_true, Bool.true_or, not_true_eq_false, not_false_eq_true, l_tn hl, l_ix hl, R_l hl, K_l hl, (h.1 l hl).1]
  exact c_ret (CF_s h)
theorem ct_homeN (hb : x < 0 ∨ 16 ≤ x) (h : RepC I a) : cOp xE1 (f_X11_home 2 x (I, J)) I J (1, 0, a) := by
  refine cOp_th 0 1 ?_ (by decide) rfl h
  unfold f_X11_home
  rw [nl_no hb]
  rfl
theorem ct_owner (hl : l < 16) (h : RepC I a) : cOp xE1 (f_X11_owner 2 (Int32.ofNat l) (I, J)) I J (0, a.1 124 l, a) := by
  refine cOp_ok rfl ?_
  unfold f_X11_owner
  simp only [nl_ok hl, eThen, eLt, Option.bind_some, ↓reduceIte, K_2, R_2_0, R_2_1, R_2_2, R_2_3, K_57, K_3, K_4, K_23, K_24, R_23_0, R_23_1, R_23_2, true_and, and_true, eB, decide_true, decide_false, Bool.or_true, Bool.true_or, not_true_eq_false, not_false_eq_true, l_tn hl, l_ix hl, R_l hl, K_l hl, (h.1 l hl).2.1]
  exact c_ret (CF_s h)
theorem ct_ownerN (hb : x < 0 ∨ 16 ≤ x) (h : RepC I a) : cOp xE1 (f_X11_owner 2 x (I, J)) I J (1, 0, a) := by
  refine cOp_th 0 1 ?_ (by decide) rfl h
  unfold f_X11_owner
  rw [nl_no hb]
  rfl
theorem ct_sharers (hl : l < 16) (h : RepC I a) : cOp xE1 (f_X11_sharers 2 (Int32.ofNat l) (I, J)) I J (0, if a.1 126 l = 0 then a.1 125 l else 15, a) := by
  refine cOp_ok rfl ?_
  unfold f_X11_sharers
  simp only [nl_ok hl, eThen, eLt, Option.bind_some, ↓reduceIte, K_2, R_2_0, R_2_1, R_2_2, R_2_3, K_57, K_3, K_4, K_23, K_24, R_23_0, R_23_1, R_23_2, true_and, and_true, eB, decide_true, decide_false, Bool.or_true, Bool.true_or, not_true_eq_false, not_false_eq_true, l_tn hl, l_ix hl, R_l hl, K_l hl, (h.1 l hl).2.2.1]
  exact c_ret (CF_s h)
theorem ct_sharersN (hb : x < 0 ∨ 16 ≤ x) (h : RepC I a) : cOp xE1 (f_X11_sharers 2 x (I, J)) I J (1, 0, a) := by
  refine cOp_th 0 1 ?_ (by decide) rfl h
  unfold f_X11_sharers
  rw [nl_no hb]
  rfl
theorem ct_waiting (hl : l < 16) (h : RepC I a) : cOp xE1 (f_X11_waiting 2 (Int32.ofNat l) (I, J)) I J (0, Int32.ofNat (a.2 (15 + l)).length + (if a.1 127 l = -1 then 0 else 1), a) := by
  have h10 : ¬ (1 : Int32) = 0 := by decide
  refine cOp_ok rfl ?_
  unfold f_X11_waiting f_X11_waiting_34
  simp only [nl_ok hl, eThen, eLt, Option.bind_some, ↓reduceIte, K_2, R_2_0, R_2_1, R_2_2, R_2_3, K_57, K_3, K_4, K_23, K_24, R_23_0, R_23_1, R_23_2, true_and, and_true, eB, decide_true, decide_false, Bool.or_true, Bool.true_or, not_true_eq_false, not_false_eq_true, l_tn hl, l_ix hl, R_l hl, K_l hl, (h.1 l hl).2.2.2.1, (h.1 l hl).2.2.2.2.2.1]
  by_cases q : a.1 127 l = -1
  · simp only [q, ↓reduceIte, Int32.add_zero]
    exact c_ret (CF_s h)
  · simp only [q, ↓reduceIte, h10]
    exact c_ret (CF_s h)
theorem ct_waitingN (hb : x < 0 ∨ 16 ≤ x) (h : RepC I a) : cOp xE1 (f_X11_waiting 2 x (I, J)) I J (1, 0, a) := by
  refine cOp_th 0 1 ?_ (by decide) rfl h
  unfold f_X11_waiting
  rw [nl_no hb]
  rfl
theorem ct_counter (hk : k < 10) (h : RepC I a) : cOp xEA (f_X11_counter 2 (Int32.ofNat k) (I, J)) I J (0, a.1 153 k, a) := by
  have ht : (Int32.ofNat k).toNatClampNeg = k := i_tn (by omega)
  have hi : eix (Int32.ofNat k) 10 = true := i_ix hk (by decide)
  refine cOp_ok rfl ?_
  unfold f_X11_counter
  simp only [nw_ok (show ¬ Int32.ofNat k < 0 by rw [i_lt0 (by omega)]; exact not_false) (show Int32.ofNat k ≤ 9 by rw [show (Int32.ofNat k ≤ 9) = (k ≤ 9) from i_le (m := 9) (by omega) (by decide)]; omega), eThen, eLt, Option.bind_some, ↓reduceIte, K_2, R_2_0, R_2_1, R_2_2, R_2_3, K_57, K_3, K_4, K_23, K_24, R_23_0, R_23_1, R_23_2, true_and, and_true, eB, decide_true, decide_false, Bool.or_true, Bool.true_or, not_true_eq_false, not_false_eq_true, ht, hi, h.2.2.2.2.2.2.2 k hk]
  exact c_ret (CF_s h)
theorem ct_counterN (hb : x < 0 ∨ 9 < x) (h : RepC I a) : cOp xEA (f_X11_counter 2 x (I, J)) I J (1, 0, a) := by
  refine cOp_th 1 1 ?_ (by decide) rfl h
  unfold f_X11_counter
  rw [nw_no (hb.imp_right (fun g => by rw [i_nlt]; exact fun k => k g))]
  rfl
/-- the messages to the home that are ANSWERs -/
def anF (a : aS) : Prop := ∀ m, m ∈ a.2 14 → (m.1 = 8 ∨ m.1 = 9) ∧ m.2.1 < 16 ∧ m.2.2.1 < 4 ∧ m.2.2.2 < 1000
theorem aVl_ne {L : List aM} (h : ∀ m, m ∈ L → m.2.2.2 < 1000) : aVl l v L = if aVl l (-1) L = -1 then v else aVl l (-1) L := by
  induction L with
  | nil =>
    show v = if (-1 : Int32) = -1 then v else -1
    rw [if_pos rfl]
  | cons m ms ih =>
    unfold aVl
    by_cases q : m.1 = 8 ∧ m.2.1 = l
    · rw [if_pos q, if_pos q, if_neg]
      rw [i_ne1 (by have := h m List.mem_cons_self; omega)]
      exact not_false
    · rw [if_neg q, if_neg q]
      exact ih (fun m' hm' => h m' (List.mem_cons_of_mem _ hm'))
theorem cs_way (hl : l < 16) (ha : anF a) (h : RepC I a) : ∀ d k N, k + d = (a.2 14).length → 2 * d + 1 ≤ N →
    f_X3_valueOnTheWayHome_L2 N (.inl (4, Int32.ofNat l, Int32.ofNat k)) (I, J) = some (aVl l (-1) ((a.2 14).drop k), (I, J)) := by
  have hr := h.2.1 14 (by decide)
  obtain ⟨f, h1, h2, h3, h4, h5⟩ := hr
  have j14 : eix (14 : Int32) 15 = true := rfl
  have d14 : (14 : Int32).toNatClampNeg = 14 := rfl
  have h64 : ¬ (64 : Int32) = 0 := by decide
  intro d
  induction d with
  | zero =>
    intro k N g1 g2
    obtain ⟨N, rfl⟩ := Nat.exists_eq_add_of_le g2
    rw [show 2 * 0 + 1 + N = N + 1 by omega, f_X3_valueOnTheWayHome_L2]
    have g3 : (Int32.ofNat (a.2 14).length ≤ Int32.ofNat k) = True := (i_le (by omega) (by omega)).trans (eq_true (by omega))
    have g4 : (a.2 14).drop k = [] := List.drop_eq_nil_of_le (by omega)
    simp only [eThen, eLt, Option.bind_some, ↓reduceIte, K_2, R_2_0, R_2_1, R_2_2, R_2_3, K_57, K_3, K_4, K_23, K_24, R_23_0, R_23_1, R_23_2, true_and, and_true, eB, decide_true, decide_false, Bool.or_true, Bool.true_or, not_true_eq_false, not_false_eq_true, R_4_0, R_4_1, R_4_2, K_21, K_22, K_5, j14, d14, h3, g3, g4]
    rfl
  | succ d ih =>
    intro k N g1 g2
    obtain ⟨N, rfl⟩ := Nat.exists_eq_add_of_le g2
    rw [show 2 * (d + 1) + 1 + N = 2 * d + 1 + N + 1 + 1 by omega, f_X3_valueOnTheWayHome_L2]
    have hk : k < (a.2 14).length := by omega
    have g3 : (Int32.ofNat (a.2 14).length ≤ Int32.ofNat k) = False := (i_le (by omega) (by omega)).trans (eq_false (by omega))
    have g5 : Int32.ofNat f + Int32.ofNat k - (Int32.ofNat f + Int32.ofNat k) / 64 * 64 = Int32.ofNat ((f + k) % 64) := by
      rw [i_ad]
      exact i_md (m := 64) (by omega) (by decide)
    have hb : (f + k) % 64 < 64 := Nat.mod_lt _ (by decide)
    have g7 : eix (Int32.ofNat ((f + k) % 64)) 64 = true := i_ix hb (by decide)
    have g8 : (Int32.ofNat ((f + k) % 64)).toNatClampNeg = (f + k) % 64 := i_tn (by omega)
    have e1 : I (6 + 14) ((f + k) % 64) = gCm (a.2 14)[k] := h5 k hk
    have ed : (a.2 14).drop k = (a.2 14)[k] :: (a.2 14).drop (k + 1) := List.drop_eq_getElem_cons hk
    obtain ⟨m1, m2, m3, m4⟩ := ha _ (List.getElem_mem hk)
    have hmm : (a.2 14)[k] = (((a.2 14)[k]).1, ((a.2 14)[k]).2.1, ((a.2 14)[k]).2.2.1, ((a.2 14)[k]).2.2.2) := rfl
    have kl : (Int32.ofNat ((a.2 14)[k]).2.1 = Int32.ofNat l) = (((a.2 14)[k]).2.1 = l) := i_eq (by omega) (by omega)
    have ih1 := ih (k + 1) (2 * d + 1 + N) (by omega) (by omega)
    rw [ed]
    unfold aVl
    generalize (a.2 14)[k] = m at *
    obtain ⟨mk, ml, mc, mn⟩ := m
    dsimp only at *
    rcases m1 with q | q <;> subst q
    · have m1 : ¬ Int32.ofNat mn = -1 := by
        rw [i_ne1 (by omega)]
        exact not_false
      rw [g_8] at e1
      simp only [eThen, eLt, Option.bind_some, ↓reduceIte, K_2, R_2_0, R_2_1, R_2_2, R_2_3, K_57, K_3, K_4, K_23, K_24, R_23_0, R_23_1, R_23_2, true_and, and_true, eB, decide_true, decide_false, Bool.or_true, Bool.true_or, not_true_eq_false, not_false_eq_true, R_4_0, R_4_1, R_4_2, K_21, K_22, K_5, j14, d14, h3, g3, h64, h2, g5, R_q (show 14 < 15 by decide), K_q (show 14 < 15 by decide), g7, g8, e1, b_line (k := 10) (N := mn + 1) (by decide) m2 m3 (by omega), kl,
        b_val (k := 10) (N := mn + 1) (by decide) m2 m3 (by omega), b_v1, m1]
      by_cases q2 : ml = l
      · simp only [q2, not_true_eq_false, ↓reduceIte]
      · simp only [q2, not_false_eq_true, ↓reduceIte]
        rw [f_X3_valueOnTheWayHome_L2, p1]
        exact ih1
    · rw [g_9] at e1
      simp only [eThen, eLt, Option.bind_some, ↓reduceIte, K_2, R_2_0, R_2_1, R_2_2, R_2_3, K_57, K_3, K_4, K_23, K_24, R_23_0, R_23_1, R_23_2, true_and, and_true, eB, decide_true, decide_false, Bool.or_true, Bool.true_or, not_true_eq_false, not_false_eq_true, R_4_0, R_4_1, R_4_2, K_21, K_22, K_5, j14, d14, h3, g3, h64, h2, g5, R_q (show 14 < 15 by decide), K_q (show 14 < 15 by decide), g7, g8, e1, b_line (k := 10) (N := 0) (by decide) m2 m3 (by omega), kl,
        b_val (k := 10) (N := 0) (by decide) m2 m3 (by omega), b_v0, show ¬ 9 = 8 by decide, false_and]
      by_cases q2 : ml = l
      · simp only [q2, not_true_eq_false, ↓reduceIte]
        rw [f_X3_valueOnTheWayHome_L2, p1]
        exact ih1
      · simp only [q2, not_false_eq_true, ↓reduceIte]
        rw [f_X3_valueOnTheWayHome_L2, p1]
        exact ih1
theorem ct_truL (hc : c < 4) (hl : l < 16) (ha : anF a) (h : RepC I a) : cOk (f_X11_truth_72 2 (Int32.ofNat l) (a.1 123 l) (Int32.ofNat c) (I, J)) I J (.inr (aTruL a c l)) a := by
  have h0 := CF_s h
  unfold f_X11_truth_72 f_X11_truth_121 aTruL
  simp only [eThen, eLt, Option.bind_some, ↓reduceIte, K_2, R_2_0, R_2_1, R_2_2, R_2_3, K_57, K_3, K_4, K_23, K_24, R_23_0, R_23_1, R_23_2, true_and, and_true, eB, decide_true, decide_false, Bool.or_true, Bool.true_or, not_true_eq_false, not_false_eq_true, c_tn hc, c_ix hc, l_tn hl, l_ix hl, K_c74 hc, K_c75 hc, K_c76 hc, K_c77 hc, K_c78 hc, K_c79 hc, K_c80 hc, K_c81 hc, R_c hc, R_c1 hc, R_c2 hc, R_c3 hc, R_c4 hc, R_c5 hc, R_c6 hc, R_c8 hc, R_t5 hc, R_t6 hc, lv_l hc hl h0]
  by_cases q : a.1 141 (16 * c + l) = -1
  · simp only [q, ↓reduceIte]
    have hlen : (a.2 14).length ≤ 64 := (Rng_len (h.2.1 14 (by decide))).2
    have := cs_way (J := J) hl ha h (a.2 14).length 0 1000000 (by omega) (by omega)
    have z0 : Int32.ofNat 0 = 0 := rfl
    rw [z0, List.drop_zero] at this
    unfold f_X3_valueOnTheWayHome
    rw [this, Option.bind_some, aVl_ne (v := a.1 123 l) (fun m hm => (ha m hm).2.2.2)]
    by_cases q2 : aVl l (-1) (a.2 14) = -1
    · simp only [q2, not_true_eq_false, ↓reduceIte]
      exact c_ret h0
    · simp only [q2, not_false_eq_true, ↓reduceIte]
      exact c_ret h0
  · simp only [q, ↓reduceIte]
    exact c_ret h0
theorem ct_truth (hl : l < 16) (hf : hF a l) (ha : anF a) (h : RepC I a) : cOp xE1 (f_X11_truth 2 (Int32.ofNat l) (I, J)) I J (0, aTru a l, a) := by
  have h0 := CF_s h
  have h10 : ¬ (1 : Int32) = 0 := by decide
  refine cOp_ok rfl ?_
  unfold f_X11_truth f_X11_truth_39 aTru
  simp only [nl_ok hl, eThen, eLt, Option.bind_some, ↓reduceIte, K_2, R_2_0, R_2_1, R_2_2, R_2_3, K_57, K_3, K_4, K_23, K_24, R_23_0, R_23_1, R_23_2, true_and, and_true, eB, decide_true, decide_false, Bool.or_true, Bool.true_or, not_true_eq_false, not_false_eq_true, l_tn hl, l_ix hl, R_l hl, K_l hl, (h.1 l hl).1, (h.1 l hl).2.1]
  rcases hf.1 with q | ⟨o, ho, q⟩
  · have g : ((-1 : Int32) < 0) = True := eq_true (by decide)
    simp only [q, g, ↓reduceIte]
    exact c_ret h0
  · have q1 : (Int32.ofNat o < 0) = False := i_lt0 (by omega)
    have q2 : (Int32.ofNat o < 4) = True := (i_lt (m := 4) (by omega) (by decide)).trans (eq_true ho)
    have q3 : (Int32.ofNat o = -1) = False := i_ne1 (by omega)
    have q4 : aNt (Int32.ofNat o) = o := i_tn (by omega)
    simp only [q, q1, q2, q3, q4, ↓reduceIte, c_tn ho, c_ix ho, R_c ho, K_c74 ho, cs_place ho hl h0, Option.bind_some, true_and]
    cases hP : aPl a o l with
    | none =>
      have e5 : pI o none = 0 := rfl
      simp only [e5, ↓reduceIte]
      exact ct_truL ho hl ha h
    | some p =>
      have hp := (aPl_lt hP).1
      have e5 : pI o (some p) = 82 + 12 * o + p := rfl
      have e6 : ¬ 82 + 12 * o + p = 0 := by omega
      simp only [e5, e6, ↓reduceIte, K_p ho hp, cs_may ho hp h0, Option.bind_some]
      by_cases q5 : aOwn (a.1 136 (4 * o + p)) = true
      · simp only [q5, ↓reduceIte, h10, pl_2 ho hp (own_val q5) h0]
        exact c_ret h0
      · simp only [q5, ↓reduceIte, Bool.false_eq_true]
        exact ct_truL ho hl ha h
theorem ct_truthN (hb : x < 0 ∨ 16 ≤ x) (h : RepC I a) : cOp xE1 (f_X11_truth 2 x (I, J)) I J (1, 0, a) := by
  refine cOp_th 0 1 ?_ (by decide) rfl h
  unfold f_X11_truth
  rw [nl_no hb]
  rfl
end EPD
