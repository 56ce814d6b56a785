/-! the class's calls: deliver, pump, queued -/
section EPD
variable {I I' I0 : Nat → Nat → Int32} {J : Nat → Nat → Int64} {a a' b : aS} {r i l q c k n p w z N o : Nat} {v t x y : Int32} {m : aM} {σ : eMem}
/-- what must hold for a message that has been taken from its queue -/
def kD (a : aS) (q : Nat) (m : aM) : Prop := m.1 < 10 ∧ m.2.1 < 16 ∧ m.2.2.1 < 4 ∧ m.2.2.2 < 1000 ∧
  ((q % 5 < 4 ∧ eD a (q % 5) m) ∨
   (q = 4 ∧ m.1 < 3 ∧ hF a m.2.1 ∧ kF a m.2.1 ∧ (a.2 (15 + m.2.1)).length < 4 ∧ (a.1 127 m.2.1 = -1 → a.2 (15 + m.2.1) = [])) ∨
   (q = 14 ∧ (m.1 = 8 ∨ m.1 = 9) ∧ wF a m.2.1 ∧ hF a m.2.1 ∧ kF a m.2.1 ∧ roV a m.2.1 ∧ roL a m.2.1))
theorem gC_pos (hm : m.1 < 10) (hl : m.2.1 < 16) (hc : m.2.2.1 < 4) (hn : m.2.2.2 < 1000) : (gCm m = -1) = False := by
  obtain ⟨kk, cc, N, g1, g2, g3, g4⟩ := gC_l2 hm hl hc hn (fun _ => hc)
  rw [g4]
  exact i_ne1 (by omega)
theorem cs_d62 (hm : m.1 < 10) (hl : m.2.1 < 16) (hc : m.2.2.1 < 4) (hn : m.2.2.2 < 1000) : f_X11_deliverFirst_62 (gCm m) σ = some (Int32.ofNat m.2.1, σ) := by
  obtain ⟨kk, cc, N, g1, g2, g3, g4⟩ := gC_l2 hm hl hc hn (fun _ => hc)
  unfold f_X11_deliverFirst_62
  rw [g4, b_line g1 hl g2 g3]
  rfl
theorem cs_del {ms : List aM} (hw : w < 3) (hz : z < 5) (hL : a.2 (5 * w + z) = m :: ms) (hD : kD (aL a (5 * w + z) ms) (5 * w + z) m) (hQ : aQ (aL a (5 * w + z) ms) 49) (h : CF I0 I a) :
    cOk (f_X11_deliverFirst 2 (Int32.ofNat w) (Int32.ofNat z) (I, J)) I0 J (Int32.ofNat m.2.1) (aDel a (5 * w + z)) := by
  obtain ⟨hm, hl, hc, hn, hk⟩ := hD
  have g0 : (Int32.ofNat z < 0) = False := i_lt0 (by omega)
  have g4 : ((4 : Int32) ≤ Int32.ofNat z) = (4 ≤ z) := i_le (n := 4) (by decide) (by omega)
  have w0 : (Int32.ofNat w = 0) = (w = 0) := i_eq (m := 0) (by omega) (by decide)
  unfold f_X11_deliverFirst f_X11_deliverFirst_39
  simp only [eThen, eLt, Option.bind_some, ↓reduceIte, K_2, R_2_0, R_2_1, R_2_2, R_2_3, K_57, K_3, K_4, K_23, true_and, and_true, eB, decide_true, decide_false, Bool.or_true, Bool.true_or, not_true_eq_false, not_false_eq_true]
  rw [aDel_cons hL]
  refine c_bind (cs_take hw hz hL h) (fun I1 h1 => ?_)
  simp only [gC_pos hm hl hc hn, g0, g4, w0, eThen, eLt, Option.bind_some, ↓reduceIte, K_2, R_2_0, R_2_1, R_2_2, R_2_3, K_57, K_3, K_4, K_23, true_and, and_true, eB, decide_true, decide_false, Bool.or_true, Bool.true_or, not_true_eq_false, not_false_eq_true]
  rcases hk with ⟨k1, k2⟩ | ⟨k1, k2, k3, k4, k5, k6⟩ | ⟨k1, k2, k3, k4, k5, k6, k7⟩
  · have hz4 : z < 4 := by omega
    have e5 : (5 * w + z) % 5 = z := by omega
    have eg : aGot (aL a (5 * w + z) ms) (5 * w + z) m = aCore (aL a (5 * w + z) ms) z m := by
      unfold aGot
      rw [if_neg (by omega), if_neg (by omega), e5]
    rw [e5] at k2
    rw [eg]
    have n1 : ¬ 4 ≤ z := by omega
    simp only [n1, ↓reduceIte, c_tn hz4, c_ix hz4, R_c hz4, K_c74 hz4]
    refine c_bind (cs_recv hz4 k2 ?_ h1) (fun I2 h2 => ?_)
    · have := hQ 14 (by decide) (by decide)
      omega
    · dsimp only
      rw [cs_d62 hm hl hc hn]
      exact c_ret h2
  · have hz4 : z = 4 := by omega
    have hw0 : w = 0 := by omega
    subst hz4 hw0
    have eg : aGot (aL a (5 * 0 + 4) ms) (5 * 0 + 4) m = aReq (aL a (5 * 0 + 4) ms) m := by
      unfold aGot
      rw [if_pos (by decide)]
    rw [eg]
    simp only [Nat.le_refl, ↓reduceIte, not_true_eq_false]
    refine c_bind (cs_req k2 hl hc hn k3 k4 k5 k6 hQ (by decide) h1) (fun I2 h2 => ?_)
    dsimp only
    rw [cs_d62 hm hl hc hn]
    exact c_ret h2
  · have hz4 : z = 4 := by omega
    have hw0 : w = 2 := by omega
    subst hz4 hw0
    have eg : aGot (aL a (5 * 2 + 4) ms) (5 * 2 + 4) m = aAnsw (aL a (5 * 2 + 4) ms) m := by
      unfold aGot
      rw [if_neg (by decide), if_pos (by decide)]
    rw [eg]
    simp only [Nat.le_refl, ↓reduceIte, show ¬ 2 = 0 by decide, not_false_eq_true]
    refine c_bind (cs_answ k2 hl hc hn k3 k4 k5 k6 k7 hQ (by decide) h1) (fun I2 h2 => ?_)
    dsimp only
    rw [cs_d62 hm hl hc hn]
    exact c_ret h2
theorem z_ni (hz : z < 5) : f_X11_needIndex (Int32.ofNat z) 5 σ = some (.inr (), σ) :=
  ni_ok (by rw [i_lt0 (by omega)]; exact not_false) (by rw [show (Int32.ofNat z < 5) = (z < 5) from i_lt (m := 5) (by omega) (by decide)]; exact hz)
theorem w_nw (hw : w < 3) : f_X11_needWithin (Int32.ofNat w) 0 2 σ = some (.inr (), σ) :=
  nw_ok (by rw [i_lt0 (by omega)]; exact not_false) (by rw [show (Int32.ofNat w ≤ 2) = (w ≤ 2) from i_le (m := 2) (by omega) (by decide)]; omega)
theorem y_ni (hb : y < 0 ∨ ¬ y ≤ 4) : f_X11_needIndex y 5 σ = some (.inl 0, σ) := by
  refine ni_no (hb.imp_right (fun g k => g ?_))
  rw [Int32.lt_iff_toInt_lt] at k
  rw [Int32.le_iff_toInt_le]
  have h5 : (5 : Int32).toInt = 5 := by decide
  have h4 : (4 : Int32).toInt = 4 := by decide
  rw [h5] at k
  rw [h4]
  omega
theorem y_ok (h0 : ¬ y < 0) (h1 : y ≤ 4) : f_X11_needIndex y 5 σ = some (.inr (), σ) := by
  refine ni_ok h0 ?_
  rw [Int32.lt_iff_toInt_lt]
  rw [Int32.le_iff_toInt_le] at h1
  have h5 : (5 : Int32).toInt = 5 := by decide
  have h4 : (4 : Int32).toInt = 4 := by decide
  rw [h4] at h1
  rw [h5]
  omega
theorem ct_deliver (hw : w < 3) (hz : z < 5) (hD : ∀ m ms, a.2 (5 * w + z) = m :: ms → kD (aL a (5 * w + z) ms) (5 * w + z) m ∧ aQ (aL a (5 * w + z) ms) 49) (h : RepC I a) :
    cOp xE3 (f_X11_deliver 2 (Int32.ofNat w) (Int32.ofNat z) (I, J)) I J (match a.2 (5 * w + z) with
      | [] => (3, 0, a)
      | m :: _ => (0, Int32.ofNat m.2.1, aDel a (5 * w + z))) := by
  have h0 := CF_s h
  have hlen : (a.2 (5 * w + z)).length ≤ 64 := (Rng_len (h.2.1 (5 * w + z) (by omega))).2
  cases hL : a.2 (5 * w + z) with
  | nil =>
    refine cOp_th 2 3 ?_ (by decide) (by decide) h
    unfold f_X11_deliver
    simp only [z_ni hz, w_nw hw, eThen, eLt, Option.bind_some, ↓reduceIte, K_2, R_2_0, R_2_1, R_2_2, R_2_3, K_57, K_3, K_4, K_23, true_and, and_true, eB, decide_true, decide_false, Bool.or_true, Bool.true_or, not_true_eq_false, not_false_eq_true, cs_size hw hz h, hL]
    rfl
  | cons m ms =>
    obtain ⟨d1, d2⟩ := hD m ms hL
    refine cOp_ok rfl ?_
    rw [hL] at hlen
    have : (Int32.ofNat (m :: ms).length = 0) = False := (i_eq (m := 0) (Nat.lt_of_le_of_lt hlen (by decide)) (by decide)).trans (eq_false (Nat.succ_ne_zero _))
    unfold f_X11_deliver
    simp only [z_ni hz, w_nw hw, eThen, eLt, Option.bind_some, ↓reduceIte, K_2, R_2_0, R_2_1, R_2_2, R_2_3, K_57, K_3, K_4, K_23, true_and, and_true, eB, decide_true, decide_false, Bool.or_true, Bool.true_or, not_true_eq_false, not_false_eq_true, cs_size hw hz h, hL, this]
    exact c_bind (cs_del hw hz hL d1 d2 h0) (fun I1 h1 => c_ret h1)
theorem ct_deliver1 (hb : y < 0 ∨ ¬ y ≤ 4) (h : RepC I a) : cOp xE3 (f_X11_deliver 2 x y (I, J)) I J (1, 0, a) := by
  refine cOp_th 0 1 ?_ (by decide) (by decide) h
  unfold f_X11_deliver
  rw [y_ni hb]
  rfl
theorem ct_deliver2 (h0 : ¬ y < 0) (h1 : y ≤ 4) (hb : x < 0 ∨ ¬ x ≤ 2) (h : RepC I a) : cOp xE3 (f_X11_deliver 2 x y (I, J)) I J (2, 0, a) := by
  refine cOp_th 1 2 ?_ (by decide) (by decide) h
  unfold f_X11_deliver
  rw [y_ok h0 h1]
  show eThen (f_X11_needWithin x 0 2 (I, J)) _ = _
  rw [nw_no hb]
  rfl
theorem ct_queued (hw : w < 3) (hz : z < 5) (h : RepC I a) : cOp xEQ (f_X11_queued 2 (Int32.ofNat w) (Int32.ofNat z) (I, J)) I J (0, Int32.ofNat (a.2 (5 * w + z)).length, a) := by
  refine cOp_ok rfl ?_
  unfold f_X11_queued
  simp only [z_ni hz, w_nw hw, eThen, eLt, Option.bind_some, ↓reduceIte, K_2, R_2_0, R_2_1, R_2_2, R_2_3, K_57, K_3, K_4, K_23, true_and, and_true, eB, decide_true, decide_false, Bool.or_true, Bool.true_or, not_true_eq_false, not_false_eq_true, cs_size hw hz h]
  exact c_ret (CF_s h)
theorem ct_queued1 (hb : y < 0 ∨ ¬ y ≤ 4) (h : RepC I a) : cOp xEQ (f_X11_queued 2 x y (I, J)) I J (1, 0, a) := by
  refine cOp_th 0 1 ?_ (by decide) (by decide) h
  unfold f_X11_queued
  rw [y_ni hb]
  rfl
theorem ct_queued2 (h0 : ¬ y < 0) (h1 : y ≤ 4) (hb : x < 0 ∨ ¬ x ≤ 2) (h : RepC I a) : cOp xEQ (f_X11_queued 2 x y (I, J)) I J (2, 0, a) := by
  refine cOp_th 1 2 ?_ (by decide) (by decide) h
  unfold f_X11_queued
  rw [y_ok h0 h1]
  show eThen (f_X11_needWithin x 0 2 (I, J)) _ = _
  rw [nw_no hb]
  rfl
/-- what keeps on holding while messages are delivered -/
def dOk2 (P : Nat → aS → Prop) : Prop := (∀ u, u < 400 → ∀ a q m ms, P u a → q < 15 → a.2 q = m :: ms → kD (aL a q ms) q m ∧ aQ (aL a q ms) 49 ∧ P (u + 1) (aDel a q)) ∧ ∀ u, u < 400 → ∀ a, P u a → P (u + 1) a
theorem ct_pm1 {P : Nat → aS → Prop} {s : Nat × aS} {w z u : Nat} {x1 x3 : Int32} {V : Nat ⊕ Int32} (hP : dOk2 P) (hu : u < 400) (hw : w < 3) (hz : z < 5) (hp : P u s.2) (h : CF I0 I s.2)
    (H : ∀ I1, CF I0 I1 (aPm1 s (5 * w + z)).2 → P (u + 1) (aPm1 s (5 * w + z)).2 →
      cOk (f_X11_pump_L11 n (.inr (.inr (.inl (2, x1, Int32.ofNat (aPm1 s (5 * w + z)).1, x3, Int32.ofNat w, Int32.ofNat (z + 1))))) (I1, J)) I0 J V b) :
    cOk (f_X11_pump_L11 (n + 2) (.inr (.inr (.inl (2, x1, Int32.ofNat s.1, x3, Int32.ofNat w, Int32.ofNat z)))) (I, J)) I0 J V b := by
  have hlen : (s.2.2 (5 * w + z)).length ≤ 64 := (Rng_len (h.1.2.1 (5 * w + z) (by omega))).2
  have g1 : ((5 : Int32) ≤ Int32.ofNat z) = False := (i_le (n := 5) (by decide) (by omega)).trans (eq_false (by omega))
  rw [f_X11_pump_L11]
  simp only [g1, eThen, eLt, Option.bind_some, ↓reduceIte, K_2, R_2_0, R_2_1, R_2_2, R_2_3, K_57, K_3, K_4, K_23, true_and, and_true, eB, decide_true, decide_false, Bool.or_true, Bool.true_or, not_true_eq_false, not_false_eq_true, cs_size hw hz h.1]
  unfold aPm1 at H
  cases hL : s.2.2 (5 * w + z) with
  | nil =>
    rw [hL] at H
    have g2 : (Int32.ofNat ([] : List aM).length ≤ 0) = True := eq_true (by decide)
    simp only [g2, ↓reduceIte]
    rw [f_X11_pump_L11, p1]
    exact H I h (hP.2 _ hu _ hp)
  | cons m ms =>
    rw [hL] at H hlen
    have g2 : (Int32.ofNat (m :: ms).length ≤ 0) = False := (i_le (m := 0) (Nat.lt_of_le_of_lt hlen (by decide)) (by decide)).trans (eq_false (by simp))
    simp only [g2, ↓reduceIte]
    obtain ⟨d1, d2, d3⟩ := hP.1 _ hu _ _ _ _ hp (by omega) hL
    refine c_bind (cs_del hw hz hL d1 d2 h) (fun I1 h1 => ?_)
    dsimp only
    rw [f_X11_pump_L11, p1, p1]
    exact H I1 h1 d3
theorem ct_pmW {P : Nat → aS → Prop} {s : Nat × aS} {w u : Nat} {x1 x3 : Int32} {V : Nat ⊕ Int32} (hP : dOk2 P) (hu : u + 5 ≤ 400) (hw : w < 3) (hp : P u s.2) (h : CF I0 I s.2)
    (H : ∀ I1, CF I0 I1 (aPmW s w).2 → P (u + 5) (aPmW s w).2 →
      cOk (f_X11_pump_L11 n (.inr (.inl (2, x1, Int32.ofNat (aPmW s w).1, x3, Int32.ofNat w + (-1)))) (I1, J)) I0 J V b) :
    cOk (f_X11_pump_L11 (n + 12) (.inr (.inl (2, x1, Int32.ofNat s.1, x3, Int32.ofNat w))) (I, J)) I0 J V b := by
  rw [f_X11_pump_L11]
  simp only [i_lt0 (show w < 2147483648 by omega), ↓reduceIte]
  refine ct_pm1 (z := 0) (n := n + 9) hP (by omega) hw (by decide) hp h (fun I1 h1 p1 => ?_)
  refine ct_pm1 (z := 1) (n := n + 7) hP (by omega) hw (by decide) p1 h1 (fun I1 h1 p1 => ?_)
  refine ct_pm1 (z := 2) (n := n + 5) hP (by omega) hw (by decide) p1 h1 (fun I1 h1 p1 => ?_)
  refine ct_pm1 (z := 3) (n := n + 3) hP (by omega) hw (by decide) p1 h1 (fun I1 h1 p1 => ?_)
  refine ct_pm1 (z := 4) (n := n + 1) hP (by omega) hw (by decide) p1 h1 (fun I1 h1 p1 => ?_)
  rw [f_X11_pump_L11]
  have g1 : ((5 : Int32) ≤ Int32.ofNat (4 + 1)) = True := eq_true (by decide)
  simp only [g1, ↓reduceIte]
  exact H I1 h1 p1
theorem ct_pmR {P : Nat → aS → Prop} {s : Nat × aS} {u : Nat} {x1 x3 : Int32} {V : Nat ⊕ Int32} (hP : dOk2 P) (hu : u + 15 ≤ 400) (hx : ¬ x1 ≤ x3) (hp : P u s.2) (h : CF I0 I s.2)
    (H : ∀ I1, CF I0 I1 (aPmR s).2 → P (u + 15) (aPmR s).2 → cOk (f_X11_pump_L11 n (.inl (2, x1, Int32.ofNat (aPmR s).1, x3 + 1)) (I1, J)) I0 J V b) :
    cOk (f_X11_pump_L11 (n + 38) (.inl (2, x1, Int32.ofNat s.1, x3)) (I, J)) I0 J V b := by
  rw [aPmR_eq] at H
  rw [f_X11_pump_L11]
  simp only [hx, ↓reduceIte]
  refine ct_pmW (w := 2) (n := n + 25) hP (by omega) (by decide) hp h (fun I1 h1 p1 => ?_)
  refine ct_pmW (w := 1) (n := n + 13) hP (by omega) (by decide) p1 h1 (fun I1 h1 p1 => ?_)
  refine ct_pmW (w := 0) (n := n + 1) hP (by omega) (by decide) p1 h1 (fun I1 h1 p1 => ?_)
  rw [f_X11_pump_L11]
  have g1 : (Int32.ofNat 0 + (-1) < 0) = True := eq_true (by decide)
  simp only [g1, ↓reduceIte]
  exact H I1 h1 p1
theorem P_m1 {P : Nat → aS → Prop} {s : Nat × aS} {q u : Nat} (hP : dOk2 P) (hu : u < 400) (hq : q < 15) (hp : P u s.2) : P (u + 1) (aPm1 s q).2 := by
  unfold aPm1
  cases hL : s.2.2 q with
  | nil => exact hP.2 _ hu _ hp
  | cons m ms => exact (hP.1 _ hu _ _ _ _ hp hq hL).2.2
theorem P_mW {P : Nat → aS → Prop} {s : Nat × aS} {w u : Nat} (hP : dOk2 P) (hu : u + 5 ≤ 400) (hw : w < 3) (hp : P u s.2) : P (u + 5) (aPmW s w).2 := by
  unfold aPmW
  exact P_m1 (u := u + 4) hP (by omega) (by omega) (P_m1 (u := u + 3) hP (by omega) (by omega) (P_m1 (u := u + 2) hP (by omega) (by omega) (P_m1 (u := u + 1) hP (by omega) (by omega) (P_m1 hP (by omega) (by omega) hp))))
theorem P_mR {P : Nat → aS → Prop} {s : Nat × aS} {u : Nat} (hP : dOk2 P) (hu : u + 15 ≤ 400) (hp : P u s.2) : P (u + 15) (aPmR s).2 := by
  rw [aPmR_eq]
  exact P_mW (u := u + 10) hP (by omega) (by decide) (P_mW (u := u + 5) hP (by omega) (by decide) (P_mW hP (by omega) (by decide) hp))
theorem P_mN {P : Nat → aS → Prop} (hP : dOk2 P) : ∀ d s u, u + 15 * d ≤ 400 → P u s.2 → P (u + 15 * d) (aPm d s).2 := by
  intro d
  induction d with
  | zero => intro s u _ hp; exact hp
  | succ d ih =>
    intro s u hu hp
    have := ih (aPmR s) (u + 15) (by omega) (P_mR hP (by omega) hp)
    rw [show u + 15 * (d + 1) = u + 15 + 15 * d by omega]
    exact this
theorem ct_pmN {P : Nat → aS → Prop} {N : Nat} (hP : dOk2 P) (hN : N < 1000) : ∀ d j s I u, j + d = N → u + 15 * d ≤ 400 → P u s.2 → CF I0 I s.2 →
    cOk (f_X11_pump_L11 (n + 38 * d + 1) (.inl (2, Int32.ofNat N, Int32.ofNat s.1, Int32.ofNat j)) (I, J)) I0 J (.inr (Int32.ofNat (aPm d s).1)) (aPm d s).2 := by
  intro d
  induction d with
  | zero =>
    intro j s I u h1 hu hp h
    have : j = N := by omega
    subst this
    rw [f_X11_pump_L11]
    simp only [i_le (n := j) (m := j) (by omega) (by omega), Nat.le_refl, ↓reduceIte]
    exact c_ret h
  | succ d ih =>
    intro j s I u h1 hu hp h
    rw [show n + 38 * (d + 1) + 1 = n + 38 * d + 1 + 38 by omega]
    refine ct_pmR hP (by omega) ?_ hp h (fun I1 h2 p2 => ?_)
    · rw [i_le (by omega) (by omega)]
      omega
    · rw [p1]
      exact ih (j + 1) _ I1 _ (by omega) (by omega) p2 h2
theorem ct_pump {P : Nat → aS → Prop} {N u : Nat} (hP : dOk2 P) (hu : u ≤ 100) (h1 : 1 ≤ N) (h2 : N ≤ 20) (hp : P u a) (h : RepC I a) :
    cOp xEA (f_X11_pump 2 (Int32.ofNat N) (I, J)) I J (0, Int32.ofNat (aPm N (0, a)).1, (aPm N (0, a)).2) ∧ P (u + 15 * N) (aPm N (0, a)).2 := by
  obtain ⟨n, hn⟩ := Nat.exists_eq_add_of_le (show 38 * N + 1 ≤ 1000000 by omega)
  have hh := ct_pmN (J := J) (n := n) hP (show N < 1000 by omega) N 0 (0, a) I u (by omega) (by omega) hp (CF_s h)
  refine ⟨cOp_ok rfl ?_, P_mN hP N (0, a) u (by omega) hp⟩
  unfold f_X11_pump
  rw [nw_ok (by rw [show (Int32.ofNat N < 1) = (N < 1) from i_lt (m := 1) (by omega) (by decide)]; omega) (by rw [show (Int32.ofNat N ≤ 20) = (N ≤ 20) from i_le (m := 20) (by omega) (by decide)]; exact h2)]
  rw [show 1000000 = n + 38 * N + 1 by omega]
  exact hh
theorem ct_pumpN (hb : x < 1 ∨ 20 < x) (h : RepC I a) : cOp xEA (f_X11_pump 2 x (I, J)) I J (1, 0, a) := by
  refine cOp_th 1 1 ?_ (by decide) rfl h
  unfold f_X11_pump
  rw [nw_no (hb.imp_right (fun g => by rw [i_nlt]; exact fun k => k g))]
  rfl
end EPD
