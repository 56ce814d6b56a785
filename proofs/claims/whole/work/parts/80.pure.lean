/-! the class: stores, additions, transactions -/
section EPD
variable {I I' I0 : Nat → Nat → Int32} {J : Nat → Nat → Int64} {a a' b : aS} {r i l q c k n p w z N o : Nat} {v t x y : Int32} {m : aM} {σ : eMem}
theorem cs_room (hc : c < 4) (hl : l < 16) (hn : n ≤ 4) (e : a.1 142 c = Int32.ofNat n) (hT : tF a c) (h : CF I0 I a) :
    f_X0_hasRoomForStore (74 + 12 * c) (Int32.ofNat l) (I, J) = some (if (if a.1 145 c = 0 then n = 4 else aFull a c l = true) then 0 else 1, (I, J)) := by
  have g : ((4 : Int32) ≤ Int32.ofNat n) = (n = 4) := (i_le (n := 4) (by decide) (by omega)).trans (by apply propext; omega)
  unfold f_X0_hasRoomForStore f_X0_hasRoomForStore_34
  simp only [eLt, Option.bind_some, ↓reduceIte, K_c74 hc, K_c75 hc, K_c76 hc, K_c77 hc, K_c78 hc, K_c79 hc, K_c80 hc, K_c81 hc, R_c1 hc, R_c2 hc, R_c3 hc, R_c4 hc, R_c5 hc, R_c6 hc, R_c8 hc, R_t5 hc, R_t6 hc, K_3, K_4, true_and, and_true, eB, decide_true, decide_false, Bool.or_true, Bool.true_or, not_true_eq_false, not_false_eq_true, tx_0 hc h, co_7 hc h, e, g, cs_adm hc hl hT h]
  by_cases q : a.1 145 c = 0
  · simp only [q, ↓reduceIte]
    by_cases q2 : n = 4 <;> simp [q2]
  · simp only [q, ↓reduceIte]
    by_cases q2 : aFull a c l = true <;> simp [q2]
theorem cs_keepB (hc : c < 4) (hn : n < 4) (e : a.1 142 c = Int32.ofNat n) (ho : a.1 145 c = 0) (h : CF I0 I a) :
    cOk (f_X0_keepStore (74 + 12 * c) x v (I, J)) I0 J (Int32.ofNat (n + 1)) (aW (aW (aW a 143 (4 * c + n) x) 144 (4 * c + n) v) 142 c (Int32.ofNat (n + 1))) := by
  have g : ((4 : Int32) ≤ Int32.ofNat n) = False := (i_le (n := 4) (by decide) (by omega)).trans (eq_false (by omega))
  have g3 : eix (Int32.ofNat n) 4 = true := i_ix (by omega) (by decide)
  have g4 : (Int32.ofNat n).toNatClampNeg = n := i_tn (by omega)
  have e7 : I (74 + 12 * c) 7 = Int32.ofNat n := (co_7 hc h).trans e
  have e71 : eup I (77 + 12 * c) n x (74 + 12 * c) 7 = Int32.ofNat n := (up_r (by omega)).trans e7
  have e72 : eup (eup I (77 + 12 * c) n x) (78 + 12 * c) n v (74 + 12 * c) 7 = Int32.ofNat n := (up_r (by omega)).trans e71
  unfold f_X0_keepStore f_X0_keepStore_58
  simp only [eLt, Option.bind_some, ↓reduceIte, K_c74 hc, K_c75 hc, K_c76 hc, K_c77 hc, K_c78 hc, K_c79 hc, K_c80 hc, K_c81 hc, R_c1 hc, R_c2 hc, R_c3 hc, R_c4 hc, R_c5 hc, R_c6 hc, R_c8 hc, R_t5 hc, R_t6 hc, K_3, K_4, true_and, and_true, eB, decide_true, decide_false, Bool.or_true, Bool.true_or, not_true_eq_false, not_false_eq_true, tx_0 hc h, ho, e7, g, g3, g4, e71, e72, up_eq, p1]
  refine c_ret (C_bf (a := a) hc (fun r k g1 g2 g3 => by rw [up_o (by omega), up_o (by omega), up_o (by omega)]) (fun r i g1 g2 => by rw [aW_o (by omega), aW_o (by omega), aW_o (by omega)]) rfl ?_ h)
  obtain ⟨h1, h2, h3, h4, h5⟩ := h.1.2.2.2.2.2.1 c hc
  have a2 : (aW (aW (aW a 143 (4 * c + n) x) 144 (4 * c + n) v) 142 c (Int32.ofNat (n + 1))).1 142 c = Int32.ofNat (n + 1) := aW_e
  refine ⟨?_, ?_, ?_, ?_, fun k hk hlt => ?_⟩
  · rw [up_o (by omega), up_o (by omega), up_o (by omega), h1]
  · rw [up_eq, a2]
  · rw [up_o (by omega), up_o (by omega), up_o (by omega), h3, aW_o (by omega), aW_o (by omega), aW_o (by omega)]
  · rw [up_o (by omega), up_o (by omega), up_o (by omega), h4, aW_o (by omega), aW_o (by omega), aW_o (by omega)]
  · rw [a2, i_lt (by omega) (by omega)] at hlt
    rw [up_o (by omega), up_o (by omega), up_o (r' := 78 + 12 * c) (k' := k) (r := 74 + 12 * c) (by omega), aW_o (by omega), aW_o (by omega), aW_o (r' := 144) (r := 142) (by omega)]
    by_cases q : k = n
    · subst q
      rw [up_eq, up_eq, aW_e, aW_e]
      exact ⟨rfl, rfl⟩
    · rw [up_o (by omega), up_o (by omega), up_o (r' := 78 + 12 * c) (by omega), aW_o (r := 143) (by omega), aW_o (r := 144) (by omega), aW_o (r := 143) (by omega)]
      exact h5 k hk (by rw [e, i_lt (by omega) (by omega)]; omega)
theorem cs_keepT (hc : c < 4) (hl : l < 16) (ho : ¬ a.1 145 c = 0) (hS : sF a c) (h : CF I0 I a) :
    cOk (f_X0_keepStore (74 + 12 * c) (Int32.ofNat l) v (I, J)) I0 J (Int32.ofNat (aPop (aSetB (a.1 149 c) l))) (aW (aW a 149 c (aSetB (a.1 149 c) l)) 150 (16 * c + l) v) := by
  have ht : (Int32.ofNat l).toNatClampNeg = l := i_tn (by omega)
  have hi : eix (Int32.ofNat l) 16 = true := i_ix hl (by decide)
  obtain ⟨I1, e0, e1, e2, e3, e4⟩ := cs_incl (J := J) hc hl ho h
  obtain ⟨h1, h2, h3, h4⟩ := h.1.2.2.2.2.2.2.1 c hc
  obtain ⟨h5, h6, h7⟩ := h4 ho
  have e81 : I1 (81 + 12 * c) = I (81 + 12 * c) := e1 _ (by omega) (by omega)
  have G : ∀ I2 : Nat → Nat → Int32, (∀ r, ¬ r = 79 + 12 * c → I2 r = I1 r) → (∀ k, ¬ k = 4 → I2 (79 + 12 * c) k = I1 (79 + 12 * c) k) → I2 (79 + 12 * c) 4 = Int32.ofNat (aPop (aSetB (a.1 149 c) l)) →
      CF I0 (eup I2 (81 + 12 * c) l v) (aW (aW a 149 c (aSetB (a.1 149 c) l)) 150 (16 * c + l) v) := by
    intro I2 g1 g2 g3
    refine C_tx (a := a) hc (fun r q1 q2 q3 => by rw [up_fr q3, g1 r q1, e1 r q1 q2]) (fun r i q1 q2 => by rw [aW_o (by omega), aW_o (by omega)]) rfl ?_ h
    have b1 : ∀ r, ¬ r = 149 → ¬ r = 150 → (aW (aW a 149 c (aSetB (a.1 149 c) l)) 150 (16 * c + l) v).1 r = a.1 r := fun r q1 q2 => (aW_1 q2).trans (aW_1 q1)
    have b2 : (aW (aW a 149 c (aSetB (a.1 149 c) l)) 150 (16 * c + l) v).1 149 c = aSetB (a.1 149 c) l := by rw [aW_1 (by decide), aW_e]
    unfold TxOk
    rw [up_r (by omega), up_r (by omega), up_r (by omega), up_r (by omega), up_r (by omega), g2 0 (by decide), g2 1 (by decide), g2 2 (by decide), g2 3 (by decide), g3, e2 0 (by decide), e2 1 (by decide), e2 2 (by decide), e3, b1 145 (by decide) (by decide), b1 146 (by decide) (by decide), b1 147 (by decide) (by decide), b1 148 (by decide) (by decide), b2, or_set hl]
    refine ⟨h1, h2, h3, fun _ => ⟨rfl, rfl, fun l' hl' => ⟨?_, ?_⟩⟩⟩
    · rw [up_r (by omega), g1 _ (by omega)]
      exact e4 l' hl'
    · rw [bit_set hl hl']
      by_cases q : l' = l
      · subst q
        rw [up_eq, aW_e]
        simp
      · rw [up_k q, g1 _ (by omega), e81, (h7 l' hl').2, aW_k (by omega), aW_1 (r := 149) (by decide)]
        simp [q]
  have s0 : I1 (81 + 12 * c) l = if aBit (a.1 149 c) l = true then a.1 150 (16 * c + l) else -1 := by
    rw [e81]
    exact (h7 l hl).2
  have s4 : I1 (79 + 12 * c) 4 = Int32.ofNat (aPop (a.1 149 c)) := (e2 4 (by decide)).trans h6
  unfold f_X0_keepStore f_X10_keep f_X10_keep_25
  simp only [eLt, Option.bind_some, ↓reduceIte, K_c74 hc, K_c75 hc, K_c76 hc, K_c77 hc, K_c78 hc, K_c79 hc, K_c80 hc, K_c81 hc, R_c1 hc, R_c2 hc, R_c3 hc, R_c4 hc, R_c5 hc, R_c6 hc, R_c8 hc, R_t5 hc, R_t6 hc, K_3, K_4, true_and, and_true, eB, decide_true, decide_false, Bool.or_true, Bool.true_or, not_true_eq_false, not_false_eq_true, tx_0 hc h, ho, e0, ht, hi, s0]
  by_cases q : aBit (a.1 149 c) l = true
  · obtain ⟨n, hn, e⟩ := hS l hl q
    have m1 : ¬ Int32.ofNat n = -1 := by
      rw [i_ne1 (by omega)]
      exact not_false
    have e5 : eup I1 (81 + 12 * c) l v (79 + 12 * c) 4 = Int32.ofNat (aPop (aSetB (a.1 149 c) l)) := by
      rw [up_r (by omega), s4, set_id hl q]
    simp only [q, ↓reduceIte, e, m1, not_false_eq_true, e5]
    exact c_ret (G I1 (fun r _ => rfl) (fun k _ => rfl) (by rw [s4, set_id hl q]))
  · have q' : aBit (a.1 149 c) l = false := by
      cases g : aBit (a.1 149 c) l with
      | false => rfl
      | true => exact absurd g q
    have e6 : I1 (79 + 12 * c) 4 + 1 = Int32.ofNat (aPop (aSetB (a.1 149 c) l)) := by
      rw [s4, pop_set hl q']
      exact i_ad
    have e5 : eup (eup I1 (79 + 12 * c) 4 (Int32.ofNat (aPop (aSetB (a.1 149 c) l)))) (81 + 12 * c) l v (79 + 12 * c) 4 = Int32.ofNat (aPop (aSetB (a.1 149 c) l)) := by
      rw [up_r (by omega), up_eq]
    simp only [q, ↓reduceIte, Bool.false_eq_true, not_true_eq_false, e6, e5]
    exact c_ret (G _ (fun r g => up_fr g) (fun k g => up_k g) up_eq)
/-- a line that is owned is changed -/
theorem aChg_r {P : Nat} (h1 : ¬ r = 136) (h2 : ¬ r = 137) (h3 : ¬ r = 138) (h4 : ¬ r = 122) : (aChg a P v).1 r = a.1 r := by
  unfold aChg
  rw [aUse_r h3 h4, aW_1 h2, aW_1 h1]
theorem cs_write1 (hc : c < 4) (hp : p < 4) (ho : aOwn (a.1 136 (4 * c + p)) = true) (hu : uF a) (h : CF I0 I a) :
    cOk (f_X0_write (74 + 12 * c) (82 + 12 * c + p) v (I, J)) I0 J () (aChg a (4 * c + p) v) := by
  have hv := own_val ho
  have hn := val_ne hv
  have e9 : eup (eup I (82 + 12 * c + p) 1 3) (82 + 12 * c + p) 2 v (74 + 12 * c) 9 = I (74 + 12 * c) 9 := by rw [up_r (by omega), up_r (by omega)]
  unfold f_X0_write
  simp only [eLt, Option.bind_some, ↓reduceIte, K_c74 hc, K_c75 hc, K_c76 hc, K_c77 hc, K_c78 hc, K_c79 hc, K_c80 hc, K_c81 hc, R_c1 hc, R_c2 hc, R_c3 hc, R_c4 hc, R_c5 hc, R_c6 hc, R_c8 hc, R_t5 hc, R_t6 hc, K_3, K_4, true_and, and_true, eB, decide_true, decide_false, Bool.or_true, Bool.true_or, not_true_eq_false, not_false_eq_true, K_p hc hp, cs_useP hc hp, e9]
  refine c_ret (C_plU (a := a) (p := p) hc hp (fun r k g1 g2 => by rw [up_r g1, up_o g2, up_r g1, up_r g1]) (by rw [up_r (by omega), up_eq]) up_eq (fun r i g1 g2 => ?_) ?_ ?_ rfl ?_ hu h)
  · unfold aChg aUse
    rw [aW_o (by omega), aW_o (by omega), aW_o (by omega), aW_o (by omega)]
  · unfold aChg aUse
    rw [aW_1 (by decide), aW_e, aW_1 (by decide), aW_1 (by decide)]
  · unfold aChg aUse
    rw [aW_e, aW_1 (by decide), aW_1 (by decide)]
  · obtain ⟨h1, h2, h3, h4, h5⟩ := h.1.2.2.1 c p hc hp
    have z1 : (aChg a (4 * c + p) v).1 136 (4 * c + p) = 3 := by
      unfold aChg
      rw [aUse_r (by decide) (by decide), aW_1 (by decide), aW_e]
    have z2 : (aChg a (4 * c + p) v).1 137 (4 * c + p) = v := by
      unfold aChg
      rw [aUse_r (by decide) (by decide), aW_e]
    unfold PlOk
    rw [z1, z2, aChg_r (r := 135) (by decide) (by decide) (by decide) (by decide), aChg_r (r := 139) (by decide) (by decide) (by decide) (by decide), aChg_r (r := 140) (by decide) (by decide) (by decide) (by decide), if_neg (by decide)]
    rw [if_neg hn.1] at h2
    refine ⟨?_, ?_, fun _ => ?_, fun g => absurd g (by decide), fun g => absurd g (by decide)⟩
    · rw [up_k (by decide), up_r (by omega), up_k (by decide), up_eq]
    · rw [up_k (by decide), up_r (by omega), up_k (by decide), up_k (by decide), h2]
    · rw [up_k (by decide), up_r (by omega), up_eq]
theorem cs_rest (hc : c < 4) (h : CF I0 I a) : f_X0_isAtRest (74 + 12 * c) (I, J) = some (if a.1 142 c = 0 ∧ a.1 145 c = 0 then 1 else 0, (I, J)) := by
  unfold f_X0_isAtRest f_X0_isAtRest_21 f_X0_isAtRest_22
  simp only [eLt, Option.bind_some, ↓reduceIte, K_c74 hc, K_c75 hc, K_c76 hc, K_c77 hc, K_c78 hc, K_c79 hc, K_c80 hc, K_c81 hc, R_c1 hc, R_c2 hc, R_c3 hc, R_c4 hc, R_c5 hc, R_c6 hc, R_c8 hc, R_t5 hc, R_t6 hc, K_3, K_4, true_and, and_true, eB, decide_true, decide_false, Bool.or_true, Bool.true_or, not_true_eq_false, not_false_eq_true, tx_0 hc h, co_7 hc h]
  by_cases q1 : a.1 142 c = 0 <;> by_cases q2 : a.1 145 c = 0 <;> simp [q1, q2]
theorem cs_addA (hc : c < 4) (hl : l < 16) (hb : ¬ (y < 1 ∨ 9 < y)) (h0 : a.1 142 c = 0 ∧ a.1 145 c = 0) (hF : cF a c) (hN : nF a c) (hu : uF a) (hq : qAsk a c l true) (h : CF I0 I a) :
    cOk (f_X0_addAtOnce (74 + 12 * c) (Int32.ofNat l) y (I, J)) I0 J (aAdd a c l y).2.1 (aAdd a c l y).2.2 := by
  have h10 : ¬ (1 : Int32) = 0 := by decide
  have h1000 : ¬ (1000 : Int32) = 0 := by decide
  have A : cOk (f_X0_addAtOnce_17 (74 + 12 * c) (Int32.ofNat l) (I, J)) I0 J (-1) (aAsk a c l true).2 := by
    unfold f_X0_addAtOnce_17
    simp only [eLt, Option.bind_some, ↓reduceIte, K_c74 hc, K_c75 hc, K_c76 hc, K_c77 hc, K_c78 hc, K_c79 hc, K_c80 hc, K_c81 hc, R_c1 hc, R_c2 hc, R_c3 hc, R_c4 hc, R_c5 hc, R_c6 hc, R_c8 hc, R_t5 hc, R_t6 hc, K_3, K_4, true_and, and_true, eB, decide_true, decide_false, Bool.or_true, Bool.true_or, not_true_eq_false, not_false_eq_true]
    exact c_bind (cs_ask (w := true) hc hl hF hN hq h) (fun I1 h1 => c_ret h1)
  unfold f_X0_addAtOnce aAdd
  simp only [hb, h0, and_self, eLt, Option.bind_some, ↓reduceIte, K_c74 hc, K_c75 hc, K_c76 hc, K_c77 hc, K_c78 hc, K_c79 hc, K_c80 hc, K_c81 hc, R_c1 hc, R_c2 hc, R_c3 hc, R_c4 hc, R_c5 hc, R_c6 hc, R_c8 hc, R_t5 hc, R_t6 hc, K_3, K_4, true_and, and_true, eB, decide_true, decide_false, Bool.or_true, Bool.true_or, not_true_eq_false, not_false_eq_true, cs_place hc hl h]
  cases hP : aPl a c l with
  | none =>
    have e5 : pI c none = 0 := rfl
    simp only [e5, ↓reduceIte]
    exact A
  | some p =>
    have hp := (aPl_lt hP).1
    have e5 : pI c (some p) = 82 + 12 * c + p := rfl
    have e6 : ¬ 82 + 12 * c + p = 0 := by omega
    simp only [e5, e6, ↓reduceIte, K_p hc hp, cs_may hc hp h, Option.bind_some]
    by_cases q : aOwn (a.1 136 (4 * c + p)) = true
    · simp only [q, ↓reduceIte, h10, h1000, not_false_eq_true, pl_2 hc hp (own_val q) h]
      exact c_bind (cs_write1 hc hp q hu h) (fun I1 h1 => c_ret h1)
    · simp only [q, ↓reduceIte, Bool.false_eq_true, not_true_eq_false]
      exact A
/-- two rows moved down, in the class, and as pictured -/
def dSh (c : Nat) : Nat → Nat → (Nat → Nat → Int32) → Nat → Nat → Int32
  | 0, _, M => M
  | d + 1, k, M => dSh c d (k + 1) (eup (eup M (77 + 12 * c) k (M (77 + 12 * c) (k + 1))) (78 + 12 * c) k (M (78 + 12 * c) (k + 1)))
def dShA (c : Nat) : Nat → Nat → aS → aS
  | 0, _, b => b
  | d + 1, k, b => dShA c d (k + 1) (aW (aW b 143 (4 * c + k) (b.1 143 (4 * c + (k + 1)))) 144 (4 * c + k) (b.1 144 (4 * c + (k + 1))))
theorem dSh_fr : ∀ d k M (r : Nat), ¬ r = 77 + 12 * c → ¬ r = 78 + 12 * c → dSh c d k M r = M r := by
  intro d
  induction d with
  | zero => intro k M r h h2; rfl
  | succ d ih =>
    intro k M r h h2
    unfold dSh
    rw [ih _ _ _ h h2, up_fr h2, up_fr h]
theorem dSh_out : ∀ d k M i, i < k → dSh c d k M (77 + 12 * c) i = M (77 + 12 * c) i ∧ dSh c d k M (78 + 12 * c) i = M (78 + 12 * c) i := by
  intro d
  induction d with
  | zero => intro k M i h; exact ⟨rfl, rfl⟩
  | succ d ih =>
    intro k M i h
    unfold dSh
    rw [(ih _ _ _ (by omega)).1, (ih _ _ _ (by omega)).2, up_o (by omega), up_o (by omega), up_o (r' := 78 + 12 * c) (by omega), up_o (r' := 78 + 12 * c) (by omega)]
    exact ⟨rfl, rfl⟩
theorem dSh_in : ∀ d k M i, k ≤ i → i < k + d → dSh c d k M (77 + 12 * c) i = M (77 + 12 * c) (i + 1) ∧ dSh c d k M (78 + 12 * c) i = M (78 + 12 * c) (i + 1) := by
  intro d
  induction d with
  | zero => intro k M i h1 h2; omega
  | succ d ih =>
    intro k M i h1 h2
    unfold dSh
    by_cases g : i = k
    · subst g
      rw [(dSh_out _ _ _ _ (by omega)).1, (dSh_out _ _ _ _ (by omega)).2, up_eq, up_o (by omega), up_eq]
      exact ⟨rfl, rfl⟩
    · rw [(ih _ _ _ (by omega) (by omega)).1, (ih _ _ _ (by omega) (by omega)).2, up_o (by omega), up_o (by omega), up_o (r' := 78 + 12 * c) (by omega), up_o (r' := 78 + 12 * c) (by omega)]
      exact ⟨rfl, rfl⟩
theorem dA_o : ∀ d k b (r i : Nat), ¬ ((r = 143 ∨ r = 144) ∧ 4 * c + k ≤ i ∧ i < 4 * c + k + d) → (dShA c d k b).1 r i = b.1 r i := by
  intro d
  induction d with
  | zero => intro k b r i h; rfl
  | succ d ih =>
    intro k b r i h
    unfold dShA
    rw [ih _ _ _ _ (by omega), aW_o (by omega), aW_o (by omega)]
theorem dA_2 : ∀ d k b, (dShA c d k b).2 = b.2 := by
  intro d
  induction d with
  | zero => intro k b; rfl
  | succ d ih =>
    intro k b
    unfold dShA
    rw [ih]
    rfl
theorem dA_in : ∀ d k b i, k ≤ i → i < k + d → (dShA c d k b).1 143 (4 * c + i) = b.1 143 (4 * c + (i + 1)) ∧ (dShA c d k b).1 144 (4 * c + i) = b.1 144 (4 * c + (i + 1)) := by
  intro d
  induction d with
  | zero => intro k b i h1 h2; omega
  | succ d ih =>
    intro k b i h1 h2
    unfold dShA
    by_cases g : i = k
    · subst g
      rw [dA_o _ _ _ _ _ (by omega), dA_o _ _ _ _ _ (by omega), aW_e, aW_o (by omega), aW_e]
      exact ⟨rfl, rfl⟩
    · rw [(ih _ _ _ (by omega) (by omega)).1, (ih _ _ _ (by omega) (by omega)).2, aW_o (by omega), aW_o (by omega), aW_o (r := 144) (by omega), aW_o (r := 143) (by omega)]
      exact ⟨rfl, rfl⟩
def shS (b : aS) (c k : Nat) : aS := aW (aW b 143 (4 * c + k) (b.1 143 (4 * c + (k + 1)))) 144 (4 * c + k) (b.1 144 (4 * c + (k + 1)))
theorem shS_42 : (shS a c k).1 142 c = a.1 142 c := by
  unfold shS
  rw [aW_1 (by decide), aW_1 (by decide)]
theorem sh1_t (e : a.1 142 c = Int32.ofNat n) (hk : k < n) (hn : n < 4) : aShf1 a c k = shS a c k := by
  unfold aShf1
  rw [e, if_pos (by rw [i_lt (by omega) (by omega)]; exact hk)]
  rfl
theorem sh1_f (e : a.1 142 c = Int32.ofNat n) (hk : ¬ k < n) (hk4 : k < 4) (hn : n < 4) : aShf1 a c k = a := by
  unfold aShf1
  rw [e, if_neg (by rw [i_lt (by omega) (by omega)]; exact hk)]
theorem aShf_D (hn : n < 4) (e : a.1 142 c = Int32.ofNat (n + 1)) : aShf a c = dShA c n 0 (aW a 142 c (Int32.ofNat n)) := by
  have e1 : a.1 142 c - 1 = Int32.ofNat n := by
    rw [e]
    exact i_sb (n := n + 1) (m := 1) (by omega)
  unfold aShf
  rw [e1]
  generalize hB : aW a 142 c (Int32.ofNat n) = B
  have e3 : B.1 142 c = Int32.ofNat n := by rw [← hB]; exact aW_e
  have e4 : (shS B c 0).1 142 c = Int32.ofNat n := shS_42.trans e3
  have e5 : (shS (shS B c 0) c 1).1 142 c = Int32.ofNat n := shS_42.trans e4
  have : n = 0 ∨ n = 1 ∨ n = 2 ∨ n = 3 := by omega
  rcases this with q | q | q | q <;> subst q
  · rw [sh1_f e3 (by decide) (by decide) (by decide), sh1_f e3 (by decide) (by decide) (by decide), sh1_f e3 (by decide) (by decide) (by decide)]
    rfl
  · rw [sh1_t e3 (by decide) (by decide), sh1_f e4 (by decide) (by decide) (by decide), sh1_f e4 (by decide) (by decide) (by decide)]
    rfl
  · rw [sh1_t e3 (by decide) (by decide), sh1_t e4 (by decide) (by decide), sh1_f e5 (by decide) (by decide) (by decide)]
    rfl
  · rw [sh1_t e3 (by decide) (by decide), sh1_t e4 (by decide) (by decide), sh1_t e5 (by decide) (by decide)]
    rfl
theorem cs_shift (hc : c < 4) (hn : n < 4) : ∀ d k N M, k + d = n → M (74 + 12 * c) 7 = Int32.ofNat n → d + 1 ≤ N →
    f_X0_doOldestStore_65 N (74 + 12 * c) (Int32.ofNat k) (M, J) = some (1, (dSh c d k M, J)) := by
  intro d
  induction d with
  | zero =>
    intro k N M h1 h3 h4
    obtain ⟨N, rfl⟩ := Nat.exists_eq_add_of_le h4
    rw [show 0 + 1 + N = N + 1 by omega, f_X0_doOldestStore_65]
    have g1 : (Int32.ofNat n ≤ Int32.ofNat k) = True := (i_le (by omega) (by omega)).trans (eq_true (by omega))
    unfold f_X0_doOldestStore_114
    simp only [eLt, Option.bind_some, ↓reduceIte, K_c74 hc, K_c75 hc, K_c76 hc, K_c77 hc, K_c78 hc, K_c79 hc, K_c80 hc, K_c81 hc, R_c1 hc, R_c2 hc, R_c3 hc, R_c4 hc, R_c5 hc, R_c6 hc, R_c8 hc, R_t5 hc, R_t6 hc, K_3, K_4, true_and, and_true, eB, decide_true, decide_false, Bool.or_true, Bool.true_or, not_true_eq_false, not_false_eq_true, h3, g1]
    rfl
  | succ d ih =>
    intro k N M h1 h3 h4
    obtain ⟨N, rfl⟩ := Nat.exists_eq_add_of_le h4
    rw [show d + 1 + 1 + N = d + 1 + N + 1 by omega, f_X0_doOldestStore_65]
    have g1 : (Int32.ofNat n ≤ Int32.ofNat k) = False := (i_le (by omega) (by omega)).trans (eq_false (by omega))
    have g2 : ((4 : Int32) ≤ Int32.ofNat (k + 1)) = False := (i_le (n := 4) (by decide) (by omega)).trans (eq_false (by omega))
    have g4 : eix (Int32.ofNat (k + 1)) 4 = true := i_ix (by omega) (by decide)
    have g5 : eix (Int32.ofNat k) 4 = true := i_ix (by omega) (by decide)
    have g6 : (Int32.ofNat k).toNatClampNeg = k := i_tn (by omega)
    have g7 : (Int32.ofNat (k + 1)).toNatClampNeg = k + 1 := i_tn (by omega)
    have g8 : ∀ x, eup M (77 + 12 * c) k x (78 + 12 * c) (k + 1) = M (78 + 12 * c) (k + 1) := fun x => up_r (by omega)
    simp only [eLt, Option.bind_some, ↓reduceIte, K_c74 hc, K_c75 hc, K_c76 hc, K_c77 hc, K_c78 hc, K_c79 hc, K_c80 hc, K_c81 hc, R_c1 hc, R_c2 hc, R_c3 hc, R_c4 hc, R_c5 hc, R_c6 hc, R_c8 hc, R_t5 hc, R_t6 hc, K_3, K_4, true_and, and_true, eB, decide_true, decide_false, Bool.or_true, Bool.true_or, not_true_eq_false, not_false_eq_true, h3, g1, p1, g2, g4, g5, g6, g7, g8]
    rw [ih (k + 1) _ _ (by omega) (by rw [up_r (by omega), up_r (by omega)]; exact h3) (by omega)]
    rfl
theorem cs_drain0 (hc : c < 4) (hB : bF a c) (hF : cF a c) (hN : nF a c) (hu : uF a) (hq : ∀ l, l < 16 → qAsk a c l true) (h : CF I0 I a) :
    cOk (f_X0_doOldestStore (74 + 12 * c) (I, J)) I0 J (aDrain a c).2.1 (aDrain a c).2.2 := by
  obtain ⟨n, hn, en, hB2⟩ := hB
  have h10 : ¬ (1 : Int32) = 0 := by decide
  have j0 : eix (0 : Int32) 4 = true := rfl
  have d0 : (0 : Int32).toNatClampNeg = 0 := rfl
  unfold f_X0_doOldestStore aDrain
  simp only [eLt, Option.bind_some, ↓reduceIte, K_c74 hc, K_c75 hc, K_c76 hc, K_c77 hc, K_c78 hc, K_c79 hc, K_c80 hc, K_c81 hc, R_c1 hc, R_c2 hc, R_c3 hc, R_c4 hc, R_c5 hc, R_c6 hc, R_c8 hc, R_t5 hc, R_t6 hc, K_3, K_4, true_and, and_true, eB, decide_true, decide_false, Bool.or_true, Bool.true_or, not_true_eq_false, not_false_eq_true, co_7 hc h]
  cases n with
  | zero =>
    have en : a.1 142 c = 0 := en
    simp only [en, not_true_eq_false, ↓reduceIte]
    exact c_ret h
  | succ n =>
    have z1 : ¬ a.1 142 c = 0 := by
      rw [en, show (Int32.ofNat (n + 1) = 0) = (n + 1 = 0) from i_eq (m := 0) (by omega) (by decide)]
      omega
    have g5 := co_b (k := 0) hc (by omega) hn en h
    obtain ⟨⟨l, hl, el⟩, hvv⟩ := hB2 0 (by omega)
    rw [Nat.add_zero] at g5 el hvv
    have nl : aNt (Int32.ofNat l) = l := i_tn (by omega)
    have A : cOk (f_X0_doOldestStore_33 (74 + 12 * c) (Int32.ofNat l) (I, J)) I0 J 0 (aAsk a c l true).2 := by
      unfold f_X0_doOldestStore_33
      simp only [eLt, Option.bind_some, ↓reduceIte, K_c74 hc, K_c75 hc, K_c76 hc, K_c77 hc, K_c78 hc, K_c79 hc, K_c80 hc, K_c81 hc, R_c1 hc, R_c2 hc, R_c3 hc, R_c4 hc, R_c5 hc, R_c6 hc, R_c8 hc, R_t5 hc, R_t6 hc, K_3, K_4, true_and, and_true, eB, decide_true, decide_false, Bool.or_true, Bool.true_or, not_true_eq_false, not_false_eq_true]
      exact c_bind (cs_ask (w := true) hc hl hF hN (hq l hl) h) (fun I1 h1 => c_ret h1)
    simp only [z1, not_false_eq_true, ↓reduceIte, j0, d0, g5.1, g5.2, el, nl, cs_place hc hl h, Option.bind_some]
    cases hP : aPl a c l with
    | none =>
      have e5 : pI c none = 0 := rfl
      simp only [e5, ↓reduceIte]
      exact A
    | some p =>
      have hp := (aPl_lt hP).1
      have e5 : pI c (some p) = 82 + 12 * c + p := rfl
      have e6 : ¬ 82 + 12 * c + p = 0 := by omega
      simp only [e5, e6, ↓reduceIte, K_p hc hp, cs_may hc hp h, Option.bind_some]
      by_cases q : aOwn (a.1 136 (4 * c + p)) = true
      · simp only [q, ↓reduceIte, h10, not_false_eq_true, g5.2]
        refine c_bind (cs_write1 (v := a.1 144 (4 * c)) hc hp q hu h) (fun I1 h1 => ?_)
        have e42 : (aChg a (4 * c + p) (a.1 144 (4 * c))).1 142 c = Int32.ofNat (n + 1) := by
          rw [aChg_r (by decide) (by decide) (by decide) (by decide)]
          exact en
        have e7 : I1 (74 + 12 * c) 7 - 1 = Int32.ofNat n := by
          rw [co_7 hc h1, e42]
          exact i_sb (n := n + 1) (m := 1) (by omega)
        simp only [eLt, Option.bind_some, ↓reduceIte, K_c74 hc, K_c75 hc, K_c76 hc, K_c77 hc, K_c78 hc, K_c79 hc, K_c80 hc, K_c81 hc, R_c1 hc, R_c2 hc, R_c3 hc, R_c4 hc, R_c5 hc, R_c6 hc, R_c8 hc, R_t5 hc, R_t6 hc, K_3, K_4, true_and, and_true, eB, decide_true, decide_false, Bool.or_true, Bool.true_or, not_true_eq_false, not_false_eq_true, e7]
        rw [aShf_D (by omega) e42]
        have := cs_shift (J := J) (n := n) hc (by omega) n 0 1000000 (eup I1 (74 + 12 * c) 7 (Int32.ofNat n)) (by omega) up_eq (by omega)
        have z0 : Int32.ofNat 0 = 0 := rfl
        rw [z0] at this
        rw [this]
        generalize aChg a (4 * c + p) (a.1 144 (4 * c)) = b at h1 e42 ⊢
        refine c_ret (C_bf (a := b) hc (fun r k g1 g2 g3 => by rw [dSh_fr _ _ _ _ g2 g3, up_o (by omega)]) (fun r i g1 g2 => by rw [dA_o _ _ _ _ _ (by omega), aW_o (by omega)]) (dA_2 _ _ _) ?_ h1)
        obtain ⟨h3, h4, h5, h6, h7⟩ := h1.1.2.2.2.2.2.1 c hc
        have c2 : (dShA c n 0 (aW b 142 c (Int32.ofNat n))).1 142 c = Int32.ofNat n := by rw [dA_o _ _ _ _ _ (by omega), aW_e]
        refine ⟨?_, ?_, ?_, ?_, fun k hk hlt => ?_⟩
        · rw [dSh_fr _ _ _ _ (by omega) (by omega), up_k (by decide), h3]
        · rw [dSh_fr _ _ _ _ (by omega) (by omega), up_eq, c2]
        · rw [dSh_fr _ _ _ _ (by omega) (by omega), up_k (by decide), h5, dA_o _ _ _ _ _ (by omega), aW_o (by omega)]
        · rw [dSh_fr _ _ _ _ (by omega) (by omega), up_k (by decide), h6, dA_o _ _ _ _ _ (by omega), aW_o (by omega)]
        · rw [c2, i_lt (by omega) (by omega)] at hlt
          have g8 := co_b (k := k + 1) hc (by omega) hn e42 h1
          rw [(dSh_in _ _ _ _ (by omega) (by omega)).1, (dSh_in _ _ _ _ (by omega) (by omega)).2, (dA_in _ _ _ _ (by omega) (by omega)).1, (dA_in _ _ _ _ (by omega) (by omega)).2, up_o (by omega), up_o (by omega), aW_o (by omega), aW_o (by omega)]
          exact g8
      · simp only [q, ↓reduceIte, Bool.false_eq_true, not_true_eq_false]
        exact A
end EPD
