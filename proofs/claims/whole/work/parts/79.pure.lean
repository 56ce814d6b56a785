/-! the class: to read a line -/
section EPD
variable {I I' I0 : Nat → Nat → Int32} {J : Nat → Nat → Int64} {a a' b : aS} {r i l q c k n p w z N o : Nat} {v t x y : Int32} {m : aM} {σ : eMem}
theorem aPl_eq' (h5 : b.1 135 = a.1 135) (h6 : b.1 136 = a.1 136) : aPl b c l = aPl a c l := aPl_eq h5 h6
theorem aEp_eq (h6 : b.1 136 = a.1 136) : aEp b c = aEp a c := by
  unfold aEp
  rw [h6]
theorem aVic_eq (h5 : b.1 135 = a.1 135) (h6 : b.1 136 = a.1 136) (h8 : b.1 138 = a.1 138) (ho : b.1 145 = a.1 145) (h48 : b.1 148 = a.1 148) (h49 : b.1 149 = a.1 149) : aVic b c = aVic a c := by
  unfold aVic aVicS aMay aIsIn
  rw [h5, h6, h8, ho, h48, h49]
theorem qAsk_eq {w : Bool} (h5 : b.1 135 = a.1 135) (h6 : b.1 136 = a.1 136) (h8 : b.1 138 = a.1 138) (ho : b.1 145 = a.1 145) (h48 : b.1 148 = a.1 148) (h49 : b.1 149 = a.1 149) (h41 : b.1 141 = a.1 141) (hq : b.2 4 = a.2 4) (h : qAsk a c l w) : qAsk b c l w := by
  unfold qAsk at h ⊢
  rw [aPl_eq h5 h6, aEp_eq h6, aVic_eq h5 h6 h8 ho h48 h49, h41, h6, hq]
  exact h
theorem aSend_aW {r' i' k' l' c' n' q' : Nat} (h : ¬ r' = 153) : aSend (aW a r' i' v) q' k' l' c' n' = aW (aSend a q' k' l' c' n') r' i' v := by
  have e1 : aPush (aW a r' i' v) q' (k', l', c', n') = aW (aPush a q' (k', l', c', n')) r' i' v := rfl
  unfold aSend aCk
  rw [e1]
  split
  · rw [aW_aC h]
  · split
    · rw [aW_aC h]
    · split
      · rw [aW_aC h]
      · split
        · rw [aW_aC h]
        · split
          · rw [aW_aC h]
          · rfl
theorem aBeg_aW {r' i' P : Nat} {w : Bool} (h1 : ¬ r' = 135) (h2 : ¬ r' = 136) (h3 : ¬ r' = 139) (h4 : ¬ r' = 140) (h5 : ¬ r' = 153) : aBeg (aW a r' i' v) c P l w = aW (aBeg a c P l w) r' i' v := by
  unfold aBeg
  rw [aW_cm (r := r') h1, aW_cm (r := r') h2, aW_cm (r := r') h3, aW_cm (r := r') h4, aSend_aW h5]
/-- what the class keeps of strides -/
def gF (a : aS) (c : Nat) : Prop := a.1 151 c = -1 → a.1 152 c = 0
theorem S_str (hc : c < 4) (h : CF I0 I a) : CF I0 (eup (eup I (74 + 12 * c) 10 x) (74 + 12 * c) 11 y) (aW (aW a 152 c y) 151 c x) := by
  refine C_bf (a := a) hc (fun r k g1 g2 g3 => by rw [up_o (by omega), up_o (by omega)]) (fun r i g1 g2 => by rw [aW_o (by omega), aW_o (by omega)]) rfl ?_ h
  obtain ⟨h1, h2, h3, h4, h5⟩ := h.1.2.2.2.2.2.1 c hc
  unfold CoOk
  rw [up_k (by decide), up_k (by decide), up_k (by decide), up_k (by decide), up_k (by decide), up_eq, up_eq, aW_e, aW_1 (r' := 142) (by decide), aW_1 (r' := 142) (by decide), aW_1 (r' := 152) (by decide), aW_e, up_fr (r' := 77 + 12 * c) (by omega), up_fr (r' := 77 + 12 * c) (by omega),
    up_fr (r' := 78 + 12 * c) (by omega), up_fr (r' := 78 + 12 * c) (by omega), aW_1 (r' := 143) (by decide), aW_1 (r' := 143) (by decide), aW_1 (r' := 144) (by decide), aW_1 (r' := 144) (by decide)]
  exact ⟨h1, h2, rfl, rfl, h5⟩
theorem cs_rd36 {s : Bool} {X : Int32} (hc : c < 4) (hl : l < 16) (hs : s = true → X = a.1 152 c ∧ ¬ a.1 152 c = 0) (hs2 : s = false → ¬ (X = a.1 152 c ∧ ¬ a.1 152 c = 0)) (hX : ¬ a.1 151 c = -1 → X = Int32.ofNat l - a.1 151 c)
    (h1 : a.1 151 c = -1 → a.1 152 c = 0 ∧ X = 0) (hF : cF a c) (hN : nF a c) (hq : ∀ l, l < 16 → qAsk a c l false) (h : CF I0 I a) :
    cOk (f_X0_learnStride_36 (74 + 12 * c) (Int32.ofNat l) X (bI s) (I, J)) I0 J () (aRd a c l) := by
  have h10 : ¬ (1 : Int32) = 0 := by decide
  have hb := S_str (x := Int32.ofNat l) (y := X) hc h
  have bt : bI true = 1 := rfl
  have bf : bI false = 0 := rfl
  have j6 : eix (6 : Int32) 10 = true := rfl
  have d6 : (6 : Int32).toNatClampNeg = 6 := rfl
  unfold f_X0_learnStride_36 f_X0_learnStride_68 f_X0_learnStride_106
  simp only [eLt, Option.bind_some, ↓reduceIte, K_c74 hc, K_c75 hc, K_c76 hc, K_c77 hc, K_c78 hc, K_c79 hc, K_c80 hc, K_c81 hc, R_c1 hc, R_c2 hc, R_c3 hc, R_c4 hc, R_c5 hc, R_c6 hc, R_c8 hc, R_t5 hc, R_t6 hc, K_3, K_4, true_and, and_true, eB, decide_true, decide_false, Bool.or_true, Bool.true_or, not_true_eq_false, not_false_eq_true]
  unfold aRd
  by_cases g1 : a.1 151 c = -1
  · rw [if_pos g1]
    obtain ⟨e1, e2⟩ := h1 g1
    have hsf : s = false := by
      cases s with
      | false => rfl
      | true => exact absurd e1 (hs rfl).2
    subst hsf
    simp only [bf, ↓reduceIte]
    rw [aW_id (a := a) (r := 152) (i := c) (v := X) (by rw [e1, e2])] at hb
    exact c_ret hb
  · rw [if_neg g1]
    have eX := hX g1
    rw [← eX]
    have hbe : ∀ r, ¬ r = 151 → ¬ r = 152 → (aW (aW a 152 c X) 151 c (Int32.ofNat l)).1 r = a.1 r := fun r g g' => (aW_1 g).trans (aW_1 g')
    cases s with
    | false =>
      have : aAhd a c l = none := by
        unfold aAhd
        rw [if_neg]
        intro g
        refine hs2 rfl ⟨?_, g.2.1⟩
        rw [eX]
        exact g.1
      rw [this]
      simp only [bf, ↓reduceIte]
      exact c_ret hb
    | true =>
      obtain ⟨e1, e2⟩ := hs rfl
      have ea : (Int32.ofNat l - a.1 151 c = a.1 152 c) = True := eq_true (by rw [← eX]; exact e1)
      unfold aAhd
      simp only [bt, h10, ↓reduceIte, ea, e2, not_false_eq_true, true_and]
      rw [e1] at hb ⊢
      by_cases g2 : Int32.ofNat l + a.1 152 c < 0
      · simp only [g2, ↓reduceIte, not_true_eq_false, false_and]
        exact c_ret hb
      · by_cases g3 : Int32.ofNat l + a.1 152 c < 16
        · simp only [g2, g3, ↓reduceIte, not_false_eq_true, and_self]
          obtain ⟨d, hd, e3⟩ := i_in (b := 16) (by decide) g2 g3
          have e4 : aNt (Int32.ofNat d) = d := i_tn (by omega)
          rw [e3, e4]
          rw [e1] at hbe
          have p1 : aPl (aW (aW a 152 c (a.1 152 c)) 151 c (Int32.ofNat l)) c d = aPl a c d := aPl_eq (hbe 135 (by decide) (by decide)) (hbe 136 (by decide) (by decide))
          have p2 : aEp (aW (aW a 152 c (a.1 152 c)) 151 c (Int32.ofNat l)) c = aEp a c := aEp_eq (hbe 136 (by decide) (by decide))
          simp only [cs_place hc hd hb, p1, Option.bind_some]
          cases hP : aPl a c d with
          | some p =>
            have hp := (aPl_lt hP).1
            have e5 : pI c (some p) = 82 + 12 * c + p := rfl
            have e6 : ¬ 82 + 12 * c + p = 0 := by omega
            simp only [e5, e6, ↓reduceIte]
            exact c_ret hb
          | none =>
            have e5 : pI c none = 0 := rfl
            simp only [e5, ↓reduceIte, cs_empty hc hb, p2, Option.bind_some]
            cases hE : aEp a c with
            | none =>
              simp only [e5, ↓reduceIte, ite_self]
              exact c_ret hb
            | some p =>
              have hp := (aEp_lt hE).1
              have e6 : pI c (some p) = 82 + 12 * c + p := rfl
              have e7 : ¬ 82 + 12 * c + p = 0 := by omega
              simp only [e6, e7, ↓reduceIte]
              have hF' : cF (aW (aW a 152 c (a.1 152 c)) 151 c (Int32.ofNat l)) c := cF_eq (hbe 135 (by decide) (by decide)) (hbe 136 (by decide) (by decide)) (hbe 137 (by decide) (by decide)) hF
              have hN' : nF (aW (aW a 152 c (a.1 152 c)) 151 c (Int32.ofNat l)) c := nF_eq (hbe 136 (by decide) (by decide)) (hbe 139 (by decide) (by decide)) (hbe 140 (by decide) (by decide)) hN
              have hq' : qAsk (aW (aW a 152 c (a.1 152 c)) 151 c (Int32.ofNat l)) c d false := qAsk_eq (hbe 135 (by decide) (by decide)) (hbe 136 (by decide) (by decide)) (hbe 138 (by decide) (by decide)) (hbe 145 (by decide) (by decide)) (hbe 148 (by decide) (by decide)) (hbe 149 (by decide) (by decide)) (hbe 141 (by decide) (by decide)) rfl (hq d hd)
              have hA := cs_ask (J := J) (w := false) hc hd hF' hN' hq' hb
              unfold aAsk at hA
              rw [p1, hP, p2, hE, hbe 141 (by decide) (by decide)] at hA
              dsimp only at hA
              rw [bf] at hA
              by_cases g5 : a.1 141 (16 * c + d) = -1
              · rw [if_pos g5] at hA
                rw [if_pos g5]
                refine c_bind hA (fun I2 h2 => ?_)
                simp only [bt, h10, ↓reduceIte, R_c2 hc, K_3, j6, d6, and_self, true_and]
                have h3 := C_cnt (k := 6) (by decide) h2
                rw [aBeg_aW (by decide) (by decide) (by decide) (by decide) (by decide), ← aW_aC (by decide)] at h3
                exact c_ret h3
              · rw [if_neg g5] at hA
                rw [if_neg g5]
                refine c_bind hA (fun I2 h2 => ?_)
                simp only [bf, ↓reduceIte]
                exact c_ret h2
        · simp only [g2, g3, ↓reduceIte, not_false_eq_true, and_false]
          exact c_ret hb
theorem cs_rd (hc : c < 4) (hl : l < 16) (hg : gF a c) (hF : cF a c) (hN : nF a c) (hq : ∀ l, l < 16 → qAsk a c l false) (h : CF I0 I a) :
    cOk (f_X0_learnStride (74 + 12 * c) (Int32.ofNat l) (I, J)) I0 J () (aRd a c l) := by
  have h10 : ¬ (1 : Int32) = 0 := by decide
  have bt : bI true = 1 := rfl
  have bf : bI false = 0 := rfl
  unfold f_X0_learnStride f_X0_learnStride_18 f_X0_learnStride_35
  simp only [eLt, Option.bind_some, ↓reduceIte, K_c74 hc, K_c75 hc, K_c76 hc, K_c77 hc, K_c78 hc, K_c79 hc, K_c80 hc, K_c81 hc, R_c1 hc, R_c2 hc, R_c3 hc, R_c4 hc, R_c5 hc, R_c6 hc, R_c8 hc, R_t5 hc, R_t6 hc, K_3, K_4, true_and, and_true, eB, decide_true, decide_false, Bool.or_true, Bool.true_or, not_true_eq_false, not_false_eq_true, co_10 hc h, co_11 hc h]
  by_cases g1 : a.1 151 c = -1
  · have g2 := hg g1
    simp only [g1, not_true_eq_false, ↓reduceIte]
    exact cs_rd36 (s := false) hc hl (fun g => by cases g) (fun _ g => g.2 g2) (fun g => absurd g1 g) (fun _ => ⟨g2, rfl⟩) hF hN hq h
  · simp only [g1, not_false_eq_true, ↓reduceIte]
    by_cases g3 : Int32.ofNat l - a.1 151 c = 0
    · simp only [g3, ↓reduceIte]
      exact cs_rd36 (s := false) hc hl (fun g => by cases g) (fun _ g => g.2 g.1.symm) (fun g => g3.symm) (fun g => absurd g g1) hF hN hq h
    · simp only [g3, ↓reduceIte]
      by_cases g4 : Int32.ofNat l - a.1 151 c = a.1 152 c
      · simp only [g4, not_true_eq_false, ↓reduceIte]
        exact cs_rd36 (s := true) hc hl (fun _ => ⟨rfl, fun g => g3 (g4.trans g)⟩) (fun g => by cases g) (fun _ => g4.symm) (fun g => absurd g g1) hF hN hq h
      · simp only [g4, not_false_eq_true, ↓reduceIte]
        exact cs_rd36 (s := false) hc hl (fun g => by cases g) (fun _ g => g4 g.1) (fun _ => rfl) (fun g => absurd g g1) hF hN hq h
theorem C_useV (hc : c < 4) (hp : p < 4) (hu : uF a) (h : CF I0 I a) : CF I0 (eup (eup I (74 + 12 * c) 9 (I (74 + 12 * c) 9 + 1)) (82 + 12 * c + p) 3 (I (74 + 12 * c) 9 + 1)) (aUse a (4 * c + p)) := by
  have e1 : ∀ r i, ¬ (r = 138 ∧ i = 4 * c + p) → ¬ (r = 122 ∧ i = 18) → (aUse a (4 * c + p)).1 r i = a.1 r i := by
    intro r i g1 g2
    unfold aUse
    rw [aW_o g1, aW_o g2]
  refine C_plU (a := a) (p := p) hc hp (fun r k g1 g2 => by rw [up_r g1, up_o g2]) (by rw [up_r (by omega), up_eq]) up_eq (fun r i g1 g2 => e1 r i (by omega) g2) ?_ ?_ rfl ?_ hu h
  · unfold aUse
    rw [aW_1 (by decide), aW_e]
  · unfold aUse
    rw [aW_e]
  · obtain ⟨h1, h2, h3, h4, h5⟩ := h.1.2.2.1 c p hc hp
    unfold PlOk
    rw [e1 135 _ (by omega) (by omega), e1 136 _ (by omega) (by omega), e1 137 _ (by omega) (by omega), e1 139 _ (by omega) (by omega), e1 140 _ (by omega) (by omega),
      up_k (by decide), up_k (by decide), up_k (by decide), up_k (by decide), up_k (by decide), up_k (by decide), up_k (by decide), up_k (by decide), up_k (by decide), up_k (by decide)]
    exact ⟨h1, h2, h3, h4, h5⟩
theorem aUse_aC {P : Nat} : aUse (aC a k) P = aC (aUse a P) k := by
  unfold aUse
  rw [aC_1 (by decide), aW_aC (by decide), aW_aC (by decide)]
theorem aUse_r {P : Nat} (h : ¬ r = 138) (h2 : ¬ r = 122) : (aUse a P).1 r = a.1 r := by
  unfold aUse
  rw [aW_1 h, aW_1 h2]
/-- a line that is loaded comes into the transaction -/
theorem cs_inclL (hc : c < 4) (hl : l < 16) (ho : ¬ a.1 145 c = 0) (h : CF I0 I a) : cOk (f_X10_include (79 + 12 * c) (Int32.ofNat l) (I, J)) I0 J () (aW a 148 c (aSetB (a.1 148 c) l)) := by
  obtain ⟨I1, e0, e1, e2, e3, e4⟩ := cs_incl (J := J) hc hl ho h
  refine ⟨I1, e0, C_tx (a := a) hc (fun r g1 g2 g3 => e1 r g1 g2) (fun r i g1 g2 => aW_o (by omega)) rfl ?_ h⟩
  obtain ⟨h1, h2, h3, h4⟩ := h.1.2.2.2.2.2.2.1 c hc
  obtain ⟨h5, h6, h7⟩ := h4 ho
  unfold TxOk
  rw [e2 0 (by decide), e2 1 (by decide), e2 2 (by decide), e2 4 (by decide), e3, e1 (81 + 12 * c) (by omega) (by omega), aW_e, aW_1 (r' := 145) (by decide), aW_1 (r' := 146) (by decide), aW_1 (r' := 147) (by decide), aW_1 (r' := 149) (by decide), aW_1 (r' := 150) (by decide), set_or hl]
  exact ⟨h1, h2, h3, fun _ => ⟨rfl, h6, fun l' hl' => ⟨e4 l' hl', (h7 l' hl').2⟩⟩⟩
theorem cs_read89 (hc : c < 4) (hl : l < 16) (hg : gF a c) (hF : cF a c) (hN : nF a c) (hq : qAsk a c l false) (hq2 : ∀ l', l' < 16 → qAsk (aAsk a c l false).2 c l' false) (hN2 : nF (aAsk a c l false).2 c) (h : CF I0 I a) :
    cOk (f_X0_read_89 (74 + 12 * c) (Int32.ofNat l) (I, J)) I0 J (-1) (aMiss a c l) := by
  have h10 : ¬ (1 : Int32) = 0 := by decide
  have bt : bI true = 1 := rfl
  have bf : bI false = 0 := rfl
  unfold f_X0_read_89 f_X0_read_117 aMiss
  simp only [eLt, Option.bind_some, ↓reduceIte, K_c74 hc, K_c75 hc, K_c76 hc, K_c77 hc, K_c78 hc, K_c79 hc, K_c80 hc, K_c81 hc, R_c1 hc, R_c2 hc, R_c3 hc, R_c4 hc, R_c5 hc, R_c6 hc, R_c8 hc, R_t5 hc, R_t6 hc, K_3, K_4, true_and, and_true, eB, decide_true, decide_false, Bool.or_true, Bool.true_or, not_true_eq_false, not_false_eq_true]
  refine c_bind (cs_ask (w := false) hc hl hF hN hq h) (fun I1 h1 => ?_)
  have e1 : (aAsk a c l false).2.1 145 c = a.1 145 c := by
    rw [aAsk_1 (by decide) (by decide) (by decide) (by decide) (by decide) (by decide)]
  have e51 : (aAsk a c l false).2.1 151 c = a.1 151 c := by
    rw [aAsk_1 (by decide) (by decide) (by decide) (by decide) (by decide) (by decide)]
  have e52 : (aAsk a c l false).2.1 152 c = a.1 152 c := by
    rw [aAsk_1 (by decide) (by decide) (by decide) (by decide) (by decide) (by decide)]
  cases q1 : (aAsk a c l false).1 with
  | false =>
    simp only [bf, ↓reduceIte, Bool.false_eq_true, false_and]
    exact c_ret h1
  | true =>
    simp only [bt, h10, ↓reduceIte, true_and, tx_0 hc h1, e1]
    by_cases q2 : a.1 145 c = 0
    · simp only [q2, not_true_eq_false, ↓reduceIte]
      refine c_bind (cs_rd hc hl ?_ (cF_ask hl hF) hN2 hq2 h1) (fun I2 h2 => c_ret h2)
      intro g
      rw [e51] at g
      rw [e52]
      exact hg g
    · simp only [q2, not_false_eq_true, ↓reduceIte]
      exact c_ret h1
theorem cs_read0 (hc : c < 4) (hl : l < 16) (hfull : aFull a c l = false) (hB : bF a c) (hT : tF a c) (hS : sF a c) (hg : gF a c) (hF : cF a c) (hN : nF a c) (hu : uF a) (hq : qAsk a c l false) (hq2 : ∀ l', l' < 16 → qAsk (aAsk a c l false).2 c l' false) (hN2 : nF (aAsk a c l false).2 c) (h : CF I0 I a) :
    cOk (f_X0_read (74 + 12 * c) (Int32.ofNat l) (I, J)) I0 J (aLoad a c l).2.1 (aLoad a c l).2.2 := by
  obtain ⟨n, hn, en, hB2⟩ := hB
  have h10 : ¬ (1 : Int32) = 0 := by decide
  have j0 : eix (0 : Int32) 10 = true := rfl
  have d0 : (0 : Int32).toNatClampNeg = 0 := rfl
  have G : cOk (f_X0_read_26 (74 + 12 * c) (Int32.ofNat l) (-1) (I, J)) I0 J
      (match aPl a c l with
      | some p => if aWt (a.1 136 (4 * c + p)) = true then ((0 : Int32), (-1 : Int32), aMiss a c l) else (0, a.1 137 (4 * c + p), aHitS a c l (4 * c + p))
      | none => (0, -1, aMiss a c l)).2.1
      (match aPl a c l with
      | some p => if aWt (a.1 136 (4 * c + p)) = true then ((0 : Int32), (-1 : Int32), aMiss a c l) else (0, a.1 137 (4 * c + p), aHitS a c l (4 * c + p))
      | none => (0, -1, aMiss a c l)).2.2 := by
    unfold f_X0_read_26 f_X0_read_84
    simp only [eLt, Option.bind_some, ↓reduceIte, K_c74 hc, K_c75 hc, K_c76 hc, K_c77 hc, K_c78 hc, K_c79 hc, K_c80 hc, K_c81 hc, R_c1 hc, R_c2 hc, R_c3 hc, R_c4 hc, R_c5 hc, R_c6 hc, R_c8 hc, R_t5 hc, R_t6 hc, K_3, K_4, true_and, and_true, eB, decide_true, decide_false, Bool.or_true, Bool.true_or, not_true_eq_false, not_false_eq_true, cs_place hc hl h]
    cases hP : aPl a c l with
    | none =>
      have e5 : pI c none = 0 := rfl
      simp only [e5, ↓reduceIte]
      exact cs_read89 hc hl hg hF hN hq hq2 hN2 h
    | some p =>
      obtain ⟨hp, hat⟩ := aPl_lt hP
      have e5 : pI c (some p) = 82 + 12 * c + p := rfl
      have e6 : ¬ 82 + 12 * c + p = 0 := by omega
      have hst := (aAt_iff.1 hat).1
      have hvi := val_iff hF hp
      rw [decide_eq_false hst] at hvi
      simp only [e5, e6, ↓reduceIte, K_p hc hp, cs_hasV hc hp h, hvi, Bool.not_false, Bool.true_and, Option.bind_some]
      cases hw : aWt (a.1 136 (4 * c + p)) with
      | true =>
        simp only [Bool.not_true, Bool.false_eq_true, ↓reduceIte]
        exact cs_read89 hc hl hg hF hN hq hq2 hN2 h
      | false =>
        rw [hw] at hvi
        have hv : aVal (a.1 136 (4 * c + p)) = true := hvi
        simp only [Bool.not_false, Bool.false_eq_true, ↓reduceIte, h10, j0, d0, cs_useP hc hp, Option.bind_some]
        have h1 := C_useV (a := aC a 0) hc hp (by
          obtain ⟨v, g1, g2⟩ := hu
          exact ⟨v, (by rw [aC_1 (by decide)]; exact g1), g2⟩) (C_cnt (k := 0) (by decide) h)
        rw [aUse_aC] at h1
        have e20 : eup (eup (eup I 3 0 (I 3 0 + 1)) (74 + 12 * c) 9 (eup I 3 0 (I 3 0 + 1) (74 + 12 * c) 9 + 1)) (82 + 12 * c + p) 3 (eup I 3 0 (I 3 0 + 1) (74 + 12 * c) 9 + 1) (79 + 12 * c) 0 = a.1 145 c := by
          rw [tx_0 hc h1, aC_1 (by decide), aUse_r (by decide) (by decide)]
        have e21 : ∀ I2, CF I0 I2 (aHitS a c l (4 * c + p)) → I2 (82 + 12 * c + p) 2 = a.1 137 (4 * c + p) := by
          intro I2 h2
          have e36 : (aHitS a c l (4 * c + p)).1 136 (4 * c + p) = a.1 136 (4 * c + p) := by
            unfold aHitS
            split
            · rw [aC_1 (by decide), aUse_r (by decide) (by decide)]
            · rw [aW_1 (by decide), aC_1 (by decide), aUse_r (by decide) (by decide)]
          rw [pl_2 hc hp (by rw [e36]; exact hv) h2]
          unfold aHitS
          split
          · rw [aC_1 (by decide), aUse_r (by decide) (by decide)]
          · rw [aW_1 (by decide), aC_1 (by decide), aUse_r (by decide) (by decide)]
        simp only [e20]
        by_cases q : a.1 145 c = 0
        · have e22 : aHitS a c l (4 * c + p) = aC (aUse a (4 * c + p)) 0 := by
            unfold aHitS
            rw [if_pos q]
          rw [← e22] at h1
          simp only [q, ↓reduceIte]
          rw [e21 _ h1]
          exact c_ret h1
        · simp only [q, ↓reduceIte]
          refine c_bind (cs_inclL (a := aC (aUse a (4 * c + p)) 0) hc hl ?_ h1) (fun I2 h2 => ?_)
          · rw [aC_1 (by decide), aUse_r (by decide) (by decide)]
            exact q
          · have h3 : CF I0 I2 (aHitS a c l (4 * c + p)) := by
              unfold aHitS
              rw [if_neg q]
              rw [aC_1 (r := 148) (by decide), aUse_r (r := 148) (by decide) (by decide)] at h2
              exact h2
            dsimp only
            rw [e21 _ h3]
            exact c_ret h3
  unfold f_X0_read aLoad
  rw [hfull]
  simp only [Bool.false_eq_true, ↓reduceIte, eLt, Option.bind_some, ↓reduceIte, K_c74 hc, K_c75 hc, K_c76 hc, K_c77 hc, K_c78 hc, K_c79 hc, K_c80 hc, K_c81 hc, R_c1 hc, R_c2 hc, R_c3 hc, R_c4 hc, R_c5 hc, R_c6 hc, R_c8 hc, R_t5 hc, R_t6 hc, K_3, K_4, true_and, and_true, eB, decide_true, decide_false, Bool.or_true, Bool.true_or, not_true_eq_false, not_false_eq_true, tx_0 hc h]
  by_cases q : a.1 145 c = 0
  · simp only [q, ↓reduceIte, not_true_eq_false, false_and, cs_buf hc hn en h, Option.bind_some]
    by_cases q2 : aBuf a c l = -1
    · rw [q2]
      simp only [↓reduceIte]
      exact G
    · unfold f_X0_read_26
      simp only [q2, ↓reduceIte]
      exact c_ret h
  · have hn0 : a.1 142 c = Int32.ofNat 0 := (hT.2.2 q).1
    have hb0 : aBuf a c l = -1 := by rw [aBuf_U hn0 (by decide)]; rfl
    simp only [q, ↓reduceIte, not_false_eq_true, true_and, cs_stored hc hl h, Option.bind_some, hb0]
    by_cases q2 : aBit (a.1 149 c) l = true
    · obtain ⟨n, hn, e⟩ := hS l hl q2
      have m1 : ¬ Int32.ofNat n = -1 := by
        rw [i_ne1 (by omega)]
        exact not_false
      unfold f_X0_read_26
      simp only [q2, ↓reduceIte, e, m1]
      exact c_ret h
    · simp only [q2, ↓reduceIte, Bool.false_eq_true]
      exact G
end EPD
