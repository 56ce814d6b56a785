/-! the class: requests at the home -/
section EPD
variable {I I' I0 : Nat → Nat → Int32} {J : Nat → Nat → Int64} {a a' b : aS} {r i l q c k n p w z N : Nat} {v t x y : Int32} {m : aM} {σ : eMem}
theorem aCk_6 : aCk a 6 = a := rfl
theorem aCk_7 : aCk a 7 = a := rfl
theorem aPush_aC : aPush (aC a k) q m = aC (aPush a q m) k := rfl
theorem cs_fwd {x kk kd : Nat} (hx : x < 4) (hl : l < 16) (hkd : kd < 16) (hc : c < 4) (hN : N ≤ 1000) (hk : (k = 3 ∧ kk = 4) ∨ (k = 4 ∧ kk = 5) ∨ (k = 5 ∧ kk = 3)) (hq : (a.2 (5 + x)).length < 64) (h : CF I0 I a) :
    cOk (f_X1_forward 23 (Int32.ofNat kk) (Int32.ofNat x) (Int32.ofNat (kd + 16 * l + 256 * c + 1024 * N)) (I, J)) I0 J () (aSend a (5 + x) k l c 0) := by
  have j4 : eix (4 : Int32) 10 = true := rfl
  have j5 : eix (5 : Int32) 10 = true := rfl
  have d4 : (4 : Int32).toNatClampNeg = 4 := rfl
  have d5 : (5 : Int32).toNatClampNeg = 5 := rfl
  have k3 : (Int32.ofNat kk = 3) = (kk = 3) := i_eq (m := 3) (by omega) (by decide)
  have e1 : ∀ σ : eMem, f_X4_of (Int32.ofNat kk) (Int32.ofNat l) 0 (-1) σ = some (Int32.ofNat (kk + 16 * l + 256 * 0 + 1024 * 0), σ) := fun σ => cs_of (c := 0) (by omega) hl (by decide) (by decide)
  unfold f_X1_forward f_X1_forward_14
  rcases hk with ⟨q1, q2⟩ | ⟨q1, q2⟩ | ⟨q1, q2⟩
  · subst q1 q2
    simp only [eLt, Option.bind_some, ↓reduceIte, K_23, R_23_0, R_23_1, R_23_2, K_3, K_4, K_24, K_l hl, K_w hl, R_l hl, R_l6 hl, true_and, and_true, eB, decide_true, decide_false, Bool.or_true, Bool.true_or, not_true_eq_false, not_false_eq_true, k3, show ¬ 4 = 3 by decide, j5, d5, b_line hkd hl hc hN, e1]
    have hC := C_cnt (k := 5) (by decide) h
    exact c_eqa (c_bind (cs_send' (a := aC a 5) (m := (3, l, c, 0)) (w := 1) (z := x) (by decide) (by omega) rfl rfl g_3.symm hq hC) (fun I1 h1 => c_ret h1)) rfl
  · subst q1 q2
    simp only [eLt, Option.bind_some, ↓reduceIte, K_23, R_23_0, R_23_1, R_23_2, K_3, K_4, K_24, K_l hl, K_w hl, R_l hl, R_l6 hl, true_and, and_true, eB, decide_true, decide_false, Bool.or_true, Bool.true_or, not_true_eq_false, not_false_eq_true, k3, show ¬ 5 = 3 by decide, j5, d5, b_line hkd hl hc hN, e1]
    have hC := C_cnt (k := 5) (by decide) h
    exact c_eqa (c_bind (cs_send' (a := aC a 5) (m := (4, l, c, 0)) (w := 1) (z := x) (by decide) (by omega) rfl rfl g_4.symm hq hC) (fun I1 h1 => c_ret h1)) rfl
  · subst q1 q2
    simp only [eLt, Option.bind_some, ↓reduceIte, K_23, R_23_0, R_23_1, R_23_2, K_3, K_4, K_24, K_l hl, K_w hl, R_l hl, R_l6 hl, true_and, and_true, eB, decide_true, decide_false, Bool.or_true, Bool.true_or, not_true_eq_false, not_false_eq_true, k3, j4, d4, b_line hkd hl hc hN, e1]
    have hC := C_cnt (k := 4) (by decide) h
    exact c_eqa (c_bind (cs_send' (a := aC a 4) (m := (5, l, c, 0)) (w := 1) (z := x) (by decide) (by omega) rfl rfl g_5.symm hq hC) (fun I1 h1 => c_ret h1)) rfl
theorem cs_ans {kk kd N2 : Nat} (hkk : kk < 16) (hl : l < 16) (hkd : kd < 16) (hc : c < 4) (hN : N ≤ 1000) (hg : gCm m = Int32.ofNat (kk + 16 * l + 256 * 0 + 1024 * N2)) (hv : v + 1 = Int32.ofNat N2) (hq : (a.2 (10 + c)).length < 64) (h : CF I0 I a) :
    cOk (f_X1_answer 23 (Int32.ofNat kk) (Int32.ofNat (kd + 16 * l + 256 * c + 1024 * N)) v (I, J)) I0 J () (aPush a (10 + c) m) := by
  have e1 : ∀ σ : eMem, f_X4_of (Int32.ofNat kk) (Int32.ofNat l) 0 v σ = some (Int32.ofNat (kk + 16 * l + 256 * 0 + 1024 * N2), σ) := fun σ => cs_of (c := 0) hkk hl (by decide) hv
  unfold f_X1_answer
  simp only [eLt, Option.bind_some, ↓reduceIte, K_23, R_23_0, R_23_1, R_23_2, K_3, K_4, K_24, K_l hl, K_w hl, R_l hl, R_l6 hl, true_and, and_true, eB, decide_true, decide_false, Bool.or_true, Bool.true_or, not_true_eq_false, not_false_eq_true, b_core hkd hl hc hN, b_line hkd hl hc hN, e1]
  exact c_bind (cs_send' (w := 2) (z := c) (by decide) (by omega) rfl rfl hg.symm hq h) (fun I1 h1 => c_ret h1)
theorem cs_gives {w kd : Nat} (hw : w = 1 ∨ w = 2 ∨ w = 3) (hl : l < 16) (hkd : kd < 16) (hc : c < 4) (hN : N ≤ 1000) (hv : aV (a.1 123 l)) (hq : (a.2 (10 + c)).length < 64) (h : CF I0 I a) :
    cOk (f_X1_answer 23 (Int32.ofNat (5 + w)) (Int32.ofNat (kd + 16 * l + 256 * c + 1024 * N)) (I (25 + 2 * l) 0) (I, J)) I0 J () (aGives a l c w) := by
  have e0 : I (25 + 2 * l) 0 = a.1 123 l := (h.1.1 l hl).1
  obtain ⟨n, hn, e⟩ := hv
  have e2 : aNt (Int32.ofNat n) = n := i_tn (by omega)
  unfold aGives
  rw [e0, e, e2]
  exact c_eqa (cs_ans (m := (6, l, w, n)) (N2 := n + 1) (by omega) hl hkd hc hN g_6 i_ad hq h) rfl
theorem cs_other (hl : l < 16) (h : CF I0 I a) : f_X2_hasOtherOwner (25 + 2 * l) x (I, J) = some (if a.1 124 l = -1 ∨ a.1 124 l = x then 0 else 1, (I, J)) := by
  have e0 : I (25 + 2 * l) 1 = a.1 124 l := (h.1.1 l hl).2.1
  have h10 : ¬ (1 : Int32) = 0 := by decide
  unfold f_X2_hasOtherOwner f_X2_hasOtherOwner_20 f_X2_hasOtherOwner_21
  simp only [eLt, Option.bind_some, ↓reduceIte, K_23, R_23_0, R_23_1, R_23_2, K_3, K_4, K_24, K_l hl, K_w hl, R_l hl, R_l6 hl, true_and, and_true, eB, decide_true, decide_false, Bool.or_true, Bool.true_or, not_true_eq_false, not_false_eq_true, e0]
  by_cases q1 : a.1 124 l = -1
  · simp only [q1, true_or, ↓reduceIte]
  · by_cases q2 : a.1 124 l = x
    · have q3 : ¬ x = -1 := q2 ▸ q1
      simp only [q2, q3, or_true, ↓reduceIte]
    · simp only [q1, q2, or_self, ↓reduceIte]
/-- how many bits, as the JDK counts them -/
def bcv (x : Int32) : Int32 :=
  let x1 := x - (((x.toUInt32 >>> ((1 : Int32).toUInt32 &&& Int32.toUInt32 31)).toInt32) &&& (1431655765 : Int32))
  let x2 := (x1 &&& (858993459 : Int32)) + (((x1.toUInt32 >>> ((2 : Int32).toUInt32 &&& Int32.toUInt32 31)).toInt32) &&& (858993459 : Int32))
  let x3 := (x2 + ((x2.toUInt32 >>> ((4 : Int32).toUInt32 &&& Int32.toUInt32 31)).toInt32)) &&& (252645135 : Int32)
  let x4 := x3 + ((x3.toUInt32 >>> ((8 : Int32).toUInt32 &&& Int32.toUInt32 31)).toInt32)
  let x5 := x4 + ((x4.toUInt32 >>> ((16 : Int32).toUInt32 &&& Int32.toUInt32 31)).toInt32)
  x5 &&& (63 : Int32)
theorem cs_bc : f_J6_bitCount x σ = some (bcv x, σ) := rfl
def bcT (N c : Nat) : Bool := !decide (aPop (Int32.ofNat N) ≤ 2) || ((decide (bcv (aSetB (Int32.ofNat N) c) ≤ 2) == (aBit (Int32.ofNat N) c || !decide (aPop (Int32.ofNat N) = 2))) && ((!aBit (Int32.ofNat N) c || decide (aSetB (Int32.ofNat N) c = Int32.ofNat N)) && !decide (Int32.ofNat N = 15)))
theorem bc_t : ∀ N, N < 16 → ∀ c, c < 4 → bcT N c = true := by decide +kernel
theorem bc_dec (N : Nat) (hN : N < 16) (c : Nat) (hc : c < 4) (h : aPop (Int32.ofNat N) ≤ 2) : (bcv (aSetB (Int32.ofNat N) c) ≤ 2 ↔ ¬ (¬ aBit (Int32.ofNat N) c = true ∧ aPop (Int32.ofNat N) = 2)) ∧ (aBit (Int32.ofNat N) c = true → aSetB (Int32.ofNat N) c = Int32.ofNat N) ∧ ¬ Int32.ofNat N = 15 := by
  have := bc_t N hN c hc
  unfold bcT at this
  rw [decide_eq_true h] at this
  simp only [Bool.not_true, Bool.false_or, Bool.and_eq_true, beq_iff_eq, Bool.not_eq_true', decide_eq_false_iff_not, Bool.or_eq_true, decide_eq_true_eq] at this
  obtain ⟨h1, h2, h3⟩ := this
  refine ⟨?_, fun g => ?_, h3⟩
  · rw [Bool.eq_iff_iff] at h1
    simp only [decide_eq_true_eq, Bool.or_eq_true, Bool.not_eq_true', decide_eq_false_iff_not] at h1
    rw [h1]
    by_cases b : aBit (Int32.ofNat N) c = true <;> simp [b]
  · rcases h2 with h2 | h2
    · rw [g] at h2
      cases h2
    · exact h2
theorem sh_15 : ∀ c, c < 4 → aSetB 15 c = 15 := by decide
/-- what is known of a line's sharers: two at most -/
def kF (a : aS) (l : Nat) : Prop := a.1 126 l = 0 → ∃ N, N < 16 ∧ aPop (Int32.ofNat N) ≤ 2 ∧ a.1 125 l = Int32.ofNat N
theorem aW_idd : aW a r i (a.1 r i) = a := aW_id rfl
theorem cs_share (hl : l < 16) (hc : c < 4) (hK : kF a l) (h : CF I0 I a) :
    ∃ I1 b, CF I0 I1 b ∧ ((f_X2_addSharer (25 + 2 * l) (Int32.ofNat c) (I, J) = some (0, (I1, J)) ∧ b = aShares a l c) ∨ (f_X2_addSharer (25 + 2 * l) (Int32.ofNat c) (I, J) = some (1, (I1, J)) ∧ aC b 9 = aShares a l c)) := by
  have e0 : I (25 + 2 * l) 2 = (if a.1 126 l = 0 then a.1 125 l else 15) := (h.1.1 l hl).2.2.1
  have h10 : ¬ (1 : Int32) = 0 := by decide
  unfold f_X2_addSharer f_X2_addSharer_30 f_X2_addSharer_31 f_X2_addSharer_43
  simp only [eLt, Option.bind_some, ↓reduceIte, K_23, R_23_0, R_23_1, R_23_2, K_3, K_4, K_24, K_l hl, K_w hl, R_l hl, R_l6 hl, true_and, and_true, eB, decide_true, decide_false, Bool.or_true, Bool.true_or, not_true_eq_false, not_false_eq_true, e0, cs_bc, h10]
  by_cases q1 : a.1 126 l = 0
  · obtain ⟨N, hN, hN2, hN3⟩ := hK q1
    obtain ⟨d1, d2, d3⟩ := bc_dec N hN c hc hN2
    simp only [q1, hN3, d3, ↓reduceIte]
    have es : Int32.ofNat N ||| (1 : Int32) <<< (Int32.ofNat c &&& 31) = aSetB (Int32.ofNat N) c := rfl
    rw [es]
    unfold aShares
    rw [hN3]
    simp only [q1, not_true_eq_false, ↓reduceIte]
    by_cases q2 : aBit (Int32.ofNat N) c = true
    · have d1' : bcv (aSetB (Int32.ofNat N) c) ≤ 2 := d1.2 (fun q => q.1 q2)
      rw [d2 q2] at d1'
      simp only [d1', q2, ↓reduceIte, d2 q2]
      refine ⟨_, _, ?_, Or.inl ⟨rfl, rfl⟩⟩
      rw [up_self (by rw [e0, if_pos q1, hN3])]
      exact h
    · by_cases q3 : aPop (Int32.ofNat N) = 2
      · have d1' : ¬ bcv (aSetB (Int32.ofNat N) c) ≤ 2 := fun q => d1.1 q ⟨q2, q3⟩
        simp only [d1', q2, q3, ↓reduceIte, Bool.false_eq_true]
        refine ⟨_, aW (aW a 125 l (aSetB (Int32.ofNat N) c)) 126 l 1, H_shr hl (by rw [if_neg h10]) h, Or.inr ⟨rfl, ?_⟩⟩
        rw [aW_aC (by decide), aW_cm (r := 126) (by decide)]
      · have d1' : bcv (aSetB (Int32.ofNat N) c) ≤ 2 := d1.2 (fun q => q3 q.2)
        simp only [d1', q2, q3, ↓reduceIte, Bool.false_eq_true]
        refine ⟨_, _, ?_, Or.inl ⟨rfl, rfl⟩⟩
        have := H_shr (x := aSetB (Int32.ofNat N) c) (y := 0) (v := aSetB (Int32.ofNat N) c) hl (by rw [if_pos rfl]) h
        rw [aW_id (a := aW a 125 l (aSetB (Int32.ofNat N) c)) (by rw [aW_1 (by decide), q1])] at this
        exact this
  · simp only [q1, ↓reduceIte]
    have es : (15 : Int32) ||| (1 : Int32) <<< (Int32.ofNat c &&& 31) = 15 := sh_15 c hc
    unfold aShares
    simp only [q1, not_false_eq_true, ↓reduceIte, es]
    refine ⟨_, _, ?_, Or.inl ⟨rfl, rfl⟩⟩
    rw [up_self (by rw [e0, if_neg q1])]
    exact h
theorem cs_wfa (hl : l < 16) (hk : k < 3) (hc : c < 4) (e : x = gCm (k, l, c, 0)) (h : CF I0 I a) : cOk (f_X2_waitForAnswers (25 + 2 * l) x (Int32.ofNat n) (I, J)) I0 J () (aWaits a l k c n) := by
  subst e
  unfold f_X2_waitForAnswers
  simp only [eLt, Option.bind_some, ↓reduceIte, K_23, R_23_0, R_23_1, R_23_2, K_3, K_4, K_24, K_l hl, K_w hl, R_l hl, R_l6 hl, true_and, and_true, eB, decide_true, decide_false, Bool.or_true, Bool.true_or, not_true_eq_false, not_false_eq_true]
  exact c_ret (H_wait hl hk hc h)
theorem aSend_len' {q' : Nat} : ((aSend a q' k l c n).2 q).length ≤ (a.2 q).length + 1 := aSend_len
theorem cs_read {m : Nat} (hl : l < 16) (hc : c < 4) (hf : hF a l) (hK : kF a l) (hq : aQ a m) (hm : m < 63) (h : CF I0 I a) :
    cOk (f_X1_serveRead 23 (25 + 2 * l) (gCm (0, l, c, n)) (I, J)) I0 J () (if a.1 124 l = -1 ∨ a.1 124 l = Int32.ofNat c then aDoR a l c else aDoO a 0 l c) := by
  have hq' : ∀ q, q < 15 → ¬ q = 4 → (a.2 q).length < 64 := fun q h1 h2 => by have := hq q h1 h2; omega
  have h10 : ¬ (1 : Int32) = 0 := by decide
  have e0 : I (25 + 2 * l) 2 = (if a.1 126 l = 0 then a.1 125 l else 15) := (h.1.1 l hl).2.2.1
  have e1 : I (25 + 2 * l) 1 = a.1 124 l := (h.1.1 l hl).2.1
  have j9 : eix (9 : Int32) 10 = true := rfl
  have d9 : (9 : Int32).toNatClampNeg = 9 := rfl
  have G : ∀ (I1 : Nat → Nat → Int32) b, CF I0 I1 b → aV (b.1 123 l) → (b.2 (10 + c)).length < 64 → cOk (f_X1_serveRead_77 23 (25 + 2 * l) (gCm (0, l, c, n)) (I1, J)) I0 J () (aGives b l c 1) := by
    intro I1 b h1 hv hq1
    unfold f_X1_serveRead_77 f_X1_serveRead_88
    rw [g_0]
    simp only [eLt, Option.bind_some, ↓reduceIte, K_23, R_23_0, R_23_1, R_23_2, K_3, K_4, K_24, K_l hl, K_w hl, R_l hl, R_l6 hl, true_and, and_true, eB, decide_true, decide_false, Bool.or_true, Bool.true_or, not_true_eq_false, not_false_eq_true]
    exact c_bind (cs_gives (w := 1) (Or.inl rfl) hl (by decide) hc (by decide) hv hq1 h1) (fun I2 h2 => c_ret h2)
  have hb : f_X4_coreOf (gCm (0, l, c, n)) (I, J) = some (Int32.ofNat c, (I, J)) := by
    rw [g_0]
    exact b_core (by decide) hl hc (by decide)
  unfold f_X1_serveRead
  simp only [hb, eLt, Option.bind_some, ↓reduceIte, K_23, R_23_0, R_23_1, R_23_2, K_3, K_4, K_24, K_l hl, K_w hl, R_l hl, R_l6 hl, true_and, and_true, eB, decide_true, decide_false, Bool.or_true, Bool.true_or, not_true_eq_false, not_false_eq_true, cs_other hl h]
  by_cases q1 : a.1 124 l = -1 ∨ a.1 124 l = Int32.ofNat c
  · simp only [q1, ↓reduceIte, e0]
    unfold aDoR
    by_cases q2 : a.1 126 l = 0 ∧ a.1 125 l = 0
    · simp only [q2, and_self, ↓reduceIte, not_true_eq_false]
      unfold f_X1_serveRead_88
      rw [g_0]
      have h1 : CF I0 (eup I (25 + 2 * l) 1 (Int32.ofNat c)) (aW a 124 l (Int32.ofNat c)) := H_own hl h
      refine c_bind (cs_gives (a := aW a 124 l (Int32.ofNat c)) (w := 2) (Or.inr (Or.inl rfl)) hl (by decide) hc (by decide) ?_ (hq' _ (by omega) (by omega)) h1) (fun I2 h2 => c_ret h2)
      rw [aW_1 (by decide)]
      exact hf.2
    · have q3 : ¬ (if a.1 126 l = 0 then a.1 125 l else 15) = 0 := by
        intro g
        split at g
        · next g1 => exact q2 ⟨g1, g⟩
        · exact absurd g (by decide)
      simp only [q2, q3, ↓reduceIte, not_false_eq_true]
      obtain ⟨I1, b, h1, h2⟩ := cs_share (J := J) hl hc hK h
      rcases h2 with ⟨h2, h3⟩ | ⟨h2, h3⟩
      · rw [h2]
        simp only [Option.bind_some, ↓reduceIte]
        subst h3
        refine G _ _ h1 ?_ ?_
        · rw [aShares_1 (by decide) (by decide) (by decide)]
          exact hf.2
        · rw [aShares_2]
          exact hq' _ (by omega) (by omega)
      · rw [h2]
        simp only [eLt, Option.bind_some, ↓reduceIte, K_23, R_23_0, R_23_1, R_23_2, K_3, K_4, K_24, K_l hl, K_w hl, R_l hl, R_l6 hl, true_and, and_true, eB, decide_true, decide_false, Bool.or_true, Bool.true_or, not_true_eq_false, not_false_eq_true, h10, j9, d9]
        have h4 := C_cnt (k := 9) (by decide) h1
        rw [h3] at h4
        refine G _ _ h4 ?_ ?_
        · rw [aShares_1 (by decide) (by decide) (by decide)]
          exact hf.2
        · rw [aShares_2]
          exact hq' _ (by omega) (by omega)
  · rcases hf.1 with ho | ⟨o, ho, ho2⟩
    · exact absurd (Or.inl ho) q1
    · have e5 : aNt (Int32.ofNat o) = o := i_tn (by omega)
      simp only [q1, ↓reduceIte, h10]
      simp only [e1, ho2]
      unfold aDoO f_X1_serveRead_88
      rw [ho2, e5, if_pos rfl]
      rw [g_0]
      refine c_bind (cs_fwd (kk := 4) (k := 3) (kd := 0) (N := 0) ho hl (by decide) hc (by decide) (Or.inl ⟨rfl, rfl⟩) (hq' _ (by omega) (by omega)) h) (fun I2 h2 => ?_)
      dsimp only
      exact c_bind (cs_wfa (k := 0) (n := 1) hl (by decide) hc (g_0 (n := 0)).symm h2) (fun I3 h3 => c_ret h3)
theorem aKc_15 : ∀ x, x < 4 → ((15 : Int32) >>> (Int32.ofNat x &&& 31)) &&& 1 = 1 := by decide
theorem cs_kill1 {x M : Nat} {a2 : aS} (hx : x < 4) (hl : l < 16) (hc : c < 4) (hq : (a.2 (5 + x)).length < 64) (h : CF I0 I a) (hN : n + 2 ≤ M)
    (H : ∀ M I1, n ≤ M → CF I0 I1 (aK1 a l c x) → cOk (f_X1_serveWrite_L35 M (.inl (23, 25 + 2 * l, Int32.ofNat (1 + 16 * l + 256 * c + 1024 * 0), Int32.ofNat c, Int32.ofNat (N + aKn1 a l c x), Int32.ofNat (x + 1))) (I1, J)) I0 J () a2) :
    cOk (f_X1_serveWrite_L35 M (.inl (23, 25 + 2 * l, Int32.ofNat (1 + 16 * l + 256 * c + 1024 * 0), Int32.ofNat c, Int32.ofNat N, Int32.ofNat x)) (I, J)) I0 J () a2 := by
  obtain ⟨M, rfl⟩ := Nat.exists_eq_add_of_le hN
  rw [show n + 2 + M = n + M + 1 + 1 by omega]
  clear hN
  have e0 : I (25 + 2 * l) 2 = (if a.1 126 l = 0 then a.1 125 l else 15) := (h.1.1 l hl).2.2.1
  have g1 : ((4 : Int32) ≤ Int32.ofNat x) = False := (i_le (n := 4) (m := x) (by decide) (by omega)).trans (eq_false (by omega))
  have g2 : (Int32.ofNat x = Int32.ofNat c) = (x = c) := i_eq (by omega) (by omega)
  have e3 : f_X1_serveWrite_L35 (n + M + 1 + 1) (.inl (23, 25 + 2 * l, Int32.ofNat (1 + 16 * l + 256 * c + 1024 * 0), Int32.ofNat c, Int32.ofNat N, Int32.ofNat x)) (I, J) =
      if aKc a l c x = true then Option.bind (f_X1_forward 23 3 (Int32.ofNat x) (Int32.ofNat (1 + 16 * l + 256 * c + 1024 * 0)) (I, J)) (fun r1 =>
        f_X1_serveWrite_L35 (n + M + 1) (.inr ((23, 25 + 2 * l, Int32.ofNat (1 + 16 * l + 256 * c + 1024 * 0), Int32.ofNat c, (Int32.ofNat N + (1 : Int32)), Int32.ofNat x))) r1.2)
      else f_X1_serveWrite_L35 (n + M + 1) (.inr ((23, 25 + 2 * l, Int32.ofNat (1 + 16 * l + 256 * c + 1024 * 0), Int32.ofNat c, Int32.ofNat N, Int32.ofNat x))) (I, J) := by
    rw [f_X1_serveWrite_L35]
    simp only [eLt, Option.bind_some, ↓reduceIte, K_23, R_23_0, R_23_1, R_23_2, K_3, K_4, K_24, K_l hl, K_w hl, R_l hl, R_l6 hl, true_and, and_true, eB, decide_true, decide_false, Bool.or_true, Bool.true_or, not_true_eq_false, not_false_eq_true, e0, g1, g2]
    unfold aKc
    by_cases q1 : x = c
    · simp [q1]
    · by_cases q2 : a.1 126 l = 0
      · by_cases q3 : aBit (a.1 125 l) x = true
        · have : (a.1 125 l >>> (Int32.ofNat x &&& 31)) &&& 1 = 1 := of_decide_eq_true q3
          simp [q1, q2, q3, this]
        · have : ¬ (a.1 125 l >>> (Int32.ofNat x &&& 31)) &&& 1 = 1 := fun e => q3 (decide_eq_true e)
          simp [q1, q2, q3, this]
      · have := aKc_15 x hx
        simp [q1, q2, this]
  rw [e3]
  by_cases g : aKc a l c x = true
  · rw [if_pos g]
    refine c_bind (cs_fwd (kk := 3) (k := 5) (kd := 1) (N := 0) hx hl (by decide) hc (by decide) (Or.inr (Or.inr ⟨rfl, rfl⟩)) hq h) (fun I1 h1 => ?_)
    dsimp only
    rw [f_X1_serveWrite_L35, p1, p1]
    have e : aKn1 a l c x = 1 := if_pos g
    rw [e] at H
    refine H (n + M) I1 (by omega) ?_
    unfold aK1
    rw [if_pos g]
    exact h1
  · rw [if_neg g, f_X1_serveWrite_L35, p1]
    have e : aKn1 a l c x = 0 := if_neg g
    rw [e] at H
    refine H (n + M) I (by omega) ?_
    unfold aK1
    rw [if_neg g]
    exact h
theorem aEnds_W0 (hc : c < 4) : aEnds (aWaits a l 1 c 0) l = aEndW (aWaits a l 1 c 0) l c := by
  unfold aEnds
  have e1 : (aWaits a l 1 c 0).1 129 l = 0 := by
    unfold aWaits
    rw [aW_e]
    rfl
  have e2 : (aWaits a l 1 c 0).1 127 l = 1 := by
    unfold aWaits
    rw [aW_1 (by decide), aW_1 (by decide), aW_e]
    rfl
  have e3 : aNt ((aWaits a l 1 c 0).1 128 l) = c := by
    rw [bc_wait]
    exact i_tn (by omega)
  rw [e1, e2, e3, if_pos (by decide), if_neg (by decide)]
theorem aEnds_Wn (hn : 0 < n) (hn2 : n < 100) : aEnds (aWaits a l k c n) l = aWaits a l k c n := by
  unfold aEnds
  have e1 : (aWaits a l k c n).1 129 l = Int32.ofNat n := by
    unfold aWaits
    rw [aW_e]
  have g : (Int32.ofNat n ≤ 0) = (n ≤ 0) := i_le (m := 0) (by omega) (by decide)
  rw [e1, if_neg]
  rw [g]
  omega
/-- the owner changes; the sharers go -/
theorem cs_belong (hl : l < 16) (h : CF I0 I a) : cOk (f_X2_belongTo (25 + 2 * l) v (I, J)) I0 J () (aForgets (aW a 124 l v) l) := by
  unfold f_X2_belongTo aForgets
  simp only [eLt, Option.bind_some, ↓reduceIte, K_23, R_23_0, R_23_1, R_23_2, K_3, K_4, K_24, K_l hl, K_w hl, R_l hl, R_l6 hl, true_and, and_true, eB, decide_true, decide_false, Bool.or_true, Bool.true_or, not_true_eq_false, not_false_eq_true]
  exact c_ret (H_shr hl (by rw [if_pos rfl]) (H_own hl h))
theorem cs_write77 (hl : l < 16) (hc : c < 4) (hb : a.1 127 l = -1) (hv : aV (a.1 123 l)) (hn : n < 100) (hq : (a.2 (10 + c)).length < 64) (h : CF I0 I a) :
    cOk (f_X1_serveWrite_77 23 (25 + 2 * l) (Int32.ofNat (1 + 16 * l + 256 * c + 1024 * 0)) (Int32.ofNat c) (Int32.ofNat n) (I, J)) I0 J () (aEnds (aWaits a l 1 c n) l) := by
  have g1 : (Int32.ofNat n ≤ 0) = (n ≤ 0) := i_le (m := 0) (by omega) (by decide)
  unfold f_X1_serveWrite_77 f_X1_serveWrite_108
  simp only [eLt, Option.bind_some, ↓reduceIte, K_23, R_23_0, R_23_1, R_23_2, K_3, K_4, K_24, K_l hl, K_w hl, R_l hl, R_l6 hl, true_and, and_true, eB, decide_true, decide_false, Bool.or_true, Bool.true_or, not_true_eq_false, not_false_eq_true, g1]
  by_cases q : n ≤ 0
  · have : n = 0 := by omega
    subst this
    rw [aEnds_W0 hc]
    simp only [Nat.le_refl, ↓reduceIte]
    unfold aEndW
    refine c_bind (cs_belong hl (H_unw (k := 1) (c := c) (n := 0) hl hb h)) (fun I1 h1 => ?_)
    dsimp only
    refine c_bind (cs_gives (w := 3) (Or.inr (Or.inr rfl)) hl (by decide) hc (by decide) ?_ ?_ h1) (fun I2 h2 => c_ret h2)
    · rw [aForgets_1 (by decide) (by decide), aW_1 (by decide), aW_1 (by decide), aWaits_1 (by decide) (by decide) (by decide)]
      exact hv
    · exact hq
  · rw [aEnds_Wn (by omega) hn]
    simp only [q, ↓reduceIte]
    exact c_bind (cs_wfa hl (by decide) hc (g_1 (n := 0)).symm h) (fun I2 h2 => c_ret h2)
theorem cs_write {m : Nat} (hl : l < 16) (hc : c < 4) (hb : a.1 127 l = -1) (hf : hF a l) (hq : aQ a m) (hm : m < 60) (h : CF I0 I a) :
    cOk (f_X1_serveWrite 23 (25 + 2 * l) (gCm (1, l, c, n)) (I, J)) I0 J () (if a.1 124 l = -1 ∨ a.1 124 l = Int32.ofNat c then aDoW a 1 l c else aDoO a 1 l c) := by
  have hq' : ∀ q, q < 15 → ¬ q = 4 → (a.2 q).length < 64 := fun q h1 h2 => by have := hq q h1 h2; omega
  have h10 : ¬ (1 : Int32) = 0 := by decide
  have e1 : I (25 + 2 * l) 1 = a.1 124 l := (h.1.1 l hl).2.1
  have hb2 : ∀ σ : eMem, f_X4_coreOf (Int32.ofNat (1 + 16 * l + 256 * c + 1024 * 0)) σ = some (Int32.ofNat c, σ) := fun σ => b_core (by decide) hl hc (by decide)
  rw [g_1]
  unfold f_X1_serveWrite
  simp only [hb2, eLt, Option.bind_some, ↓reduceIte, K_23, R_23_0, R_23_1, R_23_2, K_3, K_4, K_24, K_l hl, K_w hl, R_l hl, R_l6 hl, true_and, and_true, eB, decide_true, decide_false, Bool.or_true, Bool.true_or, not_true_eq_false, not_false_eq_true, cs_other hl h]
  by_cases q1 : a.1 124 l = -1 ∨ a.1 124 l = Int32.ofNat c
  · simp only [q1, ↓reduceIte]
    show cOk (f_X1_serveWrite_L35 1000000 (.inl (23, 25 + 2 * l, Int32.ofNat (1 + 16 * l + 256 * c + 1024 * 0), Int32.ofNat c, Int32.ofNat 0, Int32.ofNat 0)) (I, J)) I0 J () (aDoW a 1 l c)
    refine cs_kill1 (x := 0) (n := 100) (by decide) hl hc (hq' _ (by decide) (by decide)) h (by decide) (fun M1 I1 hM1 h1 => ?_)
    refine cs_kill1 (x := 1) (n := 98) (by decide) hl hc ?_ h1 (by omega) (fun M2 I2 hM2 h2 => ?_)
    · rw [aK1_q (by decide)]
      exact hq' _ (by decide) (by decide)
    rw [aKn1_1]
    refine cs_kill1 (x := 2) (n := 96) (by decide) hl hc ?_ h2 (by omega) (fun M3 I3 hM3 h3 => ?_)
    · rw [aK1_q (by decide), aK1_q (by decide)]
      exact hq' _ (by decide) (by decide)
    rw [aKn1_1, aKn1_1]
    refine cs_kill1 (x := 3) (n := 94) (by decide) hl hc ?_ h3 (by omega) (fun M4 I4 hM4 h4 => ?_)
    · rw [aK1_q (by decide), aK1_q (by decide), aK1_q (by decide)]
      exact hq' _ (by decide) (by decide)
    rw [aKn1_1, aKn1_1, aKn1_1]
    obtain ⟨M5, rfl⟩ := Nat.exists_eq_add_of_le hM4
    have h4 : CF I0 I4 (aKills a l c) := h4
    have e : 0 + aKn1 a l c 0 + aKn1 a l c 1 + aKn1 a l c 2 + aKn1 a l c 3 = aKn a l c := by
      unfold aKn
      omega
    rw [e]
    have g1 : ((4 : Int32) ≤ Int32.ofNat (3 + 1)) = True := eq_true (by decide)
    rw [show 94 + M5 = 93 + M5 + 1 by omega, f_X1_serveWrite_L35]
    simp only [g1, ↓reduceIte]
    have hb := aKn_le (a := a) (l := l) (c := c)
    refine cs_write77 hl hc ?_ ?_ (by omega) ?_ h4
    · rw [aKills_1 (by decide)]
      assumption
    · rw [aKills_1 (by decide)]
      exact hf.2
    · rw [aKills_q (by omega)]
      exact hq' _ (by omega) (by omega)
  · rcases hf.1 with ho | ⟨o, ho, ho2⟩
    · exact absurd (Or.inl ho) q1
    · have e5 : aNt (Int32.ofNat o) = o := i_tn (by omega)
      simp only [q1, ↓reduceIte, h10]
      simp only [e1, ho2]
      unfold aDoO
      rw [ho2, e5, if_neg (by decide)]
      refine c_bind (cs_fwd (kk := 5) (k := 4) (kd := 1) (N := 0) ho hl (by decide) hc (by decide) (Or.inr (Or.inl ⟨rfl, rfl⟩)) (hq' _ (by omega) (by omega)) h) (fun I2 h2 => ?_)
      dsimp only
      rw [← aEnds_Wn (k := 1) (c := c) (n := 1) (l := l) (by decide) (by decide)]
      refine cs_write77 (n := 1) hl hc ?_ ?_ (by decide) ?_ h2
      · rw [aSend_1 (by decide)]
        exact hb
      · rw [aSend_1 (by decide)]
        exact hf.2
      · rw [aSend_k (by omega)]
        exact hq' _ (by omega) (by omega)
theorem cs_put (hl : l < 16) (hc : c < 4) (hn : n < 1000) (hq : (a.2 (10 + c)).length < 64) (h : CF I0 I a) :
    cOk (f_X1_servePut 23 (25 + 2 * l) (gCm (2, l, c, n)) (I, J)) I0 J () (aDoP a l c n) := by
  have e1 : I (25 + 2 * l) 1 = a.1 124 l := (h.1.1 l hl).2.1
  have G : ∀ (I1 : Nat → Nat → Int32) b, CF I0 I1 b → (b.2 (10 + c)).length < 64 → cOk (f_X1_servePut_24 23 (Int32.ofNat (2 + 16 * l + 256 * c + 1024 * (n + 1))) (I1, J)) I0 J () (aSend b (10 + c) 7 l c 0) := by
    intro I1 b h1 hq1
    unfold f_X1_servePut_24
    simp only [eLt, Option.bind_some, ↓reduceIte, K_23, R_23_0, R_23_1, R_23_2, K_3, K_4, K_24, K_l hl, K_w hl, R_l hl, R_l6 hl, true_and, and_true, eB, decide_true, decide_false, Bool.or_true, Bool.true_or, not_true_eq_false, not_false_eq_true]
    exact c_bind (c_eqa (cs_ans (kk := 9) (m := (7, l, c, 0)) (N2 := 0) (by decide) hl (by decide) hc (by omega) g_7 (by decide) hq1 h1) rfl) (fun I2 h2 => c_ret h2)
  rw [g_2]
  unfold f_X1_servePut aDoP
  simp only [eLt, Option.bind_some, ↓reduceIte, K_23, R_23_0, R_23_1, R_23_2, K_3, K_4, K_24, K_l hl, K_w hl, R_l hl, R_l6 hl, true_and, and_true, eB, decide_true, decide_false, Bool.or_true, Bool.true_or, not_true_eq_false, not_false_eq_true, b_core (k := 2) (N := n + 1) (by decide) hl hc (by omega), b_val (k := 2) (N := n + 1) (by decide) hl hc (by omega), e1, b_v1]
  by_cases q : a.1 124 l = Int32.ofNat c
  · simp only [q, not_true_eq_false, ↓reduceIte]
    refine G _ _ ?_ hq
    exact H_own hl (H_val hl h)
  · simp only [q, not_false_eq_true, ↓reduceIte]
    exact G _ _ h hq
theorem cs_serve {m : Nat} (hl : l < 16) (hc : c < 4) (hk : k < 3) (hn : n < 1000) (hb : a.1 127 l = -1) (hf : hF a l) (hK : kF a l) (hq : aQ a m) (hm : m < 60) (h : CF I0 I a) :
    cOk (f_X1_serve 23 (25 + 2 * l) (gCm (k, l, c, n)) (I, J)) I0 J () (aDoes a k l c n) := by
  have h10 : ¬ (1 : Int32) = 0 := by decide
  have hkd : ∃ N, gCm (k, l, c, n) = Int32.ofNat (k + 16 * l + 256 * c + 1024 * N) := by
    have : k = 0 ∨ k = 1 ∨ k = 2 := by omega
    rcases this with q | q | q <;> subst q
    · exact ⟨0, g_0⟩
    · exact ⟨0, g_1⟩
    · exact ⟨n + 1, g_2⟩
  obtain ⟨N, hN⟩ := hkd
  have e1 : ∀ σ : eMem, f_X4_kindOf (gCm (k, l, c, n)) σ = some (Int32.ofNat k, σ) := by
    intro σ
    rw [hN]
    exact b_kind (by omega)
  have k0 : (Int32.ofNat k = 0) = (k = 0) := i_eq (m := 0) (by omega) (by decide)
  have k1 : (Int32.ofNat k = 1) = (k = 1) := i_eq (m := 1) (by omega) (by decide)
  unfold f_X1_serve f_X1_serve_56 aDoes
  simp only [e1, Option.bind_some, k0, k1, K_23, ↓reduceIte]
  have : k = 0 ∨ k = 1 ∨ k = 2 := by omega
  rcases this with q | q | q <;> subst q
  · simp only [↓reduceIte, show ¬ 0 = 2 by decide]
    exact c_bind (cs_read hl hc hf hK hq (by omega) h) (fun I1 h1 => c_ret h1)
  · simp only [↓reduceIte, show ¬ 1 = 2 by decide, show ¬ 1 = 0 by decide]
    exact c_bind (cs_write hl hc hb hf hq hm h) (fun I1 h1 => c_ret h1)
  · simp only [↓reduceIte, show ¬ 2 = 1 by decide, show ¬ 2 = 0 by decide]
    exact c_bind (cs_put hl hc hn (by have := hq (10 + c) (by omega) (by omega); omega) h) (fun I1 h1 => c_ret h1)
end EPD
