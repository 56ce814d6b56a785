/-! the class: places, what changes of them -/
section EPD
variable {I I' I0 : Nat → Nat → Int32} {J : Nat → Nat → Int64} {a a' b : aS} {r i l q c k n p w z N o : Nat} {v t x y : Int32} {m : aM} {σ : eMem}
def uF (a : aS) : Prop := ∃ v, a.1 122 18 = Int32.ofNat v ∧ v < 1900000000
/-- a place that doesn't wait has nothing to remember -/
def nF (a : aS) (c : Nat) : Prop := ∀ p, p < 4 → (a.1 139 (4 * c + p) = 0 ∨ a.1 139 (4 * c + p) = 1 ∧ a.1 136 (4 * c + p) = 4) ∧ (aWt (a.1 136 (4 * c + p)) = false → a.1 140 (4 * c + p) = -1)
/-- a place changes, unused -/
theorem C_plN (hc : c < 4) (hp : p < 4) (hI : ∀ r k, ¬ r = 82 + 12 * c + p → I' r k = I r k) (hI3 : I' (82 + 12 * c + p) 3 = I (82 + 12 * c + p) 3)
    (ha : ∀ r i, ¬ (135 ≤ r ∧ r ≤ 140 ∧ ¬ r = 138 ∧ i = 4 * c + p) → a'.1 r i = a.1 r i) (hq : a'.2 = a.2) (hP : PlOk I' a' c p)
    (hval : aVal (a'.1 136 (4 * c + p)) = true → aVal (a.1 136 (4 * c + p)) = true) (h : CF I0 I a) : CF I0 I' a' := by
  refine C_place hc hp (fun r k g _ => hI r k g) (fun r i g _ => ha r i (by omega)) hq hP ?_ (us_same (ha _ _ (by omega))) h
  refine Us_fr (h.1.2.2.2.1 c hc) (hI _ _ (by omega)) (fun p' hp' => ?_) (fun p' _ => ha _ _ (by omega)) (fun p' hp' hv => ?_) (us_same (ha _ _ (by omega)))
  · by_cases g : p' = p
    · subst g
      exact hI3
    · exact hI _ _ (by omega)
  · by_cases g : p' = p
    · subst g
      exact hval hv
    · rw [ha _ _ (by omega)] at hv
      exact hv
theorem i_ad1 {x : Int32} {u : Nat} (h : x = Int32.ofNat u) : x + 1 = Int32.ofNat (u + 1) := by
  rw [h]
  exact i_ad
theorem us_more (hu : uF a) (h : a'.1 122 18 = a.1 122 18 + 1) : ∀ v, a.1 122 18 = Int32.ofNat v → v < 2000000000 → ∃ v', a'.1 122 18 = Int32.ofNat v' ∧ v ≤ v' ∧ v' < 2000000000 := by
  intro v h1 h2
  obtain ⟨w, g1, g2⟩ := hu
  have : v = w := by
    have e := h1.symm.trans g1
    rw [i_eq (by omega) (by omega)] at e
    exact e
  exact ⟨v + 1, h.trans (i_ad1 h1), by omega, by omega⟩
/-- a place changes, and is used by that -/
theorem C_plU (hc : c < 4) (hp : p < 4) (hI : ∀ r k, ¬ r = 82 + 12 * c + p → ¬ (r = 74 + 12 * c ∧ k = 9) → I' r k = I r k) (h9 : I' (74 + 12 * c) 9 = I (74 + 12 * c) 9 + 1) (h3 : I' (82 + 12 * c + p) 3 = I (74 + 12 * c) 9 + 1)
    (ha : ∀ r i, ¬ (135 ≤ r ∧ r ≤ 140 ∧ i = 4 * c + p) → ¬ (r = 122 ∧ i = 18) → a'.1 r i = a.1 r i) (a18 : a'.1 122 18 = a.1 122 18 + 1) (a38 : a'.1 138 (4 * c + p) = a.1 122 18 + 1) (hq : a'.2 = a.2) (hP : PlOk I' a' c p)
    (hu : uF a) (h : CF I0 I a) : CF I0 I' a' := by
  refine C_place hc hp hI ha hq hP ?_ (us_more hu a18) h
  obtain ⟨u, v, h1, h2, h4, h5, h6, h7⟩ := h.1.2.2.2.1 c hc
  obtain ⟨v', g1, g2⟩ := hu
  have : v = v' := by
    have e := h2.symm.trans g1
    rw [i_eq (by omega) (by omega)] at e
    exact e
  subst this
  have k3 : ∀ p', p' < 4 → ¬ p' = p → I' (82 + 12 * c + p') 3 = I (82 + 12 * c + p') 3 := fun p' hp' g => hI _ _ (by omega) (by omega)
  have k8 : ∀ p', p' < 4 → ¬ p' = p → a'.1 138 (4 * c + p') = a.1 138 (4 * c + p') := fun p' hp' g => ha _ _ (by omega) (by omega)
  have k6 : ∀ p', p' < 4 → ¬ p' = p → a'.1 136 (4 * c + p') = a.1 136 (4 * c + p') := fun p' hp' g => ha _ _ (by omega) (by omega)
  rw [i_ad1 h1] at h3 h9
  rw [i_ad1 h2] at a18 a38
  refine ⟨u + 1, v + 1, h9, a18, by omega, by omega, fun p' hp' hv => ?_, fun p1 p2 hp1 hp2 hv1 hv2 => ?_⟩
  · by_cases g : p' = p
    · subst g
      exact ⟨_, _, h3, a38, Nat.le_refl _, Nat.le_refl _⟩
    · rw [k6 p' hp' g] at hv
      obtain ⟨s, t, j1, j2, j3, j4⟩ := h6 p' hp' hv
      exact ⟨s, t, by rw [k3 p' hp' g, j1], by rw [k8 p' hp' g, j2], by omega, by omega⟩
  · by_cases g1 : p1 = p
    · by_cases g2 : p2 = p
      · subst g1 g2
        rw [h3, a38, i_lt (by omega) (by omega), i_lt (by omega) (by omega)]
        omega
      · subst g1
        rw [k6 p2 hp2 g2] at hv2
        obtain ⟨s, t, j1, j2, j3, j4⟩ := h6 p2 hp2 hv2
        rw [h3, a38, k3 p2 hp2 g2, k8 p2 hp2 g2, j1, j2, i_lt (by omega) (by omega), i_lt (by omega) (by omega)]
        omega
    · by_cases g2 : p2 = p
      · subst g2
        rw [k6 p1 hp1 g1] at hv1
        obtain ⟨s, t, j1, j2, j3, j4⟩ := h6 p1 hp1 hv1
        rw [h3, a38, k3 p1 hp1 g1, k8 p1 hp1 g1, j1, j2, i_lt (by omega) (by omega), i_lt (by omega) (by omega)]
        omega
      · rw [k6 p1 hp1 g1] at hv1
        rw [k6 p2 hp2 g2] at hv2
        rw [k3 p1 hp1 g1, k8 p1 hp1 g1, k3 p2 hp2 g2, k8 p2 hp2 g2]
        exact h7 p1 p2 hp1 hp2 hv1 hv2
/-- a place is empty, though the reference counts it used -/
theorem C_plK (hc : c < 4) (hp : p < 4) (hI : ∀ r k, ¬ r = 82 + 12 * c + p → I' r k = I r k)
    (ha : ∀ r i, ¬ (135 ≤ r ∧ r ≤ 140 ∧ i = 4 * c + p) → ¬ (r = 122 ∧ i = 18) → a'.1 r i = a.1 r i) (a18 : a'.1 122 18 = a.1 122 18 + 1) (a36 : a'.1 136 (4 * c + p) = 0) (hq : a'.2 = a.2) (hP : PlOk I' a' c p)
    (hu : uF a) (h : CF I0 I a) : CF I0 I' a' := by
  refine C_place hc hp (fun r k g _ => hI r k g) ha hq hP ?_ (us_more hu a18) h
  obtain ⟨u, v, h1, h2, h4, h5, h6, h7⟩ := h.1.2.2.2.1 c hc
  obtain ⟨v', g1, g2, g3⟩ := us_more hu a18 v h2 h5
  have k3 : ∀ p', p' < 4 → ¬ p' = p → I' (82 + 12 * c + p') 3 = I (82 + 12 * c + p') 3 := fun p' hp' g => hI _ _ (by omega)
  have k8 : ∀ p', p' < 4 → ¬ p' = p → a'.1 138 (4 * c + p') = a.1 138 (4 * c + p') := fun p' hp' g => ha _ _ (by omega) (by omega)
  have k6 : ∀ p', p' < 4 → ¬ p' = p → a'.1 136 (4 * c + p') = a.1 136 (4 * c + p') := fun p' hp' g => ha _ _ (by omega) (by omega)
  have k0 : ∀ p', p' < 4 → aVal (a'.1 136 (4 * c + p')) = true → ¬ p' = p := by
    intro p' hp' hv g
    rw [g, a36] at hv
    exact absurd hv (by decide)
  refine ⟨u, v', (hI _ _ (by omega)).trans h1, g1, by omega, g3, fun p' hp' hv => ?_, fun p1 p2 hp1 hp2 hv1 hv2 => ?_⟩
  · have g := k0 p' hp' hv
    rw [k6 p' hp' g] at hv
    obtain ⟨s, t, j1, j2, j3, j4⟩ := h6 p' hp' hv
    exact ⟨s, t, by rw [k3 p' hp' g, j1], by rw [k8 p' hp' g, j2], by omega, by omega⟩
  · have q1 := k0 p1 hp1 hv1
    have q2 := k0 p2 hp2 hv2
    rw [k6 p1 hp1 q1] at hv1
    rw [k6 p2 hp2 q2] at hv2
    rw [k3 p1 hp1 q1, k8 p1 hp1 q1, k3 p2 hp2 q2, k8 p2 hp2 q2]
    exact h7 p1 p2 hp1 hp2 hv1 hv2
theorem P_leave (hc : c < 4) (hl : l < 16) (h : CF I0 I a) : CF I0 (eup I (76 + 12 * c) l v) (aW a 141 (16 * c + l) v) := by
  refine C_core (a := a) hc (fun r k g1 g2 => up_o (by omega)) (fun r i g1 g2 g3 g4 => aW_o (by omega)) rfl (fun l' hl' => ?_) ?_ ?_ h
  · by_cases g : l' = l
    · subst g
      rw [up_eq, aW_e]
    · rw [up_k g, aW_k (by omega)]
      exact h.1.2.2.2.2.1 c hc l' hl'
  · exact Co_fr (h.1.2.2.2.2.2.1 c hc) (fun k _ => up_o (by omega)) (up_fr (by omega)) (up_fr (by omega)) (aW_o (by omega)) (aW_o (by omega)) (aW_o (by omega)) (fun k _ => ⟨aW_o (by omega), aW_o (by omega)⟩)
  · exact Tx_fr (h.1.2.2.2.2.2.2.1 c hc) (up_fr (by omega)) (up_fr (by omega)) (up_fr (by omega)) (fun r _ _ => aW_o (by omega)) (fun l' _ => aW_o (by omega))
/-! the cells of a place -/
theorem pl_1 (hc : c < 4) (hp : p < 4) (h : CF I0 I a) : I (82 + 12 * c + p) 1 = a.1 136 (4 * c + p) := (h.1.2.2.1 c p hc hp).1
theorem pl_0 (hc : c < 4) (hp : p < 4) (h : CF I0 I a) : I (82 + 12 * c + p) 0 = (if a.1 136 (4 * c + p) = 0 then -1 else a.1 135 (4 * c + p)) := (h.1.2.2.1 c p hc hp).2.1
theorem pl_2 (hc : c < 4) (hp : p < 4) (hv : aVal (a.1 136 (4 * c + p)) = true) (h : CF I0 I a) : I (82 + 12 * c + p) 2 = a.1 137 (4 * c + p) := (h.1.2.2.1 c p hc hp).2.2.1 hv
theorem pl_4 (hc : c < 4) (hp : p < 4) (hw : aWt (a.1 136 (4 * c + p)) = true) (h : CF I0 I a) : I (82 + 12 * c + p) 4 = a.1 139 (4 * c + p) := (h.1.2.2.1 c p hc hp).2.2.2.1 hw
theorem pl_5 (hc : c < 4) (hp : p < 4) (hw : aWt (a.1 136 (4 * c + p)) = true) (h : CF I0 I a) : I (82 + 12 * c + p) 5 = aFw (a.1 140 (4 * c + p)) := (h.1.2.2.1 c p hc hp).2.2.2.2 hw
theorem pl_l (hc : c < 4) (hp : p < 4) (hl : l < 16) (h : CF I0 I a) : (I (82 + 12 * c + p) 0 = Int32.ofNat l) = (aAt a c l p = true) := by
  rw [pl_0 hc hp h, aAt_iff]
  by_cases q : a.1 136 (4 * c + p) = 0
  · rw [if_pos q]
    apply propext
    constructor
    · intro g
      exact absurd g.symm (by rw [i_ne1 (by omega)]; exact not_false)
    · intro g
      exact absurd q g.1
  · rw [if_neg q]
    apply propext
    exact ⟨fun g => ⟨q, g⟩, fun g => g.2⟩
def pI (c : Nat) (o : Option Nat) : Nat := match o with
  | some p => 82 + 12 * c + p
  | none => 0
theorem cs_isEmpty (hc : c < 4) (hp : p < 4) (h : CF I0 I a) : f_X7_isEmpty (82 + 12 * c + p) (I, J) = some (if a.1 136 (4 * c + p) = 0 then 1 else 0, (I, J)) := by
  unfold f_X7_isEmpty f_X7_isEmpty_12
  simp only [K_p hc hp, pl_1 hc hp h, ↓reduceIte, eB]
  by_cases q : a.1 136 (4 * c + p) = 0 <;> simp [q]
theorem cs_may (hc : c < 4) (hp : p < 4) (h : CF I0 I a) : f_X7_mayBeWritten (82 + 12 * c + p) (I, J) = some (if aOwn (a.1 136 (4 * c + p)) = true then 1 else 0, (I, J)) := by
  unfold f_X7_mayBeWritten f_X7_mayBeWritten_16 f_X7_mayBeWritten_21 aOwn
  simp only [K_p hc hp, pl_1 hc hp h, ↓reduceIte, eB]
  by_cases q1 : a.1 136 (4 * c + p) = 2 <;> by_cases q2 : a.1 136 (4 * c + p) = 3 <;> simp [q1, q2]
theorem cs_waits (hc : c < 4) (hp : p < 4) (h : CF I0 I a) : f_X7_waits (82 + 12 * c + p) (I, J) = some (if aWt (a.1 136 (4 * c + p)) = true then 1 else 0, (I, J)) := by
  unfold f_X7_waits f_X7_waits_16 f_X7_waits_21 aWt
  simp only [K_p hc hp, pl_1 hc hp h, ↓reduceIte, eB]
  by_cases q1 : a.1 136 (4 * c + p) = 4 <;> by_cases q2 : a.1 136 (4 * c + p) = 5 <;> simp [q1, q2]
theorem cs_hasV (hc : c < 4) (hp : p < 4) (h : CF I0 I a) : f_X7_hasValue (82 + 12 * c + p) (I, J) = some (if aVal (a.1 136 (4 * c + p)) = true then 1 else 0, (I, J)) := by
  unfold f_X7_hasValue f_X7_hasValue_15 f_X7_hasValue_20 aVal
  simp only [K_p hc hp, pl_1 hc hp h, ↓reduceIte, cs_may hc hp h, Option.bind_some]
  by_cases q1 : a.1 136 (4 * c + p) = 1
  · simp [q1, eB]
  · by_cases q2 : aOwn (a.1 136 (4 * c + p)) = true <;> simp [q1, q2, eB]
theorem cs_pl1 (hc : c < 4) (hl : l < 16) (hp : p < 4) (h : CF I0 I a) : f_X0_placeOf_2 (n + 1) (74 + 12 * c) (Int32.ofNat l) (Int32.ofNat p) (I, J) =
    if aAt a c l p = true then some (82 + 12 * c + p, (I, J)) else f_X0_placeOf_2 n (74 + 12 * c) (Int32.ofNat l) (Int32.ofNat (p + 1)) (I, J) := by
  rw [f_X0_placeOf_2]
  have g1 : ((4 : Int32) ≤ Int32.ofNat p) = False := (i_le (n := 4) (by decide) (by omega)).trans (eq_false (by omega))
  have g2 : eix (Int32.ofNat p) 4 = true := i_ix hp (by decide)
  have g3 : (Int32.ofNat p).toNatClampNeg = p := i_tn (by omega)
  simp only [eLt, Option.bind_some, ↓reduceIte, K_c74 hc, K_c75 hc, K_c76 hc, K_c77 hc, K_c78 hc, K_c79 hc, K_c80 hc, K_c81 hc, R_c1 hc, R_c2 hc, R_c3 hc, R_c4 hc, R_c5 hc, R_c6 hc, R_c8 hc, R_t5 hc, R_t6 hc, K_3, K_4, true_and, and_true, eB, decide_true, decide_false, Bool.or_true, Bool.true_or, not_true_eq_false, not_false_eq_true, g1, g2, g3, R_p hc hp, K_p hc hp, pl_l hc hp hl h, p1]
  by_cases q : aAt a c l p = true <;> simp [q]
theorem cs_place (hc : c < 4) (hl : l < 16) (h : CF I0 I a) : f_X0_placeOf (74 + 12 * c) (Int32.ofNat l) (I, J) = some (pI c (aPl a c l), (I, J)) := by
  unfold f_X0_placeOf
  obtain ⟨N, hN⟩ : ∃ N, 1000000 = N + 1 + 1 + 1 + 1 + 1 := ⟨999995, rfl⟩
  rw [hN]
  show f_X0_placeOf_2 _ _ _ (Int32.ofNat 0) _ = _
  rw [cs_pl1 hc hl (by decide) h, cs_pl1 hc hl (by decide) h, cs_pl1 hc hl (by decide) h, cs_pl1 hc hl (by decide) h, f_X0_placeOf_2]
  have g1 : ((4 : Int32) ≤ Int32.ofNat (0 + 1 + 1 + 1 + 1)) = True := eq_true (by decide)
  simp only [g1, ↓reduceIte]
  unfold aPl
  by_cases q0 : aAt a c l 0 = true
  · simp [q0, pI]
  · by_cases q1 : aAt a c l 1 = true
    · simp [q0, q1, pI]
    · by_cases q2 : aAt a c l 2 = true
      · simp [q0, q1, q2, pI]
      · by_cases q3 : aAt a c l 3 = true <;> simp [q0, q1, q2, q3, pI]
theorem cs_ep1 (hc : c < 4) (hp : p < 4) (h : CF I0 I a) : f_X0_emptyPlace_2 (n + 1) (74 + 12 * c) (Int32.ofNat p) (I, J) =
    if a.1 136 (4 * c + p) = 0 then some (82 + 12 * c + p, (I, J)) else f_X0_emptyPlace_2 n (74 + 12 * c) (Int32.ofNat (p + 1)) (I, J) := by
  rw [f_X0_emptyPlace_2]
  have g1 : ((4 : Int32) ≤ Int32.ofNat p) = False := (i_le (n := 4) (by decide) (by omega)).trans (eq_false (by omega))
  have g2 : eix (Int32.ofNat p) 4 = true := i_ix hp (by decide)
  have g3 : (Int32.ofNat p).toNatClampNeg = p := i_tn (by omega)
  have h10 : ¬ (1 : Int32) = 0 := by decide
  simp only [eLt, Option.bind_some, ↓reduceIte, K_c74 hc, K_c75 hc, K_c76 hc, K_c77 hc, K_c78 hc, K_c79 hc, K_c80 hc, K_c81 hc, R_c1 hc, R_c2 hc, R_c3 hc, R_c4 hc, R_c5 hc, R_c6 hc, R_c8 hc, R_t5 hc, R_t6 hc, K_3, K_4, true_and, and_true, eB, decide_true, decide_false, Bool.or_true, Bool.true_or, not_true_eq_false, not_false_eq_true, g1, g2, g3, R_p hc hp, K_p hc hp, cs_isEmpty hc hp h, p1]
  by_cases q : a.1 136 (4 * c + p) = 0 <;> simp [q]
theorem cs_empty (hc : c < 4) (h : CF I0 I a) : f_X0_emptyPlace (74 + 12 * c) (I, J) = some (pI c (aEp a c), (I, J)) := by
  unfold f_X0_emptyPlace
  obtain ⟨N, hN⟩ : ∃ N, 1000000 = N + 1 + 1 + 1 + 1 + 1 := ⟨999995, rfl⟩
  rw [hN]
  show f_X0_emptyPlace_2 _ _ (Int32.ofNat 0) _ = _
  rw [cs_ep1 hc (by decide) h, cs_ep1 hc (by decide) h, cs_ep1 hc (by decide) h, cs_ep1 hc (by decide) h, f_X0_emptyPlace_2]
  have g1 : ((4 : Int32) ≤ Int32.ofNat (0 + 1 + 1 + 1 + 1)) = True := eq_true (by decide)
  simp only [g1, ↓reduceIte]
  unfold aEp
  by_cases q0 : a.1 136 (4 * c) = 0
  · simp [q0, pI]
  · by_cases q1 : a.1 136 (4 * c + 1) = 0
    · simp [q0, q1, pI]
    · by_cases q2 : a.1 136 (4 * c + 2) = 0
      · simp [q0, q1, q2, pI]
      · by_cases q3 : a.1 136 (4 * c + 3) = 0 <;> simp [q0, q1, q2, q3, pI]
theorem tx_0 (hc : c < 4) (h : CF I0 I a) : I (79 + 12 * c) 0 = a.1 145 c := (h.1.2.2.2.2.2.2.1 c hc).1
theorem tx_1 (hc : c < 4) (h : CF I0 I a) : I (79 + 12 * c) 1 = a.1 146 c := (h.1.2.2.2.2.2.2.1 c hc).2.1
theorem tx_2 (hc : c < 4) (h : CF I0 I a) : I (79 + 12 * c) 2 = a.1 147 c := (h.1.2.2.2.2.2.2.1 c hc).2.2.1
theorem tx_3 (hc : c < 4) (ho : ¬ a.1 145 c = 0) (h : CF I0 I a) : I (79 + 12 * c) 3 = Int32.ofNat (aPop (a.1 148 c ||| a.1 149 c)) := ((h.1.2.2.2.2.2.2.1 c hc).2.2.2 ho).1
theorem tx_4 (hc : c < 4) (ho : ¬ a.1 145 c = 0) (h : CF I0 I a) : I (79 + 12 * c) 4 = Int32.ofNat (aPop (a.1 149 c)) := ((h.1.2.2.2.2.2.2.1 c hc).2.2.2 ho).2.1
theorem tx_i (hc : c < 4) (hl : l < 16) (ho : ¬ a.1 145 c = 0) (h : CF I0 I a) : I (80 + 12 * c) l = (if aBit (a.1 148 c ||| a.1 149 c) l = true then 1 else 0) := (((h.1.2.2.2.2.2.2.1 c hc).2.2.2 ho).2.2 l hl).1
theorem tx_s (hc : c < 4) (hl : l < 16) (ho : ¬ a.1 145 c = 0) (h : CF I0 I a) : I (81 + 12 * c) l = (if aBit (a.1 149 c) l = true then a.1 150 (16 * c + l) else -1) := (((h.1.2.2.2.2.2.2.1 c hc).2.2.2 ho).2.2 l hl).2
theorem cs_has (hc : c < 4) (hl : l < 16) (h : CF I0 I a) : f_X10_has (79 + 12 * c) (Int32.ofNat l) (I, J) = some (if aIsIn a c l = true then 1 else 0, (I, J)) := by
  have ht : (Int32.ofNat l).toNatClampNeg = l := i_tn (by omega)
  have hi : eix (Int32.ofNat l) 16 = true := i_ix hl (by decide)
  unfold f_X10_has f_X10_has_20 f_X10_has_21 aIsIn
  simp only [eLt, Option.bind_some, ↓reduceIte, K_c74 hc, K_c75 hc, K_c76 hc, K_c77 hc, K_c78 hc, K_c79 hc, K_c80 hc, K_c81 hc, R_c1 hc, R_c2 hc, R_c3 hc, R_c4 hc, R_c5 hc, R_c6 hc, R_c8 hc, R_t5 hc, R_t6 hc, K_3, K_4, true_and, and_true, eB, decide_true, decide_false, Bool.or_true, Bool.true_or, not_true_eq_false, not_false_eq_true, tx_0 hc h, ht, hi]
  by_cases q : a.1 145 c = 0
  · simp [q]
  · rw [tx_i hc hl q h]
    by_cases q2 : aBit (a.1 148 c ||| a.1 149 c) l = true <;> simp [q, q2]
end EPD
