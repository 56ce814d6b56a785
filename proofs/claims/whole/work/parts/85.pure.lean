/-! the class: whether all caches are in order -/
section EPD
variable {I I' I0 : Nat → Nat → Int32} {J : Nat → Nat → Int64} {a a' b : aS} {r i l q c k n p w z N o : Nat} {v t x y : Int32} {m : aM} {σ : eMem}
/-- a core's hold of a line: whether owned, whether modified, its value -/
abbrev hI : Type := Bool × Bool × Int32
def aHv (a : aS) (c l : Nat) : Option hI := match aPl a c l with
  | some p => if aVal (a.1 136 (4 * c + p)) = true then some (aOwn (a.1 136 (4 * c + p)), decide (a.1 136 (4 * c + p) = 3), a.1 137 (4 * c + p)) else none
  | none => none
def hStp (s : Nat × Nat × Int32) (x : hI) : Option (Nat × Nat × Int32) :=
  if x.2.1 = true then some (s.1 + (if x.1 = true then 1 else 0), s.2.1 + 1, s.2.2)
  else if s.2.2 = -1 ∨ s.2.2 = x.2.2 then some (s.1 + (if x.1 = true then 1 else 0), s.2.1 + 1, x.2.2) else none
def hRun : List hI → Nat × Nat × Int32 → Option (Nat × Nat × Int32)
  | [], s => some s
  | x :: L, s => match hStp s x with
    | some s' => hRun L s'
    | none => none
def hEnd (o : Option (Nat × Nat × Int32)) : Bool := match o with
  | some s => decide (s.1 = 0) || decide (s.2.1 = 1)
  | none => false
def hLst (a : aS) (l : Nat) : Nat → Nat → List hI
  | 0, _ => []
  | d + 1, c => (aHv a c l).toList ++ hLst a l d (c + 1)
def lCoh (a : aS) (l : Nat) : Bool := hEnd (hRun (hLst a l 4 0) (0, 0, -1))
def wOk (s : Nat × Nat × Int32) : Prop := s.1 < 100 ∧ s.2.1 < 100
theorem cs_lin (hl : l < 16) (h : RepC I a) : ∀ d c N s, c + d = 4 → 4 * d + 1 ≤ N → s.1 ≤ c → s.2.1 ≤ c →
    f_X11_isLineCoherent_L10 N (.inl (2, Int32.ofNat l, Int32.ofNat s.1, Int32.ofNat s.2.1, s.2.2, Int32.ofNat c)) (I, J) = some (bI (hEnd (hRun (hLst a l d c) s)), (I, J)) := by
  have h0 := CF_s h
  have h10 : ¬ (1 : Int32) = 0 := by decide
  intro d
  induction d with
  | zero =>
    intro c N s h1 h2 h3 h4
    obtain ⟨N, rfl⟩ := Nat.exists_eq_add_of_le h2
    rw [show 4 * 0 + 1 + N = N + 1 by omega, f_X11_isLineCoherent_L10]
    have g1 : ((4 : Int32) ≤ Int32.ofNat c) = True := (i_le (n := 4) (by decide) (by omega)).trans (eq_true (by omega))
    have g2 : (Int32.ofNat s.1 = 0) = (s.1 = 0) := i_eq (m := 0) (by omega) (by decide)
    have g3 : (Int32.ofNat s.2.1 = 1) = (s.2.1 = 1) := i_eq (m := 1) (by omega) (by decide)
    unfold f_X11_isLineCoherent_108 f_X11_isLineCoherent_113
    simp only [g1, g2, g3, ↓reduceIte, eB]
    unfold hLst hRun hEnd
    by_cases q1 : s.1 = 0
    · simp [q1, bI]
    · by_cases q2 : s.2.1 = 1 <;> simp [q1, q2, bI]
  | succ d ih =>
    intro c N s h1 h2 h3 h4
    obtain ⟨N, rfl⟩ := Nat.exists_eq_add_of_le h2
    have hc : c < 4 := by omega
    rw [show 4 * (d + 1) + 1 + N = 4 * d + N + 4 + 1 by omega, f_X11_isLineCoherent_L10]
    have g1 : ((4 : Int32) ≤ Int32.ofNat c) = False := (i_le (n := 4) (by decide) (by omega)).trans (eq_false (by omega))
    simp only [g1, eThen, eLt, Option.bind_some, ↓reduceIte, K_2, R_2_0, R_2_1, R_2_2, R_2_3, K_57, K_3, K_4, K_23, K_24, R_23_0, R_23_1, R_23_2, true_and, and_true, eB, decide_true, decide_false, Bool.or_true, Bool.true_or, not_true_eq_false, not_false_eq_true, c_tn hc, c_ix hc, R_c hc, K_c74 hc, cs_place hc hl h0]
    unfold hLst aHv
    have K0 : ∀ N2, 4 * d + 2 ≤ N2 → f_X11_isLineCoherent_L10 N2 (.inr (.inr (.inr ((2, Int32.ofNat l, Int32.ofNat s.1, Int32.ofNat s.2.1, s.2.2, Int32.ofNat c))))) (I, J) = some (bI (hEnd (hRun (hLst a l d (c + 1)) s)), (I, J)) := by
      intro N2 hN2
      obtain ⟨N2, rfl⟩ := Nat.exists_eq_add_of_le hN2
      rw [show 4 * d + 2 + N2 = 4 * d + 1 + N2 + 1 by omega, f_X11_isLineCoherent_L10, p1]
      exact ih (c + 1) _ s (by omega) (by omega) (by omega) (by omega)
    cases hP : aPl a c l with
    | none =>
      have e5 : pI c none = 0 := rfl
      simp only [e5, ↓reduceIte, Option.toList_none, List.nil_append]
      exact K0 _ (by omega)
    | some p =>
      have hp := (aPl_lt hP).1
      have e5 : pI c (some p) = 82 + 12 * c + p := rfl
      have e6 : ¬ 82 + 12 * c + p = 0 := by omega
      simp only [e5, e6, ↓reduceIte, K_p hc hp, cs_hasV hc hp h0, Option.bind_some]
      by_cases hv : aVal (a.1 136 (4 * c + p)) = true
      · simp only [hv, ↓reduceIte, h10, not_false_eq_true, cs_may hc hp h0, Option.bind_some, Option.toList_some, List.singleton_append]
        unfold hRun hStp
        have K1 : ∀ (W : Nat) (N2 : Nat), W ≤ s.1 + 1 → 4 * d + 4 ≤ N2 → W = s.1 + (if aOwn (a.1 136 (4 * c + p)) = true then 1 else 0) →
            f_X11_isLineCoherent_L10 N2 (.inr (.inl (2, Int32.ofNat l, Int32.ofNat W, Int32.ofNat (s.2.1 + 1), s.2.2, Int32.ofNat c, 82 + 12 * c + p))) (I, J) =
            some (bI (hEnd (match (if decide (a.1 136 (4 * c + p) = 3) = true then some (s.1 + (if aOwn (a.1 136 (4 * c + p)) = true then 1 else 0), s.2.1 + 1, s.2.2)
              else if s.2.2 = -1 ∨ s.2.2 = a.1 137 (4 * c + p) then some (s.1 + (if aOwn (a.1 136 (4 * c + p)) = true then 1 else 0), s.2.1 + 1, a.1 137 (4 * c + p)) else none : Option (Nat × Nat × Int32)) with
              | some s' => hRun (hLst a l d (c + 1)) s'
              | none => none)), (I, J)) := by
          intro W N2 hW hN2 hWe
          rw [← hWe]
          obtain ⟨N2, rfl⟩ := Nat.exists_eq_add_of_le hN2
          rw [show 4 * d + 4 + N2 = 4 * d + 1 + N2 + 1 + 1 + 1 by omega, f_X11_isLineCoherent_L10]
          simp only [K_p hc hp, ↓reduceIte, pl_1 hc hp h0, pl_2 hc hp hv h0, decide_eq_true_eq]
          by_cases q1 : a.1 136 (4 * c + p) = 3
          · simp only [q1, ↓reduceIte]
            rw [f_X11_isLineCoherent_L10, p1]
            exact ih (c + 1) _ (W, s.2.1 + 1, s.2.2) (by omega) (by omega) (by dsimp only; omega) (by dsimp only; omega)
          · simp only [q1, ↓reduceIte]
            have K2 : f_X11_isLineCoherent_L10 (4 * d + 1 + N2 + 1 + 1) (.inr (.inr (.inl (2, Int32.ofNat l, Int32.ofNat W, Int32.ofNat (s.2.1 + 1), Int32.ofNat c, 82 + 12 * c + p)))) (I, J) = some (bI (hEnd (hRun (hLst a l d (c + 1)) (W, s.2.1 + 1, a.1 137 (4 * c + p)))), (I, J)) := by
              rw [f_X11_isLineCoherent_L10]
              simp only [K_p hc hp, ↓reduceIte, pl_2 hc hp hv h0, eLt]
              rw [f_X11_isLineCoherent_L10, p1]
              exact ih (c + 1) _ (W, s.2.1 + 1, a.1 137 (4 * c + p)) (by omega) (by omega) (by dsimp only; omega) (by dsimp only; omega)
            by_cases q2 : s.2.2 = -1
            · simp only [q2, true_or, ↓reduceIte]
              exact K2
            · by_cases q3 : s.2.2 = a.1 137 (4 * c + p)
              · simp only [q3, or_true, ↓reduceIte, ite_self]
                exact K2
              · simp only [q2, q3, or_self, ↓reduceIte, eB, decide_true, Bool.true_or]
                rfl
        by_cases q : aOwn (a.1 136 (4 * c + p)) = true
        · simp only [q, ↓reduceIte, h10, p1] at K1 ⊢
          exact K1 (s.1 + 1) _ (by omega) (by omega) rfl
        · simp only [q, ↓reduceIte, Bool.false_eq_true, p1] at K1 ⊢
          exact K1 s.1 _ (by omega) (by omega) rfl
      · simp only [hv, ↓reduceIte, not_true_eq_false, Bool.false_eq_true, Option.toList_none, List.nil_append]
        exact K0 _ (by omega)
def cohN (a : aS) : Nat → Nat → Bool
  | 0, _ => true
  | d + 1, l => lCoh a l && cohN a d (l + 1)
theorem ct_coh (h : RepC I a) : f_X11_isCoherent 2 (I, J) = some (bI (cohN a 16 0), (I, J)) := by
  have h10 : ¬ (1 : Int32) = 0 := by decide
  have G : ∀ d l N, l + d = 16 → d + 1 ≤ N → f_X11_isCoherent_2 N 2 (Int32.ofNat l) (I, J) = some (bI (cohN a d l), (I, J)) := by
    intro d
    induction d with
    | zero =>
      intro l N h1 h2
      obtain ⟨N, rfl⟩ := Nat.exists_eq_add_of_le h2
      rw [show 0 + 1 + N = N + 1 by omega, f_X11_isCoherent_2]
      have g1 : ((16 : Int32) ≤ Int32.ofNat l) = True := (i_le (n := 16) (by decide) (by omega)).trans (eq_true (by omega))
      simp only [g1, ↓reduceIte, eB, decide_true, Bool.or_true]
      rfl
    | succ d ih =>
      intro l N h1 h2
      obtain ⟨N, rfl⟩ := Nat.exists_eq_add_of_le h2
      rw [show d + 1 + 1 + N = d + 1 + N + 1 by omega, f_X11_isCoherent_2]
      have g1 : ((16 : Int32) ≤ Int32.ofNat l) = False := (i_le (n := 16) (by decide) (by omega)).trans (eq_false (by omega))
      have e1 := cs_lin (J := J) (l := l) (show l < 16 by omega) h 4 0 1000000 (0, 0, -1) (by decide) (by decide) (by decide) (by decide)
      have z0 : Int32.ofNat 0 = 0 := rfl
      rw [z0] at e1
      have e2 : f_X11_isLineCoherent 2 (Int32.ofNat l) (I, J) = some (bI (lCoh a l), (I, J)) := by
        unfold f_X11_isLineCoherent
        exact e1
      simp only [g1, eThen, eLt, Option.bind_some, ↓reduceIte, K_2, R_2_0, R_2_1, R_2_2, R_2_3, K_57, K_3, K_4, K_23, K_24, R_23_0, R_23_1, R_23_2, true_and, and_true, eB, decide_true, decide_false, Bool.or_true, Bool.true_or, not_true_eq_false, not_false_eq_true, e2]
      unfold cohN
      cases q : lCoh a l with
      | false =>
        have bf : bI false = 0 := rfl
        simp only [bf, not_true_eq_false, ↓reduceIte, Bool.false_and]
      | true =>
        have bt : bI true = 1 := rfl
        simp only [bt, h10, not_false_eq_true, ↓reduceIte, Bool.true_and, p1]
        exact ih (l + 1) _ (by omega) (by omega)
  have := G 16 0 1000000 (by decide) (by decide)
  have z0 : Int32.ofNat 0 = 0 := rfl
  rw [z0] at this
  unfold f_X11_isCoherent
  exact this
/-! the two tellings are one -/
def iOk (x : hI) : Prop := (x.2.1 = true → x.1 = true) ∧ ¬ x.2.2 = -1
theorem hRun_n : ∀ (L : List hI) s s', hRun L s = some s' → s'.1 = s.1 + L.countP (fun x => x.1) ∧ s'.2.1 = s.2.1 + L.length := by
  intro L
  induction L with
  | nil =>
    intro s s' h
    cases h
    exact ⟨rfl, rfl⟩
  | cons x L ih =>
    intro s s' h
    unfold hRun at h
    have : ∃ g, hStp s x = some (s.1 + (if x.1 = true then 1 else 0), s.2.1 + 1, g) := by
      unfold hStp at h ⊢
      by_cases q1 : x.2.1 = true
      · exact ⟨_, if_pos q1⟩
      · rw [if_neg q1] at h ⊢
        by_cases q2 : s.2.2 = -1 ∨ s.2.2 = x.2.2
        · exact ⟨_, if_pos q2⟩
        · rw [if_neg q2] at h
          cases h
    obtain ⟨g, e⟩ := this
    rw [e] at h
    obtain ⟨h1, h2⟩ := ih _ _ h
    rw [List.countP_cons, List.length_cons]
    dsimp only at h1 h2
    omega
theorem hRun_v : ∀ (L : List hI) s s', (∀ x, x ∈ L → x.2.1 = false ∧ ¬ x.2.2 = -1) → hRun L s = some s' → (¬ s.2.2 = -1 → ∀ x, x ∈ L → x.2.2 = s.2.2) ∧ ∀ x, x ∈ L → ∀ y, y ∈ L → x.2.2 = y.2.2 := by
  intro L
  induction L with
  | nil => intro s s' _ _; exact ⟨fun _ x hx => (nomatch hx), fun x hx => (nomatch hx)⟩
  | cons x L ih =>
    intro s s' hL h
    obtain ⟨x1, x2⟩ := hL x List.mem_cons_self
    unfold hRun hStp at h
    rw [if_neg (by rw [x1]; decide)] at h
    by_cases q2 : s.2.2 = -1 ∨ s.2.2 = x.2.2
    · rw [if_pos q2] at h
      obtain ⟨i1, i2⟩ := ih _ _ (fun y hy => hL y (List.mem_cons_of_mem _ hy)) h
      have i3 := i1 x2
      refine ⟨fun g y hy => ?_, fun y hy z hz => ?_⟩
      · have e := q2.resolve_left g
        rcases List.mem_cons.1 hy with hy | hy
        · rw [hy, e]
        · rw [i3 y hy, e]
      · rcases List.mem_cons.1 hy with hy | hy
        · rcases List.mem_cons.1 hz with hz | hz
          · rw [hy, hz]
          · rw [hy, i3 z hz]
        · rcases List.mem_cons.1 hz with hz | hz
          · rw [hz, i3 y hy]
          · exact i2 y hy z hz
    · rw [if_neg q2] at h
      cases h
theorem hRun_s : ∀ (L : List hI) s v, (∀ x, x ∈ L → x.2.2 = v) → (s.2.2 = -1 ∨ s.2.2 = v) → ∃ s', hRun L s = some s' := by
  intro L
  induction L with
  | nil => intro s v _ _; exact ⟨s, rfl⟩
  | cons x L ih =>
    intro s v hL hs
    have hx := hL x List.mem_cons_self
    unfold hRun hStp
    by_cases q1 : x.2.1 = true
    · rw [if_pos q1]
      exact ih _ v (fun y hy => hL y (List.mem_cons_of_mem _ hy)) hs
    · rw [if_neg q1, if_pos (by rw [hx]; exact hs)]
      exact ih _ v (fun y hy => hL y (List.mem_cons_of_mem _ hy)) (Or.inr hx)
theorem hCoh {L : List hI} (hL : ∀ x, x ∈ L → iOk x) : hEnd (hRun L (0, 0, -1)) = true ↔ L.length ≤ 1 ∨ ((∀ x, x ∈ L → x.1 = false) ∧ ∀ x, x ∈ L → ∀ y, y ∈ L → x.2.2 = y.2.2) := by
  constructor
  · intro h
    cases e : hRun L (0, 0, -1) with
    | none =>
      rw [e] at h
      cases h
    | some s =>
      rw [e] at h
      obtain ⟨h1, h2⟩ := hRun_n _ _ _ e
      unfold hEnd at h
      simp only [Bool.or_eq_true, decide_eq_true_eq] at h
      dsimp only at h1 h2
      rcases h with h | h
      · right
        have ho : ∀ x, x ∈ L → x.1 = false := by
          have : L.countP (fun x => x.1) = 0 := by omega
          rw [List.countP_eq_zero] at this
          intro x hx
          have := this x hx
          simpa using this
        refine ⟨ho, (hRun_v L _ _ (fun x hx => ?_) e).2⟩
        refine ⟨?_, (hL x hx).2⟩
        cases g : x.2.1 with
        | false => rfl
        | true =>
          have := (hL x hx).1 g
          rw [ho x hx] at this
          cases this
      · left
        omega
  · intro h
    rcases h with h | ⟨h1, h2⟩
    · match L, h with
      | [], _ => rfl
      | [x], _ =>
        unfold hRun hStp
        by_cases q : x.2.1 = true
        · rw [if_pos q]
          simp [hRun, hEnd]
        · rw [if_neg q, if_pos (Or.inl rfl)]
          simp [hRun, hEnd]
    · match L, h1, h2 with
      | [], _, _ => rfl
      | x :: L, h1, h2 =>
        obtain ⟨s, e⟩ := hRun_s (x :: L) (0, 0, -1) x.2.2 (fun y hy => h2 y hy x List.mem_cons_self) (Or.inl rfl)
        obtain ⟨g1, g2⟩ := hRun_n _ _ _ e
        have : (x :: L).countP (fun x => x.1) = 0 := by
          rw [List.countP_eq_zero]
          intro y hy
          rw [h1 y hy]
          decide
        rw [e]
        unfold hEnd
        dsimp only at g1
        rw [this] at g1
        simp [g1]
theorem hLst_m : ∀ d c x, x ∈ hLst a l d c ↔ ∃ k, c ≤ k ∧ k < c + d ∧ aHv a k l = some x := by
  intro d
  induction d with
  | zero =>
    intro c x
    constructor
    · intro h
      cases h
    · rintro ⟨k, h1, h2, -⟩
      omega
  | succ d ih =>
    intro c x
    unfold hLst
    rw [List.mem_append, Option.mem_toList, ih]
    constructor
    · rintro (h | ⟨k, h1, h2, h3⟩)
      · exact ⟨c, Nat.le_refl _, by omega, h⟩
      · exact ⟨k, by omega, by omega, h3⟩
    · rintro ⟨k, h1, h2, h3⟩
      by_cases g : k = c
      · subst g
        exact Or.inl h3
      · exact Or.inr ⟨k, by omega, by omega, h3⟩
theorem hLst_2 : ∀ d c, 2 ≤ (hLst a l d c).length → ∀ k, c ≤ k → k < c + d → ∃ k' x, c ≤ k' ∧ k' < c + d ∧ ¬ k' = k ∧ aHv a k' l = some x := by
  intro d
  induction d with
  | zero => intro c h k h1 h2; omega
  | succ d ih =>
    intro c h k h1 h2
    unfold hLst at h
    rw [List.length_append] at h
    by_cases g : k = c
    · subst g
      have : 1 ≤ (hLst a l d (k + 1)).length := by
        have : (aHv a k l).toList.length ≤ 1 := by cases aHv a k l <;> simp
        omega
      obtain ⟨x, hx⟩ := List.exists_mem_of_length_pos (show 0 < (hLst a l d (k + 1)).length by omega)
      obtain ⟨k', g1, g2, g3⟩ := (hLst_m d (k + 1) x).1 hx
      exact ⟨k', x, by omega, by omega, by omega, g3⟩
    · cases e : aHv a c l with
      | some x => exact ⟨c, x, Nat.le_refl _, by omega, fun q => g q.symm, e⟩
      | none =>
        rw [e] at h
        obtain ⟨k', x, g1, g2, g3, g4⟩ := ih (c + 1) (by simpa using h) k (by omega) (by omega)
        exact ⟨k', x, by omega, by omega, g3, g4⟩
theorem hLst_1 : ∀ d c, ∀ k k' x x', c ≤ k → k < k' → k' < c + d → aHv a k l = some x → aHv a k' l = some x' → 2 ≤ (hLst a l d c).length := by
  intro d
  induction d with
  | zero => intro c k k' x x' h1 h2 h3; omega
  | succ d ih =>
    intro c k k' x x' h1 h2 h3 h4 h5
    unfold hLst
    rw [List.length_append]
    by_cases g : k = c
    · subst g
      rw [h4]
      have : x' ∈ hLst a l d (k + 1) := (hLst_m d (k + 1) x').2 ⟨k', by omega, by omega, h5⟩
      have := List.length_pos_of_mem this
      show 2 ≤ 1 + _
      omega
    · have := ih (c + 1) k k' x x' (by omega) h2 (by omega) h4 h5
      omega
theorem aHv_iff {x : hI} (hc : c < 4) (hF : cF a c) : aHv a c l = some x ↔ ∃ p, p < 4 ∧ aAt a c l p = true ∧ aVal (a.1 136 (4 * c + p)) = true ∧ x = (aOwn (a.1 136 (4 * c + p)), decide (a.1 136 (4 * c + p) = 3), a.1 137 (4 * c + p)) := by
  unfold aHv
  constructor
  · intro h
    cases hP : aPl a c l with
    | none => rw [hP] at h; cases h
    | some p =>
      rw [hP] at h
      obtain ⟨hp, hat⟩ := aPl_lt hP
      by_cases hv : aVal (a.1 136 (4 * c + p)) = true
      · have h : (if aVal (a.1 136 (4 * c + p)) = true then some (aOwn (a.1 136 (4 * c + p)), decide (a.1 136 (4 * c + p) = 3), a.1 137 (4 * c + p)) else none) = some x := h
        rw [if_pos hv] at h
        cases h
        exact ⟨p, hp, hat, hv, rfl⟩
      · have h : (if aVal (a.1 136 (4 * c + p)) = true then some (aOwn (a.1 136 (4 * c + p)), decide (a.1 136 (4 * c + p) = 3), a.1 137 (4 * c + p)) else none) = some x := h
        rw [if_neg hv] at h
        cases h
  · rintro ⟨p, hp, hat, hv, e⟩
    cases hP : aPl a c l with
    | none =>
      exfalso
      unfold aPl at hP
      have : p = 0 ∨ p = 1 ∨ p = 2 ∨ p = 3 := by omega
      rcases this with q | q | q | q <;> subst q <;> simp only [hat, ↓reduceIte] at hP
      · cases hP
      · split at hP <;> cases hP
      · split at hP
        · cases hP
        · split at hP <;> cases hP
      · split at hP
        · cases hP
        · split at hP
          · cases hP
          · split at hP <;> cases hP
    | some p' =>
      obtain ⟨hp', hat'⟩ := aPl_lt hP
      have := hF.2 l p p' hp hp' hat hat'
      subst this
      dsimp only
      rw [if_pos hv, e]
theorem val_own3 (h : aVal x = true) : (decide (x = 3) = true → aOwn x = true) := by
  intro g
  rw [decide_eq_true_eq] at g
  rw [g]
  rfl
theorem aCohI_t {P : Nat} : ∀ d o s, aCohI a P d o s = true ↔ s = true ∧ ∀ k, o ≤ k → k < o + d → aBad a P k = false := by
  intro d
  induction d with
  | zero => intro o s; exact ⟨fun h => ⟨h, fun k h1 h2 => by omega⟩, fun h => h.1⟩
  | succ d ih =>
    intro o s
    unfold aCohI
    rw [ih, Bool.and_eq_true, Bool.not_eq_true']
    constructor
    · rintro ⟨⟨h1, h2⟩, h3⟩
      refine ⟨h1, fun k g1 g2 => ?_⟩
      by_cases e : k = o
      · rw [e]; exact h2
      · exact h3 k (by omega) (by omega)
    · rintro ⟨h1, h2⟩
      exact ⟨⟨h1, h2 o (Nat.le_refl _) (by omega)⟩, fun k g1 g2 => h2 k (by omega) (by omega)⟩
theorem aCohO_t : ∀ d p s, aCohO a d p s = true ↔ s = true ∧ ∀ k, p ≤ k → k < p + d → ∀ o, o < 16 → aBad a k o = false := by
  intro d
  induction d with
  | zero => intro p s; exact ⟨fun h => ⟨h, fun k h1 h2 => by omega⟩, fun h => h.1⟩
  | succ d ih =>
    intro p s
    unfold aCohO
    rw [ih, aCohI_t]
    constructor
    · rintro ⟨⟨h1, h2⟩, h3⟩
      refine ⟨h1, fun k g1 g2 o ho => ?_⟩
      by_cases e : k = p
      · rw [e]; exact h2 o (Nat.zero_le _) (by omega)
      · exact h3 k (by omega) (by omega) o ho
    · rintro ⟨h1, h2⟩
      exact ⟨⟨h1, fun o g1 g2 => h2 p (Nat.le_refl _) (by omega) o (by omega)⟩, fun k g1 g2 => h2 k (by omega) (by omega)⟩
theorem cohN_t : ∀ d l, cohN a d l = true ↔ ∀ k, l ≤ k → k < l + d → lCoh a k = true := by
  intro d
  induction d with
  | zero => intro l; exact ⟨fun h k h1 h2 => by omega, fun _ => rfl⟩
  | succ d ih =>
    intro l
    unfold cohN
    rw [Bool.and_eq_true, ih]
    constructor
    · rintro ⟨h1, h2⟩ k g1 g2
      by_cases e : k = l
      · rw [e]; exact h1
      · exact h2 k (by omega) (by omega)
    · intro h
      exact ⟨h l (Nat.le_refl _) (by omega), fun k g1 g2 => h k (by omega) (by omega)⟩
theorem coh_eq (hF : ∀ c, c < 4 → cF a c) : cohN a 16 0 = aCoh a := by
  have hit : ∀ l x, x ∈ hLst a l 4 0 → iOk x := by
    intro l x hx
    obtain ⟨c, -, hc, e⟩ := (hLst_m 4 0 x).1 hx
    obtain ⟨p, hp, hat, hv, e2⟩ := (aHv_iff (by omega) (hF c (by omega))).1 e
    rw [e2]
    refine ⟨val_own3 hv, ?_⟩
    obtain ⟨n, hn, e3⟩ := ((hF c (by omega)).1 p hp).2.2 hv
    dsimp only
    rw [e3, i_ne1 (by omega)]
    exact not_false
  rw [Bool.eq_iff_iff, cohN_t]
  unfold aCoh
  rw [aCohO_t]
  constructor
  · intro h
    refine ⟨rfl, fun P _ hP O hO => ?_⟩
    cases hb : aBoth a P O with
    | false =>
      unfold aBad
      rw [hb]
      rfl
    | true =>
      have hb0 := hb
      unfold aBoth at hb
      simp only [Bool.and_eq_true, Bool.not_eq_true', decide_eq_false_iff_not, decide_eq_true_eq] at hb
      obtain ⟨b1, b2, b3, b4, b5, b6⟩ := hb
      have eP : P = 4 * (P / 4) + P % 4 := by omega
      have eO : O = 4 * (O / 4) + O % 4 := by omega
      have cP : P / 4 < 4 := by omega
      have cO : O / 4 < 4 := by omega
      have pP : P % 4 < 4 := by omega
      have pO : O % 4 < 4 := by omega
      rw [eP, eO] at b2
      rw [eP] at b3 b5
      rw [eO] at b4 b6
      have vP : aVal (a.1 136 (4 * (P / 4) + P % 4)) = true := by
        rw [val_iff (hF _ cP) pP, decide_eq_false b3, b5]
        rfl
      have vO : aVal (a.1 136 (4 * (O / 4) + O % 4)) = true := by
        rw [val_iff (hF _ cO) pO, decide_eq_false b4, b6]
        rfl
      obtain ⟨l, hl, el⟩ := ((hF _ cP).1 _ pP).2.1 b3
      have hatP : aAt a (P / 4) l (P % 4) = true := aAt_iff.2 ⟨b3, el⟩
      have hatO : aAt a (O / 4) l (O % 4) = true := aAt_iff.2 ⟨b4, b2.symm.trans el⟩
      have hvP := (aHv_iff (l := l) cP (hF _ cP)).2 ⟨_, pP, hatP, vP, rfl⟩
      have hvO := (aHv_iff (l := l) cO (hF _ cO)).2 ⟨_, pO, hatO, vO, rfl⟩
      have hl2 := (hCoh (hit l)).1 (h l (Nat.zero_le _) (by omega))
      rcases hl2 with hl2 | ⟨g1, g2⟩
      · exfalso
        have : 2 ≤ (hLst a l 4 0).length := by
          rcases Nat.lt_or_gt_of_ne b1 with g | g
          · exact hLst_1 4 0 _ _ _ _ (Nat.zero_le _) g (by omega) hvP hvO
          · exact hLst_1 4 0 _ _ _ _ (Nat.zero_le _) g (by omega) hvO hvP
        omega
      · have mP := (hLst_m (a := a) (l := l) 4 0 _).2 ⟨P / 4, Nat.zero_le _, by omega, hvP⟩
        have mO := (hLst_m (a := a) (l := l) 4 0 _).2 ⟨O / 4, Nat.zero_le _, by omega, hvO⟩
        have k1 := g1 _ mP
        have k2 := g2 _ mP _ mO
        dsimp only at k1 k2
        rw [← eP] at k1 k2
        rw [← eO] at k2
        unfold aBad
        rw [hb0, k1, k2]
        simp
  · rintro ⟨-, h⟩ l - hl
    refine (hCoh (hit l)).2 ?_
    by_cases g : (hLst a l 4 0).length ≤ 1
    · exact Or.inl g
    · right
      have pair : ∀ c c' x x', c < 4 → c' < 4 → ¬ c' = c → aHv a c l = some x → aHv a c' l = some x' → x.1 = false ∧ x.2.2 = x'.2.2 := by
        intro c c' x x' hc hc' hne e e'
        obtain ⟨p, hp, hat, hv, ex⟩ := (aHv_iff hc (hF c hc)).1 e
        obtain ⟨p', hp', hat', hv', ex'⟩ := (aHv_iff hc' (hF c' hc')).1 e'
        have b := h (4 * c + p) (Nat.zero_le _) (by omega) (4 * c' + p') (by omega)
        have a1 := aAt_iff.1 hat
        have a2 := aAt_iff.1 hat'
        have hb : aBoth a (4 * c + p) (4 * c' + p') = true := by
          unfold aBoth
          simp only [Bool.and_eq_true, Bool.not_eq_true', decide_eq_false_iff_not, decide_eq_true_eq]
          exact ⟨by omega, by rw [a1.2, a2.2], a1.1, a2.1, (val_ne hv).2, (val_ne hv').2⟩
        unfold aBad at b
        rw [hb] at b
        simp only [Bool.true_and, Bool.or_eq_false_iff, Bool.not_eq_false', decide_eq_true_eq] at b
        rw [ex, ex']
        exact b
      have other : ∀ x, x ∈ hLst a l 4 0 → ∃ c c' x', c < 4 ∧ c' < 4 ∧ ¬ c' = c ∧ aHv a c l = some x ∧ aHv a c' l = some x' := by
        intro x hx
        obtain ⟨c, -, hc, e⟩ := (hLst_m 4 0 x).1 hx
        obtain ⟨c', x', g1, g2, g3, g4⟩ := hLst_2 4 0 (show 2 ≤ (hLst a l 4 0).length by omega) c (Nat.zero_le _) hc
        exact ⟨c, c', x', by omega, by omega, g3, e, g4⟩
      refine ⟨fun x hx => ?_, fun x hx y hy => ?_⟩
      · obtain ⟨c, c', x', hc, hc', hne, e, e'⟩ := other x hx
        exact (pair c c' x x' hc hc' hne e e').1
      · obtain ⟨c, -, hc, e⟩ := (hLst_m 4 0 x).1 hx
        obtain ⟨c2, -, hc2, e2⟩ := (hLst_m 4 0 y).1 hy
        by_cases q : c2 = c
        · subst q
          rw [e] at e2
          cases e2
          rfl
        · exact (pair c c2 x y (by omega) (by omega) q e e2).2
end EPD
