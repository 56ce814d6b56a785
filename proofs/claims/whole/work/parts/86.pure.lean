/-! the invariant: forms, and messages counted -/
section EPV
variable {a a' b : aS} {r i l l' q q' c c' k n p p' w z N o : Nat} {v t x y : Int32} {m : aM} {L ms : List aM}
def yF (a : aS) (c : Nat) : Prop := ∀ p, p < 4 → a.1 140 (4 * c + p) = -1 ∨ ∃ k, (k = 3 ∨ k = 4) ∧ a.1 140 (4 * c + p) = Int32.ofNat k
def gF2 (a : aS) (c : Nat) : Prop := (a.1 151 c = -1 ∧ a.1 152 c = 0) ∨ ∃ l, l < 16 ∧ a.1 151 c = Int32.ofNat l
/-- a line is busy in order, or not busy -/
def zF (a : aS) (l : Nat) : Prop := a.1 127 l = -1 ∨ ∃ c D, c < 4 ∧ a.1 128 l = Int32.ofNat c ∧ D ≤ 3 ∧ a.1 129 l = Int32.ofNat D ∧ ((a.1 127 l = 0 ∧ ∃ o, o < 4 ∧ a.1 124 l = Int32.ofNat o) ∨ a.1 127 l = 1)
def mF (q : Nat) (m : aM) : Prop := m.2.1 < 16 ∧ m.2.2.1 < 4 ∧ m.2.2.2 < 1000 ∧ ((q = 4 ∧ m.1 < 3) ∨ (5 ≤ q ∧ q < 9 ∧ (m.1 = 3 ∨ m.1 = 4 ∨ m.1 = 5)) ∨ (10 ≤ q ∧ q < 14 ∧ ((m.1 = 6 ∧ 1 ≤ m.2.2.1) ∨ m.1 = 7)) ∨ (q = 14 ∧ (m.1 = 8 ∨ m.1 = 9)) ∨ (15 ≤ q ∧ q < 31 ∧ m.1 < 3 ∧ m.2.1 = q - 15))
def coreF (a : aS) (c : Nat) : Prop := cF a c ∧ nF a c ∧ yF a c ∧ lF a c ∧ sF a c ∧ tF a c ∧ bF a c ∧ gF2 a c
def lineF (a : aS) (l : Nat) : Prop := hF a l ∧ kF a l ∧ zF a l
def msgF (a : aS) : Prop := ∀ q, q < 31 → ∀ m, m ∈ a.2 q → mF q m
/-- shapes -/
def FI (a : aS) : Prop := (∀ c, c < 4 → coreF a c) ∧ (∀ l, l < 16 → lineF a l) ∧ msgF a
/-! counts -/
def pR (c l : Nat) (m : aM) : Bool := decide (m.1 < 2) && (decide (m.2.1 = l) && decide (m.2.2.1 = c))
def pP (c l : Nat) (m : aM) : Bool := decide (m.1 = 2) && (decide (m.2.1 = l) && decide (m.2.2.1 = c))
def pD (l : Nat) (m : aM) : Bool := decide (m.1 = 6) && decide (m.2.1 = l)
def pN (l : Nat) (m : aM) : Bool := decide (m.1 = 7) && decide (m.2.1 = l)
def pL (l : Nat) (m : aM) : Bool := decide (m.2.1 = l)
def cBz (a : aS) (c l : Nat) : Nat := if ¬ a.1 127 l = -1 ∧ a.1 128 l = Int32.ofNat c then 1 else 0
def nR (a : aS) (c l : Nat) : Nat := (a.2 4).countP (pR c l) + (a.2 (15 + l)).countP (pR c l) + cBz a c l + (a.2 (10 + c)).countP (pD l)
def nP (a : aS) (c l : Nat) : Nat := (a.2 4).countP (pP c l) + (a.2 (15 + l)).countP (pP c l) + (a.2 (10 + c)).countP (pN l)
def aWs (a : aS) (c l : Nat) : Nat := match aPl a c l with
  | some p => if aWt (a.1 136 (4 * c + p)) = true then 1 else 0
  | none => 0
def aLt (a : aS) (c l : Nat) : Nat := match aPl a c l with
  | some p => if a.1 140 (4 * c + p) = -1 then 0 else 1
  | none => 0
def aLs (a : aS) (c l : Nat) : Nat := if a.1 141 (16 * c + l) = -1 then 0 else 1
def nFc (a : aS) (c l : Nat) : Nat := (a.2 (5 + c)).countP (pL l) + aLt a c l
def nFw (a : aS) (l : Nat) : Nat := nFc a 0 l + nFc a 1 l + nFc a 2 l + nFc a 3 l + (a.2 14).countP (pL l)
def due (a : aS) (l : Nat) : Nat := if a.1 127 l = -1 then 0 else aNt (a.1 129 l)
/-- the counts, with what is in hand -/
def CI (a : aS) (hR hP : Nat → Nat → Nat) (hW : Nat → Nat) : Prop :=
  (∀ c, c < 4 → ∀ l, l < 16 → nR a c l + hR c l ≤ aWs a c l ∧ nP a c l + hP c l ≤ aLs a c l ∧ (¬ aPl a c l = none → a.1 141 (16 * c + l) = -1)) ∧ ∀ l, l < 16 → nFw a l + hW l ≤ due a l
def z2 : Nat → Nat → Nat := fun _ _ => 0
def z1 : Nat → Nat := fun _ => 0
def d2 (c l : Nat) : Nat → Nat → Nat := fun c' l' => if c' = c ∧ l' = l then 1 else 0
def d1 (l : Nat) : Nat → Nat := fun l' => if l' = l then 1 else 0
/-- lines that are not busy have no rows -/
def rE (a : aS) : Prop := ∀ l, l < 16 → a.1 127 l = -1 → a.2 (15 + l) = []
def Inv (a : aS) : Prop := FI a ∧ CI a z2 z2 z1 ∧ rE a
/-! what leaves the counts alone -/
theorem aWs_eq (h5 : b.1 135 = a.1 135) (h6 : b.1 136 = a.1 136) : aWs b c l = aWs a c l := by
  unfold aWs
  rw [aPl_eq h5 h6, h6]
theorem aLt_eq (h5 : b.1 135 = a.1 135) (h6 : b.1 136 = a.1 136) (h0 : b.1 140 = a.1 140) : aLt b c l = aLt a c l := by
  unfold aLt
  rw [aPl_eq h5 h6, h0]
theorem cnt_app {f : aM → Bool} : (L ++ [m]).countP f = L.countP f + (if f m = true then 1 else 0) := by
  rw [List.countP_append, List.countP_singleton]
theorem ite2 (x y : Bool) : (if 4 = q ∧ x = true then 1 else 0) + (if 10 + c' = q ∧ y = true then 1 else 0) = (if (q = 4 ∧ x = true) ∨ (q = 10 + c' ∧ y = true) then 1 else 0) := by
  by_cases k1 : q = 4
  · rw [if_neg (show ¬ (10 + c' = q ∧ y = true) by omega)]
    cases x with
    | true => rw [if_pos ⟨k1.symm, rfl⟩, if_pos (Or.inl ⟨k1, rfl⟩)]
    | false => rw [if_neg (fun g => by cases g.2), if_neg (fun g => g.elim (fun h => by cases h.2) (fun h => by have := h.1; omega))]
  · rw [if_neg (show ¬ (4 = q ∧ x = true) by omega)]
    by_cases k3 : q = 10 + c'
    · cases y with
      | true => rw [if_pos ⟨k3.symm, rfl⟩, if_pos (Or.inr ⟨k3, rfl⟩)]
      | false => rw [if_neg (fun g => by cases g.2), if_neg (fun g => g.elim (fun h => k1 h.1) (fun h => by cases h.2))]
    · rw [if_neg (by omega), if_neg (by omega)]
/-- a message is put in a queue (not a row) -/
theorem CI_send {hR hP hR' hP' : Nat → Nat → Nat} {hW hW' : Nat → Nat} (hq : q < 15) (h : CI a hR hP hW)
    (eR : ∀ c' l', c' < 4 → l' < 16 → (if (q = 4 ∧ pR c' l' (k, l, c, n) = true) ∨ (q = 10 + c' ∧ pD l' (k, l, c, n) = true) then 1 else 0) + hR' c' l' ≤ hR c' l')
    (eP : ∀ c' l', c' < 4 → l' < 16 → (if (q = 4 ∧ pP c' l' (k, l, c, n) = true) ∨ (q = 10 + c' ∧ pN l' (k, l, c, n) = true) then 1 else 0) + hP' c' l' ≤ hP c' l')
    (eW : ∀ l', l' < 16 → (if ((5 ≤ q ∧ q < 9) ∨ q = 14) ∧ l = l' then 1 else 0) + hW' l' ≤ hW l') : CI (aSend a q k l c n) hR' hP' hW' := by
  have e5 : (aSend a q k l c n).1 135 = a.1 135 := aSend_1 (by decide)
  have e6 : (aSend a q k l c n).1 136 = a.1 136 := aSend_1 (by decide)
  have e0 : (aSend a q k l c n).1 140 = a.1 140 := aSend_1 (by decide)
  have e1 : (aSend a q k l c n).1 141 = a.1 141 := aSend_1 (by decide)
  have cnt : ∀ s (f : aM → Bool), ((aSend a q k l c n).2 s).countP f = (a.2 s).countP f + (if s = q ∧ f (k, l, c, n) = true then 1 else 0) := by
    intro s f
    by_cases g : s = q
    · subst g
      rw [aSend_e, cnt_app]
      simp
    · rw [aSend_k g]
      simp [g]
  refine ⟨fun c' hc l' hl => ?_, fun l' hl => ?_⟩
  · obtain ⟨h1, h2, h3⟩ := h.1 c' hc l' hl
    have g1 := eR c' l' hc hl
    have g2 := eP c' l' hc hl
    refine ⟨?_, ?_, ?_⟩
    · unfold nR cBz at h1 ⊢
      rw [cnt, cnt, cnt, aSend_1 (r := 127) (by decide), aSend_1 (r := 128) (by decide), aWs_eq e5 e6]
      rw [if_neg (show ¬ (15 + l' = q ∧ _) by omega)]
      have := ite2 (q := q) (c' := c') (pR c' l' (k, l, c, n)) (pD l' (k, l, c, n))
      omega
    · unfold nP at h2 ⊢
      rw [cnt, cnt, cnt]
      unfold aLs at h2 ⊢
      rw [e1, if_neg (show ¬ (15 + l' = q ∧ _) by omega)]
      have := ite2 (q := q) (c' := c') (pP c' l' (k, l, c, n)) (pN l' (k, l, c, n))
      omega
    · rw [aPl_eq e5 e6, e1]
      exact h3
  · have h1 := h.2 l' hl
    have g1 := eW l' hl
    unfold nFw nFc due at h1 ⊢
    rw [cnt, cnt, cnt, cnt, cnt, aSend_1 (r := 127) (by decide), aSend_1 (r := 129) (by decide), aLt_eq e5 e6 e0, aLt_eq e5 e6 e0, aLt_eq e5 e6 e0, aLt_eq e5 e6 e0]
    have pl : (pL l' (k, l, c, n) = true) = (l = l') := by
      unfold pL
      rw [decide_eq_true_eq]
    simp only [pl]
    by_cases k1 : l = l'
    · simp only [k1, and_true] at g1 ⊢
      have : (if 5 + 0 = q then 1 else 0) + (if 5 + 1 = q then 1 else 0) + (if 5 + 2 = q then 1 else 0) + (if 5 + 3 = q then 1 else 0) + (if 14 = q then 1 else 0) ≤ (if (5 ≤ q ∧ q < 9) ∨ q = 14 then 1 else 0) := by
        split <;> split <;> split <;> split <;> split <;> split <;> omega
      omega
    · simp only [k1, and_false, ↓reduceIte] at g1 ⊢
      omega
/-- a message is taken from a queue -/
theorem CI_pop {hR hP hR' hP' : Nat → Nat → Nat} {hW hW' : Nat → Nat} (hq : q < 15) (hL : a.2 q = m :: ms) (h : CI a hR hP hW)
    (eR : ∀ c' l', c' < 4 → l' < 16 → hR' c' l' ≤ hR c' l' + (if (q = 4 ∧ pR c' l' m = true) ∨ (q = 10 + c' ∧ pD l' m = true) then 1 else 0))
    (eP : ∀ c' l', c' < 4 → l' < 16 → hP' c' l' ≤ hP c' l' + (if (q = 4 ∧ pP c' l' m = true) ∨ (q = 10 + c' ∧ pN l' m = true) then 1 else 0))
    (eW : ∀ l', l' < 16 → hW' l' ≤ hW l' + (if ((5 ≤ q ∧ q < 9) ∨ q = 14) ∧ m.2.1 = l' then 1 else 0)) : CI (aL a q ms) hR' hP' hW' := by
  have cnt : ∀ s (f : aM → Bool), (a.2 s).countP f = ((aL a q ms).2 s).countP f + (if s = q ∧ f m = true then 1 else 0) := by
    intro s f
    by_cases g : s = q
    · subst g
      rw [aL_e, hL, List.countP_cons]
      simp
    · rw [aL_k g]
      simp [g]
  have eA : (aL a q ms).1 = a.1 := rfl
  refine ⟨fun c' hc l' hl => ?_, fun l' hl => ?_⟩
  · obtain ⟨h1, h2, h3⟩ := h.1 c' hc l' hl
    have g1 := eR c' l' hc hl
    have g2 := eP c' l' hc hl
    refine ⟨?_, ?_, ?_⟩
    · rw [aWs_eq (b := aL a q ms) (a := a) rfl rfl]
      unfold nR cBz at h1 ⊢
      rw [cnt 4, cnt (15 + l'), cnt (10 + c'), if_neg (show ¬ (15 + l' = q ∧ _) by omega)] at h1
      rw [eA]
      have := ite2 (q := q) (c' := c') (pR c' l' m) (pD l' m)
      omega
    · unfold nP at h2 ⊢
      rw [cnt 4, cnt (15 + l'), cnt (10 + c'), if_neg (show ¬ (15 + l' = q ∧ _) by omega)] at h2
      have := ite2 (q := q) (c' := c') (pP c' l' m) (pN l' m)
      have e : aLs (aL a q ms) c' l' = aLs a c' l' := rfl
      rw [e]
      omega
    · exact h3
  · have h1 := h.2 l' hl
    have g1 := eW l' hl
    have e : ∀ c, aLt (aL a q ms) c l' = aLt a c l' := fun c => aLt_eq rfl rfl rfl
    have e2 : due (aL a q ms) l' = due a l' := rfl
    unfold nFw nFc at h1 ⊢
    rw [cnt (5 + 0), cnt (5 + 1), cnt (5 + 2), cnt (5 + 3), cnt 14] at h1
    rw [e, e, e, e, e2]
    have pl : (pL l' m = true) = (m.2.1 = l') := by
      unfold pL
      rw [decide_eq_true_eq]
    simp only [pl] at h1
    by_cases k1 : m.2.1 = l'
    · simp only [k1, and_true] at g1 h1 ⊢
      have : (if (5 ≤ q ∧ q < 9) ∨ q = 14 then 1 else 0) ≤ (if 5 + 0 = q then 1 else 0) + (if 5 + 1 = q then 1 else 0) + (if 5 + 2 = q then 1 else 0) + (if 5 + 3 = q then 1 else 0) + (if 14 = q then 1 else 0) := by
        split <;> split <;> split <;> split <;> split <;> split <;> omega
      omega
    · simp only [k1, and_false, ↓reduceIte] at g1 h1 ⊢
      omega
/-- cells that are not counted -/
theorem CI_eq {hR hP : Nat → Nat → Nat} {hW : Nat → Nat} (h5 : b.1 135 = a.1 135) (h6 : b.1 136 = a.1 136) (h0 : b.1 140 = a.1 140) (h1 : b.1 141 = a.1 141) (h27 : b.1 127 = a.1 127) (h28 : b.1 128 = a.1 128) (h29 : b.1 129 = a.1 129) (hq : b.2 = a.2) (h : CI a hR hP hW) : CI b hR hP hW := by
  refine ⟨fun c hc l hl => ?_, fun l hl => ?_⟩
  · obtain ⟨g1, g2, g3⟩ := h.1 c hc l hl
    refine ⟨?_, ?_, ?_⟩
    · unfold nR cBz at g1 ⊢
      rw [aWs_eq h5 h6, hq, h27, h28]
      exact g1
    · unfold nP aLs at g2 ⊢
      rw [hq, h1]
      exact g2
    · rw [aPl_eq h5 h6, h1]
      exact g3
  · have g := h.2 l hl
    unfold nFw nFc due at g ⊢
    rw [hq, h27, h29, aLt_eq h5 h6 h0, aLt_eq h5 h6 h0, aLt_eq h5 h6 h0, aLt_eq h5 h6 h0]
    exact g
/-! shapes kept by sending -/
theorem bF_eq (h2 : b.1 142 = a.1 142) (h3 : b.1 143 = a.1 143) (h4 : b.1 144 = a.1 144) (h : bF a c) : bF b c := by
  unfold bF at h ⊢
  rw [h2, h3, h4]
  exact h
theorem tF_eq (h2 : b.1 142 = a.1 142) (h5 : b.1 145 = a.1 145) (h6 : b.1 146 = a.1 146) (h8 : b.1 148 = a.1 148) (h9 : b.1 149 = a.1 149) (h : tF a c) : tF b c := by
  unfold tF at h ⊢
  rw [h2, h5, h6, h8, h9]
  exact h
theorem gF2_eq (h1 : b.1 151 = a.1 151) (h2 : b.1 152 = a.1 152) (h : gF2 a c) : gF2 b c := by
  unfold gF2 at h ⊢
  rw [h1, h2]
  exact h
theorem yF_eq (h0 : b.1 140 = a.1 140) (h : yF a c) : yF b c := by
  unfold yF at h ⊢
  rw [h0]
  exact h
theorem coreF_eq (h : ∀ r, 135 ≤ r → r ≤ 152 → ¬ r = 138 → b.1 r = a.1 r) (hc : coreF a c) : coreF b c := by
  obtain ⟨h1, h2, h3, h4, h5, h6, h7, h8⟩ := hc
  have e : ∀ r, 135 ≤ r → r ≤ 152 → ¬ r = 138 → b.1 r = a.1 r := h
  exact ⟨cF_eq (e _ (by decide) (by decide) (by decide)) (e _ (by decide) (by decide) (by decide)) (e _ (by decide) (by decide) (by decide)) h1, nF_eq (e _ (by decide) (by decide) (by decide)) (e _ (by decide) (by decide) (by decide)) (e _ (by decide) (by decide) (by decide)) h2, yF_eq (e _ (by decide) (by decide) (by decide)) h3, lF_eq (e _ (by decide) (by decide) (by decide)) h4,
    sF_eq (e _ (by decide) (by decide) (by decide)) (e _ (by decide) (by decide) (by decide)) h5, tF_eq (e _ (by decide) (by decide) (by decide)) (e _ (by decide) (by decide) (by decide)) (e _ (by decide) (by decide) (by decide)) (e _ (by decide) (by decide) (by decide)) (e _ (by decide) (by decide) (by decide)) h6,
    bF_eq (e _ (by decide) (by decide) (by decide)) (e _ (by decide) (by decide) (by decide)) (e _ (by decide) (by decide) (by decide)) h7, gF2_eq (e _ (by decide) (by decide) (by decide)) (e _ (by decide) (by decide) (by decide)) h8⟩
theorem lineF_eq (h : ∀ r, 123 ≤ r → r ≤ 129 → b.1 r l = a.1 r l) (hl : lineF a l) : lineF b l := by
  unfold lineF hF kF zF at hl ⊢
  rw [h 123 (by decide) (by decide), h 124 (by decide) (by decide), h 125 (by decide) (by decide), h 126 (by decide) (by decide), h 127 (by decide) (by decide), h 128 (by decide) (by decide), h 129 (by decide) (by decide)]
  exact hl
theorem msgF_send (hm : mF q (k, l, c, n)) (h : msgF a) : msgF (aSend a q k l c n) := by
  intro s hs m hm2
  by_cases g : s = q
  · subst g
    rw [aSend_e, List.mem_append, List.mem_singleton] at hm2
    rcases hm2 with hm2 | hm2
    · exact h s hs m hm2
    · rw [hm2]
      exact hm
  · rw [aSend_k g] at hm2
    exact h s hs m hm2
theorem FI_send (hm : mF q (k, l, c, n)) (h : FI a) : FI (aSend a q k l c n) :=
  ⟨fun c hc => coreF_eq (fun r _ g _ => aSend_1 (by omega)) (h.1 c hc), fun l hl => lineF_eq (fun r _ g => by rw [aSend_1 (by omega)]) (h.2.1 l hl), msgF_send hm h.2.2⟩
theorem FI_pop (hL : a.2 q = m :: ms) (h : FI a) : FI (aL a q ms) := by
  refine ⟨fun c hc => coreF_eq (fun r _ _ _ => rfl) (h.1 c hc), fun l hl => lineF_eq (fun r _ _ => rfl) (h.2.1 l hl), fun s hs m' hm => ?_⟩
  by_cases g : s = q
  · subst g
    rw [aL_e] at hm
    exact h.2.2 s hs m' (by rw [hL]; exact List.mem_cons_of_mem _ hm)
  · rw [aL_k g] at hm
    exact h.2.2 s hs m' hm
theorem FI_core (hh : ∀ c, c < 4 → coreF b c) (h : ∀ r, 123 ≤ r → r ≤ 129 → b.1 r = a.1 r) (hq : b.2 = a.2) (hF : FI a) : FI b :=
  ⟨hh, fun l hl => lineF_eq (fun r g1 g2 => by rw [h r g1 g2]) (hF.2.1 l hl), by unfold msgF; rw [hq]; exact hF.2.2⟩
theorem FI_line (hl : l < 16) (hh : lineF b l) (h : ∀ r i, ¬ (123 ≤ r ∧ r ≤ 129 ∧ i = l) → b.1 r i = a.1 r i) (hq : b.2 = a.2) (hF : FI a) : FI b := by
  refine ⟨fun c hc => coreF_eq (fun r g1 g2 g3 => funext fun i => h r i (by omega)) (hF.1 c hc), fun l' hl' => ?_, by unfold msgF; rw [hq]; exact hF.2.2⟩
  by_cases g : l' = l
  · subst g
    exact hh
  · exact lineF_eq (fun r g1 g2 => h r l' (by omega)) (hF.2.1 l' hl')
end EPV
