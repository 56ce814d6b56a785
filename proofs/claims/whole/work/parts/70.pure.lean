/-! the class: what its memory's writes leave alone; messages -/
section EPC
variable {I I' I0 : Nat → Nat → Int32} {J : Nat → Nat → Int64} {a a' b : aS} {r i l q c k n p : Nat} {v t x y : Int32} {m : aM}
theorem aW_o {r' i' : Nat} (h : ¬ (r' = r ∧ i' = i)) : (aW a r i v).1 r' i' = a.1 r' i' := by
  show eup a.1 r i v r' i' = _
  unfold eup
  rw [if_neg h]
theorem up_o {α : Type} {f : Nat → Nat → α} {r k r' k' : Nat} {x : α} (h : ¬ (r' = r ∧ k' = k)) : eup f r k x r' k' = f r' k' := by
  unfold eup
  rw [if_neg h]
theorem Hm_fr (h : HmOk I a l) (e1 : I' (25 + 2 * l) = I (25 + 2 * l)) (e2 : I' (26 + 2 * l) = I (26 + 2 * l)) (e3 : ∀ r, 123 ≤ r → r ≤ 129 → a'.1 r l = a.1 r l) (e4 : a'.2 (15 + l) = a.2 (15 + l)) : HmOk I' a' l := by
  unfold HmOk at h ⊢
  rw [e1, e2, e4, e3 123 (by decide) (by decide), e3 124 (by decide) (by decide), e3 125 (by decide) (by decide), e3 126 (by decide) (by decide), e3 127 (by decide) (by decide), e3 128 (by decide) (by decide), e3 129 (by decide) (by decide)]
  exact h
theorem Ml_fr (h : MlOk I a q) (e1 : I' (6 + q) = I (6 + q)) (e2 : I' 21 q = I 21 q) (e3 : I' 22 q = I 22 q) (e4 : a'.2 q = a.2 q) : MlOk I' a' q := by
  unfold MlOk at h ⊢
  rw [e1, e2, e3, e4]
  exact h
theorem Pl_fr (h : PlOk I a c p) (e1 : ∀ k, ¬ k = 3 → I' (82 + 12 * c + p) k = I (82 + 12 * c + p) k) (e2 : ∀ r, 135 ≤ r → r ≤ 140 → ¬ r = 138 → a'.1 r (4 * c + p) = a.1 r (4 * c + p)) : PlOk I' a' c p := by
  unfold PlOk at h ⊢
  rw [e1 0 (by decide), e1 1 (by decide), e1 2 (by decide), e1 4 (by decide), e1 5 (by decide), e2 135 (by decide) (by decide) (by decide), e2 136 (by decide) (by decide) (by decide), e2 137 (by decide) (by decide) (by decide), e2 139 (by decide) (by decide) (by decide), e2 140 (by decide) (by decide) (by decide)]
  exact h
theorem Us_fr (h : UsOk I a c) (e1 : I' (74 + 12 * c) 9 = I (74 + 12 * c) 9) (e2 : ∀ p, p < 4 → I' (82 + 12 * c + p) 3 = I (82 + 12 * c + p) 3)
    (e3 : ∀ p, p < 4 → a'.1 138 (4 * c + p) = a.1 138 (4 * c + p)) (e4 : ∀ p, p < 4 → aVal (a'.1 136 (4 * c + p)) = true → aVal (a.1 136 (4 * c + p)) = true)
    (e5 : ∀ v, a.1 122 18 = Int32.ofNat v → v < 2000000000 → ∃ v', a'.1 122 18 = Int32.ofNat v' ∧ v ≤ v' ∧ v' < 2000000000) : UsOk I' a' c := by
  obtain ⟨u, v, h1, h2, h3, h4, h5, h6⟩ := h
  obtain ⟨v', g1, g2, g3⟩ := e5 v h2 h4
  refine ⟨u, v', by rw [e1, h1], g1, by omega, g3, fun p hp hv => ?_, fun p p' hp hp' hv hv' => ?_⟩
  · obtain ⟨s, t, k1, k2, k3, k4⟩ := h5 p hp (e4 p hp hv)
    exact ⟨s, t, by rw [e2 p hp, k1], by rw [e3 p hp, k2], k3, by omega⟩
  · rw [e2 p hp, e2 p' hp', e3 p hp, e3 p' hp']
    exact h6 p p' hp hp' (e4 p hp hv) (e4 p' hp' hv')
theorem Lv_fr (h : LvOk I a c) (e1 : I' (76 + 12 * c) = I (76 + 12 * c)) (e2 : ∀ l, l < 16 → a'.1 141 (16 * c + l) = a.1 141 (16 * c + l)) : LvOk I' a' c := by
  intro l hl
  rw [e1, e2 l hl]
  exact h l hl
theorem Co_fr (h : CoOk I a c) (e1 : ∀ k, ¬ k = 9 → I' (74 + 12 * c) k = I (74 + 12 * c) k) (e2 : I' (77 + 12 * c) = I (77 + 12 * c)) (e3 : I' (78 + 12 * c) = I (78 + 12 * c))
    (e4 : a'.1 142 c = a.1 142 c) (e5 : a'.1 151 c = a.1 151 c) (e6 : a'.1 152 c = a.1 152 c) (e7 : ∀ k, k < 4 → a'.1 143 (4 * c + k) = a.1 143 (4 * c + k) ∧ a'.1 144 (4 * c + k) = a.1 144 (4 * c + k)) : CoOk I' a' c := by
  obtain ⟨h1, h2, h3, h4, h5⟩ := h
  refine ⟨by rw [e1 0 (by decide), h1], by rw [e1 7 (by decide), h2, e4], by rw [e1 10 (by decide), h3, e5], by rw [e1 11 (by decide), h4, e6], fun k hk hlt => ?_⟩
  rw [e4] at hlt
  rw [e2, e3, (e7 k hk).1, (e7 k hk).2]
  exact h5 k hk hlt
theorem Tx_fr (h : TxOk I a c) (e1 : I' (79 + 12 * c) = I (79 + 12 * c)) (e2 : I' (80 + 12 * c) = I (80 + 12 * c)) (e3 : I' (81 + 12 * c) = I (81 + 12 * c))
    (e4 : ∀ r, 145 ≤ r → r ≤ 149 → a'.1 r c = a.1 r c) (e5 : ∀ l, l < 16 → a'.1 150 (16 * c + l) = a.1 150 (16 * c + l)) : TxOk I' a' c := by
  obtain ⟨h1, h2, h3, h4⟩ := h
  unfold TxOk
  rw [e1, e2, e3, e4 145 (by decide) (by decide), e4 146 (by decide) (by decide), e4 147 (by decide) (by decide), e4 148 (by decide) (by decide), e4 149 (by decide) (by decide)]
  refine ⟨h1, h2, h3, fun g => ⟨(h4 g).1, (h4 g).2.1, fun l hl => ?_⟩⟩
  rw [e5 l hl]
  exact (h4 g).2.2 l hl
theorem us_same (e : a'.1 122 18 = a.1 122 18) : ∀ v, a.1 122 18 = Int32.ofNat v → v < 2000000000 → ∃ v', a'.1 122 18 = Int32.ofNat v' ∧ v ≤ v' ∧ v' < 2000000000 := fun v h1 h2 => ⟨v, e.trans h1, Nat.le_refl _, h2⟩
/-- changes of one line at the home -/
theorem C_home (hl : l < 16) (hI : ∀ r, ¬ r = 25 + 2 * l → ¬ r = 26 + 2 * l → I' r = I r) (ha : ∀ r i, ¬ (123 ≤ r ∧ r ≤ 129 ∧ i = l) → a'.1 r i = a.1 r i)
    (hq : ∀ q, ¬ q = 15 + l → a'.2 q = a.2 q) (hH : HmOk I' a' l) (h : CF I0 I a) : CF I0 I' a' := by
  obtain ⟨⟨h1, h2, h3, h4, h5, h6, h7, h8⟩, h9⟩ := h
  refine ⟨⟨fun l' hl' => ?_, fun q hq' => ?_, fun c p hc hp => ?_, fun c hc => ?_, fun c hc => ?_, fun c hc => ?_, fun c hc => ?_, fun k hk => ?_⟩, fun r hr => ?_⟩
  · by_cases g : l' = l
    · subst g
      exact hH
    · exact Hm_fr (h1 l' hl') (hI _ (by omega) (by omega)) (hI _ (by omega) (by omega)) (fun r _ _ => ha _ _ (by omega)) (hq _ (by omega))
  · exact Ml_fr (h2 q hq') (hI _ (by omega) (by omega)) (by rw [hI _ (by omega) (by omega)]) (by rw [hI _ (by omega) (by omega)]) (hq _ (by omega))
  · exact Pl_fr (h3 c p hc hp) (fun k _ => by rw [hI _ (by omega) (by omega)]) (fun r _ _ _ => ha _ _ (by omega))
  · refine Us_fr (h4 c hc) (by rw [hI _ (by omega) (by omega)]) (fun p _ => by rw [hI _ (by omega) (by omega)]) (fun p _ => ha _ _ (by omega)) (fun p _ hv => ?_) (us_same (ha _ _ (by omega)))
    rw [ha _ _ (by omega)] at hv
    exact hv
  · exact Lv_fr (h5 c hc) (hI _ (by omega) (by omega)) (fun l' _ => ha _ _ (by omega))
  · exact Co_fr (h6 c hc) (fun k _ => by rw [hI _ (by omega) (by omega)]) (hI _ (by omega) (by omega)) (hI _ (by omega) (by omega)) (ha _ _ (by omega)) (ha _ _ (by omega)) (ha _ _ (by omega)) (fun k _ => ⟨ha _ _ (by omega), ha _ _ (by omega)⟩)
  · exact Tx_fr (h7 c hc) (hI _ (by omega) (by omega)) (hI _ (by omega) (by omega)) (hI _ (by omega) (by omega)) (fun r _ _ => ha _ _ (by omega)) (fun l' _ => ha _ _ (by omega))
  · rw [hI _ (by omega) (by omega), ha _ _ (by omega)]
    exact h8 k hk
  · rw [hI _ (by omega) (by omega)]
    exact h9 r hr
/-- changes of one queue -/
theorem C_mail (hq : q < 15) (hI : ∀ r i, ¬ r = 6 + q → ¬ (r = 21 ∧ i = q) → ¬ (r = 22 ∧ i = q) → I' r i = I r i) (ha : a'.1 = a.1) (hq2 : ∀ q', ¬ q' = q → a'.2 q' = a.2 q') (hM : MlOk I' a' q) (h : CF I0 I a) : CF I0 I' a' := by
  obtain ⟨⟨h1, h2, h3, h4, h5, h6, h7, h8⟩, h9⟩ := h
  have hJ : ∀ r, ¬ r = 6 + q → ¬ r = 21 → ¬ r = 22 → I' r = I r := fun r g1 g2 g3 => funext fun i => hI r i g1 (by omega) (by omega)
  refine ⟨⟨fun l hl => ?_, fun q' hq' => ?_, fun c p hc hp => ?_, fun c hc => ?_, fun c hc => ?_, fun c hc => ?_, fun c hc => ?_, fun k hk => ?_⟩, fun r hr => ?_⟩
  · exact Hm_fr (h1 l hl) (hJ _ (by omega) (by omega) (by omega)) (hJ _ (by omega) (by omega) (by omega)) (fun r _ _ => by rw [ha]) (hq2 _ (by omega))
  · by_cases g : q' = q
    · subst g
      exact hM
    · exact Ml_fr (h2 q' hq') (hJ _ (by omega) (by omega) (by omega)) (hI _ _ (by omega) (by omega) (by omega)) (hI _ _ (by omega) (by omega) (by omega)) (hq2 _ g)
  · exact Pl_fr (h3 c p hc hp) (fun k _ => by rw [hJ _ (by omega) (by omega) (by omega)]) (fun r _ _ _ => by rw [ha])
  · exact Us_fr (h4 c hc) (by rw [hJ _ (by omega) (by omega) (by omega)]) (fun p _ => by rw [hJ _ (by omega) (by omega) (by omega)]) (fun p _ => by rw [ha]) (fun p _ hv => by rw [ha] at hv; exact hv) (us_same (by rw [ha]))
  · exact Lv_fr (h5 c hc) (hJ _ (by omega) (by omega) (by omega)) (fun l' _ => by rw [ha])
  · exact Co_fr (h6 c hc) (fun k _ => by rw [hJ _ (by omega) (by omega) (by omega)]) (hJ _ (by omega) (by omega) (by omega)) (hJ _ (by omega) (by omega) (by omega)) (by rw [ha]) (by rw [ha]) (by rw [ha]) (fun k _ => by rw [ha]; exact ⟨rfl, rfl⟩)
  · exact Tx_fr (h7 c hc) (hJ _ (by omega) (by omega) (by omega)) (hJ _ (by omega) (by omega) (by omega)) (hJ _ (by omega) (by omega) (by omega)) (fun r _ _ => by rw [ha]) (fun l' _ => by rw [ha])
  · rw [hJ _ (by omega) (by omega) (by omega), ha]
    exact h8 k hk
  · rw [hJ _ (by omega) (by omega) (by omega)]
    exact h9 r hr
/-- changes of one place -/
theorem C_place (hc : c < 4) (hp : p < 4) (hI : ∀ r k, ¬ r = 82 + 12 * c + p → ¬ (r = 74 + 12 * c ∧ k = 9) → I' r k = I r k)
    (ha : ∀ r i, ¬ (135 ≤ r ∧ r ≤ 140 ∧ i = 4 * c + p) → ¬ (r = 122 ∧ i = 18) → a'.1 r i = a.1 r i) (hq : a'.2 = a.2) (hP : PlOk I' a' c p) (hU : UsOk I' a' c)
    (hV : ∀ v, a.1 122 18 = Int32.ofNat v → v < 2000000000 → ∃ v', a'.1 122 18 = Int32.ofNat v' ∧ v ≤ v' ∧ v' < 2000000000) (h : CF I0 I a) : CF I0 I' a' := by
  obtain ⟨⟨h1, h2, h3, h4, h5, h6, h7, h8⟩, h9⟩ := h
  have hJ : ∀ r, ¬ r = 82 + 12 * c + p → ¬ r = 74 + 12 * c → I' r = I r := fun r g1 g2 => funext fun i => hI r i g1 (by omega)
  refine ⟨⟨fun l hl => ?_, fun q' hq' => ?_, fun c' p' hc' hp' => ?_, fun c' hc' => ?_, fun c' hc' => ?_, fun c' hc' => ?_, fun c' hc' => ?_, fun k hk => ?_⟩, fun r hr => ?_⟩
  · exact Hm_fr (h1 l hl) (hJ _ (by omega) (by omega)) (hJ _ (by omega) (by omega)) (fun r _ _ => ha _ _ (by omega) (by omega)) (by rw [hq])
  · exact Ml_fr (h2 q' hq') (hJ _ (by omega) (by omega)) (by rw [hJ _ (by omega) (by omega)]) (by rw [hJ _ (by omega) (by omega)]) (by rw [hq])
  · by_cases g : c' = c ∧ p' = p
    · obtain ⟨g1, g2⟩ := g
      subst g1 g2
      exact hP
    · exact Pl_fr (h3 c' p' hc' hp') (fun k _ => hI _ _ (by omega) (by omega)) (fun r _ _ _ => ha _ _ (by omega) (by omega))
  · by_cases g : c' = c
    · subst g
      exact hU
    · refine Us_fr (h4 c' hc') (hI _ _ (by omega) (by omega)) (fun p' _ => hI _ _ (by omega) (by omega)) (fun p' _ => ha _ _ (by omega) (by omega)) (fun p' _ hv => ?_) hV
      rw [ha _ _ (by omega) (by omega)] at hv
      exact hv
  · exact Lv_fr (h5 c' hc') (hJ _ (by omega) (by omega)) (fun l' _ => ha _ _ (by omega) (by omega))
  · exact Co_fr (h6 c' hc') (fun k _ => hI _ _ (by omega) (by omega)) (hJ _ (by omega) (by omega)) (hJ _ (by omega) (by omega)) (ha _ _ (by omega) (by omega)) (ha _ _ (by omega) (by omega)) (ha _ _ (by omega) (by omega)) (fun k _ => ⟨ha _ _ (by omega) (by omega), ha _ _ (by omega) (by omega)⟩)
  · exact Tx_fr (h7 c' hc') (hJ _ (by omega) (by omega)) (hJ _ (by omega) (by omega)) (hJ _ (by omega) (by omega)) (fun r _ _ => ha _ _ (by omega) (by omega)) (fun l' _ => ha _ _ (by omega) (by omega))
  · rw [hJ _ (by omega) (by omega), ha _ _ (by omega) (by omega)]
    exact h8 k hk
  · rw [hJ _ (by omega) (by omega)]
    exact h9 r hr
/-- changes of what leaves, of the buffer, of the transaction of one core -/
theorem C_core (hc : c < 4) (hI : ∀ r k, ¬ (r = 74 + 12 * c ∧ ¬ k = 9) → ¬ (76 + 12 * c ≤ r ∧ r ≤ 81 + 12 * c) → I' r k = I r k)
    (ha : ∀ r i, ¬ (r = 141 ∧ 16 * c ≤ i ∧ i < 16 * c + 16) → ¬ ((r = 142 ∨ 145 ≤ r ∧ r ≤ 149 ∨ r = 151 ∨ r = 152) ∧ i = c) → ¬ ((r = 143 ∨ r = 144) ∧ 4 * c ≤ i ∧ i < 4 * c + 4) → ¬ (r = 150 ∧ 16 * c ≤ i ∧ i < 16 * c + 16) → a'.1 r i = a.1 r i)
    (hq : a'.2 = a.2) (hL : LvOk I' a' c) (hC : CoOk I' a' c) (hT : TxOk I' a' c) (h : CF I0 I a) : CF I0 I' a' := by
  obtain ⟨⟨h1, h2, h3, h4, h5, h6, h7, h8⟩, h9⟩ := h
  have hJ : ∀ r, ¬ r = 74 + 12 * c → ¬ (76 + 12 * c ≤ r ∧ r ≤ 81 + 12 * c) → I' r = I r := fun r g1 g2 => funext fun i => hI r i (by omega) g2
  refine ⟨⟨fun l hl => ?_, fun q' hq' => ?_, fun c' p' hc' hp' => ?_, fun c' hc' => ?_, fun c' hc' => ?_, fun c' hc' => ?_, fun c' hc' => ?_, fun k hk => ?_⟩, fun r hr => ?_⟩
  · exact Hm_fr (h1 l hl) (hJ _ (by omega) (by omega)) (hJ _ (by omega) (by omega)) (fun r _ _ => ha _ _ (by omega) (by omega) (by omega) (by omega)) (by rw [hq])
  · exact Ml_fr (h2 q' hq') (hJ _ (by omega) (by omega)) (by rw [hJ _ (by omega) (by omega)]) (by rw [hJ _ (by omega) (by omega)]) (by rw [hq])
  · exact Pl_fr (h3 c' p' hc' hp') (fun k _ => hI _ _ (by omega) (by omega)) (fun r _ _ _ => ha _ _ (by omega) (by omega) (by omega) (by omega))
  · refine Us_fr (h4 c' hc') (hI _ _ (by omega) (by omega)) (fun p' _ => hI _ _ (by omega) (by omega)) (fun p' _ => ha _ _ (by omega) (by omega) (by omega) (by omega)) (fun p' _ hv => ?_) (us_same (ha _ _ (by omega) (by omega) (by omega) (by omega)))
    rw [ha _ _ (by omega) (by omega) (by omega) (by omega)] at hv
    exact hv
  · by_cases g : c' = c
    · subst g
      exact hL
    · exact Lv_fr (h5 c' hc') (hJ _ (by omega) (by omega)) (fun l' _ => ha _ _ (by omega) (by omega) (by omega) (by omega))
  · by_cases g : c' = c
    · subst g
      exact hC
    · exact Co_fr (h6 c' hc') (fun k _ => hI _ _ (by omega) (by omega)) (hJ _ (by omega) (by omega)) (hJ _ (by omega) (by omega)) (ha _ _ (by omega) (by omega) (by omega) (by omega)) (ha _ _ (by omega) (by omega) (by omega) (by omega)) (ha _ _ (by omega) (by omega) (by omega) (by omega)) (fun k _ => ⟨ha _ _ (by omega) (by omega) (by omega) (by omega), ha _ _ (by omega) (by omega) (by omega) (by omega)⟩)
  · by_cases g : c' = c
    · subst g
      exact hT
    · exact Tx_fr (h7 c' hc') (hJ _ (by omega) (by omega)) (hJ _ (by omega) (by omega)) (hJ _ (by omega) (by omega)) (fun r _ _ => ha _ _ (by omega) (by omega) (by omega) (by omega)) (fun l' _ => ha _ _ (by omega) (by omega) (by omega) (by omega))
  · rw [hJ _ (by omega) (by omega), ha _ _ (by omega) (by omega) (by omega) (by omega)]
    exact h8 k hk
  · rw [hJ _ (by omega) (by omega)]
    exact h9 r hr
/-- one more counted -/
theorem C_cnt (hk : k < 10) (h : CF I0 I a) : CF I0 (eup I 3 k (I 3 k + 1)) (aC a k) := by
  obtain ⟨⟨h1, h2, h3, h4, h5, h6, h7, h8⟩, h9⟩ := h
  have hJ : ∀ r, ¬ r = 3 → eup I 3 k (I 3 k + 1) r = I r := fun r g => up_fr g
  have ha : ∀ r i, ¬ r = 153 → (aC a k).1 r i = a.1 r i := fun r i g => aW_o (by omega)
  refine ⟨⟨fun l hl => ?_, fun q' hq' => ?_, fun c' p' hc' hp' => ?_, fun c' hc' => ?_, fun c' hc' => ?_, fun c' hc' => ?_, fun c' hc' => ?_, fun k' hk' => ?_⟩, fun r hr => ?_⟩
  · exact Hm_fr (h1 l hl) (hJ _ (by omega)) (hJ _ (by omega)) (fun r _ _ => ha _ _ (by omega)) rfl
  · exact Ml_fr (h2 q' hq') (hJ _ (by omega)) (by rw [hJ _ (by omega)]) (by rw [hJ _ (by omega)]) rfl
  · exact Pl_fr (h3 c' p' hc' hp') (fun k _ => by rw [hJ _ (by omega)]) (fun r _ _ _ => ha _ _ (by omega))
  · refine Us_fr (h4 c' hc') (by rw [hJ _ (by omega)]) (fun p' _ => by rw [hJ _ (by omega)]) (fun p' _ => ha _ _ (by omega)) (fun p' _ hv => ?_) (us_same (ha _ _ (by omega)))
    rw [ha _ _ (by omega)] at hv
    exact hv
  · exact Lv_fr (h5 c' hc') (hJ _ (by omega)) (fun l' _ => ha _ _ (by omega))
  · exact Co_fr (h6 c' hc') (fun k _ => by rw [hJ _ (by omega)]) (hJ _ (by omega)) (hJ _ (by omega)) (ha _ _ (by omega)) (ha _ _ (by omega)) (ha _ _ (by omega)) (fun k _ => ⟨ha _ _ (by omega), ha _ _ (by omega)⟩)
  · exact Tx_fr (h7 c' hc') (hJ _ (by omega)) (hJ _ (by omega)) (hJ _ (by omega)) (fun r _ _ => ha _ _ (by omega)) (fun l' _ => ha _ _ (by omega))
  · by_cases g : k' = k
    · subst g
      rw [up_eq, h8 k' hk']
      exact aW_e.symm
    · rw [up_k g, h8 k' hk']
      exact (aW_k g).symm
  · rw [hJ _ (by omega)]
    exact h9 r hr
theorem C_push (hq : q < 15) (h : CF I0 I a) {e : Nat} (he : e < 64) (hp : ∀ B, B e = gCm m → (∀ i, i < 64 → i ≠ e → B i = I (6 + q) i) → Rng B (I 21 q) (I 22 q + 1) 64 gCm (a.2 q ++ [m])) :
    CF I0 (eup (eup I (6 + q) e (gCm m)) 22 q (I 22 q + 1)) (aPush a q m) := by
  refine C_mail (a := a) hq (fun r i g1 g2 g3 => ?_) rfl (fun q2 g => uA_ne g) ?_ h
  · rw [up_o g3, up_o (by omega)]
  · unfold MlOk
    rw [up_eq, up_fr (by omega)]
    show Rng _ _ _ _ _ (eupA a.2 q _ q)
    rw [uA_eq, show eup (eup I (6 + q) e (gCm m)) 22 q (I 22 q + 1) 21 q = I 21 q by rw [up_o (by omega), up_o (by omega)]]
    exact hp _ up_eq (fun i _ hn => up_k hn)
end EPC
section EPM
variable {n m k l c N : Nat} {v : Int32} {σ : eMem}
theorem b_or : Int32.ofNat n ||| Int32.ofNat m = Int32.ofNat (n ||| m) := by
  apply Int32.toBitVec.inj
  show BitVec.ofNat 32 n ||| BitVec.ofNat 32 m = BitVec.ofNat 32 (n ||| m)
  rw [BitVec.ofNat_or]
theorem b_and : Int32.ofNat n &&& Int32.ofNat m = Int32.ofNat (n &&& m) := by
  apply Int32.toBitVec.inj
  show BitVec.ofNat 32 n &&& BitVec.ofNat 32 m = BitVec.ofNat 32 (n &&& m)
  rw [BitVec.ofNat_and]
theorem b_15 : Int32.ofNat n &&& 15 = Int32.ofNat (n % 16) := by
  show Int32.ofNat n &&& Int32.ofNat 15 = _
  rw [b_and, show (15 : Nat) = 2 ^ 4 - 1 by decide, Nat.and_two_pow_sub_one_eq_mod]
theorem b_3 : Int32.ofNat n &&& 3 = Int32.ofNat (n % 4) := by
  show Int32.ofNat n &&& Int32.ofNat 3 = _
  rw [b_and, show (3 : Nat) = 2 ^ 2 - 1 by decide, Nat.and_two_pow_sub_one_eq_mod]
theorem b_shl0 {s : Int32} (h : (s.toBitVec.smod 32#32).toNat = k) : Int32.ofNat n <<< s = Int32.ofNat (n * 2 ^ k) := by
  apply Int32.toBitVec.inj
  show BitVec.ofNat 32 n <<< (s.toBitVec.smod 32#32).toNat = BitVec.ofNat 32 (n * 2 ^ k)
  rw [h]
  apply BitVec.eq_of_toNat_eq
  rw [BitVec.toNat_shiftLeft, BitVec.toNat_ofNat, BitVec.toNat_ofNat, Nat.shiftLeft_eq, Nat.mod_mul_mod]
theorem b_shr0 {s : Int32} (h : (s.toBitVec.smod 32#32).toNat = k) (hn : n < 2147483648) : Int32.ofNat n >>> s = Int32.ofNat (n / 2 ^ k) := by
  apply Int32.toBitVec.inj
  show (BitVec.ofNat 32 n).sshiftRight (s.toBitVec.smod 32#32).toNat = BitVec.ofNat 32 (n / 2 ^ k)
  rw [h]
  have hm : (BitVec.ofNat 32 n).msb = false := by
    rw [BitVec.msb_eq_false_iff_two_mul_lt, BitVec.toNat_ofNat]
    omega
  rw [BitVec.sshiftRight_eq_of_msb_false hm]
  apply BitVec.eq_of_toNat_eq
  have := Nat.div_le_self n (2 ^ k)
  rw [BitVec.toNat_ushiftRight, BitVec.toNat_ofNat, BitVec.toNat_ofNat, Nat.shiftRight_eq_div_pow, Nat.mod_eq_of_lt (show n < 2 ^ 32 by omega), Nat.mod_eq_of_lt (show n / 2 ^ k < 2 ^ 32 by omega)]
theorem b_shl4 : Int32.ofNat n <<< ((4 : Int32) &&& 31) = Int32.ofNat (n * 16) := b_shl0 (k := 4) (by decide)
theorem b_shl8 : Int32.ofNat n <<< ((8 : Int32) &&& 31) = Int32.ofNat (n * 256) := b_shl0 (k := 8) (by decide)
theorem b_shl10 : Int32.ofNat n <<< ((10 : Int32) &&& 31) = Int32.ofNat (n * 1024) := b_shl0 (k := 10) (by decide)
theorem b_shr4 (h : n < 2147483648) : Int32.ofNat n >>> ((4 : Int32) &&& 31) = Int32.ofNat (n / 16) := b_shr0 (k := 4) (by decide) h
theorem b_shr8 (h : n < 2147483648) : Int32.ofNat n >>> ((8 : Int32) &&& 31) = Int32.ofNat (n / 256) := b_shr0 (k := 8) (by decide) h
theorem b_shr10 (h : n < 2147483648) : Int32.ofNat n >>> ((10 : Int32) &&& 31) = Int32.ofNat (n / 1024) := b_shr0 (k := 10) (by decide) h
theorem b_add {i b : Nat} (hb : b < 2 ^ i) (x : Nat) : b ||| x * 2 ^ i = b + x * 2 ^ i := by
  have := Nat.two_pow_add_eq_or_of_lt hb x
  rw [Nat.or_comm, Nat.mul_comm x, ← this, Nat.add_comm]
theorem cs_of (hk : k < 16) (hl : l < 16) (hc : c < 4) (hv : v + 1 = Int32.ofNat N) : f_X4_of (Int32.ofNat k) (Int32.ofNat l) (Int32.ofNat c) v σ = some (Int32.ofNat (k + 16 * l + 256 * c + 1024 * N), σ) := by
  unfold f_X4_of
  rw [hv, b_shl4, b_shl8, b_shl10, b_or, b_or, b_or, show l * 16 = l * 2 ^ 4 by omega, b_add (by omega), show c * 256 = c * 2 ^ 8 by omega, b_add (by omega), show N * 1024 = N * 2 ^ 10 by omega, b_add (by omega)]
  congr 3
  omega
end EPM
