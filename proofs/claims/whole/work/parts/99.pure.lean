/-! how both memories hold a program; the class's program -/
def PgC (I : Nat → Nat → Int32) (P : aP) : Prop := gWf P ∧ (∀ t, t < 3 → I 63 t = Int32.ofNat (P.1 t)) ∧
  ∀ x, gU P x = true → I 59 x = Int32.ofNat (P.2.1 x) ∧ I 60 x = Int32.ofNat (P.2.2.1 x) ∧ (P.2.1 x = 0 → I 61 x = Int32.ofNat (P.2.2.2 x)) ∧ I 62 x = Int32.ofNat (gWt P x)
def PgR (I : Nat → Nat → Int32) (P : aP) : Prop := gWf P ∧ (∀ t, t < 3 → I 154 t = Int32.ofNat (P.1 t)) ∧
  ∀ x, gU P x = true → I 155 x = Int32.ofNat (P.2.1 x) ∧ I 156 x = Int32.ofNat (P.2.2.1 x) ∧ (P.2.1 x = 0 → I 157 x = Int32.ofNat (P.2.2.2 x))
/-- a list in an array, its length in a cell -/
def Lst (I : Nat → Nat → Int32) (A q k : Nat) (l : List Nat) : Prop := I q k = Int32.ofNat l.length ∧ ∀ i, i < l.length → I A i = Int32.ofNat (l.getD i 0)
def ChC (I : Nat → Nat → Int32) (P : aP) (m Q A : Nat) : Prop := I Q 2 = 0 ∨ (I Q 2 = 1 ∧ ∃ l, Lst I A Q 1 l ∧ gLi P m l)
def RPC (I : Nat → Nat → Int32) (P : aP) : Prop := PgC I P ∧ ChC I P 0 64 65 ∧ ChC I P 1 66 67
section EPZ
variable {P : aP} {I I' I0 : Nat → Nat → Int32} {J J0 : Nat → Nat → Int64} {m r x y k n p t s N : Nat} {S : aT} {l : List Nat}
theorem four0 : ¬ (4 : Int32) = 0 := by decide
theorem t_tn (h : t < 3) : (Int32.ofNat t).toNatClampNeg = t := i_tn (by omega)
theorem t_ix (h : t < 3) : eix (Int32.ofNat t) 3 = true := i_ix h (by decide)
theorem x_tn (h : x < 12) : (Int32.ofNat x).toNatClampNeg = x := i_tn (by omega)
theorem x_ix (h : x < 12) : eix (Int32.ofNat x) 12 = true := i_ix h (by decide)
theorem x_dv (h : x < 12) : Int32.ofNat x / 4 = Int32.ofNat (x / 4) := i_dv (m := 4) (by omega) (by decide)
theorem x_md (h : x < 12) : Int32.ofNat x - Int32.ofNat x / 4 * 4 = Int32.ofNat (x % 4) := i_md (m := 4) (by omega) (by decide)
theorem x_md' (h : x < 12) : Int32.ofNat x - Int32.ofNat (x / 4) * 4 = Int32.ofNat (x % 4) := by
  rw [← x_dv h]
  exact x_md h
theorem gU_false (h : x < 12) : gU P x = false ↔ P.1 (x / 4) ≤ x % 4 := by
  rw [← Bool.not_eq_true, gU_iff]
  omega
theorem cp_used (hx : x < 12) (hl : ∀ t, t < 3 → I 63 t = Int32.ofNat (P.1 t)) (h4 : ∀ t, t < 3 → P.1 t ≤ 4) : f_X8_isUsed 58 (Int32.ofNat x) (I, J) = some (if gU P x = true then 1 else 0, (I, J)) := by
  have h3 : x / 4 < 3 := by omega
  have := h4 (x / 4) h3
  unfold f_X8_isUsed f_X8_isUsed_19
  have e : (Int32.ofNat (P.1 (x / 4)) ≤ Int32.ofNat (x % 4)) = (P.1 (x / 4) ≤ x % 4) := i_le (by omega) (by omega)
  simp only [four0, x_dv hx, x_md' hx, t_tn h3, t_ix h3, eLt, Option.bind_some, ↓reduceIte, K_2, R_2_4, R_2_5, R_2_6, R_2_7, K_58, K_59, K_60, K_61, K_62, K_63, R_58_0, R_58_1, R_58_2, R_58_3, R_58_4, true_and, and_true, eB, decide_true, decide_false, Bool.or_true, Bool.true_or, not_true_eq_false, not_false_eq_true, hl (x / 4) h3, e]
  by_cases q : gU P x = true
  · have q' := (gU_iff.1 q).2
    rw [if_neg (by omega), if_pos q]
  · have q' := (gU_false (P := P) hx).1 (Bool.eq_false_iff.2 q)
    rw [if_pos q', if_neg q]
theorem cp_tot (hl : ∀ t, t < 3 → I 63 t = Int32.ofNat (P.1 t)) : f_X8_total 58 (I, J) = some (Int32.ofNat (gTo P), (I, J)) := by
  have g : ∀ N a t, t < 3 → f_X8_total_4 (N + 1) 58 (Int32.ofNat a) (Int32.ofNat t) (I, J) = f_X8_total_4 N 58 (Int32.ofNat (a + P.1 t)) (Int32.ofNat (t + 1)) (I, J) := by
    intro N a t ht
    have e : ((3 : Int32) ≤ Int32.ofNat t) = (3 ≤ t) := i_le (n := 3) (by decide) (by omega)
    have e1 : Int32.ofNat t + 1 = Int32.ofNat (t + 1) := i_ad (m := 1)
    have n3 : ¬ 3 ≤ t := by omega
    show (if (3 : Int32) ≤ Int32.ofNat t then _ else _) = _
    simp only [e, n3, t_tn ht, t_ix ht, eLt, Option.bind_some, ↓reduceIte, K_2, R_2_4, R_2_5, R_2_6, R_2_7, K_58, K_59, K_60, K_61, K_62, K_63, R_58_0, R_58_1, R_58_2, R_58_3, R_58_4, true_and, and_true, eB, decide_true, decide_false, Bool.or_true, Bool.true_or, not_true_eq_false, not_false_eq_true, hl t ht, i_ad, e1]
  have key : ∀ N, f_X8_total_4 (N + 4) 58 0 0 (I, J) = some (Int32.ofNat (gTo P), (I, J)) := by
    intro N
    have g0 := g (N + 3) 0 0 (by decide)
    have g1 := g (N + 2) (0 + P.1 0) 1 (by decide)
    have g2 := g (N + 1) (0 + P.1 0 + P.1 1) 2 (by decide)
    refine (g0.trans (g1.trans (g2.trans ?_)))
    have e : 0 + P.1 0 + P.1 1 + P.1 2 = gTo P := by
      unfold gTo
      omega
    rw [e]
    rfl
  exact key 999996
theorem cp_told (hU : gU P x = true) (h : PgC I P) (hs : s < 2147483648) : f_X8_told 58 (Int32.ofNat x) (Int32.ofNat s) (I, J) = some (Int32.ofNat (gWt P x * min s 9), (I, J)) := by
  have hx := (gU_iff.1 hU).1
  have e : ((9 : Int32) < Int32.ofNat s) = (9 < s) := i_lt (n := 9) (by decide) hs
  unfold f_X8_told
  simp only [x_tn hx, x_ix hx, eLt, Option.bind_some, ↓reduceIte, K_2, R_2_4, R_2_5, R_2_6, R_2_7, K_58, K_59, K_60, K_61, K_62, K_63, R_58_0, R_58_1, R_58_2, R_58_3, R_58_4, true_and, and_true, eB, decide_true, decide_false, Bool.or_true, Bool.true_or, not_true_eq_false, not_false_eq_true, (h.2.2 x hU).2.2.2, e]
  by_cases q : 9 < s
  · have e2 : min s 9 = 9 := by omega
    rw [if_pos q, e2]
    rw [show (9 : Int32) = Int32.ofNat 9 from rfl, i_mu]
  · have e2 : min s 9 = s := by omega
    rw [if_neg q, e2, i_mu]
theorem cp_empty (N : Nat) (a : Int32) : f_X8_empty_7 (N + 4) 58 a 0 (I, J) = some (a, (eup (eup (eup I 63 0 0) 63 1 0) 63 2 0, J)) := by
  have g : ∀ N t (I : Nat → Nat → Int32), t < 3 → f_X8_empty_7 (N + 1) 58 a (Int32.ofNat t) (I, J) = f_X8_empty_7 N 58 a (Int32.ofNat (t + 1)) (eup I 63 t 0, J) := by
    intro N t I ht
    have e : ((3 : Int32) ≤ Int32.ofNat t) = (3 ≤ t) := i_le (n := 3) (by decide) (by omega)
    have e1 : Int32.ofNat t + 1 = Int32.ofNat (t + 1) := i_ad (m := 1)
    have n3 : ¬ 3 ≤ t := by omega
    show (if (3 : Int32) ≤ Int32.ofNat t then _ else _) = _
    simp only [e, n3, t_tn ht, t_ix ht, eLt, Option.bind_some, ↓reduceIte, K_2, R_2_4, R_2_5, R_2_6, R_2_7, K_58, K_59, K_60, K_61, K_62, K_63, R_58_0, R_58_1, R_58_2, R_58_3, R_58_4, true_and, and_true, eB, decide_true, decide_false, Bool.or_true, Bool.true_or, not_true_eq_false, not_false_eq_true, e1]
  exact ((g (N + 3) 0 I (by decide)).trans ((g (N + 2) 1 _ (by decide)).trans ((g (N + 1) 2 _ (by decide)).trans rfl)))
theorem cp_empt (hl : ∀ t, t < 3 → I 63 t = Int32.ofNat (P.1 t)) : f_X8_empty 58 (I, J) = some (Int32.ofNat (gTo P), (eup (eup (eup I 63 0 0) 63 1 0) 63 2 0, J)) := by
  unfold f_X8_empty
  rw [if_pos (by rw [K_58]), cp_tot hl, Option.bind_some]
  obtain ⟨N, hN⟩ : ∃ N, N + 4 = 1000000 := ⟨999996, rfl⟩
  rw [← hN]
  exact cp_empty N _
/-- the program that is empty -/
def gP0 (P : aP) : aP := (fun _ => 0, P.2)
theorem gU_0 : gU (gP0 P) x = false := by
  rw [← Bool.not_eq_true, gU_iff]
  exact fun h => absurd h.2 (Nat.not_lt_zero _)
theorem gWf_0 : gWf (gP0 P) := ⟨fun t _ => Nat.zero_le _, by show 0 + 0 + 0 ≤ 6; decide, fun x hx => by rw [gU_0] at hx; cases hx⟩
theorem cp_clear (h : RPC I P) : ∃ I', f_X11_clear 2 (I, J) = some (Int32.ofNat (gTo P), (I', J)) ∧ RPC I' (gP0 P) ∧ ∀ r, ¬ (58 ≤ r ∧ r < 74) → I' r = I r := by
  have hl : ∀ t, t < 3 → (eup (eup (eup (eup I 64 1 0) 64 2 0) 66 1 0) 66 2 0) 63 t = Int32.ofNat (P.1 t) := by
    intro t ht
    rw [up_r (by decide), up_r (by decide), up_r (by decide), up_r (by decide)]
    exact h.1.2.1 t ht
  refine ⟨eup (eup (eup (eup (eup (eup (eup I 64 1 0) 64 2 0) 66 1 0) 66 2 0) 63 0 0) 63 1 0) 63 2 0, ?_, ⟨⟨gWf_0, fun t ht => ?_, fun x hx => ?_⟩, Or.inl ?_, Or.inl ?_⟩, fun r hr => ?_⟩
  · unfold f_X11_clear f_X6_forget
    simp only [eLt, Option.bind_some, ↓reduceIte, K_2, R_2_4, R_2_5, R_2_6, R_2_7, K_58, K_59, K_60, K_61, K_62, K_63, R_58_0, R_58_1, R_58_2, R_58_3, R_58_4, true_and, and_true, eB, decide_true, decide_false, Bool.or_true, Bool.true_or, not_true_eq_false, not_false_eq_true, K_64, K_66, cp_empt hl]
  · have : t = 0 ∨ t = 1 ∨ t = 2 := by omega
    rcases this with q | q | q
    · subst q
      rw [up_k (by decide), up_k (by decide), up_eq]
      rfl
    · subst q
      rw [up_k (by decide), up_eq]
      rfl
    · subst q
      rw [up_eq]
      rfl
  · rw [gU_0] at hx
    cases hx
  · rw [up_r (by decide), up_r (by decide), up_r (by decide), up_r (by decide), up_r (by decide), up_eq]
  · rw [up_r (by decide), up_r (by decide), up_r (by decide), up_eq]
  · rw [up_fr (by omega), up_fr (by omega), up_fr (by omega), up_fr (by omega), up_fr (by omega), up_fr (by omega), up_fr (by omega)]
end EPZ
