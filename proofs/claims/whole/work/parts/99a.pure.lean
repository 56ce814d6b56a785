/-! the class's program: a step more -/
section EPZ
variable {P : aP} {I I' I0 : Nat → Nat → Int32} {J J0 : Nat → Nat → Int64} {m r x y k n p t s N v w : Nat} {S : aT} {l : List Nat}
def xDn : Nat → Int32
  | 0 => -1
  | k + 1 => Int32.ofNat k
theorem xDn_s : ∀ k, Int32.ofNat k + (-1) = xDn k
  | 0 => by decide
  | k + 1 => n1
theorem xDn_lt (h : k < 2147483648) : (Int32.ofNat k < 0) = False := i_lt0 h
theorem gNr_s (h : k + 1 < 12) : gNr P k = gNr P (k + 1) + (if gR P (k + 1) = true then 1 else 0) := by
  unfold gNr
  by_cases q : gR P (k + 1) = true
  · rw [if_pos q]
    refine wN_one (g := fun y => gR P y && decide (k < y)) (f := fun y => gR P y && decide (k + 1 < y)) (x := k + 1) ?_ ?_ (fun y hy => ?_) 12 h
    · rw [q, decide_eq_true (by omega)]
      rfl
    · rw [decide_eq_false (by omega), Bool.and_false]
    · by_cases e : k + 1 < y
      · rw [decide_eq_true e, decide_eq_true (by omega)]
      · rw [decide_eq_false e, decide_eq_false (by omega)]
  · rw [if_neg q, Nat.add_zero]
    refine wN_eq 12 (fun y hy => ?_)
    by_cases e : y = k + 1
    · subst e
      rw [Bool.eq_false_iff.2 q, Bool.false_and, Bool.false_and]
    · by_cases e : k + 1 < y
      · rw [decide_eq_true e, decide_eq_true (by omega)]
      · rw [decide_eq_false e, decide_eq_false (by omega)]
theorem gNr_11 : gNr P 11 = 0 := by
  unfold gNr
  have : wN (fun y => gR P y && decide (11 < y)) 12 = wN (fun _ => false) 12 := wN_eq 12 (fun y hy => by
    rw [decide_eq_false (by omega), Bool.and_false])
  rw [this]
  rfl
theorem cp_weigh (h4 : ∀ t, t < 3 → P.1 t ≤ 4) : ∀ k, k ≤ 12 → ∀ N (I : Nat → Nat → Int32) w, 5 * k + 1 ≤ N → (∀ t, t < 3 → I 63 t = Int32.ofNat (P.1 t)) → (∀ x, gU P x = true → I 59 x = Int32.ofNat (P.2.1 x) ∧ P.2.1 x < 4) →
    (∀ x, k ≤ x → x < 12 → I 62 x = Int32.ofNat (gWt P x)) → (∀ j, k = j + 1 → w = Int32.ofNat (10 ^ gNr P j)) →
    ∃ I', f_X8_weigh_L5 N (.inl (58, w, xDn k)) (I, J) = some ((), (I', J)) ∧ (∀ x, x < 12 → I' 62 x = Int32.ofNat (gWt P x)) ∧ ∀ r, ¬ r = 62 → I' r = I r := by
  intro k
  induction k with
  | zero =>
    intro _ N I w hN hl hw hk hj
    obtain ⟨N, rfl⟩ := Nat.exists_eq_add_of_le hN
    rw [show 5 * 0 + 1 + N = N + 1 by omega, f_X8_weigh_L5]
    have e : xDn 0 < 0 := by decide
    rw [if_pos e]
    exact ⟨I, rfl, fun x hx => hk x (by omega) hx, fun _ _ => rfl⟩
  | succ k ih =>
    intro hk12 N I w hN hl hw hk hj
    obtain ⟨N, rfl⟩ := Nat.exists_eq_add_of_le hN
    have hw' := hj k rfl
    have e : (xDn (k + 1) < 0) = False := i_lt0 (by omega)
    have key : ∀ g : Bool, g = gR P k → ∃ I', f_X8_weigh_L5 (5 * k + 1 + N + 3) (.inr (.inr (.inr (.inl (58, w, xDn (k + 1), if g = true then 1 else 0))))) (I, J) = some ((), (I', J)) ∧ (∀ x, x < 12 → I' 62 x = Int32.ofNat (gWt P x)) ∧ ∀ r, ¬ r = 62 → I' r = I r := by
      intro g hg
      have a1 : ∀ t, t < 3 → eup I 62 k (Int32.ofNat (gWt P k)) 63 t = Int32.ofNat (P.1 t) := fun t ht => by
        rw [up_r (by decide)]
        exact hl t ht
      have a2 : ∀ x, gU P x = true → eup I 62 k (Int32.ofNat (gWt P k)) 59 x = Int32.ofNat (P.2.1 x) ∧ P.2.1 x < 4 := fun x hx => by
        rw [up_r (by decide)]
        exact hw x hx
      have a3 : ∀ x, k ≤ x → x < 12 → eup I 62 k (Int32.ofNat (gWt P k)) 62 x = Int32.ofNat (gWt P x) := by
        intro x h1 h2
        by_cases q : x = k
        · subst q
          exact up_eq
        · rw [up_k q]
          exact hk x (by omega) h2
      have ihx := fun w' hw'' => ih (by omega) (5 * k + 1 + N) (eup I 62 k (Int32.ofNat (gWt P k))) w' (by omega) a1 a2 a3 hw''
      have hd : Int32.ofNat k + (-1) = xDn k := xDn_s k
      rw [show 5 * k + 1 + N + 3 = 5 * k + 1 + N + 2 + 1 by omega, f_X8_weigh_L5]
      cases g with
      | true =>
        have hwt : gWt P k = 10 ^ gNr P k := by
          unfold gWt
          rw [← hg]
          rfl
        obtain ⟨I1, b1, b2, b3⟩ := ihx (w * 10) (fun j hj' => by
          subst hj'
          rw [gNr_s (by omega), ← hg, if_pos rfl, Nat.pow_succ, hw']
          exact i_mu (m := 10))
        refine ⟨I1, ?_, b2, fun r hr => by rw [b3 r hr, up_fr hr]⟩
        rw [hwt, ← hw'] at b1
        simp only [eLt, Option.bind_some, ↓reduceIte, K_2, R_2_4, R_2_5, R_2_6, R_2_7, K_58, K_59, K_60, K_61, K_62, K_63, R_58_0, R_58_1, R_58_2, R_58_3, R_58_4, true_and, and_true, eB, decide_true, decide_false, Bool.or_true, Bool.true_or, not_true_eq_false, not_false_eq_true, show ¬ (1 : Int32) = 0 by decide]
        rw [show 5 * k + 1 + N + 2 = 5 * k + 1 + N + 1 + 1 by omega, f_X8_weigh_L5]
        simp only [eLt, Option.bind_some, ↓reduceIte, K_2, R_2_4, R_2_5, R_2_6, R_2_7, K_58, K_59, K_60, K_61, K_62, K_63, R_58_0, R_58_1, R_58_2, R_58_3, R_58_4, true_and, and_true, eB, decide_true, decide_false, Bool.or_true, Bool.true_or, not_true_eq_false, not_false_eq_true, show xDn (k + 1) = Int32.ofNat k from rfl, x_tn (show k < 12 by omega), x_ix (show k < 12 by omega), show ¬ (1 : Int32) = 0 by decide]
        rw [f_X8_weigh_L5, hd]
        exact b1
      | false =>
        have hwt : gWt P k = 0 := by
          unfold gWt
          rw [← hg]
          rfl
        obtain ⟨I1, b1, b2, b3⟩ := ihx w (fun j hj' => by
          subst hj'
          rw [gNr_s (by omega), ← hg, if_neg (by decide), Nat.add_zero, hw'])
        refine ⟨I1, ?_, b2, fun r hr => by rw [b3 r hr, up_fr hr]⟩
        rw [hwt] at b1
        simp only [eLt, Option.bind_some, ↓reduceIte, K_2, R_2_4, R_2_5, R_2_6, R_2_7, K_58, K_59, K_60, K_61, K_62, K_63, R_58_0, R_58_1, R_58_2, R_58_3, R_58_4, true_and, and_true, eB, decide_true, decide_false, Bool.or_true, Bool.true_or, not_true_eq_false, not_false_eq_true, Bool.false_eq_true]
        rw [show 5 * k + 1 + N + 2 = 5 * k + 1 + N + 1 + 1 by omega, f_X8_weigh_L5]
        simp only [eLt, Option.bind_some, ↓reduceIte, K_2, R_2_4, R_2_5, R_2_6, R_2_7, K_58, K_59, K_60, K_61, K_62, K_63, R_58_0, R_58_1, R_58_2, R_58_3, R_58_4, true_and, and_true, eB, decide_true, decide_false, Bool.or_true, Bool.true_or, not_true_eq_false, not_false_eq_true, show xDn (k + 1) = Int32.ofNat k from rfl, x_tn (show k < 12 by omega), x_ix (show k < 12 by omega)]
        rw [f_X8_weigh_L5, hd]
        exact b1
    rw [show 5 * (k + 1) + 1 + N = 5 * k + 1 + N + 3 + 1 + 1 by omega, f_X8_weigh_L5]
    have hk' : k < 12 := by omega
    simp only [e, eLt, Option.bind_some, ↓reduceIte, K_2, R_2_4, R_2_5, R_2_6, R_2_7, K_58, K_59, K_60, K_61, K_62, K_63, R_58_0, R_58_1, R_58_2, R_58_3, R_58_4, true_and, and_true, eB, decide_true, decide_false, Bool.or_true, Bool.true_or, not_true_eq_false, not_false_eq_true]
    rw [show xDn (k + 1) = Int32.ofNat k from rfl, cp_used hk' hl h4, Option.bind_some]
    have key' := key (gR P k) rfl
    rw [show xDn (k + 1) = Int32.ofNat k from rfl] at key'
    by_cases q : gU P k = true
    · obtain ⟨c1, c2⟩ := hw k q
      have d1 : (Int32.ofNat (P.2.1 k) = 1) = (P.2.1 k = 1) := i_eq (m := 1) (by omega) (by decide)
      have d3 : (Int32.ofNat (P.2.1 k) = 3) = (P.2.1 k = 3) := i_eq (m := 3) (by omega) (by decide)
      simp only [q, eLt, Option.bind_some, ↓reduceIte, K_2, R_2_4, R_2_5, R_2_6, R_2_7, K_58, K_59, K_60, K_61, K_62, K_63, R_58_0, R_58_1, R_58_2, R_58_3, R_58_4, true_and, and_true, eB, decide_true, decide_false, Bool.or_true, Bool.true_or, not_true_eq_false, not_false_eq_true, show ¬ (1 : Int32) = 0 by decide, x_tn hk', x_ix hk', c1, d1, d3]
      have hR : gR P k = (decide (P.2.1 k = 1) || decide (P.2.1 k = 3)) := by
        unfold gR
        rw [q, Bool.true_and]
      rw [hR] at key'
      by_cases q1 : P.2.1 k = 1
      · rw [decide_eq_true q1, Bool.true_or, if_pos rfl] at key'
        simp only [q1, ↓reduceIte]
        rw [f_X8_weigh_L5]
        exact key'
      · by_cases q3 : P.2.1 k = 3
        · rw [decide_eq_true q3, Bool.or_true, if_pos rfl] at key'
          simp only [q3, ↓reduceIte, not_true_eq_false, show ¬ (3 : Nat) = 1 by decide]
          rw [f_X8_weigh_L5]
          exact key'
        · rw [decide_eq_false q1, decide_eq_false q3, Bool.or_false, if_neg (by decide)] at key'
          simp only [q1, q3, ↓reduceIte, not_false_eq_true]
          rw [f_X8_weigh_L5]
          exact key'
    · have hR : gR P k = false := by
        unfold gR
        rw [Bool.eq_false_iff.2 q, Bool.false_and]
      rw [hR, if_neg (by decide)] at key'
      simp only [q, eLt, Option.bind_some, ↓reduceIte, K_2, R_2_4, R_2_5, R_2_6, R_2_7, K_58, K_59, K_60, K_61, K_62, K_63, R_58_0, R_58_1, R_58_2, R_58_3, R_58_4, true_and, and_true, eB, decide_true, decide_false, Bool.or_true, Bool.true_or, not_true_eq_false, not_false_eq_true]
      rw [f_X8_weigh_L5]
      exact key'
theorem cp_room (ht : t < 3) (h : PgC I P) : f_X8_hasRoom 58 (Int32.ofNat t) (I, J) = some (if P.1 t < 4 ∧ gTo P < 6 then 1 else 0, (I, J)) := by
  have h4 := h.1.1 t ht
  have h6 := h.1.2.1
  have e : ((4 : Int32) ≤ Int32.ofNat (P.1 t)) = (4 ≤ P.1 t) := i_le (n := 4) (by decide) (by omega)
  have e6 : ((6 : Int32) ≤ Int32.ofNat (gTo P)) = (6 ≤ gTo P) := i_le (n := 6) (by decide) (by omega)
  unfold f_X8_hasRoom f_X8_hasRoom_24 f_X8_hasRoom_23 f_X8_hasRoom_24
  simp only [eLt, Option.bind_some, ↓reduceIte, K_2, R_2_4, R_2_5, R_2_6, R_2_7, K_58, K_59, K_60, K_61, K_62, K_63, R_58_0, R_58_1, R_58_2, R_58_3, R_58_4, true_and, and_true, eB, decide_true, decide_false, Bool.or_true, Bool.true_or, not_true_eq_false, not_false_eq_true, t_tn ht, t_ix ht, h.2.1 t ht, e, cp_tot h.2.1, e6]
  by_cases q : 4 ≤ P.1 t
  · rw [if_pos q, if_neg (by omega)]
  · rw [if_neg q]
    by_cases q2 : 6 ≤ gTo P
    · rw [if_pos q2, if_neg (by omega)]
    · rw [if_neg q2, if_pos (by omega)]
/-- a step more -/
def gAp (P : aP) (t w p v : Nat) : aP := (gUp P.1 t (P.1 t + 1), gUp P.2.1 (t * 4 + P.1 t) w, gUp P.2.2.1 (t * 4 + P.1 t) p, gUp P.2.2.2 (t * 4 + P.1 t) v)
theorem gUp_eq {c : Nat → Nat} : gUp c k v k = v := if_pos rfl
theorem gUp_ne {c : Nat → Nat} (h : ¬ x = k) : gUp c k v x = c x := if_neg h
theorem gAp_U (ht : t < 3) (h4 : P.1 t < 4) : gU (gAp P t w p v) x = true ↔ gU P x = true ∨ x = t * 4 + P.1 t := by
  rw [gU_iff, gU_iff]
  show x < 12 ∧ x % 4 < gUp P.1 t (P.1 t + 1) (x / 4) ↔ _
  by_cases e : x / 4 = t
  · rw [e, gUp_eq]
    omega
  · rw [gUp_ne e]
    omega
theorem gTo_ap (ht : t < 3) : gTo (gAp P t w p v) = gTo P + 1 := by
  show gUp P.1 t (P.1 t + 1) 0 + gUp P.1 t (P.1 t + 1) 1 + gUp P.1 t (P.1 t + 1) 2 = P.1 0 + P.1 1 + P.1 2 + 1
  have : t = 0 ∨ t = 1 ∨ t = 2 := by omega
  rcases this with q | q | q
  · subst q
    rw [gUp_eq, gUp_ne (by decide), gUp_ne (by decide)]
    omega
  · subst q
    rw [gUp_eq, gUp_ne (by decide), gUp_ne (by decide)]
    omega
  · subst q
    rw [gUp_eq, gUp_ne (by decide), gUp_ne (by decide)]
    omega
theorem gWf_ap (ht : t < 3) (h4 : P.1 t < 4) (h6 : gTo P < 6) (hw : w < 4) (hp : p < 3) (hv : w = 0 → 1 ≤ v ∧ v ≤ 9) (h : gWf P) : gWf (gAp P t w p v) := by
  refine ⟨fun u hu => ?_, ?_, fun x hx => ?_⟩
  · show gUp P.1 t (P.1 t + 1) u ≤ 4
    unfold gUp
    split
    · omega
    · exact h.1 u hu
  · rw [gTo_ap ht]
    omega
  · show gUp P.2.1 _ w x < 4 ∧ gUp P.2.2.1 _ p x < 3 ∧ (gUp P.2.1 _ w x = 0 → 1 ≤ gUp P.2.2.2 _ v x ∧ gUp P.2.2.2 _ v x ≤ 9)
    by_cases e : x = t * 4 + P.1 t
    · rw [e, gUp_eq, gUp_eq, gUp_eq]
      exact ⟨hw, hp, hv⟩
    · rw [gUp_ne e, gUp_ne e, gUp_ne e]
      exact h.2.2 x (((gAp_U ht h4).1 hx).resolve_right e)
theorem cp_append (ht : t < 3) (h4 : P.1 t < 4) (h6 : gTo P < 6) (hw : w < 4) (hp : p < 3) (hv : w = 0 → 1 ≤ v ∧ v ≤ 9) (h : PgC I P) :
    ∃ I', f_X8_append 58 (Int32.ofNat t) (Int32.ofNat w) (Int32.ofNat p) (Int32.ofNat v) (I, J) = some (Int32.ofNat (P.1 t + 1), (I', J)) ∧ PgC I' (gAp P t w p v) ∧ ∀ r, ¬ (58 ≤ r ∧ r < 64) → I' r = I r := by
  have hs : t * 4 + P.1 t < 12 := by omega
  have e1 : Int32.ofNat t * 4 + Int32.ofNat (P.1 t) = Int32.ofNat (t * 4 + P.1 t) := by
    rw [show (4 : Int32) = Int32.ofNat 4 from rfl, i_mu, i_ad]
  have e2 : (Int32.ofNat (t * 4 + P.1 t) < 0) = False := i_lt0 (by omega)
  have e3 : (Int32.ofNat (t * 4 + P.1 t) < 12) = True := (i_lt (m := 12) (by omega) (by decide)).trans (eq_true hs)
  have e4 : Int32.ofNat (P.1 t) + 1 = Int32.ofNat (P.1 t + 1) := i_ad (m := 1)
  have hW := gWf_ap (v := v) ht h4 h6 hw hp hv h.1
  -- the memory before the weights
  obtain ⟨I5, hI5⟩ : ∃ I5, I5 = eup (eup (eup (eup I 59 (t * 4 + P.1 t) (Int32.ofNat w)) 60 (t * 4 + P.1 t) (Int32.ofNat p)) 61 (t * 4 + P.1 t) (Int32.ofNat v)) 63 t (Int32.ofNat (P.1 t + 1)) := ⟨_, rfl⟩
  have a1 : ∀ u, u < 3 → I5 63 u = Int32.ofNat ((gAp P t w p v).1 u) := by
    intro u hu
    show _ = Int32.ofNat (gUp P.1 t (P.1 t + 1) u)
    rw [hI5]
    by_cases e : u = t
    · rw [e, up_eq, gUp_eq]
    · rw [up_k e, up_r (by decide), up_r (by decide), up_r (by decide), gUp_ne e]
      exact h.2.1 u hu
  have q59 : ∀ x, I5 59 x = eup I 59 (t * 4 + P.1 t) (Int32.ofNat w) 59 x := fun x => by rw [hI5, up_r (by decide), up_r (by decide), up_r (by decide)]
  have q60 : ∀ x, I5 60 x = eup (eup I 59 (t * 4 + P.1 t) (Int32.ofNat w)) 60 (t * 4 + P.1 t) (Int32.ofNat p) 60 x := fun x => by rw [hI5, up_r (by decide), up_r (by decide)]
  have q61 : ∀ x, I5 61 x = eup (eup (eup I 59 (t * 4 + P.1 t) (Int32.ofNat w)) 60 (t * 4 + P.1 t) (Int32.ofNat p)) 61 (t * 4 + P.1 t) (Int32.ofNat v) 61 x := fun x => by rw [hI5, up_r (by decide)]
  have a2 : ∀ x, gU (gAp P t w p v) x = true → I5 59 x = Int32.ofNat ((gAp P t w p v).2.1 x) ∧ I5 60 x = Int32.ofNat ((gAp P t w p v).2.2.1 x) ∧ ((gAp P t w p v).2.1 x = 0 → I5 61 x = Int32.ofNat ((gAp P t w p v).2.2.2 x)) := by
    intro x hx
    show I5 59 x = Int32.ofNat (gUp P.2.1 _ w x) ∧ I5 60 x = Int32.ofNat (gUp P.2.2.1 _ p x) ∧ (gUp P.2.1 _ w x = 0 → I5 61 x = Int32.ofNat (gUp P.2.2.2 _ v x))
    rw [q59, q60, q61]
    by_cases e : x = t * 4 + P.1 t
    · rw [e, gUp_eq, gUp_eq, gUp_eq, up_eq, up_eq, up_eq]
      exact ⟨rfl, rfl, fun _ => rfl⟩
    · rw [gUp_ne e, gUp_ne e, gUp_ne e]
      have := h.2.2 x (((gAp_U ht h4).1 hx).resolve_right e)
      exact ⟨(up_k e).trans this.1, (up_k e).trans ((up_r (by decide)).trans this.2.1), fun g => (up_k e).trans ((up_r (by decide)).trans ((up_r (by decide)).trans (this.2.2.1 g)))⟩
  obtain ⟨I6, b1, b2, b3⟩ := cp_weigh (P := gAp P t w p v) (J := J) (fun u hu => hW.1 u hu) 12 (by decide) 1000000 I5 1 (by decide) a1 (fun x hx => ⟨(a2 x hx).1, (hW.2.2 x hx).1⟩) (fun x g1 g2 => by omega) (fun j hj => by
    have : j = 11 := by omega
    subst this
    rw [gNr_11]
    rfl)
  have hb : f_X8_weigh 58 (I5, J) = some ((), (I6, J)) := by
    unfold f_X8_weigh
    exact b1
  have c3 : ∀ r, ¬ r = 62 → ∀ x, I6 r x = I5 r x := fun r hr x => by rw [b3 r hr]
  refine ⟨I6, ?_, ⟨hW, fun u hu => by rw [c3 63 (by decide)]; exact a1 u hu, fun x hx => ?_⟩, fun r hr => ?_⟩
  · have d1 : eup (eup (eup I 59 (t * 4 + P.1 t) (Int32.ofNat w)) 60 (t * 4 + P.1 t) (Int32.ofNat p)) 61 (t * 4 + P.1 t) (Int32.ofNat v) 63 t = Int32.ofNat (P.1 t) := by
      rw [up_r (by decide), up_r (by decide), up_r (by decide)]
      exact h.2.1 t ht
    have d2 : I6 63 t = Int32.ofNat (P.1 t + 1) := by
      rw [c3 63 (by decide), a1 t ht]
      show Int32.ofNat (gUp P.1 t (P.1 t + 1) t) = _
      rw [gUp_eq]
    unfold f_X8_append
    simp only [eLt, Option.bind_some, ↓reduceIte, K_2, R_2_4, R_2_5, R_2_6, R_2_7, K_58, K_59, K_60, K_61, K_62, K_63, R_58_0, R_58_1, R_58_2, R_58_3, R_58_4, true_and, and_true, eB, decide_true, decide_false, Bool.or_true, Bool.true_or, not_true_eq_false, not_false_eq_true, t_tn ht, t_ix ht, h.2.1 t ht, e1, e2, e3, x_tn hs, x_ix hs, d1, e4, ← hI5, hb, d2]
  · rw [c3 59 (by decide), c3 60 (by decide), c3 61 (by decide)]
    have g := a2 x hx
    exact ⟨g.1, g.2.1, g.2.2, b2 x (gU_iff.1 hx).1⟩
  · rw [b3 r (by omega), hI5, up_fr (by omega), up_fr (by omega), up_fr (by omega), up_fr (by omega)]
end EPZ
