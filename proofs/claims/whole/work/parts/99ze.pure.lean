/-! the reference: an outcome is told; a state is dealt with -/
section EPT
variable {P : aP} {I I' I0 : Nat → Nat → Int32} {J J' J0 : Nat → Nat → Int64} {m r y z k n p t s N v w i j : Nat} {x x' x1 c : Int64} {L C D : List Int64} {G : Int64 → Prop} {S S' : aT} {X : Int32} {σ : eMem} {l l' : List Nat}
theorem rp_out1 (hn : n ≤ 7) : ∀ k N told, k ≤ n → k < N → hF4 x n = hF4 x k + 10 ^ k * told →
    f_X12_comesOut_15 N 122 x (Int32.ofNat told) (xDn k) (I, J) = f_X12_comesOut_47 1000000 122 (Int32.ofNat (hF4 x n)) 0 (I, J) := by
  intro k
  induction k with
  | zero =>
    intro N told hk hN e
    obtain ⟨N, rfl⟩ := Nat.exists_eq_add_of_le' (show 1 ≤ N by omega)
    have e0 : hF4 x n = told := by
      rw [e]
      show 0 + 1 * told = told
      omega
    rw [f_X12_comesOut_15, if_pos (show xDn 0 < (0 : Int32) by decide), e0]
  | succ k ih =>
    intro N told hk hN e
    obtain ⟨N, rfl⟩ := Nat.exists_eq_add_of_le' (show 1 ≤ N by omega)
    have p : f_X12_part x (Int32.ofNat (30 + 4 * k)) 4 (I, J) = some (Int32.ofNat (gF4 x k), (I, J)) := rp_part (m := 4) (by decide) (by omega) (by omega)
    have e1 : (xDn (k + 1) < (0 : Int32)) = False := i_lt0 (by omega)
    have e2 : (10 : Int32) * Int32.ofNat told + Int32.ofNat (gF4 x k) = Int32.ofNat (10 * told + gF4 x k) := by
      rw [show (10 : Int32) = Int32.ofNat 10 from rfl, i_mu, i_ad]
    have key := ih N (10 * told + gF4 x k) (by omega) (by omega) (by
      rw [e]
      show hF4 x k + 10 ^ k * gF4 x k + 10 ^ (k + 1) * told = _
      rw [Nat.pow_succ, Nat.mul_add, ← Nat.mul_assoc]
      omega)
    rw [← key, f_X12_comesOut_15, show xDn (k + 1) = Int32.ofNat k from rfl, f30, p]
    rw [show xDn (k + 1) = Int32.ofNat k from rfl] at e1
    simp only [e1, ↓reduceIte, Option.bind_some, eLt, e2, xDn_s]
/-- an outcome is told -/
theorem rp_out (h : PgR I P) (R : RlA P m x S) (hF : S.2.2 < 2147483648) (hL : Lst I 160 122 42 l) (hs : gSo l) (hl : ∀ y, y ∈ l → y < 2147483648) (hn : l.length ≤ 720) (hr : ¬ S.2.2 ∈ l → l.length < 720) :
    ∃ I' l', f_X12_comesOut 122 x (I, J) = some ((), (I', J)) ∧ Lst I' 160 122 42 l' ∧ gSo l' ∧ (∀ y, y ∈ l' ↔ y ∈ l ∨ y = S.2.2) ∧ (∀ i, ¬ i = 42 → I' 122 i = I 122 i) ∧ ∀ r, ¬ r = 160 → ¬ r = 122 → I' r = I r := by
  have ha := gAll_le h.1
  obtain ⟨I', l', b1, b2⟩ := ri_incl (J := J) (by decide) hL hs hF hl hn hr
  refine ⟨I', l', ?_, b2⟩
  have e1 : Int32.ofNat (gAll P) - 1 = xDn (gAll P) := by
    cases gAll P with
    | zero => decide
    | succ j => exact i_sb (n := j + 1) (m := 1) (by omega)
  have key := rp_out1 (I := I) (J := J) (x := x) (show gAll P ≤ 7 by omega) (gAll P) 1000000 0 (Nat.le_refl _) (by omega) (by omega)
  rw [R.2.2.2.2.2.2, b1] at key
  obtain ⟨N, hN⟩ : ∃ N, N = 1000000 := ⟨_, rfl⟩
  unfold f_X12_comesOut
  rw [← hN] at key ⊢
  simp only [eLt, Option.bind_some, ↓reduceIte, K_122, R_122_33, R_122_34, R_122_35, R_122_36, K_154, K_155, K_156, K_157, true_and, and_true, eB, decide_true, decide_false, Bool.or_true, Bool.true_or, not_true_eq_false, not_false_eq_true, rp_resN h, e1]
  exact key
/-- a state that was dealt with -/
def Prc (P : aP) (m : Nat) (G : Int64 → Prop) (l : List Nat) (g : Int64) : Prop := (∀ S, RlA P m g S → gBd P S 0 → S.2.2 ∈ l) ∧
  ∀ S r y, RlA P m g S → gBd P S r → gOk P m S.1 y → ∃ c, G c ∧ rkA P c + 1 ≤ rkA P g ∧ (RlA P m c S ∨ RlA P m c (gEf P S y))
/-- a state that may be -/
def Gd (P : aP) (m : Nat) (g : Int64) : Prop := ∃ S r, RlA P m g S ∧ gBd P S r ∧ ∀ k, gOut P m r S k → gFi P m k
theorem Prc_w {G' : Int64 → Prop} (h : Prc P m G l x) (hG : ∀ g, G g → G' g) (hl : ∀ k, k ∈ l → k ∈ l') : Prc P m G' l' x :=
  ⟨fun S R B => hl _ (h.1 S R B), fun S r y R B k => by
    obtain ⟨c, c1, c2⟩ := h.2 S r y R B k
    exact ⟨c, hG c c1, c2⟩⟩
theorem Gd_0 (hW : gWf P) : Gd P m 0 := ⟨gS0, gTo P, RlA_0, gBd_0 hW, fun _ h => h⟩
theorem Gd_c (hW : gWf P) (h : Gd P m x) (hA : ChA P m x C) (hc : c ∈ C) : Gd P m c := by
  obtain ⟨S, r, R, B, hk⟩ := h
  rcases hA.2 c hc S r R B with q | ⟨y, q1, q2⟩
  · exact ⟨S, r, q, B, hk⟩
  · obtain ⟨s, e, B2⟩ := gBd_s hW B q1
    subst e
    exact ⟨_, s, q2, B2, fun k g => hk k (gOut_s.2 ⟨y, q1, g⟩)⟩
/-- all that can come is in the list -/
theorem Prc_all (hW : gWf P) (h : ∀ g, G g → Prc P m G l g) : ∀ n g, G g → rkA P g ≤ n → ∀ S r k, RlA P m g S → gBd P S r → gOut P m r S k → k ∈ l := by
  intro n
  induction n with
  | zero =>
    intro g hg hn S r k R B hk
    cases r with
    | zero =>
      rw [gOut_0] at hk
      rw [hk]
      exact (h g hg).1 S R B
    | succ r =>
      obtain ⟨y, k1, k2⟩ := gOut_s.1 hk
      obtain ⟨c, c1, c2, c3⟩ := (h g hg).2 S _ y R B k1
      omega
  | succ n ih =>
    intro g hg hn S r k R B hk
    cases r with
    | zero =>
      rw [gOut_0] at hk
      rw [hk]
      exact (h g hg).1 S R B
    | succ r =>
      obtain ⟨y, k1, k2⟩ := gOut_s.1 hk
      obtain ⟨c, c1, c2, c3⟩ := (h g hg).2 S _ y R B k1
      rcases c3 with q | q
      · exact ih c c1 (by omega) S _ k q B hk
      · obtain ⟨s, e, B2⟩ := gBd_s hW B k1
        have e' : s = r := by omega
        subst e'
        exact ih c c1 (by omega) _ s k q B2 k2
/-- all three threads -/
theorem rp_three (hm : m < 2) (h : PgR I P) (R : RlA P m x S) (hB : gBd P S r) (hw : Wl I J G L) (hL : L.length < 240) :
    ∃ C, C.length ≤ 6 ∧ ChA P m x C ∧ (∀ S r y, RlA P m x S → gBd P S r → gOk P m S.1 y → ∃ c, c ∈ C ∧ (RlA P m c S ∨ RlA P m c (gEf P S y))) ∧
      ∃ I' J' D, (∀ N, f_X12_goesThrough_L42 (N + 5) (.inr (.inl (122, if m = 1 then 1 else 0, x, 0))) (I, J) = f_X12_goesThrough_L42 N (.inl (122, if m = 1 then 1 else 0)) (I', J')) ∧ Wl I' J' (fun g => G g ∨ g ∈ C) (L ++ D) ∧ D.length ≤ C.length ∧ (∀ d, d ∈ D → d ∈ C) ∧ (∀ c, c ∈ C → G c ∨ c ∈ D) ∧ FrP I J I' J' := by
  have one : ∀ t (I : Nat → Nat → Int32) (J : Nat → Nat → Int64) (G : Int64 → Prop) L, t < 3 → PgR I P → Wl I J G L → L.length < 249 → ∃ C, ChO P m x t C ∧ ∃ I' J' D, (∀ N, f_X12_goesThrough_L42 (N + 1) (.inr (.inl (122, if m = 1 then 1 else 0, x, Int32.ofNat t))) (I, J) = f_X12_goesThrough_L42 N (.inr (.inl (122, if m = 1 then 1 else 0, x, Int32.ofNat (t + 1)))) (I', J')) ∧ Wl I' J' (fun g => G g ∨ g ∈ C) (L ++ D) ∧ D.length ≤ C.length ∧ (∀ d, d ∈ D → d ∈ C) ∧ (∀ c, c ∈ C → G c ∨ c ∈ D) ∧ FrP I J I' J' := by
    intro t I J G L ht h hw hL
    obtain ⟨C, c1, I', J', D, d1, d2⟩ := rp_on hm h R hB ht hw hL
    refine ⟨C, c1, I', J', D, fun N => ?_, d2⟩
    have e : ((3 : Int32) ≤ Int32.ofNat t) = False := (i_le (n := 3) (by decide) (by omega)).trans (eq_false (by omega))
    have e1 : Int32.ofNat t + 1 = Int32.ofNat (t + 1) := i_ad (m := 1)
    rw [f_X12_goesThrough_L42]
    simp only [eLt, Option.bind_some, ↓reduceIte, K_122, R_122_33, R_122_34, R_122_35, R_122_36, K_154, K_155, K_156, K_157, true_and, and_true, eB, decide_true, decide_false, Bool.or_true, Bool.true_or, not_true_eq_false, not_false_eq_true, e, d1, e1]
  obtain ⟨C0, o0, I0', J0', D0, a1, a2, a3, a4, a6, a5⟩ := one 0 I J G L (by decide) h hw (by omega)
  have l0 := o0.1
  have h0 : PgR I0' P := PgR_fr h (fun r h1 h2 => a5.1 r (by omega))
  obtain ⟨C1, o1, I1', J1', D1, b1, b2, b3, b4, b6, b5⟩ := one 1 I0' J0' _ _ (by decide) h0 a2 (by rw [List.length_append]; omega)
  have l1 := o1.1
  have h1 : PgR I1' P := PgR_fr h0 (fun r h1 h2 => b5.1 r (by omega))
  obtain ⟨C2, o2, I2', J2', D2, c1, c2, c3, c4, c6, c5⟩ := one 2 I1' J1' _ _ (by decide) h1 b2 (by rw [List.length_append, List.length_append]; omega)
  have l2 := o2.1
  refine ⟨C0 ++ C1 ++ C2, by rw [List.length_append, List.length_append]; omega, ⟨fun c hc => ?_, fun c hc => ?_⟩, fun S r y R B k => ?_, I2', J2', D0 ++ D1 ++ D2, fun N => ?_, ?_, ?_, fun d hd => ?_, fun d hd => ?_, FrP_tr a5 (FrP_tr b5 c5)⟩
  · rcases List.mem_append.1 hc with q | q
    · rcases List.mem_append.1 q with q | q
      · exact o0.2.1.1 c q
      · exact o1.2.1.1 c q
    · exact o2.2.1.1 c q
  · rcases List.mem_append.1 hc with q | q
    · rcases List.mem_append.1 q with q | q
      · exact o0.2.1.2 c q
      · exact o1.2.1.2 c q
    · exact o2.2.1.2 c q
  · have hu := gU_iff.1 k.1
    have : y / 4 = 0 ∨ y / 4 = 1 ∨ y / 4 = 2 := by omega
    rcases this with q | q | q
    · obtain ⟨c, q1, q2⟩ := o0.2.2 S r y R B k q
      exact ⟨c, List.mem_append.2 (Or.inl (List.mem_append.2 (Or.inl q1))), q2⟩
    · obtain ⟨c, q1, q2⟩ := o1.2.2 S r y R B k q
      exact ⟨c, List.mem_append.2 (Or.inl (List.mem_append.2 (Or.inr q1))), q2⟩
    · obtain ⟨c, q1, q2⟩ := o2.2.2 S r y R B k q
      exact ⟨c, List.mem_append.2 (Or.inr q1), q2⟩
  · have e3 : f_X12_goesThrough_L42 (N + 2) (.inr (.inl (122, if m = 1 then 1 else 0, x, Int32.ofNat 3))) (I2', J2') = f_X12_goesThrough_L42 N (.inl (122, if m = 1 then 1 else 0)) (I2', J2') := by
      rw [show N + 2 = N + 1 + 1 by omega, f_X12_goesThrough_L42, if_pos (by decide), f_X12_goesThrough_L42]
    exact (a1 (N + 4)).trans ((b1 (N + 3)).trans ((c1 (N + 2)).trans e3))
  · have e : L ++ (D0 ++ D1 ++ D2) = L ++ D0 ++ D1 ++ D2 := by rw [List.append_assoc, List.append_assoc, List.append_assoc]
    rw [e]
    refine Wl_w c2 (fun q hq => ?_)
    rw [List.mem_append, List.mem_append]
    rcases hq with ((a | a) | a) | a
    · exact Or.inl a
    · exact Or.inr (Or.inl (Or.inl a))
    · exact Or.inr (Or.inl (Or.inr a))
    · exact Or.inr (Or.inr a)
  · rw [List.length_append, List.length_append, List.length_append, List.length_append]
    omega
  · rw [List.mem_append, List.mem_append] at hd ⊢
    rcases hd with (a | a) | a
    · exact Or.inl (Or.inl (a4 d a))
    · exact Or.inl (Or.inr (b4 d a))
    · exact Or.inr (c4 d a)
  · rw [List.mem_append, List.mem_append] at hd ⊢
    have h0 : ∀ d, d ∈ C0 → G d ∨ (d ∈ D0 ∨ d ∈ D1) ∨ d ∈ D2 := fun d a => (a6 d a).imp id (fun q => Or.inl (Or.inl q))
    have h1 : ∀ d, d ∈ C1 → G d ∨ (d ∈ D0 ∨ d ∈ D1) ∨ d ∈ D2 := fun d a => by
      rcases b6 d a with (b | b) | b
      · exact Or.inl b
      · exact h0 d b
      · exact Or.inr (Or.inl (Or.inr b))
    rcases hd with (a | a) | a
    · exact h0 d a
    · exact h1 d a
    · rcases c6 d a with ((b | b) | b) | b
      · exact Or.inl b
      · exact h0 d b
      · exact h1 d b
      · exact Or.inr (Or.inr b)
end EPT
