/-! the reference: additions, fences; all that a thread can do -/
section EPT
variable {P : aP} {I I' I0 : Nat → Nat → Int32} {J J' J0 : Nat → Nat → Int64} {m r y z k n p t s N v w i j : Nat} {x x' x1 c : Int64} {L C D : List Int64} {G : Int64 → Prop} {S S' : aT} {X : Int32} {σ : eMem}
theorem on_364 {q : Int64} (h : WS C I J G L (f_X12_piles 122 q (I, J))) : WS C I J G L (f_X12_stepsOn_364 122 q (I, J)) := by
  unfold f_X12_stepsOn_364
  simp only [eLt, Option.bind_some, ↓reduceIte, K_122, R_122_33, R_122_34, R_122_35, R_122_36, K_154, K_155, K_156, K_157, true_and, and_true, eB, decide_true, decide_false, Bool.or_true, Bool.true_or, not_true_eq_false, not_false_eq_true]
  exact WS_ret h
/-- a fence or an addition, the buffer empty -/
theorem on_fe (hm : m < 2) (h : PgR I P) (R : RlA P m x S) (hB : gBd P S r) (ht : t < 3) (hi : dF x t < P.1 t) (hx : Nx x t x1) (hk : P.2.1 (4 * t + dF x t) = 2 ∨ P.2.1 (4 * t + dF x t) = 3) (ho : m = 1 → oF x t = nS P t (dF x t)) (hw : Wl I J G L) (hL : L.length < 250) :
    ∃ C, ChN P m x t C ∧ WS C I J G L (f_X12_stepsOn_152 122 x (Int32.ofNat t) (if m = 1 then 1 else 0) (Int32.ofNat (4 * t + dF x t)) x1 1 (I, J)) := by
  obtain ⟨hu, hx12, e1, e2⟩ := used_at4 h.1 ht hi
  obtain ⟨w1, w2, w3⟩ := h.1.2.2 _ hu
  obtain ⟨p1, p2, p3⟩ := h.2.2 _ hu
  have p18 : f_X12_part x (Int32.ofNat (18 + 4 * P.2.2.1 (4 * t + dF x t))) 4 (I, J) = some (Int32.ofNat (vF x (P.2.2.1 (4 * t + dF x t))), (I, J)) := rp_part (m := 4) (by decide) (by omega) (by omega)
  rcases hk with hk | hk
  · have hR : ¬ gR P (4 * t + dF x t) = true := by
      unfold gR
      rw [hk]
      simp
    have hc : ∀ S r, RlA P m x S → gBd P S r → RlA P m x1 (gEf P S (4 * t + dF x t)) := fun S r R hB =>
      RlA_b h.1 R ht hi (fun _ => by omega) hx.1 hx.2.1 (fun q hq => by
        rw [hx.2.2.1 q hq]
        unfold gCo
        rw [if_neg (by omega), if_neg (by omega)]) rfl (fun k hk => by
        rw [hx.2.2.2 k hk, if_neg (fun g => hR g.1)])
    refine ⟨[x1], ChN_b h.1 R ht hi (by omega) (fun g => Or.inr (ho g)) hx.1 hx.2.1 hc, ?_⟩
    have key := on_364 (rp_piles hw hL (RlA_ne h.1 (hc S r R hB)))
    have e3 : Int32.ofNat (P.2.1 (4 * t + dF x t)) = 2 := by rw [hk]; rfl
    unfold f_X12_stepsOn_152
    simp only [eLt, Option.bind_some, ↓reduceIte, K_122, R_122_33, R_122_34, R_122_35, R_122_36, K_154, K_155, K_156, K_157, true_and, and_true, eB, decide_true, decide_false, Bool.or_true, Bool.true_or, not_true_eq_false, not_false_eq_true, x_tn hx12, x_ix hx12, p1, p2, e3, f18, p18, show ¬ (2 : Int32) = 0 by decide, show ¬ (2 : Int32) = 1 by decide, show ¬ (2 : Int32) = 3 by decide, show ¬ (1 : Int32) = 0 by decide]
    exact key
  · have hR : gR P (4 * t + dF x t) = true := by
      unfold gR
      rw [hu, hk]
      rfl
    have hl := gNr_lt hR
    have hl6 := gAll_le h.1
    obtain ⟨r', er, _⟩ := gBd_s h.1 hB (ok_d h.1 R ht hi (fun g => Or.inr (ho g)))
    have hv15 : vF x (P.2.2.1 (4 * t + dF x t)) < 15 := by
      have h1 := R.2.2.2.2.1 _ w2
      have h2 := hB.2.1 _ w2
      omega
    obtain ⟨x2, a1, a2, a3⟩ := rp_put (f := 18 + 4 * P.2.2.1 (4 * t + dF x t)) (m := 4) (n := vF x (P.2.2.1 (4 * t + dF x t)) + 1) x1 (by decide) (by omega) (by omega) (by omega)
    obtain ⟨b1, b2, b3, b4⟩ := V_put w2 a2 a3
    obtain ⟨x3, c1, c2, c3⟩ := rp_put (f := 30 + 4 * gNr P (4 * t + dF x t)) (m := 4) (n := min (vF x (P.2.2.1 (4 * t + dF x t))) 9) x2 (by decide) (by omega) (by omega) (by omega)
    obtain ⟨d1, d2, d3, d4⟩ := G_put (by omega) c2 c3
    have hc : ∀ S r, RlA P m x S → gBd P S r → RlA P m x3 (gEf P S (4 * t + dF x t)) := fun S' r R' hB =>
      RlA_b (w := min (vF x (P.2.2.1 (4 * t + dF x t))) 9) h.1 R' ht hi (fun _ => by omega) (fun u hu => (d1 u hu).trans ((b1 u hu).trans (hx.1 u hu))) (fun u hu => (d2 u hu).trans ((b2 u hu).trans (hx.2.1 u hu))) (fun q hq => by
        rw [d3 q hq, b3 q hq]
        unfold gCo
        rw [if_neg (show ¬ P.2.1 (4 * t + dF x t) = 0 by omega), if_pos hk]
        unfold gUp
        simp only [hx.2.2.1 q hq]) (by rw [see_e h.1 R' ht hi ho]) (fun k hk => by
        rw [d4 k hk, b4 k hk, hx.2.2.2 k hk]
        by_cases c : k = gNr P (4 * t + dF x t)
        · rw [if_pos c, if_pos ⟨hR, c⟩]
        · rw [if_neg c, if_neg (fun g => c g.2)])
    refine ⟨[x3], ChN_b h.1 R ht hi (by omega) (fun g => Or.inr (ho g)) (fun u hu => (d1 u hu).trans ((b1 u hu).trans (hx.1 u hu))) (fun u hu => (d2 u hu).trans ((b2 u hu).trans (hx.2.1 u hu))) hc, ?_⟩
    have key := on_364 (rp_piles hw hL (RlA_ne h.1 (hc S r R hB)))
    have a1' := a1 (I, J)
    have c1' := c1 (I, J)
    have e3 : Int32.ofNat (P.2.1 (4 * t + dF x t)) = 3 := by rw [hk]; rfl
    have e9 : (Int32.ofNat (vF x (P.2.2.1 (4 * t + dF x t))) ≤ 9) = (vF x (P.2.2.1 (4 * t + dF x t)) ≤ 9) := i_le (m := 9) (by omega) (by decide)
    have e10 : Int32.ofNat (vF x (P.2.2.1 (4 * t + dF x t))) + 1 = Int32.ofNat (vF x (P.2.2.1 (4 * t + dF x t)) + 1) := i_ad (m := 1)
    have a1'' : f_X12_put x1 (Int32.ofNat (18 + 4 * P.2.2.1 (4 * t + dF x t))) 4 (Int32.ofNat (vF x (P.2.2.1 (4 * t + dF x t)) + 1)) (I, J) = some (x2, (I, J)) := a1'
    have last : ∀ q : Int32, q = Int32.ofNat (min (vF x (P.2.2.1 (4 * t + dF x t))) 9) → WS [x3] I J G L (f_X12_stepsOn_359 122 x2 (Int32.ofNat (30 + 4 * gNr P (4 * t + dF x t))) 4 q (I, J)) := by
      intro q hq
      subst hq
      unfold f_X12_stepsOn_359
      rw [show (4 : Int32) = Int32.ofNat 4 from rfl, c1', Option.bind_some]
      exact key
    unfold f_X12_stepsOn_152
    simp only [eLt, Option.bind_some, ↓reduceIte, K_122, R_122_33, R_122_34, R_122_35, R_122_36, K_154, K_155, K_156, K_157, true_and, and_true, eB, decide_true, decide_false, Bool.or_true, Bool.true_or, not_true_eq_false, not_false_eq_true, x_tn hx12, x_ix hx12, p1, p2, e3, f18, p18, e10, a1'', rp_res hx12 h, e9, f30, show ¬ (3 : Int32) = 0 by decide, show ¬ (3 : Int32) = 1 by decide, show ¬ (1 : Int32) = 0 by decide]
    by_cases c : vF x (P.2.2.1 (4 * t + dF x t)) ≤ 9
    · rw [if_pos c]
      exact last _ (by rw [Nat.min_eq_left c])
    · rw [if_neg c]
      exact last _ (by rw [Nat.min_eq_right (by omega)]; rfl)
/-- a fence or an addition that must wait -/
theorem on_no (h : PgR I P) (ht : t < 3) (hi : dF x t < P.1 t) (hk : ¬ P.2.1 (4 * t + dF x t) = 0 ∧ ¬ P.2.1 (4 * t + dF x t) = 1) (hm : m = 1) (ho : ¬ oF x t = nS P t (dF x t)) (hw : Wl I J G L) :
    ∃ C, ChN P m x t C ∧ WS C I J G L (f_X12_stepsOn_152 122 x (Int32.ofNat t) (if m = 1 then 1 else 0) (Int32.ofNat (4 * t + dF x t)) x1 0 (I, J)) := by
  obtain ⟨hu, hx12, e1, e2⟩ := used_at4 h.1 ht hi
  obtain ⟨w1, w2, w3⟩ := h.1.2.2 _ hu
  obtain ⟨p1, p2, p3⟩ := h.2.2 _ hu
  refine ⟨[], ChN_n (fun _ => ⟨hm, hk.1, hk.2, ho⟩), ?_⟩
  have d0 : (Int32.ofNat (P.2.1 (4 * t + dF x t)) = 0) = (P.2.1 (4 * t + dF x t) = 0) := i_eq (m := 0) (by omega) (by decide)
  have d1 : (Int32.ofNat (P.2.1 (4 * t + dF x t)) = 1) = (P.2.1 (4 * t + dF x t) = 1) := i_eq (m := 1) (by omega) (by decide)
  unfold f_X12_stepsOn_152 f_X12_stepsOn_370
  simp only [eLt, Option.bind_some, ↓reduceIte, K_122, R_122_33, R_122_34, R_122_35, R_122_36, K_154, K_155, K_156, K_157, true_and, and_true, eB, decide_true, decide_false, Bool.or_true, Bool.true_or, not_true_eq_false, not_false_eq_true, x_tn hx12, x_ix hx12, p1, d0, d1, hk.1, hk.2]
  exact WS_nil hw
theorem rp_on1 (hm : m < 2) (h : PgR I P) (R : RlA P m x S) (hB : gBd P S r) (ht : t < 3) (hw : Wl I J G L) (hL : L.length < 250) :
    ∃ C, ChN P m x t C ∧ WS C I J G L (f_X12_stepsOn_101 122 x (Int32.ofNat t) (if m = 1 then 1 else 0) (Int32.ofNat (dF x t)) (Int32.ofNat (oF x t)) (Int32.ofNat (nS P t (dF x t))) (I, J)) := by
  have hd := R.1 t ht
  have h4 := h.1.1 t ht
  have ho8 : oF x t < 8 := lgM_lt
  have hns := nS_le (P := P) (t := t) (dF x t)
  have q1 : (Int32.ofNat (dF x t) = Int32.ofNat (P.1 t)) = (dF x t = P.1 t) := i_eq (by omega) (by omega)
  have q2 : (Int32.ofNat (oF x t) = Int32.ofNat (nS P t (dF x t))) = (oF x t = nS P t (dF x t)) := i_eq (by omega) (by omega)
  by_cases c : dF x t = P.1 t
  · refine ⟨[], ChN_n (fun g => by omega), ?_⟩
    unfold f_X12_stepsOn_101
    simp only [eLt, Option.bind_some, ↓reduceIte, K_122, R_122_33, R_122_34, R_122_35, R_122_36, K_154, K_155, K_156, K_157, true_and, and_true, eB, decide_true, decide_false, Bool.or_true, Bool.true_or, not_true_eq_false, not_false_eq_true, t_tn ht, t_ix ht, h.2.1 t ht, q1, c]
    exact WS_nil hw
  · have hi : dF x t < P.1 t := by omega
    obtain ⟨x1, a1, a2, a3⟩ := rp_put (f := 3 * t) (m := 3) (n := dF x t + 1) x (by decide) (by omega) (by omega) (by omega)
    have hx := Nx_put ht a2 a3
    have a1' : f_X12_put x (Int32.ofNat (3 * t)) 3 (Int32.ofNat (dF x t + 1)) (I, J) = some (x1, (I, J)) := a1 (I, J)
    have e1 : Int32.ofNat (dF x t) + 1 = Int32.ofNat (dF x t + 1) := i_ad (m := 1)
    have ea : Int32.ofNat (4 * t) + Int32.ofNat (dF x t) = Int32.ofNat (4 * t + dF x t) := i_ad
    obtain ⟨hu, hx12, _, _⟩ := used_at4 h.1 ht hi
    obtain ⟨w1, w2, w3⟩ := h.1.2.2 _ hu
    have yes : (m = 1 → oF x t = nS P t (dF x t)) → ∃ C, ChN P m x t C ∧ WS C I J G L (f_X12_stepsOn_147 122 x (Int32.ofNat t) (if m = 1 then 1 else 0) (Int32.ofNat (4 * t + dF x t)) x1 (I, J)) := by
      intro ho
      unfold f_X12_stepsOn_147
      have : P.2.1 (4 * t + dF x t) = 0 ∨ P.2.1 (4 * t + dF x t) = 1 ∨ P.2.1 (4 * t + dF x t) = 2 ∨ P.2.1 (4 * t + dF x t) = 3 := by omega
      rcases this with k | k | k | k
      · exact on_st hm h R hB ht hi hx k hw hL 1
      · exact on_ld hm h R hB ht hi hx k hw hL 1
      · exact on_fe hm h R hB ht hi hx (Or.inl k) ho hw hL
      · exact on_fe hm h R hB ht hi hx (Or.inr k) ho hw hL
    unfold f_X12_stepsOn_101
    simp only [eLt, Option.bind_some, ↓reduceIte, K_122, R_122_33, R_122_34, R_122_35, R_122_36, K_154, K_155, K_156, K_157, true_and, and_true, eB, decide_true, decide_false, Bool.or_true, Bool.true_or, not_true_eq_false, not_false_eq_true, t_tn ht, t_ix ht, h.2.1 t ht, q1, c, f3, e1, a1', t4', ea, q2]
    by_cases c1 : m = 1
    · by_cases c2 : oF x t = nS P t (dF x t)
      · rw [if_neg (show ¬ (if m = 1 then (1 : Int32) else 0) = 0 by rw [if_pos c1]; decide), if_neg (fun g => g c2)]
        exact yes (fun _ => c2)
      · rw [if_neg (show ¬ (if m = 1 then (1 : Int32) else 0) = 0 by rw [if_pos c1]; decide), if_pos c2]
        by_cases k0 : P.2.1 (4 * t + dF x t) = 0
        · exact on_st hm h R hB ht hi hx k0 hw hL 0
        · by_cases k1 : P.2.1 (4 * t + dF x t) = 1
          · exact on_ld hm h R hB ht hi hx k1 hw hL 0
          · exact on_no h ht hi ⟨k0, k1⟩ c1 c2 hw
    · rw [if_pos (show (if m = 1 then (1 : Int32) else 0) = 0 by rw [if_neg c1])]
      exact yes (fun g => absurd g c1)
/-- all that a thread can do -/
def ChO (P : aP) (m : Nat) (x : Int64) (t : Nat) (C : List Int64) : Prop := C.length ≤ 2 ∧ ChA P m x C ∧ ∀ S r y, RlA P m x S → gBd P S r → gOk P m S.1 y → y / 4 = t → ∃ c, c ∈ C ∧ (RlA P m c S ∨ RlA P m c (gEf P S y))
theorem ChO_i (hW : gWf P) {C0 : List Int64} (h0 : C0.length ≤ 1) (hA : ChA P m x C0) (hO : ∀ j, m = 1 → sAt P t (oF x t) (dF x t) = some j → ∀ S r, RlA P m x S → gBd P S r → ∃ c, c ∈ C0 ∧ RlA P m c (gEf P S (4 * t + j))) (h1 : ChN P m x t C) : ChO P m x t (C0 ++ C) := by
  obtain ⟨n1, n2, n3⟩ := h1
  refine ⟨by rw [List.length_append]; omega, ⟨fun c hc => ?_, fun c hc => ?_⟩, fun S r y R hB hk hy => ?_⟩
  · rcases List.mem_append.1 hc with q | q
    · exact hA.1 c q
    · exact n2.1 c q
  · rcases List.mem_append.1 hc with q | q
    · exact hA.2 c q
    · exact n2.2 c q
  · rcases ok_inv hW R hk with ⟨a1, a2, a3⟩ | ⟨a1, a2, a3⟩ | ⟨a1, a2⟩
    · rw [hy] at a1 a2 a3
      obtain ⟨c, c1, c2⟩ := (n3 S r R hB a2).2 (fun g => (a3 g.1).1 (by rw [a1]; exact g.2)) (fun g => by rw [← a1]; exact (a3 g).2)
      rw [← a1] at c2
      exact ⟨c, List.mem_append.2 (Or.inr c1), Or.inr c2⟩
    · rw [hy] at a2 a3
      obtain ⟨c, c1, c2⟩ := (n3 S r R hB a2).1 ⟨a1, a3⟩
      exact ⟨c, List.mem_append.2 (Or.inr c1), Or.inl c2⟩
    · rw [hy] at a2
      obtain ⟨c, c1, c2⟩ := hO _ a1 a2 S r R hB
      have e : 4 * t + y % 4 = y := by omega
      rw [e] at c2
      exact ⟨c, List.mem_append.2 (Or.inl c1), Or.inr c2⟩
theorem rp_on (hm : m < 2) (h : PgR I P) (R : RlA P m x S) (hB : gBd P S r) (ht : t < 3) (hw : Wl I J G L) (hL : L.length < 249) :
    ∃ C, ChO P m x t C ∧ WS C I J G L (f_X12_stepsOn 122 x (Int32.ofNat t) (if m = 1 then 1 else 0) (I, J)) := by
  have hd := R.1 t ht
  have h4 := h.1.1 t ht
  have ho8 : oF x t < 8 := lgM_lt
  have hns := nS_le (P := P) (t := t) (dF x t)
  have p2 : f_X12_part x (Int32.ofNat (3 * t)) 3 (I, J) = some (Int32.ofNat (dF x t), (I, J)) := rp_part (m := 3) (by decide) (by omega) (by omega)
  have p3 : f_X12_part x (Int32.ofNat (9 + 3 * t)) 3 (I, J) = some (Int32.ofNat (oF x t), (I, J)) := rp_part (m := 3) (by decide) (by omega) (by omega)
  have hst := rp_stores (J := J) h ht hd
  have q2 : (Int32.ofNat (nS P t (dF x t)) ≤ Int32.ofNat (oF x t)) = (nS P t (dF x t) ≤ oF x t) := i_le (by omega) (by omega)
  have only : (m = 1 → nS P t (dF x t) ≤ oF x t) → ∃ C, ChO P m x t C ∧ WS C I J G L (f_X12_stepsOn_101 122 x (Int32.ofNat t) (if m = 1 then 1 else 0) (Int32.ofNat (dF x t)) (Int32.ofNat (oF x t)) (Int32.ofNat (nS P t (dF x t))) (I, J)) := by
    intro g
    obtain ⟨C, c1, c2⟩ := rp_on1 hm h R hB ht hw (by omega)
    refine ⟨C, ?_, c2⟩
    have := ChO_i (C0 := []) h.1 (Nat.zero_le _) ⟨fun c hc => (by cases hc), fun c hc => (by cases hc)⟩ (fun j g1 g2 => by
      obtain ⟨j1, j2, j3⟩ := sAt_some _ g2
      have := nS_lt j2 j1
      have := g g1
      omega) c1
    exact this
  have k10 : (KH 122).1 = 10 := rfl
  unfold f_X12_stepsOn
  rw [f9, f3, p2, Option.bind_some, p3, Option.bind_some, if_pos k10, hst, Option.bind_some]
  dsimp only
  by_cases c1 : m = 1
  · rw [if_neg (show ¬ (if m = 1 then (1 : Int32) else 0) = 0 by rw [if_pos c1]; decide)]
    by_cases c2 : nS P t (dF x t) ≤ oF x t
    · rw [if_pos (show Int32.ofNat (nS P t (dF x t)) ≤ Int32.ofNat (oF x t) by rw [q2]; exact c2)]
      exact only (fun _ => c2)
    · rw [if_neg (show ¬ Int32.ofNat (nS P t (dF x t)) ≤ Int32.ofNat (oF x t) by rw [q2]; exact c2)]
      obtain ⟨j, hj⟩ := sAt_ex (P := P) (t := t) (w := oF x t) (dF x t) (by omega)
      obtain ⟨j1, j2, j3⟩ := sAt_some _ hj
      obtain ⟨hu, hx12, _, _⟩ := used_at4 h.1 ht (show j < P.1 t by omega)
      obtain ⟨w1, w2, w3⟩ := h.1.2.2 _ hu
      obtain ⟨s1, s2, s3⟩ := h.2.2 _ hu
      have w3' := w3 j2
      have hsa := rp_storeAt (J := J) h ht hd (show oF x t < 16 by omega)
      rw [hj] at hsa
      have hsa' : f_X12_storeAt 122 (Int32.ofNat t) (Int32.ofNat (dF x t)) (Int32.ofNat (oF x t)) (I, J) = some (Int32.ofNat (4 * t + j), (I, J)) := hsa
      obtain ⟨x2, a1, a2, a3⟩ := rp_put (f := 18 + 4 * P.2.2.1 (4 * t + j)) (m := 4) (n := P.2.2.2 (4 * t + j)) x (by decide) (by omega) (by omega) (by omega)
      obtain ⟨b1, b2, b3, b4⟩ := V_put w2 a2 a3
      obtain ⟨x3, d1, d2, d3⟩ := rp_put (f := 9 + 3 * t) (m := 3) (n := oF x t + 1) x2 (by decide) (by omega) (by omega) (by omega)
      have a1' : f_X12_put x (Int32.ofNat (18 + 4 * P.2.2.1 (4 * t + j))) 4 (Int32.ofNat (P.2.2.2 (4 * t + j))) (I, J) = some (x2, (I, J)) := a1 (I, J)
      have d1' : f_X12_put x2 (Int32.ofNat (9 + 3 * t)) 3 (Int32.ofNat (oF x t + 1)) (I, J) = some (x3, (I, J)) := d1 (I, J)
      have g1 : ∀ u, u < 3 → dF x3 u = dF x u := fun u hu => (d3 _ _ (by omega) (by omega)).trans (b1 u hu)
      have g2 : ∀ u, u < 3 → oF x3 u = if u = t then oF x t + 1 else oF x u := fun u hu => by
        by_cases c : u = t
        · rw [if_pos c, c]
          exact d2
        · rw [if_neg c]
          exact (d3 _ _ (by omega) (by omega)).trans (b2 u hu)
      have g3 : ∀ q, q < 3 → vF x3 q = gCo P (vF x) (4 * t + j) q := fun q hq => by
        unfold gCo
        rw [if_pos j2]
        exact (d3 _ _ (by omega) (by omega)).trans (b3 q hq)
      have g4 : ∀ k, k < 7 → gF4 x3 k = gF4 x k := fun k hk => (d3 _ _ (by omega) (by omega)).trans (b4 k hk)
      have hc : ∀ S, RlA P m x S → RlA P m x3 (gEf P S (4 * t + j)) ∧ rkA P x3 + 1 ≤ rkA P x := fun S R => by
        subst c1
        exact RlA_o h.1 R ht hj g1 g2 g3 g4
      have e1 : Int32.ofNat (oF x t) + 1 = Int32.ofNat (oF x t + 1) := i_ad (m := 1)
      have hp := rp_piles (I := I) (J := J) (G := G) hw (show L.length < 250 by omega) (RlA_ne h.1 (hc S R).1)
      have k35 : (KH (RH 122 35)).1 = 11 ∧ eix (Int32.ofNat (4 * t + j)) (KH (RH 122 35)).2 = true := ⟨rfl, x_ix hx12⟩
      have k36 : (KH (RH 122 36)).1 = 11 ∧ eix (Int32.ofNat (4 * t + j)) (KH (RH 122 36)).2 = true := ⟨rfl, x_ix hx12⟩
      have v35 : I (RH 122 35) (Int32.ofNat (4 * t + j)).toNatClampNeg = Int32.ofNat (P.2.2.1 (4 * t + j)) := by
        rw [x_tn hx12]
        exact s2
      have v36 : I (RH 122 36) (Int32.ofNat (4 * t + j)).toNatClampNeg = Int32.ofNat (P.2.2.2 (4 * t + j)) := by
        rw [x_tn hx12]
        exact s3 j2
      rw [if_pos k10, hsa', Option.bind_some]
      dsimp only
      rw [if_pos k10, if_pos k35, if_pos k10, if_pos k36, v35, v36, f18, a1', Option.bind_some]
      dsimp only
      rw [e1, d1', Option.bind_some]
      dsimp only
      rw [if_pos k10]
      obtain ⟨I1, J1, D1, i1, i2, i3, i4, i6, i5⟩ := hp
      have h' : PgR I1 P := PgR_fr h (fun r h1 h2 => i5.1 r (by omega))
      obtain ⟨C, n1, n2⟩ := rp_on1 hm h' R hB ht i2 (by
        rw [List.length_append]
        have : D1.length ≤ 1 := i3
        omega)
      refine ⟨[x3] ++ C, ChO_i h.1 (Nat.le_refl _) ⟨fun c hcc => ?_, fun c hcc S r R hB => ?_⟩ (fun j' g1 g2 S r R hB => ?_) n1, ?_⟩
      · rw [List.mem_singleton.1 hcc]
        exact (hc S R).2
      · rw [List.mem_singleton.1 hcc]
        refine Or.inr ⟨_, ?_, (hc S R).1⟩
        subst c1
        exact ok_o h.1 R ht hj
      · rw [hj] at g2
        cases g2
        exact ⟨x3, List.mem_cons_self, (hc S R).1⟩
      · rw [i1, Option.bind_some]
        dsimp only
        obtain ⟨I2, J2, D2, k1, k2, k3, k4, k6, k5⟩ := n2
        refine ⟨I2, J2, D1 ++ D2, k1, ?_, ?_, fun d hd => ?_, fun d hd => ?_, FrP_tr i5 k5⟩
        · rw [← List.append_assoc]
          refine Wl_w k2 (fun q hq => ?_)
          rw [List.mem_append]
          rcases hq with (a | a) | a
          · exact Or.inl a
          · exact Or.inr (Or.inl a)
          · exact Or.inr (Or.inr a)
        · rw [List.length_append, List.length_append]
          omega
        · rw [List.mem_append] at hd ⊢
          rcases hd with a | a
          · exact Or.inl (i4 d a)
          · exact Or.inr (k4 d a)
        · rw [List.mem_append] at hd ⊢
          have hh : ∀ d, d ∈ [x3] → G d ∨ d ∈ D1 ∨ d ∈ D2 := fun d a => (i6 d a).imp id Or.inl
          rcases hd with a | a
          · exact hh d a
          · rcases k6 d a with (b | b) | b
            · exact Or.inl b
            · exact hh d b
            · exact Or.inr (Or.inr b)
  · rw [if_pos (show (if m = 1 then (1 : Int32) else 0) = 0 by rw [if_neg c1])]
    exact only (fun g => absurd g c1)
end EPT
