/-! the class's orders, counted -/
section EPZ
variable {P : aP} {I I' I0 : Nat → Nat → Int32} {J J0 : Nat → Nat → Int64} {m r x y k n p t s N v w i j : Nat} {S : aT} {l L M : List Nat} {st : Int32}
theorem co_fin (N : Nat) (a c : Int32) : f_X5_countOutcomes_L19 (N + 1) (.inl (68, 58, a, st, 0, c)) (I, J) = some (I 72 1, (I, J)) := by
  rw [f_X5_countOutcomes_L19]
  unfold f_X5_countOutcomes_68
  simp only [eLt, Option.bind_some, ↓reduceIte, K_58, K_68, R_68_0, R_68_1, R_68_2, R_68_3, K_72, R_72_0, K_73, true_and, and_true, eB, decide_true, decide_false, Bool.or_true, Bool.true_or, not_true_eq_false, not_false_eq_true]
  split <;> rfl
theorem co_run0 (h : gWf P) (hp : L.Perm (gUl P)) (ha : L.Pairwise (gAl P m)) : gRun P m gS0 L :=
  (gRun_pw L gS0 (hp.nodup_iff.2 gUl_nd) (fun x hx => gUl_mem.1 (hp.mem_iff.1 hx)) (fun y hy => ⟨fun _ => hp.mem_iff.2 (gUl_mem.2 hy), fun _ => rfl⟩)).2 ha
/-- one order: its outcome is put in if it is allowed -/
theorem co_one (hm : m < 2) (hp : L.Perm (gUl P)) (hO : OdOk I L) (hP : PgC I P) (hl : Lst I 73 72 1 l) (hs : gSo l) (hF : ∀ y, y ∈ l → gFi P m y) (N : Nat) (c : Int32) (hc : ¬ (720 : Int32) ≤ c) :
    ∃ I' l', f_X5_countOutcomes_L19 (N + 1) (.inl (68, 58, Int32.ofNat m, Int32.ofNat L.length, 1, c)) (I, J) = f_X5_countOutcomes_L19 N (.inr (68, 58, Int32.ofNat m, Int32.ofNat L.length, c)) (I', J) ∧
      Lst I' 73 72 1 l' ∧ gSo l' ∧ (∀ y, y ∈ l' ↔ y ∈ l ∨ (L.Pairwise (gAl P m) ∧ gTl P gS0 L = y)) ∧ ∀ r, r < 70 ∨ 73 < r → I' r = I r := by
  have hlen : L.length = gTo P := by rw [hp.length_eq, gUl_len hP.1]
  have h6 : L.length ≤ 6 := by
    have := hP.1.2.1
    omega
  have hU : OdU P L := fun x hx => gUl_mem.1 (hp.mem_iff.1 hx)
  have n10 : ¬ (1 : Int32) = 0 := by decide
  have hall := co_allowed (J := J) hm h6 hU hO hP
  rw [f_X5_countOutcomes_L19]
  simp only [hc, n10, eLt, Option.bind_some, ↓reduceIte, K_58, K_68, R_68_0, R_68_1, R_68_2, R_68_3, K_72, R_72_0, K_73, true_and, and_true, eB, decide_true, decide_false, Bool.or_true, Bool.true_or, not_true_eq_false, not_false_eq_true]
  by_cases q : L.Pairwise (gAl P m)
  · have hrun := co_run0 hP.1 hp q
    obtain ⟨I1, b1, b2⟩ := co_outc (J := J) h6 hU hO hP (by rw [hlen]; exact gBd_0 hP.1) hrun
    have hk : gFi P m (gTl P gS0 L) := (gFi_ord hP.1).2 ⟨L, (oP_mem _ _ L (gUl_len hP.1)).2 hp, q, rfl⟩
    have hl1 : Lst I1 73 72 1 l := by
      unfold Lst
      rw [b2 73 (by decide) (by decide), b2 72 (by decide) (by decide)]
      exact hl
    obtain ⟨I2, l2, c1, c2, c3, c4, c5, c6⟩ := ci_incl (J := J) K_72 R_72_0 K_73 (by decide) hl1 hs (show gTl P gS0 L < 2147483648 by have := gFi_le hP.1 hk; omega) (fun y hy => by have := gFi_le hP.1 (hF y hy); omega) (gLi_len hP.1 hs hF) (fun g => gLi_lt hP.1 hs hF hk g)
    refine ⟨I2, l2, ?_, c2, c3, fun y => ?_, fun r hr => by rw [c6 r (by omega) (by omega), b2 r (by omega) (by omega)]⟩
    · have c1' : f_X6_include 72 (Int32.ofNat (gTl P gS0 L)) (I1, J) = some ((), (I2, J)) := by
        unfold f_X6_include
        exact c1
      simp only [hall.1 q, eLt, Option.bind_some, ↓reduceIte, K_58, K_68, R_68_0, R_68_1, R_68_2, R_68_3, K_72, R_72_0, K_73, true_and, and_true, eB, decide_true, decide_false, Bool.or_true, Bool.true_or, not_true_eq_false, not_false_eq_true, n10, b1, c1']
    · rw [c4 y]
      constructor
      · rintro (g | g)
        · exact Or.inl g
        · exact Or.inr ⟨q, g.symm⟩
      · rintro (g | g)
        · exact Or.inl g
        · exact Or.inr g.2.symm
  · refine ⟨I, l, ?_, hl, hs, fun y => ⟨Or.inl, fun g => g.elim id (fun g => absurd g.1 q)⟩, fun _ _ => rfl⟩
    simp only [hall.2 q, eLt, Option.bind_some, ↓reduceIte, K_58, K_68, R_68_0, R_68_1, R_68_2, R_68_3, K_72, R_72_0, K_73, true_and, and_true, eB, decide_true, decide_false, Bool.or_true, Bool.true_or, not_true_eq_false, not_false_eq_true]
theorem co_cnt (hm : m < 2) : ∀ (R : List (List Nat)) (L : List Nat) c N (I : Nat → Nat → Int32) l, oCk (L :: R) = true → c + (R.length + 1) ≤ 720 → 2 * (R.length + 1) + 1 ≤ N → (∀ L', L' ∈ L :: R → L'.Perm (gUl P)) → OdOk I L → PgC I P → Lst I 73 72 1 l → gSo l → (∀ y, y ∈ l → gFi P m y) →
    ∃ I' l', f_X5_countOutcomes_L19 N (.inl (68, 58, Int32.ofNat m, Int32.ofNat (gTo P), 1, Int32.ofNat c)) (I, J) = some (Int32.ofNat l'.length, (I', J)) ∧ gSo l' ∧ (∀ y, y ∈ l' ↔ y ∈ l ∨ ∃ L', L' ∈ L :: R ∧ L'.Pairwise (gAl P m) ∧ gTl P gS0 L' = y) ∧ ∀ r, r < 69 ∨ 73 < r → I' r = I r := by
  intro R
  induction R with
  | nil =>
    intro L c N I l hck hc hN hp hO hP hl hs hF
    obtain ⟨N, rfl⟩ := Nat.exists_eq_add_of_le' hN
    have hp0 := hp L List.mem_cons_self
    have hlen : L.length = gTo P := by rw [hp0.length_eq, gUl_len hP.1]
    have hU : OdU P L := fun x hx => gUl_mem.1 (hp0.mem_iff.1 hx)
    have h6 : L.length ≤ 6 := by
      have := hP.1.2.1
      omega
    have hc' : c + 1 ≤ 720 := hc
    obtain ⟨I1, l1, b1, b2, b3, b4, b5⟩ := co_one (J := J) hm hp0 hO hP hl hs hF (N + 2) (Int32.ofNat c) (by
      rw [show ((720 : Int32) ≤ Int32.ofNat c) = (720 ≤ c) from i_le (n := 720) (by decide) (by omega)]
      omega)
    rw [hlen] at b1
    have hnx : oNx L = none := by
      have : oCk [L] = true := hck
      unfold oCk at this
      exact of_decide_eq_true this
    have hn := (co_next (J := J) (I := I1) h6 (OdU_12 hU) (fun i hi => by rw [b5 69 (by decide)]; exact hO i hi)).1 hnx
    rw [hlen] at hn
    refine ⟨I1, l1, ?_, b3, fun y => ?_, fun r hr => b5 r (by omega)⟩
    · rw [show N + (2 * (([] : List (List Nat)).length + 1) + 1) = N + 2 + 1 from rfl, b1, show N + 2 = N + 1 + 1 from rfl, f_X5_countOutcomes_L19]
      simp only [eLt, Option.bind_some, ↓reduceIte, K_58, K_68, R_68_0, R_68_1, R_68_2, R_68_3, K_72, R_72_0, K_73, true_and, and_true, eB, decide_true, decide_false, Bool.or_true, Bool.true_or, not_true_eq_false, not_false_eq_true, hn]
      rw [co_fin, b2.1]
    · rw [b4 y]
      constructor
      · rintro (g | g)
        · exact Or.inl g
        · exact Or.inr ⟨L, List.mem_cons_self, g⟩
      · rintro (g | ⟨L', g1, g2⟩)
        · exact Or.inl g
        · rw [List.mem_singleton] at g1
          subst g1
          exact Or.inr g2
  | cons M R ih =>
    intro L c N I l hck hc hN hp hO hP hl hs hF
    obtain ⟨N, rfl⟩ := Nat.exists_eq_add_of_le' hN
    have hp0 := hp L List.mem_cons_self
    have hlen : L.length = gTo P := by rw [hp0.length_eq, gUl_len hP.1]
    have hU : OdU P L := fun x hx => gUl_mem.1 (hp0.mem_iff.1 hx)
    have h6 : L.length ≤ 6 := by
      have := hP.1.2.1
      omega
    rw [List.length_cons] at hc
    obtain ⟨I1, l1, b1, b2, b3, b4, b5⟩ := co_one (J := J) hm hp0 hO hP hl hs hF (N + 2 * (R.length + 1) + 2) (Int32.ofNat c) (by
      rw [show ((720 : Int32) ≤ Int32.ofNat c) = (720 ≤ c) from i_le (n := 720) (by decide) (by omega)]
      omega)
    rw [hlen] at b1
    have hnx : oNx L = some M ∧ oCk (M :: R) = true := by
      have : oCk (L :: M :: R) = true := hck
      unfold oCk at this
      rw [Bool.and_eq_true] at this
      exact ⟨of_decide_eq_true this.1, this.2⟩
    have hO1 : OdOk I1 L := fun i hi => by
      rw [b5 69 (by decide)]
      exact hO i hi
    obtain ⟨I2, c1, c2, c3, c4⟩ := (co_next (J := J) (I := I1) h6 (OdU_12 hU) hO1).2 M hnx.1
    rw [hlen] at c1
    have hF1 : ∀ y, y ∈ l1 → gFi P m y := by
      intro y hy
      rcases (b4 y).1 hy with g | g
      · exact hF y g
      · exact (gFi_ord hP.1).2 ⟨L, (oP_mem _ _ L (gUl_len hP.1)).2 hp0, g⟩
    obtain ⟨I3, l3, d1, d2, d3, d4⟩ := ih M (c + 1) (N + 2 * (R.length + 1) + 1) I2 l1 hnx.2 (by omega) (by omega) (fun L' hL' => hp L' (List.mem_cons_of_mem _ hL')) c2
      (PgC_fr hP (fun r h1 h2 => by rw [c4 r (by omega), b5 r (by omega)])) (by
        unfold Lst
        rw [c4 73 (by decide), c4 72 (by decide)]
        exact b2) b3 hF1
    refine ⟨I3, l3, ?_, d2, fun y => ?_, fun r hr => by rw [d4 r hr, c4 r (by omega), b5 r (by omega)]⟩
    · have e1 : Int32.ofNat c + 1 = Int32.ofNat (c + 1) := i_ad (m := 1)
      rw [List.length_cons, show N + (2 * (R.length + 1 + 1) + 1) = N + 2 * (R.length + 1) + 2 + 1 by omega, b1, show N + 2 * (R.length + 1) + 2 = N + 2 * (R.length + 1) + 1 + 1 by omega, f_X5_countOutcomes_L19]
      simp only [eLt, Option.bind_some, ↓reduceIte, K_58, K_68, R_68_0, R_68_1, R_68_2, R_68_3, K_72, R_72_0, K_73, true_and, and_true, eB, decide_true, decide_false, Bool.or_true, Bool.true_or, not_true_eq_false, not_false_eq_true, c1, e1]
      exact d1
    · rw [d3 y, b4 y]
      constructor
      · rintro ((g | g) | ⟨L', g1, g2⟩)
        · exact Or.inl g
        · exact Or.inr ⟨L, List.mem_cons_self, g⟩
        · exact Or.inr ⟨L', List.mem_cons_of_mem _ g1, g2⟩
      · rintro (g | ⟨L', g1, g2⟩)
        · exact Or.inl (Or.inl g)
        · rcases List.mem_cons.1 g1 with g3 | g3
          · subst g3
            exact Or.inl (Or.inr g2)
          · exact Or.inr ⟨L', g3, g2⟩
/-- the number of outcomes, found anew -/
theorem co_anew (hm : m < 2) (hP : PgC I P) : ∃ I' l, f_X5_countOutcomes 68 58 (Int32.ofNat m) (I, J) = some (Int32.ofNat l.length, (I', J)) ∧ gLi P m l ∧ ∀ r, r < 69 ∨ 73 < r → I' r = I r := by
  have h12 := gUl_len hP.1
  obtain ⟨R, hR⟩ := o_hd (gTo P) (gUl P) h12
  have hck := o_ck hP.1
  rw [hR, List.length_cons] at hck
  have hI1 : ∀ r, ¬ r = 72 → eup (eup I 72 1 0) 72 2 0 r = I r := fun r hr => by rw [up_fr hr, up_fr hr]
  have hP1 : PgC (eup (eup I 72 1 0) 72 2 0) P := PgC_fr hP (fun r h1 h2 => hI1 r (by omega))
  obtain ⟨I2, b1, b2, b3⟩ := co_first (J := J) hP1 12 0 1000000 (eup (eup I 72 1 0) 72 2 0) (by decide) (by decide) (fun _ _ => rfl) (fun i hi => absurd hi (Nat.not_lt_zero i))
  obtain ⟨I3, l3, c1, c2, c3, c4⟩ := co_cnt (J := J) (P := P) hm R (gUl P) 0 1000000 I2 [] hck.1 (by omega) (by omega) (fun L' hL' => (oP_mem _ _ L' h12).1 (by rw [hR]; exact hL')) b2
    (PgC_fr hP1 (fun r h1 h2 => b3 r (by omega))) ⟨by rw [b3 72 (by decide), up_k (by decide), up_eq]; rfl, fun i hi => absurd hi (Nat.not_lt_zero i)⟩ (fun i j _ hj => absurd hj (Nat.not_lt_zero j)) (fun y hy => by cases hy)
  rw [show (gFs P 0).length = 0 from rfl, show Int32.ofNat 0 = (0 : Int32) from rfl] at b1
  rw [show Int32.ofNat 0 = (0 : Int32) from rfl] at c1
  refine ⟨I3, l3, ?_, ⟨c2, fun k => ?_⟩, fun r hr => by rw [c4 r hr, b3 r (by omega), hI1 r (by omega)]⟩
  · have b1' : f_X5_firstOrder 68 58 (eup (eup I 72 1 0) 72 2 0, J) = some (Int32.ofNat (gTo P), (I2, J)) := by
      unfold f_X5_firstOrder
      exact b1
    have f1 : f_X6_forget 72 (I, J) = some ((), (eup (eup I 72 1 0) 72 2 0, J)) := by
      unfold f_X6_forget
      simp only [eLt, Option.bind_some, ↓reduceIte, K_58, K_68, R_68_0, R_68_1, R_68_2, R_68_3, K_72, R_72_0, K_73, true_and, and_true, eB, decide_true, decide_false, Bool.or_true, Bool.true_or, not_true_eq_false, not_false_eq_true]
    unfold f_X5_countOutcomes
    obtain ⟨N, hN⟩ : ∃ N, N = 1000000 := ⟨_, rfl⟩
    rw [← hN] at c1 ⊢
    simp only [eLt, Option.bind_some, ↓reduceIte, K_58, K_68, R_68_0, R_68_1, R_68_2, R_68_3, K_72, R_72_0, K_73, true_and, and_true, eB, decide_true, decide_false, Bool.or_true, Bool.true_or, not_true_eq_false, not_false_eq_true, f1, b1']
    exact c1
  · rw [c3 k, gFi_ord hP.1, hR]
    constructor
    · rintro (g | g)
      · cases g
      · exact g
    · exact Or.inr
end EPZ
