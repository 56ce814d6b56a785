/-! the reference: the pile of states, and those that were on it -/
/-- the pile, and the table of what was piled; G: all that ever was -/
def Wl (I : Nat → Nat → Int32) (J : Nat → Nat → Int64) (G : Int64 → Prop) (L : List Int64) : Prop :=
  I 122 38 = Int32.ofNat L.length ∧ (∀ i, i < L.length → J 158 i = L.getD i 0) ∧
  (∃ c, c ≤ 8000 ∧ I 122 40 = Int32.ofNat c ∧ wN (fun i => decide (¬ J 159 i = 0)) 8192 = c) ∧ ∀ i, i < 8192 → ¬ J 159 i = 0 → ∃ g, G g ∧ J 159 i = g + 1
def FrP (I : Nat → Nat → Int32) (J : Nat → Nat → Int64) (I' : Nat → Nat → Int32) (J' : Nat → Nat → Int64) : Prop :=
  (∀ r, ¬ r = 122 → I' r = I r) ∧ (∀ i, ¬ i = 38 → ¬ i = 40 → I' 122 i = I 122 i) ∧ ∀ r, ¬ r = 158 → ¬ r = 159 → J' r = J r
def WS (C : List Int64) (I : Nat → Nat → Int32) (J : Nat → Nat → Int64) (G : Int64 → Prop) (L : List Int64) (z : Option (Unit × eMem)) : Prop :=
  ∃ I' J' D, z = some ((), (I', J')) ∧ Wl I' J' (fun g => G g ∨ g ∈ C) (L ++ D) ∧ D.length ≤ C.length ∧ (∀ d, d ∈ D → d ∈ C) ∧ (∀ c, c ∈ C → G c ∨ c ∈ D) ∧ FrP I J I' J'
section EPT
variable {P : aP} {I I' I0 : Nat → Nat → Int32} {J J' J0 : Nat → Nat → Int64} {m r y z k n p t s N v w i j : Nat} {x x' : Int64} {L C D : List Int64} {G : Int64 → Prop} {X : Int32} {σ : eMem}
theorem FrP_rfl : FrP I J I J := ⟨fun _ _ => rfl, fun _ _ _ => rfl, fun _ _ _ => rfl⟩
theorem FrP_tr (h : FrP I J I0 J0) (g : FrP I0 J0 I' J') : FrP I J I' J' :=
  ⟨fun r h1 => (g.1 r h1).trans (h.1 r h1), fun i h1 h2 => (g.2.1 i h1 h2).trans (h.2.1 i h1 h2), fun r h1 h2 => (g.2.2 r h1 h2).trans (h.2.2 r h1 h2)⟩
theorem Wl_w {G' : Int64 → Prop} (h : Wl I J G L) (e : ∀ g, G g → G' g) : Wl I J G' L :=
  ⟨h.1, h.2.1, h.2.2.1, fun i h1 h2 => by
    obtain ⟨g, g1, g2⟩ := h.2.2.2 i h1 h2
    exact ⟨g, e g g1, g2⟩⟩
theorem WS_nil (h : Wl I J G L) : WS [] I J G L (some ((), (I, J))) :=
  ⟨I, J, [], rfl, by rw [List.append_nil]; exact Wl_w h (fun g => Or.inl), Nat.le_refl _, fun _ h => h, fun _ h => (by cases h), FrP_rfl⟩
theorem WS_bind {C' : List Int64} {z : Option (Unit × eMem)} {K : eMem → Option (Unit × eMem)} (h : WS C I J G L z)
    (g : ∀ I' J' D, FrP I J I' J' → D.length ≤ C.length → Wl I' J' (fun g => G g ∨ g ∈ C) (L ++ D) → WS C' I' J' (fun g => G g ∨ g ∈ C) (L ++ D) (K (I', J'))) : WS (C ++ C') I J G L (Option.bind z (fun r => K r.2)) := by
  obtain ⟨I1, J1, D1, h1, h2, h3, h4, h6, h5⟩ := h
  obtain ⟨I2, J2, D2, g1, g2, g3, g4, g6, g5⟩ := g I1 J1 D1 h5 h3 h2
  refine ⟨I2, J2, D1 ++ D2, ?_, ?_, ?_, fun d hd => ?_, fun d hd => ?_, FrP_tr h5 g5⟩
  · rw [h1]
    exact g1
  · rw [← List.append_assoc]
    refine Wl_w g2 (fun q hq => ?_)
    rw [List.mem_append]
    rcases hq with (a | a) | a
    · exact Or.inl a
    · exact Or.inr (Or.inl a)
    · exact Or.inr (Or.inr a)
  · rw [List.length_append, List.length_append]
    omega
  · rw [List.mem_append] at hd ⊢
    rcases hd with a | a
    · exact Or.inl (h4 d a)
    · exact Or.inr (g4 d a)
  · rw [List.mem_append] at hd ⊢
    have hh : ∀ d, d ∈ C → G d ∨ d ∈ D1 ∨ d ∈ D2 := fun d a => (h6 d a).imp id Or.inl
    rcases hd with a | a
    · exact hh d a
    · rcases g6 d a with (b | b) | b
      · exact Or.inl b
      · exact hh d b
      · exact Or.inr (Or.inr b)
theorem wN_all : ∀ n, wN (fun _ => true) n = n
  | 0 => rfl
  | n + 1 => by
    unfold wN
    rw [wN_all n, if_pos rfl]
theorem r_8191 (x : Int64) : ∃ k, k < 8192 ∧ (x &&& (8191 : Int64)).toInt32 = Int32.ofNat k := by
  have hl : (x.toBitVec.extractLsb' 0 13).toNat < 8192 := (x.toBitVec.extractLsb' 0 13).isLt
  refine ⟨_, hl, ?_⟩
  apply Int32.toBitVec_inj.1
  show _ = BitVec.ofNat 32 _
  apply BitVec.eq_of_getLsbD_eq
  intro i hi
  have hq : (8191 : Int64).toBitVec = BitVec.ofNat 64 (2 ^ 13 - 1) := rfl
  rw [Int64.toBitVec_toInt32, Int64.toBitVec_and, hq, BitVec.getLsbD_ofNat, decide_eq_true hi, Bool.true_and]
  simp only [BitVec.getLsbD_signExtend, BitVec.getLsbD_and]
  rw [bmask (by omega), decide_eq_true hi, Bool.true_and, if_pos (show i < 64 by omega), BitVec.testBit_toNat, BitVec.getLsbD_extractLsb', Nat.zero_add, Bool.and_comm]
theorem x1_0 (h : ¬ x = -1) : ¬ x + 1 = 0 := by
  intro e
  apply h
  have := congrArg (· + (-1)) e
  simp only [Int64.add_assoc, Int64.zero_add] at this
  rw [show (1 : Int64) + -1 = 0 from rfl, Int64.add_zero] at this
  exact this
theorem x1_inj (h : x + 1 = x' + 1) : x = x' := by
  have := congrArg (· + (-1)) h
  simp only [Int64.add_assoc] at this
  rw [show (1 : Int64) + -1 = 0 from rfl, Int64.add_zero, Int64.add_zero] at this
  exact this
/-- the search in the table ends -/
theorem rp_pi1 : ∀ d N k, k < 8192 → d < N → (J 159 ((k + d) % 8192) = 0 ∨ J 159 ((k + d) % 8192) = x + 1) →
    ∃ j, j < 8192 ∧ (J 159 j = 0 ∨ J 159 j = x + 1) ∧ f_X12_piles_19 N 122 x (Int32.ofNat k) (I, J) = f_X12_piles_54 122 x (Int32.ofNat j) (I, J) := by
  intro d
  induction d with
  | zero =>
    intro N k hk hN hs
    obtain ⟨N, rfl⟩ := Nat.exists_eq_add_of_le' hN
    rw [show (k + 0) % 8192 = k by omega] at hs
    have h1 : (Int32.ofNat k).toNatClampNeg = k := i_tn (by omega)
    have h2 : eix (Int32.ofNat k) 8192 = true := i_ix hk (by decide)
    refine ⟨k, hk, hs, ?_⟩
    rw [f_X12_piles_19]
    simp only [eLt, Option.bind_some, ↓reduceIte, K_122, R_122_37, R_122_39, K_158, K_159, true_and, and_true, eB, decide_true, decide_false, Bool.or_true, Bool.true_or, not_true_eq_false, not_false_eq_true, h1, h2, lg_cmp_eq]
    rcases hs with q | q
    · rw [if_pos q]
    · by_cases c : J 159 k = 0
      · rw [if_pos c]
      · rw [if_neg c, if_pos q]
  | succ d ih =>
    intro N k hk hN hs
    obtain ⟨N, rfl⟩ := Nat.exists_eq_add_of_le' (show 1 ≤ N by omega)
    have h1 : (Int32.ofNat k).toNatClampNeg = k := i_tn (by omega)
    have h2 : eix (Int32.ofNat k) 8192 = true := i_ix hk (by decide)
    by_cases c : J 159 k = 0 ∨ J 159 k = x + 1
    · refine ⟨k, hk, c, ?_⟩
      rw [f_X12_piles_19]
      simp only [eLt, Option.bind_some, ↓reduceIte, K_122, R_122_37, R_122_39, K_158, K_159, true_and, and_true, eB, decide_true, decide_false, Bool.or_true, Bool.true_or, not_true_eq_false, not_false_eq_true, h1, h2, lg_cmp_eq]
      rcases c with q | q
      · rw [if_pos q]
      · by_cases c : J 159 k = 0
        · rw [if_pos c]
        · rw [if_neg c, if_pos q]
    · rw [not_or] at c
      obtain ⟨j, j1, j2, j3⟩ := ih N ((k + 1) % 8192) (by omega) (by omega) (by rw [show ((k + 1) % 8192 + d) % 8192 = (k + (d + 1)) % 8192 by omega]; exact hs)
      refine ⟨j, j1, j2, ?_⟩
      have e1 : (Int32.ofNat k + 1) - (Int32.ofNat k + 1) / 8192 * 8192 = Int32.ofNat ((k + 1) % 8192) := by
        rw [show Int32.ofNat k + 1 = Int32.ofNat (k + 1) from i_ad (m := 1)]
        exact i_md (m := 8192) (by omega) (by decide)
      rw [← j3, f_X12_piles_19]
      simp only [eLt, Option.bind_some, ↓reduceIte, K_122, R_122_37, R_122_39, K_158, K_159, true_and, and_true, eB, decide_true, decide_false, Bool.or_true, Bool.true_or, not_true_eq_false, not_false_eq_true, h1, h2, lg_cmp_eq, c.1, c.2, e1, show ¬ (8192 : Int32) = 0 by decide]
/-- what is piled -/
theorem rp_pi2 {I1 : Nat → Nat → Int32} {J1 : Nat → Nat → Int64} (h1 : Wl I1 J1 G L) (hL : L.length < 250) (hx : G x) : ∃ I' J', f_X12_piles_94 122 x (I1, J1) = some ((), (I', J')) ∧ Wl I' J' G (L ++ [x]) ∧ FrP I1 J1 I' J' := by
  refine ⟨eup I1 122 38 (Int32.ofNat (L.length + 1)), eup J1 158 L.length x, ?_, ⟨?_, fun i hi => ?_, ?_, fun i h2 h3 => ?_⟩, fun r hr => up_fr hr, fun i h2 _ => up_k h2, fun r hr _ => up_fr hr⟩
  · have e1 : (Int32.ofNat L.length).toNatClampNeg = L.length := i_tn (by omega)
    have e2 : eix (Int32.ofNat L.length) 256 = true := i_ix (by omega) (by decide)
    have e3 : Int32.ofNat L.length + 1 = Int32.ofNat (L.length + 1) := i_ad (m := 1)
    unfold f_X12_piles_94 f_X12_piles_114
    simp only [eLt, Option.bind_some, ↓reduceIte, K_122, R_122_37, R_122_39, K_158, K_159, true_and, and_true, eB, decide_true, decide_false, Bool.or_true, Bool.true_or, not_true_eq_false, not_false_eq_true, h1.1, e1, e2, e3]
  · rw [up_eq, List.length_append]
    rfl
  · rw [List.length_append, List.length_singleton] at hi
    by_cases c : i = L.length
    · subst c
      rw [up_eq, List.getD_eq_getElem?_getD, List.getElem?_append_right (Nat.le_refl _), Nat.sub_self]
      rfl
    · rw [up_k c, h1.2.1 i (by omega), List.getD_eq_getElem?_getD, List.getD_eq_getElem?_getD, List.getElem?_append_left (by omega)]
  · obtain ⟨c, c1, c2, c3⟩ := h1.2.2.1
    refine ⟨c, c1, ?_, ?_⟩
    · rw [up_k (by decide)]
      exact c2
    · rw [← c3]
      exact wN_eq _ (fun i _ => by rw [up_r (by decide)])
  · rw [up_r (by decide)] at h3 ⊢
    exact h1.2.2.2 i h2 h3
theorem rp_piles (h : Wl I J G L) (hL : L.length < 250) (hx : ¬ x = -1) : WS [x] I J G L (f_X12_piles 122 x (I, J)) := by
  have hw : Wl I J (fun g => G g ∨ g ∈ [x]) L := Wl_w h (fun g => Or.inl)
  have hxx : (fun g => G g ∨ g ∈ [x]) x := Or.inr List.mem_cons_self
  obtain ⟨c, c1, c2, c3⟩ := h.2.2.1
  have hz : ∃ i, i < 8192 ∧ J 159 i = 0 := by
    apply Classical.byContradiction
    intro q
    have e : wN (fun i => decide (¬ J 159 i = 0)) 8192 = wN (fun _ => true) 8192 := wN_eq 8192 (fun i hi => decide_eq_true (fun g => q ⟨i, hi, g⟩))
    rw [wN_all] at e
    omega
  obtain ⟨i, hi, hi0⟩ := hz
  unfold f_X12_piles
  rw [eLt]
  obtain ⟨k, hk, ek⟩ := r_8191 (((((x ^^^ ((x.toUInt64 >>> ((31 : Int32).toInt64.toUInt64 &&& Int64.toUInt64 63)).toInt64)) * (2654435761 : Int64)).toUInt64 >>> ((20 : Int32).toInt64.toUInt64 &&& Int64.toUInt64 63)).toInt64))
  rw [ek]
  obtain ⟨j, j1, j2, j3⟩ := rp_pi1 (I := I) (J := J) (x := x) ((i + 8192 - k) % 8192) 1000000 k hk (by omega) (Or.inl (by rw [show (k + (i + 8192 - k) % 8192) % 8192 = i by omega]; exact hi0))
  rw [j3]
  have e1 : (Int32.ofNat j).toNatClampNeg = j := i_tn (by omega)
  have e2 : eix (Int32.ofNat j) 8192 = true := i_ix j1 (by decide)
  unfold f_X12_piles_54
  by_cases q : J 159 j = 0
  · have e3 : ((8000 : Int32) ≤ Int32.ofNat c) = (8000 ≤ c) := i_le (n := 8000) (by decide) (by omega)
    simp only [eLt, Option.bind_some, ↓reduceIte, K_122, R_122_37, R_122_39, K_158, K_159, true_and, and_true, eB, decide_true, decide_false, Bool.or_true, Bool.true_or, not_true_eq_false, not_false_eq_true, e1, e2, lg_cmp_eq, q, c2, e3]
    by_cases q2 : 8000 ≤ c
    · rw [if_pos q2]
      obtain ⟨I', J', a1, a2, a3⟩ := rp_pi2 hw hL hxx
      exact ⟨I', J', [x], a1, a2, Nat.le_refl _, fun _ h => h, fun _ h => Or.inr h, a3⟩
    · rw [if_neg q2]
      have e4 : Int32.ofNat c + 1 = Int32.ofNat (c + 1) := i_ad (m := 1)
      rw [e4]
      have hw2 : Wl (eup I 122 40 (Int32.ofNat (c + 1))) (eup J 159 j (x + 1)) (fun g => G g ∨ g ∈ [x]) L := by
        refine ⟨?_, fun i hi => ?_, ⟨c + 1, by omega, up_eq, ?_⟩, fun i h2 h3 => ?_⟩
        · rw [up_k (by decide)]
          exact h.1
        · rw [up_r (by decide)]
          exact h.2.1 i hi
        · have := wN_one (g := fun i => decide (¬ eup J 159 j (x + 1) 159 i = 0)) (f := fun i => decide (¬ J 159 i = 0)) (x := j) (by
            show decide (¬ eup J 159 j (x + 1) 159 j = 0) = true
            rw [up_eq]
            exact decide_eq_true (x1_0 hx)) (by
            show decide (¬ J 159 j = 0) = false
            exact decide_eq_false (fun g => g q)) (fun i hi => by
            show decide (¬ J 159 i = 0) = decide (¬ eup J 159 j (x + 1) 159 i = 0)
            rw [up_k hi]) 8192 j1
          rw [this, c3]
        · by_cases c4 : i = j
          · subst c4
            rw [up_eq]
            exact ⟨x, hxx, rfl⟩
          · rw [up_k c4] at h3 ⊢
            exact hw.2.2.2 i h2 h3
      obtain ⟨I', J', a1, a2, a3⟩ := rp_pi2 hw2 hL hxx
      refine ⟨I', J', [x], a1, a2, Nat.le_refl _, fun _ h => h, fun _ h => Or.inr h, FrP_tr ⟨fun r hr => up_fr hr, fun i _ h2 => up_k h2, fun r _ hr => up_fr hr⟩ a3⟩
  · simp only [eLt, Option.bind_some, ↓reduceIte, K_122, R_122_37, R_122_39, K_158, K_159, true_and, and_true, eB, decide_true, decide_false, Bool.or_true, Bool.true_or, not_true_eq_false, not_false_eq_true, e1, e2, lg_cmp_eq, q]
    have qx : J 159 j = x + 1 := j2.resolve_left q
    obtain ⟨g, g1, g2⟩ := h.2.2.2 j j1 q
    have hg : G x := by
      rw [qx] at g2
      rw [x1_inj g2]
      exact g1
    refine ⟨I, J, [], rfl, ?_, Nat.zero_le _, fun d hd => (by cases hd), fun d hd => Or.inl (by rw [List.mem_singleton.1 hd]; exact hg), FrP_rfl⟩
    rw [List.append_nil]
    exact hw
end EPT
