/-! fields of a long -/
def lgF (x : Int64) (f m : Nat) : Nat := (x.toBitVec.extractLsb' f m).toNat
theorem b15 {w i : Nat} (h : i < w) : (BitVec.ofNat w 15).getLsbD i = decide (i < 4) := by
  rw [BitVec.getLsbD_ofNat, show 15 = 2 ^ 4 - 1 from rfl, Nat.testBit_two_pow_sub_one, decide_eq_true h, Bool.true_and]
theorem lgF_bv {x : Int64} {f m w : Nat} (X : BitVec w) (_ : m ≤ w) (h1 : ∀ i, i < m → X.getLsbD i = x.toBitVec.getLsbD (f + i)) (h2 : ∀ i, m ≤ i → i < w → X.getLsbD i = false) : X = BitVec.ofNat w (lgF x f m) := by
  apply BitVec.eq_of_getLsbD_eq
  intro i hi
  rw [BitVec.getLsbD_ofNat, decide_eq_true hi, Bool.true_and]
  unfold lgF
  rw [BitVec.testBit_toNat, BitVec.getLsbD_extractLsb']
  by_cases q : i < m
  · rw [decide_eq_true q, Bool.true_and, h1 i q]
  · rw [decide_eq_false q, Bool.false_and, h2 i (by omega) hi]
theorem p_part (x : Int64) (c : Nat) (hc : c + 4 ≤ 60) (k : Int64) (hk : k.toBitVec.smod 64 = BitVec.ofNat 64 c) : (x >>> k).toInt32 &&& 15 = Int32.ofNat (lgF x c 4) := by
  apply Int32.toBitVec_inj.1
  show _ = BitVec.ofNat 32 _
  apply lgF_bv
  · decide
  · intro i hi
    rw [Int32.toBitVec_and, Int64.toBitVec_toInt32, Int64.toBitVec_shiftRight, hk]
    simp only [BitVec.getLsbD_and, BitVec.getLsbD_signExtend, BitVec.sshiftRight', BitVec.getLsbD_sshiftRight, BitVec.toNat_ofNat]
    rw [show c % 2 ^ 64 = c by omega]
    have : (Int32.toBitVec 15) = BitVec.ofNat 32 15 := rfl
    rw [this, b15 (by omega), decide_eq_true hi, decide_eq_true (show i < 32 by omega), if_pos (show i < 64 by omega), if_pos (show c + i < 64 by omega), decide_eq_false (show ¬ 64 ≤ i by omega)]
    simp only [Bool.not_false, Bool.true_and, Bool.and_true]
  · intro i h1 h2
    rw [Int32.toBitVec_and, BitVec.getLsbD_and]
    have : (Int32.toBitVec 15) = BitVec.ofNat 32 15 := rfl
    rw [this, b15 (by omega), decide_eq_false (by omega), Bool.and_false]
theorem p_with (x : Int64) (c : Nat) (hc : c + 4 ≤ 60) (k : Int64) (hk : k.toBitVec.smod 64 = BitVec.ofNat 64 c) (v : Int64) (n : Nat) (hn : n < 16) (hv : v = Int64.ofNat n) :
    lgF ((x &&& (((15 : Int64) <<< k) ^^^ (-1 : Int64))) ||| ((v &&& (15 : Int64)) <<< k)) c 4 = n ∧
    ∀ f, f + 4 ≤ c ∨ c + 4 ≤ f → f + 4 ≤ 60 → lgF ((x &&& (((15 : Int64) <<< k) ^^^ (-1 : Int64))) ||| ((v &&& (15 : Int64)) <<< k)) f 4 = lgF x f 4 := by
  have hb : ∀ i, i < 64 → ((x &&& (((15 : Int64) <<< k) ^^^ (-1 : Int64))) ||| ((v &&& (15 : Int64)) <<< k)).toBitVec.getLsbD i = if c ≤ i ∧ i < c + 4 then n.testBit (i - c) else x.toBitVec.getLsbD i := by
    intro i hi
    have h15 : (Int64.toBitVec 15) = BitVec.ofNat 64 15 := rfl
    have hm1 : (Int64.toBitVec (-1)) = BitVec.allOnes 64 := by decide
    have hvv : v.toBitVec = BitVec.ofNat 64 n := by rw [hv]; rfl
    rw [Int64.toBitVec_or, Int64.toBitVec_and, Int64.toBitVec_xor, Int64.toBitVec_shiftLeft, Int64.toBitVec_shiftLeft, Int64.toBitVec_and, hk, h15, hm1, hvv]
    simp only [BitVec.getLsbD_or, BitVec.getLsbD_and, BitVec.getLsbD_xor, BitVec.getLsbD_shiftLeft, BitVec.shiftLeft_eq', BitVec.toNat_ofNat, BitVec.getLsbD_allOnes]
    rw [show c % 2 ^ 64 = c by omega, b15 (by omega), BitVec.getLsbD_ofNat]
    by_cases q : c ≤ i ∧ i < c + 4
    · simp [hi, show ¬ i < c by omega, show i - c < 4 by omega, show i - c < 64 by omega, q.1, q.2]
    · rw [if_neg q]
      by_cases q2 : i < c
      · simp [hi, q2]
      · simp [hi, q2, show ¬ i - c < 4 by omega]
  constructor
  · unfold lgF
    apply Nat.eq_of_testBit_eq
    intro i
    rw [BitVec.testBit_toNat, BitVec.getLsbD_extractLsb']
    by_cases q : i < 4
    · rw [decide_eq_true q, Bool.true_and, hb _ (by omega), if_pos (by omega), Nat.add_sub_cancel_left]
    · rw [decide_eq_false q, Bool.false_and]
      symm
      apply Nat.testBit_lt_two_pow
      have : 2 ^ 4 ≤ 2 ^ i := Nat.pow_le_pow_right (by decide) (by omega)
      omega
  · intro f h1 h2
    unfold lgF
    congr 1
    apply BitVec.eq_of_getLsbD_eq
    intro i hi
    rw [BitVec.getLsbD_extractLsb', BitVec.getLsbD_extractLsb', hb _ (by omega), if_neg (by omega)]
theorem lgF_lt (x : Int64) (f : Nat) : lgF x f 4 < 16 := (x.toBitVec.extractLsb' f 4).isLt
section EPS
variable {P : aP} {I I' I0 : Nat → Nat → Int32} {J J0 : Nat → Nat → Int64} {m r y k n p t s N v w i j : Nat} {S : aT} {l L M : List Nat} {st : Int32} {x : Int64} {σ : eMem}
/-- a part of a state of the search -/
def pF (x : Int64) (k : Nat) : Nat := lgF x (4 * k) 4
theorem pF_lt : pF x k < 16 := lgF_lt x _
theorem p_sh : ∀ k, k < 9 → (((4 : Int32) * Int32.ofNat k).toInt64 &&& 63).toBitVec.smod 64 = BitVec.ofNat 64 (4 * k) := by decide +kernel
theorem p_lit : ∀ n, n < 16 → (Int32.ofNat n).toInt64 = Int64.ofNat n := by decide +kernel
theorem cp_part (hk : k < 9) : f_X9_part x (Int32.ofNat k) σ = some (Int32.ofNat (pF x k), σ) := by
  unfold f_X9_part pF
  rw [p_part x (4 * k) (by omega) _ (p_sh k hk)]
theorem cp_with (x : Int64) (hk : k < 9) (hv : v < 16) : ∃ x', (∀ σ, f_X9_with x (Int32.ofNat k) (Int32.ofNat v) σ = some (x', σ)) ∧ ∀ j, j < 9 → pF x' j = if j = k then v else pF x j := by
  obtain ⟨h1, h2⟩ := p_with x (4 * k) (by omega) _ (p_sh k hk) (Int32.ofNat v).toInt64 v hv (p_lit v hv)
  refine ⟨_, fun σ => rfl, fun j hj => ?_⟩
  unfold pF
  by_cases q : j = k
  · rw [if_pos q, q]
    exact h1
  · rw [if_neg q]
    exact h2 (4 * j) (by omega) (by omega)
theorem ad0 : (0 : Int32) + Int32.ofNat n = Int32.ofNat n := Int32.zero_add _
theorem ad3 : (3 : Int32) + Int32.ofNat n = Int32.ofNat (3 + n) := i_ad (n := 3)
theorem ad6 : (6 : Int32) + Int32.ofNat n = Int32.ofNat (6 + n) := i_ad (n := 6)
theorem t4 : Int32.ofNat t * 4 = Int32.ofNat (t * 4) := i_mu (m := 4)
theorem cp_next (ht : t < 3) (h : PgC I P) : f_X9_nextSlot 58 x (Int32.ofNat t) (I, J) = some (if pF x t < P.1 t then Int32.ofNat (t * 4 + pF x t) else -1, (I, J)) := by
  have h4 := h.1.1 t ht
  have hp := pF_lt (x := x) (k := t)
  have e : (Int32.ofNat (P.1 t) ≤ Int32.ofNat (pF x t)) = (P.1 t ≤ pF x t) := i_le (by omega) (by omega)
  unfold f_X9_nextSlot f_X9_nextSlot_30
  simp only [ad0, cp_part (show t < 9 by omega), eLt, Option.bind_some, ↓reduceIte, K_58, K_59, K_60, K_61, K_62, K_63, R_58_0, R_58_1, R_58_2, R_58_3, R_58_4, true_and, and_true, eB, decide_true, decide_false, Bool.or_true, Bool.true_or, not_true_eq_false, not_false_eq_true, t_tn ht, t_ix ht, h.2.1 t ht, e, t4, i_ad]
  by_cases q : P.1 t ≤ pF x t
  · rw [if_pos q, if_neg (by omega)]
  · rw [if_neg q, if_pos (by omega)]
/-- the first store of a thread in a stretch -/
def fO (P : aP) (t : Nat) : Nat → Nat → Option Nat
  | _, 0 => none
  | lo, d + 1 => if P.2.1 (t * 4 + lo) = 0 then some lo else fO P t (lo + 1) d
theorem fO_some : ∀ d lo, fO P t lo d = some k → lo ≤ k ∧ k < lo + d ∧ P.2.1 (t * 4 + k) = 0 ∧ ∀ j, lo ≤ j → j < k → ¬ P.2.1 (t * 4 + j) = 0
  | 0, lo, h => by cases h
  | d + 1, lo, h => by
    unfold fO at h
    by_cases q : P.2.1 (t * 4 + lo) = 0
    · rw [if_pos q] at h
      cases h
      exact ⟨Nat.le_refl _, by omega, q, fun j h1 h2 => by omega⟩
    · rw [if_neg q] at h
      obtain ⟨h1, h2, h3, h4⟩ := fO_some d (lo + 1) h
      refine ⟨by omega, by omega, h3, fun j g1 g2 => ?_⟩
      by_cases e : j = lo
      · subst e
        exact q
      · exact h4 j (by omega) g2
theorem fO_none : ∀ d lo, fO P t lo d = none → ∀ j, lo ≤ j → j < lo + d → ¬ P.2.1 (t * 4 + j) = 0
  | 0, lo, _, j, h1, h2 => by omega
  | d + 1, lo, h, j, h1, h2 => by
    unfold fO at h
    by_cases q : P.2.1 (t * 4 + lo) = 0
    · rw [if_pos q] at h
      cases h
    · rw [if_neg q] at h
      by_cases e : j = lo
      · subst e
        exact q
      · exact fO_none d (lo + 1) h j (by omega) (by omega)
theorem cp_old1 (ht : t < 3) (h : PgC I P) (hi : i ≤ P.1 t) : ∀ d lo N, lo + d = i ∨ (d = 0 ∧ i ≤ lo ∧ lo < 16) → d < N →
    f_X9_oldestBuffered_22 N 58 (Int32.ofNat t) (Int32.ofNat i) (Int32.ofNat lo) (I, J) = some (match fO P t lo d with | none => -1 | some k => Int32.ofNat (t * 4 + k), (I, J)) := by
  have h4 := h.1.1 t ht
  intro d
  induction d with
  | zero =>
    intro lo N hlo hN
    obtain ⟨N, rfl⟩ := Nat.exists_eq_add_of_le' (Nat.succ_le_of_lt hN)
    have e : (Int32.ofNat i ≤ Int32.ofNat lo) = True := (i_le (by omega) (by omega)).trans (eq_true (by omega))
    rw [show N + (0 + 1) = N + 1 by omega, f_X9_oldestBuffered_22]
    simp only [e, ↓reduceIte]
    rfl
  | succ d ih =>
    intro lo N hlo hN
    obtain ⟨N, rfl⟩ := Nat.exists_eq_add_of_le' (Nat.succ_le_of_lt hN)
    have e : (Int32.ofNat i ≤ Int32.ofNat lo) = False := (i_le (by omega) (by omega)).trans (eq_false (by omega))
    have e1 : Int32.ofNat lo + 1 = Int32.ofNat (lo + 1) := i_ad (m := 1)
    have hx : t * 4 + lo < 12 := by omega
    have hu : gU P (t * 4 + lo) = true := gU_iff.2 ⟨hx, by rw [show (t * 4 + lo) / 4 = t by omega]; omega⟩
    obtain ⟨w1, w2, w3⟩ := h.1.2.2 _ hu
    have e0 : (Int32.ofNat (P.2.1 (t * 4 + lo)) = 0) = (P.2.1 (t * 4 + lo) = 0) := i_eq (m := 0) (by omega) (by decide)
    rw [show N + (d + 1 + 1) = N + d + 1 + 1 by omega, f_X9_oldestBuffered_22]
    unfold fO
    simp only [e, t4, i_ad, eLt, Option.bind_some, ↓reduceIte, K_58, K_59, K_60, K_61, K_62, K_63, R_58_0, R_58_1, R_58_2, R_58_3, R_58_4, true_and, and_true, eB, decide_true, decide_false, Bool.or_true, Bool.true_or, not_true_eq_false, not_false_eq_true, x_tn hx, x_ix hx, (h.2.2 _ hu).1, e0, e1]
    by_cases q : P.2.1 (t * 4 + lo) = 0
    · simp only [q, ↓reduceIte, not_true_eq_false]
    · simp only [q, ↓reduceIte, not_false_eq_true]
      exact ih (lo + 1) (N + d + 1) (by omega) (by omega)
/-- the oldest store in a thread's buffer -/
def oB (P : aP) (x : Int64) (t : Nat) : Option Nat := fO P t (pF x (3 + t)) (pF x t - pF x (3 + t))
theorem cp_old (ht : t < 3) (h : PgC I P) (hi : pF x t ≤ P.1 t) : f_X9_oldestBuffered 58 x (Int32.ofNat t) (I, J) = some (match oB P x t with | none => -1 | some k => Int32.ofNat (t * 4 + k), (I, J)) := by
  have h4 := h.1.1 t ht
  have hu := pF_lt (x := x) (k := 3 + t)
  have e : ((4 : Int32) < Int32.ofNat (pF x t)) = False := (i_lt (n := 4) (by decide) (by omega)).trans (eq_false (by omega))
  have key := cp_old1 (J := J) ht h hi (pF x t - pF x (3 + t)) (pF x (3 + t)) 1000000 (by omega) (by omega)
  unfold f_X9_oldestBuffered
  obtain ⟨N, hN⟩ : ∃ N, N = 1000000 := ⟨_, rfl⟩
  rw [← hN] at key ⊢
  simp only [ad0, ad3, cp_part (show t < 9 by omega), cp_part (show 3 + t < 9 by omega), eLt, Option.bind_some, ↓reduceIte, K_58, K_59, K_60, K_61, K_62, K_63, R_58_0, R_58_1, R_58_2, R_58_3, R_58_4, true_and, and_true, eB, decide_true, decide_false, Bool.or_true, Bool.true_or, not_true_eq_false, not_false_eq_true, e]
  exact key
/-- the thread that stands at a store -/
theorem cp_at1 (h : PgC I P) : ∀ d t N, t + d = 3 → 2 * d + 1 ≤ N →
    (∃ u, t ≤ u ∧ u < 3 ∧ pF x u < P.1 u ∧ P.2.1 (u * 4 + pF x u) = 0 ∧ f_X9_threadAtStore_L2 N (.inl (58, x, Int32.ofNat t)) (I, J) = some (Int32.ofNat u, (I, J))) ∨
    ((∀ u, t ≤ u → u < 3 → pF x u < P.1 u → ¬ P.2.1 (u * 4 + pF x u) = 0) ∧ f_X9_threadAtStore_L2 N (.inl (58, x, Int32.ofNat t)) (I, J) = some (-1, (I, J))) := by
  intro d
  induction d with
  | zero =>
    intro t N ht hN
    obtain ⟨N, rfl⟩ := Nat.exists_eq_add_of_le' hN
    have e : ((3 : Int32) ≤ Int32.ofNat t) = True := (i_le (n := 3) (by decide) (by omega)).trans (eq_true (by omega))
    right
    refine ⟨fun u h1 h2 => by omega, ?_⟩
    rw [show N + (2 * 0 + 1) = N + 1 by omega, f_X9_threadAtStore_L2]
    simp only [e, ↓reduceIte]
  | succ d ih =>
    intro t N ht hN
    obtain ⟨N, rfl⟩ := Nat.exists_eq_add_of_le' hN
    have ht3 : t < 3 := by omega
    have h4 := h.1.1 t ht3
    have e : ((3 : Int32) ≤ Int32.ofNat t) = False := (i_le (n := 3) (by decide) (by omega)).trans (eq_false (by omega))
    have e1 : Int32.ofNat t + 1 = Int32.ofNat (t + 1) := i_ad (m := 1)
    have go : (¬ (pF x t < P.1 t ∧ P.2.1 (t * 4 + pF x t) = 0)) → f_X9_threadAtStore_L2 (N + (2 * (d + 1) + 1)) (.inl (58, x, Int32.ofNat t)) (I, J) = f_X9_threadAtStore_L2 (N + 2 * d + 1) (.inl (58, x, Int32.ofNat (t + 1))) (I, J) := by
      intro g
      rw [show N + (2 * (d + 1) + 1) = N + 2 * d + 1 + 1 + 1 by omega]
      obtain ⟨K, hK⟩ : ∃ K, K = N + 2 * d + 1 := ⟨_, rfl⟩
      rw [← hK, f_X9_threadAtStore_L2]
      simp only [e, cp_next ht3 h, eLt, Option.bind_some, ↓reduceIte, K_58, K_59, K_60, K_61, K_62, K_63, R_58_0, R_58_1, R_58_2, R_58_3, R_58_4, true_and, and_true, eB, decide_true, decide_false, Bool.or_true, Bool.true_or, not_true_eq_false, not_false_eq_true]
      by_cases q : pF x t < P.1 t
      · have hx : t * 4 + pF x t < 12 := by omega
        have hu : gU P (t * 4 + pF x t) = true := gU_iff.2 ⟨hx, by rw [show (t * 4 + pF x t) / 4 = t by omega]; omega⟩
        obtain ⟨w1, w2, w3⟩ := h.1.2.2 _ hu
        have e0 : (Int32.ofNat (P.2.1 (t * 4 + pF x t)) = 0) = (P.2.1 (t * 4 + pF x t) = 0) := i_eq (m := 0) (by omega) (by decide)
        have q0 : ¬ P.2.1 (t * 4 + pF x t) = 0 := fun q0 => g ⟨q, q0⟩
        simp only [q, ↓reduceIte, i_ne1 (show t * 4 + pF x t < 2147483648 by omega), x_tn hx, x_ix hx, (h.2.2 _ hu).1, e0, q0, not_false_eq_true, true_and, and_true, and_self]
        rw [f_X9_threadAtStore_L2, e1]
      · simp only [q, ↓reduceIte]
        rw [f_X9_threadAtStore_L2, e1]
    by_cases q : pF x t < P.1 t ∧ P.2.1 (t * 4 + pF x t) = 0
    · left
      refine ⟨t, Nat.le_refl _, ht3, q.1, q.2, ?_⟩
      have hx : t * 4 + pF x t < 12 := by omega
      have hu : gU P (t * 4 + pF x t) = true := gU_iff.2 ⟨hx, by rw [show (t * 4 + pF x t) / 4 = t by omega]; omega⟩
      rw [show N + (2 * (d + 1) + 1) = N + 2 * d + 1 + 1 + 1 by omega, f_X9_threadAtStore_L2]
      simp only [e, cp_next ht3 h, eLt, Option.bind_some, ↓reduceIte, K_58, K_59, K_60, K_61, K_62, K_63, R_58_0, R_58_1, R_58_2, R_58_3, R_58_4, true_and, and_true, eB, decide_true, decide_false, Bool.or_true, Bool.true_or, not_true_eq_false, not_false_eq_true, q.1, i_ne1 (show t * 4 + pF x t < 2147483648 by omega), x_tn hx, x_ix hx, (h.2.2 _ hu).1, q.2]
      rfl
    · rw [go q]
      rcases ih (t + 1) (N + 2 * d + 1) (by omega) (by omega) with ⟨u, h1, h2, h3, h5, h6⟩ | ⟨h1, h2⟩
      · exact Or.inl ⟨u, by omega, h2, h3, h5, h6⟩
      · refine Or.inr ⟨fun u g1 g2 g3 g4 => ?_, h2⟩
        by_cases eq : u = t
        · subst eq
          exact q ⟨g3, g4⟩
        · exact h1 u (by omega) g2 g3 g4
end EPS
