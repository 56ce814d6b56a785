/-! fields of a state of the reference -/
theorem bmask {w m i : Nat} (h : i < w) : (BitVec.ofNat w (2 ^ m - 1)).getLsbD i = decide (i < m) := by
  rw [BitVec.getLsbD_ofNat, Nat.testBit_two_pow_sub_one, decide_eq_true h, Bool.true_and]
theorem r_part (x : Int64) (f m : Nat) (h : f + m ≤ 60) (hm : m ≤ 30) (k q : Int64) (hk : k.toBitVec.smod 64 = BitVec.ofNat 64 f) (hq : q.toBitVec = BitVec.ofNat 64 (2 ^ m - 1)) : ((x >>> k) &&& q).toInt32 = Int32.ofNat (lgF x f m) := by
  apply Int32.toBitVec_inj.1
  show _ = BitVec.ofNat 32 _
  apply BitVec.eq_of_getLsbD_eq
  intro i hi
  rw [Int64.toBitVec_toInt32, Int64.toBitVec_and, Int64.toBitVec_shiftRight, hk, hq, BitVec.getLsbD_ofNat, decide_eq_true hi, Bool.true_and]
  simp only [BitVec.getLsbD_signExtend, BitVec.getLsbD_and, BitVec.sshiftRight', BitVec.getLsbD_sshiftRight, BitVec.toNat_ofNat]
  rw [show f % 2 ^ 64 = f by omega, bmask (by omega), decide_eq_true hi, Bool.true_and, if_pos (show i < 64 by omega)]
  unfold lgF
  rw [BitVec.testBit_toNat, BitVec.getLsbD_extractLsb']
  by_cases c : i < m
  · rw [decide_eq_true c, if_pos (show f + i < 64 by omega), decide_eq_false (show ¬ 64 ≤ i by omega)]
    simp only [Bool.not_false, Bool.true_and, Bool.and_true]
  · rw [decide_eq_false c, Bool.and_false, Bool.false_and]
theorem r_put (x : Int64) (f m n : Nat) (h : f + m ≤ 60) (k d : Int64) (hn : n < 2 ^ m) (hk : k.toBitVec.smod 64 = BitVec.ofNat 64 f) (hd : d.toBitVec = BitVec.ofNat 64 n - BitVec.ofNat 64 (lgF x f m)) :
    lgF (x + (d <<< k)) f m = n ∧ ∀ g m', g + m' ≤ f ∨ f + m ≤ g → g + m' ≤ 60 → lgF (x + (d <<< k)) g m' = lgF x g m' := by
  have hA : ∀ i, i < m → (lgF x f m).testBit i = x.toBitVec.getLsbD (f + i) := by
    intro i hi
    unfold lgF
    rw [BitVec.testBit_toNat, BitVec.getLsbD_extractLsb', decide_eq_true hi, Bool.true_and]
  have hA2 : lgF x f m < 2 ^ m := (x.toBitVec.extractLsb' f m).isLt
  have big : ∀ v i, v < 2 ^ m → m ≤ i → v.testBit i = false := by
    intro v i hv hi
    apply Nat.testBit_lt_two_pow
    have : 2 ^ m ≤ 2 ^ i := Nat.pow_le_pow_right (by decide) hi
    omega
  obtain ⟨B, hB⟩ : ∃ B : BitVec 64, B = x.toBitVec &&& ~~~ (BitVec.ofNat 64 (2 ^ m - 1) <<< f) := ⟨_, rfl⟩
  have hBg : ∀ i, i < 64 → B.getLsbD i = if f ≤ i ∧ i < f + m then false else x.toBitVec.getLsbD i := by
    intro i hi
    rw [hB, BitVec.getLsbD_and, BitVec.getLsbD_not, BitVec.getLsbD_shiftLeft, bmask (by omega)]
    by_cases c : f ≤ i ∧ i < f + m
    · rw [if_pos c, decide_eq_true hi, decide_eq_false (show ¬ i < f by omega), decide_eq_true (show i - f < m by omega)]
      simp
    · rw [if_neg c]
      by_cases c2 : i < f
      · rw [decide_eq_true hi, decide_eq_true c2]
        simp
      · rw [decide_eq_true hi, decide_eq_false c2, decide_eq_false (show ¬ i - f < m by omega)]
        simp
  have hV : ∀ v, v < 2 ^ m → ∀ i, i < 64 → (BitVec.ofNat 64 v <<< f).getLsbD i = if f ≤ i ∧ i < f + m then v.testBit (i - f) else false := by
    intro v hv i hi
    rw [BitVec.getLsbD_shiftLeft, BitVec.getLsbD_ofNat, decide_eq_true hi, decide_eq_true (show i - f < 64 by omega)]
    by_cases c : i < f
    · rw [decide_eq_true c, if_neg (by omega)]
      simp
    · rw [decide_eq_false c]
      by_cases c2 : i < f + m
      · rw [if_pos ⟨by omega, c2⟩]
        simp
      · rw [if_neg (by omega), big v _ hv (by omega)]
        simp
  have hdis : ∀ v, v < 2 ^ m → B + BitVec.ofNat 64 v <<< f = B ||| BitVec.ofNat 64 v <<< f := by
    intro v hv
    apply BitVec.add_eq_or_of_and_eq_zero
    apply BitVec.eq_of_getLsbD_eq
    intro i hi
    rw [BitVec.getLsbD_and, hBg i hi, hV v hv i hi]
    by_cases c : f ≤ i ∧ i < f + m
    · rw [if_pos c, if_pos c]
      simp
    · rw [if_neg c, if_neg c]
      simp
  have hx : x.toBitVec = B + BitVec.ofNat 64 (lgF x f m) <<< f := by
    rw [hdis _ hA2]
    apply BitVec.eq_of_getLsbD_eq
    intro i hi
    rw [BitVec.getLsbD_or, hBg i hi, hV _ hA2 i hi]
    by_cases c : f ≤ i ∧ i < f + m
    · rw [if_pos c, if_pos c, hA _ (by omega), Bool.false_or, show f + (i - f) = i by omega]
    · rw [if_neg c, if_neg c, Bool.or_false]
  have hr : (x + (d <<< k)).toBitVec = B ||| BitVec.ofNat 64 n <<< f := by
    rw [← hdis n hn, Int64.toBitVec_add, Int64.toBitVec_shiftLeft, hk, hd, BitVec.shiftLeft_eq', BitVec.toNat_ofNat, show f % 2 ^ 64 = f by omega]
    rw [BitVec.shiftLeft_eq_mul_twoPow, BitVec.sub_eq_add_neg, BitVec.add_mul, BitVec.neg_mul, ← BitVec.shiftLeft_eq_mul_twoPow, ← BitVec.shiftLeft_eq_mul_twoPow]
    generalize hC : BitVec.ofNat 64 (lgF x f m) <<< f = C at *
    generalize BitVec.ofNat 64 n <<< f = D at *
    rw [hx, BitVec.add_assoc, ← BitVec.add_assoc C, BitVec.add_comm C, BitVec.add_assoc D, BitVec.add_right_neg, BitVec.add_zero]
  have hbit : ∀ i, i < 64 → (x + (d <<< k)).toBitVec.getLsbD i = if f ≤ i ∧ i < f + m then n.testBit (i - f) else x.toBitVec.getLsbD i := by
    intro i hi
    rw [hr, BitVec.getLsbD_or, hBg i hi, hV n hn i hi]
    by_cases c : f ≤ i ∧ i < f + m
    · rw [if_pos c, if_pos c, if_pos c, Bool.false_or]
    · rw [if_neg c, if_neg c, if_neg c, Bool.or_false]
  constructor
  · unfold lgF
    apply Nat.eq_of_testBit_eq
    intro i
    rw [BitVec.testBit_toNat, BitVec.getLsbD_extractLsb']
    by_cases q : i < m
    · rw [decide_eq_true q, Bool.true_and, hbit _ (by omega), if_pos (by omega), Nat.add_sub_cancel_left]
    · rw [decide_eq_false q, Bool.false_and, big n i hn (by omega)]
  · intro g m' h1 h2
    unfold lgF
    congr 1
    apply BitVec.eq_of_getLsbD_eq
    intro i hi
    rw [BitVec.getLsbD_extractLsb', BitVec.getLsbD_extractLsb', hbit _ (by omega), if_neg (by omega)]

section EPT
variable {P : aP} {I I' I0 : Nat → Nat → Int32} {J J' J0 : Nat → Nat → Int64} {m r y z k n p t s N v w i j f : Nat} {x : Int64} {σ : eMem}
theorem r_sh : ∀ f, f < 60 → ((Int32.ofNat f).toInt64 &&& 63).toBitVec.smod 64 = BitVec.ofNat 64 f := by decide +kernel
theorem r_mk : ∀ m, m < 5 → (((1 : Int64) <<< ((Int32.ofNat m).toInt64 &&& 63)) - (1 : Int64)).toBitVec = BitVec.ofNat 64 (2 ^ m - 1) := by decide +kernel
theorem rp_part (hm : m < 5) (h : f + m ≤ 60) (hf : f < 60) : f_X12_part x (Int32.ofNat f) (Int32.ofNat m) σ = some (Int32.ofNat (lgF x f m), σ) := by
  unfold f_X12_part
  rw [r_part x f m h (by omega) _ _ (r_sh f hf) (r_mk m hm)]
theorem lgM_lt : lgF x f m < 2 ^ m := (x.toBitVec.extractLsb' f m).isLt
theorem rp_put (x : Int64) (hm : m < 5) (h : f + m ≤ 60) (hf : f < 60) (hn : n < 2 ^ m) : ∃ x', (∀ σ, f_X12_put x (Int32.ofNat f) (Int32.ofNat m) (Int32.ofNat n) σ = some (x', σ)) ∧ lgF x' f m = n ∧ ∀ g m', g + m' ≤ f ∨ f + m ≤ g → g + m' ≤ 60 → lgF x' g m' = lgF x g m' := by
  have h16 : 2 ^ m ≤ 2 ^ 4 := Nat.pow_le_pow_right (by decide) (by omega)
  have hA := lgM_lt (x := x) (f := f) (m := m)
  have hd : ((Int32.ofNat n).toInt64 - (Int32.ofNat (lgF x f m)).toInt64).toBitVec = BitVec.ofNat 64 n - BitVec.ofNat 64 (lgF x f m) := by
    rw [p_lit n (by omega), p_lit _ (by omega), Int64.toBitVec_sub]
    rfl
  obtain ⟨h1, h2⟩ := r_put x f m n h ((Int32.ofNat f).toInt64 &&& 63) ((Int32.ofNat n).toInt64 - (Int32.ofNat (lgF x f m)).toInt64) hn (r_sh f hf) hd
  refine ⟨_, fun σ => ?_, h1, h2⟩
  unfold f_X12_put
  rw [rp_part hm h hf, Option.bind_some]
end EPT
