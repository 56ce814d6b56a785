/-! the class: sets as bits; transactions; buffers -/
section EPE
variable {x y : Int32} {l l' i n N f : Nat}
theorem sh_a : ∀ l, l < 16 → ((Int32.ofNat l &&& 31).toBitVec.smod 32#32).toNat = l := by decide
theorem set_nat (hl : l < 16) : (aSetB x l).toBitVec.toNat = x.toBitVec.toNat ||| 2 ^ l := by
  unfold aSetB
  show (x.toBitVec ||| (1#32 <<< ((Int32.ofNat l &&& 31).toBitVec.smod 32#32).toNat)).toNat = _
  rw [sh_a l hl, BitVec.toNat_or, BitVec.toNat_shiftLeft, BitVec.toNat_ofNat, Nat.shiftLeft_eq, Nat.mod_eq_of_lt (show 1 < 2 ^ 32 by decide), Nat.one_mul, Nat.mod_eq_of_lt]
  exact Nat.pow_lt_pow_right (by decide) (by omega)
theorem bit_nat (hl : l < 16) : aBit x l = x.toBitVec.toNat.testBit l := by
  unfold aBit
  have e : ((x >>> (Int32.ofNat l &&& 31)) &&& 1).toBitVec = (x.toBitVec.sshiftRight l) &&& 1#32 := by
    show x.toBitVec.sshiftRight ((Int32.ofNat l &&& 31).toBitVec.smod 32#32).toNat &&& 1#32 = _
    rw [sh_a l hl]
  have e2 : ((x >>> (Int32.ofNat l &&& 31)) &&& 1 = 1) ↔ ((x.toBitVec.sshiftRight l) &&& 1#32) = 1#32 := by
    constructor
    · intro g
      rw [← e, g]
      rfl
    · intro g
      apply Int32.toBitVec.inj
      rw [e, g]
      rfl
  have e3 : ((x.toBitVec.sshiftRight l) &&& 1#32) = BitVec.setWidth 32 (BitVec.ofBool ((x.toBitVec.sshiftRight l).getLsbD 0)) := by
    apply BitVec.eq_of_getLsbD_eq
    intro i hi
    by_cases g : i = 0
    · subst g
      simp
    · have : (1#32).getLsbD i = false := by
        rw [BitVec.getLsbD_one]
        simp [g]
      simp [this, g]
  have e4 : (x.toBitVec.sshiftRight l).getLsbD 0 = x.toBitVec.toNat.testBit l := by
    rw [BitVec.getLsbD_sshiftRight]
    simp [show l < 32 by omega, BitVec.getLsbD]
  rw [Bool.eq_iff_iff, decide_eq_true_eq, e2, e3, e4]
  cases x.toBitVec.toNat.testBit l <;> decide
theorem or_nat : (x ||| y).toBitVec.toNat = x.toBitVec.toNat ||| y.toBitVec.toNat := by
  show (x.toBitVec ||| y.toBitVec).toNat = _
  rw [BitVec.toNat_or]
theorem i_ext (h : x.toBitVec.toNat = y.toBitVec.toNat) : x = y := Int32.toBitVec.inj (BitVec.eq_of_toNat_eq h)
theorem set_or (hl : l < 16) : aSetB x l ||| y = aSetB (x ||| y) l := by
  apply i_ext
  rw [or_nat, set_nat hl, set_nat hl, or_nat, Nat.or_assoc, Nat.or_comm (2 ^ l), Nat.or_assoc]
theorem or_set (hl : l < 16) : x ||| aSetB y l = aSetB (x ||| y) l := by
  apply i_ext
  rw [or_nat, set_nat hl, set_nat hl, or_nat, Nat.or_assoc]
theorem set_id (hl : l < 16) (h : aBit x l = true) : aSetB x l = x := by
  apply i_ext
  rw [set_nat hl]
  rw [bit_nat hl] at h
  apply Nat.eq_of_testBit_eq
  intro i
  rw [Nat.testBit_or, Nat.testBit_two_pow]
  by_cases g : l = i
  · subst g
    rw [h]
    rfl
  · simp [g]
theorem bit_set (hl : l < 16) (hl' : l' < 16) : aBit (aSetB x l) l' = (decide (l' = l) || aBit x l') := by
  rw [bit_nat hl', set_nat hl, bit_nat hl', Nat.testBit_or, Nat.testBit_two_pow, Bool.or_comm]
  congr 1
  by_cases g : l = l'
  · subst g
    simp
  · simp [g, Ne.symm g]
theorem bit_or (hl : l < 16) : aBit (x ||| y) l = (aBit x l || aBit y l) := by
  rw [bit_nat hl, or_nat, bit_nat hl, bit_nat hl, Nat.testBit_or]
theorem popN_set : ∀ f l N, l < f → N.testBit l = false → aPopN f (N ||| 2 ^ l) = aPopN f N + 1 := by
  intro f
  induction f with
  | zero => intro l N h; omega
  | succ f ih =>
    intro l N h1 h2
    unfold aPopN
    cases l with
    | zero =>
      have e1 : N % 2 = 0 := by
        rw [Nat.testBit_zero] at h2
        simp at h2
        omega
      have e2 : (N ||| 2 ^ 0) / 2 = N / 2 := by
        rw [Nat.or_div_two]
        simp
      have e3 : (N ||| 2 ^ 0) % 2 = 1 := by
        have := Nat.or_mod_two_eq_one (a := N) (b := 2 ^ 0)
        exact this.2 (Or.inr rfl)
      rw [e1, e2, e3]
      omega
    | succ l =>
      have e2 : (N ||| 2 ^ (l + 1)) / 2 = N / 2 ||| 2 ^ l := by
        rw [Nat.or_div_two, Nat.pow_succ, Nat.mul_div_cancel _ (by decide)]
      have e3 : (N ||| 2 ^ (l + 1)) % 2 = N % 2 := by
        have g := Nat.or_mod_two_eq_one (a := N) (b := 2 ^ (l + 1))
        have z : 2 ^ (l + 1) % 2 = 0 := by
          rw [Nat.pow_succ]
          exact Nat.mul_mod_left _ _
        rcases Nat.mod_two_eq_zero_or_one N with q | q
        · rcases Nat.mod_two_eq_zero_or_one (N ||| 2 ^ (l + 1)) with q2 | q2
          · omega
          · rcases g.1 q2 with q3 | q3 <;> omega
        · rw [g.2 (Or.inl q), q]
      rw [e2, e3, ih l (N / 2) (by omega) (by rw [Nat.testBit_succ] at h2; exact h2)]
      omega
theorem pop_set (hl : l < 16) (h : aBit x l = false) : aPop (aSetB x l) = aPop x + 1 := by
  unfold aPop
  rw [set_nat hl]
  rw [bit_nat hl] at h
  exact popN_set 32 l _ (by omega) h
end EPE
section EPD
variable {I I' I0 : Nat → Nat → Int32} {J : Nat → Nat → Int64} {a a' b : aS} {r i l q c k n p w z N o : Nat} {v t x y : Int32} {m : aM} {σ : eMem}
/-- a core's transaction is in order -/
def tF (a : aS) (c : Nat) : Prop := (a.1 145 c = 0 ∨ a.1 145 c = 1) ∧ (a.1 146 c = 0 ∨ a.1 146 c = 1) ∧ (¬ a.1 145 c = 0 → a.1 142 c = 0 ∧ aPop (a.1 148 c ||| a.1 149 c) ≤ 4)
theorem cs_adm (hc : c < 4) (hl : l < 16) (hT : tF a c) (h : CF I0 I a) : f_X10_admits (79 + 12 * c) (Int32.ofNat l) (I, J) = some (if aFull a c l = true then 0 else 1, (I, J)) := by
  have ht : (Int32.ofNat l).toNatClampNeg = l := i_tn (by omega)
  have hi : eix (Int32.ofNat l) 16 = true := i_ix hl (by decide)
  have h10 : ¬ (1 : Int32) = 0 := by decide
  unfold f_X10_admits f_X10_admits_24 f_X10_admits_29 aFull aIsIn
  simp only [eLt, Option.bind_some, ↓reduceIte, K_c74 hc, K_c75 hc, K_c76 hc, K_c77 hc, K_c78 hc, K_c79 hc, K_c80 hc, K_c81 hc, R_c1 hc, R_c2 hc, R_c3 hc, R_c4 hc, R_c5 hc, R_c6 hc, R_c8 hc, R_t5 hc, R_t6 hc, K_3, K_4, true_and, and_true, eB, decide_true, decide_false, Bool.or_true, Bool.true_or, not_true_eq_false, not_false_eq_true, tx_0 hc h, ht, hi]
  by_cases q : a.1 145 c = 0
  · simp [q]
  · have hp := (hT.2.2 q).2
    have g : ((4 : Int32) ≤ Int32.ofNat (aPop (a.1 148 c ||| a.1 149 c))) = (aPop (a.1 148 c ||| a.1 149 c) = 4) := (i_le (n := 4) (by decide) (by omega)).trans (by apply propext; omega)
    rw [tx_i hc hl q h, tx_3 hc q h]
    simp only [g]
    by_cases q2 : aBit (a.1 148 c ||| a.1 149 c) l = true
    · simp [q, q2]
    · by_cases q3 : aPop (a.1 148 c ||| a.1 149 c) = 4 <;> simp [q, q2, q3]
theorem cs_stored (hc : c < 4) (hl : l < 16) (h : CF I0 I a) : f_X10_storedTo (79 + 12 * c) (Int32.ofNat l) (I, J) = some (if a.1 145 c = 0 then -1 else if aBit (a.1 149 c) l = true then a.1 150 (16 * c + l) else -1, (I, J)) := by
  have ht : (Int32.ofNat l).toNatClampNeg = l := i_tn (by omega)
  have hi : eix (Int32.ofNat l) 16 = true := i_ix hl (by decide)
  unfold f_X10_storedTo f_X10_storedTo_17
  simp only [eLt, Option.bind_some, ↓reduceIte, K_c74 hc, K_c75 hc, K_c76 hc, K_c77 hc, K_c78 hc, K_c79 hc, K_c80 hc, K_c81 hc, R_c1 hc, R_c2 hc, R_c3 hc, R_c4 hc, R_c5 hc, R_c6 hc, R_c8 hc, R_t5 hc, R_t6 hc, K_3, K_4, true_and, and_true, eB, decide_true, decide_false, Bool.or_true, Bool.true_or, not_true_eq_false, not_false_eq_true, tx_0 hc h, ht, hi]
  by_cases q : a.1 145 c = 0
  · simp [q]
  · rw [tx_s hc hl q h]
    simp [q]
/-- a transaction's cells change -/
theorem C_tx (hc : c < 4) (hI : ∀ r, ¬ r = 79 + 12 * c → ¬ r = 80 + 12 * c → ¬ r = 81 + 12 * c → I' r = I r)
    (ha : ∀ r i, ¬ (145 ≤ r ∧ r ≤ 149 ∧ i = c) → ¬ (r = 150 ∧ 16 * c ≤ i ∧ i < 16 * c + 16) → a'.1 r i = a.1 r i) (hq : a'.2 = a.2) (hT : TxOk I' a' c) (h : CF I0 I a) : CF I0 I' a' := by
  refine C_core (a := a) hc (fun r k g1 g2 => by rw [hI _ (by omega) (by omega) (by omega)]) (fun r i g1 g2 g3 g4 => ha _ _ (by omega) (by omega)) hq ?_ ?_ hT h
  · exact Lv_fr (h.1.2.2.2.2.1 c hc) (hI _ (by omega) (by omega) (by omega)) (fun l' _ => ha _ _ (by omega) (by omega))
  · exact Co_fr (h.1.2.2.2.2.2.1 c hc) (fun k _ => by rw [hI _ (by omega) (by omega) (by omega)]) (hI _ (by omega) (by omega) (by omega)) (hI _ (by omega) (by omega) (by omega)) (ha _ _ (by omega) (by omega)) (ha _ _ (by omega) (by omega)) (ha _ _ (by omega) (by omega)) (fun k _ => ⟨ha _ _ (by omega) (by omega), ha _ _ (by omega) (by omega)⟩)
/-- the buffer's, and the stride's cells change -/
theorem C_bf (hc : c < 4) (hI : ∀ r k, ¬ (r = 74 + 12 * c ∧ (k = 7 ∨ k = 10 ∨ k = 11)) → ¬ r = 77 + 12 * c → ¬ r = 78 + 12 * c → I' r k = I r k)
    (ha : ∀ r i, ¬ ((r = 142 ∨ r = 151 ∨ r = 152) ∧ i = c) → ¬ ((r = 143 ∨ r = 144) ∧ 4 * c ≤ i ∧ i < 4 * c + 4) → a'.1 r i = a.1 r i) (hq : a'.2 = a.2) (hC : CoOk I' a' c) (h : CF I0 I a) : CF I0 I' a' := by
  have hJ : ∀ r, ¬ r = 74 + 12 * c → ¬ r = 77 + 12 * c → ¬ r = 78 + 12 * c → I' r = I r := fun r g1 g2 g3 => funext fun k => hI r k (by omega) g2 g3
  refine C_core (a := a) hc (fun r k g1 g2 => hI _ _ (by omega) (by omega) (by omega)) (fun r i g1 g2 g3 g4 => ha _ _ (by omega) (by omega)) hq ?_ hC ?_ h
  · exact Lv_fr (h.1.2.2.2.2.1 c hc) (hJ _ (by omega) (by omega) (by omega)) (fun l' _ => ha _ _ (by omega) (by omega))
  · exact Tx_fr (h.1.2.2.2.2.2.2.1 c hc) (hJ _ (by omega) (by omega) (by omega)) (hJ _ (by omega) (by omega) (by omega)) (hJ _ (by omega) (by omega) (by omega)) (fun r _ _ => ha _ _ (by omega) (by omega)) (fun l' _ => ha _ _ (by omega) (by omega))
/-- a line comes into a transaction: what it has then, as a set x of loaded and y of stored lines -/
theorem cs_incl (hc : c < 4) (hl : l < 16) (ho : ¬ a.1 145 c = 0) (h : CF I0 I a) :
    ∃ I1, f_X10_include (79 + 12 * c) (Int32.ofNat l) (I, J) = some ((), (I1, J)) ∧ (∀ r, ¬ r = 79 + 12 * c → ¬ r = 80 + 12 * c → I1 r = I r) ∧ (∀ k, ¬ k = 3 → I1 (79 + 12 * c) k = I (79 + 12 * c) k) ∧
      I1 (79 + 12 * c) 3 = Int32.ofNat (aPop (aSetB (a.1 148 c ||| a.1 149 c) l)) ∧ ∀ l', l' < 16 → I1 (80 + 12 * c) l' = (if aBit (aSetB (a.1 148 c ||| a.1 149 c) l) l' = true then 1 else 0) := by
  have ht : (Int32.ofNat l).toNatClampNeg = l := i_tn (by omega)
  have hi : eix (Int32.ofNat l) 16 = true := i_ix hl (by decide)
  have h10 : ¬ (1 : Int32) = 0 := by decide
  have e0 := tx_i hc hl ho h
  unfold f_X10_include f_X10_include_26
  simp only [eLt, Option.bind_some, ↓reduceIte, K_c74 hc, K_c75 hc, K_c76 hc, K_c77 hc, K_c78 hc, K_c79 hc, K_c80 hc, K_c81 hc, R_c1 hc, R_c2 hc, R_c3 hc, R_c4 hc, R_c5 hc, R_c6 hc, R_c8 hc, R_t5 hc, R_t6 hc, K_3, K_4, true_and, and_true, eB, decide_true, decide_false, Bool.or_true, Bool.true_or, not_true_eq_false, not_false_eq_true, ht, hi, e0]
  by_cases q : aBit (a.1 148 c ||| a.1 149 c) l = true
  · simp only [q, ↓reduceIte, h10, not_false_eq_true]
    refine ⟨I, rfl, fun r _ _ => rfl, fun k _ => rfl, ?_, fun l' hl' => ?_⟩
    · rw [set_id hl q]
      exact tx_3 hc ho h
    · rw [set_id hl q]
      exact tx_i hc hl' ho h
  · have q' : aBit (a.1 148 c ||| a.1 149 c) l = false := by
      cases g : aBit (a.1 148 c ||| a.1 149 c) l with
      | false => rfl
      | true => exact absurd g q
    simp only [q, ↓reduceIte, Bool.false_eq_true, not_true_eq_false]
    refine ⟨_, rfl, fun r g1 g2 => ?_, fun k hk => ?_, ?_, fun l' hl' => ?_⟩
    · rw [up_fr g1, up_fr g2]
    · rw [up_k hk, up_r (by omega)]
    · rw [up_eq, up_r (by omega), tx_3 hc ho h, pop_set hl q']
      exact i_ad
    · rw [up_r (by omega), bit_set hl hl']
      by_cases g : l' = l
      · subst g
        rw [up_eq]
        simp
      · rw [up_k g, tx_i hc hl' ho h]
        simp [g]
/-- the latest of the first stores of a buffer -/
def aBufU (a : aS) (c l : Nat) : Nat → Int32
  | 0 => -1
  | k + 1 => if a.1 143 (4 * c + k) = Int32.ofNat l then a.1 144 (4 * c + k) else aBufU a c l k
theorem aBuf_U (h : a.1 142 c = Int32.ofNat n) (hn : n ≤ 4) : aBuf a c l = aBufU a c l n := by
  have e : ∀ k, k < 4 → (Int32.ofNat k < Int32.ofNat n) = (k < n) := fun k hk => i_lt (by omega) (by omega)
  unfold aBuf aBufS
  simp only [h, e 0 (by decide), e 1 (by decide), e 2 (by decide), e 3 (by decide)]
  have : n = 0 ∨ n = 1 ∨ n = 2 ∨ n = 3 ∨ n = 4 := by omega
  rcases this with q | q | q | q | q <;> subst q <;> simp [aBufU]
theorem co_7 (hc : c < 4) (h : CF I0 I a) : I (74 + 12 * c) 7 = a.1 142 c := (h.1.2.2.2.2.2.1 c hc).2.1
theorem co_10 (hc : c < 4) (h : CF I0 I a) : I (74 + 12 * c) 10 = a.1 151 c := (h.1.2.2.2.2.2.1 c hc).2.2.1
theorem co_11 (hc : c < 4) (h : CF I0 I a) : I (74 + 12 * c) 11 = a.1 152 c := (h.1.2.2.2.2.2.1 c hc).2.2.2.1
theorem co_b (hc : c < 4) (hk : k < n) (hn : n ≤ 4) (e : a.1 142 c = Int32.ofNat n) (h : CF I0 I a) : I (77 + 12 * c) k = a.1 143 (4 * c + k) ∧ I (78 + 12 * c) k = a.1 144 (4 * c + k) :=
  (h.1.2.2.2.2.2.1 c hc).2.2.2.2 k (by omega) (by rw [e, i_lt (by omega) (by omega)]; exact hk)
theorem cs_buf1 (hc : c < 4) (hn : n ≤ 4) (e : a.1 142 c = Int32.ofNat n) (h : CF I0 I a) : ∀ k N, k ≤ n → k + 1 ≤ N →
    f_X0_latestBuffered_7 N (74 + 12 * c) (Int32.ofNat l) (Int32.ofNat k + (-1)) (I, J) = some (aBufU a c l k, (I, J)) := by
  intro k
  induction k with
  | zero =>
    intro N h1 h2
    obtain ⟨N, rfl⟩ := Nat.exists_eq_add_of_le h2
    rw [show 0 + 1 + N = N + 1 by omega, f_X0_latestBuffered_7]
    have g1 : (Int32.ofNat 0 + (-1) < 0) = True := eq_true (by decide)
    simp only [g1, ↓reduceIte]
    rfl
  | succ k ih =>
    intro N h1 h2
    obtain ⟨N, rfl⟩ := Nat.exists_eq_add_of_le h2
    rw [show k + 1 + 1 + N = k + 1 + N + 1 by omega, f_X0_latestBuffered_7, n1]
    have g1 : (Int32.ofNat k < 0) = False := i_lt0 (by omega)
    have g2 : ((4 : Int32) ≤ Int32.ofNat k) = False := (i_le (n := 4) (by decide) (by omega)).trans (eq_false (by omega))
    have g3 : eix (Int32.ofNat k) 4 = true := i_ix (by omega) (by decide)
    have g4 : (Int32.ofNat k).toNatClampNeg = k := i_tn (by omega)
    have g5 := co_b (k := k) hc (by omega) hn e h
    simp only [eLt, Option.bind_some, ↓reduceIte, K_c74 hc, K_c75 hc, K_c76 hc, K_c77 hc, K_c78 hc, K_c79 hc, K_c80 hc, K_c81 hc, R_c1 hc, R_c2 hc, R_c3 hc, R_c4 hc, R_c5 hc, R_c6 hc, R_c8 hc, R_t5 hc, R_t6 hc, K_3, K_4, true_and, and_true, eB, decide_true, decide_false, Bool.or_true, Bool.true_or, not_true_eq_false, not_false_eq_true, g1, g2, g3, g4, g5.1, g5.2]
    unfold aBufU
    by_cases q : a.1 143 (4 * c + k) = Int32.ofNat l
    · simp only [q, not_true_eq_false, ↓reduceIte]
    · simp only [q, not_false_eq_true, ↓reduceIte]
      exact ih _ (by omega) (by omega)
theorem cs_buf (hc : c < 4) (hn : n ≤ 4) (e : a.1 142 c = Int32.ofNat n) (h : CF I0 I a) : f_X0_latestBuffered (74 + 12 * c) (Int32.ofNat l) (I, J) = some (aBuf a c l, (I, J)) := by
  unfold f_X0_latestBuffered
  simp only [eLt, Option.bind_some, ↓reduceIte, K_c74 hc, K_c75 hc, K_c76 hc, K_c77 hc, K_c78 hc, K_c79 hc, K_c80 hc, K_c81 hc, R_c1 hc, R_c2 hc, R_c3 hc, R_c4 hc, R_c5 hc, R_c6 hc, R_c8 hc, R_t5 hc, R_t6 hc, K_3, K_4, true_and, and_true, eB, decide_true, decide_false, Bool.or_true, Bool.true_or, not_true_eq_false, not_false_eq_true, co_7 hc h, e, Int32.sub_eq_add_neg]
  rw [cs_buf1 hc hn e h n 1000000 (Nat.le_refl _) (by omega), aBuf_U e hn]
end EPD
