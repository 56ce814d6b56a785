/-! the pure part: kinds, references, small ints -/
theorem K_2 : KH 2 = (9, 0) := rfl
theorem R_2_0 : RH 2 0 = 3 := rfl
theorem R_2_1 : RH 2 1 = 4 := rfl
theorem R_2_2 : RH 2 2 = 23 := rfl
theorem R_2_3 : RH 2 3 = 57 := rfl
theorem R_2_4 : RH 2 4 = 58 := rfl
theorem R_2_5 : RH 2 5 = 64 := rfl
theorem R_2_6 : RH 2 6 = 66 := rfl
theorem R_2_7 : RH 2 7 = 68 := rfl
theorem K_3 : KH 3 = (11, 10) := rfl
theorem K_4 : KH 4 = (3, 0) := rfl
theorem R_4_0 : RH 4 0 = 5 := rfl
theorem R_4_1 : RH 4 1 = 21 := rfl
theorem R_4_2 : RH 4 2 = 22 := rfl
theorem K_5 : KH 5 = (17, 15) := rfl
theorem K_21 : KH 21 = (11, 15) := rfl
theorem K_22 : KH 22 = (11, 15) := rfl
theorem K_23 : KH 23 = (1, 0) := rfl
theorem R_23_0 : RH 23 0 = 24 := rfl
theorem R_23_1 : RH 23 1 = 4 := rfl
theorem R_23_2 : RH 23 2 = 3 := rfl
theorem K_24 : KH 24 = (15, 16) := rfl
theorem K_57 : KH 57 = (14, 4) := rfl
theorem K_58 : KH 58 = (7, 0) := rfl
theorem R_58_0 : RH 58 0 = 59 := rfl
theorem R_58_1 : RH 58 1 = 60 := rfl
theorem R_58_2 : RH 58 2 = 61 := rfl
theorem R_58_3 : RH 58 3 = 62 := rfl
theorem R_58_4 : RH 58 4 = 63 := rfl
theorem K_59 : KH 59 = (11, 12) := rfl
theorem K_60 : KH 60 = (11, 12) := rfl
theorem K_61 : KH 61 = (11, 12) := rfl
theorem K_62 : KH 62 = (11, 12) := rfl
theorem K_63 : KH 63 = (11, 3) := rfl
theorem K_64 : KH 64 = (5, 0) := rfl
theorem R_64_0 : RH 64 0 = 65 := rfl
theorem K_65 : KH 65 = (11, 720) := rfl
theorem K_66 : KH 66 = (5, 0) := rfl
theorem R_66_0 : RH 66 0 = 67 := rfl
theorem K_67 : KH 67 = (11, 720) := rfl
theorem K_68 : KH 68 = (4, 0) := rfl
theorem R_68_0 : RH 68 0 = 69 := rfl
theorem R_68_1 : RH 68 1 = 70 := rfl
theorem R_68_2 : RH 68 2 = 71 := rfl
theorem R_68_3 : RH 68 3 = 72 := rfl
theorem K_69 : KH 69 = (11, 6) := rfl
theorem K_70 : KH 70 = (13, 12) := rfl
theorem K_71 : KH 71 = (11, 3) := rfl
theorem K_72 : KH 72 = (5, 0) := rfl
theorem R_72_0 : RH 72 0 = 73 := rfl
theorem K_73 : KH 73 = (11, 720) := rfl
theorem K_122 : KH 122 = (10, 0) := rfl
theorem R_122_0 : RH 122 0 = 123 := rfl
theorem R_122_1 : RH 122 1 = 124 := rfl
theorem R_122_2 : RH 122 2 = 125 := rfl
theorem R_122_3 : RH 122 3 = 126 := rfl
theorem R_122_4 : RH 122 4 = 127 := rfl
theorem R_122_5 : RH 122 5 = 128 := rfl
theorem R_122_6 : RH 122 6 = 129 := rfl
theorem R_122_7 : RH 122 7 = 130 := rfl
theorem R_122_8 : RH 122 8 = 131 := rfl
theorem R_122_9 : RH 122 9 = 132 := rfl
theorem R_122_10 : RH 122 10 = 133 := rfl
theorem R_122_11 : RH 122 11 = 134 := rfl
theorem R_122_12 : RH 122 12 = 135 := rfl
theorem R_122_13 : RH 122 13 = 136 := rfl
theorem R_122_14 : RH 122 14 = 137 := rfl
theorem R_122_15 : RH 122 15 = 138 := rfl
theorem R_122_16 : RH 122 16 = 139 := rfl
theorem R_122_17 : RH 122 17 = 140 := rfl
theorem R_122_19 : RH 122 19 = 141 := rfl
theorem R_122_20 : RH 122 20 = 142 := rfl
theorem R_122_21 : RH 122 21 = 143 := rfl
theorem R_122_22 : RH 122 22 = 144 := rfl
theorem R_122_23 : RH 122 23 = 145 := rfl
theorem R_122_24 : RH 122 24 = 146 := rfl
theorem R_122_25 : RH 122 25 = 147 := rfl
theorem R_122_26 : RH 122 26 = 148 := rfl
theorem R_122_27 : RH 122 27 = 149 := rfl
theorem R_122_28 : RH 122 28 = 150 := rfl
theorem R_122_29 : RH 122 29 = 151 := rfl
theorem R_122_30 : RH 122 30 = 152 := rfl
theorem R_122_31 : RH 122 31 = 153 := rfl
theorem R_122_33 : RH 122 33 = 154 := rfl
theorem R_122_34 : RH 122 34 = 155 := rfl
theorem R_122_35 : RH 122 35 = 156 := rfl
theorem R_122_36 : RH 122 36 = 157 := rfl
theorem R_122_37 : RH 122 37 = 158 := rfl
theorem R_122_39 : RH 122 39 = 159 := rfl
theorem R_122_41 : RH 122 41 = 160 := rfl
theorem K_123 : KH 123 = (11, 16) := rfl
theorem K_124 : KH 124 = (11, 16) := rfl
theorem K_125 : KH 125 = (11, 16) := rfl
theorem K_126 : KH 126 = (13, 16) := rfl
theorem K_127 : KH 127 = (11, 16) := rfl
theorem K_128 : KH 128 = (11, 16) := rfl
theorem K_129 : KH 129 = (11, 16) := rfl
theorem K_130 : KH 130 = (11, 16) := rfl
theorem K_131 : KH 131 = (11, 128) := rfl
theorem K_132 : KH 132 = (11, 15) := rfl
theorem K_133 : KH 133 = (11, 15) := rfl
theorem K_134 : KH 134 = (11, 1920) := rfl
theorem K_135 : KH 135 = (11, 16) := rfl
theorem K_136 : KH 136 = (11, 16) := rfl
theorem K_137 : KH 137 = (11, 16) := rfl
theorem K_138 : KH 138 = (11, 16) := rfl
theorem K_139 : KH 139 = (13, 16) := rfl
theorem K_140 : KH 140 = (11, 16) := rfl
theorem K_141 : KH 141 = (11, 64) := rfl
theorem K_142 : KH 142 = (11, 4) := rfl
theorem K_143 : KH 143 = (11, 16) := rfl
theorem K_144 : KH 144 = (11, 16) := rfl
theorem K_145 : KH 145 = (13, 4) := rfl
theorem K_146 : KH 146 = (13, 4) := rfl
theorem K_147 : KH 147 = (11, 4) := rfl
theorem K_148 : KH 148 = (11, 4) := rfl
theorem K_149 : KH 149 = (11, 4) := rfl
theorem K_150 : KH 150 = (11, 64) := rfl
theorem K_151 : KH 151 = (11, 4) := rfl
theorem K_152 : KH 152 = (11, 4) := rfl
theorem K_153 : KH 153 = (11, 10) := rfl
theorem K_154 : KH 154 = (11, 3) := rfl
theorem K_155 : KH 155 = (11, 12) := rfl
theorem K_156 : KH 156 = (11, 12) := rfl
theorem K_157 : KH 157 = (11, 12) := rfl
theorem K_158 : KH 158 = (12, 256) := rfl
theorem K_159 : KH 159 = (12, 8192) := rfl
theorem K_160 : KH 160 = (11, 1024) := rfl
theorem K_161 : KH 161 = (12, 1) := rfl

section EPU
variable {c p l q : Nat}
theorem K_q (h : q < 15) : KH (6 + q) = (11, 64) := by
  have : ∀ q, q < 15 → KH (6 + q) = (11, 64) := by decide
  exact this q h
theorem R_q (h : q < 15) : RH 5 q = 6 + q := by
  have : ∀ q, q < 15 → RH 5 q = 6 + q := by decide
  exact this q h
theorem R_l (h : l < 16) : RH 24 l = 25 + 2 * l := by
  have : ∀ l, l < 16 → RH 24 l = 25 + 2 * l := by decide
  exact this l h
theorem K_l (h : l < 16) : KH (25 + 2 * l) = (2, 0) := by
  have : ∀ l, l < 16 → KH (25 + 2 * l) = (2, 0) := by decide
  exact this l h
theorem K_w (h : l < 16) : KH (26 + 2 * l) = (11, 4) := by
  have : ∀ l, l < 16 → KH (26 + 2 * l) = (11, 4) := by decide
  exact this l h
theorem R_l6 (h : l < 16) : RH (25 + 2 * l) 6 = 26 + 2 * l := by
  have : ∀ l, l < 16 → RH (25 + 2 * l) 6 = 26 + 2 * l := by decide
  exact this l h
theorem R_c (h : c < 4) : RH 57 c = 74 + 12 * c := by
  have : ∀ c, c < 4 → RH 57 c = 74 + 12 * c := by decide
  exact this c h

theorem K_c74 (h : c < 4) : KH (74 + 12 * c) = (0, 0) := by
  have : ∀ c, c < 4 → KH (74 + 12 * c) = (0, 0) := by decide
  exact this c h
theorem K_c75 (h : c < 4) : KH (75 + 12 * c) = (16, 4) := by
  have : ∀ c, c < 4 → KH (75 + 12 * c) = (16, 4) := by decide
  exact this c h
theorem K_c76 (h : c < 4) : KH (76 + 12 * c) = (11, 16) := by
  have : ∀ c, c < 4 → KH (76 + 12 * c) = (11, 16) := by decide
  exact this c h
theorem K_c77 (h : c < 4) : KH (77 + 12 * c) = (11, 4) := by
  have : ∀ c, c < 4 → KH (77 + 12 * c) = (11, 4) := by decide
  exact this c h
theorem K_c78 (h : c < 4) : KH (78 + 12 * c) = (11, 4) := by
  have : ∀ c, c < 4 → KH (78 + 12 * c) = (11, 4) := by decide
  exact this c h
theorem K_c79 (h : c < 4) : KH (79 + 12 * c) = (8, 0) := by
  have : ∀ c, c < 4 → KH (79 + 12 * c) = (8, 0) := by decide
  exact this c h
theorem K_c80 (h : c < 4) : KH (80 + 12 * c) = (13, 16) := by
  have : ∀ c, c < 4 → KH (80 + 12 * c) = (13, 16) := by decide
  exact this c h
theorem K_c81 (h : c < 4) : KH (81 + 12 * c) = (11, 16) := by
  have : ∀ c, c < 4 → KH (81 + 12 * c) = (11, 16) := by decide
  exact this c h
theorem K_p (h : c < 4) (g : p < 4) : KH (82 + 12 * c + p) = (6, 0) := by
  have : ∀ c, c < 4 → ∀ p, p < 4 → KH (82 + 12 * c + p) = (6, 0) := by decide
  exact this c h p g
theorem R_p (h : c < 4) (g : p < 4) : RH (75 + 12 * c) p = 82 + 12 * c + p := by
  have : ∀ c, c < 4 → ∀ p, p < 4 → RH (75 + 12 * c) p = 82 + 12 * c + p := by decide
  exact this c h p g
theorem R_c3 (h : c < 4) : RH (74 + 12 * c) 3 = 75 + 12 * c := by
  have : ∀ c, c < 4 → RH (74 + 12 * c) 3 = 75 + 12 * c := by decide
  exact this c h
theorem R_c4 (h : c < 4) : RH (74 + 12 * c) 4 = 76 + 12 * c := by
  have : ∀ c, c < 4 → RH (74 + 12 * c) 4 = 76 + 12 * c := by decide
  exact this c h
theorem R_c5 (h : c < 4) : RH (74 + 12 * c) 5 = 77 + 12 * c := by
  have : ∀ c, c < 4 → RH (74 + 12 * c) 5 = 77 + 12 * c := by decide
  exact this c h
theorem R_c6 (h : c < 4) : RH (74 + 12 * c) 6 = 78 + 12 * c := by
  have : ∀ c, c < 4 → RH (74 + 12 * c) 6 = 78 + 12 * c := by decide
  exact this c h
theorem R_c8 (h : c < 4) : RH (74 + 12 * c) 8 = 79 + 12 * c := by
  have : ∀ c, c < 4 → RH (74 + 12 * c) 8 = 79 + 12 * c := by decide
  exact this c h
theorem R_c1 (h : c < 4) : RH (74 + 12 * c) 1 = 4 := by
  have : ∀ c, c < 4 → RH (74 + 12 * c) 1 = 4 := by decide
  exact this c h
theorem R_c2 (h : c < 4) : RH (74 + 12 * c) 2 = 3 := by
  have : ∀ c, c < 4 → RH (74 + 12 * c) 2 = 3 := by decide
  exact this c h
theorem R_t5 (h : c < 4) : RH (79 + 12 * c) 5 = 80 + 12 * c := by
  have : ∀ c, c < 4 → RH (79 + 12 * c) 5 = 80 + 12 * c := by decide
  exact this c h
theorem R_t6 (h : c < 4) : RH (79 + 12 * c) 6 = 81 + 12 * c := by
  have : ∀ c, c < 4 → RH (79 + 12 * c) 6 = 81 + 12 * c := by decide
  exact this c h
end EPU

section EPI
variable {n m k : Nat}
theorem i_tn (h : n < 2147483648) : (Int32.ofNat n).toNatClampNeg = n := Int32.toNatClampNeg_ofNat_of_lt h
theorem i_ti (h : n < 2147483648) : (Int32.ofNat n).toInt = n := Int32.toInt_ofNat_of_lt h
theorem i_lt0 (h : n < 2147483648) : (Int32.ofNat n < 0) = False := by
  rw [Int32.lt_iff_toInt_lt, i_ti h]
  simp
theorem i_eq (h : n < 2147483648) (g : m < 2147483648) : (Int32.ofNat n = Int32.ofNat m) = (n = m) := by
  apply propext
  constructor
  · intro e
    have := congrArg Int32.toNatClampNeg e
    rwa [i_tn h, i_tn g] at this
  · intro e
    rw [e]
theorem i_lt (h : n < 2147483648) (g : m < 2147483648) : (Int32.ofNat n < Int32.ofNat m) = (n < m) := propext (Int32.ofNat_lt_iff_lt h g)
theorem i_le (h : n < 2147483648) (g : m < 2147483648) : (Int32.ofNat n ≤ Int32.ofNat m) = (n ≤ m) := propext (Int32.ofNat_le_iff_le h g)
theorem i_ne1 (h : n < 2147483648) : (Int32.ofNat n = -1) = False := by
  apply propext
  constructor
  · intro e
    have := congrArg Int32.toInt e
    rw [i_ti h] at this
    have h2 : (-1 : Int32).toInt = -1 := by decide
    rw [h2] at this
    omega
  · exact False.elim
theorem i_ad : Int32.ofNat n + Int32.ofNat m = Int32.ofNat (n + m) := (Int32.ofNat_add n m).symm
theorem i_mu : Int32.ofNat n * Int32.ofNat m = Int32.ofNat (n * m) := (Int32.ofNat_mul n m).symm
theorem i_sb (h : m ≤ n) : Int32.ofNat n - Int32.ofNat m = Int32.ofNat (n - m) := (Int32.ofNat_sub n m h).symm
theorem i_dv (h : n < 2147483648) (g : m < 2147483648) : Int32.ofNat n / Int32.ofNat m = Int32.ofNat (n / m) := (Int32.ofNat_div h g).symm
theorem i_md (h : n < 2147483648) (g : m < 2147483648) : Int32.ofNat n - Int32.ofNat n / Int32.ofNat m * Int32.ofNat m = Int32.ofNat (n % m) := by
  rw [i_dv h g, i_mu, i_sb (Nat.div_mul_le_self n m)]
  congr 1
  have := Nat.div_add_mod n m
  have h2 : n / m * m = m * (n / m) := Nat.mul_comm _ _
  omega
theorem i_ex {x : Int32} (h0 : ¬ x < 0) : ∃ n, n < 2147483648 ∧ x = Int32.ofNat n := by
  refine ⟨x.toNatClampNeg, x.toNatClampNeg_lt, ?_⟩
  rw [Int32.ofNat_toNatClampNeg]
  rw [Int32.lt_iff_toInt_lt] at h0
  rw [Int32.le_iff_toInt_le]
  exact Int.not_lt.1 h0
/-- an int below a small bound -/
theorem i_in {x : Int32} {b : Nat} (hb : b < 2147483648) (h0 : ¬ x < 0) (h1 : x < Int32.ofNat b) : ∃ n, n < b ∧ x = Int32.ofNat n := by
  obtain ⟨n, hn, rfl⟩ := i_ex h0
  rw [i_lt hn hb] at h1
  exact ⟨n, h1, rfl⟩
end EPI

section EPE
variable {α : Type} {f : Nat → Nat → α} {r k r' k' : Nat} {x : α}
theorem up_eq : eup f r k x r k = x := by
  unfold eup
  rw [if_pos ⟨rfl, rfl⟩]
theorem up_r (h : ¬ r' = r) : eup f r k x r' k' = f r' k' := by
  unfold eup
  rw [if_neg (fun q => h q.1)]
theorem up_k (h : ¬ k' = k) : eup f r k x r' k' = f r' k' := by
  unfold eup
  rw [if_neg (fun q => h q.2)]
theorem up_if : eup f r k x r k' = if k' = k then x else f r k' := by
  unfold eup
  by_cases h : k' = k
  · rw [if_pos ⟨rfl, h⟩, if_pos h]
  · rw [if_neg (fun q => h q.2), if_neg h]
variable {g : Nat → α}
theorem uA_eq : eupA g r x r = x := by
  unfold eupA
  rw [if_pos rfl]
theorem uA_ne (h : ¬ r' = r) : eupA g r x r' = g r' := by
  unfold eupA
  rw [if_neg h]
end EPE

/-- a ring: its cells from 'first' on hold the list -/
def Rng {α : Type} (A : Nat → Int32) (F S : Int32) (cap : Nat) (enc : α → Int32) (L : List α) : Prop :=
  ∃ f, f < cap ∧ F = Int32.ofNat f ∧ S = Int32.ofNat L.length ∧ L.length ≤ cap ∧ ∀ k (h : k < L.length), A ((f + k) % cap) = enc L[k]
section EPR
variable {α : Type} {A B : Nat → Int32} {F S : Int32} {cap : Nat} {enc : α → Int32} {L : List α} {m : α}
theorem Rng_congr (h : Rng A F S cap enc L) (hA : ∀ i, i < cap → B i = A i) : Rng B F S cap enc L := by
  obtain ⟨f, h1, h2, h3, h4, h5⟩ := h
  refine ⟨f, h1, h2, h3, h4, fun k hk => ?_⟩
  rw [hA _ (Nat.mod_lt _ (by omega))]
  exact h5 k hk
theorem Rng_push (h : Rng A F S cap enc L) (hl : L.length < cap) (hcap : cap < 65536) :
    ∃ e, e < cap ∧ (F + S) - (F + S) / Int32.ofNat cap * Int32.ofNat cap = Int32.ofNat e ∧
      ∀ B, B e = enc m → (∀ i, i < cap → i ≠ e → B i = A i) → Rng B F (S + 1) cap enc (L ++ [m]) := by
  obtain ⟨f, h1, h2, h3, h4, h5⟩ := h
  refine ⟨(f + L.length) % cap, Nat.mod_lt _ (by omega), ?_, fun B hB hB2 => ⟨f, h1, h2, ?_, ?_, fun k hk => ?_⟩⟩
  · rw [h2, h3, i_ad, i_md (by omega) (by omega)]
  · rw [h3, List.length_append]
    exact i_ad
  · rw [List.length_append]
    exact hl
  · rw [List.length_append] at hk
    have hk : k < L.length + 1 := hk
    by_cases q : k < L.length
    · rw [List.getElem_append_left q, ← h5 k q]
      refine hB2 _ (Nat.mod_lt _ (by omega)) ?_
      intro e
      have e2 := Nat.sub_mod_eq_zero_of_mod_eq e.symm
      rw [Nat.add_sub_add_left, Nat.mod_eq_of_lt (by omega)] at e2
      omega
    · have : k = L.length := by omega
      subst this
      rw [List.getElem_append_right (by omega)]
      simp [hB]
theorem Rng_pop (h : Rng A F S cap enc (m :: L)) (hcap : cap < 65536) :
    ∃ f, f < cap ∧ F = Int32.ofNat f ∧ A f = enc m ∧ S = Int32.ofNat (L.length + 1) ∧ L.length + 1 ≤ cap ∧
      Rng A ((F + 1) - (F + 1) / Int32.ofNat cap * Int32.ofNat cap) (S - 1) cap enc L := by
  obtain ⟨f, h1, h2, h3, h4, h5⟩ := h
  have h40 : L.length + 1 ≤ cap := h4
  refine ⟨f, h1, h2, ?_, h3, h4, (f + 1) % cap, Nat.mod_lt _ (by omega), ?_, ?_, by omega, fun k hk => ?_⟩
  · have := h5 0 (by simp)
    rw [Nat.add_zero, Nat.mod_eq_of_lt h1] at this
    exact this
  · rw [h2]
    show Int32.ofNat f + Int32.ofNat 1 - (Int32.ofNat f + Int32.ofNat 1) / _ * _ = _
    rw [i_ad, i_md (by omega) (by omega)]
  · rw [h3]
    show Int32.ofNat (L.length + 1) - Int32.ofNat 1 = _
    rw [i_sb (by omega)]
    rfl
  · have := h5 (k + 1) (by simp; omega)
    rw [List.getElem_cons_succ] at this
    rw [← this]
    congr 1
    rw [Nat.mod_add_mod]
    congr 1
    omega
theorem Rng_len (h : Rng A F S cap enc L) : S = Int32.ofNat L.length ∧ L.length ≤ cap := by
  obtain ⟨f, h1, h2, h3, h4, h5⟩ := h
  exact ⟨h3, h4⟩
end EPR

