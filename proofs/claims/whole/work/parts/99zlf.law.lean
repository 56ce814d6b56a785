/-! the law, its loop -/
set_option maxHeartbeats 40000000 in
set_option maxRecDepth 20000 in
theorem sk_law (N : Nat) (xs : Nat → Int32) : ∀ (n : Nat) (x4 : Int32) (σ : eMem) (c z : Nat), c + 10 * n ≤ 601024 → z + 100 * n ≤ 7293034 → Snd false (some (N, xs)) 23 m_Lk_h (f_law N xs n x4 σ) (cN iI) (23, [(4, .inl (x4)), (3, .inr (.inr (161))), (2, .inr (.inr (122))), (1, .inr (.inr (2))), (0, .inr (.inr (1)))], [], hp σ, c, z) := by
  intro n
  induction n with
  | zero => exact fun _ _ _ _ _ _ => T_none
  | succ n ih =>
    intro x4 σ c z hc hz
    unfold f_law
    refine T_go (S' := (29, [(4, .inl (x4)), (3, .inr (.inr (161))), (2, .inr (.inr (122))), (1, .inr (.inr (2))), (0, .inr (.inr (1)))], [.inl (((Int32.ofNat N) - (5 : Int32))), .inl (x4)], hp σ, c, z)) 5 rfl ?_
    refine TL_icmp_gt 1599 rfl rfl (fun _ => ?_) (fun _ => ?_)
    · refine T_go (S' := (1600, [(4, .inl (x4)), (3, .inr (.inr (161))), (2, .inr (.inr (122))), (1, .inr (.inr (2))), (0, .inr (.inr (1)))], [.inl ((1 : Int32))], hp σ, c, z)) 1 rfl ?_
      exact T_chkr rfl
    · refine T_go (S' := (35, [(4, .inl (x4)), (3, .inr (.inr (161))), (2, .inr (.inr (122))), (1, .inr (.inr (2))), (0, .inr (.inr (1)))], [.inl (x4), .inr (.inr (1))], hp σ, c, z)) 2 rfl ?_
      refine TL_iald rfl (fun _ => ?_)
      refine T_go (S' := (39, [(4, .inl (x4)), (3, .inr (.inr (161))), (2, .inr (.inr (122))), (1, .inr (.inr (2))), (0, .inr (.inr (1)))], [.inl (((xs x4.toNatClampNeg) &&& (31 : Int32)))], hp σ, c, z)) 2 rfl ?_
      refine TL_sw (0 : Int32) rfl (fun _ => ?_) (fun q0 => ?_)
      · exact Snd_h (s_law_0 N xs (f_law N xs n) (601024 - 10 * n) (7293034 - 100 * n) (fun x4 σ c z h1 h2 => Snd_h_b (ih x4 σ c z (by omega) (by omega))) x4 σ c z (by omega) (by omega) (by omega) (by omega))
      refine TL_sw (1 : Int32) rfl (fun _ => ?_) (fun q1 => ?_)
      · exact Snd_h (s_law_1 N xs (f_law N xs n) (601024 - 10 * n) (7293034 - 100 * n) (fun x4 σ c z h1 h2 => Snd_h_b (ih x4 σ c z (by omega) (by omega))) x4 σ c z (by omega) (by omega) (by omega) (by omega))
      refine TL_sw (2 : Int32) rfl (fun _ => ?_) (fun q2 => ?_)
      · exact Snd_h (s_law_2 N xs (f_law N xs n) (601024 - 10 * n) (7293034 - 100 * n) (fun x4 σ c z h1 h2 => Snd_h_b (ih x4 σ c z (by omega) (by omega))) x4 σ c z (by omega) (by omega) (by omega) (by omega))
      refine TL_sw (3 : Int32) rfl (fun _ => ?_) (fun q3 => ?_)
      · exact Snd_h (s_law_3 N xs (f_law N xs n) (601024 - 10 * n) (7293034 - 100 * n) (fun x4 σ c z h1 h2 => Snd_h_b (ih x4 σ c z (by omega) (by omega))) x4 σ c z (by omega) (by omega) (by omega) (by omega))
      refine TL_sw (4 : Int32) rfl (fun _ => ?_) (fun q4 => ?_)
      · exact Snd_h (s_law_4 N xs (f_law N xs n) (601024 - 10 * n) (7293034 - 100 * n) (fun x4 σ c z h1 h2 => Snd_h_b (ih x4 σ c z (by omega) (by omega))) x4 σ c z (by omega) (by omega) (by omega) (by omega))
      refine TL_sw (5 : Int32) rfl (fun _ => ?_) (fun q5 => ?_)
      · exact Snd_h (s_law_5 N xs (f_law N xs n) (601024 - 10 * n) (7293034 - 100 * n) (fun x4 σ c z h1 h2 => Snd_h_b (ih x4 σ c z (by omega) (by omega))) x4 σ c z (by omega) (by omega) (by omega) (by omega))
      refine TL_sw (6 : Int32) rfl (fun _ => ?_) (fun q6 => ?_)
      · exact Snd_h (s_law_6 N xs (f_law N xs n) (601024 - 10 * n) (7293034 - 100 * n) (fun x4 σ c z h1 h2 => Snd_h_b (ih x4 σ c z (by omega) (by omega))) x4 σ c z (by omega) (by omega) (by omega) (by omega))
      refine TL_sw (7 : Int32) rfl (fun _ => ?_) (fun q7 => ?_)
      · exact Snd_h (s_law_7 N xs (f_law N xs n) (601024 - 10 * n) (7293034 - 100 * n) (fun x4 σ c z h1 h2 => Snd_h_b (ih x4 σ c z (by omega) (by omega))) x4 σ c z (by omega) (by omega) (by omega) (by omega))
      refine TL_sw (8 : Int32) rfl (fun _ => ?_) (fun q8 => ?_)
      · exact Snd_h (s_law_8 N xs (f_law N xs n) (601024 - 10 * n) (7293034 - 100 * n) (fun x4 σ c z h1 h2 => Snd_h_b (ih x4 σ c z (by omega) (by omega))) x4 σ c z (by omega) (by omega) (by omega) (by omega))
      refine TL_sw (9 : Int32) rfl (fun _ => ?_) (fun q9 => ?_)
      · exact Snd_h (s_law_9 N xs (f_law N xs n) (601024 - 10 * n) (7293034 - 100 * n) (fun x4 σ c z h1 h2 => Snd_h_b (ih x4 σ c z (by omega) (by omega))) x4 σ c z (by omega) (by omega) (by omega) (by omega))
      refine TL_sw (10 : Int32) rfl (fun _ => ?_) (fun q10 => ?_)
      · exact Snd_h (s_law_10 N xs (f_law N xs n) (601024 - 10 * n) (7293034 - 100 * n) (fun x4 σ c z h1 h2 => Snd_h_b (ih x4 σ c z (by omega) (by omega))) x4 σ c z (by omega) (by omega) (by omega) (by omega))
      refine TL_sw (11 : Int32) rfl (fun _ => ?_) (fun q11 => ?_)
      · exact Snd_h (s_law_11 N xs (f_law N xs n) (601024 - 10 * n) (7293034 - 100 * n) (fun x4 σ c z h1 h2 => Snd_h_b (ih x4 σ c z (by omega) (by omega))) x4 σ c z (by omega) (by omega) (by omega) (by omega))
      refine TL_sw (12 : Int32) rfl (fun _ => ?_) (fun q12 => ?_)
      · exact Snd_h (s_law_12 N xs (f_law N xs n) (601024 - 10 * n) (7293034 - 100 * n) (fun x4 σ c z h1 h2 => Snd_h_b (ih x4 σ c z (by omega) (by omega))) x4 σ c z (by omega) (by omega) (by omega) (by omega))
      refine TL_sw (13 : Int32) rfl (fun _ => ?_) (fun q13 => ?_)
      · exact Snd_h (s_law_13 N xs (f_law N xs n) (601024 - 10 * n) (7293034 - 100 * n) (fun x4 σ c z h1 h2 => Snd_h_b (ih x4 σ c z (by omega) (by omega))) x4 σ c z (by omega) (by omega) (by omega) (by omega))
      refine TL_sw (14 : Int32) rfl (fun _ => ?_) (fun q14 => ?_)
      · exact Snd_h (s_law_14 N xs (f_law N xs n) (601024 - 10 * n) (7293034 - 100 * n) (fun x4 σ c z h1 h2 => Snd_h_b (ih x4 σ c z (by omega) (by omega))) x4 σ c z (by omega) (by omega) (by omega) (by omega))
      refine TL_sw (15 : Int32) rfl (fun _ => ?_) (fun q15 => ?_)
      · exact Snd_h (s_law_15 N xs (f_law N xs n) (601024 - 10 * n) (7293034 - 100 * n) (fun x4 σ c z h1 h2 => Snd_h_b (ih x4 σ c z (by omega) (by omega))) x4 σ c z (by omega) (by omega) (by omega) (by omega))
      refine TL_sw (16 : Int32) rfl (fun _ => ?_) (fun q16 => ?_)
      · exact Snd_h (s_law_16 N xs (f_law N xs n) (601024 - 10 * n) (7293034 - 100 * n) (fun x4 σ c z h1 h2 => Snd_h_b (ih x4 σ c z (by omega) (by omega))) x4 σ c z (by omega) (by omega) (by omega) (by omega))
      refine TL_sw (17 : Int32) rfl (fun _ => ?_) (fun q17 => ?_)
      · exact Snd_h (s_law_17 N xs (f_law N xs n) (601024 - 10 * n) (7293034 - 100 * n) (fun x4 σ c z h1 h2 => Snd_h_b (ih x4 σ c z (by omega) (by omega))) x4 σ c z (by omega) (by omega) (by omega) (by omega))
      refine TL_sw (18 : Int32) rfl (fun _ => ?_) (fun q18 => ?_)
      · exact Snd_h (s_law_18 N xs (f_law N xs n) (601024 - 10 * n) (7293034 - 100 * n) (fun x4 σ c z h1 h2 => Snd_h_b (ih x4 σ c z (by omega) (by omega))) x4 σ c z (by omega) (by omega) (by omega) (by omega))
      refine TL_sw (19 : Int32) rfl (fun _ => ?_) (fun q19 => ?_)
      · exact Snd_h (s_law_19 N xs (f_law N xs n) (601024 - 10 * n) (7293034 - 100 * n) (fun x4 σ c z h1 h2 => Snd_h_b (ih x4 σ c z (by omega) (by omega))) x4 σ c z (by omega) (by omega) (by omega) (by omega))
      refine TL_sw (20 : Int32) rfl (fun _ => ?_) (fun q20 => ?_)
      · exact Snd_h (s_law_20 N xs (f_law N xs n) (601024 - 10 * n) (7293034 - 100 * n) (fun x4 σ c z h1 h2 => Snd_h_b (ih x4 σ c z (by omega) (by omega))) x4 σ c z (by omega) (by omega) (by omega) (by omega))
      refine TL_sw (21 : Int32) rfl (fun _ => ?_) (fun q21 => ?_)
      · exact Snd_h (s_law_21 N xs (f_law N xs n) (601024 - 10 * n) (7293034 - 100 * n) (fun x4 σ c z h1 h2 => Snd_h_b (ih x4 σ c z (by omega) (by omega))) x4 σ c z (by omega) (by omega) (by omega) (by omega))
      refine TL_sw (22 : Int32) rfl (fun _ => ?_) (fun q22 => ?_)
      · exact Snd_h (s_law_22 N xs (f_law N xs n) (601024 - 10 * n) (7293034 - 100 * n) (fun x4 σ c z h1 h2 => Snd_h_b (ih x4 σ c z (by omega) (by omega))) x4 σ c z (by omega) (by omega) (by omega) (by omega))
      refine TL_sw (23 : Int32) rfl (fun _ => ?_) (fun q23 => ?_)
      · exact Snd_h (s_law_23 N xs (f_law N xs n) (601024 - 10 * n) (7293034 - 100 * n) (fun x4 σ c z h1 h2 => Snd_h_b (ih x4 σ c z (by omega) (by omega))) x4 σ c z (by omega) (by omega) (by omega) (by omega))
      refine TL_sw (24 : Int32) rfl (fun _ => ?_) (fun q24 => ?_)
      · exact Snd_h (s_law_24 N xs (f_law N xs n) (601024 - 10 * n) (7293034 - 100 * n) (fun x4 σ c z h1 h2 => Snd_h_b (ih x4 σ c z (by omega) (by omega))) x4 σ c z (by omega) (by omega) (by omega) (by omega))
      have hq : (((xs x4.toNatClampNeg) &&& (31 : Int32))).toInt < 0 ∨ 24 < (((xs x4.toNatClampNeg) &&& (31 : Int32))).toInt := by
        have g0 := e_i32 (k := 0) (x := ((xs x4.toNatClampNeg) &&& (31 : Int32))) q0 (by decide)
        have g1 := e_i32 (k := 1) (x := ((xs x4.toNatClampNeg) &&& (31 : Int32))) q1 (by decide)
        have g2 := e_i32 (k := 2) (x := ((xs x4.toNatClampNeg) &&& (31 : Int32))) q2 (by decide)
        have g3 := e_i32 (k := 3) (x := ((xs x4.toNatClampNeg) &&& (31 : Int32))) q3 (by decide)
        have g4 := e_i32 (k := 4) (x := ((xs x4.toNatClampNeg) &&& (31 : Int32))) q4 (by decide)
        have g5 := e_i32 (k := 5) (x := ((xs x4.toNatClampNeg) &&& (31 : Int32))) q5 (by decide)
        have g6 := e_i32 (k := 6) (x := ((xs x4.toNatClampNeg) &&& (31 : Int32))) q6 (by decide)
        have g7 := e_i32 (k := 7) (x := ((xs x4.toNatClampNeg) &&& (31 : Int32))) q7 (by decide)
        have g8 := e_i32 (k := 8) (x := ((xs x4.toNatClampNeg) &&& (31 : Int32))) q8 (by decide)
        have g9 := e_i32 (k := 9) (x := ((xs x4.toNatClampNeg) &&& (31 : Int32))) q9 (by decide)
        have g10 := e_i32 (k := 10) (x := ((xs x4.toNatClampNeg) &&& (31 : Int32))) q10 (by decide)
        have g11 := e_i32 (k := 11) (x := ((xs x4.toNatClampNeg) &&& (31 : Int32))) q11 (by decide)
        have g12 := e_i32 (k := 12) (x := ((xs x4.toNatClampNeg) &&& (31 : Int32))) q12 (by decide)
        have g13 := e_i32 (k := 13) (x := ((xs x4.toNatClampNeg) &&& (31 : Int32))) q13 (by decide)
        have g14 := e_i32 (k := 14) (x := ((xs x4.toNatClampNeg) &&& (31 : Int32))) q14 (by decide)
        have g15 := e_i32 (k := 15) (x := ((xs x4.toNatClampNeg) &&& (31 : Int32))) q15 (by decide)
        have g16 := e_i32 (k := 16) (x := ((xs x4.toNatClampNeg) &&& (31 : Int32))) q16 (by decide)
        have g17 := e_i32 (k := 17) (x := ((xs x4.toNatClampNeg) &&& (31 : Int32))) q17 (by decide)
        have g18 := e_i32 (k := 18) (x := ((xs x4.toNatClampNeg) &&& (31 : Int32))) q18 (by decide)
        have g19 := e_i32 (k := 19) (x := ((xs x4.toNatClampNeg) &&& (31 : Int32))) q19 (by decide)
        have g20 := e_i32 (k := 20) (x := ((xs x4.toNatClampNeg) &&& (31 : Int32))) q20 (by decide)
        have g21 := e_i32 (k := 21) (x := ((xs x4.toNatClampNeg) &&& (31 : Int32))) q21 (by decide)
        have g22 := e_i32 (k := 22) (x := ((xs x4.toNatClampNeg) &&& (31 : Int32))) q22 (by decide)
        have g23 := e_i32 (k := 23) (x := ((xs x4.toNatClampNeg) &&& (31 : Int32))) q23 (by decide)
        have g24 := e_i32 (k := 24) (x := ((xs x4.toNatClampNeg) &&& (31 : Int32))) q24 (by decide)
        omega
      refine TL_tso 1593 rfl hq rfl ?_
      refine T_go (S' := (23, [(4, .inl ((x4 + (5 : Int32)))), (3, .inr (.inr (161))), (2, .inr (.inr (122))), (1, .inr (.inr (2))), (0, .inr (.inr (1)))], [], hp σ, c, z)) 2 rfl ?_
      refine T_loc (ls' := [(4, .inl ((x4 + (5 : Int32)))), (3, .inr (.inr (161))), (2, .inr (.inr (122))), (1, .inr (.inr (2))), (0, .inr (.inr (1)))]) [0, 1, 2, 3, 4] rfl ?_
      exact ih (x4 + (5 : Int32)) σ (c) (z) (by omega) (by omega)
theorem s_law (N : Nat) (xs : Nat → Int32) : ∀ (n : Nat) (x4 : Int32) (σ : eMem) (c z : Nat), c + 10 * n ≤ 601024 → z + 100 * n ≤ 7293034 → Snd false (some (N, xs)) 23 m_L_law (f_law N xs n x4 σ) (cN iI) (23, [(4, .inl (x4)), (3, .inr (.inr (161))), (2, .inr (.inr (122))), (1, .inr (.inr (2))), (0, .inr (.inr (1)))], [], hp σ, c, z) :=
  fun n x4 σ c z h1 h2 => Snd_h_b (sk_law N xs n x4 σ c z h1 h2)
