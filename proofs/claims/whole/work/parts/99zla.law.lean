/-! the law, its cases -/
set_option maxHeartbeats 40000000 in
set_option maxRecDepth 20000 in
theorem sk_law_0 (N : Nat) (xs : Nat → Int32) (rec : Int32 → eMem → Option (Int32 × eMem)) (C Z : Nat) (ih : ∀ (x4 : Int32) (σ : eMem) (c z : Nat), c ≤ C → z ≤ Z → Snd false (some (N, xs)) 23 m_Lk_0 (rec x4 σ) (cN iI) (23, [(4, .inl (x4)), (3, .inr (.inr (161))), (2, .inr (.inr (122))), (1, .inr (.inr (2))), (0, .inr (.inr (1)))], [], hp σ, c, z)) (x4 : Int32) (σ : eMem) (c z : Nat) (hc : c + 10 ≤ C) (hz : z + 100 ≤ Z) (hC : C ≤ 601024) (hZ : Z ≤ 7293034) : Snd false (some (N, xs)) 23 m_Lk_0 (f_law_0 N xs rec x4 σ) (cN iI) (152, [(4, .inl (x4)), (3, .inr (.inr (161))), (2, .inr (.inr (122))), (1, .inr (.inr (2))), (0, .inr (.inr (1)))], [], hp σ, c, z) := by
  unfold f_law_0
  refine T_go (S' := (158, [(4, .inl (x4)), (3, .inr (.inr (161))), (2, .inr (.inr (122))), (1, .inr (.inr (2))), (0, .inr (.inr (1)))], [.inl ((x4 + (1 : Int32))), .inr (.inr (1)), .inr (.inr (2))], hp σ, c, z)) 5 rfl ?_
  refine TL_iald rfl (fun _ => ?_)
  refine T_go (S' := (164, [(4, .inl (x4)), (3, .inr (.inr (161))), (2, .inr (.inr (122))), (1, .inr (.inr (2))), (0, .inr (.inr (1)))], [.inl ((x4 + (2 : Int32))), .inr (.inr (1)), .inl ((xs (x4 + (1 : Int32)).toNatClampNeg)), .inr (.inr (2))], hp σ, c, z)) 4 rfl ?_
  refine TL_iald rfl (fun _ => ?_)
  refine T_go (S' := (166, [(4, .inl (x4)), (3, .inr (.inr (161))), (2, .inr (.inr (122))), (1, .inr (.inr (2))), (0, .inr (.inr (1)))], [.inr (.inr (161)), .inl ((xs (x4 + (2 : Int32)).toNatClampNeg)), .inl ((xs (x4 + (1 : Int32)).toNatClampNeg)), .inr (.inr (2))], hp σ, c, z)) 1 rfl ?_
  refine TL_cs (i := iI) (as := [.inr (.inr (2)), .inl ((xs (x4 + (1 : Int32)).toNatClampNeg)), .inl ((xs (x4 + (2 : Int32)).toNatClampNeg)), .inr (.inr (161))]) (rest := []) (st := [.inr (.inr (161)), .inl ((xs (x4 + (2 : Int32)).toNatClampNeg)), .inl ((xs (x4 + (1 : Int32)).toNatClampNeg)), .inr (.inr (2))]) rfl (lb rfl) rfl rfl ⟨by omega, by omega, lb rfl, lb rfl⟩ (fun _ h => Ew_le (lb rfl) (s_L_load 2 (xs (x4 + (1 : Int32)).toNatClampNeg) (xs (x4 + (2 : Int32)).toNatClampNeg) 161 σ _ h)) (fun r1 => ?_)
  show Snd false (some (N, xs)) _ _ _ (cN iI) (169, [(4, .inl (x4)), (3, .inr (.inr (161))), (2, .inr (.inr (122))), (1, .inr (.inr (2))), (0, .inr (.inr (1)))], [.inl (r1.1)], hp r1.2, c + 3, z + 18)
  refine T_go (S' := (177, [(5, .inl (r1.1)), (4, .inl (x4)), (3, .inr (.inr (161))), (2, .inr (.inr (122))), (1, .inr (.inr (2))), (0, .inr (.inr (1)))], [.inl ((x4 + (1 : Int32))), .inr (.inr (1)), .inr (.inr (122))], hp r1.2, c + 3, z + 18)) 6 rfl ?_
  refine TL_iald rfl (fun _ => ?_)
  refine T_go (S' := (183, [(5, .inl (r1.1)), (4, .inl (x4)), (3, .inr (.inr (161))), (2, .inr (.inr (122))), (1, .inr (.inr (2))), (0, .inr (.inr (1)))], [.inl ((x4 + (2 : Int32))), .inr (.inr (1)), .inl ((xs (x4 + (1 : Int32)).toNatClampNeg)), .inr (.inr (122))], hp r1.2, c + 3, z + 18)) 4 rfl ?_
  refine TL_iald rfl (fun _ => ?_)
  refine TL_cv (i := iI) (as := [.inr (.inr (122)), .inl ((xs (x4 + (1 : Int32)).toNatClampNeg)), .inl ((xs (x4 + (2 : Int32)).toNatClampNeg))]) (rest := []) (st := [.inl ((xs (x4 + (2 : Int32)).toNatClampNeg)), .inl ((xs (x4 + (1 : Int32)).toNatClampNeg)), .inr (.inr (122))]) rfl rfl rfl ⟨by omega, by omega, lb rfl, lb rfl⟩ (fun _ h => Ew_le (lb rfl) (s_X12_load 122 (xs (x4 + (1 : Int32)).toNatClampNeg) (xs (x4 + (2 : Int32)).toNatClampNeg) r1.2 _ h)) (fun _ r2 => ?_)
  show Snd false (some (N, xs)) _ _ _ (cN iI) (187, [(5, .inl (r1.1)), (4, .inl (x4)), (3, .inr (.inr (161))), (2, .inr (.inr (122))), (1, .inr (.inr (2))), (0, .inr (.inr (1)))], [.inl (r2.1)], hp r2.2, c + 3 + 0, z + 18 + 0)
  refine T_go (S' := (190, [(6, .inl (r2.1)), (5, .inl (r1.1)), (4, .inl (x4)), (3, .inr (.inr (161))), (2, .inr (.inr (122))), (1, .inr (.inr (2))), (0, .inr (.inr (1)))], [.inr (.inr (122))], hp r2.2, c + 3 + 0, z + 18 + 0)) 2 rfl ?_
  refine TL_cv (i := iI) (as := [.inr (.inr (122))]) (rest := []) (st := [.inr (.inr (122))]) rfl rfl rfl ⟨by omega, by omega, lb rfl, lb rfl⟩ (fun _ h => Ew_le (lb rfl) (s_X12_thrown 122 r2.2 _ h)) (fun _ r3 => ?_)
  show Snd false (some (N, xs)) _ _ _ (cN iI) (193, [(6, .inl (r2.1)), (5, .inl (r1.1)), (4, .inl (x4)), (3, .inr (.inr (161))), (2, .inr (.inr (122))), (1, .inr (.inr (2))), (0, .inr (.inr (1)))], [.inl (r3.1)], hp r3.2, c + 3 + 0 + 0, z + 18 + 0 + 0)
  refine T_go (S' := (195, [(6, .inl (r2.1)), (5, .inl (r1.1)), (4, .inl (x4)), (3, .inr (.inr (161))), (2, .inr (.inr (122))), (1, .inr (.inr (2))), (0, .inr (.inr (1)))], [.inl (r1.1), .inl (r3.1)], hp r3.2, c + 3 + 0 + 0, z + 18 + 0 + 0)) 1 rfl ?_
  refine TL_icmp_eq 200 rfl rfl (fun _ => ?_) (fun _ => ?_)
  · refine T_go (S' := (202, [(6, .inl (r2.1)), (5, .inl (r1.1)), (4, .inl (x4)), (3, .inr (.inr (161))), (2, .inr (.inr (122))), (1, .inr (.inr (2))), (0, .inr (.inr (1)))], [.inl (r1.1)], hp r3.2, c + 3 + 0 + 0, z + 18 + 0 + 0)) 1 rfl ?_
    refine TL_if_ne 217 rfl rfl (fun _ => ?_) (fun _ => ?_)
    · refine T_go (S' := (23, [(4, .inl ((x4 + (5 : Int32)))), (6, .inl (r2.1)), (5, .inl (r1.1)), (3, .inr (.inr (161))), (2, .inr (.inr (122))), (1, .inr (.inr (2))), (0, .inr (.inr (1)))], [], hp r3.2, c + 3 + 0 + 0, z + 18 + 0 + 0)) 3 rfl ?_
      refine T_loc (ls' := [(4, .inl ((x4 + (5 : Int32)))), (3, .inr (.inr (161))), (2, .inr (.inr (122))), (1, .inr (.inr (2))), (0, .inr (.inr (1)))]) [0, 3, 4, 5, 6] rfl ?_
      exact ih (x4 + (5 : Int32)) r3.2 (c + 3 + 0 + 0) (z + 18 + 0 + 0) (by omega) (by omega)
    · refine T_go (S' := (207, [(6, .inl (r2.1)), (5, .inl (r1.1)), (4, .inl (x4)), (3, .inr (.inr (161))), (2, .inr (.inr (122))), (1, .inr (.inr (2))), (0, .inr (.inr (1)))], [.inl ((0 : Int32)), .inr (.inr (161))], hp r3.2, c + 3 + 0 + 0, z + 18 + 0 + 0)) 2 rfl ?_
      refine TL_lald rfl (fun _ => ?_)
      refine T_go (S' := (212, [(6, .inl (r2.1)), (5, .inl (r1.1)), (4, .inl (x4)), (3, .inr (.inr (161))), (2, .inr (.inr (122))), (1, .inr (.inr (2))), (0, .inr (.inr (1)))], [.inl ((lg_cmp (r3.2.2 161 (0 : Int32).toNatClampNeg) r2.1.toInt64))], hp r3.2, c + 3 + 0 + 0, z + 18 + 0 + 0)) 3 rfl ?_
      refine TL_if_eq 217 rfl rfl (fun _ => ?_) (fun _ => ?_)
      · refine T_go (S' := (23, [(4, .inl ((x4 + (5 : Int32)))), (6, .inl (r2.1)), (5, .inl (r1.1)), (3, .inr (.inr (161))), (2, .inr (.inr (122))), (1, .inr (.inr (2))), (0, .inr (.inr (1)))], [], hp r3.2, c + 3 + 0 + 0, z + 18 + 0 + 0)) 3 rfl ?_
        refine T_loc (ls' := [(4, .inl ((x4 + (5 : Int32)))), (3, .inr (.inr (161))), (2, .inr (.inr (122))), (1, .inr (.inr (2))), (0, .inr (.inr (1)))]) [0, 3, 4, 5, 6] rfl ?_
        exact ih (x4 + (5 : Int32)) r3.2 (c + 3 + 0 + 0) (z + 18 + 0 + 0) (by omega) (by omega)
      · refine T_go (S' := (216, [(6, .inl (r2.1)), (5, .inl (r1.1)), (4, .inl (x4)), (3, .inr (.inr (161))), (2, .inr (.inr (122))), (1, .inr (.inr (2))), (0, .inr (.inr (1)))], [.inl ((0 : Int32))], hp r3.2, c + 3 + 0 + 0, z + 18 + 0 + 0)) 1 rfl ?_
        exact T_chkr rfl
  · refine T_go (S' := (199, [(6, .inl (r2.1)), (5, .inl (r1.1)), (4, .inl (x4)), (3, .inr (.inr (161))), (2, .inr (.inr (122))), (1, .inr (.inr (2))), (0, .inr (.inr (1)))], [.inl ((0 : Int32))], hp r3.2, c + 3 + 0 + 0, z + 18 + 0 + 0)) 1 rfl ?_
    exact T_chkr rfl
theorem s_law_0 (N : Nat) (xs : Nat → Int32) (rec : Int32 → eMem → Option (Int32 × eMem)) (C Z : Nat) (ih : ∀ (x4 : Int32) (σ : eMem) (c z : Nat), c ≤ C → z ≤ Z → Snd false (some (N, xs)) 23 m_L_law (rec x4 σ) (cN iI) (23, [(4, .inl (x4)), (3, .inr (.inr (161))), (2, .inr (.inr (122))), (1, .inr (.inr (2))), (0, .inr (.inr (1)))], [], hp σ, c, z)) (x4 : Int32) (σ : eMem) (c z : Nat) (hc : c + 10 ≤ C) (hz : z + 100 ≤ Z) (hC : C ≤ 601024) (hZ : Z ≤ 7293034) : Snd false (some (N, xs)) 23 m_L_law (f_law_0 N xs rec x4 σ) (cN iI) (152, [(4, .inl (x4)), (3, .inr (.inr (161))), (2, .inr (.inr (122))), (1, .inr (.inr (2))), (0, .inr (.inr (1)))], [], hp σ, c, z) :=
  Snd_0_b (sk_law_0 N xs rec C Z (fun x4 σ c z h1 h2 => Snd_0 (ih x4 σ c z h1 h2)) x4 σ c z hc hz hC hZ)

set_option maxHeartbeats 40000000 in
set_option maxRecDepth 20000 in
theorem sk_law_1 (N : Nat) (xs : Nat → Int32) (rec : Int32 → eMem → Option (Int32 × eMem)) (C Z : Nat) (ih : ∀ (x4 : Int32) (σ : eMem) (c z : Nat), c ≤ C → z ≤ Z → Snd false (some (N, xs)) 23 m_Lk_1 (rec x4 σ) (cN iI) (23, [(4, .inl (x4)), (3, .inr (.inr (161))), (2, .inr (.inr (122))), (1, .inr (.inr (2))), (0, .inr (.inr (1)))], [], hp σ, c, z)) (x4 : Int32) (σ : eMem) (c z : Nat) (hc : c + 10 ≤ C) (hz : z + 100 ≤ Z) (hC : C ≤ 601024) (hZ : Z ≤ 7293034) : Snd false (some (N, xs)) 23 m_Lk_1 (f_law_1 N xs rec x4 σ) (cN iI) (220, [(4, .inl (x4)), (3, .inr (.inr (161))), (2, .inr (.inr (122))), (1, .inr (.inr (2))), (0, .inr (.inr (1)))], [], hp σ, c, z) := by
  unfold f_law_1
  refine T_go (S' := (226, [(4, .inl (x4)), (3, .inr (.inr (161))), (2, .inr (.inr (122))), (1, .inr (.inr (2))), (0, .inr (.inr (1)))], [.inl ((x4 + (1 : Int32))), .inr (.inr (1)), .inr (.inr (2))], hp σ, c, z)) 5 rfl ?_
  refine TL_iald rfl (fun _ => ?_)
  refine T_go (S' := (232, [(4, .inl (x4)), (3, .inr (.inr (161))), (2, .inr (.inr (122))), (1, .inr (.inr (2))), (0, .inr (.inr (1)))], [.inl ((x4 + (2 : Int32))), .inr (.inr (1)), .inl ((xs (x4 + (1 : Int32)).toNatClampNeg)), .inr (.inr (2))], hp σ, c, z)) 4 rfl ?_
  refine TL_iald rfl (fun _ => ?_)
  refine T_go (S' := (238, [(4, .inl (x4)), (3, .inr (.inr (161))), (2, .inr (.inr (122))), (1, .inr (.inr (2))), (0, .inr (.inr (1)))], [.inl ((x4 + (3 : Int32))), .inr (.inr (1)), .inl ((xs (x4 + (2 : Int32)).toNatClampNeg)), .inl ((xs (x4 + (1 : Int32)).toNatClampNeg)), .inr (.inr (2))], hp σ, c, z)) 4 rfl ?_
  refine TL_iald rfl (fun _ => ?_)
  refine T_go (S' := (240, [(4, .inl (x4)), (3, .inr (.inr (161))), (2, .inr (.inr (122))), (1, .inr (.inr (2))), (0, .inr (.inr (1)))], [.inr (.inr (161)), .inl ((xs (x4 + (3 : Int32)).toNatClampNeg)), .inl ((xs (x4 + (2 : Int32)).toNatClampNeg)), .inl ((xs (x4 + (1 : Int32)).toNatClampNeg)), .inr (.inr (2))], hp σ, c, z)) 1 rfl ?_
  refine TL_cs (i := iI) (as := [.inr (.inr (2)), .inl ((xs (x4 + (1 : Int32)).toNatClampNeg)), .inl ((xs (x4 + (2 : Int32)).toNatClampNeg)), .inl ((xs (x4 + (3 : Int32)).toNatClampNeg)), .inr (.inr (161))]) (rest := []) (st := [.inr (.inr (161)), .inl ((xs (x4 + (3 : Int32)).toNatClampNeg)), .inl ((xs (x4 + (2 : Int32)).toNatClampNeg)), .inl ((xs (x4 + (1 : Int32)).toNatClampNeg)), .inr (.inr (2))]) rfl (lb rfl) rfl rfl ⟨by omega, by omega, lb rfl, lb rfl⟩ (fun _ h => Ew_le (lb rfl) (s_L_store 2 (xs (x4 + (1 : Int32)).toNatClampNeg) (xs (x4 + (2 : Int32)).toNatClampNeg) (xs (x4 + (3 : Int32)).toNatClampNeg) 161 σ _ h)) (fun r4 => ?_)
  show Snd false (some (N, xs)) _ _ _ (cN iI) (243, [(4, .inl (x4)), (3, .inr (.inr (161))), (2, .inr (.inr (122))), (1, .inr (.inr (2))), (0, .inr (.inr (1)))], [.inl (r4.1)], hp r4.2, c + 4, z + 24)
  refine T_go (S' := (251, [(5, .inl (r4.1)), (4, .inl (x4)), (3, .inr (.inr (161))), (2, .inr (.inr (122))), (1, .inr (.inr (2))), (0, .inr (.inr (1)))], [.inl ((x4 + (1 : Int32))), .inr (.inr (1)), .inr (.inr (122))], hp r4.2, c + 4, z + 24)) 6 rfl ?_
  refine TL_iald rfl (fun _ => ?_)
  refine T_go (S' := (257, [(5, .inl (r4.1)), (4, .inl (x4)), (3, .inr (.inr (161))), (2, .inr (.inr (122))), (1, .inr (.inr (2))), (0, .inr (.inr (1)))], [.inl ((x4 + (2 : Int32))), .inr (.inr (1)), .inl ((xs (x4 + (1 : Int32)).toNatClampNeg)), .inr (.inr (122))], hp r4.2, c + 4, z + 24)) 4 rfl ?_
  refine TL_iald rfl (fun _ => ?_)
  refine T_go (S' := (263, [(5, .inl (r4.1)), (4, .inl (x4)), (3, .inr (.inr (161))), (2, .inr (.inr (122))), (1, .inr (.inr (2))), (0, .inr (.inr (1)))], [.inl ((x4 + (3 : Int32))), .inr (.inr (1)), .inl ((xs (x4 + (2 : Int32)).toNatClampNeg)), .inl ((xs (x4 + (1 : Int32)).toNatClampNeg)), .inr (.inr (122))], hp r4.2, c + 4, z + 24)) 4 rfl ?_
  refine TL_iald rfl (fun _ => ?_)
  refine TL_cv (i := iI) (as := [.inr (.inr (122)), .inl ((xs (x4 + (1 : Int32)).toNatClampNeg)), .inl ((xs (x4 + (2 : Int32)).toNatClampNeg)), .inl ((xs (x4 + (3 : Int32)).toNatClampNeg))]) (rest := []) (st := [.inl ((xs (x4 + (3 : Int32)).toNatClampNeg)), .inl ((xs (x4 + (2 : Int32)).toNatClampNeg)), .inl ((xs (x4 + (1 : Int32)).toNatClampNeg)), .inr (.inr (122))]) rfl rfl rfl ⟨by omega, by omega, lb rfl, lb rfl⟩ (fun _ h => Ew_le (lb rfl) (s_X12_store 122 (xs (x4 + (1 : Int32)).toNatClampNeg) (xs (x4 + (2 : Int32)).toNatClampNeg) (xs (x4 + (3 : Int32)).toNatClampNeg) r4.2 _ h)) (fun _ r5 => ?_)
  show Snd false (some (N, xs)) _ _ _ (cN iI) (267, [(5, .inl (r4.1)), (4, .inl (x4)), (3, .inr (.inr (161))), (2, .inr (.inr (122))), (1, .inr (.inr (2))), (0, .inr (.inr (1)))], [.inl (r5.1)], hp r5.2, c + 4 + 0, z + 24 + 0)
  refine T_go (S' := (270, [(6, .inl (r5.1)), (5, .inl (r4.1)), (4, .inl (x4)), (3, .inr (.inr (161))), (2, .inr (.inr (122))), (1, .inr (.inr (2))), (0, .inr (.inr (1)))], [.inr (.inr (122))], hp r5.2, c + 4 + 0, z + 24 + 0)) 2 rfl ?_
  refine TL_cv (i := iI) (as := [.inr (.inr (122))]) (rest := []) (st := [.inr (.inr (122))]) rfl rfl rfl ⟨by omega, by omega, lb rfl, lb rfl⟩ (fun _ h => Ew_le (lb rfl) (s_X12_thrown 122 r5.2 _ h)) (fun _ r6 => ?_)
  show Snd false (some (N, xs)) _ _ _ (cN iI) (273, [(6, .inl (r5.1)), (5, .inl (r4.1)), (4, .inl (x4)), (3, .inr (.inr (161))), (2, .inr (.inr (122))), (1, .inr (.inr (2))), (0, .inr (.inr (1)))], [.inl (r6.1)], hp r6.2, c + 4 + 0 + 0, z + 24 + 0 + 0)
  refine T_go (S' := (275, [(6, .inl (r5.1)), (5, .inl (r4.1)), (4, .inl (x4)), (3, .inr (.inr (161))), (2, .inr (.inr (122))), (1, .inr (.inr (2))), (0, .inr (.inr (1)))], [.inl (r4.1), .inl (r6.1)], hp r6.2, c + 4 + 0 + 0, z + 24 + 0 + 0)) 1 rfl ?_
  refine TL_icmp_eq 280 rfl rfl (fun _ => ?_) (fun _ => ?_)
  · refine T_go (S' := (282, [(6, .inl (r5.1)), (5, .inl (r4.1)), (4, .inl (x4)), (3, .inr (.inr (161))), (2, .inr (.inr (122))), (1, .inr (.inr (2))), (0, .inr (.inr (1)))], [.inl (r4.1)], hp r6.2, c + 4 + 0 + 0, z + 24 + 0 + 0)) 1 rfl ?_
    refine TL_if_ne 297 rfl rfl (fun _ => ?_) (fun _ => ?_)
    · refine T_go (S' := (23, [(4, .inl ((x4 + (5 : Int32)))), (6, .inl (r5.1)), (5, .inl (r4.1)), (3, .inr (.inr (161))), (2, .inr (.inr (122))), (1, .inr (.inr (2))), (0, .inr (.inr (1)))], [], hp r6.2, c + 4 + 0 + 0, z + 24 + 0 + 0)) 3 rfl ?_
      refine T_loc (ls' := [(4, .inl ((x4 + (5 : Int32)))), (3, .inr (.inr (161))), (2, .inr (.inr (122))), (1, .inr (.inr (2))), (0, .inr (.inr (1)))]) [0, 3, 4, 5, 6] rfl ?_
      exact ih (x4 + (5 : Int32)) r6.2 (c + 4 + 0 + 0) (z + 24 + 0 + 0) (by omega) (by omega)
    · refine T_go (S' := (287, [(6, .inl (r5.1)), (5, .inl (r4.1)), (4, .inl (x4)), (3, .inr (.inr (161))), (2, .inr (.inr (122))), (1, .inr (.inr (2))), (0, .inr (.inr (1)))], [.inl ((0 : Int32)), .inr (.inr (161))], hp r6.2, c + 4 + 0 + 0, z + 24 + 0 + 0)) 2 rfl ?_
      refine TL_lald rfl (fun _ => ?_)
      refine T_go (S' := (292, [(6, .inl (r5.1)), (5, .inl (r4.1)), (4, .inl (x4)), (3, .inr (.inr (161))), (2, .inr (.inr (122))), (1, .inr (.inr (2))), (0, .inr (.inr (1)))], [.inl ((lg_cmp (r6.2.2 161 (0 : Int32).toNatClampNeg) r5.1.toInt64))], hp r6.2, c + 4 + 0 + 0, z + 24 + 0 + 0)) 3 rfl ?_
      refine TL_if_eq 297 rfl rfl (fun _ => ?_) (fun _ => ?_)
      · refine T_go (S' := (23, [(4, .inl ((x4 + (5 : Int32)))), (6, .inl (r5.1)), (5, .inl (r4.1)), (3, .inr (.inr (161))), (2, .inr (.inr (122))), (1, .inr (.inr (2))), (0, .inr (.inr (1)))], [], hp r6.2, c + 4 + 0 + 0, z + 24 + 0 + 0)) 3 rfl ?_
        refine T_loc (ls' := [(4, .inl ((x4 + (5 : Int32)))), (3, .inr (.inr (161))), (2, .inr (.inr (122))), (1, .inr (.inr (2))), (0, .inr (.inr (1)))]) [0, 3, 4, 5, 6] rfl ?_
        exact ih (x4 + (5 : Int32)) r6.2 (c + 4 + 0 + 0) (z + 24 + 0 + 0) (by omega) (by omega)
      · refine T_go (S' := (296, [(6, .inl (r5.1)), (5, .inl (r4.1)), (4, .inl (x4)), (3, .inr (.inr (161))), (2, .inr (.inr (122))), (1, .inr (.inr (2))), (0, .inr (.inr (1)))], [.inl ((0 : Int32))], hp r6.2, c + 4 + 0 + 0, z + 24 + 0 + 0)) 1 rfl ?_
        exact T_chkr rfl
  · refine T_go (S' := (279, [(6, .inl (r5.1)), (5, .inl (r4.1)), (4, .inl (x4)), (3, .inr (.inr (161))), (2, .inr (.inr (122))), (1, .inr (.inr (2))), (0, .inr (.inr (1)))], [.inl ((0 : Int32))], hp r6.2, c + 4 + 0 + 0, z + 24 + 0 + 0)) 1 rfl ?_
    exact T_chkr rfl
theorem s_law_1 (N : Nat) (xs : Nat → Int32) (rec : Int32 → eMem → Option (Int32 × eMem)) (C Z : Nat) (ih : ∀ (x4 : Int32) (σ : eMem) (c z : Nat), c ≤ C → z ≤ Z → Snd false (some (N, xs)) 23 m_L_law (rec x4 σ) (cN iI) (23, [(4, .inl (x4)), (3, .inr (.inr (161))), (2, .inr (.inr (122))), (1, .inr (.inr (2))), (0, .inr (.inr (1)))], [], hp σ, c, z)) (x4 : Int32) (σ : eMem) (c z : Nat) (hc : c + 10 ≤ C) (hz : z + 100 ≤ Z) (hC : C ≤ 601024) (hZ : Z ≤ 7293034) : Snd false (some (N, xs)) 23 m_L_law (f_law_1 N xs rec x4 σ) (cN iI) (220, [(4, .inl (x4)), (3, .inr (.inr (161))), (2, .inr (.inr (122))), (1, .inr (.inr (2))), (0, .inr (.inr (1)))], [], hp σ, c, z) :=
  Snd_1_b (sk_law_1 N xs rec C Z (fun x4 σ c z h1 h2 => Snd_1 (ih x4 σ c z h1 h2)) x4 σ c z hc hz hC hZ)

set_option maxHeartbeats 40000000 in
set_option maxRecDepth 20000 in
theorem sk_law_2 (N : Nat) (xs : Nat → Int32) (rec : Int32 → eMem → Option (Int32 × eMem)) (C Z : Nat) (ih : ∀ (x4 : Int32) (σ : eMem) (c z : Nat), c ≤ C → z ≤ Z → Snd false (some (N, xs)) 23 m_Lk_2 (rec x4 σ) (cN iI) (23, [(4, .inl (x4)), (3, .inr (.inr (161))), (2, .inr (.inr (122))), (1, .inr (.inr (2))), (0, .inr (.inr (1)))], [], hp σ, c, z)) (x4 : Int32) (σ : eMem) (c z : Nat) (hc : c + 10 ≤ C) (hz : z + 100 ≤ Z) (hC : C ≤ 601024) (hZ : Z ≤ 7293034) : Snd false (some (N, xs)) 23 m_Lk_2 (f_law_2 N xs rec x4 σ) (cN iI) (300, [(4, .inl (x4)), (3, .inr (.inr (161))), (2, .inr (.inr (122))), (1, .inr (.inr (2))), (0, .inr (.inr (1)))], [], hp σ, c, z) := by
  unfold f_law_2
  refine T_go (S' := (306, [(4, .inl (x4)), (3, .inr (.inr (161))), (2, .inr (.inr (122))), (1, .inr (.inr (2))), (0, .inr (.inr (1)))], [.inl ((x4 + (1 : Int32))), .inr (.inr (1)), .inr (.inr (2))], hp σ, c, z)) 5 rfl ?_
  refine TL_iald rfl (fun _ => ?_)
  refine T_go (S' := (308, [(4, .inl (x4)), (3, .inr (.inr (161))), (2, .inr (.inr (122))), (1, .inr (.inr (2))), (0, .inr (.inr (1)))], [.inr (.inr (161)), .inl ((xs (x4 + (1 : Int32)).toNatClampNeg)), .inr (.inr (2))], hp σ, c, z)) 1 rfl ?_
  refine TL_cs (i := iI) (as := [.inr (.inr (2)), .inl ((xs (x4 + (1 : Int32)).toNatClampNeg)), .inr (.inr (161))]) (rest := []) (st := [.inr (.inr (161)), .inl ((xs (x4 + (1 : Int32)).toNatClampNeg)), .inr (.inr (2))]) rfl (lb rfl) rfl rfl ⟨by omega, by omega, lb rfl, lb rfl⟩ (fun _ h => Ew_le (lb rfl) (s_L_drain 2 (xs (x4 + (1 : Int32)).toNatClampNeg) 161 σ _ h)) (fun r7 => ?_)
  show Snd false (some (N, xs)) _ _ _ (cN iI) (311, [(4, .inl (x4)), (3, .inr (.inr (161))), (2, .inr (.inr (122))), (1, .inr (.inr (2))), (0, .inr (.inr (1)))], [.inl (r7.1)], hp r7.2, c + 1, z + 6)
  refine T_go (S' := (319, [(5, .inl (r7.1)), (4, .inl (x4)), (3, .inr (.inr (161))), (2, .inr (.inr (122))), (1, .inr (.inr (2))), (0, .inr (.inr (1)))], [.inl ((x4 + (1 : Int32))), .inr (.inr (1)), .inr (.inr (122))], hp r7.2, c + 1, z + 6)) 6 rfl ?_
  refine TL_iald rfl (fun _ => ?_)
  refine TL_cv (i := iI) (as := [.inr (.inr (122)), .inl ((xs (x4 + (1 : Int32)).toNatClampNeg))]) (rest := []) (st := [.inl ((xs (x4 + (1 : Int32)).toNatClampNeg)), .inr (.inr (122))]) rfl rfl rfl ⟨by omega, by omega, lb rfl, lb rfl⟩ (fun _ h => Ew_le (lb rfl) (s_X12_drain 122 (xs (x4 + (1 : Int32)).toNatClampNeg) r7.2 _ h)) (fun _ r8 => ?_)
  show Snd false (some (N, xs)) _ _ _ (cN iI) (323, [(5, .inl (r7.1)), (4, .inl (x4)), (3, .inr (.inr (161))), (2, .inr (.inr (122))), (1, .inr (.inr (2))), (0, .inr (.inr (1)))], [.inl (r8.1)], hp r8.2, c + 1 + 0, z + 6 + 0)
  refine T_go (S' := (326, [(6, .inl (r8.1)), (5, .inl (r7.1)), (4, .inl (x4)), (3, .inr (.inr (161))), (2, .inr (.inr (122))), (1, .inr (.inr (2))), (0, .inr (.inr (1)))], [.inr (.inr (122))], hp r8.2, c + 1 + 0, z + 6 + 0)) 2 rfl ?_
  refine TL_cv (i := iI) (as := [.inr (.inr (122))]) (rest := []) (st := [.inr (.inr (122))]) rfl rfl rfl ⟨by omega, by omega, lb rfl, lb rfl⟩ (fun _ h => Ew_le (lb rfl) (s_X12_thrown 122 r8.2 _ h)) (fun _ r9 => ?_)
  show Snd false (some (N, xs)) _ _ _ (cN iI) (329, [(6, .inl (r8.1)), (5, .inl (r7.1)), (4, .inl (x4)), (3, .inr (.inr (161))), (2, .inr (.inr (122))), (1, .inr (.inr (2))), (0, .inr (.inr (1)))], [.inl (r9.1)], hp r9.2, c + 1 + 0 + 0, z + 6 + 0 + 0)
  refine T_go (S' := (331, [(6, .inl (r8.1)), (5, .inl (r7.1)), (4, .inl (x4)), (3, .inr (.inr (161))), (2, .inr (.inr (122))), (1, .inr (.inr (2))), (0, .inr (.inr (1)))], [.inl (r7.1), .inl (r9.1)], hp r9.2, c + 1 + 0 + 0, z + 6 + 0 + 0)) 1 rfl ?_
  refine TL_icmp_eq 336 rfl rfl (fun _ => ?_) (fun _ => ?_)
  · refine T_go (S' := (338, [(6, .inl (r8.1)), (5, .inl (r7.1)), (4, .inl (x4)), (3, .inr (.inr (161))), (2, .inr (.inr (122))), (1, .inr (.inr (2))), (0, .inr (.inr (1)))], [.inl (r7.1)], hp r9.2, c + 1 + 0 + 0, z + 6 + 0 + 0)) 1 rfl ?_
    refine TL_if_ne 360 rfl rfl (fun _ => ?_) (fun _ => ?_)
    · refine T_go (S' := (23, [(4, .inl ((x4 + (5 : Int32)))), (6, .inl (r8.1)), (5, .inl (r7.1)), (3, .inr (.inr (161))), (2, .inr (.inr (122))), (1, .inr (.inr (2))), (0, .inr (.inr (1)))], [], hp r9.2, c + 1 + 0 + 0, z + 6 + 0 + 0)) 3 rfl ?_
      refine T_loc (ls' := [(4, .inl ((x4 + (5 : Int32)))), (3, .inr (.inr (161))), (2, .inr (.inr (122))), (1, .inr (.inr (2))), (0, .inr (.inr (1)))]) [0, 3, 4, 5, 6] rfl ?_
      exact ih (x4 + (5 : Int32)) r9.2 (c + 1 + 0 + 0) (z + 6 + 0 + 0) (by omega) (by omega)
    · refine T_go (S' := (343, [(6, .inl (r8.1)), (5, .inl (r7.1)), (4, .inl (x4)), (3, .inr (.inr (161))), (2, .inr (.inr (122))), (1, .inr (.inr (2))), (0, .inr (.inr (1)))], [.inl ((0 : Int32)), .inr (.inr (161))], hp r9.2, c + 1 + 0 + 0, z + 6 + 0 + 0)) 2 rfl ?_
      refine TL_lald rfl (fun _ => ?_)
      refine T_go (S' := (346, [(6, .inl (r8.1)), (5, .inl (r7.1)), (4, .inl (x4)), (3, .inr (.inr (161))), (2, .inr (.inr (122))), (1, .inr (.inr (2))), (0, .inr (.inr (1)))], [.inl (r8.1), .inr (.inl ((r9.2.2 161 (0 : Int32).toNatClampNeg)))], hp r9.2, c + 1 + 0 + 0, z + 6 + 0 + 0)) 1 rfl ?_
      refine TL_if_eq 353 rfl rfl (fun _ => ?_) (fun _ => ?_)
      · refine T_go (S' := (355, [(6, .inl (r8.1)), (5, .inl (r7.1)), (4, .inl (x4)), (3, .inr (.inr (161))), (2, .inr (.inr (122))), (1, .inr (.inr (2))), (0, .inr (.inr (1)))], [.inl ((lg_cmp (r9.2.2 161 (0 : Int32).toNatClampNeg) (0 : Int64)))], hp r9.2, c + 1 + 0 + 0, z + 6 + 0 + 0)) 2 rfl ?_
        refine TL_if_eq 360 rfl rfl (fun _ => ?_) (fun _ => ?_)
        · refine T_go (S' := (23, [(4, .inl ((x4 + (5 : Int32)))), (6, .inl (r8.1)), (5, .inl (r7.1)), (3, .inr (.inr (161))), (2, .inr (.inr (122))), (1, .inr (.inr (2))), (0, .inr (.inr (1)))], [], hp r9.2, c + 1 + 0 + 0, z + 6 + 0 + 0)) 3 rfl ?_
          refine T_loc (ls' := [(4, .inl ((x4 + (5 : Int32)))), (3, .inr (.inr (161))), (2, .inr (.inr (122))), (1, .inr (.inr (2))), (0, .inr (.inr (1)))]) [0, 3, 4, 5, 6] rfl ?_
          exact ih (x4 + (5 : Int32)) r9.2 (c + 1 + 0 + 0) (z + 6 + 0 + 0) (by omega) (by omega)
        · refine T_go (S' := (359, [(6, .inl (r8.1)), (5, .inl (r7.1)), (4, .inl (x4)), (3, .inr (.inr (161))), (2, .inr (.inr (122))), (1, .inr (.inr (2))), (0, .inr (.inr (1)))], [.inl ((0 : Int32))], hp r9.2, c + 1 + 0 + 0, z + 6 + 0 + 0)) 1 rfl ?_
          exact T_chkr rfl
      · refine T_go (S' := (355, [(6, .inl (r8.1)), (5, .inl (r7.1)), (4, .inl (x4)), (3, .inr (.inr (161))), (2, .inr (.inr (122))), (1, .inr (.inr (2))), (0, .inr (.inr (1)))], [.inl ((lg_cmp (r9.2.2 161 (0 : Int32).toNatClampNeg) (1 : Int64)))], hp r9.2, c + 1 + 0 + 0, z + 6 + 0 + 0)) 3 rfl ?_
        refine TL_if_eq 360 rfl rfl (fun _ => ?_) (fun _ => ?_)
        · refine T_go (S' := (23, [(4, .inl ((x4 + (5 : Int32)))), (6, .inl (r8.1)), (5, .inl (r7.1)), (3, .inr (.inr (161))), (2, .inr (.inr (122))), (1, .inr (.inr (2))), (0, .inr (.inr (1)))], [], hp r9.2, c + 1 + 0 + 0, z + 6 + 0 + 0)) 3 rfl ?_
          refine T_loc (ls' := [(4, .inl ((x4 + (5 : Int32)))), (3, .inr (.inr (161))), (2, .inr (.inr (122))), (1, .inr (.inr (2))), (0, .inr (.inr (1)))]) [0, 3, 4, 5, 6] rfl ?_
          exact ih (x4 + (5 : Int32)) r9.2 (c + 1 + 0 + 0) (z + 6 + 0 + 0) (by omega) (by omega)
        · refine T_go (S' := (359, [(6, .inl (r8.1)), (5, .inl (r7.1)), (4, .inl (x4)), (3, .inr (.inr (161))), (2, .inr (.inr (122))), (1, .inr (.inr (2))), (0, .inr (.inr (1)))], [.inl ((0 : Int32))], hp r9.2, c + 1 + 0 + 0, z + 6 + 0 + 0)) 1 rfl ?_
          exact T_chkr rfl
  · refine T_go (S' := (335, [(6, .inl (r8.1)), (5, .inl (r7.1)), (4, .inl (x4)), (3, .inr (.inr (161))), (2, .inr (.inr (122))), (1, .inr (.inr (2))), (0, .inr (.inr (1)))], [.inl ((0 : Int32))], hp r9.2, c + 1 + 0 + 0, z + 6 + 0 + 0)) 1 rfl ?_
    exact T_chkr rfl
theorem s_law_2 (N : Nat) (xs : Nat → Int32) (rec : Int32 → eMem → Option (Int32 × eMem)) (C Z : Nat) (ih : ∀ (x4 : Int32) (σ : eMem) (c z : Nat), c ≤ C → z ≤ Z → Snd false (some (N, xs)) 23 m_L_law (rec x4 σ) (cN iI) (23, [(4, .inl (x4)), (3, .inr (.inr (161))), (2, .inr (.inr (122))), (1, .inr (.inr (2))), (0, .inr (.inr (1)))], [], hp σ, c, z)) (x4 : Int32) (σ : eMem) (c z : Nat) (hc : c + 10 ≤ C) (hz : z + 100 ≤ Z) (hC : C ≤ 601024) (hZ : Z ≤ 7293034) : Snd false (some (N, xs)) 23 m_L_law (f_law_2 N xs rec x4 σ) (cN iI) (300, [(4, .inl (x4)), (3, .inr (.inr (161))), (2, .inr (.inr (122))), (1, .inr (.inr (2))), (0, .inr (.inr (1)))], [], hp σ, c, z) :=
  Snd_2_b (sk_law_2 N xs rec C Z (fun x4 σ c z h1 h2 => Snd_2 (ih x4 σ c z h1 h2)) x4 σ c z hc hz hC hZ)

set_option maxHeartbeats 40000000 in
set_option maxRecDepth 20000 in
theorem sk_law_3 (N : Nat) (xs : Nat → Int32) (rec : Int32 → eMem → Option (Int32 × eMem)) (C Z : Nat) (ih : ∀ (x4 : Int32) (σ : eMem) (c z : Nat), c ≤ C → z ≤ Z → Snd false (some (N, xs)) 23 m_Lk_3 (rec x4 σ) (cN iI) (23, [(4, .inl (x4)), (3, .inr (.inr (161))), (2, .inr (.inr (122))), (1, .inr (.inr (2))), (0, .inr (.inr (1)))], [], hp σ, c, z)) (x4 : Int32) (σ : eMem) (c z : Nat) (hc : c + 10 ≤ C) (hz : z + 100 ≤ Z) (hC : C ≤ 601024) (hZ : Z ≤ 7293034) : Snd false (some (N, xs)) 23 m_Lk_3 (f_law_3 N xs rec x4 σ) (cN iI) (363, [(4, .inl (x4)), (3, .inr (.inr (161))), (2, .inr (.inr (122))), (1, .inr (.inr (2))), (0, .inr (.inr (1)))], [], hp σ, c, z) := by
  unfold f_law_3
  refine T_go (S' := (369, [(4, .inl (x4)), (3, .inr (.inr (161))), (2, .inr (.inr (122))), (1, .inr (.inr (2))), (0, .inr (.inr (1)))], [.inl ((x4 + (1 : Int32))), .inr (.inr (1)), .inr (.inr (2))], hp σ, c, z)) 5 rfl ?_
  refine TL_iald rfl (fun _ => ?_)
  refine T_go (S' := (371, [(4, .inl (x4)), (3, .inr (.inr (161))), (2, .inr (.inr (122))), (1, .inr (.inr (2))), (0, .inr (.inr (1)))], [.inr (.inr (161)), .inl ((xs (x4 + (1 : Int32)).toNatClampNeg)), .inr (.inr (2))], hp σ, c, z)) 1 rfl ?_
  refine TL_cs (i := iI) (as := [.inr (.inr (2)), .inl ((xs (x4 + (1 : Int32)).toNatClampNeg)), .inr (.inr (161))]) (rest := []) (st := [.inr (.inr (161)), .inl ((xs (x4 + (1 : Int32)).toNatClampNeg)), .inr (.inr (2))]) rfl (lb rfl) rfl rfl ⟨by omega, by omega, lb rfl, lb rfl⟩ (fun _ h => Ew_le (lb rfl) (s_L_fence 2 (xs (x4 + (1 : Int32)).toNatClampNeg) 161 σ _ h)) (fun r10 => ?_)
  show Snd false (some (N, xs)) _ _ _ (cN iI) (374, [(4, .inl (x4)), (3, .inr (.inr (161))), (2, .inr (.inr (122))), (1, .inr (.inr (2))), (0, .inr (.inr (1)))], [.inl (r10.1)], hp r10.2, c + 1, z + 6)
  refine T_go (S' := (382, [(5, .inl (r10.1)), (4, .inl (x4)), (3, .inr (.inr (161))), (2, .inr (.inr (122))), (1, .inr (.inr (2))), (0, .inr (.inr (1)))], [.inl ((x4 + (1 : Int32))), .inr (.inr (1)), .inr (.inr (122))], hp r10.2, c + 1, z + 6)) 6 rfl ?_
  refine TL_iald rfl (fun _ => ?_)
  refine TL_cv (i := iI) (as := [.inr (.inr (122)), .inl ((xs (x4 + (1 : Int32)).toNatClampNeg))]) (rest := []) (st := [.inl ((xs (x4 + (1 : Int32)).toNatClampNeg)), .inr (.inr (122))]) rfl rfl rfl ⟨by omega, by omega, lb rfl, lb rfl⟩ (fun _ h => Ew_le (lb rfl) (s_X12_fence 122 (xs (x4 + (1 : Int32)).toNatClampNeg) r10.2 _ h)) (fun _ r11 => ?_)
  show Snd false (some (N, xs)) _ _ _ (cN iI) (386, [(5, .inl (r10.1)), (4, .inl (x4)), (3, .inr (.inr (161))), (2, .inr (.inr (122))), (1, .inr (.inr (2))), (0, .inr (.inr (1)))], [.inl (r11.1)], hp r11.2, c + 1 + 0, z + 6 + 0)
  refine T_go (S' := (389, [(6, .inl (r11.1)), (5, .inl (r10.1)), (4, .inl (x4)), (3, .inr (.inr (161))), (2, .inr (.inr (122))), (1, .inr (.inr (2))), (0, .inr (.inr (1)))], [.inr (.inr (122))], hp r11.2, c + 1 + 0, z + 6 + 0)) 2 rfl ?_
  refine TL_cv (i := iI) (as := [.inr (.inr (122))]) (rest := []) (st := [.inr (.inr (122))]) rfl rfl rfl ⟨by omega, by omega, lb rfl, lb rfl⟩ (fun _ h => Ew_le (lb rfl) (s_X12_thrown 122 r11.2 _ h)) (fun _ r12 => ?_)
  show Snd false (some (N, xs)) _ _ _ (cN iI) (392, [(6, .inl (r11.1)), (5, .inl (r10.1)), (4, .inl (x4)), (3, .inr (.inr (161))), (2, .inr (.inr (122))), (1, .inr (.inr (2))), (0, .inr (.inr (1)))], [.inl (r12.1)], hp r12.2, c + 1 + 0 + 0, z + 6 + 0 + 0)
  refine T_go (S' := (394, [(6, .inl (r11.1)), (5, .inl (r10.1)), (4, .inl (x4)), (3, .inr (.inr (161))), (2, .inr (.inr (122))), (1, .inr (.inr (2))), (0, .inr (.inr (1)))], [.inl (r10.1), .inl (r12.1)], hp r12.2, c + 1 + 0 + 0, z + 6 + 0 + 0)) 1 rfl ?_
  refine TL_icmp_eq 399 rfl rfl (fun _ => ?_) (fun _ => ?_)
  · refine T_go (S' := (401, [(6, .inl (r11.1)), (5, .inl (r10.1)), (4, .inl (x4)), (3, .inr (.inr (161))), (2, .inr (.inr (122))), (1, .inr (.inr (2))), (0, .inr (.inr (1)))], [.inl (r10.1)], hp r12.2, c + 1 + 0 + 0, z + 6 + 0 + 0)) 1 rfl ?_
    refine TL_if_ne 423 rfl rfl (fun _ => ?_) (fun _ => ?_)
    · refine T_go (S' := (23, [(4, .inl ((x4 + (5 : Int32)))), (6, .inl (r11.1)), (5, .inl (r10.1)), (3, .inr (.inr (161))), (2, .inr (.inr (122))), (1, .inr (.inr (2))), (0, .inr (.inr (1)))], [], hp r12.2, c + 1 + 0 + 0, z + 6 + 0 + 0)) 3 rfl ?_
      refine T_loc (ls' := [(4, .inl ((x4 + (5 : Int32)))), (3, .inr (.inr (161))), (2, .inr (.inr (122))), (1, .inr (.inr (2))), (0, .inr (.inr (1)))]) [0, 3, 4, 5, 6] rfl ?_
      exact ih (x4 + (5 : Int32)) r12.2 (c + 1 + 0 + 0) (z + 6 + 0 + 0) (by omega) (by omega)
    · refine T_go (S' := (406, [(6, .inl (r11.1)), (5, .inl (r10.1)), (4, .inl (x4)), (3, .inr (.inr (161))), (2, .inr (.inr (122))), (1, .inr (.inr (2))), (0, .inr (.inr (1)))], [.inl ((0 : Int32)), .inr (.inr (161))], hp r12.2, c + 1 + 0 + 0, z + 6 + 0 + 0)) 2 rfl ?_
      refine TL_lald rfl (fun _ => ?_)
      refine T_go (S' := (409, [(6, .inl (r11.1)), (5, .inl (r10.1)), (4, .inl (x4)), (3, .inr (.inr (161))), (2, .inr (.inr (122))), (1, .inr (.inr (2))), (0, .inr (.inr (1)))], [.inl (r11.1), .inr (.inl ((r12.2.2 161 (0 : Int32).toNatClampNeg)))], hp r12.2, c + 1 + 0 + 0, z + 6 + 0 + 0)) 1 rfl ?_
      refine TL_if_eq 416 rfl rfl (fun _ => ?_) (fun _ => ?_)
      · refine T_go (S' := (418, [(6, .inl (r11.1)), (5, .inl (r10.1)), (4, .inl (x4)), (3, .inr (.inr (161))), (2, .inr (.inr (122))), (1, .inr (.inr (2))), (0, .inr (.inr (1)))], [.inl ((lg_cmp (r12.2.2 161 (0 : Int32).toNatClampNeg) (0 : Int64)))], hp r12.2, c + 1 + 0 + 0, z + 6 + 0 + 0)) 2 rfl ?_
        refine TL_if_eq 423 rfl rfl (fun _ => ?_) (fun _ => ?_)
        · refine T_go (S' := (23, [(4, .inl ((x4 + (5 : Int32)))), (6, .inl (r11.1)), (5, .inl (r10.1)), (3, .inr (.inr (161))), (2, .inr (.inr (122))), (1, .inr (.inr (2))), (0, .inr (.inr (1)))], [], hp r12.2, c + 1 + 0 + 0, z + 6 + 0 + 0)) 3 rfl ?_
          refine T_loc (ls' := [(4, .inl ((x4 + (5 : Int32)))), (3, .inr (.inr (161))), (2, .inr (.inr (122))), (1, .inr (.inr (2))), (0, .inr (.inr (1)))]) [0, 3, 4, 5, 6] rfl ?_
          exact ih (x4 + (5 : Int32)) r12.2 (c + 1 + 0 + 0) (z + 6 + 0 + 0) (by omega) (by omega)
        · refine T_go (S' := (422, [(6, .inl (r11.1)), (5, .inl (r10.1)), (4, .inl (x4)), (3, .inr (.inr (161))), (2, .inr (.inr (122))), (1, .inr (.inr (2))), (0, .inr (.inr (1)))], [.inl ((0 : Int32))], hp r12.2, c + 1 + 0 + 0, z + 6 + 0 + 0)) 1 rfl ?_
          exact T_chkr rfl
      · refine T_go (S' := (418, [(6, .inl (r11.1)), (5, .inl (r10.1)), (4, .inl (x4)), (3, .inr (.inr (161))), (2, .inr (.inr (122))), (1, .inr (.inr (2))), (0, .inr (.inr (1)))], [.inl ((lg_cmp (r12.2.2 161 (0 : Int32).toNatClampNeg) (1 : Int64)))], hp r12.2, c + 1 + 0 + 0, z + 6 + 0 + 0)) 3 rfl ?_
        refine TL_if_eq 423 rfl rfl (fun _ => ?_) (fun _ => ?_)
        · refine T_go (S' := (23, [(4, .inl ((x4 + (5 : Int32)))), (6, .inl (r11.1)), (5, .inl (r10.1)), (3, .inr (.inr (161))), (2, .inr (.inr (122))), (1, .inr (.inr (2))), (0, .inr (.inr (1)))], [], hp r12.2, c + 1 + 0 + 0, z + 6 + 0 + 0)) 3 rfl ?_
          refine T_loc (ls' := [(4, .inl ((x4 + (5 : Int32)))), (3, .inr (.inr (161))), (2, .inr (.inr (122))), (1, .inr (.inr (2))), (0, .inr (.inr (1)))]) [0, 3, 4, 5, 6] rfl ?_
          exact ih (x4 + (5 : Int32)) r12.2 (c + 1 + 0 + 0) (z + 6 + 0 + 0) (by omega) (by omega)
        · refine T_go (S' := (422, [(6, .inl (r11.1)), (5, .inl (r10.1)), (4, .inl (x4)), (3, .inr (.inr (161))), (2, .inr (.inr (122))), (1, .inr (.inr (2))), (0, .inr (.inr (1)))], [.inl ((0 : Int32))], hp r12.2, c + 1 + 0 + 0, z + 6 + 0 + 0)) 1 rfl ?_
          exact T_chkr rfl
  · refine T_go (S' := (398, [(6, .inl (r11.1)), (5, .inl (r10.1)), (4, .inl (x4)), (3, .inr (.inr (161))), (2, .inr (.inr (122))), (1, .inr (.inr (2))), (0, .inr (.inr (1)))], [.inl ((0 : Int32))], hp r12.2, c + 1 + 0 + 0, z + 6 + 0 + 0)) 1 rfl ?_
    exact T_chkr rfl
theorem s_law_3 (N : Nat) (xs : Nat → Int32) (rec : Int32 → eMem → Option (Int32 × eMem)) (C Z : Nat) (ih : ∀ (x4 : Int32) (σ : eMem) (c z : Nat), c ≤ C → z ≤ Z → Snd false (some (N, xs)) 23 m_L_law (rec x4 σ) (cN iI) (23, [(4, .inl (x4)), (3, .inr (.inr (161))), (2, .inr (.inr (122))), (1, .inr (.inr (2))), (0, .inr (.inr (1)))], [], hp σ, c, z)) (x4 : Int32) (σ : eMem) (c z : Nat) (hc : c + 10 ≤ C) (hz : z + 100 ≤ Z) (hC : C ≤ 601024) (hZ : Z ≤ 7293034) : Snd false (some (N, xs)) 23 m_L_law (f_law_3 N xs rec x4 σ) (cN iI) (363, [(4, .inl (x4)), (3, .inr (.inr (161))), (2, .inr (.inr (122))), (1, .inr (.inr (2))), (0, .inr (.inr (1)))], [], hp σ, c, z) :=
  Snd_3_b (sk_law_3 N xs rec C Z (fun x4 σ c z h1 h2 => Snd_3 (ih x4 σ c z h1 h2)) x4 σ c z hc hz hC hZ)

set_option maxHeartbeats 40000000 in
set_option maxRecDepth 20000 in
theorem sk_law_4 (N : Nat) (xs : Nat → Int32) (rec : Int32 → eMem → Option (Int32 × eMem)) (C Z : Nat) (ih : ∀ (x4 : Int32) (σ : eMem) (c z : Nat), c ≤ C → z ≤ Z → Snd false (some (N, xs)) 23 m_Lk_4 (rec x4 σ) (cN iI) (23, [(4, .inl (x4)), (3, .inr (.inr (161))), (2, .inr (.inr (122))), (1, .inr (.inr (2))), (0, .inr (.inr (1)))], [], hp σ, c, z)) (x4 : Int32) (σ : eMem) (c z : Nat) (hc : c + 10 ≤ C) (hz : z + 100 ≤ Z) (hC : C ≤ 601024) (hZ : Z ≤ 7293034) : Snd false (some (N, xs)) 23 m_Lk_4 (f_law_4 N xs rec x4 σ) (cN iI) (426, [(4, .inl (x4)), (3, .inr (.inr (161))), (2, .inr (.inr (122))), (1, .inr (.inr (2))), (0, .inr (.inr (1)))], [], hp σ, c, z) := by
  unfold f_law_4
  refine T_go (S' := (432, [(4, .inl (x4)), (3, .inr (.inr (161))), (2, .inr (.inr (122))), (1, .inr (.inr (2))), (0, .inr (.inr (1)))], [.inl ((x4 + (1 : Int32))), .inr (.inr (1)), .inr (.inr (2))], hp σ, c, z)) 5 rfl ?_
  refine TL_iald rfl (fun _ => ?_)
  refine T_go (S' := (438, [(4, .inl (x4)), (3, .inr (.inr (161))), (2, .inr (.inr (122))), (1, .inr (.inr (2))), (0, .inr (.inr (1)))], [.inl ((x4 + (2 : Int32))), .inr (.inr (1)), .inl ((xs (x4 + (1 : Int32)).toNatClampNeg)), .inr (.inr (2))], hp σ, c, z)) 4 rfl ?_
  refine TL_iald rfl (fun _ => ?_)
  refine T_go (S' := (444, [(4, .inl (x4)), (3, .inr (.inr (161))), (2, .inr (.inr (122))), (1, .inr (.inr (2))), (0, .inr (.inr (1)))], [.inl ((x4 + (3 : Int32))), .inr (.inr (1)), .inl ((xs (x4 + (2 : Int32)).toNatClampNeg)), .inl ((xs (x4 + (1 : Int32)).toNatClampNeg)), .inr (.inr (2))], hp σ, c, z)) 4 rfl ?_
  refine TL_iald rfl (fun _ => ?_)
  refine T_go (S' := (446, [(4, .inl (x4)), (3, .inr (.inr (161))), (2, .inr (.inr (122))), (1, .inr (.inr (2))), (0, .inr (.inr (1)))], [.inr (.inr (161)), .inl ((xs (x4 + (3 : Int32)).toNatClampNeg)), .inl ((xs (x4 + (2 : Int32)).toNatClampNeg)), .inl ((xs (x4 + (1 : Int32)).toNatClampNeg)), .inr (.inr (2))], hp σ, c, z)) 1 rfl ?_
  refine TL_cs (i := iI) (as := [.inr (.inr (2)), .inl ((xs (x4 + (1 : Int32)).toNatClampNeg)), .inl ((xs (x4 + (2 : Int32)).toNatClampNeg)), .inl ((xs (x4 + (3 : Int32)).toNatClampNeg)), .inr (.inr (161))]) (rest := []) (st := [.inr (.inr (161)), .inl ((xs (x4 + (3 : Int32)).toNatClampNeg)), .inl ((xs (x4 + (2 : Int32)).toNatClampNeg)), .inl ((xs (x4 + (1 : Int32)).toNatClampNeg)), .inr (.inr (2))]) rfl (lb rfl) rfl rfl ⟨by omega, by omega, lb rfl, lb rfl⟩ (fun _ h => Ew_le (lb rfl) (s_L_add 2 (xs (x4 + (1 : Int32)).toNatClampNeg) (xs (x4 + (2 : Int32)).toNatClampNeg) (xs (x4 + (3 : Int32)).toNatClampNeg) 161 σ _ h)) (fun r13 => ?_)
  show Snd false (some (N, xs)) _ _ _ (cN iI) (449, [(4, .inl (x4)), (3, .inr (.inr (161))), (2, .inr (.inr (122))), (1, .inr (.inr (2))), (0, .inr (.inr (1)))], [.inl (r13.1)], hp r13.2, c + 4, z + 24)
  refine T_go (S' := (457, [(5, .inl (r13.1)), (4, .inl (x4)), (3, .inr (.inr (161))), (2, .inr (.inr (122))), (1, .inr (.inr (2))), (0, .inr (.inr (1)))], [.inl ((x4 + (1 : Int32))), .inr (.inr (1)), .inr (.inr (122))], hp r13.2, c + 4, z + 24)) 6 rfl ?_
  refine TL_iald rfl (fun _ => ?_)
  refine T_go (S' := (463, [(5, .inl (r13.1)), (4, .inl (x4)), (3, .inr (.inr (161))), (2, .inr (.inr (122))), (1, .inr (.inr (2))), (0, .inr (.inr (1)))], [.inl ((x4 + (2 : Int32))), .inr (.inr (1)), .inl ((xs (x4 + (1 : Int32)).toNatClampNeg)), .inr (.inr (122))], hp r13.2, c + 4, z + 24)) 4 rfl ?_
  refine TL_iald rfl (fun _ => ?_)
  refine T_go (S' := (469, [(5, .inl (r13.1)), (4, .inl (x4)), (3, .inr (.inr (161))), (2, .inr (.inr (122))), (1, .inr (.inr (2))), (0, .inr (.inr (1)))], [.inl ((x4 + (3 : Int32))), .inr (.inr (1)), .inl ((xs (x4 + (2 : Int32)).toNatClampNeg)), .inl ((xs (x4 + (1 : Int32)).toNatClampNeg)), .inr (.inr (122))], hp r13.2, c + 4, z + 24)) 4 rfl ?_
  refine TL_iald rfl (fun _ => ?_)
  refine TL_cv (i := iI) (as := [.inr (.inr (122)), .inl ((xs (x4 + (1 : Int32)).toNatClampNeg)), .inl ((xs (x4 + (2 : Int32)).toNatClampNeg)), .inl ((xs (x4 + (3 : Int32)).toNatClampNeg))]) (rest := []) (st := [.inl ((xs (x4 + (3 : Int32)).toNatClampNeg)), .inl ((xs (x4 + (2 : Int32)).toNatClampNeg)), .inl ((xs (x4 + (1 : Int32)).toNatClampNeg)), .inr (.inr (122))]) rfl rfl rfl ⟨by omega, by omega, lb rfl, lb rfl⟩ (fun _ h => Ew_le (lb rfl) (s_X12_add 122 (xs (x4 + (1 : Int32)).toNatClampNeg) (xs (x4 + (2 : Int32)).toNatClampNeg) (xs (x4 + (3 : Int32)).toNatClampNeg) r13.2 _ h)) (fun _ r14 => ?_)
  show Snd false (some (N, xs)) _ _ _ (cN iI) (473, [(5, .inl (r13.1)), (4, .inl (x4)), (3, .inr (.inr (161))), (2, .inr (.inr (122))), (1, .inr (.inr (2))), (0, .inr (.inr (1)))], [.inl (r14.1)], hp r14.2, c + 4 + 0, z + 24 + 0)
  refine T_go (S' := (476, [(6, .inl (r14.1)), (5, .inl (r13.1)), (4, .inl (x4)), (3, .inr (.inr (161))), (2, .inr (.inr (122))), (1, .inr (.inr (2))), (0, .inr (.inr (1)))], [.inr (.inr (122))], hp r14.2, c + 4 + 0, z + 24 + 0)) 2 rfl ?_
  refine TL_cv (i := iI) (as := [.inr (.inr (122))]) (rest := []) (st := [.inr (.inr (122))]) rfl rfl rfl ⟨by omega, by omega, lb rfl, lb rfl⟩ (fun _ h => Ew_le (lb rfl) (s_X12_thrown 122 r14.2 _ h)) (fun _ r15 => ?_)
  show Snd false (some (N, xs)) _ _ _ (cN iI) (479, [(6, .inl (r14.1)), (5, .inl (r13.1)), (4, .inl (x4)), (3, .inr (.inr (161))), (2, .inr (.inr (122))), (1, .inr (.inr (2))), (0, .inr (.inr (1)))], [.inl (r15.1)], hp r15.2, c + 4 + 0 + 0, z + 24 + 0 + 0)
  refine T_go (S' := (481, [(6, .inl (r14.1)), (5, .inl (r13.1)), (4, .inl (x4)), (3, .inr (.inr (161))), (2, .inr (.inr (122))), (1, .inr (.inr (2))), (0, .inr (.inr (1)))], [.inl (r13.1), .inl (r15.1)], hp r15.2, c + 4 + 0 + 0, z + 24 + 0 + 0)) 1 rfl ?_
  refine TL_icmp_eq 486 rfl rfl (fun _ => ?_) (fun _ => ?_)
  · refine T_go (S' := (488, [(6, .inl (r14.1)), (5, .inl (r13.1)), (4, .inl (x4)), (3, .inr (.inr (161))), (2, .inr (.inr (122))), (1, .inr (.inr (2))), (0, .inr (.inr (1)))], [.inl (r13.1)], hp r15.2, c + 4 + 0 + 0, z + 24 + 0 + 0)) 1 rfl ?_
    refine TL_if_ne 503 rfl rfl (fun _ => ?_) (fun _ => ?_)
    · refine T_go (S' := (23, [(4, .inl ((x4 + (5 : Int32)))), (6, .inl (r14.1)), (5, .inl (r13.1)), (3, .inr (.inr (161))), (2, .inr (.inr (122))), (1, .inr (.inr (2))), (0, .inr (.inr (1)))], [], hp r15.2, c + 4 + 0 + 0, z + 24 + 0 + 0)) 3 rfl ?_
      refine T_loc (ls' := [(4, .inl ((x4 + (5 : Int32)))), (3, .inr (.inr (161))), (2, .inr (.inr (122))), (1, .inr (.inr (2))), (0, .inr (.inr (1)))]) [0, 3, 4, 5, 6] rfl ?_
      exact ih (x4 + (5 : Int32)) r15.2 (c + 4 + 0 + 0) (z + 24 + 0 + 0) (by omega) (by omega)
    · refine T_go (S' := (493, [(6, .inl (r14.1)), (5, .inl (r13.1)), (4, .inl (x4)), (3, .inr (.inr (161))), (2, .inr (.inr (122))), (1, .inr (.inr (2))), (0, .inr (.inr (1)))], [.inl ((0 : Int32)), .inr (.inr (161))], hp r15.2, c + 4 + 0 + 0, z + 24 + 0 + 0)) 2 rfl ?_
      refine TL_lald rfl (fun _ => ?_)
      refine T_go (S' := (498, [(6, .inl (r14.1)), (5, .inl (r13.1)), (4, .inl (x4)), (3, .inr (.inr (161))), (2, .inr (.inr (122))), (1, .inr (.inr (2))), (0, .inr (.inr (1)))], [.inl ((lg_cmp (r15.2.2 161 (0 : Int32).toNatClampNeg) r14.1.toInt64))], hp r15.2, c + 4 + 0 + 0, z + 24 + 0 + 0)) 3 rfl ?_
      refine TL_if_eq 503 rfl rfl (fun _ => ?_) (fun _ => ?_)
      · refine T_go (S' := (23, [(4, .inl ((x4 + (5 : Int32)))), (6, .inl (r14.1)), (5, .inl (r13.1)), (3, .inr (.inr (161))), (2, .inr (.inr (122))), (1, .inr (.inr (2))), (0, .inr (.inr (1)))], [], hp r15.2, c + 4 + 0 + 0, z + 24 + 0 + 0)) 3 rfl ?_
        refine T_loc (ls' := [(4, .inl ((x4 + (5 : Int32)))), (3, .inr (.inr (161))), (2, .inr (.inr (122))), (1, .inr (.inr (2))), (0, .inr (.inr (1)))]) [0, 3, 4, 5, 6] rfl ?_
        exact ih (x4 + (5 : Int32)) r15.2 (c + 4 + 0 + 0) (z + 24 + 0 + 0) (by omega) (by omega)
      · refine T_go (S' := (502, [(6, .inl (r14.1)), (5, .inl (r13.1)), (4, .inl (x4)), (3, .inr (.inr (161))), (2, .inr (.inr (122))), (1, .inr (.inr (2))), (0, .inr (.inr (1)))], [.inl ((0 : Int32))], hp r15.2, c + 4 + 0 + 0, z + 24 + 0 + 0)) 1 rfl ?_
        exact T_chkr rfl
  · refine T_go (S' := (485, [(6, .inl (r14.1)), (5, .inl (r13.1)), (4, .inl (x4)), (3, .inr (.inr (161))), (2, .inr (.inr (122))), (1, .inr (.inr (2))), (0, .inr (.inr (1)))], [.inl ((0 : Int32))], hp r15.2, c + 4 + 0 + 0, z + 24 + 0 + 0)) 1 rfl ?_
    exact T_chkr rfl
theorem s_law_4 (N : Nat) (xs : Nat → Int32) (rec : Int32 → eMem → Option (Int32 × eMem)) (C Z : Nat) (ih : ∀ (x4 : Int32) (σ : eMem) (c z : Nat), c ≤ C → z ≤ Z → Snd false (some (N, xs)) 23 m_L_law (rec x4 σ) (cN iI) (23, [(4, .inl (x4)), (3, .inr (.inr (161))), (2, .inr (.inr (122))), (1, .inr (.inr (2))), (0, .inr (.inr (1)))], [], hp σ, c, z)) (x4 : Int32) (σ : eMem) (c z : Nat) (hc : c + 10 ≤ C) (hz : z + 100 ≤ Z) (hC : C ≤ 601024) (hZ : Z ≤ 7293034) : Snd false (some (N, xs)) 23 m_L_law (f_law_4 N xs rec x4 σ) (cN iI) (426, [(4, .inl (x4)), (3, .inr (.inr (161))), (2, .inr (.inr (122))), (1, .inr (.inr (2))), (0, .inr (.inr (1)))], [], hp σ, c, z) :=
  Snd_4_b (sk_law_4 N xs rec C Z (fun x4 σ c z h1 h2 => Snd_4 (ih x4 σ c z h1 h2)) x4 σ c z hc hz hC hZ)
