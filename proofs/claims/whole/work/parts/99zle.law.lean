/-! the law, its cases -/
set_option maxHeartbeats 40000000 in
set_option maxRecDepth 20000 in
theorem sk_law_20 (N : Nat) (xs : Nat → Int32) (rec : Int32 → eMem → Option (Int32 × eMem)) (C Z : Nat) (ih : ∀ (x4 : Int32) (σ : eMem) (c z : Nat), c ≤ C → z ≤ Z → Snd false (some (N, xs)) 23 m_Lk_20 (rec x4 σ) (cN iI) (23, [(4, .inl (x4)), (3, .inr (.inr (161))), (2, .inr (.inr (122))), (1, .inr (.inr (2))), (0, .inr (.inr (1)))], [], hp σ, c, z)) (x4 : Int32) (σ : eMem) (c z : Nat) (hc : c + 10 ≤ C) (hz : z + 100 ≤ Z) (hC : C ≤ 601024) (hZ : Z ≤ 7293034) : Snd false (some (N, xs)) 23 m_Lk_20 (f_law_20 N xs rec x4 σ) (cN iI) (1308, [(4, .inl (x4)), (3, .inr (.inr (161))), (2, .inr (.inr (122))), (1, .inr (.inr (2))), (0, .inr (.inr (1)))], [], hp σ, c, z) := by
  unfold f_law_20
  refine T_go (S' := (1314, [(4, .inl (x4)), (3, .inr (.inr (161))), (2, .inr (.inr (122))), (1, .inr (.inr (2))), (0, .inr (.inr (1)))], [.inl ((x4 + (1 : Int32))), .inr (.inr (1)), .inr (.inr (2))], hp σ, c, z)) 5 rfl ?_
  refine TL_iald rfl (fun _ => ?_)
  refine T_go (S' := (1320, [(4, .inl (x4)), (3, .inr (.inr (161))), (2, .inr (.inr (122))), (1, .inr (.inr (2))), (0, .inr (.inr (1)))], [.inl ((x4 + (2 : Int32))), .inr (.inr (1)), .inl ((xs (x4 + (1 : Int32)).toNatClampNeg)), .inr (.inr (2))], hp σ, c, z)) 4 rfl ?_
  refine TL_iald rfl (fun _ => ?_)
  refine T_go (S' := (1326, [(4, .inl (x4)), (3, .inr (.inr (161))), (2, .inr (.inr (122))), (1, .inr (.inr (2))), (0, .inr (.inr (1)))], [.inl ((x4 + (3 : Int32))), .inr (.inr (1)), .inl ((xs (x4 + (2 : Int32)).toNatClampNeg)), .inl ((xs (x4 + (1 : Int32)).toNatClampNeg)), .inr (.inr (2))], hp σ, c, z)) 4 rfl ?_
  refine TL_iald rfl (fun _ => ?_)
  refine T_go (S' := (1332, [(4, .inl (x4)), (3, .inr (.inr (161))), (2, .inr (.inr (122))), (1, .inr (.inr (2))), (0, .inr (.inr (1)))], [.inl ((x4 + (4 : Int32))), .inr (.inr (1)), .inl ((xs (x4 + (3 : Int32)).toNatClampNeg)), .inl ((xs (x4 + (2 : Int32)).toNatClampNeg)), .inl ((xs (x4 + (1 : Int32)).toNatClampNeg)), .inr (.inr (2))], hp σ, c, z)) 4 rfl ?_
  refine TL_iald rfl (fun _ => ?_)
  refine T_go (S' := (1334, [(4, .inl (x4)), (3, .inr (.inr (161))), (2, .inr (.inr (122))), (1, .inr (.inr (2))), (0, .inr (.inr (1)))], [.inr (.inr (161)), .inl ((xs (x4 + (4 : Int32)).toNatClampNeg)), .inl ((xs (x4 + (3 : Int32)).toNatClampNeg)), .inl ((xs (x4 + (2 : Int32)).toNatClampNeg)), .inl ((xs (x4 + (1 : Int32)).toNatClampNeg)), .inr (.inr (2))], hp σ, c, z)) 1 rfl ?_
  refine TL_cs (i := iI) (as := [.inr (.inr (2)), .inl ((xs (x4 + (1 : Int32)).toNatClampNeg)), .inl ((xs (x4 + (2 : Int32)).toNatClampNeg)), .inl ((xs (x4 + (3 : Int32)).toNatClampNeg)), .inl ((xs (x4 + (4 : Int32)).toNatClampNeg)), .inr (.inr (161))]) (rest := []) (st := [.inr (.inr (161)), .inl ((xs (x4 + (4 : Int32)).toNatClampNeg)), .inl ((xs (x4 + (3 : Int32)).toNatClampNeg)), .inl ((xs (x4 + (2 : Int32)).toNatClampNeg)), .inl ((xs (x4 + (1 : Int32)).toNatClampNeg)), .inr (.inr (2))]) rfl (lb rfl) rfl rfl ⟨by omega, by omega, lb rfl, lb rfl⟩ (fun _ h => Ew_le (lb rfl) (s_L_step 2 (xs (x4 + (1 : Int32)).toNatClampNeg) (xs (x4 + (2 : Int32)).toNatClampNeg) (xs (x4 + (3 : Int32)).toNatClampNeg) (xs (x4 + (4 : Int32)).toNatClampNeg) 161 σ _ h)) (fun r59 => ?_)
  show Snd false (some (N, xs)) _ _ _ (cN iI) (1337, [(4, .inl (x4)), (3, .inr (.inr (161))), (2, .inr (.inr (122))), (1, .inr (.inr (2))), (0, .inr (.inr (1)))], [.inl (r59.1)], hp r59.2, c + 5, z + 30)
  refine T_go (S' := (1345, [(5, .inl (r59.1)), (4, .inl (x4)), (3, .inr (.inr (161))), (2, .inr (.inr (122))), (1, .inr (.inr (2))), (0, .inr (.inr (1)))], [.inl ((x4 + (1 : Int32))), .inr (.inr (1)), .inr (.inr (122))], hp r59.2, c + 5, z + 30)) 6 rfl ?_
  refine TL_iald rfl (fun _ => ?_)
  refine T_go (S' := (1351, [(5, .inl (r59.1)), (4, .inl (x4)), (3, .inr (.inr (161))), (2, .inr (.inr (122))), (1, .inr (.inr (2))), (0, .inr (.inr (1)))], [.inl ((x4 + (2 : Int32))), .inr (.inr (1)), .inl ((xs (x4 + (1 : Int32)).toNatClampNeg)), .inr (.inr (122))], hp r59.2, c + 5, z + 30)) 4 rfl ?_
  refine TL_iald rfl (fun _ => ?_)
  refine T_go (S' := (1357, [(5, .inl (r59.1)), (4, .inl (x4)), (3, .inr (.inr (161))), (2, .inr (.inr (122))), (1, .inr (.inr (2))), (0, .inr (.inr (1)))], [.inl ((x4 + (3 : Int32))), .inr (.inr (1)), .inl ((xs (x4 + (2 : Int32)).toNatClampNeg)), .inl ((xs (x4 + (1 : Int32)).toNatClampNeg)), .inr (.inr (122))], hp r59.2, c + 5, z + 30)) 4 rfl ?_
  refine TL_iald rfl (fun _ => ?_)
  refine T_go (S' := (1363, [(5, .inl (r59.1)), (4, .inl (x4)), (3, .inr (.inr (161))), (2, .inr (.inr (122))), (1, .inr (.inr (2))), (0, .inr (.inr (1)))], [.inl ((x4 + (4 : Int32))), .inr (.inr (1)), .inl ((xs (x4 + (3 : Int32)).toNatClampNeg)), .inl ((xs (x4 + (2 : Int32)).toNatClampNeg)), .inl ((xs (x4 + (1 : Int32)).toNatClampNeg)), .inr (.inr (122))], hp r59.2, c + 5, z + 30)) 4 rfl ?_
  refine TL_iald rfl (fun _ => ?_)
  refine TL_cv (i := iI) (as := [.inr (.inr (122)), .inl ((xs (x4 + (1 : Int32)).toNatClampNeg)), .inl ((xs (x4 + (2 : Int32)).toNatClampNeg)), .inl ((xs (x4 + (3 : Int32)).toNatClampNeg)), .inl ((xs (x4 + (4 : Int32)).toNatClampNeg))]) (rest := []) (st := [.inl ((xs (x4 + (4 : Int32)).toNatClampNeg)), .inl ((xs (x4 + (3 : Int32)).toNatClampNeg)), .inl ((xs (x4 + (2 : Int32)).toNatClampNeg)), .inl ((xs (x4 + (1 : Int32)).toNatClampNeg)), .inr (.inr (122))]) rfl rfl rfl ⟨by omega, by omega, lb rfl, lb rfl⟩ (fun _ h => Ew_le (lb rfl) (s_X12_step 122 (xs (x4 + (1 : Int32)).toNatClampNeg) (xs (x4 + (2 : Int32)).toNatClampNeg) (xs (x4 + (3 : Int32)).toNatClampNeg) (xs (x4 + (4 : Int32)).toNatClampNeg) r59.2 _ h)) (fun _ r60 => ?_)
  show Snd false (some (N, xs)) _ _ _ (cN iI) (1367, [(5, .inl (r59.1)), (4, .inl (x4)), (3, .inr (.inr (161))), (2, .inr (.inr (122))), (1, .inr (.inr (2))), (0, .inr (.inr (1)))], [.inl (r60.1)], hp r60.2, c + 5 + 0, z + 30 + 0)
  refine T_go (S' := (1370, [(6, .inl (r60.1)), (5, .inl (r59.1)), (4, .inl (x4)), (3, .inr (.inr (161))), (2, .inr (.inr (122))), (1, .inr (.inr (2))), (0, .inr (.inr (1)))], [.inr (.inr (122))], hp r60.2, c + 5 + 0, z + 30 + 0)) 2 rfl ?_
  refine TL_cv (i := iI) (as := [.inr (.inr (122))]) (rest := []) (st := [.inr (.inr (122))]) rfl rfl rfl ⟨by omega, by omega, lb rfl, lb rfl⟩ (fun _ h => Ew_le (lb rfl) (s_X12_thrown 122 r60.2 _ h)) (fun _ r61 => ?_)
  show Snd false (some (N, xs)) _ _ _ (cN iI) (1373, [(6, .inl (r60.1)), (5, .inl (r59.1)), (4, .inl (x4)), (3, .inr (.inr (161))), (2, .inr (.inr (122))), (1, .inr (.inr (2))), (0, .inr (.inr (1)))], [.inl (r61.1)], hp r61.2, c + 5 + 0 + 0, z + 30 + 0 + 0)
  refine T_go (S' := (1375, [(6, .inl (r60.1)), (5, .inl (r59.1)), (4, .inl (x4)), (3, .inr (.inr (161))), (2, .inr (.inr (122))), (1, .inr (.inr (2))), (0, .inr (.inr (1)))], [.inl (r59.1), .inl (r61.1)], hp r61.2, c + 5 + 0 + 0, z + 30 + 0 + 0)) 1 rfl ?_
  refine TL_icmp_eq 1380 rfl rfl (fun _ => ?_) (fun _ => ?_)
  · refine T_go (S' := (1382, [(6, .inl (r60.1)), (5, .inl (r59.1)), (4, .inl (x4)), (3, .inr (.inr (161))), (2, .inr (.inr (122))), (1, .inr (.inr (2))), (0, .inr (.inr (1)))], [.inl (r59.1)], hp r61.2, c + 5 + 0 + 0, z + 30 + 0 + 0)) 1 rfl ?_
    refine TL_if_ne 1397 rfl rfl (fun _ => ?_) (fun _ => ?_)
    · refine T_go (S' := (23, [(4, .inl ((x4 + (5 : Int32)))), (6, .inl (r60.1)), (5, .inl (r59.1)), (3, .inr (.inr (161))), (2, .inr (.inr (122))), (1, .inr (.inr (2))), (0, .inr (.inr (1)))], [], hp r61.2, c + 5 + 0 + 0, z + 30 + 0 + 0)) 3 rfl ?_
      refine T_loc (ls' := [(4, .inl ((x4 + (5 : Int32)))), (3, .inr (.inr (161))), (2, .inr (.inr (122))), (1, .inr (.inr (2))), (0, .inr (.inr (1)))]) [0, 3, 4, 5, 6] rfl ?_
      exact ih (x4 + (5 : Int32)) r61.2 (c + 5 + 0 + 0) (z + 30 + 0 + 0) (by omega) (by omega)
    · refine T_go (S' := (1387, [(6, .inl (r60.1)), (5, .inl (r59.1)), (4, .inl (x4)), (3, .inr (.inr (161))), (2, .inr (.inr (122))), (1, .inr (.inr (2))), (0, .inr (.inr (1)))], [.inl ((0 : Int32)), .inr (.inr (161))], hp r61.2, c + 5 + 0 + 0, z + 30 + 0 + 0)) 2 rfl ?_
      refine TL_lald rfl (fun _ => ?_)
      refine T_go (S' := (1392, [(6, .inl (r60.1)), (5, .inl (r59.1)), (4, .inl (x4)), (3, .inr (.inr (161))), (2, .inr (.inr (122))), (1, .inr (.inr (2))), (0, .inr (.inr (1)))], [.inl ((lg_cmp (r61.2.2 161 (0 : Int32).toNatClampNeg) r60.1.toInt64))], hp r61.2, c + 5 + 0 + 0, z + 30 + 0 + 0)) 3 rfl ?_
      refine TL_if_eq 1397 rfl rfl (fun _ => ?_) (fun _ => ?_)
      · refine T_go (S' := (23, [(4, .inl ((x4 + (5 : Int32)))), (6, .inl (r60.1)), (5, .inl (r59.1)), (3, .inr (.inr (161))), (2, .inr (.inr (122))), (1, .inr (.inr (2))), (0, .inr (.inr (1)))], [], hp r61.2, c + 5 + 0 + 0, z + 30 + 0 + 0)) 3 rfl ?_
        refine T_loc (ls' := [(4, .inl ((x4 + (5 : Int32)))), (3, .inr (.inr (161))), (2, .inr (.inr (122))), (1, .inr (.inr (2))), (0, .inr (.inr (1)))]) [0, 3, 4, 5, 6] rfl ?_
        exact ih (x4 + (5 : Int32)) r61.2 (c + 5 + 0 + 0) (z + 30 + 0 + 0) (by omega) (by omega)
      · refine T_go (S' := (1396, [(6, .inl (r60.1)), (5, .inl (r59.1)), (4, .inl (x4)), (3, .inr (.inr (161))), (2, .inr (.inr (122))), (1, .inr (.inr (2))), (0, .inr (.inr (1)))], [.inl ((0 : Int32))], hp r61.2, c + 5 + 0 + 0, z + 30 + 0 + 0)) 1 rfl ?_
        exact T_chkr rfl
  · refine T_go (S' := (1379, [(6, .inl (r60.1)), (5, .inl (r59.1)), (4, .inl (x4)), (3, .inr (.inr (161))), (2, .inr (.inr (122))), (1, .inr (.inr (2))), (0, .inr (.inr (1)))], [.inl ((0 : Int32))], hp r61.2, c + 5 + 0 + 0, z + 30 + 0 + 0)) 1 rfl ?_
    exact T_chkr rfl
theorem s_law_20 (N : Nat) (xs : Nat → Int32) (rec : Int32 → eMem → Option (Int32 × eMem)) (C Z : Nat) (ih : ∀ (x4 : Int32) (σ : eMem) (c z : Nat), c ≤ C → z ≤ Z → Snd false (some (N, xs)) 23 m_L_law (rec x4 σ) (cN iI) (23, [(4, .inl (x4)), (3, .inr (.inr (161))), (2, .inr (.inr (122))), (1, .inr (.inr (2))), (0, .inr (.inr (1)))], [], hp σ, c, z)) (x4 : Int32) (σ : eMem) (c z : Nat) (hc : c + 10 ≤ C) (hz : z + 100 ≤ Z) (hC : C ≤ 601024) (hZ : Z ≤ 7293034) : Snd false (some (N, xs)) 23 m_L_law (f_law_20 N xs rec x4 σ) (cN iI) (1308, [(4, .inl (x4)), (3, .inr (.inr (161))), (2, .inr (.inr (122))), (1, .inr (.inr (2))), (0, .inr (.inr (1)))], [], hp σ, c, z) :=
  Snd_20_b (sk_law_20 N xs rec C Z (fun x4 σ c z h1 h2 => Snd_20 (ih x4 σ c z h1 h2)) x4 σ c z hc hz hC hZ)

set_option maxHeartbeats 40000000 in
set_option maxRecDepth 20000 in
theorem sk_law_21 (N : Nat) (xs : Nat → Int32) (rec : Int32 → eMem → Option (Int32 × eMem)) (C Z : Nat) (ih : ∀ (x4 : Int32) (σ : eMem) (c z : Nat), c ≤ C → z ≤ Z → Snd false (some (N, xs)) 23 m_Lk_21 (rec x4 σ) (cN iI) (23, [(4, .inl (x4)), (3, .inr (.inr (161))), (2, .inr (.inr (122))), (1, .inr (.inr (2))), (0, .inr (.inr (1)))], [], hp σ, c, z)) (x4 : Int32) (σ : eMem) (c z : Nat) (hc : c + 10 ≤ C) (hz : z + 100 ≤ Z) (hC : C ≤ 601024) (hZ : Z ≤ 7293034) : Snd false (some (N, xs)) 23 m_Lk_21 (f_law_21 N xs rec x4 σ) (cN iI) (1400, [(4, .inl (x4)), (3, .inr (.inr (161))), (2, .inr (.inr (122))), (1, .inr (.inr (2))), (0, .inr (.inr (1)))], [], hp σ, c, z) := by
  unfold f_law_21
  refine T_go (S' := (1406, [(4, .inl (x4)), (3, .inr (.inr (161))), (2, .inr (.inr (122))), (1, .inr (.inr (2))), (0, .inr (.inr (1)))], [.inl ((x4 + (1 : Int32))), .inr (.inr (1)), .inr (.inr (2))], hp σ, c, z)) 5 rfl ?_
  refine TL_iald rfl (fun _ => ?_)
  refine T_go (S' := (1408, [(4, .inl (x4)), (3, .inr (.inr (161))), (2, .inr (.inr (122))), (1, .inr (.inr (2))), (0, .inr (.inr (1)))], [.inr (.inr (161)), .inl ((xs (x4 + (1 : Int32)).toNatClampNeg)), .inr (.inr (2))], hp σ, c, z)) 1 rfl ?_
  refine TL_cs (i := iI) (as := [.inr (.inr (2)), .inl ((xs (x4 + (1 : Int32)).toNatClampNeg)), .inr (.inr (161))]) (rest := []) (st := [.inr (.inr (161)), .inl ((xs (x4 + (1 : Int32)).toNatClampNeg)), .inr (.inr (2))]) rfl (lb rfl) rfl rfl ⟨by omega, by omega, lb rfl, lb rfl⟩ (fun _ h => Ew_le (lb rfl) (s_L_outcomes 2 (xs (x4 + (1 : Int32)).toNatClampNeg) 161 σ _ h)) (fun r62 => ?_)
  show Snd false (some (N, xs)) _ _ _ (cN iI) (1411, [(4, .inl (x4)), (3, .inr (.inr (161))), (2, .inr (.inr (122))), (1, .inr (.inr (2))), (0, .inr (.inr (1)))], [.inl (r62.1)], hp r62.2, c + 1, z + 6)
  refine T_go (S' := (1419, [(5, .inl (r62.1)), (4, .inl (x4)), (3, .inr (.inr (161))), (2, .inr (.inr (122))), (1, .inr (.inr (2))), (0, .inr (.inr (1)))], [.inl ((x4 + (1 : Int32))), .inr (.inr (1)), .inr (.inr (122))], hp r62.2, c + 1, z + 6)) 6 rfl ?_
  refine TL_iald rfl (fun _ => ?_)
  refine TL_cv (i := iI) (as := [.inr (.inr (122)), .inl ((xs (x4 + (1 : Int32)).toNatClampNeg))]) (rest := []) (st := [.inl ((xs (x4 + (1 : Int32)).toNatClampNeg)), .inr (.inr (122))]) rfl rfl rfl ⟨by omega, by omega, lb rfl, lb rfl⟩ (fun _ h => Ew_le (lb rfl) (s_X12_outcomes 122 (xs (x4 + (1 : Int32)).toNatClampNeg) r62.2 _ h)) (fun _ r63 => ?_)
  show Snd false (some (N, xs)) _ _ _ (cN iI) (1423, [(5, .inl (r62.1)), (4, .inl (x4)), (3, .inr (.inr (161))), (2, .inr (.inr (122))), (1, .inr (.inr (2))), (0, .inr (.inr (1)))], [.inl (r63.1)], hp r63.2, c + 1 + 0, z + 6 + 0)
  refine T_go (S' := (1426, [(6, .inl (r63.1)), (5, .inl (r62.1)), (4, .inl (x4)), (3, .inr (.inr (161))), (2, .inr (.inr (122))), (1, .inr (.inr (2))), (0, .inr (.inr (1)))], [.inr (.inr (122))], hp r63.2, c + 1 + 0, z + 6 + 0)) 2 rfl ?_
  refine TL_cv (i := iI) (as := [.inr (.inr (122))]) (rest := []) (st := [.inr (.inr (122))]) rfl rfl rfl ⟨by omega, by omega, lb rfl, lb rfl⟩ (fun _ h => Ew_le (lb rfl) (s_X12_thrown 122 r63.2 _ h)) (fun _ r64 => ?_)
  show Snd false (some (N, xs)) _ _ _ (cN iI) (1429, [(6, .inl (r63.1)), (5, .inl (r62.1)), (4, .inl (x4)), (3, .inr (.inr (161))), (2, .inr (.inr (122))), (1, .inr (.inr (2))), (0, .inr (.inr (1)))], [.inl (r64.1)], hp r64.2, c + 1 + 0 + 0, z + 6 + 0 + 0)
  refine T_go (S' := (1431, [(6, .inl (r63.1)), (5, .inl (r62.1)), (4, .inl (x4)), (3, .inr (.inr (161))), (2, .inr (.inr (122))), (1, .inr (.inr (2))), (0, .inr (.inr (1)))], [.inl (r62.1), .inl (r64.1)], hp r64.2, c + 1 + 0 + 0, z + 6 + 0 + 0)) 1 rfl ?_
  refine TL_icmp_eq 1436 rfl rfl (fun _ => ?_) (fun _ => ?_)
  · refine T_go (S' := (1438, [(6, .inl (r63.1)), (5, .inl (r62.1)), (4, .inl (x4)), (3, .inr (.inr (161))), (2, .inr (.inr (122))), (1, .inr (.inr (2))), (0, .inr (.inr (1)))], [.inl (r62.1)], hp r64.2, c + 1 + 0 + 0, z + 6 + 0 + 0)) 1 rfl ?_
    refine TL_if_ne 1453 rfl rfl (fun _ => ?_) (fun _ => ?_)
    · refine T_go (S' := (23, [(4, .inl ((x4 + (5 : Int32)))), (6, .inl (r63.1)), (5, .inl (r62.1)), (3, .inr (.inr (161))), (2, .inr (.inr (122))), (1, .inr (.inr (2))), (0, .inr (.inr (1)))], [], hp r64.2, c + 1 + 0 + 0, z + 6 + 0 + 0)) 3 rfl ?_
      refine T_loc (ls' := [(4, .inl ((x4 + (5 : Int32)))), (3, .inr (.inr (161))), (2, .inr (.inr (122))), (1, .inr (.inr (2))), (0, .inr (.inr (1)))]) [0, 3, 4, 5, 6] rfl ?_
      exact ih (x4 + (5 : Int32)) r64.2 (c + 1 + 0 + 0) (z + 6 + 0 + 0) (by omega) (by omega)
    · refine T_go (S' := (1443, [(6, .inl (r63.1)), (5, .inl (r62.1)), (4, .inl (x4)), (3, .inr (.inr (161))), (2, .inr (.inr (122))), (1, .inr (.inr (2))), (0, .inr (.inr (1)))], [.inl ((0 : Int32)), .inr (.inr (161))], hp r64.2, c + 1 + 0 + 0, z + 6 + 0 + 0)) 2 rfl ?_
      refine TL_lald rfl (fun _ => ?_)
      refine T_go (S' := (1448, [(6, .inl (r63.1)), (5, .inl (r62.1)), (4, .inl (x4)), (3, .inr (.inr (161))), (2, .inr (.inr (122))), (1, .inr (.inr (2))), (0, .inr (.inr (1)))], [.inl ((lg_cmp (r64.2.2 161 (0 : Int32).toNatClampNeg) r63.1.toInt64))], hp r64.2, c + 1 + 0 + 0, z + 6 + 0 + 0)) 3 rfl ?_
      refine TL_if_eq 1453 rfl rfl (fun _ => ?_) (fun _ => ?_)
      · refine T_go (S' := (23, [(4, .inl ((x4 + (5 : Int32)))), (6, .inl (r63.1)), (5, .inl (r62.1)), (3, .inr (.inr (161))), (2, .inr (.inr (122))), (1, .inr (.inr (2))), (0, .inr (.inr (1)))], [], hp r64.2, c + 1 + 0 + 0, z + 6 + 0 + 0)) 3 rfl ?_
        refine T_loc (ls' := [(4, .inl ((x4 + (5 : Int32)))), (3, .inr (.inr (161))), (2, .inr (.inr (122))), (1, .inr (.inr (2))), (0, .inr (.inr (1)))]) [0, 3, 4, 5, 6] rfl ?_
        exact ih (x4 + (5 : Int32)) r64.2 (c + 1 + 0 + 0) (z + 6 + 0 + 0) (by omega) (by omega)
      · refine T_go (S' := (1452, [(6, .inl (r63.1)), (5, .inl (r62.1)), (4, .inl (x4)), (3, .inr (.inr (161))), (2, .inr (.inr (122))), (1, .inr (.inr (2))), (0, .inr (.inr (1)))], [.inl ((0 : Int32))], hp r64.2, c + 1 + 0 + 0, z + 6 + 0 + 0)) 1 rfl ?_
        exact T_chkr rfl
  · refine T_go (S' := (1435, [(6, .inl (r63.1)), (5, .inl (r62.1)), (4, .inl (x4)), (3, .inr (.inr (161))), (2, .inr (.inr (122))), (1, .inr (.inr (2))), (0, .inr (.inr (1)))], [.inl ((0 : Int32))], hp r64.2, c + 1 + 0 + 0, z + 6 + 0 + 0)) 1 rfl ?_
    exact T_chkr rfl
theorem s_law_21 (N : Nat) (xs : Nat → Int32) (rec : Int32 → eMem → Option (Int32 × eMem)) (C Z : Nat) (ih : ∀ (x4 : Int32) (σ : eMem) (c z : Nat), c ≤ C → z ≤ Z → Snd false (some (N, xs)) 23 m_L_law (rec x4 σ) (cN iI) (23, [(4, .inl (x4)), (3, .inr (.inr (161))), (2, .inr (.inr (122))), (1, .inr (.inr (2))), (0, .inr (.inr (1)))], [], hp σ, c, z)) (x4 : Int32) (σ : eMem) (c z : Nat) (hc : c + 10 ≤ C) (hz : z + 100 ≤ Z) (hC : C ≤ 601024) (hZ : Z ≤ 7293034) : Snd false (some (N, xs)) 23 m_L_law (f_law_21 N xs rec x4 σ) (cN iI) (1400, [(4, .inl (x4)), (3, .inr (.inr (161))), (2, .inr (.inr (122))), (1, .inr (.inr (2))), (0, .inr (.inr (1)))], [], hp σ, c, z) :=
  Snd_21_b (sk_law_21 N xs rec C Z (fun x4 σ c z h1 h2 => Snd_21 (ih x4 σ c z h1 h2)) x4 σ c z hc hz hC hZ)

set_option maxHeartbeats 40000000 in
set_option maxRecDepth 20000 in
theorem sk_law_22 (N : Nat) (xs : Nat → Int32) (rec : Int32 → eMem → Option (Int32 × eMem)) (C Z : Nat) (ih : ∀ (x4 : Int32) (σ : eMem) (c z : Nat), c ≤ C → z ≤ Z → Snd false (some (N, xs)) 23 m_Lk_22 (rec x4 σ) (cN iI) (23, [(4, .inl (x4)), (3, .inr (.inr (161))), (2, .inr (.inr (122))), (1, .inr (.inr (2))), (0, .inr (.inr (1)))], [], hp σ, c, z)) (x4 : Int32) (σ : eMem) (c z : Nat) (hc : c + 10 ≤ C) (hz : z + 100 ≤ Z) (hC : C ≤ 601024) (hZ : Z ≤ 7293034) : Snd false (some (N, xs)) 23 m_Lk_22 (f_law_22 N xs rec x4 σ) (cN iI) (1456, [(4, .inl (x4)), (3, .inr (.inr (161))), (2, .inr (.inr (122))), (1, .inr (.inr (2))), (0, .inr (.inr (1)))], [], hp σ, c, z) := by
  unfold f_law_22
  refine T_go (S' := (1462, [(4, .inl (x4)), (3, .inr (.inr (161))), (2, .inr (.inr (122))), (1, .inr (.inr (2))), (0, .inr (.inr (1)))], [.inl ((x4 + (1 : Int32))), .inr (.inr (1)), .inr (.inr (2))], hp σ, c, z)) 5 rfl ?_
  refine TL_iald rfl (fun _ => ?_)
  refine T_go (S' := (1468, [(4, .inl (x4)), (3, .inr (.inr (161))), (2, .inr (.inr (122))), (1, .inr (.inr (2))), (0, .inr (.inr (1)))], [.inl ((x4 + (2 : Int32))), .inr (.inr (1)), .inl ((xs (x4 + (1 : Int32)).toNatClampNeg)), .inr (.inr (2))], hp σ, c, z)) 4 rfl ?_
  refine TL_iald rfl (fun _ => ?_)
  refine T_go (S' := (1470, [(4, .inl (x4)), (3, .inr (.inr (161))), (2, .inr (.inr (122))), (1, .inr (.inr (2))), (0, .inr (.inr (1)))], [.inr (.inr (161)), .inl ((xs (x4 + (2 : Int32)).toNatClampNeg)), .inl ((xs (x4 + (1 : Int32)).toNatClampNeg)), .inr (.inr (2))], hp σ, c, z)) 1 rfl ?_
  refine TL_cs (i := iI) (as := [.inr (.inr (2)), .inl ((xs (x4 + (1 : Int32)).toNatClampNeg)), .inl ((xs (x4 + (2 : Int32)).toNatClampNeg)), .inr (.inr (161))]) (rest := []) (st := [.inr (.inr (161)), .inl ((xs (x4 + (2 : Int32)).toNatClampNeg)), .inl ((xs (x4 + (1 : Int32)).toNatClampNeg)), .inr (.inr (2))]) rfl (lb rfl) rfl rfl ⟨by omega, by omega, lb rfl, lb rfl⟩ (fun _ h => Ew_le (lb rfl) (s_L_outcome 2 (xs (x4 + (1 : Int32)).toNatClampNeg) (xs (x4 + (2 : Int32)).toNatClampNeg) 161 σ _ h)) (fun r65 => ?_)
  show Snd false (some (N, xs)) _ _ _ (cN iI) (1473, [(4, .inl (x4)), (3, .inr (.inr (161))), (2, .inr (.inr (122))), (1, .inr (.inr (2))), (0, .inr (.inr (1)))], [.inl (r65.1)], hp r65.2, c + 2, z + 12)
  refine T_go (S' := (1481, [(5, .inl (r65.1)), (4, .inl (x4)), (3, .inr (.inr (161))), (2, .inr (.inr (122))), (1, .inr (.inr (2))), (0, .inr (.inr (1)))], [.inl ((x4 + (1 : Int32))), .inr (.inr (1)), .inr (.inr (122))], hp r65.2, c + 2, z + 12)) 6 rfl ?_
  refine TL_iald rfl (fun _ => ?_)
  refine T_go (S' := (1487, [(5, .inl (r65.1)), (4, .inl (x4)), (3, .inr (.inr (161))), (2, .inr (.inr (122))), (1, .inr (.inr (2))), (0, .inr (.inr (1)))], [.inl ((x4 + (2 : Int32))), .inr (.inr (1)), .inl ((xs (x4 + (1 : Int32)).toNatClampNeg)), .inr (.inr (122))], hp r65.2, c + 2, z + 12)) 4 rfl ?_
  refine TL_iald rfl (fun _ => ?_)
  refine TL_cv (i := iI) (as := [.inr (.inr (122)), .inl ((xs (x4 + (1 : Int32)).toNatClampNeg)), .inl ((xs (x4 + (2 : Int32)).toNatClampNeg))]) (rest := []) (st := [.inl ((xs (x4 + (2 : Int32)).toNatClampNeg)), .inl ((xs (x4 + (1 : Int32)).toNatClampNeg)), .inr (.inr (122))]) rfl rfl rfl ⟨by omega, by omega, lb rfl, lb rfl⟩ (fun _ h => Ew_le (lb rfl) (s_X12_outcome 122 (xs (x4 + (1 : Int32)).toNatClampNeg) (xs (x4 + (2 : Int32)).toNatClampNeg) r65.2 _ h)) (fun _ r66 => ?_)
  show Snd false (some (N, xs)) _ _ _ (cN iI) (1491, [(5, .inl (r65.1)), (4, .inl (x4)), (3, .inr (.inr (161))), (2, .inr (.inr (122))), (1, .inr (.inr (2))), (0, .inr (.inr (1)))], [.inl (r66.1)], hp r66.2, c + 2 + 0, z + 12 + 0)
  refine T_go (S' := (1494, [(6, .inl (r66.1)), (5, .inl (r65.1)), (4, .inl (x4)), (3, .inr (.inr (161))), (2, .inr (.inr (122))), (1, .inr (.inr (2))), (0, .inr (.inr (1)))], [.inr (.inr (122))], hp r66.2, c + 2 + 0, z + 12 + 0)) 2 rfl ?_
  refine TL_cv (i := iI) (as := [.inr (.inr (122))]) (rest := []) (st := [.inr (.inr (122))]) rfl rfl rfl ⟨by omega, by omega, lb rfl, lb rfl⟩ (fun _ h => Ew_le (lb rfl) (s_X12_thrown 122 r66.2 _ h)) (fun _ r67 => ?_)
  show Snd false (some (N, xs)) _ _ _ (cN iI) (1497, [(6, .inl (r66.1)), (5, .inl (r65.1)), (4, .inl (x4)), (3, .inr (.inr (161))), (2, .inr (.inr (122))), (1, .inr (.inr (2))), (0, .inr (.inr (1)))], [.inl (r67.1)], hp r67.2, c + 2 + 0 + 0, z + 12 + 0 + 0)
  refine T_go (S' := (1499, [(6, .inl (r66.1)), (5, .inl (r65.1)), (4, .inl (x4)), (3, .inr (.inr (161))), (2, .inr (.inr (122))), (1, .inr (.inr (2))), (0, .inr (.inr (1)))], [.inl (r65.1), .inl (r67.1)], hp r67.2, c + 2 + 0 + 0, z + 12 + 0 + 0)) 1 rfl ?_
  refine TL_icmp_eq 1504 rfl rfl (fun _ => ?_) (fun _ => ?_)
  · refine T_go (S' := (1506, [(6, .inl (r66.1)), (5, .inl (r65.1)), (4, .inl (x4)), (3, .inr (.inr (161))), (2, .inr (.inr (122))), (1, .inr (.inr (2))), (0, .inr (.inr (1)))], [.inl (r65.1)], hp r67.2, c + 2 + 0 + 0, z + 12 + 0 + 0)) 1 rfl ?_
    refine TL_if_ne 1521 rfl rfl (fun _ => ?_) (fun _ => ?_)
    · refine T_go (S' := (23, [(4, .inl ((x4 + (5 : Int32)))), (6, .inl (r66.1)), (5, .inl (r65.1)), (3, .inr (.inr (161))), (2, .inr (.inr (122))), (1, .inr (.inr (2))), (0, .inr (.inr (1)))], [], hp r67.2, c + 2 + 0 + 0, z + 12 + 0 + 0)) 3 rfl ?_
      refine T_loc (ls' := [(4, .inl ((x4 + (5 : Int32)))), (3, .inr (.inr (161))), (2, .inr (.inr (122))), (1, .inr (.inr (2))), (0, .inr (.inr (1)))]) [0, 3, 4, 5, 6] rfl ?_
      exact ih (x4 + (5 : Int32)) r67.2 (c + 2 + 0 + 0) (z + 12 + 0 + 0) (by omega) (by omega)
    · refine T_go (S' := (1511, [(6, .inl (r66.1)), (5, .inl (r65.1)), (4, .inl (x4)), (3, .inr (.inr (161))), (2, .inr (.inr (122))), (1, .inr (.inr (2))), (0, .inr (.inr (1)))], [.inl ((0 : Int32)), .inr (.inr (161))], hp r67.2, c + 2 + 0 + 0, z + 12 + 0 + 0)) 2 rfl ?_
      refine TL_lald rfl (fun _ => ?_)
      refine T_go (S' := (1516, [(6, .inl (r66.1)), (5, .inl (r65.1)), (4, .inl (x4)), (3, .inr (.inr (161))), (2, .inr (.inr (122))), (1, .inr (.inr (2))), (0, .inr (.inr (1)))], [.inl ((lg_cmp (r67.2.2 161 (0 : Int32).toNatClampNeg) r66.1.toInt64))], hp r67.2, c + 2 + 0 + 0, z + 12 + 0 + 0)) 3 rfl ?_
      refine TL_if_eq 1521 rfl rfl (fun _ => ?_) (fun _ => ?_)
      · refine T_go (S' := (23, [(4, .inl ((x4 + (5 : Int32)))), (6, .inl (r66.1)), (5, .inl (r65.1)), (3, .inr (.inr (161))), (2, .inr (.inr (122))), (1, .inr (.inr (2))), (0, .inr (.inr (1)))], [], hp r67.2, c + 2 + 0 + 0, z + 12 + 0 + 0)) 3 rfl ?_
        refine T_loc (ls' := [(4, .inl ((x4 + (5 : Int32)))), (3, .inr (.inr (161))), (2, .inr (.inr (122))), (1, .inr (.inr (2))), (0, .inr (.inr (1)))]) [0, 3, 4, 5, 6] rfl ?_
        exact ih (x4 + (5 : Int32)) r67.2 (c + 2 + 0 + 0) (z + 12 + 0 + 0) (by omega) (by omega)
      · refine T_go (S' := (1520, [(6, .inl (r66.1)), (5, .inl (r65.1)), (4, .inl (x4)), (3, .inr (.inr (161))), (2, .inr (.inr (122))), (1, .inr (.inr (2))), (0, .inr (.inr (1)))], [.inl ((0 : Int32))], hp r67.2, c + 2 + 0 + 0, z + 12 + 0 + 0)) 1 rfl ?_
        exact T_chkr rfl
  · refine T_go (S' := (1503, [(6, .inl (r66.1)), (5, .inl (r65.1)), (4, .inl (x4)), (3, .inr (.inr (161))), (2, .inr (.inr (122))), (1, .inr (.inr (2))), (0, .inr (.inr (1)))], [.inl ((0 : Int32))], hp r67.2, c + 2 + 0 + 0, z + 12 + 0 + 0)) 1 rfl ?_
    exact T_chkr rfl
theorem s_law_22 (N : Nat) (xs : Nat → Int32) (rec : Int32 → eMem → Option (Int32 × eMem)) (C Z : Nat) (ih : ∀ (x4 : Int32) (σ : eMem) (c z : Nat), c ≤ C → z ≤ Z → Snd false (some (N, xs)) 23 m_L_law (rec x4 σ) (cN iI) (23, [(4, .inl (x4)), (3, .inr (.inr (161))), (2, .inr (.inr (122))), (1, .inr (.inr (2))), (0, .inr (.inr (1)))], [], hp σ, c, z)) (x4 : Int32) (σ : eMem) (c z : Nat) (hc : c + 10 ≤ C) (hz : z + 100 ≤ Z) (hC : C ≤ 601024) (hZ : Z ≤ 7293034) : Snd false (some (N, xs)) 23 m_L_law (f_law_22 N xs rec x4 σ) (cN iI) (1456, [(4, .inl (x4)), (3, .inr (.inr (161))), (2, .inr (.inr (122))), (1, .inr (.inr (2))), (0, .inr (.inr (1)))], [], hp σ, c, z) :=
  Snd_22_b (sk_law_22 N xs rec C Z (fun x4 σ c z h1 h2 => Snd_22 (ih x4 σ c z h1 h2)) x4 σ c z hc hz hC hZ)

set_option maxHeartbeats 40000000 in
set_option maxRecDepth 20000 in
theorem sk_law_23 (N : Nat) (xs : Nat → Int32) (rec : Int32 → eMem → Option (Int32 × eMem)) (C Z : Nat) (ih : ∀ (x4 : Int32) (σ : eMem) (c z : Nat), c ≤ C → z ≤ Z → Snd false (some (N, xs)) 23 m_Lk_23 (rec x4 σ) (cN iI) (23, [(4, .inl (x4)), (3, .inr (.inr (161))), (2, .inr (.inr (122))), (1, .inr (.inr (2))), (0, .inr (.inr (1)))], [], hp σ, c, z)) (x4 : Int32) (σ : eMem) (c z : Nat) (hc : c + 10 ≤ C) (hz : z + 100 ≤ Z) (hC : C ≤ 601024) (hZ : Z ≤ 7293034) : Snd false (some (N, xs)) 23 m_Lk_23 (f_law_23 N xs rec x4 σ) (cN iI) (1524, [(4, .inl (x4)), (3, .inr (.inr (161))), (2, .inr (.inr (122))), (1, .inr (.inr (2))), (0, .inr (.inr (1)))], [], hp σ, c, z) := by
  unfold f_law_23
  refine T_go (S' := (1530, [(4, .inl (x4)), (3, .inr (.inr (161))), (2, .inr (.inr (122))), (1, .inr (.inr (2))), (0, .inr (.inr (1)))], [.inl ((x4 + (1 : Int32))), .inr (.inr (1)), .inr (.inr (2))], hp σ, c, z)) 5 rfl ?_
  refine TL_iald rfl (fun _ => ?_)
  refine T_go (S' := (1532, [(4, .inl (x4)), (3, .inr (.inr (161))), (2, .inr (.inr (122))), (1, .inr (.inr (2))), (0, .inr (.inr (1)))], [.inr (.inr (161)), .inl ((xs (x4 + (1 : Int32)).toNatClampNeg)), .inr (.inr (2))], hp σ, c, z)) 1 rfl ?_
  refine TL_cs (i := iI) (as := [.inr (.inr (2)), .inl ((xs (x4 + (1 : Int32)).toNatClampNeg)), .inr (.inr (161))]) (rest := []) (st := [.inr (.inr (161)), .inl ((xs (x4 + (1 : Int32)).toNatClampNeg)), .inr (.inr (2))]) rfl (lb rfl) rfl rfl ⟨by omega, by omega, lb rfl, lb rfl⟩ (fun _ h => Ew_le (lb rfl) (s_L_outcomesAnew 2 (xs (x4 + (1 : Int32)).toNatClampNeg) 161 σ _ h)) (fun r68 => ?_)
  show Snd false (some (N, xs)) _ _ _ (cN iI) (1535, [(4, .inl (x4)), (3, .inr (.inr (161))), (2, .inr (.inr (122))), (1, .inr (.inr (2))), (0, .inr (.inr (1)))], [.inl (r68.1)], hp r68.2, c + 1, z + 6)
  refine T_go (S' := (1543, [(5, .inl (r68.1)), (4, .inl (x4)), (3, .inr (.inr (161))), (2, .inr (.inr (122))), (1, .inr (.inr (2))), (0, .inr (.inr (1)))], [.inl ((x4 + (1 : Int32))), .inr (.inr (1)), .inr (.inr (122))], hp r68.2, c + 1, z + 6)) 6 rfl ?_
  refine TL_iald rfl (fun _ => ?_)
  refine TL_cv (i := iI) (as := [.inr (.inr (122)), .inl ((xs (x4 + (1 : Int32)).toNatClampNeg))]) (rest := []) (st := [.inl ((xs (x4 + (1 : Int32)).toNatClampNeg)), .inr (.inr (122))]) rfl rfl rfl ⟨by omega, by omega, lb rfl, lb rfl⟩ (fun _ h => Ew_le (lb rfl) (s_X12_outcomesAnew 122 (xs (x4 + (1 : Int32)).toNatClampNeg) r68.2 _ h)) (fun _ r69 => ?_)
  show Snd false (some (N, xs)) _ _ _ (cN iI) (1547, [(5, .inl (r68.1)), (4, .inl (x4)), (3, .inr (.inr (161))), (2, .inr (.inr (122))), (1, .inr (.inr (2))), (0, .inr (.inr (1)))], [.inl (r69.1)], hp r69.2, c + 1 + 0, z + 6 + 0)
  refine T_go (S' := (1550, [(6, .inl (r69.1)), (5, .inl (r68.1)), (4, .inl (x4)), (3, .inr (.inr (161))), (2, .inr (.inr (122))), (1, .inr (.inr (2))), (0, .inr (.inr (1)))], [.inr (.inr (122))], hp r69.2, c + 1 + 0, z + 6 + 0)) 2 rfl ?_
  refine TL_cv (i := iI) (as := [.inr (.inr (122))]) (rest := []) (st := [.inr (.inr (122))]) rfl rfl rfl ⟨by omega, by omega, lb rfl, lb rfl⟩ (fun _ h => Ew_le (lb rfl) (s_X12_thrown 122 r69.2 _ h)) (fun _ r70 => ?_)
  show Snd false (some (N, xs)) _ _ _ (cN iI) (1553, [(6, .inl (r69.1)), (5, .inl (r68.1)), (4, .inl (x4)), (3, .inr (.inr (161))), (2, .inr (.inr (122))), (1, .inr (.inr (2))), (0, .inr (.inr (1)))], [.inl (r70.1)], hp r70.2, c + 1 + 0 + 0, z + 6 + 0 + 0)
  refine T_go (S' := (1555, [(6, .inl (r69.1)), (5, .inl (r68.1)), (4, .inl (x4)), (3, .inr (.inr (161))), (2, .inr (.inr (122))), (1, .inr (.inr (2))), (0, .inr (.inr (1)))], [.inl (r68.1), .inl (r70.1)], hp r70.2, c + 1 + 0 + 0, z + 6 + 0 + 0)) 1 rfl ?_
  refine TL_icmp_eq 1560 rfl rfl (fun _ => ?_) (fun _ => ?_)
  · refine T_go (S' := (1562, [(6, .inl (r69.1)), (5, .inl (r68.1)), (4, .inl (x4)), (3, .inr (.inr (161))), (2, .inr (.inr (122))), (1, .inr (.inr (2))), (0, .inr (.inr (1)))], [.inl (r68.1)], hp r70.2, c + 1 + 0 + 0, z + 6 + 0 + 0)) 1 rfl ?_
    refine TL_if_ne 1577 rfl rfl (fun _ => ?_) (fun _ => ?_)
    · refine T_go (S' := (23, [(4, .inl ((x4 + (5 : Int32)))), (6, .inl (r69.1)), (5, .inl (r68.1)), (3, .inr (.inr (161))), (2, .inr (.inr (122))), (1, .inr (.inr (2))), (0, .inr (.inr (1)))], [], hp r70.2, c + 1 + 0 + 0, z + 6 + 0 + 0)) 3 rfl ?_
      refine T_loc (ls' := [(4, .inl ((x4 + (5 : Int32)))), (3, .inr (.inr (161))), (2, .inr (.inr (122))), (1, .inr (.inr (2))), (0, .inr (.inr (1)))]) [0, 3, 4, 5, 6] rfl ?_
      exact ih (x4 + (5 : Int32)) r70.2 (c + 1 + 0 + 0) (z + 6 + 0 + 0) (by omega) (by omega)
    · refine T_go (S' := (1567, [(6, .inl (r69.1)), (5, .inl (r68.1)), (4, .inl (x4)), (3, .inr (.inr (161))), (2, .inr (.inr (122))), (1, .inr (.inr (2))), (0, .inr (.inr (1)))], [.inl ((0 : Int32)), .inr (.inr (161))], hp r70.2, c + 1 + 0 + 0, z + 6 + 0 + 0)) 2 rfl ?_
      refine TL_lald rfl (fun _ => ?_)
      refine T_go (S' := (1572, [(6, .inl (r69.1)), (5, .inl (r68.1)), (4, .inl (x4)), (3, .inr (.inr (161))), (2, .inr (.inr (122))), (1, .inr (.inr (2))), (0, .inr (.inr (1)))], [.inl ((lg_cmp (r70.2.2 161 (0 : Int32).toNatClampNeg) r69.1.toInt64))], hp r70.2, c + 1 + 0 + 0, z + 6 + 0 + 0)) 3 rfl ?_
      refine TL_if_eq 1577 rfl rfl (fun _ => ?_) (fun _ => ?_)
      · refine T_go (S' := (23, [(4, .inl ((x4 + (5 : Int32)))), (6, .inl (r69.1)), (5, .inl (r68.1)), (3, .inr (.inr (161))), (2, .inr (.inr (122))), (1, .inr (.inr (2))), (0, .inr (.inr (1)))], [], hp r70.2, c + 1 + 0 + 0, z + 6 + 0 + 0)) 3 rfl ?_
        refine T_loc (ls' := [(4, .inl ((x4 + (5 : Int32)))), (3, .inr (.inr (161))), (2, .inr (.inr (122))), (1, .inr (.inr (2))), (0, .inr (.inr (1)))]) [0, 3, 4, 5, 6] rfl ?_
        exact ih (x4 + (5 : Int32)) r70.2 (c + 1 + 0 + 0) (z + 6 + 0 + 0) (by omega) (by omega)
      · refine T_go (S' := (1576, [(6, .inl (r69.1)), (5, .inl (r68.1)), (4, .inl (x4)), (3, .inr (.inr (161))), (2, .inr (.inr (122))), (1, .inr (.inr (2))), (0, .inr (.inr (1)))], [.inl ((0 : Int32))], hp r70.2, c + 1 + 0 + 0, z + 6 + 0 + 0)) 1 rfl ?_
        exact T_chkr rfl
  · refine T_go (S' := (1559, [(6, .inl (r69.1)), (5, .inl (r68.1)), (4, .inl (x4)), (3, .inr (.inr (161))), (2, .inr (.inr (122))), (1, .inr (.inr (2))), (0, .inr (.inr (1)))], [.inl ((0 : Int32))], hp r70.2, c + 1 + 0 + 0, z + 6 + 0 + 0)) 1 rfl ?_
    exact T_chkr rfl
theorem s_law_23 (N : Nat) (xs : Nat → Int32) (rec : Int32 → eMem → Option (Int32 × eMem)) (C Z : Nat) (ih : ∀ (x4 : Int32) (σ : eMem) (c z : Nat), c ≤ C → z ≤ Z → Snd false (some (N, xs)) 23 m_L_law (rec x4 σ) (cN iI) (23, [(4, .inl (x4)), (3, .inr (.inr (161))), (2, .inr (.inr (122))), (1, .inr (.inr (2))), (0, .inr (.inr (1)))], [], hp σ, c, z)) (x4 : Int32) (σ : eMem) (c z : Nat) (hc : c + 10 ≤ C) (hz : z + 100 ≤ Z) (hC : C ≤ 601024) (hZ : Z ≤ 7293034) : Snd false (some (N, xs)) 23 m_L_law (f_law_23 N xs rec x4 σ) (cN iI) (1524, [(4, .inl (x4)), (3, .inr (.inr (161))), (2, .inr (.inr (122))), (1, .inr (.inr (2))), (0, .inr (.inr (1)))], [], hp σ, c, z) :=
  Snd_23_b (sk_law_23 N xs rec C Z (fun x4 σ c z h1 h2 => Snd_23 (ih x4 σ c z h1 h2)) x4 σ c z hc hz hC hZ)

set_option maxHeartbeats 40000000 in
set_option maxRecDepth 20000 in
theorem sk_law_24 (N : Nat) (xs : Nat → Int32) (rec : Int32 → eMem → Option (Int32 × eMem)) (C Z : Nat) (ih : ∀ (x4 : Int32) (σ : eMem) (c z : Nat), c ≤ C → z ≤ Z → Snd false (some (N, xs)) 23 m_Lk_24 (rec x4 σ) (cN iI) (23, [(4, .inl (x4)), (3, .inr (.inr (161))), (2, .inr (.inr (122))), (1, .inr (.inr (2))), (0, .inr (.inr (1)))], [], hp σ, c, z)) (x4 : Int32) (σ : eMem) (c z : Nat) (hc : c + 10 ≤ C) (hz : z + 100 ≤ Z) (hC : C ≤ 601024) (hZ : Z ≤ 7293034) : Snd false (some (N, xs)) 23 m_Lk_24 (f_law_24 N xs rec x4 σ) (cN iI) (1580, [(4, .inl (x4)), (3, .inr (.inr (161))), (2, .inr (.inr (122))), (1, .inr (.inr (2))), (0, .inr (.inr (1)))], [], hp σ, c, z) := by
  unfold f_law_24
  refine T_go (S' := (1581, [(4, .inl (x4)), (3, .inr (.inr (161))), (2, .inr (.inr (122))), (1, .inr (.inr (2))), (0, .inr (.inr (1)))], [.inr (.inr (2))], hp σ, c, z)) 1 rfl ?_
  refine TL_cv (i := iI) (as := [.inr (.inr (2))]) (rest := []) (st := [.inr (.inr (2))]) rfl rfl rfl ⟨by omega, by omega, lb rfl, lb rfl⟩ (fun _ h => Ew_le (lb rfl) (s_X11_areAlike 2 σ _ h)) (fun _ r71 => ?_)
  show Snd false (some (N, xs)) _ _ _ (cN iI) (1584, [(4, .inl (x4)), (3, .inr (.inr (161))), (2, .inr (.inr (122))), (1, .inr (.inr (2))), (0, .inr (.inr (1)))], [.inl (r71.1)], hp r71.2, c + 0, z + 0)
  refine T_go (S' := (1585, [(4, .inl (x4)), (3, .inr (.inr (161))), (2, .inr (.inr (122))), (1, .inr (.inr (2))), (0, .inr (.inr (1)))], [.inr (.inr (122)), .inl (r71.1)], hp r71.2, c + 0, z + 0)) 1 rfl ?_
  refine TL_cv (i := iI) (as := [.inr (.inr (122))]) (rest := [.inl (r71.1)]) (st := [.inr (.inr (122)), .inl (r71.1)]) rfl rfl rfl ⟨by omega, by omega, lb rfl, lb rfl⟩ (fun _ h => Ew_le (lb rfl) (s_X12_areAlike 122 r71.2 _ h)) (fun _ r72 => ?_)
  show Snd false (some (N, xs)) _ _ _ (cN iI) (1588, [(4, .inl (x4)), (3, .inr (.inr (161))), (2, .inr (.inr (122))), (1, .inr (.inr (2))), (0, .inr (.inr (1)))], [.inl (r72.1), .inl (r71.1)], hp r72.2, c + 0 + 0, z + 0 + 0)
  refine TL_icmp_eq 1593 rfl rfl (fun _ => ?_) (fun _ => ?_)
  · refine T_go (S' := (23, [(4, .inl ((x4 + (5 : Int32)))), (3, .inr (.inr (161))), (2, .inr (.inr (122))), (1, .inr (.inr (2))), (0, .inr (.inr (1)))], [], hp r72.2, c + 0 + 0, z + 0 + 0)) 2 rfl ?_
    refine T_loc (ls' := [(4, .inl ((x4 + (5 : Int32)))), (3, .inr (.inr (161))), (2, .inr (.inr (122))), (1, .inr (.inr (2))), (0, .inr (.inr (1)))]) [0, 1, 2, 3, 4] rfl ?_
    exact ih (x4 + (5 : Int32)) r72.2 (c + 0 + 0) (z + 0 + 0) (by omega) (by omega)
  · refine T_go (S' := (1592, [(4, .inl (x4)), (3, .inr (.inr (161))), (2, .inr (.inr (122))), (1, .inr (.inr (2))), (0, .inr (.inr (1)))], [.inl ((0 : Int32))], hp r72.2, c + 0 + 0, z + 0 + 0)) 1 rfl ?_
    exact T_chkr rfl
theorem s_law_24 (N : Nat) (xs : Nat → Int32) (rec : Int32 → eMem → Option (Int32 × eMem)) (C Z : Nat) (ih : ∀ (x4 : Int32) (σ : eMem) (c z : Nat), c ≤ C → z ≤ Z → Snd false (some (N, xs)) 23 m_L_law (rec x4 σ) (cN iI) (23, [(4, .inl (x4)), (3, .inr (.inr (161))), (2, .inr (.inr (122))), (1, .inr (.inr (2))), (0, .inr (.inr (1)))], [], hp σ, c, z)) (x4 : Int32) (σ : eMem) (c z : Nat) (hc : c + 10 ≤ C) (hz : z + 100 ≤ Z) (hC : C ≤ 601024) (hZ : Z ≤ 7293034) : Snd false (some (N, xs)) 23 m_L_law (f_law_24 N xs rec x4 σ) (cN iI) (1580, [(4, .inl (x4)), (3, .inr (.inr (161))), (2, .inr (.inr (122))), (1, .inr (.inr (2))), (0, .inr (.inr (1)))], [], hp σ, c, z) :=
  Snd_24_b (sk_law_24 N xs rec C Z (fun x4 σ c z h1 h2 => Snd_24 (ih x4 σ c z h1 h2)) x4 σ c z hc hz hC hZ)
