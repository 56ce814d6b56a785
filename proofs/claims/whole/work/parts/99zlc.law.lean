/-! the law, its cases -/
set_option maxHeartbeats 40000000 in
set_option maxRecDepth 20000 in
theorem sk_law_10 (N : Nat) (xs : Nat → Int32) (rec : Int32 → eMem → Option (Int32 × eMem)) (C Z : Nat) (ih : ∀ (x4 : Int32) (σ : eMem) (c z : Nat), c ≤ C → z ≤ Z → Snd false (some (N, xs)) 23 m_Lk_10 (rec x4 σ) (cN iI) (23, [(4, .inl (x4)), (3, .inr (.inr (161))), (2, .inr (.inr (122))), (1, .inr (.inr (2))), (0, .inr (.inr (1)))], [], hp σ, c, z)) (x4 : Int32) (σ : eMem) (c z : Nat) (hc : c + 10 ≤ C) (hz : z + 100 ≤ Z) (hC : C ≤ 601024) (hZ : Z ≤ 7293034) : Snd false (some (N, xs)) 23 m_Lk_10 (f_law_10 N xs rec x4 σ) (cN iI) (810, [(4, .inl (x4)), (3, .inr (.inr (161))), (2, .inr (.inr (122))), (1, .inr (.inr (2))), (0, .inr (.inr (1)))], [], hp σ, c, z) := by
  unfold f_law_10
  refine T_go (S' := (816, [(4, .inl (x4)), (3, .inr (.inr (161))), (2, .inr (.inr (122))), (1, .inr (.inr (2))), (0, .inr (.inr (1)))], [.inl ((x4 + (1 : Int32))), .inr (.inr (1)), .inr (.inr (2))], hp σ, c, z)) 5 rfl ?_
  refine TL_iald rfl (fun _ => ?_)
  refine T_go (S' := (822, [(4, .inl (x4)), (3, .inr (.inr (161))), (2, .inr (.inr (122))), (1, .inr (.inr (2))), (0, .inr (.inr (1)))], [.inl ((x4 + (2 : Int32))), .inr (.inr (1)), .inl ((xs (x4 + (1 : Int32)).toNatClampNeg)), .inr (.inr (2))], hp σ, c, z)) 4 rfl ?_
  refine TL_iald rfl (fun _ => ?_)
  refine T_go (S' := (824, [(4, .inl (x4)), (3, .inr (.inr (161))), (2, .inr (.inr (122))), (1, .inr (.inr (2))), (0, .inr (.inr (1)))], [.inr (.inr (161)), .inl ((xs (x4 + (2 : Int32)).toNatClampNeg)), .inl ((xs (x4 + (1 : Int32)).toNatClampNeg)), .inr (.inr (2))], hp σ, c, z)) 1 rfl ?_
  refine TL_cs (i := iI) (as := [.inr (.inr (2)), .inl ((xs (x4 + (1 : Int32)).toNatClampNeg)), .inl ((xs (x4 + (2 : Int32)).toNatClampNeg)), .inr (.inr (161))]) (rest := []) (st := [.inr (.inr (161)), .inl ((xs (x4 + (2 : Int32)).toNatClampNeg)), .inl ((xs (x4 + (1 : Int32)).toNatClampNeg)), .inr (.inr (2))]) rfl (lb rfl) rfl rfl ⟨by omega, by omega, lb rfl, lb rfl⟩ (fun _ h => Ew_le (lb rfl) (s_L_stateOf 2 (xs (x4 + (1 : Int32)).toNatClampNeg) (xs (x4 + (2 : Int32)).toNatClampNeg) 161 σ _ h)) (fun r31 => ?_)
  show Snd false (some (N, xs)) _ _ _ (cN iI) (827, [(4, .inl (x4)), (3, .inr (.inr (161))), (2, .inr (.inr (122))), (1, .inr (.inr (2))), (0, .inr (.inr (1)))], [.inl (r31.1)], hp r31.2, c + 2, z + 12)
  refine T_go (S' := (835, [(5, .inl (r31.1)), (4, .inl (x4)), (3, .inr (.inr (161))), (2, .inr (.inr (122))), (1, .inr (.inr (2))), (0, .inr (.inr (1)))], [.inl ((x4 + (1 : Int32))), .inr (.inr (1)), .inr (.inr (122))], hp r31.2, c + 2, z + 12)) 6 rfl ?_
  refine TL_iald rfl (fun _ => ?_)
  refine T_go (S' := (841, [(5, .inl (r31.1)), (4, .inl (x4)), (3, .inr (.inr (161))), (2, .inr (.inr (122))), (1, .inr (.inr (2))), (0, .inr (.inr (1)))], [.inl ((x4 + (2 : Int32))), .inr (.inr (1)), .inl ((xs (x4 + (1 : Int32)).toNatClampNeg)), .inr (.inr (122))], hp r31.2, c + 2, z + 12)) 4 rfl ?_
  refine TL_iald rfl (fun _ => ?_)
  refine TL_cv (i := iI) (as := [.inr (.inr (122)), .inl ((xs (x4 + (1 : Int32)).toNatClampNeg)), .inl ((xs (x4 + (2 : Int32)).toNatClampNeg))]) (rest := []) (st := [.inl ((xs (x4 + (2 : Int32)).toNatClampNeg)), .inl ((xs (x4 + (1 : Int32)).toNatClampNeg)), .inr (.inr (122))]) rfl rfl rfl ⟨by omega, by omega, lb rfl, lb rfl⟩ (fun _ h => Ew_le (lb rfl) (s_X12_stateOf 122 (xs (x4 + (1 : Int32)).toNatClampNeg) (xs (x4 + (2 : Int32)).toNatClampNeg) r31.2 _ h)) (fun _ r32 => ?_)
  show Snd false (some (N, xs)) _ _ _ (cN iI) (845, [(5, .inl (r31.1)), (4, .inl (x4)), (3, .inr (.inr (161))), (2, .inr (.inr (122))), (1, .inr (.inr (2))), (0, .inr (.inr (1)))], [.inl (r32.1)], hp r32.2, c + 2 + 0, z + 12 + 0)
  refine T_go (S' := (848, [(6, .inl (r32.1)), (5, .inl (r31.1)), (4, .inl (x4)), (3, .inr (.inr (161))), (2, .inr (.inr (122))), (1, .inr (.inr (2))), (0, .inr (.inr (1)))], [.inr (.inr (122))], hp r32.2, c + 2 + 0, z + 12 + 0)) 2 rfl ?_
  refine TL_cv (i := iI) (as := [.inr (.inr (122))]) (rest := []) (st := [.inr (.inr (122))]) rfl rfl rfl ⟨by omega, by omega, lb rfl, lb rfl⟩ (fun _ h => Ew_le (lb rfl) (s_X12_thrown 122 r32.2 _ h)) (fun _ r33 => ?_)
  show Snd false (some (N, xs)) _ _ _ (cN iI) (851, [(6, .inl (r32.1)), (5, .inl (r31.1)), (4, .inl (x4)), (3, .inr (.inr (161))), (2, .inr (.inr (122))), (1, .inr (.inr (2))), (0, .inr (.inr (1)))], [.inl (r33.1)], hp r33.2, c + 2 + 0 + 0, z + 12 + 0 + 0)
  refine T_go (S' := (853, [(6, .inl (r32.1)), (5, .inl (r31.1)), (4, .inl (x4)), (3, .inr (.inr (161))), (2, .inr (.inr (122))), (1, .inr (.inr (2))), (0, .inr (.inr (1)))], [.inl (r31.1), .inl (r33.1)], hp r33.2, c + 2 + 0 + 0, z + 12 + 0 + 0)) 1 rfl ?_
  refine TL_icmp_eq 858 rfl rfl (fun _ => ?_) (fun _ => ?_)
  · refine T_go (S' := (860, [(6, .inl (r32.1)), (5, .inl (r31.1)), (4, .inl (x4)), (3, .inr (.inr (161))), (2, .inr (.inr (122))), (1, .inr (.inr (2))), (0, .inr (.inr (1)))], [.inl (r31.1)], hp r33.2, c + 2 + 0 + 0, z + 12 + 0 + 0)) 1 rfl ?_
    refine TL_if_ne 875 rfl rfl (fun _ => ?_) (fun _ => ?_)
    · refine T_go (S' := (23, [(4, .inl ((x4 + (5 : Int32)))), (6, .inl (r32.1)), (5, .inl (r31.1)), (3, .inr (.inr (161))), (2, .inr (.inr (122))), (1, .inr (.inr (2))), (0, .inr (.inr (1)))], [], hp r33.2, c + 2 + 0 + 0, z + 12 + 0 + 0)) 3 rfl ?_
      refine T_loc (ls' := [(4, .inl ((x4 + (5 : Int32)))), (3, .inr (.inr (161))), (2, .inr (.inr (122))), (1, .inr (.inr (2))), (0, .inr (.inr (1)))]) [0, 3, 4, 5, 6] rfl ?_
      exact ih (x4 + (5 : Int32)) r33.2 (c + 2 + 0 + 0) (z + 12 + 0 + 0) (by omega) (by omega)
    · refine T_go (S' := (865, [(6, .inl (r32.1)), (5, .inl (r31.1)), (4, .inl (x4)), (3, .inr (.inr (161))), (2, .inr (.inr (122))), (1, .inr (.inr (2))), (0, .inr (.inr (1)))], [.inl ((0 : Int32)), .inr (.inr (161))], hp r33.2, c + 2 + 0 + 0, z + 12 + 0 + 0)) 2 rfl ?_
      refine TL_lald rfl (fun _ => ?_)
      refine T_go (S' := (870, [(6, .inl (r32.1)), (5, .inl (r31.1)), (4, .inl (x4)), (3, .inr (.inr (161))), (2, .inr (.inr (122))), (1, .inr (.inr (2))), (0, .inr (.inr (1)))], [.inl ((lg_cmp (r33.2.2 161 (0 : Int32).toNatClampNeg) r32.1.toInt64))], hp r33.2, c + 2 + 0 + 0, z + 12 + 0 + 0)) 3 rfl ?_
      refine TL_if_eq 875 rfl rfl (fun _ => ?_) (fun _ => ?_)
      · refine T_go (S' := (23, [(4, .inl ((x4 + (5 : Int32)))), (6, .inl (r32.1)), (5, .inl (r31.1)), (3, .inr (.inr (161))), (2, .inr (.inr (122))), (1, .inr (.inr (2))), (0, .inr (.inr (1)))], [], hp r33.2, c + 2 + 0 + 0, z + 12 + 0 + 0)) 3 rfl ?_
        refine T_loc (ls' := [(4, .inl ((x4 + (5 : Int32)))), (3, .inr (.inr (161))), (2, .inr (.inr (122))), (1, .inr (.inr (2))), (0, .inr (.inr (1)))]) [0, 3, 4, 5, 6] rfl ?_
        exact ih (x4 + (5 : Int32)) r33.2 (c + 2 + 0 + 0) (z + 12 + 0 + 0) (by omega) (by omega)
      · refine T_go (S' := (874, [(6, .inl (r32.1)), (5, .inl (r31.1)), (4, .inl (x4)), (3, .inr (.inr (161))), (2, .inr (.inr (122))), (1, .inr (.inr (2))), (0, .inr (.inr (1)))], [.inl ((0 : Int32))], hp r33.2, c + 2 + 0 + 0, z + 12 + 0 + 0)) 1 rfl ?_
        exact T_chkr rfl
  · refine T_go (S' := (857, [(6, .inl (r32.1)), (5, .inl (r31.1)), (4, .inl (x4)), (3, .inr (.inr (161))), (2, .inr (.inr (122))), (1, .inr (.inr (2))), (0, .inr (.inr (1)))], [.inl ((0 : Int32))], hp r33.2, c + 2 + 0 + 0, z + 12 + 0 + 0)) 1 rfl ?_
    exact T_chkr rfl
theorem s_law_10 (N : Nat) (xs : Nat → Int32) (rec : Int32 → eMem → Option (Int32 × eMem)) (C Z : Nat) (ih : ∀ (x4 : Int32) (σ : eMem) (c z : Nat), c ≤ C → z ≤ Z → Snd false (some (N, xs)) 23 m_L_law (rec x4 σ) (cN iI) (23, [(4, .inl (x4)), (3, .inr (.inr (161))), (2, .inr (.inr (122))), (1, .inr (.inr (2))), (0, .inr (.inr (1)))], [], hp σ, c, z)) (x4 : Int32) (σ : eMem) (c z : Nat) (hc : c + 10 ≤ C) (hz : z + 100 ≤ Z) (hC : C ≤ 601024) (hZ : Z ≤ 7293034) : Snd false (some (N, xs)) 23 m_L_law (f_law_10 N xs rec x4 σ) (cN iI) (810, [(4, .inl (x4)), (3, .inr (.inr (161))), (2, .inr (.inr (122))), (1, .inr (.inr (2))), (0, .inr (.inr (1)))], [], hp σ, c, z) :=
  Snd_10_b (sk_law_10 N xs rec C Z (fun x4 σ c z h1 h2 => Snd_10 (ih x4 σ c z h1 h2)) x4 σ c z hc hz hC hZ)

set_option maxHeartbeats 40000000 in
set_option maxRecDepth 20000 in
theorem sk_law_11 (N : Nat) (xs : Nat → Int32) (rec : Int32 → eMem → Option (Int32 × eMem)) (C Z : Nat) (ih : ∀ (x4 : Int32) (σ : eMem) (c z : Nat), c ≤ C → z ≤ Z → Snd false (some (N, xs)) 23 m_Lk_11 (rec x4 σ) (cN iI) (23, [(4, .inl (x4)), (3, .inr (.inr (161))), (2, .inr (.inr (122))), (1, .inr (.inr (2))), (0, .inr (.inr (1)))], [], hp σ, c, z)) (x4 : Int32) (σ : eMem) (c z : Nat) (hc : c + 10 ≤ C) (hz : z + 100 ≤ Z) (hC : C ≤ 601024) (hZ : Z ≤ 7293034) : Snd false (some (N, xs)) 23 m_Lk_11 (f_law_11 N xs rec x4 σ) (cN iI) (878, [(4, .inl (x4)), (3, .inr (.inr (161))), (2, .inr (.inr (122))), (1, .inr (.inr (2))), (0, .inr (.inr (1)))], [], hp σ, c, z) := by
  unfold f_law_11
  refine T_go (S' := (884, [(4, .inl (x4)), (3, .inr (.inr (161))), (2, .inr (.inr (122))), (1, .inr (.inr (2))), (0, .inr (.inr (1)))], [.inl ((x4 + (1 : Int32))), .inr (.inr (1)), .inr (.inr (2))], hp σ, c, z)) 5 rfl ?_
  refine TL_iald rfl (fun _ => ?_)
  refine T_go (S' := (890, [(4, .inl (x4)), (3, .inr (.inr (161))), (2, .inr (.inr (122))), (1, .inr (.inr (2))), (0, .inr (.inr (1)))], [.inl ((x4 + (2 : Int32))), .inr (.inr (1)), .inl ((xs (x4 + (1 : Int32)).toNatClampNeg)), .inr (.inr (2))], hp σ, c, z)) 4 rfl ?_
  refine TL_iald rfl (fun _ => ?_)
  refine T_go (S' := (892, [(4, .inl (x4)), (3, .inr (.inr (161))), (2, .inr (.inr (122))), (1, .inr (.inr (2))), (0, .inr (.inr (1)))], [.inr (.inr (161)), .inl ((xs (x4 + (2 : Int32)).toNatClampNeg)), .inl ((xs (x4 + (1 : Int32)).toNatClampNeg)), .inr (.inr (2))], hp σ, c, z)) 1 rfl ?_
  refine TL_cs (i := iI) (as := [.inr (.inr (2)), .inl ((xs (x4 + (1 : Int32)).toNatClampNeg)), .inl ((xs (x4 + (2 : Int32)).toNatClampNeg)), .inr (.inr (161))]) (rest := []) (st := [.inr (.inr (161)), .inl ((xs (x4 + (2 : Int32)).toNatClampNeg)), .inl ((xs (x4 + (1 : Int32)).toNatClampNeg)), .inr (.inr (2))]) rfl (lb rfl) rfl rfl ⟨by omega, by omega, lb rfl, lb rfl⟩ (fun _ h => Ew_le (lb rfl) (s_L_valueIn 2 (xs (x4 + (1 : Int32)).toNatClampNeg) (xs (x4 + (2 : Int32)).toNatClampNeg) 161 σ _ h)) (fun r34 => ?_)
  show Snd false (some (N, xs)) _ _ _ (cN iI) (895, [(4, .inl (x4)), (3, .inr (.inr (161))), (2, .inr (.inr (122))), (1, .inr (.inr (2))), (0, .inr (.inr (1)))], [.inl (r34.1)], hp r34.2, c + 2, z + 12)
  refine T_go (S' := (903, [(5, .inl (r34.1)), (4, .inl (x4)), (3, .inr (.inr (161))), (2, .inr (.inr (122))), (1, .inr (.inr (2))), (0, .inr (.inr (1)))], [.inl ((x4 + (1 : Int32))), .inr (.inr (1)), .inr (.inr (122))], hp r34.2, c + 2, z + 12)) 6 rfl ?_
  refine TL_iald rfl (fun _ => ?_)
  refine T_go (S' := (909, [(5, .inl (r34.1)), (4, .inl (x4)), (3, .inr (.inr (161))), (2, .inr (.inr (122))), (1, .inr (.inr (2))), (0, .inr (.inr (1)))], [.inl ((x4 + (2 : Int32))), .inr (.inr (1)), .inl ((xs (x4 + (1 : Int32)).toNatClampNeg)), .inr (.inr (122))], hp r34.2, c + 2, z + 12)) 4 rfl ?_
  refine TL_iald rfl (fun _ => ?_)
  refine TL_cv (i := iI) (as := [.inr (.inr (122)), .inl ((xs (x4 + (1 : Int32)).toNatClampNeg)), .inl ((xs (x4 + (2 : Int32)).toNatClampNeg))]) (rest := []) (st := [.inl ((xs (x4 + (2 : Int32)).toNatClampNeg)), .inl ((xs (x4 + (1 : Int32)).toNatClampNeg)), .inr (.inr (122))]) rfl rfl rfl ⟨by omega, by omega, lb rfl, lb rfl⟩ (fun _ h => Ew_le (lb rfl) (s_X12_valueIn 122 (xs (x4 + (1 : Int32)).toNatClampNeg) (xs (x4 + (2 : Int32)).toNatClampNeg) r34.2 _ h)) (fun _ r35 => ?_)
  show Snd false (some (N, xs)) _ _ _ (cN iI) (913, [(5, .inl (r34.1)), (4, .inl (x4)), (3, .inr (.inr (161))), (2, .inr (.inr (122))), (1, .inr (.inr (2))), (0, .inr (.inr (1)))], [.inl (r35.1)], hp r35.2, c + 2 + 0, z + 12 + 0)
  refine T_go (S' := (916, [(6, .inl (r35.1)), (5, .inl (r34.1)), (4, .inl (x4)), (3, .inr (.inr (161))), (2, .inr (.inr (122))), (1, .inr (.inr (2))), (0, .inr (.inr (1)))], [.inr (.inr (122))], hp r35.2, c + 2 + 0, z + 12 + 0)) 2 rfl ?_
  refine TL_cv (i := iI) (as := [.inr (.inr (122))]) (rest := []) (st := [.inr (.inr (122))]) rfl rfl rfl ⟨by omega, by omega, lb rfl, lb rfl⟩ (fun _ h => Ew_le (lb rfl) (s_X12_thrown 122 r35.2 _ h)) (fun _ r36 => ?_)
  show Snd false (some (N, xs)) _ _ _ (cN iI) (919, [(6, .inl (r35.1)), (5, .inl (r34.1)), (4, .inl (x4)), (3, .inr (.inr (161))), (2, .inr (.inr (122))), (1, .inr (.inr (2))), (0, .inr (.inr (1)))], [.inl (r36.1)], hp r36.2, c + 2 + 0 + 0, z + 12 + 0 + 0)
  refine T_go (S' := (921, [(6, .inl (r35.1)), (5, .inl (r34.1)), (4, .inl (x4)), (3, .inr (.inr (161))), (2, .inr (.inr (122))), (1, .inr (.inr (2))), (0, .inr (.inr (1)))], [.inl (r34.1), .inl (r36.1)], hp r36.2, c + 2 + 0 + 0, z + 12 + 0 + 0)) 1 rfl ?_
  refine TL_icmp_eq 926 rfl rfl (fun _ => ?_) (fun _ => ?_)
  · refine T_go (S' := (928, [(6, .inl (r35.1)), (5, .inl (r34.1)), (4, .inl (x4)), (3, .inr (.inr (161))), (2, .inr (.inr (122))), (1, .inr (.inr (2))), (0, .inr (.inr (1)))], [.inl (r34.1)], hp r36.2, c + 2 + 0 + 0, z + 12 + 0 + 0)) 1 rfl ?_
    refine TL_if_ne 943 rfl rfl (fun _ => ?_) (fun _ => ?_)
    · refine T_go (S' := (23, [(4, .inl ((x4 + (5 : Int32)))), (6, .inl (r35.1)), (5, .inl (r34.1)), (3, .inr (.inr (161))), (2, .inr (.inr (122))), (1, .inr (.inr (2))), (0, .inr (.inr (1)))], [], hp r36.2, c + 2 + 0 + 0, z + 12 + 0 + 0)) 3 rfl ?_
      refine T_loc (ls' := [(4, .inl ((x4 + (5 : Int32)))), (3, .inr (.inr (161))), (2, .inr (.inr (122))), (1, .inr (.inr (2))), (0, .inr (.inr (1)))]) [0, 3, 4, 5, 6] rfl ?_
      exact ih (x4 + (5 : Int32)) r36.2 (c + 2 + 0 + 0) (z + 12 + 0 + 0) (by omega) (by omega)
    · refine T_go (S' := (933, [(6, .inl (r35.1)), (5, .inl (r34.1)), (4, .inl (x4)), (3, .inr (.inr (161))), (2, .inr (.inr (122))), (1, .inr (.inr (2))), (0, .inr (.inr (1)))], [.inl ((0 : Int32)), .inr (.inr (161))], hp r36.2, c + 2 + 0 + 0, z + 12 + 0 + 0)) 2 rfl ?_
      refine TL_lald rfl (fun _ => ?_)
      refine T_go (S' := (938, [(6, .inl (r35.1)), (5, .inl (r34.1)), (4, .inl (x4)), (3, .inr (.inr (161))), (2, .inr (.inr (122))), (1, .inr (.inr (2))), (0, .inr (.inr (1)))], [.inl ((lg_cmp (r36.2.2 161 (0 : Int32).toNatClampNeg) r35.1.toInt64))], hp r36.2, c + 2 + 0 + 0, z + 12 + 0 + 0)) 3 rfl ?_
      refine TL_if_eq 943 rfl rfl (fun _ => ?_) (fun _ => ?_)
      · refine T_go (S' := (23, [(4, .inl ((x4 + (5 : Int32)))), (6, .inl (r35.1)), (5, .inl (r34.1)), (3, .inr (.inr (161))), (2, .inr (.inr (122))), (1, .inr (.inr (2))), (0, .inr (.inr (1)))], [], hp r36.2, c + 2 + 0 + 0, z + 12 + 0 + 0)) 3 rfl ?_
        refine T_loc (ls' := [(4, .inl ((x4 + (5 : Int32)))), (3, .inr (.inr (161))), (2, .inr (.inr (122))), (1, .inr (.inr (2))), (0, .inr (.inr (1)))]) [0, 3, 4, 5, 6] rfl ?_
        exact ih (x4 + (5 : Int32)) r36.2 (c + 2 + 0 + 0) (z + 12 + 0 + 0) (by omega) (by omega)
      · refine T_go (S' := (942, [(6, .inl (r35.1)), (5, .inl (r34.1)), (4, .inl (x4)), (3, .inr (.inr (161))), (2, .inr (.inr (122))), (1, .inr (.inr (2))), (0, .inr (.inr (1)))], [.inl ((0 : Int32))], hp r36.2, c + 2 + 0 + 0, z + 12 + 0 + 0)) 1 rfl ?_
        exact T_chkr rfl
  · refine T_go (S' := (925, [(6, .inl (r35.1)), (5, .inl (r34.1)), (4, .inl (x4)), (3, .inr (.inr (161))), (2, .inr (.inr (122))), (1, .inr (.inr (2))), (0, .inr (.inr (1)))], [.inl ((0 : Int32))], hp r36.2, c + 2 + 0 + 0, z + 12 + 0 + 0)) 1 rfl ?_
    exact T_chkr rfl
theorem s_law_11 (N : Nat) (xs : Nat → Int32) (rec : Int32 → eMem → Option (Int32 × eMem)) (C Z : Nat) (ih : ∀ (x4 : Int32) (σ : eMem) (c z : Nat), c ≤ C → z ≤ Z → Snd false (some (N, xs)) 23 m_L_law (rec x4 σ) (cN iI) (23, [(4, .inl (x4)), (3, .inr (.inr (161))), (2, .inr (.inr (122))), (1, .inr (.inr (2))), (0, .inr (.inr (1)))], [], hp σ, c, z)) (x4 : Int32) (σ : eMem) (c z : Nat) (hc : c + 10 ≤ C) (hz : z + 100 ≤ Z) (hC : C ≤ 601024) (hZ : Z ≤ 7293034) : Snd false (some (N, xs)) 23 m_L_law (f_law_11 N xs rec x4 σ) (cN iI) (878, [(4, .inl (x4)), (3, .inr (.inr (161))), (2, .inr (.inr (122))), (1, .inr (.inr (2))), (0, .inr (.inr (1)))], [], hp σ, c, z) :=
  Snd_11_b (sk_law_11 N xs rec C Z (fun x4 σ c z h1 h2 => Snd_11 (ih x4 σ c z h1 h2)) x4 σ c z hc hz hC hZ)

set_option maxHeartbeats 40000000 in
set_option maxRecDepth 20000 in
theorem sk_law_12 (N : Nat) (xs : Nat → Int32) (rec : Int32 → eMem → Option (Int32 × eMem)) (C Z : Nat) (ih : ∀ (x4 : Int32) (σ : eMem) (c z : Nat), c ≤ C → z ≤ Z → Snd false (some (N, xs)) 23 m_Lk_12 (rec x4 σ) (cN iI) (23, [(4, .inl (x4)), (3, .inr (.inr (161))), (2, .inr (.inr (122))), (1, .inr (.inr (2))), (0, .inr (.inr (1)))], [], hp σ, c, z)) (x4 : Int32) (σ : eMem) (c z : Nat) (hc : c + 10 ≤ C) (hz : z + 100 ≤ Z) (hC : C ≤ 601024) (hZ : Z ≤ 7293034) : Snd false (some (N, xs)) 23 m_Lk_12 (f_law_12 N xs rec x4 σ) (cN iI) (946, [(4, .inl (x4)), (3, .inr (.inr (161))), (2, .inr (.inr (122))), (1, .inr (.inr (2))), (0, .inr (.inr (1)))], [], hp σ, c, z) := by
  unfold f_law_12
  refine T_go (S' := (952, [(4, .inl (x4)), (3, .inr (.inr (161))), (2, .inr (.inr (122))), (1, .inr (.inr (2))), (0, .inr (.inr (1)))], [.inl ((x4 + (1 : Int32))), .inr (.inr (1)), .inr (.inr (2))], hp σ, c, z)) 5 rfl ?_
  refine TL_iald rfl (fun _ => ?_)
  refine T_go (S' := (954, [(4, .inl (x4)), (3, .inr (.inr (161))), (2, .inr (.inr (122))), (1, .inr (.inr (2))), (0, .inr (.inr (1)))], [.inr (.inr (161)), .inl ((xs (x4 + (1 : Int32)).toNatClampNeg)), .inr (.inr (2))], hp σ, c, z)) 1 rfl ?_
  refine TL_cs (i := iI) (as := [.inr (.inr (2)), .inl ((xs (x4 + (1 : Int32)).toNatClampNeg)), .inr (.inr (161))]) (rest := []) (st := [.inr (.inr (161)), .inl ((xs (x4 + (1 : Int32)).toNatClampNeg)), .inr (.inr (2))]) rfl (lb rfl) rfl rfl ⟨by omega, by omega, lb rfl, lb rfl⟩ (fun _ h => Ew_le (lb rfl) (s_L_home 2 (xs (x4 + (1 : Int32)).toNatClampNeg) 161 σ _ h)) (fun r37 => ?_)
  show Snd false (some (N, xs)) _ _ _ (cN iI) (957, [(4, .inl (x4)), (3, .inr (.inr (161))), (2, .inr (.inr (122))), (1, .inr (.inr (2))), (0, .inr (.inr (1)))], [.inl (r37.1)], hp r37.2, c + 1, z + 6)
  refine T_go (S' := (965, [(5, .inl (r37.1)), (4, .inl (x4)), (3, .inr (.inr (161))), (2, .inr (.inr (122))), (1, .inr (.inr (2))), (0, .inr (.inr (1)))], [.inl ((x4 + (1 : Int32))), .inr (.inr (1)), .inr (.inr (122))], hp r37.2, c + 1, z + 6)) 6 rfl ?_
  refine TL_iald rfl (fun _ => ?_)
  refine TL_cv (i := iI) (as := [.inr (.inr (122)), .inl ((xs (x4 + (1 : Int32)).toNatClampNeg))]) (rest := []) (st := [.inl ((xs (x4 + (1 : Int32)).toNatClampNeg)), .inr (.inr (122))]) rfl rfl rfl ⟨by omega, by omega, lb rfl, lb rfl⟩ (fun _ h => Ew_le (lb rfl) (s_X12_home 122 (xs (x4 + (1 : Int32)).toNatClampNeg) r37.2 _ h)) (fun _ r38 => ?_)
  show Snd false (some (N, xs)) _ _ _ (cN iI) (969, [(5, .inl (r37.1)), (4, .inl (x4)), (3, .inr (.inr (161))), (2, .inr (.inr (122))), (1, .inr (.inr (2))), (0, .inr (.inr (1)))], [.inl (r38.1)], hp r38.2, c + 1 + 0, z + 6 + 0)
  refine T_go (S' := (972, [(6, .inl (r38.1)), (5, .inl (r37.1)), (4, .inl (x4)), (3, .inr (.inr (161))), (2, .inr (.inr (122))), (1, .inr (.inr (2))), (0, .inr (.inr (1)))], [.inr (.inr (122))], hp r38.2, c + 1 + 0, z + 6 + 0)) 2 rfl ?_
  refine TL_cv (i := iI) (as := [.inr (.inr (122))]) (rest := []) (st := [.inr (.inr (122))]) rfl rfl rfl ⟨by omega, by omega, lb rfl, lb rfl⟩ (fun _ h => Ew_le (lb rfl) (s_X12_thrown 122 r38.2 _ h)) (fun _ r39 => ?_)
  show Snd false (some (N, xs)) _ _ _ (cN iI) (975, [(6, .inl (r38.1)), (5, .inl (r37.1)), (4, .inl (x4)), (3, .inr (.inr (161))), (2, .inr (.inr (122))), (1, .inr (.inr (2))), (0, .inr (.inr (1)))], [.inl (r39.1)], hp r39.2, c + 1 + 0 + 0, z + 6 + 0 + 0)
  refine T_go (S' := (977, [(6, .inl (r38.1)), (5, .inl (r37.1)), (4, .inl (x4)), (3, .inr (.inr (161))), (2, .inr (.inr (122))), (1, .inr (.inr (2))), (0, .inr (.inr (1)))], [.inl (r37.1), .inl (r39.1)], hp r39.2, c + 1 + 0 + 0, z + 6 + 0 + 0)) 1 rfl ?_
  refine TL_icmp_eq 982 rfl rfl (fun _ => ?_) (fun _ => ?_)
  · refine T_go (S' := (984, [(6, .inl (r38.1)), (5, .inl (r37.1)), (4, .inl (x4)), (3, .inr (.inr (161))), (2, .inr (.inr (122))), (1, .inr (.inr (2))), (0, .inr (.inr (1)))], [.inl (r37.1)], hp r39.2, c + 1 + 0 + 0, z + 6 + 0 + 0)) 1 rfl ?_
    refine TL_if_ne 999 rfl rfl (fun _ => ?_) (fun _ => ?_)
    · refine T_go (S' := (23, [(4, .inl ((x4 + (5 : Int32)))), (6, .inl (r38.1)), (5, .inl (r37.1)), (3, .inr (.inr (161))), (2, .inr (.inr (122))), (1, .inr (.inr (2))), (0, .inr (.inr (1)))], [], hp r39.2, c + 1 + 0 + 0, z + 6 + 0 + 0)) 3 rfl ?_
      refine T_loc (ls' := [(4, .inl ((x4 + (5 : Int32)))), (3, .inr (.inr (161))), (2, .inr (.inr (122))), (1, .inr (.inr (2))), (0, .inr (.inr (1)))]) [0, 3, 4, 5, 6] rfl ?_
      exact ih (x4 + (5 : Int32)) r39.2 (c + 1 + 0 + 0) (z + 6 + 0 + 0) (by omega) (by omega)
    · refine T_go (S' := (989, [(6, .inl (r38.1)), (5, .inl (r37.1)), (4, .inl (x4)), (3, .inr (.inr (161))), (2, .inr (.inr (122))), (1, .inr (.inr (2))), (0, .inr (.inr (1)))], [.inl ((0 : Int32)), .inr (.inr (161))], hp r39.2, c + 1 + 0 + 0, z + 6 + 0 + 0)) 2 rfl ?_
      refine TL_lald rfl (fun _ => ?_)
      refine T_go (S' := (994, [(6, .inl (r38.1)), (5, .inl (r37.1)), (4, .inl (x4)), (3, .inr (.inr (161))), (2, .inr (.inr (122))), (1, .inr (.inr (2))), (0, .inr (.inr (1)))], [.inl ((lg_cmp (r39.2.2 161 (0 : Int32).toNatClampNeg) r38.1.toInt64))], hp r39.2, c + 1 + 0 + 0, z + 6 + 0 + 0)) 3 rfl ?_
      refine TL_if_eq 999 rfl rfl (fun _ => ?_) (fun _ => ?_)
      · refine T_go (S' := (23, [(4, .inl ((x4 + (5 : Int32)))), (6, .inl (r38.1)), (5, .inl (r37.1)), (3, .inr (.inr (161))), (2, .inr (.inr (122))), (1, .inr (.inr (2))), (0, .inr (.inr (1)))], [], hp r39.2, c + 1 + 0 + 0, z + 6 + 0 + 0)) 3 rfl ?_
        refine T_loc (ls' := [(4, .inl ((x4 + (5 : Int32)))), (3, .inr (.inr (161))), (2, .inr (.inr (122))), (1, .inr (.inr (2))), (0, .inr (.inr (1)))]) [0, 3, 4, 5, 6] rfl ?_
        exact ih (x4 + (5 : Int32)) r39.2 (c + 1 + 0 + 0) (z + 6 + 0 + 0) (by omega) (by omega)
      · refine T_go (S' := (998, [(6, .inl (r38.1)), (5, .inl (r37.1)), (4, .inl (x4)), (3, .inr (.inr (161))), (2, .inr (.inr (122))), (1, .inr (.inr (2))), (0, .inr (.inr (1)))], [.inl ((0 : Int32))], hp r39.2, c + 1 + 0 + 0, z + 6 + 0 + 0)) 1 rfl ?_
        exact T_chkr rfl
  · refine T_go (S' := (981, [(6, .inl (r38.1)), (5, .inl (r37.1)), (4, .inl (x4)), (3, .inr (.inr (161))), (2, .inr (.inr (122))), (1, .inr (.inr (2))), (0, .inr (.inr (1)))], [.inl ((0 : Int32))], hp r39.2, c + 1 + 0 + 0, z + 6 + 0 + 0)) 1 rfl ?_
    exact T_chkr rfl
theorem s_law_12 (N : Nat) (xs : Nat → Int32) (rec : Int32 → eMem → Option (Int32 × eMem)) (C Z : Nat) (ih : ∀ (x4 : Int32) (σ : eMem) (c z : Nat), c ≤ C → z ≤ Z → Snd false (some (N, xs)) 23 m_L_law (rec x4 σ) (cN iI) (23, [(4, .inl (x4)), (3, .inr (.inr (161))), (2, .inr (.inr (122))), (1, .inr (.inr (2))), (0, .inr (.inr (1)))], [], hp σ, c, z)) (x4 : Int32) (σ : eMem) (c z : Nat) (hc : c + 10 ≤ C) (hz : z + 100 ≤ Z) (hC : C ≤ 601024) (hZ : Z ≤ 7293034) : Snd false (some (N, xs)) 23 m_L_law (f_law_12 N xs rec x4 σ) (cN iI) (946, [(4, .inl (x4)), (3, .inr (.inr (161))), (2, .inr (.inr (122))), (1, .inr (.inr (2))), (0, .inr (.inr (1)))], [], hp σ, c, z) :=
  Snd_12_b (sk_law_12 N xs rec C Z (fun x4 σ c z h1 h2 => Snd_12 (ih x4 σ c z h1 h2)) x4 σ c z hc hz hC hZ)

set_option maxHeartbeats 40000000 in
set_option maxRecDepth 20000 in
theorem sk_law_13 (N : Nat) (xs : Nat → Int32) (rec : Int32 → eMem → Option (Int32 × eMem)) (C Z : Nat) (ih : ∀ (x4 : Int32) (σ : eMem) (c z : Nat), c ≤ C → z ≤ Z → Snd false (some (N, xs)) 23 m_Lk_13 (rec x4 σ) (cN iI) (23, [(4, .inl (x4)), (3, .inr (.inr (161))), (2, .inr (.inr (122))), (1, .inr (.inr (2))), (0, .inr (.inr (1)))], [], hp σ, c, z)) (x4 : Int32) (σ : eMem) (c z : Nat) (hc : c + 10 ≤ C) (hz : z + 100 ≤ Z) (hC : C ≤ 601024) (hZ : Z ≤ 7293034) : Snd false (some (N, xs)) 23 m_Lk_13 (f_law_13 N xs rec x4 σ) (cN iI) (1002, [(4, .inl (x4)), (3, .inr (.inr (161))), (2, .inr (.inr (122))), (1, .inr (.inr (2))), (0, .inr (.inr (1)))], [], hp σ, c, z) := by
  unfold f_law_13
  refine T_go (S' := (1008, [(4, .inl (x4)), (3, .inr (.inr (161))), (2, .inr (.inr (122))), (1, .inr (.inr (2))), (0, .inr (.inr (1)))], [.inl ((x4 + (1 : Int32))), .inr (.inr (1)), .inr (.inr (2))], hp σ, c, z)) 5 rfl ?_
  refine TL_iald rfl (fun _ => ?_)
  refine T_go (S' := (1010, [(4, .inl (x4)), (3, .inr (.inr (161))), (2, .inr (.inr (122))), (1, .inr (.inr (2))), (0, .inr (.inr (1)))], [.inr (.inr (161)), .inl ((xs (x4 + (1 : Int32)).toNatClampNeg)), .inr (.inr (2))], hp σ, c, z)) 1 rfl ?_
  refine TL_cs (i := iI) (as := [.inr (.inr (2)), .inl ((xs (x4 + (1 : Int32)).toNatClampNeg)), .inr (.inr (161))]) (rest := []) (st := [.inr (.inr (161)), .inl ((xs (x4 + (1 : Int32)).toNatClampNeg)), .inr (.inr (2))]) rfl (lb rfl) rfl rfl ⟨by omega, by omega, lb rfl, lb rfl⟩ (fun _ h => Ew_le (lb rfl) (s_L_owner 2 (xs (x4 + (1 : Int32)).toNatClampNeg) 161 σ _ h)) (fun r40 => ?_)
  show Snd false (some (N, xs)) _ _ _ (cN iI) (1013, [(4, .inl (x4)), (3, .inr (.inr (161))), (2, .inr (.inr (122))), (1, .inr (.inr (2))), (0, .inr (.inr (1)))], [.inl (r40.1)], hp r40.2, c + 1, z + 6)
  refine T_go (S' := (1021, [(5, .inl (r40.1)), (4, .inl (x4)), (3, .inr (.inr (161))), (2, .inr (.inr (122))), (1, .inr (.inr (2))), (0, .inr (.inr (1)))], [.inl ((x4 + (1 : Int32))), .inr (.inr (1)), .inr (.inr (122))], hp r40.2, c + 1, z + 6)) 6 rfl ?_
  refine TL_iald rfl (fun _ => ?_)
  refine TL_cv (i := iI) (as := [.inr (.inr (122)), .inl ((xs (x4 + (1 : Int32)).toNatClampNeg))]) (rest := []) (st := [.inl ((xs (x4 + (1 : Int32)).toNatClampNeg)), .inr (.inr (122))]) rfl rfl rfl ⟨by omega, by omega, lb rfl, lb rfl⟩ (fun _ h => Ew_le (lb rfl) (s_X12_owner 122 (xs (x4 + (1 : Int32)).toNatClampNeg) r40.2 _ h)) (fun _ r41 => ?_)
  show Snd false (some (N, xs)) _ _ _ (cN iI) (1025, [(5, .inl (r40.1)), (4, .inl (x4)), (3, .inr (.inr (161))), (2, .inr (.inr (122))), (1, .inr (.inr (2))), (0, .inr (.inr (1)))], [.inl (r41.1)], hp r41.2, c + 1 + 0, z + 6 + 0)
  refine T_go (S' := (1028, [(6, .inl (r41.1)), (5, .inl (r40.1)), (4, .inl (x4)), (3, .inr (.inr (161))), (2, .inr (.inr (122))), (1, .inr (.inr (2))), (0, .inr (.inr (1)))], [.inr (.inr (122))], hp r41.2, c + 1 + 0, z + 6 + 0)) 2 rfl ?_
  refine TL_cv (i := iI) (as := [.inr (.inr (122))]) (rest := []) (st := [.inr (.inr (122))]) rfl rfl rfl ⟨by omega, by omega, lb rfl, lb rfl⟩ (fun _ h => Ew_le (lb rfl) (s_X12_thrown 122 r41.2 _ h)) (fun _ r42 => ?_)
  show Snd false (some (N, xs)) _ _ _ (cN iI) (1031, [(6, .inl (r41.1)), (5, .inl (r40.1)), (4, .inl (x4)), (3, .inr (.inr (161))), (2, .inr (.inr (122))), (1, .inr (.inr (2))), (0, .inr (.inr (1)))], [.inl (r42.1)], hp r42.2, c + 1 + 0 + 0, z + 6 + 0 + 0)
  refine T_go (S' := (1033, [(6, .inl (r41.1)), (5, .inl (r40.1)), (4, .inl (x4)), (3, .inr (.inr (161))), (2, .inr (.inr (122))), (1, .inr (.inr (2))), (0, .inr (.inr (1)))], [.inl (r40.1), .inl (r42.1)], hp r42.2, c + 1 + 0 + 0, z + 6 + 0 + 0)) 1 rfl ?_
  refine TL_icmp_eq 1038 rfl rfl (fun _ => ?_) (fun _ => ?_)
  · refine T_go (S' := (1040, [(6, .inl (r41.1)), (5, .inl (r40.1)), (4, .inl (x4)), (3, .inr (.inr (161))), (2, .inr (.inr (122))), (1, .inr (.inr (2))), (0, .inr (.inr (1)))], [.inl (r40.1)], hp r42.2, c + 1 + 0 + 0, z + 6 + 0 + 0)) 1 rfl ?_
    refine TL_if_ne 1055 rfl rfl (fun _ => ?_) (fun _ => ?_)
    · refine T_go (S' := (23, [(4, .inl ((x4 + (5 : Int32)))), (6, .inl (r41.1)), (5, .inl (r40.1)), (3, .inr (.inr (161))), (2, .inr (.inr (122))), (1, .inr (.inr (2))), (0, .inr (.inr (1)))], [], hp r42.2, c + 1 + 0 + 0, z + 6 + 0 + 0)) 3 rfl ?_
      refine T_loc (ls' := [(4, .inl ((x4 + (5 : Int32)))), (3, .inr (.inr (161))), (2, .inr (.inr (122))), (1, .inr (.inr (2))), (0, .inr (.inr (1)))]) [0, 3, 4, 5, 6] rfl ?_
      exact ih (x4 + (5 : Int32)) r42.2 (c + 1 + 0 + 0) (z + 6 + 0 + 0) (by omega) (by omega)
    · refine T_go (S' := (1045, [(6, .inl (r41.1)), (5, .inl (r40.1)), (4, .inl (x4)), (3, .inr (.inr (161))), (2, .inr (.inr (122))), (1, .inr (.inr (2))), (0, .inr (.inr (1)))], [.inl ((0 : Int32)), .inr (.inr (161))], hp r42.2, c + 1 + 0 + 0, z + 6 + 0 + 0)) 2 rfl ?_
      refine TL_lald rfl (fun _ => ?_)
      refine T_go (S' := (1050, [(6, .inl (r41.1)), (5, .inl (r40.1)), (4, .inl (x4)), (3, .inr (.inr (161))), (2, .inr (.inr (122))), (1, .inr (.inr (2))), (0, .inr (.inr (1)))], [.inl ((lg_cmp (r42.2.2 161 (0 : Int32).toNatClampNeg) r41.1.toInt64))], hp r42.2, c + 1 + 0 + 0, z + 6 + 0 + 0)) 3 rfl ?_
      refine TL_if_eq 1055 rfl rfl (fun _ => ?_) (fun _ => ?_)
      · refine T_go (S' := (23, [(4, .inl ((x4 + (5 : Int32)))), (6, .inl (r41.1)), (5, .inl (r40.1)), (3, .inr (.inr (161))), (2, .inr (.inr (122))), (1, .inr (.inr (2))), (0, .inr (.inr (1)))], [], hp r42.2, c + 1 + 0 + 0, z + 6 + 0 + 0)) 3 rfl ?_
        refine T_loc (ls' := [(4, .inl ((x4 + (5 : Int32)))), (3, .inr (.inr (161))), (2, .inr (.inr (122))), (1, .inr (.inr (2))), (0, .inr (.inr (1)))]) [0, 3, 4, 5, 6] rfl ?_
        exact ih (x4 + (5 : Int32)) r42.2 (c + 1 + 0 + 0) (z + 6 + 0 + 0) (by omega) (by omega)
      · refine T_go (S' := (1054, [(6, .inl (r41.1)), (5, .inl (r40.1)), (4, .inl (x4)), (3, .inr (.inr (161))), (2, .inr (.inr (122))), (1, .inr (.inr (2))), (0, .inr (.inr (1)))], [.inl ((0 : Int32))], hp r42.2, c + 1 + 0 + 0, z + 6 + 0 + 0)) 1 rfl ?_
        exact T_chkr rfl
  · refine T_go (S' := (1037, [(6, .inl (r41.1)), (5, .inl (r40.1)), (4, .inl (x4)), (3, .inr (.inr (161))), (2, .inr (.inr (122))), (1, .inr (.inr (2))), (0, .inr (.inr (1)))], [.inl ((0 : Int32))], hp r42.2, c + 1 + 0 + 0, z + 6 + 0 + 0)) 1 rfl ?_
    exact T_chkr rfl
theorem s_law_13 (N : Nat) (xs : Nat → Int32) (rec : Int32 → eMem → Option (Int32 × eMem)) (C Z : Nat) (ih : ∀ (x4 : Int32) (σ : eMem) (c z : Nat), c ≤ C → z ≤ Z → Snd false (some (N, xs)) 23 m_L_law (rec x4 σ) (cN iI) (23, [(4, .inl (x4)), (3, .inr (.inr (161))), (2, .inr (.inr (122))), (1, .inr (.inr (2))), (0, .inr (.inr (1)))], [], hp σ, c, z)) (x4 : Int32) (σ : eMem) (c z : Nat) (hc : c + 10 ≤ C) (hz : z + 100 ≤ Z) (hC : C ≤ 601024) (hZ : Z ≤ 7293034) : Snd false (some (N, xs)) 23 m_L_law (f_law_13 N xs rec x4 σ) (cN iI) (1002, [(4, .inl (x4)), (3, .inr (.inr (161))), (2, .inr (.inr (122))), (1, .inr (.inr (2))), (0, .inr (.inr (1)))], [], hp σ, c, z) :=
  Snd_13_b (sk_law_13 N xs rec C Z (fun x4 σ c z h1 h2 => Snd_13 (ih x4 σ c z h1 h2)) x4 σ c z hc hz hC hZ)

set_option maxHeartbeats 40000000 in
set_option maxRecDepth 20000 in
theorem sk_law_14 (N : Nat) (xs : Nat → Int32) (rec : Int32 → eMem → Option (Int32 × eMem)) (C Z : Nat) (ih : ∀ (x4 : Int32) (σ : eMem) (c z : Nat), c ≤ C → z ≤ Z → Snd false (some (N, xs)) 23 m_Lk_14 (rec x4 σ) (cN iI) (23, [(4, .inl (x4)), (3, .inr (.inr (161))), (2, .inr (.inr (122))), (1, .inr (.inr (2))), (0, .inr (.inr (1)))], [], hp σ, c, z)) (x4 : Int32) (σ : eMem) (c z : Nat) (hc : c + 10 ≤ C) (hz : z + 100 ≤ Z) (hC : C ≤ 601024) (hZ : Z ≤ 7293034) : Snd false (some (N, xs)) 23 m_Lk_14 (f_law_14 N xs rec x4 σ) (cN iI) (1058, [(4, .inl (x4)), (3, .inr (.inr (161))), (2, .inr (.inr (122))), (1, .inr (.inr (2))), (0, .inr (.inr (1)))], [], hp σ, c, z) := by
  unfold f_law_14
  refine T_go (S' := (1064, [(4, .inl (x4)), (3, .inr (.inr (161))), (2, .inr (.inr (122))), (1, .inr (.inr (2))), (0, .inr (.inr (1)))], [.inl ((x4 + (1 : Int32))), .inr (.inr (1)), .inr (.inr (2))], hp σ, c, z)) 5 rfl ?_
  refine TL_iald rfl (fun _ => ?_)
  refine T_go (S' := (1066, [(4, .inl (x4)), (3, .inr (.inr (161))), (2, .inr (.inr (122))), (1, .inr (.inr (2))), (0, .inr (.inr (1)))], [.inr (.inr (161)), .inl ((xs (x4 + (1 : Int32)).toNatClampNeg)), .inr (.inr (2))], hp σ, c, z)) 1 rfl ?_
  refine TL_cs (i := iI) (as := [.inr (.inr (2)), .inl ((xs (x4 + (1 : Int32)).toNatClampNeg)), .inr (.inr (161))]) (rest := []) (st := [.inr (.inr (161)), .inl ((xs (x4 + (1 : Int32)).toNatClampNeg)), .inr (.inr (2))]) rfl (lb rfl) rfl rfl ⟨by omega, by omega, lb rfl, lb rfl⟩ (fun _ h => Ew_le (lb rfl) (s_L_sharers 2 (xs (x4 + (1 : Int32)).toNatClampNeg) 161 σ _ h)) (fun r43 => ?_)
  show Snd false (some (N, xs)) _ _ _ (cN iI) (1069, [(4, .inl (x4)), (3, .inr (.inr (161))), (2, .inr (.inr (122))), (1, .inr (.inr (2))), (0, .inr (.inr (1)))], [.inl (r43.1)], hp r43.2, c + 1, z + 6)
  refine T_go (S' := (1077, [(5, .inl (r43.1)), (4, .inl (x4)), (3, .inr (.inr (161))), (2, .inr (.inr (122))), (1, .inr (.inr (2))), (0, .inr (.inr (1)))], [.inl ((x4 + (1 : Int32))), .inr (.inr (1)), .inr (.inr (122))], hp r43.2, c + 1, z + 6)) 6 rfl ?_
  refine TL_iald rfl (fun _ => ?_)
  refine TL_cv (i := iI) (as := [.inr (.inr (122)), .inl ((xs (x4 + (1 : Int32)).toNatClampNeg))]) (rest := []) (st := [.inl ((xs (x4 + (1 : Int32)).toNatClampNeg)), .inr (.inr (122))]) rfl rfl rfl ⟨by omega, by omega, lb rfl, lb rfl⟩ (fun _ h => Ew_le (lb rfl) (s_X12_sharers 122 (xs (x4 + (1 : Int32)).toNatClampNeg) r43.2 _ h)) (fun _ r44 => ?_)
  show Snd false (some (N, xs)) _ _ _ (cN iI) (1081, [(5, .inl (r43.1)), (4, .inl (x4)), (3, .inr (.inr (161))), (2, .inr (.inr (122))), (1, .inr (.inr (2))), (0, .inr (.inr (1)))], [.inl (r44.1)], hp r44.2, c + 1 + 0, z + 6 + 0)
  refine T_go (S' := (1084, [(6, .inl (r44.1)), (5, .inl (r43.1)), (4, .inl (x4)), (3, .inr (.inr (161))), (2, .inr (.inr (122))), (1, .inr (.inr (2))), (0, .inr (.inr (1)))], [.inr (.inr (122))], hp r44.2, c + 1 + 0, z + 6 + 0)) 2 rfl ?_
  refine TL_cv (i := iI) (as := [.inr (.inr (122))]) (rest := []) (st := [.inr (.inr (122))]) rfl rfl rfl ⟨by omega, by omega, lb rfl, lb rfl⟩ (fun _ h => Ew_le (lb rfl) (s_X12_thrown 122 r44.2 _ h)) (fun _ r45 => ?_)
  show Snd false (some (N, xs)) _ _ _ (cN iI) (1087, [(6, .inl (r44.1)), (5, .inl (r43.1)), (4, .inl (x4)), (3, .inr (.inr (161))), (2, .inr (.inr (122))), (1, .inr (.inr (2))), (0, .inr (.inr (1)))], [.inl (r45.1)], hp r45.2, c + 1 + 0 + 0, z + 6 + 0 + 0)
  refine T_go (S' := (1089, [(6, .inl (r44.1)), (5, .inl (r43.1)), (4, .inl (x4)), (3, .inr (.inr (161))), (2, .inr (.inr (122))), (1, .inr (.inr (2))), (0, .inr (.inr (1)))], [.inl (r43.1), .inl (r45.1)], hp r45.2, c + 1 + 0 + 0, z + 6 + 0 + 0)) 1 rfl ?_
  refine TL_icmp_eq 1094 rfl rfl (fun _ => ?_) (fun _ => ?_)
  · refine T_go (S' := (1096, [(6, .inl (r44.1)), (5, .inl (r43.1)), (4, .inl (x4)), (3, .inr (.inr (161))), (2, .inr (.inr (122))), (1, .inr (.inr (2))), (0, .inr (.inr (1)))], [.inl (r43.1)], hp r45.2, c + 1 + 0 + 0, z + 6 + 0 + 0)) 1 rfl ?_
    refine TL_if_ne 1111 rfl rfl (fun _ => ?_) (fun _ => ?_)
    · refine T_go (S' := (23, [(4, .inl ((x4 + (5 : Int32)))), (6, .inl (r44.1)), (5, .inl (r43.1)), (3, .inr (.inr (161))), (2, .inr (.inr (122))), (1, .inr (.inr (2))), (0, .inr (.inr (1)))], [], hp r45.2, c + 1 + 0 + 0, z + 6 + 0 + 0)) 3 rfl ?_
      refine T_loc (ls' := [(4, .inl ((x4 + (5 : Int32)))), (3, .inr (.inr (161))), (2, .inr (.inr (122))), (1, .inr (.inr (2))), (0, .inr (.inr (1)))]) [0, 3, 4, 5, 6] rfl ?_
      exact ih (x4 + (5 : Int32)) r45.2 (c + 1 + 0 + 0) (z + 6 + 0 + 0) (by omega) (by omega)
    · refine T_go (S' := (1101, [(6, .inl (r44.1)), (5, .inl (r43.1)), (4, .inl (x4)), (3, .inr (.inr (161))), (2, .inr (.inr (122))), (1, .inr (.inr (2))), (0, .inr (.inr (1)))], [.inl ((0 : Int32)), .inr (.inr (161))], hp r45.2, c + 1 + 0 + 0, z + 6 + 0 + 0)) 2 rfl ?_
      refine TL_lald rfl (fun _ => ?_)
      refine T_go (S' := (1106, [(6, .inl (r44.1)), (5, .inl (r43.1)), (4, .inl (x4)), (3, .inr (.inr (161))), (2, .inr (.inr (122))), (1, .inr (.inr (2))), (0, .inr (.inr (1)))], [.inl ((lg_cmp (r45.2.2 161 (0 : Int32).toNatClampNeg) r44.1.toInt64))], hp r45.2, c + 1 + 0 + 0, z + 6 + 0 + 0)) 3 rfl ?_
      refine TL_if_eq 1111 rfl rfl (fun _ => ?_) (fun _ => ?_)
      · refine T_go (S' := (23, [(4, .inl ((x4 + (5 : Int32)))), (6, .inl (r44.1)), (5, .inl (r43.1)), (3, .inr (.inr (161))), (2, .inr (.inr (122))), (1, .inr (.inr (2))), (0, .inr (.inr (1)))], [], hp r45.2, c + 1 + 0 + 0, z + 6 + 0 + 0)) 3 rfl ?_
        refine T_loc (ls' := [(4, .inl ((x4 + (5 : Int32)))), (3, .inr (.inr (161))), (2, .inr (.inr (122))), (1, .inr (.inr (2))), (0, .inr (.inr (1)))]) [0, 3, 4, 5, 6] rfl ?_
        exact ih (x4 + (5 : Int32)) r45.2 (c + 1 + 0 + 0) (z + 6 + 0 + 0) (by omega) (by omega)
      · refine T_go (S' := (1110, [(6, .inl (r44.1)), (5, .inl (r43.1)), (4, .inl (x4)), (3, .inr (.inr (161))), (2, .inr (.inr (122))), (1, .inr (.inr (2))), (0, .inr (.inr (1)))], [.inl ((0 : Int32))], hp r45.2, c + 1 + 0 + 0, z + 6 + 0 + 0)) 1 rfl ?_
        exact T_chkr rfl
  · refine T_go (S' := (1093, [(6, .inl (r44.1)), (5, .inl (r43.1)), (4, .inl (x4)), (3, .inr (.inr (161))), (2, .inr (.inr (122))), (1, .inr (.inr (2))), (0, .inr (.inr (1)))], [.inl ((0 : Int32))], hp r45.2, c + 1 + 0 + 0, z + 6 + 0 + 0)) 1 rfl ?_
    exact T_chkr rfl
theorem s_law_14 (N : Nat) (xs : Nat → Int32) (rec : Int32 → eMem → Option (Int32 × eMem)) (C Z : Nat) (ih : ∀ (x4 : Int32) (σ : eMem) (c z : Nat), c ≤ C → z ≤ Z → Snd false (some (N, xs)) 23 m_L_law (rec x4 σ) (cN iI) (23, [(4, .inl (x4)), (3, .inr (.inr (161))), (2, .inr (.inr (122))), (1, .inr (.inr (2))), (0, .inr (.inr (1)))], [], hp σ, c, z)) (x4 : Int32) (σ : eMem) (c z : Nat) (hc : c + 10 ≤ C) (hz : z + 100 ≤ Z) (hC : C ≤ 601024) (hZ : Z ≤ 7293034) : Snd false (some (N, xs)) 23 m_L_law (f_law_14 N xs rec x4 σ) (cN iI) (1058, [(4, .inl (x4)), (3, .inr (.inr (161))), (2, .inr (.inr (122))), (1, .inr (.inr (2))), (0, .inr (.inr (1)))], [], hp σ, c, z) :=
  Snd_14_b (sk_law_14 N xs rec C Z (fun x4 σ c z h1 h2 => Snd_14 (ih x4 σ c z h1 h2)) x4 σ c z hc hz hC hZ)
