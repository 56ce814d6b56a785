/-! the law, its cases -/
set_option maxHeartbeats 40000000 in
set_option maxRecDepth 20000 in
theorem sk_law_5 (N : Nat) (xs : Nat → Int32) (rec : Int32 → eMem → Option (Int32 × eMem)) (C Z : Nat) (ih : ∀ (x4 : Int32) (σ : eMem) (c z : Nat), c ≤ C → z ≤ Z → Snd false (some (N, xs)) 23 m_Lk_5 (rec x4 σ) (cN iI) (23, [(4, .inl (x4)), (3, .inr (.inr (161))), (2, .inr (.inr (122))), (1, .inr (.inr (2))), (0, .inr (.inr (1)))], [], hp σ, c, z)) (x4 : Int32) (σ : eMem) (c z : Nat) (hc : c + 10 ≤ C) (hz : z + 100 ≤ Z) (hC : C ≤ 601024) (hZ : Z ≤ 7293034) : Snd false (some (N, xs)) 23 m_Lk_5 (f_law_5 N xs rec x4 σ) (cN iI) (506, [(4, .inl (x4)), (3, .inr (.inr (161))), (2, .inr (.inr (122))), (1, .inr (.inr (2))), (0, .inr (.inr (1)))], [], hp σ, c, z) := by
  unfold f_law_5
  refine T_go (S' := (512, [(4, .inl (x4)), (3, .inr (.inr (161))), (2, .inr (.inr (122))), (1, .inr (.inr (2))), (0, .inr (.inr (1)))], [.inl ((x4 + (1 : Int32))), .inr (.inr (1)), .inr (.inr (2))], hp σ, c, z)) 5 rfl ?_
  refine TL_iald rfl (fun _ => ?_)
  refine T_go (S' := (514, [(4, .inl (x4)), (3, .inr (.inr (161))), (2, .inr (.inr (122))), (1, .inr (.inr (2))), (0, .inr (.inr (1)))], [.inr (.inr (161)), .inl ((xs (x4 + (1 : Int32)).toNatClampNeg)), .inr (.inr (2))], hp σ, c, z)) 1 rfl ?_
  refine TL_cs (i := iI) (as := [.inr (.inr (2)), .inl ((xs (x4 + (1 : Int32)).toNatClampNeg)), .inr (.inr (161))]) (rest := []) (st := [.inr (.inr (161)), .inl ((xs (x4 + (1 : Int32)).toNatClampNeg)), .inr (.inr (2))]) rfl (lb rfl) rfl rfl ⟨by omega, by omega, lb rfl, lb rfl⟩ (fun _ h => Ew_le (lb rfl) (s_L_begin 2 (xs (x4 + (1 : Int32)).toNatClampNeg) 161 σ _ h)) (fun r16 => ?_)
  show Snd false (some (N, xs)) _ _ _ (cN iI) (517, [(4, .inl (x4)), (3, .inr (.inr (161))), (2, .inr (.inr (122))), (1, .inr (.inr (2))), (0, .inr (.inr (1)))], [.inl (r16.1)], hp r16.2, c + 2, z + 12)
  refine T_go (S' := (525, [(5, .inl (r16.1)), (4, .inl (x4)), (3, .inr (.inr (161))), (2, .inr (.inr (122))), (1, .inr (.inr (2))), (0, .inr (.inr (1)))], [.inl ((x4 + (1 : Int32))), .inr (.inr (1)), .inr (.inr (122))], hp r16.2, c + 2, z + 12)) 6 rfl ?_
  refine TL_iald rfl (fun _ => ?_)
  refine TL_cv (i := iI) (as := [.inr (.inr (122)), .inl ((xs (x4 + (1 : Int32)).toNatClampNeg))]) (rest := []) (st := [.inl ((xs (x4 + (1 : Int32)).toNatClampNeg)), .inr (.inr (122))]) rfl rfl rfl ⟨by omega, by omega, lb rfl, lb rfl⟩ (fun _ h => Ew_le (lb rfl) (s_X12_begin 122 (xs (x4 + (1 : Int32)).toNatClampNeg) r16.2 _ h)) (fun _ r17 => ?_)
  show Snd false (some (N, xs)) _ _ _ (cN iI) (529, [(5, .inl (r16.1)), (4, .inl (x4)), (3, .inr (.inr (161))), (2, .inr (.inr (122))), (1, .inr (.inr (2))), (0, .inr (.inr (1)))], [.inl (r17.1)], hp r17.2, c + 2 + 0, z + 12 + 0)
  refine T_go (S' := (532, [(6, .inl (r17.1)), (5, .inl (r16.1)), (4, .inl (x4)), (3, .inr (.inr (161))), (2, .inr (.inr (122))), (1, .inr (.inr (2))), (0, .inr (.inr (1)))], [.inr (.inr (122))], hp r17.2, c + 2 + 0, z + 12 + 0)) 2 rfl ?_
  refine TL_cv (i := iI) (as := [.inr (.inr (122))]) (rest := []) (st := [.inr (.inr (122))]) rfl rfl rfl ⟨by omega, by omega, lb rfl, lb rfl⟩ (fun _ h => Ew_le (lb rfl) (s_X12_thrown 122 r17.2 _ h)) (fun _ r18 => ?_)
  show Snd false (some (N, xs)) _ _ _ (cN iI) (535, [(6, .inl (r17.1)), (5, .inl (r16.1)), (4, .inl (x4)), (3, .inr (.inr (161))), (2, .inr (.inr (122))), (1, .inr (.inr (2))), (0, .inr (.inr (1)))], [.inl (r18.1)], hp r18.2, c + 2 + 0 + 0, z + 12 + 0 + 0)
  refine T_go (S' := (537, [(6, .inl (r17.1)), (5, .inl (r16.1)), (4, .inl (x4)), (3, .inr (.inr (161))), (2, .inr (.inr (122))), (1, .inr (.inr (2))), (0, .inr (.inr (1)))], [.inl (r16.1), .inl (r18.1)], hp r18.2, c + 2 + 0 + 0, z + 12 + 0 + 0)) 1 rfl ?_
  refine TL_icmp_eq 542 rfl rfl (fun _ => ?_) (fun _ => ?_)
  · refine T_go (S' := (544, [(6, .inl (r17.1)), (5, .inl (r16.1)), (4, .inl (x4)), (3, .inr (.inr (161))), (2, .inr (.inr (122))), (1, .inr (.inr (2))), (0, .inr (.inr (1)))], [.inl (r16.1)], hp r18.2, c + 2 + 0 + 0, z + 12 + 0 + 0)) 1 rfl ?_
    refine TL_if_ne 559 rfl rfl (fun _ => ?_) (fun _ => ?_)
    · refine T_go (S' := (23, [(4, .inl ((x4 + (5 : Int32)))), (6, .inl (r17.1)), (5, .inl (r16.1)), (3, .inr (.inr (161))), (2, .inr (.inr (122))), (1, .inr (.inr (2))), (0, .inr (.inr (1)))], [], hp r18.2, c + 2 + 0 + 0, z + 12 + 0 + 0)) 3 rfl ?_
      refine T_loc (ls' := [(4, .inl ((x4 + (5 : Int32)))), (3, .inr (.inr (161))), (2, .inr (.inr (122))), (1, .inr (.inr (2))), (0, .inr (.inr (1)))]) [0, 3, 4, 5, 6] rfl ?_
      exact ih (x4 + (5 : Int32)) r18.2 (c + 2 + 0 + 0) (z + 12 + 0 + 0) (by omega) (by omega)
    · refine T_go (S' := (549, [(6, .inl (r17.1)), (5, .inl (r16.1)), (4, .inl (x4)), (3, .inr (.inr (161))), (2, .inr (.inr (122))), (1, .inr (.inr (2))), (0, .inr (.inr (1)))], [.inl ((0 : Int32)), .inr (.inr (161))], hp r18.2, c + 2 + 0 + 0, z + 12 + 0 + 0)) 2 rfl ?_
      refine TL_lald rfl (fun _ => ?_)
      refine T_go (S' := (554, [(6, .inl (r17.1)), (5, .inl (r16.1)), (4, .inl (x4)), (3, .inr (.inr (161))), (2, .inr (.inr (122))), (1, .inr (.inr (2))), (0, .inr (.inr (1)))], [.inl ((lg_cmp (r18.2.2 161 (0 : Int32).toNatClampNeg) r17.1.toInt64))], hp r18.2, c + 2 + 0 + 0, z + 12 + 0 + 0)) 3 rfl ?_
      refine TL_if_eq 559 rfl rfl (fun _ => ?_) (fun _ => ?_)
      · refine T_go (S' := (23, [(4, .inl ((x4 + (5 : Int32)))), (6, .inl (r17.1)), (5, .inl (r16.1)), (3, .inr (.inr (161))), (2, .inr (.inr (122))), (1, .inr (.inr (2))), (0, .inr (.inr (1)))], [], hp r18.2, c + 2 + 0 + 0, z + 12 + 0 + 0)) 3 rfl ?_
        refine T_loc (ls' := [(4, .inl ((x4 + (5 : Int32)))), (3, .inr (.inr (161))), (2, .inr (.inr (122))), (1, .inr (.inr (2))), (0, .inr (.inr (1)))]) [0, 3, 4, 5, 6] rfl ?_
        exact ih (x4 + (5 : Int32)) r18.2 (c + 2 + 0 + 0) (z + 12 + 0 + 0) (by omega) (by omega)
      · refine T_go (S' := (558, [(6, .inl (r17.1)), (5, .inl (r16.1)), (4, .inl (x4)), (3, .inr (.inr (161))), (2, .inr (.inr (122))), (1, .inr (.inr (2))), (0, .inr (.inr (1)))], [.inl ((0 : Int32))], hp r18.2, c + 2 + 0 + 0, z + 12 + 0 + 0)) 1 rfl ?_
        exact T_chkr rfl
  · refine T_go (S' := (541, [(6, .inl (r17.1)), (5, .inl (r16.1)), (4, .inl (x4)), (3, .inr (.inr (161))), (2, .inr (.inr (122))), (1, .inr (.inr (2))), (0, .inr (.inr (1)))], [.inl ((0 : Int32))], hp r18.2, c + 2 + 0 + 0, z + 12 + 0 + 0)) 1 rfl ?_
    exact T_chkr rfl
theorem s_law_5 (N : Nat) (xs : Nat → Int32) (rec : Int32 → eMem → Option (Int32 × eMem)) (C Z : Nat) (ih : ∀ (x4 : Int32) (σ : eMem) (c z : Nat), c ≤ C → z ≤ Z → Snd false (some (N, xs)) 23 m_L_law (rec x4 σ) (cN iI) (23, [(4, .inl (x4)), (3, .inr (.inr (161))), (2, .inr (.inr (122))), (1, .inr (.inr (2))), (0, .inr (.inr (1)))], [], hp σ, c, z)) (x4 : Int32) (σ : eMem) (c z : Nat) (hc : c + 10 ≤ C) (hz : z + 100 ≤ Z) (hC : C ≤ 601024) (hZ : Z ≤ 7293034) : Snd false (some (N, xs)) 23 m_L_law (f_law_5 N xs rec x4 σ) (cN iI) (506, [(4, .inl (x4)), (3, .inr (.inr (161))), (2, .inr (.inr (122))), (1, .inr (.inr (2))), (0, .inr (.inr (1)))], [], hp σ, c, z) :=
  Snd_5_b (sk_law_5 N xs rec C Z (fun x4 σ c z h1 h2 => Snd_5 (ih x4 σ c z h1 h2)) x4 σ c z hc hz hC hZ)

set_option maxHeartbeats 40000000 in
set_option maxRecDepth 20000 in
theorem sk_law_6 (N : Nat) (xs : Nat → Int32) (rec : Int32 → eMem → Option (Int32 × eMem)) (C Z : Nat) (ih : ∀ (x4 : Int32) (σ : eMem) (c z : Nat), c ≤ C → z ≤ Z → Snd false (some (N, xs)) 23 m_Lk_6 (rec x4 σ) (cN iI) (23, [(4, .inl (x4)), (3, .inr (.inr (161))), (2, .inr (.inr (122))), (1, .inr (.inr (2))), (0, .inr (.inr (1)))], [], hp σ, c, z)) (x4 : Int32) (σ : eMem) (c z : Nat) (hc : c + 10 ≤ C) (hz : z + 100 ≤ Z) (hC : C ≤ 601024) (hZ : Z ≤ 7293034) : Snd false (some (N, xs)) 23 m_Lk_6 (f_law_6 N xs rec x4 σ) (cN iI) (562, [(4, .inl (x4)), (3, .inr (.inr (161))), (2, .inr (.inr (122))), (1, .inr (.inr (2))), (0, .inr (.inr (1)))], [], hp σ, c, z) := by
  unfold f_law_6
  refine T_go (S' := (568, [(4, .inl (x4)), (3, .inr (.inr (161))), (2, .inr (.inr (122))), (1, .inr (.inr (2))), (0, .inr (.inr (1)))], [.inl ((x4 + (1 : Int32))), .inr (.inr (1)), .inr (.inr (2))], hp σ, c, z)) 5 rfl ?_
  refine TL_iald rfl (fun _ => ?_)
  refine T_go (S' := (570, [(4, .inl (x4)), (3, .inr (.inr (161))), (2, .inr (.inr (122))), (1, .inr (.inr (2))), (0, .inr (.inr (1)))], [.inr (.inr (161)), .inl ((xs (x4 + (1 : Int32)).toNatClampNeg)), .inr (.inr (2))], hp σ, c, z)) 1 rfl ?_
  refine TL_cs (i := iI) (as := [.inr (.inr (2)), .inl ((xs (x4 + (1 : Int32)).toNatClampNeg)), .inr (.inr (161))]) (rest := []) (st := [.inr (.inr (161)), .inl ((xs (x4 + (1 : Int32)).toNatClampNeg)), .inr (.inr (2))]) rfl (lb rfl) rfl rfl ⟨by omega, by omega, lb rfl, lb rfl⟩ (fun _ h => Ew_le (lb rfl) (s_L_end 2 (xs (x4 + (1 : Int32)).toNatClampNeg) 161 σ _ h)) (fun r19 => ?_)
  show Snd false (some (N, xs)) _ _ _ (cN iI) (573, [(4, .inl (x4)), (3, .inr (.inr (161))), (2, .inr (.inr (122))), (1, .inr (.inr (2))), (0, .inr (.inr (1)))], [.inl (r19.1)], hp r19.2, c + 2, z + 12)
  refine T_go (S' := (581, [(5, .inl (r19.1)), (4, .inl (x4)), (3, .inr (.inr (161))), (2, .inr (.inr (122))), (1, .inr (.inr (2))), (0, .inr (.inr (1)))], [.inl ((x4 + (1 : Int32))), .inr (.inr (1)), .inr (.inr (122))], hp r19.2, c + 2, z + 12)) 6 rfl ?_
  refine TL_iald rfl (fun _ => ?_)
  refine TL_cv (i := iI) (as := [.inr (.inr (122)), .inl ((xs (x4 + (1 : Int32)).toNatClampNeg))]) (rest := []) (st := [.inl ((xs (x4 + (1 : Int32)).toNatClampNeg)), .inr (.inr (122))]) rfl rfl rfl ⟨by omega, by omega, lb rfl, lb rfl⟩ (fun _ h => Ew_le (lb rfl) (s_X12_end 122 (xs (x4 + (1 : Int32)).toNatClampNeg) r19.2 _ h)) (fun _ r20 => ?_)
  show Snd false (some (N, xs)) _ _ _ (cN iI) (585, [(5, .inl (r19.1)), (4, .inl (x4)), (3, .inr (.inr (161))), (2, .inr (.inr (122))), (1, .inr (.inr (2))), (0, .inr (.inr (1)))], [.inl (r20.1)], hp r20.2, c + 2 + 0, z + 12 + 0)
  refine T_go (S' := (588, [(6, .inl (r20.1)), (5, .inl (r19.1)), (4, .inl (x4)), (3, .inr (.inr (161))), (2, .inr (.inr (122))), (1, .inr (.inr (2))), (0, .inr (.inr (1)))], [.inr (.inr (122))], hp r20.2, c + 2 + 0, z + 12 + 0)) 2 rfl ?_
  refine TL_cv (i := iI) (as := [.inr (.inr (122))]) (rest := []) (st := [.inr (.inr (122))]) rfl rfl rfl ⟨by omega, by omega, lb rfl, lb rfl⟩ (fun _ h => Ew_le (lb rfl) (s_X12_thrown 122 r20.2 _ h)) (fun _ r21 => ?_)
  show Snd false (some (N, xs)) _ _ _ (cN iI) (591, [(6, .inl (r20.1)), (5, .inl (r19.1)), (4, .inl (x4)), (3, .inr (.inr (161))), (2, .inr (.inr (122))), (1, .inr (.inr (2))), (0, .inr (.inr (1)))], [.inl (r21.1)], hp r21.2, c + 2 + 0 + 0, z + 12 + 0 + 0)
  refine T_go (S' := (593, [(6, .inl (r20.1)), (5, .inl (r19.1)), (4, .inl (x4)), (3, .inr (.inr (161))), (2, .inr (.inr (122))), (1, .inr (.inr (2))), (0, .inr (.inr (1)))], [.inl (r19.1), .inl (r21.1)], hp r21.2, c + 2 + 0 + 0, z + 12 + 0 + 0)) 1 rfl ?_
  refine TL_icmp_eq 598 rfl rfl (fun _ => ?_) (fun _ => ?_)
  · refine T_go (S' := (600, [(6, .inl (r20.1)), (5, .inl (r19.1)), (4, .inl (x4)), (3, .inr (.inr (161))), (2, .inr (.inr (122))), (1, .inr (.inr (2))), (0, .inr (.inr (1)))], [.inl (r19.1)], hp r21.2, c + 2 + 0 + 0, z + 12 + 0 + 0)) 1 rfl ?_
    refine TL_if_ne 615 rfl rfl (fun _ => ?_) (fun _ => ?_)
    · refine T_go (S' := (23, [(4, .inl ((x4 + (5 : Int32)))), (6, .inl (r20.1)), (5, .inl (r19.1)), (3, .inr (.inr (161))), (2, .inr (.inr (122))), (1, .inr (.inr (2))), (0, .inr (.inr (1)))], [], hp r21.2, c + 2 + 0 + 0, z + 12 + 0 + 0)) 3 rfl ?_
      refine T_loc (ls' := [(4, .inl ((x4 + (5 : Int32)))), (3, .inr (.inr (161))), (2, .inr (.inr (122))), (1, .inr (.inr (2))), (0, .inr (.inr (1)))]) [0, 3, 4, 5, 6] rfl ?_
      exact ih (x4 + (5 : Int32)) r21.2 (c + 2 + 0 + 0) (z + 12 + 0 + 0) (by omega) (by omega)
    · refine T_go (S' := (605, [(6, .inl (r20.1)), (5, .inl (r19.1)), (4, .inl (x4)), (3, .inr (.inr (161))), (2, .inr (.inr (122))), (1, .inr (.inr (2))), (0, .inr (.inr (1)))], [.inl ((0 : Int32)), .inr (.inr (161))], hp r21.2, c + 2 + 0 + 0, z + 12 + 0 + 0)) 2 rfl ?_
      refine TL_lald rfl (fun _ => ?_)
      refine T_go (S' := (610, [(6, .inl (r20.1)), (5, .inl (r19.1)), (4, .inl (x4)), (3, .inr (.inr (161))), (2, .inr (.inr (122))), (1, .inr (.inr (2))), (0, .inr (.inr (1)))], [.inl ((lg_cmp (r21.2.2 161 (0 : Int32).toNatClampNeg) r20.1.toInt64))], hp r21.2, c + 2 + 0 + 0, z + 12 + 0 + 0)) 3 rfl ?_
      refine TL_if_eq 615 rfl rfl (fun _ => ?_) (fun _ => ?_)
      · refine T_go (S' := (23, [(4, .inl ((x4 + (5 : Int32)))), (6, .inl (r20.1)), (5, .inl (r19.1)), (3, .inr (.inr (161))), (2, .inr (.inr (122))), (1, .inr (.inr (2))), (0, .inr (.inr (1)))], [], hp r21.2, c + 2 + 0 + 0, z + 12 + 0 + 0)) 3 rfl ?_
        refine T_loc (ls' := [(4, .inl ((x4 + (5 : Int32)))), (3, .inr (.inr (161))), (2, .inr (.inr (122))), (1, .inr (.inr (2))), (0, .inr (.inr (1)))]) [0, 3, 4, 5, 6] rfl ?_
        exact ih (x4 + (5 : Int32)) r21.2 (c + 2 + 0 + 0) (z + 12 + 0 + 0) (by omega) (by omega)
      · refine T_go (S' := (614, [(6, .inl (r20.1)), (5, .inl (r19.1)), (4, .inl (x4)), (3, .inr (.inr (161))), (2, .inr (.inr (122))), (1, .inr (.inr (2))), (0, .inr (.inr (1)))], [.inl ((0 : Int32))], hp r21.2, c + 2 + 0 + 0, z + 12 + 0 + 0)) 1 rfl ?_
        exact T_chkr rfl
  · refine T_go (S' := (597, [(6, .inl (r20.1)), (5, .inl (r19.1)), (4, .inl (x4)), (3, .inr (.inr (161))), (2, .inr (.inr (122))), (1, .inr (.inr (2))), (0, .inr (.inr (1)))], [.inl ((0 : Int32))], hp r21.2, c + 2 + 0 + 0, z + 12 + 0 + 0)) 1 rfl ?_
    exact T_chkr rfl
theorem s_law_6 (N : Nat) (xs : Nat → Int32) (rec : Int32 → eMem → Option (Int32 × eMem)) (C Z : Nat) (ih : ∀ (x4 : Int32) (σ : eMem) (c z : Nat), c ≤ C → z ≤ Z → Snd false (some (N, xs)) 23 m_L_law (rec x4 σ) (cN iI) (23, [(4, .inl (x4)), (3, .inr (.inr (161))), (2, .inr (.inr (122))), (1, .inr (.inr (2))), (0, .inr (.inr (1)))], [], hp σ, c, z)) (x4 : Int32) (σ : eMem) (c z : Nat) (hc : c + 10 ≤ C) (hz : z + 100 ≤ Z) (hC : C ≤ 601024) (hZ : Z ≤ 7293034) : Snd false (some (N, xs)) 23 m_L_law (f_law_6 N xs rec x4 σ) (cN iI) (562, [(4, .inl (x4)), (3, .inr (.inr (161))), (2, .inr (.inr (122))), (1, .inr (.inr (2))), (0, .inr (.inr (1)))], [], hp σ, c, z) :=
  Snd_6_b (sk_law_6 N xs rec C Z (fun x4 σ c z h1 h2 => Snd_6 (ih x4 σ c z h1 h2)) x4 σ c z hc hz hC hZ)

set_option maxHeartbeats 40000000 in
set_option maxRecDepth 20000 in
theorem sk_law_7 (N : Nat) (xs : Nat → Int32) (rec : Int32 → eMem → Option (Int32 × eMem)) (C Z : Nat) (ih : ∀ (x4 : Int32) (σ : eMem) (c z : Nat), c ≤ C → z ≤ Z → Snd false (some (N, xs)) 23 m_Lk_7 (rec x4 σ) (cN iI) (23, [(4, .inl (x4)), (3, .inr (.inr (161))), (2, .inr (.inr (122))), (1, .inr (.inr (2))), (0, .inr (.inr (1)))], [], hp σ, c, z)) (x4 : Int32) (σ : eMem) (c z : Nat) (hc : c + 10 ≤ C) (hz : z + 100 ≤ Z) (hC : C ≤ 601024) (hZ : Z ≤ 7293034) : Snd false (some (N, xs)) 23 m_Lk_7 (f_law_7 N xs rec x4 σ) (cN iI) (618, [(4, .inl (x4)), (3, .inr (.inr (161))), (2, .inr (.inr (122))), (1, .inr (.inr (2))), (0, .inr (.inr (1)))], [], hp σ, c, z) := by
  unfold f_law_7
  refine T_go (S' := (624, [(4, .inl (x4)), (3, .inr (.inr (161))), (2, .inr (.inr (122))), (1, .inr (.inr (2))), (0, .inr (.inr (1)))], [.inl ((x4 + (1 : Int32))), .inr (.inr (1)), .inr (.inr (2))], hp σ, c, z)) 5 rfl ?_
  refine TL_iald rfl (fun _ => ?_)
  refine T_go (S' := (630, [(4, .inl (x4)), (3, .inr (.inr (161))), (2, .inr (.inr (122))), (1, .inr (.inr (2))), (0, .inr (.inr (1)))], [.inl ((x4 + (2 : Int32))), .inr (.inr (1)), .inl ((xs (x4 + (1 : Int32)).toNatClampNeg)), .inr (.inr (2))], hp σ, c, z)) 4 rfl ?_
  refine TL_iald rfl (fun _ => ?_)
  refine T_go (S' := (632, [(4, .inl (x4)), (3, .inr (.inr (161))), (2, .inr (.inr (122))), (1, .inr (.inr (2))), (0, .inr (.inr (1)))], [.inr (.inr (161)), .inl ((xs (x4 + (2 : Int32)).toNatClampNeg)), .inl ((xs (x4 + (1 : Int32)).toNatClampNeg)), .inr (.inr (2))], hp σ, c, z)) 1 rfl ?_
  refine TL_cs (i := iI) (as := [.inr (.inr (2)), .inl ((xs (x4 + (1 : Int32)).toNatClampNeg)), .inl ((xs (x4 + (2 : Int32)).toNatClampNeg)), .inr (.inr (161))]) (rest := []) (st := [.inr (.inr (161)), .inl ((xs (x4 + (2 : Int32)).toNatClampNeg)), .inl ((xs (x4 + (1 : Int32)).toNatClampNeg)), .inr (.inr (2))]) rfl (lb rfl) rfl rfl ⟨by omega, by omega, lb rfl, lb rfl⟩ (fun _ h => Ew_le (lb rfl) (s_L_deliver 2 (xs (x4 + (1 : Int32)).toNatClampNeg) (xs (x4 + (2 : Int32)).toNatClampNeg) 161 σ _ h)) (fun r22 => ?_)
  show Snd false (some (N, xs)) _ _ _ (cN iI) (635, [(4, .inl (x4)), (3, .inr (.inr (161))), (2, .inr (.inr (122))), (1, .inr (.inr (2))), (0, .inr (.inr (1)))], [.inl (r22.1)], hp r22.2, c + 3, z + 18)
  refine T_go (S' := (643, [(5, .inl (r22.1)), (4, .inl (x4)), (3, .inr (.inr (161))), (2, .inr (.inr (122))), (1, .inr (.inr (2))), (0, .inr (.inr (1)))], [.inl ((x4 + (1 : Int32))), .inr (.inr (1)), .inr (.inr (122))], hp r22.2, c + 3, z + 18)) 6 rfl ?_
  refine TL_iald rfl (fun _ => ?_)
  refine T_go (S' := (649, [(5, .inl (r22.1)), (4, .inl (x4)), (3, .inr (.inr (161))), (2, .inr (.inr (122))), (1, .inr (.inr (2))), (0, .inr (.inr (1)))], [.inl ((x4 + (2 : Int32))), .inr (.inr (1)), .inl ((xs (x4 + (1 : Int32)).toNatClampNeg)), .inr (.inr (122))], hp r22.2, c + 3, z + 18)) 4 rfl ?_
  refine TL_iald rfl (fun _ => ?_)
  refine TL_cv (i := iI) (as := [.inr (.inr (122)), .inl ((xs (x4 + (1 : Int32)).toNatClampNeg)), .inl ((xs (x4 + (2 : Int32)).toNatClampNeg))]) (rest := []) (st := [.inl ((xs (x4 + (2 : Int32)).toNatClampNeg)), .inl ((xs (x4 + (1 : Int32)).toNatClampNeg)), .inr (.inr (122))]) rfl rfl rfl ⟨by omega, by omega, lb rfl, lb rfl⟩ (fun _ h => Ew_le (lb rfl) (s_X12_deliver 122 (xs (x4 + (1 : Int32)).toNatClampNeg) (xs (x4 + (2 : Int32)).toNatClampNeg) r22.2 _ h)) (fun _ r23 => ?_)
  show Snd false (some (N, xs)) _ _ _ (cN iI) (653, [(5, .inl (r22.1)), (4, .inl (x4)), (3, .inr (.inr (161))), (2, .inr (.inr (122))), (1, .inr (.inr (2))), (0, .inr (.inr (1)))], [.inl (r23.1)], hp r23.2, c + 3 + 0, z + 18 + 0)
  refine T_go (S' := (656, [(6, .inl (r23.1)), (5, .inl (r22.1)), (4, .inl (x4)), (3, .inr (.inr (161))), (2, .inr (.inr (122))), (1, .inr (.inr (2))), (0, .inr (.inr (1)))], [.inr (.inr (122))], hp r23.2, c + 3 + 0, z + 18 + 0)) 2 rfl ?_
  refine TL_cv (i := iI) (as := [.inr (.inr (122))]) (rest := []) (st := [.inr (.inr (122))]) rfl rfl rfl ⟨by omega, by omega, lb rfl, lb rfl⟩ (fun _ h => Ew_le (lb rfl) (s_X12_thrown 122 r23.2 _ h)) (fun _ r24 => ?_)
  show Snd false (some (N, xs)) _ _ _ (cN iI) (659, [(6, .inl (r23.1)), (5, .inl (r22.1)), (4, .inl (x4)), (3, .inr (.inr (161))), (2, .inr (.inr (122))), (1, .inr (.inr (2))), (0, .inr (.inr (1)))], [.inl (r24.1)], hp r24.2, c + 3 + 0 + 0, z + 18 + 0 + 0)
  refine T_go (S' := (661, [(6, .inl (r23.1)), (5, .inl (r22.1)), (4, .inl (x4)), (3, .inr (.inr (161))), (2, .inr (.inr (122))), (1, .inr (.inr (2))), (0, .inr (.inr (1)))], [.inl (r22.1), .inl (r24.1)], hp r24.2, c + 3 + 0 + 0, z + 18 + 0 + 0)) 1 rfl ?_
  refine TL_icmp_eq 666 rfl rfl (fun _ => ?_) (fun _ => ?_)
  · refine T_go (S' := (668, [(6, .inl (r23.1)), (5, .inl (r22.1)), (4, .inl (x4)), (3, .inr (.inr (161))), (2, .inr (.inr (122))), (1, .inr (.inr (2))), (0, .inr (.inr (1)))], [.inl (r22.1)], hp r24.2, c + 3 + 0 + 0, z + 18 + 0 + 0)) 1 rfl ?_
    refine TL_if_ne 683 rfl rfl (fun _ => ?_) (fun _ => ?_)
    · refine T_go (S' := (23, [(4, .inl ((x4 + (5 : Int32)))), (6, .inl (r23.1)), (5, .inl (r22.1)), (3, .inr (.inr (161))), (2, .inr (.inr (122))), (1, .inr (.inr (2))), (0, .inr (.inr (1)))], [], hp r24.2, c + 3 + 0 + 0, z + 18 + 0 + 0)) 3 rfl ?_
      refine T_loc (ls' := [(4, .inl ((x4 + (5 : Int32)))), (3, .inr (.inr (161))), (2, .inr (.inr (122))), (1, .inr (.inr (2))), (0, .inr (.inr (1)))]) [0, 3, 4, 5, 6] rfl ?_
      exact ih (x4 + (5 : Int32)) r24.2 (c + 3 + 0 + 0) (z + 18 + 0 + 0) (by omega) (by omega)
    · refine T_go (S' := (673, [(6, .inl (r23.1)), (5, .inl (r22.1)), (4, .inl (x4)), (3, .inr (.inr (161))), (2, .inr (.inr (122))), (1, .inr (.inr (2))), (0, .inr (.inr (1)))], [.inl ((0 : Int32)), .inr (.inr (161))], hp r24.2, c + 3 + 0 + 0, z + 18 + 0 + 0)) 2 rfl ?_
      refine TL_lald rfl (fun _ => ?_)
      refine T_go (S' := (678, [(6, .inl (r23.1)), (5, .inl (r22.1)), (4, .inl (x4)), (3, .inr (.inr (161))), (2, .inr (.inr (122))), (1, .inr (.inr (2))), (0, .inr (.inr (1)))], [.inl ((lg_cmp (r24.2.2 161 (0 : Int32).toNatClampNeg) r23.1.toInt64))], hp r24.2, c + 3 + 0 + 0, z + 18 + 0 + 0)) 3 rfl ?_
      refine TL_if_eq 683 rfl rfl (fun _ => ?_) (fun _ => ?_)
      · refine T_go (S' := (23, [(4, .inl ((x4 + (5 : Int32)))), (6, .inl (r23.1)), (5, .inl (r22.1)), (3, .inr (.inr (161))), (2, .inr (.inr (122))), (1, .inr (.inr (2))), (0, .inr (.inr (1)))], [], hp r24.2, c + 3 + 0 + 0, z + 18 + 0 + 0)) 3 rfl ?_
        refine T_loc (ls' := [(4, .inl ((x4 + (5 : Int32)))), (3, .inr (.inr (161))), (2, .inr (.inr (122))), (1, .inr (.inr (2))), (0, .inr (.inr (1)))]) [0, 3, 4, 5, 6] rfl ?_
        exact ih (x4 + (5 : Int32)) r24.2 (c + 3 + 0 + 0) (z + 18 + 0 + 0) (by omega) (by omega)
      · refine T_go (S' := (682, [(6, .inl (r23.1)), (5, .inl (r22.1)), (4, .inl (x4)), (3, .inr (.inr (161))), (2, .inr (.inr (122))), (1, .inr (.inr (2))), (0, .inr (.inr (1)))], [.inl ((0 : Int32))], hp r24.2, c + 3 + 0 + 0, z + 18 + 0 + 0)) 1 rfl ?_
        exact T_chkr rfl
  · refine T_go (S' := (665, [(6, .inl (r23.1)), (5, .inl (r22.1)), (4, .inl (x4)), (3, .inr (.inr (161))), (2, .inr (.inr (122))), (1, .inr (.inr (2))), (0, .inr (.inr (1)))], [.inl ((0 : Int32))], hp r24.2, c + 3 + 0 + 0, z + 18 + 0 + 0)) 1 rfl ?_
    exact T_chkr rfl
theorem s_law_7 (N : Nat) (xs : Nat → Int32) (rec : Int32 → eMem → Option (Int32 × eMem)) (C Z : Nat) (ih : ∀ (x4 : Int32) (σ : eMem) (c z : Nat), c ≤ C → z ≤ Z → Snd false (some (N, xs)) 23 m_L_law (rec x4 σ) (cN iI) (23, [(4, .inl (x4)), (3, .inr (.inr (161))), (2, .inr (.inr (122))), (1, .inr (.inr (2))), (0, .inr (.inr (1)))], [], hp σ, c, z)) (x4 : Int32) (σ : eMem) (c z : Nat) (hc : c + 10 ≤ C) (hz : z + 100 ≤ Z) (hC : C ≤ 601024) (hZ : Z ≤ 7293034) : Snd false (some (N, xs)) 23 m_L_law (f_law_7 N xs rec x4 σ) (cN iI) (618, [(4, .inl (x4)), (3, .inr (.inr (161))), (2, .inr (.inr (122))), (1, .inr (.inr (2))), (0, .inr (.inr (1)))], [], hp σ, c, z) :=
  Snd_7_b (sk_law_7 N xs rec C Z (fun x4 σ c z h1 h2 => Snd_7 (ih x4 σ c z h1 h2)) x4 σ c z hc hz hC hZ)

set_option maxHeartbeats 40000000 in
set_option maxRecDepth 20000 in
theorem sk_law_8 (N : Nat) (xs : Nat → Int32) (rec : Int32 → eMem → Option (Int32 × eMem)) (C Z : Nat) (ih : ∀ (x4 : Int32) (σ : eMem) (c z : Nat), c ≤ C → z ≤ Z → Snd false (some (N, xs)) 23 m_Lk_8 (rec x4 σ) (cN iI) (23, [(4, .inl (x4)), (3, .inr (.inr (161))), (2, .inr (.inr (122))), (1, .inr (.inr (2))), (0, .inr (.inr (1)))], [], hp σ, c, z)) (x4 : Int32) (σ : eMem) (c z : Nat) (hc : c + 10 ≤ C) (hz : z + 100 ≤ Z) (hC : C ≤ 601024) (hZ : Z ≤ 7293034) : Snd false (some (N, xs)) 23 m_Lk_8 (f_law_8 N xs rec x4 σ) (cN iI) (686, [(4, .inl (x4)), (3, .inr (.inr (161))), (2, .inr (.inr (122))), (1, .inr (.inr (2))), (0, .inr (.inr (1)))], [], hp σ, c, z) := by
  unfold f_law_8
  refine T_go (S' := (692, [(4, .inl (x4)), (3, .inr (.inr (161))), (2, .inr (.inr (122))), (1, .inr (.inr (2))), (0, .inr (.inr (1)))], [.inl ((x4 + (1 : Int32))), .inr (.inr (1)), .inr (.inr (2))], hp σ, c, z)) 5 rfl ?_
  refine TL_iald rfl (fun _ => ?_)
  refine T_go (S' := (694, [(4, .inl (x4)), (3, .inr (.inr (161))), (2, .inr (.inr (122))), (1, .inr (.inr (2))), (0, .inr (.inr (1)))], [.inr (.inr (161)), .inl ((xs (x4 + (1 : Int32)).toNatClampNeg)), .inr (.inr (2))], hp σ, c, z)) 1 rfl ?_
  refine TL_cs (i := iI) (as := [.inr (.inr (2)), .inl ((xs (x4 + (1 : Int32)).toNatClampNeg)), .inr (.inr (161))]) (rest := []) (st := [.inr (.inr (161)), .inl ((xs (x4 + (1 : Int32)).toNatClampNeg)), .inr (.inr (2))]) rfl (lb rfl) rfl rfl ⟨by omega, by omega, lb rfl, lb rfl⟩ (fun _ h => Ew_le (lb rfl) (s_L_pump 2 (xs (x4 + (1 : Int32)).toNatClampNeg) 161 σ _ h)) (fun r25 => ?_)
  show Snd false (some (N, xs)) _ _ _ (cN iI) (697, [(4, .inl (x4)), (3, .inr (.inr (161))), (2, .inr (.inr (122))), (1, .inr (.inr (2))), (0, .inr (.inr (1)))], [.inl (r25.1)], hp r25.2, c + 1, z + 6)
  refine T_go (S' := (705, [(5, .inl (r25.1)), (4, .inl (x4)), (3, .inr (.inr (161))), (2, .inr (.inr (122))), (1, .inr (.inr (2))), (0, .inr (.inr (1)))], [.inl ((x4 + (1 : Int32))), .inr (.inr (1)), .inr (.inr (122))], hp r25.2, c + 1, z + 6)) 6 rfl ?_
  refine TL_iald rfl (fun _ => ?_)
  refine TL_cv (i := iI) (as := [.inr (.inr (122)), .inl ((xs (x4 + (1 : Int32)).toNatClampNeg))]) (rest := []) (st := [.inl ((xs (x4 + (1 : Int32)).toNatClampNeg)), .inr (.inr (122))]) rfl rfl rfl ⟨by omega, by omega, lb rfl, lb rfl⟩ (fun _ h => Ew_le (lb rfl) (s_X12_pump 122 (xs (x4 + (1 : Int32)).toNatClampNeg) r25.2 _ h)) (fun _ r26 => ?_)
  show Snd false (some (N, xs)) _ _ _ (cN iI) (709, [(5, .inl (r25.1)), (4, .inl (x4)), (3, .inr (.inr (161))), (2, .inr (.inr (122))), (1, .inr (.inr (2))), (0, .inr (.inr (1)))], [.inl (r26.1)], hp r26.2, c + 1 + 0, z + 6 + 0)
  refine T_go (S' := (712, [(6, .inl (r26.1)), (5, .inl (r25.1)), (4, .inl (x4)), (3, .inr (.inr (161))), (2, .inr (.inr (122))), (1, .inr (.inr (2))), (0, .inr (.inr (1)))], [.inr (.inr (122))], hp r26.2, c + 1 + 0, z + 6 + 0)) 2 rfl ?_
  refine TL_cv (i := iI) (as := [.inr (.inr (122))]) (rest := []) (st := [.inr (.inr (122))]) rfl rfl rfl ⟨by omega, by omega, lb rfl, lb rfl⟩ (fun _ h => Ew_le (lb rfl) (s_X12_thrown 122 r26.2 _ h)) (fun _ r27 => ?_)
  show Snd false (some (N, xs)) _ _ _ (cN iI) (715, [(6, .inl (r26.1)), (5, .inl (r25.1)), (4, .inl (x4)), (3, .inr (.inr (161))), (2, .inr (.inr (122))), (1, .inr (.inr (2))), (0, .inr (.inr (1)))], [.inl (r27.1)], hp r27.2, c + 1 + 0 + 0, z + 6 + 0 + 0)
  refine T_go (S' := (717, [(6, .inl (r26.1)), (5, .inl (r25.1)), (4, .inl (x4)), (3, .inr (.inr (161))), (2, .inr (.inr (122))), (1, .inr (.inr (2))), (0, .inr (.inr (1)))], [.inl (r25.1), .inl (r27.1)], hp r27.2, c + 1 + 0 + 0, z + 6 + 0 + 0)) 1 rfl ?_
  refine TL_icmp_eq 722 rfl rfl (fun _ => ?_) (fun _ => ?_)
  · refine T_go (S' := (724, [(6, .inl (r26.1)), (5, .inl (r25.1)), (4, .inl (x4)), (3, .inr (.inr (161))), (2, .inr (.inr (122))), (1, .inr (.inr (2))), (0, .inr (.inr (1)))], [.inl (r25.1)], hp r27.2, c + 1 + 0 + 0, z + 6 + 0 + 0)) 1 rfl ?_
    refine TL_if_ne 739 rfl rfl (fun _ => ?_) (fun _ => ?_)
    · refine T_go (S' := (23, [(4, .inl ((x4 + (5 : Int32)))), (6, .inl (r26.1)), (5, .inl (r25.1)), (3, .inr (.inr (161))), (2, .inr (.inr (122))), (1, .inr (.inr (2))), (0, .inr (.inr (1)))], [], hp r27.2, c + 1 + 0 + 0, z + 6 + 0 + 0)) 3 rfl ?_
      refine T_loc (ls' := [(4, .inl ((x4 + (5 : Int32)))), (3, .inr (.inr (161))), (2, .inr (.inr (122))), (1, .inr (.inr (2))), (0, .inr (.inr (1)))]) [0, 3, 4, 5, 6] rfl ?_
      exact ih (x4 + (5 : Int32)) r27.2 (c + 1 + 0 + 0) (z + 6 + 0 + 0) (by omega) (by omega)
    · refine T_go (S' := (729, [(6, .inl (r26.1)), (5, .inl (r25.1)), (4, .inl (x4)), (3, .inr (.inr (161))), (2, .inr (.inr (122))), (1, .inr (.inr (2))), (0, .inr (.inr (1)))], [.inl ((0 : Int32)), .inr (.inr (161))], hp r27.2, c + 1 + 0 + 0, z + 6 + 0 + 0)) 2 rfl ?_
      refine TL_lald rfl (fun _ => ?_)
      refine T_go (S' := (734, [(6, .inl (r26.1)), (5, .inl (r25.1)), (4, .inl (x4)), (3, .inr (.inr (161))), (2, .inr (.inr (122))), (1, .inr (.inr (2))), (0, .inr (.inr (1)))], [.inl ((lg_cmp (r27.2.2 161 (0 : Int32).toNatClampNeg) r26.1.toInt64))], hp r27.2, c + 1 + 0 + 0, z + 6 + 0 + 0)) 3 rfl ?_
      refine TL_if_eq 739 rfl rfl (fun _ => ?_) (fun _ => ?_)
      · refine T_go (S' := (23, [(4, .inl ((x4 + (5 : Int32)))), (6, .inl (r26.1)), (5, .inl (r25.1)), (3, .inr (.inr (161))), (2, .inr (.inr (122))), (1, .inr (.inr (2))), (0, .inr (.inr (1)))], [], hp r27.2, c + 1 + 0 + 0, z + 6 + 0 + 0)) 3 rfl ?_
        refine T_loc (ls' := [(4, .inl ((x4 + (5 : Int32)))), (3, .inr (.inr (161))), (2, .inr (.inr (122))), (1, .inr (.inr (2))), (0, .inr (.inr (1)))]) [0, 3, 4, 5, 6] rfl ?_
        exact ih (x4 + (5 : Int32)) r27.2 (c + 1 + 0 + 0) (z + 6 + 0 + 0) (by omega) (by omega)
      · refine T_go (S' := (738, [(6, .inl (r26.1)), (5, .inl (r25.1)), (4, .inl (x4)), (3, .inr (.inr (161))), (2, .inr (.inr (122))), (1, .inr (.inr (2))), (0, .inr (.inr (1)))], [.inl ((0 : Int32))], hp r27.2, c + 1 + 0 + 0, z + 6 + 0 + 0)) 1 rfl ?_
        exact T_chkr rfl
  · refine T_go (S' := (721, [(6, .inl (r26.1)), (5, .inl (r25.1)), (4, .inl (x4)), (3, .inr (.inr (161))), (2, .inr (.inr (122))), (1, .inr (.inr (2))), (0, .inr (.inr (1)))], [.inl ((0 : Int32))], hp r27.2, c + 1 + 0 + 0, z + 6 + 0 + 0)) 1 rfl ?_
    exact T_chkr rfl
theorem s_law_8 (N : Nat) (xs : Nat → Int32) (rec : Int32 → eMem → Option (Int32 × eMem)) (C Z : Nat) (ih : ∀ (x4 : Int32) (σ : eMem) (c z : Nat), c ≤ C → z ≤ Z → Snd false (some (N, xs)) 23 m_L_law (rec x4 σ) (cN iI) (23, [(4, .inl (x4)), (3, .inr (.inr (161))), (2, .inr (.inr (122))), (1, .inr (.inr (2))), (0, .inr (.inr (1)))], [], hp σ, c, z)) (x4 : Int32) (σ : eMem) (c z : Nat) (hc : c + 10 ≤ C) (hz : z + 100 ≤ Z) (hC : C ≤ 601024) (hZ : Z ≤ 7293034) : Snd false (some (N, xs)) 23 m_L_law (f_law_8 N xs rec x4 σ) (cN iI) (686, [(4, .inl (x4)), (3, .inr (.inr (161))), (2, .inr (.inr (122))), (1, .inr (.inr (2))), (0, .inr (.inr (1)))], [], hp σ, c, z) :=
  Snd_8_b (sk_law_8 N xs rec C Z (fun x4 σ c z h1 h2 => Snd_8 (ih x4 σ c z h1 h2)) x4 σ c z hc hz hC hZ)

set_option maxHeartbeats 40000000 in
set_option maxRecDepth 20000 in
theorem sk_law_9 (N : Nat) (xs : Nat → Int32) (rec : Int32 → eMem → Option (Int32 × eMem)) (C Z : Nat) (ih : ∀ (x4 : Int32) (σ : eMem) (c z : Nat), c ≤ C → z ≤ Z → Snd false (some (N, xs)) 23 m_Lk_9 (rec x4 σ) (cN iI) (23, [(4, .inl (x4)), (3, .inr (.inr (161))), (2, .inr (.inr (122))), (1, .inr (.inr (2))), (0, .inr (.inr (1)))], [], hp σ, c, z)) (x4 : Int32) (σ : eMem) (c z : Nat) (hc : c + 10 ≤ C) (hz : z + 100 ≤ Z) (hC : C ≤ 601024) (hZ : Z ≤ 7293034) : Snd false (some (N, xs)) 23 m_Lk_9 (f_law_9 N xs rec x4 σ) (cN iI) (742, [(4, .inl (x4)), (3, .inr (.inr (161))), (2, .inr (.inr (122))), (1, .inr (.inr (2))), (0, .inr (.inr (1)))], [], hp σ, c, z) := by
  unfold f_law_9
  refine T_go (S' := (748, [(4, .inl (x4)), (3, .inr (.inr (161))), (2, .inr (.inr (122))), (1, .inr (.inr (2))), (0, .inr (.inr (1)))], [.inl ((x4 + (1 : Int32))), .inr (.inr (1)), .inr (.inr (2))], hp σ, c, z)) 5 rfl ?_
  refine TL_iald rfl (fun _ => ?_)
  refine T_go (S' := (754, [(4, .inl (x4)), (3, .inr (.inr (161))), (2, .inr (.inr (122))), (1, .inr (.inr (2))), (0, .inr (.inr (1)))], [.inl ((x4 + (2 : Int32))), .inr (.inr (1)), .inl ((xs (x4 + (1 : Int32)).toNatClampNeg)), .inr (.inr (2))], hp σ, c, z)) 4 rfl ?_
  refine TL_iald rfl (fun _ => ?_)
  refine T_go (S' := (756, [(4, .inl (x4)), (3, .inr (.inr (161))), (2, .inr (.inr (122))), (1, .inr (.inr (2))), (0, .inr (.inr (1)))], [.inr (.inr (161)), .inl ((xs (x4 + (2 : Int32)).toNatClampNeg)), .inl ((xs (x4 + (1 : Int32)).toNatClampNeg)), .inr (.inr (2))], hp σ, c, z)) 1 rfl ?_
  refine TL_cs (i := iI) (as := [.inr (.inr (2)), .inl ((xs (x4 + (1 : Int32)).toNatClampNeg)), .inl ((xs (x4 + (2 : Int32)).toNatClampNeg)), .inr (.inr (161))]) (rest := []) (st := [.inr (.inr (161)), .inl ((xs (x4 + (2 : Int32)).toNatClampNeg)), .inl ((xs (x4 + (1 : Int32)).toNatClampNeg)), .inr (.inr (2))]) rfl (lb rfl) rfl rfl ⟨by omega, by omega, lb rfl, lb rfl⟩ (fun _ h => Ew_le (lb rfl) (s_L_queued 2 (xs (x4 + (1 : Int32)).toNatClampNeg) (xs (x4 + (2 : Int32)).toNatClampNeg) 161 σ _ h)) (fun r28 => ?_)
  show Snd false (some (N, xs)) _ _ _ (cN iI) (759, [(4, .inl (x4)), (3, .inr (.inr (161))), (2, .inr (.inr (122))), (1, .inr (.inr (2))), (0, .inr (.inr (1)))], [.inl (r28.1)], hp r28.2, c + 2, z + 12)
  refine T_go (S' := (767, [(5, .inl (r28.1)), (4, .inl (x4)), (3, .inr (.inr (161))), (2, .inr (.inr (122))), (1, .inr (.inr (2))), (0, .inr (.inr (1)))], [.inl ((x4 + (1 : Int32))), .inr (.inr (1)), .inr (.inr (122))], hp r28.2, c + 2, z + 12)) 6 rfl ?_
  refine TL_iald rfl (fun _ => ?_)
  refine T_go (S' := (773, [(5, .inl (r28.1)), (4, .inl (x4)), (3, .inr (.inr (161))), (2, .inr (.inr (122))), (1, .inr (.inr (2))), (0, .inr (.inr (1)))], [.inl ((x4 + (2 : Int32))), .inr (.inr (1)), .inl ((xs (x4 + (1 : Int32)).toNatClampNeg)), .inr (.inr (122))], hp r28.2, c + 2, z + 12)) 4 rfl ?_
  refine TL_iald rfl (fun _ => ?_)
  refine TL_cv (i := iI) (as := [.inr (.inr (122)), .inl ((xs (x4 + (1 : Int32)).toNatClampNeg)), .inl ((xs (x4 + (2 : Int32)).toNatClampNeg))]) (rest := []) (st := [.inl ((xs (x4 + (2 : Int32)).toNatClampNeg)), .inl ((xs (x4 + (1 : Int32)).toNatClampNeg)), .inr (.inr (122))]) rfl rfl rfl ⟨by omega, by omega, lb rfl, lb rfl⟩ (fun _ h => Ew_le (lb rfl) (s_X12_queued 122 (xs (x4 + (1 : Int32)).toNatClampNeg) (xs (x4 + (2 : Int32)).toNatClampNeg) r28.2 _ h)) (fun _ r29 => ?_)
  show Snd false (some (N, xs)) _ _ _ (cN iI) (777, [(5, .inl (r28.1)), (4, .inl (x4)), (3, .inr (.inr (161))), (2, .inr (.inr (122))), (1, .inr (.inr (2))), (0, .inr (.inr (1)))], [.inl (r29.1)], hp r29.2, c + 2 + 0, z + 12 + 0)
  refine T_go (S' := (780, [(6, .inl (r29.1)), (5, .inl (r28.1)), (4, .inl (x4)), (3, .inr (.inr (161))), (2, .inr (.inr (122))), (1, .inr (.inr (2))), (0, .inr (.inr (1)))], [.inr (.inr (122))], hp r29.2, c + 2 + 0, z + 12 + 0)) 2 rfl ?_
  refine TL_cv (i := iI) (as := [.inr (.inr (122))]) (rest := []) (st := [.inr (.inr (122))]) rfl rfl rfl ⟨by omega, by omega, lb rfl, lb rfl⟩ (fun _ h => Ew_le (lb rfl) (s_X12_thrown 122 r29.2 _ h)) (fun _ r30 => ?_)
  show Snd false (some (N, xs)) _ _ _ (cN iI) (783, [(6, .inl (r29.1)), (5, .inl (r28.1)), (4, .inl (x4)), (3, .inr (.inr (161))), (2, .inr (.inr (122))), (1, .inr (.inr (2))), (0, .inr (.inr (1)))], [.inl (r30.1)], hp r30.2, c + 2 + 0 + 0, z + 12 + 0 + 0)
  refine T_go (S' := (785, [(6, .inl (r29.1)), (5, .inl (r28.1)), (4, .inl (x4)), (3, .inr (.inr (161))), (2, .inr (.inr (122))), (1, .inr (.inr (2))), (0, .inr (.inr (1)))], [.inl (r28.1), .inl (r30.1)], hp r30.2, c + 2 + 0 + 0, z + 12 + 0 + 0)) 1 rfl ?_
  refine TL_icmp_eq 790 rfl rfl (fun _ => ?_) (fun _ => ?_)
  · refine T_go (S' := (792, [(6, .inl (r29.1)), (5, .inl (r28.1)), (4, .inl (x4)), (3, .inr (.inr (161))), (2, .inr (.inr (122))), (1, .inr (.inr (2))), (0, .inr (.inr (1)))], [.inl (r28.1)], hp r30.2, c + 2 + 0 + 0, z + 12 + 0 + 0)) 1 rfl ?_
    refine TL_if_ne 807 rfl rfl (fun _ => ?_) (fun _ => ?_)
    · refine T_go (S' := (23, [(4, .inl ((x4 + (5 : Int32)))), (6, .inl (r29.1)), (5, .inl (r28.1)), (3, .inr (.inr (161))), (2, .inr (.inr (122))), (1, .inr (.inr (2))), (0, .inr (.inr (1)))], [], hp r30.2, c + 2 + 0 + 0, z + 12 + 0 + 0)) 3 rfl ?_
      refine T_loc (ls' := [(4, .inl ((x4 + (5 : Int32)))), (3, .inr (.inr (161))), (2, .inr (.inr (122))), (1, .inr (.inr (2))), (0, .inr (.inr (1)))]) [0, 3, 4, 5, 6] rfl ?_
      exact ih (x4 + (5 : Int32)) r30.2 (c + 2 + 0 + 0) (z + 12 + 0 + 0) (by omega) (by omega)
    · refine T_go (S' := (797, [(6, .inl (r29.1)), (5, .inl (r28.1)), (4, .inl (x4)), (3, .inr (.inr (161))), (2, .inr (.inr (122))), (1, .inr (.inr (2))), (0, .inr (.inr (1)))], [.inl ((0 : Int32)), .inr (.inr (161))], hp r30.2, c + 2 + 0 + 0, z + 12 + 0 + 0)) 2 rfl ?_
      refine TL_lald rfl (fun _ => ?_)
      refine T_go (S' := (802, [(6, .inl (r29.1)), (5, .inl (r28.1)), (4, .inl (x4)), (3, .inr (.inr (161))), (2, .inr (.inr (122))), (1, .inr (.inr (2))), (0, .inr (.inr (1)))], [.inl ((lg_cmp (r30.2.2 161 (0 : Int32).toNatClampNeg) r29.1.toInt64))], hp r30.2, c + 2 + 0 + 0, z + 12 + 0 + 0)) 3 rfl ?_
      refine TL_if_eq 807 rfl rfl (fun _ => ?_) (fun _ => ?_)
      · refine T_go (S' := (23, [(4, .inl ((x4 + (5 : Int32)))), (6, .inl (r29.1)), (5, .inl (r28.1)), (3, .inr (.inr (161))), (2, .inr (.inr (122))), (1, .inr (.inr (2))), (0, .inr (.inr (1)))], [], hp r30.2, c + 2 + 0 + 0, z + 12 + 0 + 0)) 3 rfl ?_
        refine T_loc (ls' := [(4, .inl ((x4 + (5 : Int32)))), (3, .inr (.inr (161))), (2, .inr (.inr (122))), (1, .inr (.inr (2))), (0, .inr (.inr (1)))]) [0, 3, 4, 5, 6] rfl ?_
        exact ih (x4 + (5 : Int32)) r30.2 (c + 2 + 0 + 0) (z + 12 + 0 + 0) (by omega) (by omega)
      · refine T_go (S' := (806, [(6, .inl (r29.1)), (5, .inl (r28.1)), (4, .inl (x4)), (3, .inr (.inr (161))), (2, .inr (.inr (122))), (1, .inr (.inr (2))), (0, .inr (.inr (1)))], [.inl ((0 : Int32))], hp r30.2, c + 2 + 0 + 0, z + 12 + 0 + 0)) 1 rfl ?_
        exact T_chkr rfl
  · refine T_go (S' := (789, [(6, .inl (r29.1)), (5, .inl (r28.1)), (4, .inl (x4)), (3, .inr (.inr (161))), (2, .inr (.inr (122))), (1, .inr (.inr (2))), (0, .inr (.inr (1)))], [.inl ((0 : Int32))], hp r30.2, c + 2 + 0 + 0, z + 12 + 0 + 0)) 1 rfl ?_
    exact T_chkr rfl
theorem s_law_9 (N : Nat) (xs : Nat → Int32) (rec : Int32 → eMem → Option (Int32 × eMem)) (C Z : Nat) (ih : ∀ (x4 : Int32) (σ : eMem) (c z : Nat), c ≤ C → z ≤ Z → Snd false (some (N, xs)) 23 m_L_law (rec x4 σ) (cN iI) (23, [(4, .inl (x4)), (3, .inr (.inr (161))), (2, .inr (.inr (122))), (1, .inr (.inr (2))), (0, .inr (.inr (1)))], [], hp σ, c, z)) (x4 : Int32) (σ : eMem) (c z : Nat) (hc : c + 10 ≤ C) (hz : z + 100 ≤ Z) (hC : C ≤ 601024) (hZ : Z ≤ 7293034) : Snd false (some (N, xs)) 23 m_L_law (f_law_9 N xs rec x4 σ) (cN iI) (742, [(4, .inl (x4)), (3, .inr (.inr (161))), (2, .inr (.inr (122))), (1, .inr (.inr (2))), (0, .inr (.inr (1)))], [], hp σ, c, z) :=
  Snd_9_b (sk_law_9 N xs rec C Z (fun x4 σ c z h1 h2 => Snd_9 (ih x4 σ c z h1 h2)) x4 σ c z hc hz hC hZ)
