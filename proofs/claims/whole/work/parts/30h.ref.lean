/-! what the methods do -/
def f_X12_seenBy_101 (x6 : Int32) (σ : eMem) : Option (Int32 × eMem) :=
  some (x6, σ)
set_option maxHeartbeats 4000000 in
set_option maxRecDepth 20000 in
theorem s_X12_seenBy_101 (x6 : Int32) (σ : eMem) : Snd false none 1 m_X12_seenBy (f_X12_seenBy_101 x6 σ) (cN iI) (101, [(6, .inl (x6))], [], hp σ, 0, 0) := by
  unfold f_X12_seenBy_101
  refine T_go (S' := (103, [(6, .inl (x6))], [.inl (x6)], hp σ, 0, 0)) 1 rfl ?_
  exact T_ret rfl
def f_X12_seenBy_L46 : Nat → (Nat × Int32 × Int32 × Int32 × Int32 × Int32 × Int32 × Int32 ⊕ (Nat × Int32 × Int32 × Int32 × Int32 × Int32 × Int32 × Int32)) → eMem → Option (Int32 × eMem)
  | 0, _, _ => none
  | n + 1, .inl (x0, x3, x4, x5, x6, x7, x8, x9), σ =>
    if x8 ≤ x9 then
      f_X12_seenBy_101 x6 σ
    else
      if x5 = (0 : Int32) then
        f_X12_seenBy_101 x6 σ
      else
        if (KH x0).1 = 10 then
          Option.bind (f_X12_storeAt x0 x3 x7 x9 σ) (fun r1 =>
            if (KH x0).1 = 10 then
              if (KH (RH x0 35)).1 = 11 ∧ eix r1.1 (KH (RH x0 35)).2 = true then
                if ¬ (r1.2.1 (RH x0 35) r1.1.toNatClampNeg) = x4 then
                  f_X12_seenBy_L46 n (.inr ((x0, x3, x4, x5, x7, x8, x9, x6))) r1.2
                else
                  if (KH x0).1 = 10 then
                    if (KH (RH x0 36)).1 = 11 ∧ eix r1.1 (KH (RH x0 36)).2 = true then
                      f_X12_seenBy_L46 n (.inr ((x0, x3, x4, x5, x7, x8, x9, (r1.2.1 (RH x0 36) r1.1.toNatClampNeg)))) r1.2
                    else none
                  else none
              else none
            else none
            )
        else none
  | n + 1, .inr ((x0, x3, x4, x5, x7, x8, x9, s0)), σ =>
    f_X12_seenBy_L46 n (.inl (x0, x3, x4, x5, s0, x7, x8, (x9 + (1 : Int32)))) σ
set_option maxHeartbeats 4000000 in
set_option maxRecDepth 20000 in
theorem s_X12_seenBy_L46 : ∀ (n : Nat), (∀ (x0 : Nat) (x3 : Int32) (x4 : Int32) (x5 : Int32) (x6 : Int32) (x7 : Int32) (x8 : Int32) (x9 : Int32) (σ : eMem), Snd false none 1 m_X12_seenBy (f_X12_seenBy_L46 n (.inl (x0, x3, x4, x5, x6, x7, x8, x9)) σ) (cN iI) (46, [(0, .inr (.inr (x0))), (3, .inl (x3)), (4, .inl (x4)), (5, .inl (x5)), (6, .inl (x6)), (7, .inl (x7)), (8, .inl (x8)), (9, .inl (x9))], [], hp σ, 0, 0)) ∧ (∀ (x0 : Nat) (x3 : Int32) (x4 : Int32) (x5 : Int32) (x7 : Int32) (x8 : Int32) (x9 : Int32) (s0 : Int32) (σ : eMem), Snd false none 1 m_X12_seenBy (f_X12_seenBy_L46 n (.inr ((x0, x3, x4, x5, x7, x8, x9, s0))) σ) (cN iI) (93, [(0, .inr (.inr (x0))), (3, .inl (x3)), (4, .inl (x4)), (5, .inl (x5)), (7, .inl (x7)), (8, .inl (x8)), (9, .inl (x9))], [.inl (s0)], hp σ, 0, 0)) := by
  intro n
  induction n with
  | zero => exact ⟨fun _ _ _ _ _ _ _ _ _ => T_none, fun _ _ _ _ _ _ _ _ _ => T_none⟩
  | succ n ih =>
    refine ⟨?_, ?_⟩
    · intro x0 x3 x4 x5 x6 x7 x8 x9 σ
      unfold f_X12_seenBy_L46
      refine T_go (S' := (50, [(0, .inr (.inr (x0))), (3, .inl (x3)), (4, .inl (x4)), (5, .inl (x5)), (6, .inl (x6)), (7, .inl (x7)), (8, .inl (x8)), (9, .inl (x9))], [.inl (x8), .inl (x9)], hp σ, 0, 0)) 2 rfl ?_
      refine T_icmp_ge 101 rfl rfl (fun _ => ?_) (fun _ => ?_)
      · refine T_loc (ls' := [(6, .inl (x6))]) [4] rfl ?_
        exact s_X12_seenBy_101 x6 σ
      · refine T_go (S' := (55, [(0, .inr (.inr (x0))), (3, .inl (x3)), (4, .inl (x4)), (5, .inl (x5)), (6, .inl (x6)), (7, .inl (x7)), (8, .inl (x8)), (9, .inl (x9))], [.inl (x5)], hp σ, 0, 0)) 1 rfl ?_
        refine T_if_eq 101 rfl rfl (fun _ => ?_) (fun _ => ?_)
        · refine T_loc (ls' := [(6, .inl (x6))]) [4] rfl ?_
          exact s_X12_seenBy_101 x6 σ
        · refine T_go (S' := (64, [(0, .inr (.inr (x0))), (3, .inl (x3)), (4, .inl (x4)), (5, .inl (x5)), (6, .inl (x6)), (7, .inl (x7)), (8, .inl (x8)), (9, .inl (x9))], [.inl (x9), .inl (x7), .inl (x3), .inr (.inr (x0))], hp σ, 0, 0)) 4 rfl ?_
          refine T_cv (i := iI) (as := [.inr (.inr (x0)), .inl (x3), .inl (x7), .inl (x9)]) (rest := []) (st := [.inl (x9), .inl (x7), .inl (x3), .inr (.inr (x0))]) rfl rfl rfl ⟨lb rfl, lb rfl, lb rfl, lb rfl⟩ (fun _ h => Ew_le (lb rfl) (s_X12_storeAt x0 x3 x7 x9 σ _ h)) (fun _ r1 => ?_)
          show Snd false none _ _ _ (cN iI) (67, [(0, .inr (.inr (x0))), (3, .inl (x3)), (4, .inl (x4)), (5, .inl (x5)), (6, .inl (x6)), (7, .inl (x7)), (8, .inl (x8)), (9, .inl (x9))], [.inl (r1.1)], hp r1.2, 0, 0)
          refine T_go (S' := (70, [(10, .inl (r1.1)), (0, .inr (.inr (x0))), (3, .inl (x3)), (4, .inl (x4)), (5, .inl (x5)), (6, .inl (x6)), (7, .inl (x7)), (8, .inl (x8)), (9, .inl (x9))], [.inr (.inr (x0))], hp r1.2, 0, 0)) 2 rfl ?_
          refine T_getR rfl (fun _ => ?_)
          refine T_go (S' := (75, [(10, .inl (r1.1)), (0, .inr (.inr (x0))), (3, .inl (x3)), (4, .inl (x4)), (5, .inl (x5)), (6, .inl (x6)), (7, .inl (x7)), (8, .inl (x8)), (9, .inl (x9))], [.inl (r1.1), .inr (.inr ((RH x0 35)))], hp r1.2, 0, 0)) 1 rfl ?_
          refine T_iald rfl (fun _ => ?_)
          refine T_go (S' := (78, [(10, .inl (r1.1)), (0, .inr (.inr (x0))), (3, .inl (x3)), (4, .inl (x4)), (5, .inl (x5)), (6, .inl (x6)), (7, .inl (x7)), (8, .inl (x8)), (9, .inl (x9))], [.inl (x4), .inl ((r1.2.1 (RH x0 35) r1.1.toNatClampNeg))], hp r1.2, 0, 0)) 1 rfl ?_
          refine T_icmp_ne 91 rfl rfl (fun _ => ?_) (fun _ => ?_)
          · refine T_go (S' := (93, [(10, .inl (r1.1)), (0, .inr (.inr (x0))), (3, .inl (x3)), (4, .inl (x4)), (5, .inl (x5)), (6, .inl (x6)), (7, .inl (x7)), (8, .inl (x8)), (9, .inl (x9))], [.inl (x6)], hp r1.2, 0, 0)) 1 rfl ?_
            refine T_loc (ls' := [(0, .inr (.inr (x0))), (3, .inl (x3)), (4, .inl (x4)), (5, .inl (x5)), (7, .inl (x7)), (8, .inl (x8)), (9, .inl (x9))]) [1, 2, 3, 4, 6, 7, 8] rfl ?_
            exact (ih.2) x0 x3 x4 x5 x7 x8 x9 x6 r1.2
          · refine T_go (S' := (82, [(10, .inl (r1.1)), (0, .inr (.inr (x0))), (3, .inl (x3)), (4, .inl (x4)), (5, .inl (x5)), (6, .inl (x6)), (7, .inl (x7)), (8, .inl (x8)), (9, .inl (x9))], [.inr (.inr (x0))], hp r1.2, 0, 0)) 1 rfl ?_
            refine T_getR rfl (fun _ => ?_)
            refine T_go (S' := (87, [(10, .inl (r1.1)), (0, .inr (.inr (x0))), (3, .inl (x3)), (4, .inl (x4)), (5, .inl (x5)), (6, .inl (x6)), (7, .inl (x7)), (8, .inl (x8)), (9, .inl (x9))], [.inl (r1.1), .inr (.inr ((RH x0 36)))], hp r1.2, 0, 0)) 1 rfl ?_
            refine T_iald rfl (fun _ => ?_)
            refine T_go (S' := (93, [(10, .inl (r1.1)), (0, .inr (.inr (x0))), (3, .inl (x3)), (4, .inl (x4)), (5, .inl (x5)), (6, .inl (x6)), (7, .inl (x7)), (8, .inl (x8)), (9, .inl (x9))], [.inl ((r1.2.1 (RH x0 36) r1.1.toNatClampNeg))], hp r1.2, 0, 0)) 1 rfl ?_
            refine T_loc (ls' := [(0, .inr (.inr (x0))), (3, .inl (x3)), (4, .inl (x4)), (5, .inl (x5)), (7, .inl (x7)), (8, .inl (x8)), (9, .inl (x9))]) [1, 2, 3, 4, 6, 7, 8] rfl ?_
            exact (ih.2) x0 x3 x4 x5 x7 x8 x9 (r1.2.1 (RH x0 36) r1.1.toNatClampNeg) r1.2
    · intro x0 x3 x4 x5 x7 x8 x9 s0 σ
      unfold f_X12_seenBy_L46
      refine T_go (S' := (46, [(9, .inl ((x9 + (1 : Int32)))), (6, .inl (s0)), (0, .inr (.inr (x0))), (3, .inl (x3)), (4, .inl (x4)), (5, .inl (x5)), (7, .inl (x7)), (8, .inl (x8))], [], hp σ, 0, 0)) 3 rfl ?_
      refine T_loc (ls' := [(0, .inr (.inr (x0))), (3, .inl (x3)), (4, .inl (x4)), (5, .inl (x5)), (6, .inl (s0)), (7, .inl (x7)), (8, .inl (x8)), (9, .inl ((x9 + (1 : Int32))))]) [2, 3, 4, 5, 1, 6, 7, 0] rfl ?_
      exact (ih.1) x0 x3 x4 x5 s0 x7 x8 (x9 + (1 : Int32)) σ
def f_X12_seenBy (x0 : Nat) (x1 : Int64) (x3 : Int32) (x4 : Int32) (x5 : Int32) (σ : eMem) : Option (Int32 × eMem) :=
  Option.bind (f_X12_part x1 ((18 : Int32) + ((4 : Int32) * x4)) (4 : Int32) σ) (fun r1 =>
    Option.bind (f_X12_part x1 ((3 : Int32) * x3) (3 : Int32) r1.2) (fun r2 =>
      if (KH x0).1 = 10 then
        Option.bind (f_X12_storesOf x0 x3 r2.1 r2.2) (fun r3 =>
          Option.bind (f_X12_part x1 ((9 : Int32) + ((3 : Int32) * x3)) (3 : Int32) r3.2) (fun r4 =>
            f_X12_seenBy_L46 1000000 (.inl (x0, x3, x4, x5, r1.1, r2.1, r3.1, r4.1)) r4.2
            )
          )
      else none
      )
    )
set_option maxHeartbeats 4000000 in
set_option maxRecDepth 20000 in
theorem s_X12_seenBy (x0 : Nat) (x1 : Int64) (x3 : Int32) (x4 : Int32) (x5 : Int32) (σ : eMem) : ∀ r, f_X12_seenBy x0 x1 x3 x4 x5 σ = some r → Ew false 2 196 [.inr (.inr (x0)), .inr (.inl (x1)), .inl (x3), .inl (x4), .inl (x5)] (hp σ) (cN iI r) := by
  refine T_meth (md := m_X12_seenBy) (d0 := 1) (cv := (cN iI)) rfl (lb rfl) (lb rfl) ?_
  unfold f_X12_seenBy
  show Snd false none _ _ _ _ (0, [(0, .inr (.inr (x0))), (1, .inr (.inl (x1))), (3, .inl (x3)), (4, .inl (x4)), (5, .inl (x5))], [], hp σ, 0, 0)
  refine T_go (S' := (9, [(0, .inr (.inr (x0))), (1, .inr (.inl (x1))), (3, .inl (x3)), (4, .inl (x4)), (5, .inl (x5))], [.inl ((4 : Int32)), .inl (((18 : Int32) + ((4 : Int32) * x4))), .inr (.inl (x1))], hp σ, 0, 0)) 7 rfl ?_
  refine T_cs (i := iI) (as := [.inr (.inl (x1)), .inl (((18 : Int32) + ((4 : Int32) * x4))), .inl ((4 : Int32))]) (rest := []) (st := [.inl ((4 : Int32)), .inl (((18 : Int32) + ((4 : Int32) * x4))), .inr (.inl (x1))]) rfl (lb rfl) rfl rfl ⟨lb rfl, lb rfl, lb rfl, lb rfl⟩ (fun _ h => Ew_le (lb rfl) (s_X12_part x1 ((18 : Int32) + ((4 : Int32) * x4)) (4 : Int32) σ _ h)) (fun r1 => ?_)
  show Snd false none _ _ _ (cN iI) (12, [(0, .inr (.inr (x0))), (1, .inr (.inl (x1))), (3, .inl (x3)), (4, .inl (x4)), (5, .inl (x5))], [.inl (r1.1)], hp r1.2, 0, 0)
  refine T_go (S' := (19, [(6, .inl (r1.1)), (0, .inr (.inr (x0))), (1, .inr (.inl (x1))), (3, .inl (x3)), (4, .inl (x4)), (5, .inl (x5))], [.inl ((3 : Int32)), .inl (((3 : Int32) * x3)), .inr (.inl (x1))], hp r1.2, 0, 0)) 6 rfl ?_
  refine T_cs (i := iI) (as := [.inr (.inl (x1)), .inl (((3 : Int32) * x3)), .inl ((3 : Int32))]) (rest := []) (st := [.inl ((3 : Int32)), .inl (((3 : Int32) * x3)), .inr (.inl (x1))]) rfl (lb rfl) rfl rfl ⟨lb rfl, lb rfl, lb rfl, lb rfl⟩ (fun _ h => Ew_le (lb rfl) (s_X12_part x1 ((3 : Int32) * x3) (3 : Int32) r1.2 _ h)) (fun r2 => ?_)
  show Snd false none _ _ _ (cN iI) (22, [(6, .inl (r1.1)), (0, .inr (.inr (x0))), (1, .inr (.inl (x1))), (3, .inl (x3)), (4, .inl (x4)), (5, .inl (x5))], [.inl (r2.1)], hp r2.2, 0, 0)
  refine T_go (S' := (28, [(7, .inl (r2.1)), (6, .inl (r1.1)), (0, .inr (.inr (x0))), (1, .inr (.inl (x1))), (3, .inl (x3)), (4, .inl (x4)), (5, .inl (x5))], [.inl (r2.1), .inl (x3), .inr (.inr (x0))], hp r2.2, 0, 0)) 4 rfl ?_
  refine T_cv (i := iI) (as := [.inr (.inr (x0)), .inl (x3), .inl (r2.1)]) (rest := []) (st := [.inl (r2.1), .inl (x3), .inr (.inr (x0))]) rfl rfl rfl ⟨lb rfl, lb rfl, lb rfl, lb rfl⟩ (fun _ h => Ew_le (lb rfl) (s_X12_storesOf x0 x3 r2.1 r2.2 _ h)) (fun _ r3 => ?_)
  show Snd false none _ _ _ (cN iI) (31, [(7, .inl (r2.1)), (6, .inl (r1.1)), (0, .inr (.inr (x0))), (1, .inr (.inl (x1))), (3, .inl (x3)), (4, .inl (x4)), (5, .inl (x5))], [.inl (r3.1)], hp r3.2, 0, 0)
  refine T_go (S' := (41, [(8, .inl (r3.1)), (7, .inl (r2.1)), (6, .inl (r1.1)), (0, .inr (.inr (x0))), (1, .inr (.inl (x1))), (3, .inl (x3)), (4, .inl (x4)), (5, .inl (x5))], [.inl ((3 : Int32)), .inl (((9 : Int32) + ((3 : Int32) * x3))), .inr (.inl (x1))], hp r3.2, 0, 0)) 8 rfl ?_
  refine T_cs (i := iI) (as := [.inr (.inl (x1)), .inl (((9 : Int32) + ((3 : Int32) * x3))), .inl ((3 : Int32))]) (rest := []) (st := [.inl ((3 : Int32)), .inl (((9 : Int32) + ((3 : Int32) * x3))), .inr (.inl (x1))]) rfl (lb rfl) rfl rfl ⟨lb rfl, lb rfl, lb rfl, lb rfl⟩ (fun _ h => Ew_le (lb rfl) (s_X12_part x1 ((9 : Int32) + ((3 : Int32) * x3)) (3 : Int32) r3.2 _ h)) (fun r4 => ?_)
  show Snd false none _ _ _ (cN iI) (44, [(8, .inl (r3.1)), (7, .inl (r2.1)), (6, .inl (r1.1)), (0, .inr (.inr (x0))), (1, .inr (.inl (x1))), (3, .inl (x3)), (4, .inl (x4)), (5, .inl (x5))], [.inl (r4.1)], hp r4.2, 0, 0)
  refine T_go (S' := (46, [(9, .inl (r4.1)), (8, .inl (r3.1)), (7, .inl (r2.1)), (6, .inl (r1.1)), (0, .inr (.inr (x0))), (1, .inr (.inl (x1))), (3, .inl (x3)), (4, .inl (x4)), (5, .inl (x5))], [], hp r4.2, 0, 0)) 1 rfl ?_
  refine T_loc (ls' := [(0, .inr (.inr (x0))), (3, .inl (x3)), (4, .inl (x4)), (5, .inl (x5)), (6, .inl (r1.1)), (7, .inl (r2.1)), (8, .inl (r3.1)), (9, .inl (r4.1))]) [4, 6, 7, 8, 3, 2, 1, 0] rfl ?_
  exact (s_X12_seenBy_L46 1000000).1 x0 x3 x4 x5 r1.1 r2.1 r3.1 r4.1 r4.2
def f_X12_stepsOn_370  (σ : eMem) : Option (Unit × eMem) :=
  some ((), σ)
set_option maxHeartbeats 4000000 in
set_option maxRecDepth 20000 in
theorem s_X12_stepsOn_370  (σ : eMem) : Snd false none 2 m_X12_stepsOn (f_X12_stepsOn_370 σ) (cN iU) (370, [], [], hp σ, 0, 0) := by
  unfold f_X12_stepsOn_370
  exact T_ret rfl
def f_X12_stepsOn_200 (s0 : Nat) (s1 : Int64) (σ : eMem) : Option (Unit × eMem) :=
  if (KH s0).1 = 10 then
    Option.bind (f_X12_piles s0 s1 σ) (fun r1 =>
      f_X12_stepsOn_370  r1.2
      )
  else none
set_option maxHeartbeats 4000000 in
set_option maxRecDepth 20000 in
theorem s_X12_stepsOn_200 (s0 : Nat) (s1 : Int64) (σ : eMem) : Snd false none 2 m_X12_stepsOn (f_X12_stepsOn_200 s0 s1 σ) (cN iU) (200, [], [.inr (.inl (s1)), .inr (.inr (s0))], hp σ, 0, 0) := by
  unfold f_X12_stepsOn_200
  refine T_cv (i := iU) (as := [.inr (.inr (s0)), .inr (.inl (s1))]) (rest := []) (st := [.inr (.inl (s1)), .inr (.inr (s0))]) rfl rfl rfl ⟨lb rfl, lb rfl, lb rfl, lb rfl⟩ (fun _ h => Ew_le (lb rfl) (s_X12_piles s0 s1 σ _ h)) (fun _ r1 => ?_)
  show Snd false none _ _ _ (cN iU) (203, [], [], hp r1.2, 0, 0)
  refine T_go (S' := (370, [], [], hp r1.2, 0, 0)) 1 rfl ?_
  refine T_loc (ls' := []) [] rfl ?_
  exact s_X12_stepsOn_370  r1.2
def f_X12_stepsOn_263 (s0 : Nat) (s1 : Int64) (s2 : Int32) (s3 : Int32) (s4 : Int32) (σ : eMem) : Option (Unit × eMem) :=
  Option.bind (f_X12_put s1 s2 s3 s4 σ) (fun r1 =>
    if (KH s0).1 = 10 then
      Option.bind (f_X12_piles s0 r1.1 r1.2) (fun r2 =>
        f_X12_stepsOn_370  r2.2
        )
    else none
    )
set_option maxHeartbeats 4000000 in
set_option maxRecDepth 20000 in
theorem s_X12_stepsOn_263 (s0 : Nat) (s1 : Int64) (s2 : Int32) (s3 : Int32) (s4 : Int32) (σ : eMem) : Snd false none 2 m_X12_stepsOn (f_X12_stepsOn_263 s0 s1 s2 s3 s4 σ) (cN iU) (263, [], [.inl (s4), .inl (s3), .inl (s2), .inr (.inl (s1)), .inr (.inr (s0))], hp σ, 0, 0) := by
  unfold f_X12_stepsOn_263
  refine T_cs (i := iJ) (as := [.inr (.inl (s1)), .inl (s2), .inl (s3), .inl (s4)]) (rest := [.inr (.inr (s0))]) (st := [.inl (s4), .inl (s3), .inl (s2), .inr (.inl (s1)), .inr (.inr (s0))]) rfl (lb rfl) rfl rfl ⟨lb rfl, lb rfl, lb rfl, lb rfl⟩ (fun _ h => Ew_le (lb rfl) (s_X12_put s1 s2 s3 s4 σ _ h)) (fun r1 => ?_)
  show Snd false none _ _ _ (cN iU) (266, [], [.inr (.inl (r1.1)), .inr (.inr (s0))], hp r1.2, 0, 0)
  refine T_cv (i := iU) (as := [.inr (.inr (s0)), .inr (.inl (r1.1))]) (rest := []) (st := [.inr (.inl (r1.1)), .inr (.inr (s0))]) rfl rfl rfl ⟨lb rfl, lb rfl, lb rfl, lb rfl⟩ (fun _ h => Ew_le (lb rfl) (s_X12_piles s0 r1.1 r1.2 _ h)) (fun _ r2 => ?_)
  show Snd false none _ _ _ (cN iU) (269, [], [], hp r2.2, 0, 0)
  refine T_go (S' := (370, [], [], hp r2.2, 0, 0)) 1 rfl ?_
  refine T_loc (ls' := []) [] rfl ?_
  exact s_X12_stepsOn_370  r2.2
def f_X12_stepsOn_364 (x0 : Nat) (x9 : Int64) (σ : eMem) : Option (Unit × eMem) :=
  if (KH x0).1 = 10 then
    Option.bind (f_X12_piles x0 x9 σ) (fun r1 =>
      f_X12_stepsOn_370  r1.2
      )
  else none
set_option maxHeartbeats 4000000 in
set_option maxRecDepth 20000 in
theorem s_X12_stepsOn_364 (x0 : Nat) (x9 : Int64) (σ : eMem) : Snd false none 2 m_X12_stepsOn (f_X12_stepsOn_364 x0 x9 σ) (cN iU) (364, [(0, .inr (.inr (x0))), (9, .inr (.inl (x9)))], [], hp σ, 0, 0) := by
  unfold f_X12_stepsOn_364
  refine T_go (S' := (367, [(0, .inr (.inr (x0))), (9, .inr (.inl (x9)))], [.inr (.inl (x9)), .inr (.inr (x0))], hp σ, 0, 0)) 2 rfl ?_
  refine T_cv (i := iU) (as := [.inr (.inr (x0)), .inr (.inl (x9))]) (rest := []) (st := [.inr (.inl (x9)), .inr (.inr (x0))]) rfl rfl rfl ⟨lb rfl, lb rfl, lb rfl, lb rfl⟩ (fun _ h => Ew_le (lb rfl) (s_X12_piles x0 x9 σ _ h)) (fun _ r1 => ?_)
  show Snd false none _ _ _ (cN iU) (370, [(0, .inr (.inr (x0))), (9, .inr (.inl (x9)))], [], hp r1.2, 0, 0)
  refine T_loc (ls' := []) [] rfl ?_
  exact s_X12_stepsOn_370  r1.2
def f_X12_stepsOn_359 (x0 : Nat) (s0 : Int64) (s1 : Int32) (s2 : Int32) (s3 : Int32) (σ : eMem) : Option (Unit × eMem) :=
  Option.bind (f_X12_put s0 s1 s2 s3 σ) (fun r1 =>
    f_X12_stepsOn_364 x0 r1.1 r1.2
    )
set_option maxHeartbeats 4000000 in
set_option maxRecDepth 20000 in
theorem s_X12_stepsOn_359 (x0 : Nat) (s0 : Int64) (s1 : Int32) (s2 : Int32) (s3 : Int32) (σ : eMem) : Snd false none 2 m_X12_stepsOn (f_X12_stepsOn_359 x0 s0 s1 s2 s3 σ) (cN iU) (359, [(0, .inr (.inr (x0)))], [.inl (s3), .inl (s2), .inl (s1), .inr (.inl (s0))], hp σ, 0, 0) := by
  unfold f_X12_stepsOn_359
  refine T_cs (i := iJ) (as := [.inr (.inl (s0)), .inl (s1), .inl (s2), .inl (s3)]) (rest := []) (st := [.inl (s3), .inl (s2), .inl (s1), .inr (.inl (s0))]) rfl (lb rfl) rfl rfl ⟨lb rfl, lb rfl, lb rfl, lb rfl⟩ (fun _ h => Ew_le (lb rfl) (s_X12_put s0 s1 s2 s3 σ _ h)) (fun r1 => ?_)
  show Snd false none _ _ _ (cN iU) (362, [(0, .inr (.inr (x0)))], [.inr (.inl (r1.1))], hp r1.2, 0, 0)
  refine T_go (S' := (364, [(9, .inr (.inl (r1.1))), (0, .inr (.inr (x0)))], [], hp r1.2, 0, 0)) 1 rfl ?_
  refine T_loc (ls' := [(0, .inr (.inr (x0))), (9, .inr (.inl (r1.1)))]) [1, 0] rfl ?_
  exact s_X12_stepsOn_364 x0 r1.1 r1.2
def f_X12_stepsOn_152 (x0 : Nat) (x1 : Int64) (x3 : Int32) (x4 : Int32) (x8 : Int32) (x9 : Int64) (s0 : Int32) (σ : eMem) : Option (Unit × eMem) :=
  if (KH x0).1 = 10 then
    if (KH (RH x0 34)).1 = 11 ∧ eix x8 (KH (RH x0 34)).2 = true then
      if ¬ (σ.1 (RH x0 34) x8.toNatClampNeg) = (0 : Int32) then
        if (KH x0).1 = 10 then
          if (KH (RH x0 34)).1 = 11 ∧ eix x8 (KH (RH x0 34)).2 = true then
            if ¬ (σ.1 (RH x0 34) x8.toNatClampNeg) = (1 : Int32) then
              if s0 = (0 : Int32) then
                f_X12_stepsOn_370  σ
              else
                if (KH x0).1 = 10 then
                  if (KH (RH x0 35)).1 = 11 ∧ eix x8 (KH (RH x0 35)).2 = true then
                    Option.bind (f_X12_part x1 ((18 : Int32) + ((4 : Int32) * (σ.1 (RH x0 35) x8.toNatClampNeg))) (4 : Int32) σ) (fun r1 =>
                      if (KH x0).1 = 10 then
                        if (KH (RH x0 34)).1 = 11 ∧ eix x8 (KH (RH x0 34)).2 = true then
                          if ¬ (r1.2.1 (RH x0 34) x8.toNatClampNeg) = (3 : Int32) then
                            f_X12_stepsOn_364 x0 x9 r1.2
                          else
                            if (KH x0).1 = 10 then
                              if (KH (RH x0 35)).1 = 11 ∧ eix x8 (KH (RH x0 35)).2 = true then
                                Option.bind (f_X12_put x9 ((18 : Int32) + ((4 : Int32) * (r1.2.1 (RH x0 35) x8.toNatClampNeg))) (4 : Int32) (r1.1 + (1 : Int32)) r1.2) (fun r2 =>
                                  if (KH x0).1 = 10 then
                                    Option.bind (f_X12_resultOf x0 x8 r2.2) (fun r3 =>
                                      if r1.1 ≤ (9 : Int32) then
                                        f_X12_stepsOn_359 x0 r2.1 ((30 : Int32) + ((4 : Int32) * r3.1)) (4 : Int32) r1.1 r3.2
                                      else
                                        f_X12_stepsOn_359 x0 r2.1 ((30 : Int32) + ((4 : Int32) * r3.1)) (4 : Int32) (9 : Int32) r3.2
                                      )
                                  else none
                                  )
                              else none
                            else none
                        else none
                      else none
                      )
                  else none
                else none
            else
              if (KH x0).1 = 10 then
                if (KH (RH x0 35)).1 = 11 ∧ eix x8 (KH (RH x0 35)).2 = true then
                  if (KH x0).1 = 10 then
                    Option.bind (f_X12_seenBy x0 x1 x3 (σ.1 (RH x0 35) x8.toNatClampNeg) x4 σ) (fun r4 =>
                      if (KH x0).1 = 10 then
                        Option.bind (f_X12_resultOf x0 x8 r4.2) (fun r5 =>
                          if r4.1 ≤ (9 : Int32) then
                            f_X12_stepsOn_263 x0 x9 ((30 : Int32) + ((4 : Int32) * r5.1)) (4 : Int32) r4.1 r5.2
                          else
                            f_X12_stepsOn_263 x0 x9 ((30 : Int32) + ((4 : Int32) * r5.1)) (4 : Int32) (9 : Int32) r5.2
                          )
                      else none
                      )
                  else none
                else none
              else none
          else none
        else none
      else
        if x4 = (0 : Int32) then
          if (KH x0).1 = 10 then
            if (KH (RH x0 35)).1 = 11 ∧ eix x8 (KH (RH x0 35)).2 = true then
              if (KH x0).1 = 10 then
                if (KH (RH x0 36)).1 = 11 ∧ eix x8 (KH (RH x0 36)).2 = true then
                  Option.bind (f_X12_put x9 ((18 : Int32) + ((4 : Int32) * (σ.1 (RH x0 35) x8.toNatClampNeg))) (4 : Int32) (σ.1 (RH x0 36) x8.toNatClampNeg) σ) (fun r6 =>
                    f_X12_stepsOn_200 x0 r6.1 r6.2
                    )
                else none
              else none
            else none
          else none
        else
          f_X12_stepsOn_200 x0 x9 σ
    else none
  else none
set_option maxHeartbeats 4000000 in
set_option maxRecDepth 20000 in
theorem s_X12_stepsOn_152 (x0 : Nat) (x1 : Int64) (x3 : Int32) (x4 : Int32) (x8 : Int32) (x9 : Int64) (s0 : Int32) (σ : eMem) : Snd false none 2 m_X12_stepsOn (f_X12_stepsOn_152 x0 x1 x3 x4 x8 x9 s0 σ) (cN iU) (152, [(0, .inr (.inr (x0))), (1, .inr (.inl (x1))), (3, .inl (x3)), (4, .inl (x4)), (8, .inl (x8)), (9, .inr (.inl (x9)))], [.inl (s0)], hp σ, 0, 0) := by
  unfold f_X12_stepsOn_152
  refine T_go (S' := (155, [(11, .inl (s0)), (0, .inr (.inr (x0))), (1, .inr (.inl (x1))), (3, .inl (x3)), (4, .inl (x4)), (8, .inl (x8)), (9, .inr (.inl (x9)))], [.inr (.inr (x0))], hp σ, 0, 0)) 2 rfl ?_
  refine T_getR rfl (fun _ => ?_)
  refine T_go (S' := (160, [(11, .inl (s0)), (0, .inr (.inr (x0))), (1, .inr (.inl (x1))), (3, .inl (x3)), (4, .inl (x4)), (8, .inl (x8)), (9, .inr (.inl (x9)))], [.inl (x8), .inr (.inr ((RH x0 34)))], hp σ, 0, 0)) 1 rfl ?_
  refine T_iald rfl (fun _ => ?_)
  refine T_if_ne 206 rfl rfl (fun _ => ?_) (fun _ => ?_)
  · refine T_go (S' := (207, [(11, .inl (s0)), (0, .inr (.inr (x0))), (1, .inr (.inl (x1))), (3, .inl (x3)), (4, .inl (x4)), (8, .inl (x8)), (9, .inr (.inl (x9)))], [.inr (.inr (x0))], hp σ, 0, 0)) 1 rfl ?_
    refine T_getR rfl (fun _ => ?_)
    refine T_go (S' := (212, [(11, .inl (s0)), (0, .inr (.inr (x0))), (1, .inr (.inl (x1))), (3, .inl (x3)), (4, .inl (x4)), (8, .inl (x8)), (9, .inr (.inl (x9)))], [.inl (x8), .inr (.inr ((RH x0 34)))], hp σ, 0, 0)) 1 rfl ?_
    refine T_iald rfl (fun _ => ?_)
    refine T_go (S' := (214, [(11, .inl (s0)), (0, .inr (.inr (x0))), (1, .inr (.inl (x1))), (3, .inl (x3)), (4, .inl (x4)), (8, .inl (x8)), (9, .inr (.inl (x9)))], [.inl ((1 : Int32)), .inl ((σ.1 (RH x0 34) x8.toNatClampNeg))], hp σ, 0, 0)) 1 rfl ?_
    refine T_icmp_ne 272 rfl rfl (fun _ => ?_) (fun _ => ?_)
    · refine T_go (S' := (274, [(11, .inl (s0)), (0, .inr (.inr (x0))), (1, .inr (.inl (x1))), (3, .inl (x3)), (4, .inl (x4)), (8, .inl (x8)), (9, .inr (.inl (x9)))], [.inl (s0)], hp σ, 0, 0)) 1 rfl ?_
      refine T_if_eq 370 rfl rfl (fun _ => ?_) (fun _ => ?_)
      · refine T_loc (ls' := []) [] rfl ?_
        exact s_X12_stepsOn_370  σ
      · refine T_go (S' := (282, [(11, .inl (s0)), (0, .inr (.inr (x0))), (1, .inr (.inl (x1))), (3, .inl (x3)), (4, .inl (x4)), (8, .inl (x8)), (9, .inr (.inl (x9)))], [.inr (.inr (x0)), .inl ((4 : Int32)), .inl ((18 : Int32)), .inr (.inl (x1))], hp σ, 0, 0)) 4 rfl ?_
        refine T_getR rfl (fun _ => ?_)
        refine T_go (S' := (287, [(11, .inl (s0)), (0, .inr (.inr (x0))), (1, .inr (.inl (x1))), (3, .inl (x3)), (4, .inl (x4)), (8, .inl (x8)), (9, .inr (.inl (x9)))], [.inl (x8), .inr (.inr ((RH x0 35))), .inl ((4 : Int32)), .inl ((18 : Int32)), .inr (.inl (x1))], hp σ, 0, 0)) 1 rfl ?_
        refine T_iald rfl (fun _ => ?_)
        refine T_go (S' := (291, [(11, .inl (s0)), (0, .inr (.inr (x0))), (1, .inr (.inl (x1))), (3, .inl (x3)), (4, .inl (x4)), (8, .inl (x8)), (9, .inr (.inl (x9)))], [.inl ((4 : Int32)), .inl (((18 : Int32) + ((4 : Int32) * (σ.1 (RH x0 35) x8.toNatClampNeg)))), .inr (.inl (x1))], hp σ, 0, 0)) 3 rfl ?_
        refine T_cs (i := iI) (as := [.inr (.inl (x1)), .inl (((18 : Int32) + ((4 : Int32) * (σ.1 (RH x0 35) x8.toNatClampNeg)))), .inl ((4 : Int32))]) (rest := []) (st := [.inl ((4 : Int32)), .inl (((18 : Int32) + ((4 : Int32) * (σ.1 (RH x0 35) x8.toNatClampNeg)))), .inr (.inl (x1))]) rfl (lb rfl) rfl rfl ⟨lb rfl, lb rfl, lb rfl, lb rfl⟩ (fun _ h => Ew_le (lb rfl) (s_X12_part x1 ((18 : Int32) + ((4 : Int32) * (σ.1 (RH x0 35) x8.toNatClampNeg))) (4 : Int32) σ _ h)) (fun r1 => ?_)
        show Snd false none _ _ _ (cN iU) (294, [(11, .inl (s0)), (0, .inr (.inr (x0))), (1, .inr (.inl (x1))), (3, .inl (x3)), (4, .inl (x4)), (8, .inl (x8)), (9, .inr (.inl (x9)))], [.inl (r1.1)], hp r1.2, 0, 0)
        refine T_go (S' := (297, [(12, .inl (r1.1)), (11, .inl (s0)), (0, .inr (.inr (x0))), (1, .inr (.inl (x1))), (3, .inl (x3)), (4, .inl (x4)), (8, .inl (x8)), (9, .inr (.inl (x9)))], [.inr (.inr (x0))], hp r1.2, 0, 0)) 2 rfl ?_
        refine T_getR rfl (fun _ => ?_)
        refine T_go (S' := (302, [(12, .inl (r1.1)), (11, .inl (s0)), (0, .inr (.inr (x0))), (1, .inr (.inl (x1))), (3, .inl (x3)), (4, .inl (x4)), (8, .inl (x8)), (9, .inr (.inl (x9)))], [.inl (x8), .inr (.inr ((RH x0 34)))], hp r1.2, 0, 0)) 1 rfl ?_
        refine T_iald rfl (fun _ => ?_)
        refine T_go (S' := (304, [(12, .inl (r1.1)), (11, .inl (s0)), (0, .inr (.inr (x0))), (1, .inr (.inl (x1))), (3, .inl (x3)), (4, .inl (x4)), (8, .inl (x8)), (9, .inr (.inl (x9)))], [.inl ((3 : Int32)), .inl ((r1.2.1 (RH x0 34) x8.toNatClampNeg))], hp r1.2, 0, 0)) 1 rfl ?_
        refine T_icmp_ne 364 rfl rfl (fun _ => ?_) (fun _ => ?_)
        · refine T_loc (ls' := [(0, .inr (.inr (x0))), (9, .inr (.inl (x9)))]) [2, 7] rfl ?_
          exact s_X12_stepsOn_364 x0 x9 r1.2
        · refine T_go (S' := (313, [(12, .inl (r1.1)), (11, .inl (s0)), (0, .inr (.inr (x0))), (1, .inr (.inl (x1))), (3, .inl (x3)), (4, .inl (x4)), (8, .inl (x8)), (9, .inr (.inl (x9)))], [.inr (.inr (x0)), .inl ((4 : Int32)), .inl ((18 : Int32)), .inr (.inl (x9))], hp r1.2, 0, 0)) 4 rfl ?_
          refine T_getR rfl (fun _ => ?_)
          refine T_go (S' := (318, [(12, .inl (r1.1)), (11, .inl (s0)), (0, .inr (.inr (x0))), (1, .inr (.inl (x1))), (3, .inl (x3)), (4, .inl (x4)), (8, .inl (x8)), (9, .inr (.inl (x9)))], [.inl (x8), .inr (.inr ((RH x0 35))), .inl ((4 : Int32)), .inl ((18 : Int32)), .inr (.inl (x9))], hp r1.2, 0, 0)) 1 rfl ?_
          refine T_iald rfl (fun _ => ?_)
          refine T_go (S' := (326, [(12, .inl (r1.1)), (11, .inl (s0)), (0, .inr (.inr (x0))), (1, .inr (.inl (x1))), (3, .inl (x3)), (4, .inl (x4)), (8, .inl (x8)), (9, .inr (.inl (x9)))], [.inl ((r1.1 + (1 : Int32))), .inl ((4 : Int32)), .inl (((18 : Int32) + ((4 : Int32) * (r1.2.1 (RH x0 35) x8.toNatClampNeg)))), .inr (.inl (x9))], hp r1.2, 0, 0)) 6 rfl ?_
          refine T_cs (i := iJ) (as := [.inr (.inl (x9)), .inl (((18 : Int32) + ((4 : Int32) * (r1.2.1 (RH x0 35) x8.toNatClampNeg)))), .inl ((4 : Int32)), .inl ((r1.1 + (1 : Int32)))]) (rest := []) (st := [.inl ((r1.1 + (1 : Int32))), .inl ((4 : Int32)), .inl (((18 : Int32) + ((4 : Int32) * (r1.2.1 (RH x0 35) x8.toNatClampNeg)))), .inr (.inl (x9))]) rfl (lb rfl) rfl rfl ⟨lb rfl, lb rfl, lb rfl, lb rfl⟩ (fun _ h => Ew_le (lb rfl) (s_X12_put x9 ((18 : Int32) + ((4 : Int32) * (r1.2.1 (RH x0 35) x8.toNatClampNeg))) (4 : Int32) (r1.1 + (1 : Int32)) r1.2 _ h)) (fun r2 => ?_)
          show Snd false none _ _ _ (cN iU) (329, [(12, .inl (r1.1)), (11, .inl (s0)), (0, .inr (.inr (x0))), (1, .inr (.inl (x1))), (3, .inl (x3)), (4, .inl (x4)), (8, .inl (x8)), (9, .inr (.inl (x9)))], [.inr (.inl (r2.1))], hp r2.2, 0, 0)
          refine T_go (S' := (339, [(9, .inr (.inl (r2.1))), (12, .inl (r1.1)), (11, .inl (s0)), (0, .inr (.inr (x0))), (1, .inr (.inl (x1))), (3, .inl (x3)), (4, .inl (x4)), (8, .inl (x8))], [.inl (x8), .inr (.inr (x0)), .inl ((4 : Int32)), .inl ((30 : Int32)), .inr (.inl (r2.1))], hp r2.2, 0, 0)) 6 rfl ?_
          refine T_cv (i := iI) (as := [.inr (.inr (x0)), .inl (x8)]) (rest := [.inl ((4 : Int32)), .inl ((30 : Int32)), .inr (.inl (r2.1))]) (st := [.inl (x8), .inr (.inr (x0)), .inl ((4 : Int32)), .inl ((30 : Int32)), .inr (.inl (r2.1))]) rfl rfl rfl ⟨lb rfl, lb rfl, lb rfl, lb rfl⟩ (fun _ h => Ew_le (lb rfl) (s_X12_resultOf x0 x8 r2.2 _ h)) (fun _ r3 => ?_)
          show Snd false none _ _ _ (cN iU) (342, [(9, .inr (.inl (r2.1))), (12, .inl (r1.1)), (11, .inl (s0)), (0, .inr (.inr (x0))), (1, .inr (.inl (x1))), (3, .inl (x3)), (4, .inl (x4)), (8, .inl (x8))], [.inl (r3.1), .inl ((4 : Int32)), .inl ((30 : Int32)), .inr (.inl (r2.1))], hp r3.2, 0, 0)
          refine T_go (S' := (349, [(9, .inr (.inl (r2.1))), (12, .inl (r1.1)), (11, .inl (s0)), (0, .inr (.inr (x0))), (1, .inr (.inl (x1))), (3, .inl (x3)), (4, .inl (x4)), (8, .inl (x8))], [.inl ((9 : Int32)), .inl (r1.1), .inl ((4 : Int32)), .inl (((30 : Int32) + ((4 : Int32) * r3.1))), .inr (.inl (r2.1))], hp r3.2, 0, 0)) 5 rfl ?_
          refine T_icmp_le 357 rfl rfl (fun _ => ?_) (fun _ => ?_)
          · refine T_go (S' := (359, [(9, .inr (.inl (r2.1))), (12, .inl (r1.1)), (11, .inl (s0)), (0, .inr (.inr (x0))), (1, .inr (.inl (x1))), (3, .inl (x3)), (4, .inl (x4)), (8, .inl (x8))], [.inl (r1.1), .inl ((4 : Int32)), .inl (((30 : Int32) + ((4 : Int32) * r3.1))), .inr (.inl (r2.1))], hp r3.2, 0, 0)) 1 rfl ?_
            refine T_loc (ls' := [(0, .inr (.inr (x0)))]) [3] rfl ?_
            exact s_X12_stepsOn_359 x0 r2.1 ((30 : Int32) + ((4 : Int32) * r3.1)) (4 : Int32) r1.1 r3.2
          · refine T_go (S' := (359, [(9, .inr (.inl (r2.1))), (12, .inl (r1.1)), (11, .inl (s0)), (0, .inr (.inr (x0))), (1, .inr (.inl (x1))), (3, .inl (x3)), (4, .inl (x4)), (8, .inl (x8))], [.inl ((9 : Int32)), .inl ((4 : Int32)), .inl (((30 : Int32) + ((4 : Int32) * r3.1))), .inr (.inl (r2.1))], hp r3.2, 0, 0)) 2 rfl ?_
            refine T_loc (ls' := [(0, .inr (.inr (x0)))]) [3] rfl ?_
            exact s_X12_stepsOn_359 x0 r2.1 ((30 : Int32) + ((4 : Int32) * r3.1)) (4 : Int32) (9 : Int32) r3.2
    · refine T_go (S' := (221, [(11, .inl (s0)), (0, .inr (.inr (x0))), (1, .inr (.inl (x1))), (3, .inl (x3)), (4, .inl (x4)), (8, .inl (x8)), (9, .inr (.inl (x9)))], [.inr (.inr (x0)), .inl (x3), .inr (.inl (x1)), .inr (.inr (x0))], hp σ, 0, 0)) 4 rfl ?_
      refine T_getR rfl (fun _ => ?_)
      refine T_go (S' := (226, [(11, .inl (s0)), (0, .inr (.inr (x0))), (1, .inr (.inl (x1))), (3, .inl (x3)), (4, .inl (x4)), (8, .inl (x8)), (9, .inr (.inl (x9)))], [.inl (x8), .inr (.inr ((RH x0 35))), .inl (x3), .inr (.inl (x1)), .inr (.inr (x0))], hp σ, 0, 0)) 1 rfl ?_
      refine T_iald rfl (fun _ => ?_)
      refine T_go (S' := (229, [(11, .inl (s0)), (0, .inr (.inr (x0))), (1, .inr (.inl (x1))), (3, .inl (x3)), (4, .inl (x4)), (8, .inl (x8)), (9, .inr (.inl (x9)))], [.inl (x4), .inl ((σ.1 (RH x0 35) x8.toNatClampNeg)), .inl (x3), .inr (.inl (x1)), .inr (.inr (x0))], hp σ, 0, 0)) 1 rfl ?_
      refine T_cv (i := iI) (as := [.inr (.inr (x0)), .inr (.inl (x1)), .inl (x3), .inl ((σ.1 (RH x0 35) x8.toNatClampNeg)), .inl (x4)]) (rest := []) (st := [.inl (x4), .inl ((σ.1 (RH x0 35) x8.toNatClampNeg)), .inl (x3), .inr (.inl (x1)), .inr (.inr (x0))]) rfl rfl rfl ⟨lb rfl, lb rfl, lb rfl, lb rfl⟩ (fun _ h => Ew_le (lb rfl) (s_X12_seenBy x0 x1 x3 (σ.1 (RH x0 35) x8.toNatClampNeg) x4 σ _ h)) (fun _ r4 => ?_)
      show Snd false none _ _ _ (cN iU) (232, [(11, .inl (s0)), (0, .inr (.inr (x0))), (1, .inr (.inl (x1))), (3, .inl (x3)), (4, .inl (x4)), (8, .inl (x8)), (9, .inr (.inl (x9)))], [.inl (r4.1)], hp r4.2, 0, 0)
      refine T_go (S' := (243, [(12, .inl (r4.1)), (11, .inl (s0)), (0, .inr (.inr (x0))), (1, .inr (.inl (x1))), (3, .inl (x3)), (4, .inl (x4)), (8, .inl (x8)), (9, .inr (.inl (x9)))], [.inl (x8), .inr (.inr (x0)), .inl ((4 : Int32)), .inl ((30 : Int32)), .inr (.inl (x9)), .inr (.inr (x0))], hp r4.2, 0, 0)) 7 rfl ?_
      refine T_cv (i := iI) (as := [.inr (.inr (x0)), .inl (x8)]) (rest := [.inl ((4 : Int32)), .inl ((30 : Int32)), .inr (.inl (x9)), .inr (.inr (x0))]) (st := [.inl (x8), .inr (.inr (x0)), .inl ((4 : Int32)), .inl ((30 : Int32)), .inr (.inl (x9)), .inr (.inr (x0))]) rfl rfl rfl ⟨lb rfl, lb rfl, lb rfl, lb rfl⟩ (fun _ h => Ew_le (lb rfl) (s_X12_resultOf x0 x8 r4.2 _ h)) (fun _ r5 => ?_)
      show Snd false none _ _ _ (cN iU) (246, [(12, .inl (r4.1)), (11, .inl (s0)), (0, .inr (.inr (x0))), (1, .inr (.inl (x1))), (3, .inl (x3)), (4, .inl (x4)), (8, .inl (x8)), (9, .inr (.inl (x9)))], [.inl (r5.1), .inl ((4 : Int32)), .inl ((30 : Int32)), .inr (.inl (x9)), .inr (.inr (x0))], hp r5.2, 0, 0)
      refine T_go (S' := (253, [(12, .inl (r4.1)), (11, .inl (s0)), (0, .inr (.inr (x0))), (1, .inr (.inl (x1))), (3, .inl (x3)), (4, .inl (x4)), (8, .inl (x8)), (9, .inr (.inl (x9)))], [.inl ((9 : Int32)), .inl (r4.1), .inl ((4 : Int32)), .inl (((30 : Int32) + ((4 : Int32) * r5.1))), .inr (.inl (x9)), .inr (.inr (x0))], hp r5.2, 0, 0)) 5 rfl ?_
      refine T_icmp_le 261 rfl rfl (fun _ => ?_) (fun _ => ?_)
      · refine T_go (S' := (263, [(12, .inl (r4.1)), (11, .inl (s0)), (0, .inr (.inr (x0))), (1, .inr (.inl (x1))), (3, .inl (x3)), (4, .inl (x4)), (8, .inl (x8)), (9, .inr (.inl (x9)))], [.inl (r4.1), .inl ((4 : Int32)), .inl (((30 : Int32) + ((4 : Int32) * r5.1))), .inr (.inl (x9)), .inr (.inr (x0))], hp r5.2, 0, 0)) 1 rfl ?_
        refine T_loc (ls' := []) [] rfl ?_
        exact s_X12_stepsOn_263 x0 x9 ((30 : Int32) + ((4 : Int32) * r5.1)) (4 : Int32) r4.1 r5.2
      · refine T_go (S' := (263, [(12, .inl (r4.1)), (11, .inl (s0)), (0, .inr (.inr (x0))), (1, .inr (.inl (x1))), (3, .inl (x3)), (4, .inl (x4)), (8, .inl (x8)), (9, .inr (.inl (x9)))], [.inl ((9 : Int32)), .inl ((4 : Int32)), .inl (((30 : Int32) + ((4 : Int32) * r5.1))), .inr (.inl (x9)), .inr (.inr (x0))], hp r5.2, 0, 0)) 2 rfl ?_
        refine T_loc (ls' := []) [] rfl ?_
        exact s_X12_stepsOn_263 x0 x9 ((30 : Int32) + ((4 : Int32) * r5.1)) (4 : Int32) (9 : Int32) r5.2
  · refine T_go (S' := (167, [(11, .inl (s0)), (0, .inr (.inr (x0))), (1, .inr (.inl (x1))), (3, .inl (x3)), (4, .inl (x4)), (8, .inl (x8)), (9, .inr (.inl (x9)))], [.inl (x4), .inr (.inr (x0))], hp σ, 0, 0)) 2 rfl ?_
    refine T_if_eq 175 rfl rfl (fun _ => ?_) (fun _ => ?_)
    · refine T_go (S' := (181, [(11, .inl (s0)), (0, .inr (.inr (x0))), (1, .inr (.inl (x1))), (3, .inl (x3)), (4, .inl (x4)), (8, .inl (x8)), (9, .inr (.inl (x9)))], [.inr (.inr (x0)), .inl ((4 : Int32)), .inl ((18 : Int32)), .inr (.inl (x9)), .inr (.inr (x0))], hp σ, 0, 0)) 4 rfl ?_
      refine T_getR rfl (fun _ => ?_)
      refine T_go (S' := (186, [(11, .inl (s0)), (0, .inr (.inr (x0))), (1, .inr (.inl (x1))), (3, .inl (x3)), (4, .inl (x4)), (8, .inl (x8)), (9, .inr (.inl (x9)))], [.inl (x8), .inr (.inr ((RH x0 35))), .inl ((4 : Int32)), .inl ((18 : Int32)), .inr (.inl (x9)), .inr (.inr (x0))], hp σ, 0, 0)) 1 rfl ?_
      refine T_iald rfl (fun _ => ?_)
      refine T_go (S' := (191, [(11, .inl (s0)), (0, .inr (.inr (x0))), (1, .inr (.inl (x1))), (3, .inl (x3)), (4, .inl (x4)), (8, .inl (x8)), (9, .inr (.inl (x9)))], [.inr (.inr (x0)), .inl ((4 : Int32)), .inl (((18 : Int32) + ((4 : Int32) * (σ.1 (RH x0 35) x8.toNatClampNeg)))), .inr (.inl (x9)), .inr (.inr (x0))], hp σ, 0, 0)) 4 rfl ?_
      refine T_getR rfl (fun _ => ?_)
      refine T_go (S' := (196, [(11, .inl (s0)), (0, .inr (.inr (x0))), (1, .inr (.inl (x1))), (3, .inl (x3)), (4, .inl (x4)), (8, .inl (x8)), (9, .inr (.inl (x9)))], [.inl (x8), .inr (.inr ((RH x0 36))), .inl ((4 : Int32)), .inl (((18 : Int32) + ((4 : Int32) * (σ.1 (RH x0 35) x8.toNatClampNeg)))), .inr (.inl (x9)), .inr (.inr (x0))], hp σ, 0, 0)) 1 rfl ?_
      refine T_iald rfl (fun _ => ?_)
      refine T_cs (i := iJ) (as := [.inr (.inl (x9)), .inl (((18 : Int32) + ((4 : Int32) * (σ.1 (RH x0 35) x8.toNatClampNeg)))), .inl ((4 : Int32)), .inl ((σ.1 (RH x0 36) x8.toNatClampNeg))]) (rest := [.inr (.inr (x0))]) (st := [.inl ((σ.1 (RH x0 36) x8.toNatClampNeg)), .inl ((4 : Int32)), .inl (((18 : Int32) + ((4 : Int32) * (σ.1 (RH x0 35) x8.toNatClampNeg)))), .inr (.inl (x9)), .inr (.inr (x0))]) rfl (lb rfl) rfl rfl ⟨lb rfl, lb rfl, lb rfl, lb rfl⟩ (fun _ h => Ew_le (lb rfl) (s_X12_put x9 ((18 : Int32) + ((4 : Int32) * (σ.1 (RH x0 35) x8.toNatClampNeg))) (4 : Int32) (σ.1 (RH x0 36) x8.toNatClampNeg) σ _ h)) (fun r6 => ?_)
      show Snd false none _ _ _ (cN iU) (200, [(11, .inl (s0)), (0, .inr (.inr (x0))), (1, .inr (.inl (x1))), (3, .inl (x3)), (4, .inl (x4)), (8, .inl (x8)), (9, .inr (.inl (x9)))], [.inr (.inl (r6.1)), .inr (.inr (x0))], hp r6.2, 0, 0)
      refine T_loc (ls' := []) [] rfl ?_
      exact s_X12_stepsOn_200 x0 r6.1 r6.2
    · refine T_go (S' := (200, [(11, .inl (s0)), (0, .inr (.inr (x0))), (1, .inr (.inl (x1))), (3, .inl (x3)), (4, .inl (x4)), (8, .inl (x8)), (9, .inr (.inl (x9)))], [.inr (.inl (x9)), .inr (.inr (x0))], hp σ, 0, 0)) 2 rfl ?_
      refine T_loc (ls' := []) [] rfl ?_
      exact s_X12_stepsOn_200 x0 x9 σ
def f_X12_stepsOn_147 (x0 : Nat) (x1 : Int64) (x3 : Int32) (x4 : Int32) (x8 : Int32) (x9 : Int64) (σ : eMem) : Option (Unit × eMem) :=
  f_X12_stepsOn_152 x0 x1 x3 x4 x8 x9 (1 : Int32) σ
set_option maxHeartbeats 4000000 in
set_option maxRecDepth 20000 in
theorem s_X12_stepsOn_147 (x0 : Nat) (x1 : Int64) (x3 : Int32) (x4 : Int32) (x8 : Int32) (x9 : Int64) (σ : eMem) : Snd false none 2 m_X12_stepsOn (f_X12_stepsOn_147 x0 x1 x3 x4 x8 x9 σ) (cN iU) (147, [(0, .inr (.inr (x0))), (1, .inr (.inl (x1))), (3, .inl (x3)), (4, .inl (x4)), (8, .inl (x8)), (9, .inr (.inl (x9)))], [], hp σ, 0, 0) := by
  unfold f_X12_stepsOn_147
  refine T_go (S' := (152, [(0, .inr (.inr (x0))), (1, .inr (.inl (x1))), (3, .inl (x3)), (4, .inl (x4)), (8, .inl (x8)), (9, .inr (.inl (x9)))], [.inl ((1 : Int32))], hp σ, 0, 0)) 2 rfl ?_
  refine T_loc (ls' := [(0, .inr (.inr (x0))), (1, .inr (.inl (x1))), (3, .inl (x3)), (4, .inl (x4)), (8, .inl (x8)), (9, .inr (.inl (x9)))]) [0, 1, 2, 3, 4, 5] rfl ?_
  exact s_X12_stepsOn_152 x0 x1 x3 x4 x8 x9 (1 : Int32) σ
def f_X12_stepsOn_101 (x0 : Nat) (x1 : Int64) (x3 : Int32) (x4 : Int32) (x5 : Int32) (x6 : Int32) (x7 : Int32) (σ : eMem) : Option (Unit × eMem) :=
  if (KH x0).1 = 10 then
    if (KH (RH x0 33)).1 = 11 ∧ eix x3 (KH (RH x0 33)).2 = true then
      if ¬ x5 = (σ.1 (RH x0 33) x3.toNatClampNeg) then
        eLet ((((4 : Int32) * x3) + x5) : Int32) (fun v1 =>
          Option.bind (f_X12_put x1 ((3 : Int32) * x3) (3 : Int32) (x5 + (1 : Int32)) σ) (fun r2 =>
            if x4 = (0 : Int32) then
              f_X12_stepsOn_147 x0 x1 x3 x4 v1 r2.1 r2.2
            else
              if ¬ x6 = x7 then
                f_X12_stepsOn_152 x0 x1 x3 x4 v1 r2.1 (0 : Int32) r2.2
              else
                f_X12_stepsOn_147 x0 x1 x3 x4 v1 r2.1 r2.2
            )
          )
      else
        some ((), σ)
    else none
  else none
set_option maxHeartbeats 4000000 in
set_option maxRecDepth 20000 in
theorem s_X12_stepsOn_101 (x0 : Nat) (x1 : Int64) (x3 : Int32) (x4 : Int32) (x5 : Int32) (x6 : Int32) (x7 : Int32) (σ : eMem) : Snd false none 2 m_X12_stepsOn (f_X12_stepsOn_101 x0 x1 x3 x4 x5 x6 x7 σ) (cN iU) (101, [(0, .inr (.inr (x0))), (1, .inr (.inl (x1))), (3, .inl (x3)), (4, .inl (x4)), (5, .inl (x5)), (6, .inl (x6)), (7, .inl (x7))], [], hp σ, 0, 0) := by
  unfold f_X12_stepsOn_101
  refine T_go (S' := (104, [(0, .inr (.inr (x0))), (1, .inr (.inl (x1))), (3, .inl (x3)), (4, .inl (x4)), (5, .inl (x5)), (6, .inl (x6)), (7, .inl (x7))], [.inr (.inr (x0)), .inl (x5)], hp σ, 0, 0)) 2 rfl ?_
  refine T_getR rfl (fun _ => ?_)
  refine T_go (S' := (108, [(0, .inr (.inr (x0))), (1, .inr (.inl (x1))), (3, .inl (x3)), (4, .inl (x4)), (5, .inl (x5)), (6, .inl (x6)), (7, .inl (x7))], [.inl (x3), .inr (.inr ((RH x0 33))), .inl (x5)], hp σ, 0, 0)) 1 rfl ?_
  refine T_iald rfl (fun _ => ?_)
  refine T_icmp_ne 113 rfl rfl (fun _ => ?_) (fun _ => ?_)
  · refine T_go (S' := (121, [(8, .inl ((((4 : Int32) * x3) + x5))), (0, .inr (.inr (x0))), (1, .inr (.inl (x1))), (3, .inl (x3)), (4, .inl (x4)), (5, .inl (x5)), (6, .inl (x6)), (7, .inl (x7))], [], hp σ, 0, 0)) 6 rfl ?_
    refine T_let (Sf := fun v1 => (121, [(8, .inl (v1)), (0, .inr (.inr (x0))), (1, .inr (.inl (x1))), (3, .inl (x3)), (4, .inl (x4)), (5, .inl (x5)), (6, .inl (x6)), (7, .inl (x7))], [], hp σ, 0, 0)) (fun v1 => ?_)
    refine T_go (S' := (130, [(8, .inl (v1)), (0, .inr (.inr (x0))), (1, .inr (.inl (x1))), (3, .inl (x3)), (4, .inl (x4)), (5, .inl (x5)), (6, .inl (x6)), (7, .inl (x7))], [.inl ((x5 + (1 : Int32))), .inl ((3 : Int32)), .inl (((3 : Int32) * x3)), .inr (.inl (x1))], hp σ, 0, 0)) 8 rfl ?_
    refine T_cs (i := iJ) (as := [.inr (.inl (x1)), .inl (((3 : Int32) * x3)), .inl ((3 : Int32)), .inl ((x5 + (1 : Int32)))]) (rest := []) (st := [.inl ((x5 + (1 : Int32))), .inl ((3 : Int32)), .inl (((3 : Int32) * x3)), .inr (.inl (x1))]) rfl (lb rfl) rfl rfl ⟨lb rfl, lb rfl, lb rfl, lb rfl⟩ (fun _ h => Ew_le (lb rfl) (s_X12_put x1 ((3 : Int32) * x3) (3 : Int32) (x5 + (1 : Int32)) σ _ h)) (fun r2 => ?_)
    show Snd false none _ _ _ (cN iU) (133, [(8, .inl (v1)), (0, .inr (.inr (x0))), (1, .inr (.inl (x1))), (3, .inl (x3)), (4, .inl (x4)), (5, .inl (x5)), (6, .inl (x6)), (7, .inl (x7))], [.inr (.inl (r2.1))], hp r2.2, 0, 0)
    refine T_go (S' := (137, [(9, .inr (.inl (r2.1))), (8, .inl (v1)), (0, .inr (.inr (x0))), (1, .inr (.inl (x1))), (3, .inl (x3)), (4, .inl (x4)), (5, .inl (x5)), (6, .inl (x6)), (7, .inl (x7))], [.inl (x4)], hp r2.2, 0, 0)) 2 rfl ?_
    refine T_if_eq 147 rfl rfl (fun _ => ?_) (fun _ => ?_)
    · refine T_loc (ls' := [(0, .inr (.inr (x0))), (1, .inr (.inl (x1))), (3, .inl (x3)), (4, .inl (x4)), (8, .inl (v1)), (9, .inr (.inl (r2.1)))]) [2, 3, 4, 5, 1, 0] rfl ?_
      exact s_X12_stepsOn_147 x0 x1 x3 x4 v1 r2.1 r2.2
    · refine T_go (S' := (144, [(9, .inr (.inl (r2.1))), (8, .inl (v1)), (0, .inr (.inr (x0))), (1, .inr (.inl (x1))), (3, .inl (x3)), (4, .inl (x4)), (5, .inl (x5)), (6, .inl (x6)), (7, .inl (x7))], [.inl (x7), .inl (x6)], hp r2.2, 0, 0)) 2 rfl ?_
      refine T_icmp_ne 151 rfl rfl (fun _ => ?_) (fun _ => ?_)
      · refine T_go (S' := (152, [(9, .inr (.inl (r2.1))), (8, .inl (v1)), (0, .inr (.inr (x0))), (1, .inr (.inl (x1))), (3, .inl (x3)), (4, .inl (x4)), (5, .inl (x5)), (6, .inl (x6)), (7, .inl (x7))], [.inl ((0 : Int32))], hp r2.2, 0, 0)) 1 rfl ?_
        refine T_loc (ls' := [(0, .inr (.inr (x0))), (1, .inr (.inl (x1))), (3, .inl (x3)), (4, .inl (x4)), (8, .inl (v1)), (9, .inr (.inl (r2.1)))]) [2, 3, 4, 5, 1, 0] rfl ?_
        exact s_X12_stepsOn_152 x0 x1 x3 x4 v1 r2.1 (0 : Int32) r2.2
      · refine T_loc (ls' := [(0, .inr (.inr (x0))), (1, .inr (.inl (x1))), (3, .inl (x3)), (4, .inl (x4)), (8, .inl (v1)), (9, .inr (.inl (r2.1)))]) [2, 3, 4, 5, 1, 0] rfl ?_
        exact s_X12_stepsOn_147 x0 x1 x3 x4 v1 r2.1 r2.2
  · exact T_ret rfl
def f_X12_stepsOn (x0 : Nat) (x1 : Int64) (x3 : Int32) (x4 : Int32) (σ : eMem) : Option (Unit × eMem) :=
  Option.bind (f_X12_part x1 ((3 : Int32) * x3) (3 : Int32) σ) (fun r1 =>
    Option.bind (f_X12_part x1 ((9 : Int32) + ((3 : Int32) * x3)) (3 : Int32) r1.2) (fun r2 =>
      if (KH x0).1 = 10 then
        Option.bind (f_X12_storesOf x0 x3 r1.1 r2.2) (fun r3 =>
          if x4 = (0 : Int32) then
            f_X12_stepsOn_101 x0 x1 x3 x4 r1.1 r2.1 r3.1 r3.2
          else
            if r3.1 ≤ r2.1 then
              f_X12_stepsOn_101 x0 x1 x3 x4 r1.1 r2.1 r3.1 r3.2
            else
              if (KH x0).1 = 10 then
                Option.bind (f_X12_storeAt x0 x3 r1.1 r2.1 r3.2) (fun r4 =>
                  if (KH x0).1 = 10 then
                    if (KH (RH x0 35)).1 = 11 ∧ eix r4.1 (KH (RH x0 35)).2 = true then
                      if (KH x0).1 = 10 then
                        if (KH (RH x0 36)).1 = 11 ∧ eix r4.1 (KH (RH x0 36)).2 = true then
                          Option.bind (f_X12_put x1 ((18 : Int32) + ((4 : Int32) * (r4.2.1 (RH x0 35) r4.1.toNatClampNeg))) (4 : Int32) (r4.2.1 (RH x0 36) r4.1.toNatClampNeg) r4.2) (fun r5 =>
                            Option.bind (f_X12_put r5.1 ((9 : Int32) + ((3 : Int32) * x3)) (3 : Int32) (r2.1 + (1 : Int32)) r5.2) (fun r6 =>
                              if (KH x0).1 = 10 then
                                Option.bind (f_X12_piles x0 r6.1 r6.2) (fun r7 =>
                                  f_X12_stepsOn_101 x0 x1 x3 x4 r1.1 r2.1 r3.1 r7.2
                                  )
                              else none
                              )
                            )
                        else none
                      else none
                    else none
                  else none
                  )
              else none
          )
      else none
      )
    )
set_option maxHeartbeats 4000000 in
set_option maxRecDepth 20000 in
theorem s_X12_stepsOn (x0 : Nat) (x1 : Int64) (x3 : Int32) (x4 : Int32) (σ : eMem) : ∀ r, f_X12_stepsOn x0 x1 x3 x4 σ = some r → Ew false 3 197 [.inr (.inr (x0)), .inr (.inl (x1)), .inl (x3), .inl (x4)] (hp σ) (cN iU r) := by
  refine T_meth (md := m_X12_stepsOn) (d0 := 2) (cv := (cN iU)) rfl (lb rfl) (lb rfl) ?_
  unfold f_X12_stepsOn
  show Snd false none _ _ _ _ (0, [(0, .inr (.inr (x0))), (1, .inr (.inl (x1))), (3, .inl (x3)), (4, .inl (x4))], [], hp σ, 0, 0)
  refine T_go (S' := (5, [(0, .inr (.inr (x0))), (1, .inr (.inl (x1))), (3, .inl (x3)), (4, .inl (x4))], [.inl ((3 : Int32)), .inl (((3 : Int32) * x3)), .inr (.inl (x1))], hp σ, 0, 0)) 5 rfl ?_
  refine T_cs (i := iI) (as := [.inr (.inl (x1)), .inl (((3 : Int32) * x3)), .inl ((3 : Int32))]) (rest := []) (st := [.inl ((3 : Int32)), .inl (((3 : Int32) * x3)), .inr (.inl (x1))]) rfl (lb rfl) rfl rfl ⟨lb rfl, lb rfl, lb rfl, lb rfl⟩ (fun _ h => Ew_le (lb rfl) (s_X12_part x1 ((3 : Int32) * x3) (3 : Int32) σ _ h)) (fun r1 => ?_)
  show Snd false none _ _ _ (cN iU) (8, [(0, .inr (.inr (x0))), (1, .inr (.inl (x1))), (3, .inl (x3)), (4, .inl (x4))], [.inl (r1.1)], hp r1.2, 0, 0)
  refine T_go (S' := (18, [(5, .inl (r1.1)), (0, .inr (.inr (x0))), (1, .inr (.inl (x1))), (3, .inl (x3)), (4, .inl (x4))], [.inl ((3 : Int32)), .inl (((9 : Int32) + ((3 : Int32) * x3))), .inr (.inl (x1))], hp r1.2, 0, 0)) 8 rfl ?_
  refine T_cs (i := iI) (as := [.inr (.inl (x1)), .inl (((9 : Int32) + ((3 : Int32) * x3))), .inl ((3 : Int32))]) (rest := []) (st := [.inl ((3 : Int32)), .inl (((9 : Int32) + ((3 : Int32) * x3))), .inr (.inl (x1))]) rfl (lb rfl) rfl rfl ⟨lb rfl, lb rfl, lb rfl, lb rfl⟩ (fun _ h => Ew_le (lb rfl) (s_X12_part x1 ((9 : Int32) + ((3 : Int32) * x3)) (3 : Int32) r1.2 _ h)) (fun r2 => ?_)
  show Snd false none _ _ _ (cN iU) (21, [(5, .inl (r1.1)), (0, .inr (.inr (x0))), (1, .inr (.inl (x1))), (3, .inl (x3)), (4, .inl (x4))], [.inl (r2.1)], hp r2.2, 0, 0)
  refine T_go (S' := (27, [(6, .inl (r2.1)), (5, .inl (r1.1)), (0, .inr (.inr (x0))), (1, .inr (.inl (x1))), (3, .inl (x3)), (4, .inl (x4))], [.inl (r1.1), .inl (x3), .inr (.inr (x0))], hp r2.2, 0, 0)) 4 rfl ?_
  refine T_cv (i := iI) (as := [.inr (.inr (x0)), .inl (x3), .inl (r1.1)]) (rest := []) (st := [.inl (r1.1), .inl (x3), .inr (.inr (x0))]) rfl rfl rfl ⟨lb rfl, lb rfl, lb rfl, lb rfl⟩ (fun _ h => Ew_le (lb rfl) (s_X12_storesOf x0 x3 r1.1 r2.2 _ h)) (fun _ r3 => ?_)
  show Snd false none _ _ _ (cN iU) (30, [(6, .inl (r2.1)), (5, .inl (r1.1)), (0, .inr (.inr (x0))), (1, .inr (.inl (x1))), (3, .inl (x3)), (4, .inl (x4))], [.inl (r3.1)], hp r3.2, 0, 0)
  refine T_go (S' := (34, [(7, .inl (r3.1)), (6, .inl (r2.1)), (5, .inl (r1.1)), (0, .inr (.inr (x0))), (1, .inr (.inl (x1))), (3, .inl (x3)), (4, .inl (x4))], [.inl (x4)], hp r3.2, 0, 0)) 2 rfl ?_
  refine T_if_eq 101 rfl rfl (fun _ => ?_) (fun _ => ?_)
  · refine T_loc (ls' := [(0, .inr (.inr (x0))), (1, .inr (.inl (x1))), (3, .inl (x3)), (4, .inl (x4)), (5, .inl (r1.1)), (6, .inl (r2.1)), (7, .inl (r3.1))]) [3, 4, 5, 6, 2, 1, 0] rfl ?_
    exact s_X12_stepsOn_101 x0 x1 x3 x4 r1.1 r2.1 r3.1 r3.2
  · refine T_go (S' := (41, [(7, .inl (r3.1)), (6, .inl (r2.1)), (5, .inl (r1.1)), (0, .inr (.inr (x0))), (1, .inr (.inl (x1))), (3, .inl (x3)), (4, .inl (x4))], [.inl (r3.1), .inl (r2.1)], hp r3.2, 0, 0)) 2 rfl ?_
    refine T_icmp_ge 101 rfl rfl (fun _ => ?_) (fun _ => ?_)
    · refine T_loc (ls' := [(0, .inr (.inr (x0))), (1, .inr (.inl (x1))), (3, .inl (x3)), (4, .inl (x4)), (5, .inl (r1.1)), (6, .inl (r2.1)), (7, .inl (r3.1))]) [3, 4, 5, 6, 2, 1, 0] rfl ?_
      exact s_X12_stepsOn_101 x0 x1 x3 x4 r1.1 r2.1 r3.1 r3.2
    · refine T_go (S' := (50, [(7, .inl (r3.1)), (6, .inl (r2.1)), (5, .inl (r1.1)), (0, .inr (.inr (x0))), (1, .inr (.inl (x1))), (3, .inl (x3)), (4, .inl (x4))], [.inl (r2.1), .inl (r1.1), .inl (x3), .inr (.inr (x0))], hp r3.2, 0, 0)) 4 rfl ?_
      refine T_cv (i := iI) (as := [.inr (.inr (x0)), .inl (x3), .inl (r1.1), .inl (r2.1)]) (rest := []) (st := [.inl (r2.1), .inl (r1.1), .inl (x3), .inr (.inr (x0))]) rfl rfl rfl ⟨lb rfl, lb rfl, lb rfl, lb rfl⟩ (fun _ h => Ew_le (lb rfl) (s_X12_storeAt x0 x3 r1.1 r2.1 r3.2 _ h)) (fun _ r4 => ?_)
      show Snd false none _ _ _ (cN iU) (53, [(7, .inl (r3.1)), (6, .inl (r2.1)), (5, .inl (r1.1)), (0, .inr (.inr (x0))), (1, .inr (.inl (x1))), (3, .inl (x3)), (4, .inl (x4))], [.inl (r4.1)], hp r4.2, 0, 0)
      refine T_go (S' := (60, [(8, .inl (r4.1)), (7, .inl (r3.1)), (6, .inl (r2.1)), (5, .inl (r1.1)), (0, .inr (.inr (x0))), (1, .inr (.inl (x1))), (3, .inl (x3)), (4, .inl (x4))], [.inr (.inr (x0)), .inl ((4 : Int32)), .inl ((18 : Int32)), .inr (.inl (x1))], hp r4.2, 0, 0)) 5 rfl ?_
      refine T_getR rfl (fun _ => ?_)
      refine T_go (S' := (65, [(8, .inl (r4.1)), (7, .inl (r3.1)), (6, .inl (r2.1)), (5, .inl (r1.1)), (0, .inr (.inr (x0))), (1, .inr (.inl (x1))), (3, .inl (x3)), (4, .inl (x4))], [.inl (r4.1), .inr (.inr ((RH x0 35))), .inl ((4 : Int32)), .inl ((18 : Int32)), .inr (.inl (x1))], hp r4.2, 0, 0)) 1 rfl ?_
      refine T_iald rfl (fun _ => ?_)
      refine T_go (S' := (70, [(8, .inl (r4.1)), (7, .inl (r3.1)), (6, .inl (r2.1)), (5, .inl (r1.1)), (0, .inr (.inr (x0))), (1, .inr (.inl (x1))), (3, .inl (x3)), (4, .inl (x4))], [.inr (.inr (x0)), .inl ((4 : Int32)), .inl (((18 : Int32) + ((4 : Int32) * (r4.2.1 (RH x0 35) r4.1.toNatClampNeg)))), .inr (.inl (x1))], hp r4.2, 0, 0)) 4 rfl ?_
      refine T_getR rfl (fun _ => ?_)
      refine T_go (S' := (75, [(8, .inl (r4.1)), (7, .inl (r3.1)), (6, .inl (r2.1)), (5, .inl (r1.1)), (0, .inr (.inr (x0))), (1, .inr (.inl (x1))), (3, .inl (x3)), (4, .inl (x4))], [.inl (r4.1), .inr (.inr ((RH x0 36))), .inl ((4 : Int32)), .inl (((18 : Int32) + ((4 : Int32) * (r4.2.1 (RH x0 35) r4.1.toNatClampNeg)))), .inr (.inl (x1))], hp r4.2, 0, 0)) 1 rfl ?_
      refine T_iald rfl (fun _ => ?_)
      refine T_cs (i := iJ) (as := [.inr (.inl (x1)), .inl (((18 : Int32) + ((4 : Int32) * (r4.2.1 (RH x0 35) r4.1.toNatClampNeg)))), .inl ((4 : Int32)), .inl ((r4.2.1 (RH x0 36) r4.1.toNatClampNeg))]) (rest := []) (st := [.inl ((r4.2.1 (RH x0 36) r4.1.toNatClampNeg)), .inl ((4 : Int32)), .inl (((18 : Int32) + ((4 : Int32) * (r4.2.1 (RH x0 35) r4.1.toNatClampNeg)))), .inr (.inl (x1))]) rfl (lb rfl) rfl rfl ⟨lb rfl, lb rfl, lb rfl, lb rfl⟩ (fun _ h => Ew_le (lb rfl) (s_X12_put x1 ((18 : Int32) + ((4 : Int32) * (r4.2.1 (RH x0 35) r4.1.toNatClampNeg))) (4 : Int32) (r4.2.1 (RH x0 36) r4.1.toNatClampNeg) r4.2 _ h)) (fun r5 => ?_)
      show Snd false none _ _ _ (cN iU) (79, [(8, .inl (r4.1)), (7, .inl (r3.1)), (6, .inl (r2.1)), (5, .inl (r1.1)), (0, .inr (.inr (x0))), (1, .inr (.inl (x1))), (3, .inl (x3)), (4, .inl (x4))], [.inr (.inl (r5.1))], hp r5.2, 0, 0)
      refine T_go (S' := (95, [(9, .inr (.inl (r5.1))), (8, .inl (r4.1)), (7, .inl (r3.1)), (6, .inl (r2.1)), (5, .inl (r1.1)), (0, .inr (.inr (x0))), (1, .inr (.inl (x1))), (3, .inl (x3)), (4, .inl (x4))], [.inl ((r2.1 + (1 : Int32))), .inl ((3 : Int32)), .inl (((9 : Int32) + ((3 : Int32) * x3))), .inr (.inl (r5.1)), .inr (.inr (x0))], hp r5.2, 0, 0)) 12 rfl ?_
      refine T_cs (i := iJ) (as := [.inr (.inl (r5.1)), .inl (((9 : Int32) + ((3 : Int32) * x3))), .inl ((3 : Int32)), .inl ((r2.1 + (1 : Int32)))]) (rest := [.inr (.inr (x0))]) (st := [.inl ((r2.1 + (1 : Int32))), .inl ((3 : Int32)), .inl (((9 : Int32) + ((3 : Int32) * x3))), .inr (.inl (r5.1)), .inr (.inr (x0))]) rfl (lb rfl) rfl rfl ⟨lb rfl, lb rfl, lb rfl, lb rfl⟩ (fun _ h => Ew_le (lb rfl) (s_X12_put r5.1 ((9 : Int32) + ((3 : Int32) * x3)) (3 : Int32) (r2.1 + (1 : Int32)) r5.2 _ h)) (fun r6 => ?_)
      show Snd false none _ _ _ (cN iU) (98, [(9, .inr (.inl (r5.1))), (8, .inl (r4.1)), (7, .inl (r3.1)), (6, .inl (r2.1)), (5, .inl (r1.1)), (0, .inr (.inr (x0))), (1, .inr (.inl (x1))), (3, .inl (x3)), (4, .inl (x4))], [.inr (.inl (r6.1)), .inr (.inr (x0))], hp r6.2, 0, 0)
      refine T_cv (i := iU) (as := [.inr (.inr (x0)), .inr (.inl (r6.1))]) (rest := []) (st := [.inr (.inl (r6.1)), .inr (.inr (x0))]) rfl rfl rfl ⟨lb rfl, lb rfl, lb rfl, lb rfl⟩ (fun _ h => Ew_le (lb rfl) (s_X12_piles x0 r6.1 r6.2 _ h)) (fun _ r7 => ?_)
      show Snd false none _ _ _ (cN iU) (101, [(9, .inr (.inl (r5.1))), (8, .inl (r4.1)), (7, .inl (r3.1)), (6, .inl (r2.1)), (5, .inl (r1.1)), (0, .inr (.inr (x0))), (1, .inr (.inl (x1))), (3, .inl (x3)), (4, .inl (x4))], [], hp r7.2, 0, 0)
      refine T_loc (ls' := [(0, .inr (.inr (x0))), (1, .inr (.inl (x1))), (3, .inl (x3)), (4, .inl (x4)), (5, .inl (r1.1)), (6, .inl (r2.1)), (7, .inl (r3.1))]) [5, 6, 7, 8, 4, 3, 2] rfl ?_
      exact s_X12_stepsOn_101 x0 x1 x3 x4 r1.1 r2.1 r3.1 r7.2
def f_X12_isOverAll_L6 : Nat → (Nat × Int64 × Int32 × Int32 × Int32 ⊕ (Nat × Int64 × Int32 × Int32 ⊕ (Nat × Int64 × Int32 × Int32 ⊕ (Nat × Int64 × Int32 × Int32 × Int32)))) → eMem → Option (Int32 × eMem)
  | 0, _, _ => none
  | n + 1, .inl (x0, x1, x3, x4, x5), σ =>
    if (3 : Int32) ≤ x5 then
      if eB x4 = true then some (x4, σ) else none
    else
      Option.bind (f_X12_part x1 ((3 : Int32) * x5) (3 : Int32) σ) (fun r1 =>
        if x4 = (0 : Int32) then
          f_X12_isOverAll_L6 n (.inr (.inr (.inl (x0, x1, x3, x5)))) r1.2
        else
          if (KH x0).1 = 10 then
            if (KH (RH x0 33)).1 = 11 ∧ eix x5 (KH (RH x0 33)).2 = true then
              if ¬ r1.1 = (r1.2.1 (RH x0 33) x5.toNatClampNeg) then
                f_X12_isOverAll_L6 n (.inr (.inr (.inl (x0, x1, x3, x5)))) r1.2
              else
                if x3 = (0 : Int32) then
                  f_X12_isOverAll_L6 n (.inr (.inl (x0, x1, x3, x5))) r1.2
                else
                  Option.bind (f_X12_part x1 ((9 : Int32) + ((3 : Int32) * x5)) (3 : Int32) r1.2) (fun r2 =>
                    if (KH x0).1 = 10 then
                      Option.bind (f_X12_storesOf x0 x5 r1.1 r2.2) (fun r3 =>
                        if ¬ r2.1 = r3.1 then
                          f_X12_isOverAll_L6 n (.inr (.inr (.inl (x0, x1, x3, x5)))) r3.2
                        else
                          f_X12_isOverAll_L6 n (.inr (.inl (x0, x1, x3, x5))) r3.2
                        )
                    else none
                    )
            else none
          else none
        )
  | n + 1, .inr (.inl (x0, x1, x3, x5)), σ =>
    f_X12_isOverAll_L6 n (.inr (.inr (.inr ((x0, x1, x3, x5, (1 : Int32)))))) σ
  | n + 1, .inr (.inr (.inl (x0, x1, x3, x5))), σ =>
    f_X12_isOverAll_L6 n (.inr (.inr (.inr ((x0, x1, x3, x5, (0 : Int32)))))) σ
  | n + 1, .inr (.inr (.inr ((x0, x1, x3, x5, s0)))), σ =>
    f_X12_isOverAll_L6 n (.inl (x0, x1, x3, s0, (x5 + (1 : Int32)))) σ
set_option maxHeartbeats 4000000 in
set_option maxRecDepth 20000 in
theorem s_X12_isOverAll_L6 : ∀ (n : Nat), (∀ (x0 : Nat) (x1 : Int64) (x3 : Int32) (x4 : Int32) (x5 : Int32) (σ : eMem), Snd false none 1 m_X12_isOverAll (f_X12_isOverAll_L6 n (.inl (x0, x1, x3, x4, x5)) σ) (cN iI) (6, [(0, .inr (.inr (x0))), (1, .inr (.inl (x1))), (3, .inl (x3)), (4, .inl (x4)), (5, .inl (x5))], [], hp σ, 0, 0)) ∧ (∀ (x0 : Nat) (x1 : Int64) (x3 : Int32) (x5 : Int32) (σ : eMem), Snd false none 1 m_X12_isOverAll (f_X12_isOverAll_L6 n (.inr (.inl (x0, x1, x3, x5))) σ) (cN iI) (67, [(0, .inr (.inr (x0))), (1, .inr (.inl (x1))), (3, .inl (x3)), (5, .inl (x5))], [], hp σ, 0, 0)) ∧ (∀ (x0 : Nat) (x1 : Int64) (x3 : Int32) (x5 : Int32) (σ : eMem), Snd false none 1 m_X12_isOverAll (f_X12_isOverAll_L6 n (.inr (.inr (.inl (x0, x1, x3, x5)))) σ) (cN iI) (71, [(0, .inr (.inr (x0))), (1, .inr (.inl (x1))), (3, .inl (x3)), (5, .inl (x5))], [], hp σ, 0, 0)) ∧ (∀ (x0 : Nat) (x1 : Int64) (x3 : Int32) (x5 : Int32) (s0 : Int32) (σ : eMem), Snd false none 1 m_X12_isOverAll (f_X12_isOverAll_L6 n (.inr (.inr (.inr ((x0, x1, x3, x5, s0))))) σ) (cN iI) (72, [(0, .inr (.inr (x0))), (1, .inr (.inl (x1))), (3, .inl (x3)), (5, .inl (x5))], [.inl (s0)], hp σ, 0, 0)) := by
  intro n
  induction n with
  | zero => exact ⟨fun _ _ _ _ _ _ => T_none, fun _ _ _ _ _ => T_none, fun _ _ _ _ _ => T_none, fun _ _ _ _ _ _ => T_none⟩
  | succ n ih =>
    refine ⟨?_, ?_, ?_, ?_⟩
    · intro x0 x1 x3 x4 x5 σ
      unfold f_X12_isOverAll_L6
      refine T_go (S' := (9, [(0, .inr (.inr (x0))), (1, .inr (.inl (x1))), (3, .inl (x3)), (4, .inl (x4)), (5, .inl (x5))], [.inl ((3 : Int32)), .inl (x5)], hp σ, 0, 0)) 2 rfl ?_
      refine T_icmp_ge 80 rfl rfl (fun _ => ?_) (fun _ => ?_)
      · refine T_go (S' := (82, [(0, .inr (.inr (x0))), (1, .inr (.inl (x1))), (3, .inl (x3)), (4, .inl (x4)), (5, .inl (x5))], [.inl (x4)], hp σ, 0, 0)) 1 rfl ?_
        exact T_chkr rfl
      · refine T_go (S' := (18, [(0, .inr (.inr (x0))), (1, .inr (.inl (x1))), (3, .inl (x3)), (4, .inl (x4)), (5, .inl (x5))], [.inl ((3 : Int32)), .inl (((3 : Int32) * x5)), .inr (.inl (x1))], hp σ, 0, 0)) 5 rfl ?_
        refine T_cs (i := iI) (as := [.inr (.inl (x1)), .inl (((3 : Int32) * x5)), .inl ((3 : Int32))]) (rest := []) (st := [.inl ((3 : Int32)), .inl (((3 : Int32) * x5)), .inr (.inl (x1))]) rfl (lb rfl) rfl rfl ⟨lb rfl, lb rfl, lb rfl, lb rfl⟩ (fun _ h => Ew_le (lb rfl) (s_X12_part x1 ((3 : Int32) * x5) (3 : Int32) σ _ h)) (fun r1 => ?_)
        show Snd false none _ _ _ (cN iI) (21, [(0, .inr (.inr (x0))), (1, .inr (.inl (x1))), (3, .inl (x3)), (4, .inl (x4)), (5, .inl (x5))], [.inl (r1.1)], hp r1.2, 0, 0)
        refine T_go (S' := (25, [(6, .inl (r1.1)), (0, .inr (.inr (x0))), (1, .inr (.inl (x1))), (3, .inl (x3)), (4, .inl (x4)), (5, .inl (x5))], [.inl (x4)], hp r1.2, 0, 0)) 2 rfl ?_
        refine T_if_eq 71 rfl rfl (fun _ => ?_) (fun _ => ?_)
        · refine T_loc (ls' := [(0, .inr (.inr (x0))), (1, .inr (.inl (x1))), (3, .inl (x3)), (5, .inl (x5))]) [1, 2, 3, 5] rfl ?_
          exact (ih.2.2.1) x0 x1 x3 x5 r1.2
        · refine T_go (S' := (31, [(6, .inl (r1.1)), (0, .inr (.inr (x0))), (1, .inr (.inl (x1))), (3, .inl (x3)), (4, .inl (x4)), (5, .inl (x5))], [.inr (.inr (x0)), .inl (r1.1)], hp r1.2, 0, 0)) 2 rfl ?_
          refine T_getR rfl (fun _ => ?_)
          refine T_go (S' := (36, [(6, .inl (r1.1)), (0, .inr (.inr (x0))), (1, .inr (.inl (x1))), (3, .inl (x3)), (4, .inl (x4)), (5, .inl (x5))], [.inl (x5), .inr (.inr ((RH x0 33))), .inl (r1.1)], hp r1.2, 0, 0)) 1 rfl ?_
          refine T_iald rfl (fun _ => ?_)
          refine T_icmp_ne 71 rfl rfl (fun _ => ?_) (fun _ => ?_)
          · refine T_loc (ls' := [(0, .inr (.inr (x0))), (1, .inr (.inl (x1))), (3, .inl (x3)), (5, .inl (x5))]) [1, 2, 3, 5] rfl ?_
            exact (ih.2.2.1) x0 x1 x3 x5 r1.2
          · refine T_go (S' := (41, [(6, .inl (r1.1)), (0, .inr (.inr (x0))), (1, .inr (.inl (x1))), (3, .inl (x3)), (4, .inl (x4)), (5, .inl (x5))], [.inl (x3)], hp r1.2, 0, 0)) 1 rfl ?_
            refine T_if_eq 67 rfl rfl (fun _ => ?_) (fun _ => ?_)
            · refine T_loc (ls' := [(0, .inr (.inr (x0))), (1, .inr (.inl (x1))), (3, .inl (x3)), (5, .inl (x5))]) [1, 2, 3, 5] rfl ?_
              exact (ih.2.1) x0 x1 x3 x5 r1.2
            · refine T_go (S' := (53, [(6, .inl (r1.1)), (0, .inr (.inr (x0))), (1, .inr (.inl (x1))), (3, .inl (x3)), (4, .inl (x4)), (5, .inl (x5))], [.inl ((3 : Int32)), .inl (((9 : Int32) + ((3 : Int32) * x5))), .inr (.inl (x1))], hp r1.2, 0, 0)) 7 rfl ?_
              refine T_cs (i := iI) (as := [.inr (.inl (x1)), .inl (((9 : Int32) + ((3 : Int32) * x5))), .inl ((3 : Int32))]) (rest := []) (st := [.inl ((3 : Int32)), .inl (((9 : Int32) + ((3 : Int32) * x5))), .inr (.inl (x1))]) rfl (lb rfl) rfl rfl ⟨lb rfl, lb rfl, lb rfl, lb rfl⟩ (fun _ h => Ew_le (lb rfl) (s_X12_part x1 ((9 : Int32) + ((3 : Int32) * x5)) (3 : Int32) r1.2 _ h)) (fun r2 => ?_)
              show Snd false none _ _ _ (cN iI) (56, [(6, .inl (r1.1)), (0, .inr (.inr (x0))), (1, .inr (.inl (x1))), (3, .inl (x3)), (4, .inl (x4)), (5, .inl (x5))], [.inl (r2.1)], hp r2.2, 0, 0)
              refine T_go (S' := (61, [(6, .inl (r1.1)), (0, .inr (.inr (x0))), (1, .inr (.inl (x1))), (3, .inl (x3)), (4, .inl (x4)), (5, .inl (x5))], [.inl (r1.1), .inl (x5), .inr (.inr (x0)), .inl (r2.1)], hp r2.2, 0, 0)) 3 rfl ?_
              refine T_cv (i := iI) (as := [.inr (.inr (x0)), .inl (x5), .inl (r1.1)]) (rest := [.inl (r2.1)]) (st := [.inl (r1.1), .inl (x5), .inr (.inr (x0)), .inl (r2.1)]) rfl rfl rfl ⟨lb rfl, lb rfl, lb rfl, lb rfl⟩ (fun _ h => Ew_le (lb rfl) (s_X12_storesOf x0 x5 r1.1 r2.2 _ h)) (fun _ r3 => ?_)
              show Snd false none _ _ _ (cN iI) (64, [(6, .inl (r1.1)), (0, .inr (.inr (x0))), (1, .inr (.inl (x1))), (3, .inl (x3)), (4, .inl (x4)), (5, .inl (x5))], [.inl (r3.1), .inl (r2.1)], hp r3.2, 0, 0)
              refine T_icmp_ne 71 rfl rfl (fun _ => ?_) (fun _ => ?_)
              · refine T_loc (ls' := [(0, .inr (.inr (x0))), (1, .inr (.inl (x1))), (3, .inl (x3)), (5, .inl (x5))]) [1, 2, 3, 5] rfl ?_
                exact (ih.2.2.1) x0 x1 x3 x5 r3.2
              · refine T_loc (ls' := [(0, .inr (.inr (x0))), (1, .inr (.inl (x1))), (3, .inl (x3)), (5, .inl (x5))]) [1, 2, 3, 5] rfl ?_
                exact (ih.2.1) x0 x1 x3 x5 r3.2
    · intro x0 x1 x3 x5 σ
      unfold f_X12_isOverAll_L6
      refine T_go (S' := (72, [(0, .inr (.inr (x0))), (1, .inr (.inl (x1))), (3, .inl (x3)), (5, .inl (x5))], [.inl ((1 : Int32))], hp σ, 0, 0)) 2 rfl ?_
      refine T_loc (ls' := [(0, .inr (.inr (x0))), (1, .inr (.inl (x1))), (3, .inl (x3)), (5, .inl (x5))]) [0, 1, 2, 3] rfl ?_
      exact (ih.2.2.2) x0 x1 x3 x5 (1 : Int32) σ
    · intro x0 x1 x3 x5 σ
      unfold f_X12_isOverAll_L6
      refine T_go (S' := (72, [(0, .inr (.inr (x0))), (1, .inr (.inl (x1))), (3, .inl (x3)), (5, .inl (x5))], [.inl ((0 : Int32))], hp σ, 0, 0)) 1 rfl ?_
      refine T_loc (ls' := [(0, .inr (.inr (x0))), (1, .inr (.inl (x1))), (3, .inl (x3)), (5, .inl (x5))]) [0, 1, 2, 3] rfl ?_
      exact (ih.2.2.2) x0 x1 x3 x5 (0 : Int32) σ
    · intro x0 x1 x3 x5 s0 σ
      unfold f_X12_isOverAll_L6
      refine T_go (S' := (6, [(5, .inl ((x5 + (1 : Int32)))), (4, .inl (s0)), (0, .inr (.inr (x0))), (1, .inr (.inl (x1))), (3, .inl (x3))], [], hp σ, 0, 0)) 3 rfl ?_
      refine T_loc (ls' := [(0, .inr (.inr (x0))), (1, .inr (.inl (x1))), (3, .inl (x3)), (4, .inl (s0)), (5, .inl ((x5 + (1 : Int32))))]) [2, 3, 4, 1, 0] rfl ?_
      exact (ih.1) x0 x1 x3 s0 (x5 + (1 : Int32)) σ
def f_X12_isOverAll (x0 : Nat) (x1 : Int64) (x3 : Int32) (σ : eMem) : Option (Int32 × eMem) :=
  f_X12_isOverAll_L6 1000000 (.inl (x0, x1, x3, (1 : Int32), (0 : Int32))) σ
set_option maxHeartbeats 4000000 in
set_option maxRecDepth 20000 in
theorem s_X12_isOverAll (x0 : Nat) (x1 : Int64) (x3 : Int32) (σ : eMem) : ∀ r, f_X12_isOverAll x0 x1 x3 σ = some r → Ew false 2 198 [.inr (.inr (x0)), .inr (.inl (x1)), .inl (x3)] (hp σ) (cN iI r) := by
  refine T_meth (md := m_X12_isOverAll) (d0 := 1) (cv := (cN iI)) rfl (lb rfl) (lb rfl) ?_
  unfold f_X12_isOverAll
  show Snd false none _ _ _ _ (0, [(0, .inr (.inr (x0))), (1, .inr (.inl (x1))), (3, .inl (x3))], [], hp σ, 0, 0)
  refine T_go (S' := (6, [(5, .inl ((0 : Int32))), (4, .inl ((1 : Int32))), (0, .inr (.inr (x0))), (1, .inr (.inl (x1))), (3, .inl (x3))], [], hp σ, 0, 0)) 4 rfl ?_
  refine T_loc (ls' := [(0, .inr (.inr (x0))), (1, .inr (.inl (x1))), (3, .inl (x3)), (4, .inl ((1 : Int32))), (5, .inl ((0 : Int32)))]) [2, 3, 4, 1, 0] rfl ?_
  exact (s_X12_isOverAll_L6 1000000).1 x0 x1 x3 (1 : Int32) (0 : Int32) σ
def f_X12_goesThrough_L42 : Nat → (Nat × Int32 ⊕ (Nat × Int32 × Int64 × Int32 ⊕ (Nat × Int32))) → eMem → Option (Int32 × eMem)
  | 0, _, _ => none
  | n + 1, .inl (x0, x1), σ =>
    if (KH x0).1 = 10 then
      if (σ.1 x0 38) ≤ (0 : Int32) then
        if (KH x0).1 = 10 then
          some ((σ.1 x0 42), σ)
        else none
      else
        if (KH x0).1 = 10 then
          if (KH x0).1 = 10 then eLet ((eup σ.1 x0 38 ((σ.1 x0 38) - (1 : Int32)), σ.2) : eMem) (fun σ1 =>
            if (KH x0).1 = 10 then
              if (KH x0).1 = 10 then
                if (KH (RH x0 37)).1 = 12 ∧ eix (σ1.1 x0 38) (KH (RH x0 37)).2 = true then
                  eLet ((σ1.2 (RH x0 37) (σ1.1 x0 38).toNatClampNeg) : Int64) (fun v2 =>
                    if (KH x0).1 = 10 then
                      Option.bind (f_X12_isOverAll x0 v2 x1 σ1) (fun r3 =>
                        if r3.1 = (0 : Int32) then
                          f_X12_goesThrough_L42 n (.inr (.inl (x0, x1, v2, (0 : Int32)))) r3.2
                        else
                          if (KH x0).1 = 10 then
                            Option.bind (f_X12_comesOut x0 v2 r3.2) (fun r4 =>
                              f_X12_goesThrough_L42 n (.inr (.inr ((x0, x1)))) r4.2
                              )
                          else none
                        )
                    else none
                    )
                else none
              else none
            else none
            ) else none
        else none
    else none
  | n + 1, .inr (.inl (x0, x1, x2, x4)), σ =>
    if (3 : Int32) ≤ x4 then
      f_X12_goesThrough_L42 n (.inr (.inr ((x0, x1)))) σ
    else
      if (KH x0).1 = 10 then
        Option.bind (f_X12_stepsOn x0 x2 x4 x1 σ) (fun r1 =>
          f_X12_goesThrough_L42 n (.inr (.inl (x0, x1, x2, (x4 + (1 : Int32))))) r1.2
          )
      else none
  | n + 1, .inr (.inr ((x0, x1))), σ =>
    f_X12_goesThrough_L42 n (.inl (x0, x1)) σ
set_option maxHeartbeats 4000000 in
set_option maxRecDepth 20000 in
theorem s_X12_goesThrough_L42 : ∀ (n : Nat), (∀ (x0 : Nat) (x1 : Int32) (σ : eMem), Snd false none 3 m_X12_goesThrough (f_X12_goesThrough_L42 n (.inl (x0, x1)) σ) (cN iI) (42, [(0, .inr (.inr (x0))), (1, .inl (x1))], [], hp σ, 0, 0)) ∧ (∀ (x0 : Nat) (x1 : Int32) (x2 : Int64) (x4 : Int32) (σ : eMem), Snd false none 3 m_X12_goesThrough (f_X12_goesThrough_L42 n (.inr (.inl (x0, x1, x2, x4))) σ) (cN iI) (89, [(0, .inr (.inr (x0))), (1, .inl (x1)), (2, .inr (.inl (x2))), (4, .inl (x4))], [], hp σ, 0, 0)) ∧ (∀ (x0 : Nat) (x1 : Int32) (σ : eMem), Snd false none 3 m_X12_goesThrough (f_X12_goesThrough_L42 n (.inr (.inr ((x0, x1)))) σ) (cN iI) (109, [(0, .inr (.inr (x0))), (1, .inl (x1))], [], hp σ, 0, 0)) := by
  intro n
  induction n with
  | zero => exact ⟨fun _ _ _ => T_none, fun _ _ _ _ _ => T_none, fun _ _ _ => T_none⟩
  | succ n ih =>
    refine ⟨?_, ?_, ?_⟩
    · intro x0 x1 σ
      unfold f_X12_goesThrough_L42
      refine T_go (S' := (43, [(0, .inr (.inr (x0))), (1, .inl (x1))], [.inr (.inr (x0))], hp σ, 0, 0)) 1 rfl ?_
      refine T_getI rfl (fun _ => ?_)
      refine T_if_le 112 rfl rfl (fun _ => ?_) (fun _ => ?_)
      · refine T_go (S' := (113, [(0, .inr (.inr (x0))), (1, .inl (x1))], [.inr (.inr (x0))], hp σ, 0, 0)) 1 rfl ?_
        refine T_getI rfl (fun _ => ?_)
        exact T_ret rfl
      · refine T_go (S' := (51, [(0, .inr (.inr (x0))), (1, .inl (x1))], [.inr (.inr (x0)), .inr (.inr (x0))], hp σ, 0, 0)) 2 rfl ?_
        refine T_getI rfl (fun _ => ?_)
        refine T_go (S' := (56, [(0, .inr (.inr (x0))), (1, .inl (x1))], [.inl (((σ.1 x0 38) - (1 : Int32))), .inr (.inr (x0))], hp σ, 0, 0)) 2 rfl ?_
        refine T_putI rfl (fun _ => ?_)
        refine T_let (Sf := fun σ1 => (59, [(0, .inr (.inr (x0))), (1, .inl (x1))], [], hp σ1, 0, 0)) (fun σ1 => ?_)
        refine T_go (S' := (60, [(0, .inr (.inr (x0))), (1, .inl (x1))], [.inr (.inr (x0))], hp σ1, 0, 0)) 1 rfl ?_
        refine T_getR rfl (fun _ => ?_)
        refine T_go (S' := (64, [(0, .inr (.inr (x0))), (1, .inl (x1))], [.inr (.inr (x0)), .inr (.inr ((RH x0 37)))], hp σ1, 0, 0)) 1 rfl ?_
        refine T_getI rfl (fun _ => ?_)
        refine T_lald rfl (fun _ => ?_)
        refine T_go (S' := (69, [(2, .inr (.inl ((σ1.2 (RH x0 37) (σ1.1 x0 38).toNatClampNeg)))), (0, .inr (.inr (x0))), (1, .inl (x1))], [], hp σ1, 0, 0)) 1 rfl ?_
        refine T_let (Sf := fun v2 => (69, [(2, .inr (.inl (v2))), (0, .inr (.inr (x0))), (1, .inl (x1))], [], hp σ1, 0, 0)) (fun v2 => ?_)
        refine T_go (S' := (72, [(2, .inr (.inl (v2))), (0, .inr (.inr (x0))), (1, .inl (x1))], [.inl (x1), .inr (.inl (v2)), .inr (.inr (x0))], hp σ1, 0, 0)) 3 rfl ?_
        refine T_cv (i := iI) (as := [.inr (.inr (x0)), .inr (.inl (v2)), .inl (x1)]) (rest := []) (st := [.inl (x1), .inr (.inl (v2)), .inr (.inr (x0))]) rfl rfl rfl ⟨lb rfl, lb rfl, lb rfl, lb rfl⟩ (fun _ h => Ew_le (lb rfl) (s_X12_isOverAll x0 v2 x1 σ1 _ h)) (fun _ r3 => ?_)
        show Snd false none _ _ _ (cN iI) (75, [(2, .inr (.inl (v2))), (0, .inr (.inr (x0))), (1, .inl (x1))], [.inl (r3.1)], hp r3.2, 0, 0)
        refine T_if_eq 86 rfl rfl (fun _ => ?_) (fun _ => ?_)
        · refine T_go (S' := (89, [(4, .inl ((0 : Int32))), (2, .inr (.inl (v2))), (0, .inr (.inr (x0))), (1, .inl (x1))], [], hp r3.2, 0, 0)) 2 rfl ?_
          refine T_loc (ls' := [(0, .inr (.inr (x0))), (1, .inl (x1)), (2, .inr (.inl (v2))), (4, .inl ((0 : Int32)))]) [2, 3, 1, 0] rfl ?_
          exact (ih.2.1) x0 x1 v2 (0 : Int32) r3.2
        · refine T_go (S' := (80, [(2, .inr (.inl (v2))), (0, .inr (.inr (x0))), (1, .inl (x1))], [.inr (.inl (v2)), .inr (.inr (x0))], hp r3.2, 0, 0)) 2 rfl ?_
          refine T_cv (i := iU) (as := [.inr (.inr (x0)), .inr (.inl (v2))]) (rest := []) (st := [.inr (.inl (v2)), .inr (.inr (x0))]) rfl rfl rfl ⟨lb rfl, lb rfl, lb rfl, lb rfl⟩ (fun _ h => Ew_le (lb rfl) (s_X12_comesOut x0 v2 r3.2 _ h)) (fun _ r4 => ?_)
          show Snd false none _ _ _ (cN iI) (83, [(2, .inr (.inl (v2))), (0, .inr (.inr (x0))), (1, .inl (x1))], [], hp r4.2, 0, 0)
          refine T_go (S' := (109, [(2, .inr (.inl (v2))), (0, .inr (.inr (x0))), (1, .inl (x1))], [], hp r4.2, 0, 0)) 1 rfl ?_
          refine T_loc (ls' := [(0, .inr (.inr (x0))), (1, .inl (x1))]) [1, 2] rfl ?_
          exact (ih.2.2) x0 x1 r4.2
    · intro x0 x1 x2 x4 σ
      unfold f_X12_goesThrough_L42
      refine T_go (S' := (92, [(0, .inr (.inr (x0))), (1, .inl (x1)), (2, .inr (.inl (x2))), (4, .inl (x4))], [.inl ((3 : Int32)), .inl (x4)], hp σ, 0, 0)) 2 rfl ?_
      refine T_icmp_ge 109 rfl rfl (fun _ => ?_) (fun _ => ?_)
      · refine T_loc (ls' := [(0, .inr (.inr (x0))), (1, .inl (x1))]) [0, 1] rfl ?_
        exact (ih.2.2) x0 x1 σ
      · refine T_go (S' := (100, [(0, .inr (.inr (x0))), (1, .inl (x1)), (2, .inr (.inl (x2))), (4, .inl (x4))], [.inl (x1), .inl (x4), .inr (.inl (x2)), .inr (.inr (x0))], hp σ, 0, 0)) 4 rfl ?_
        refine T_cv (i := iU) (as := [.inr (.inr (x0)), .inr (.inl (x2)), .inl (x4), .inl (x1)]) (rest := []) (st := [.inl (x1), .inl (x4), .inr (.inl (x2)), .inr (.inr (x0))]) rfl rfl rfl ⟨lb rfl, lb rfl, lb rfl, lb rfl⟩ (fun _ h => Ew_le (lb rfl) (s_X12_stepsOn x0 x2 x4 x1 σ _ h)) (fun _ r1 => ?_)
        show Snd false none _ _ _ (cN iI) (103, [(0, .inr (.inr (x0))), (1, .inl (x1)), (2, .inr (.inl (x2))), (4, .inl (x4))], [], hp r1.2, 0, 0)
        refine T_go (S' := (89, [(4, .inl ((x4 + (1 : Int32)))), (0, .inr (.inr (x0))), (1, .inl (x1)), (2, .inr (.inl (x2)))], [], hp r1.2, 0, 0)) 2 rfl ?_
        refine T_loc (ls' := [(0, .inr (.inr (x0))), (1, .inl (x1)), (2, .inr (.inl (x2))), (4, .inl ((x4 + (1 : Int32))))]) [1, 2, 3, 0] rfl ?_
        exact (ih.2.1) x0 x1 x2 (x4 + (1 : Int32)) r1.2
    · intro x0 x1 σ
      unfold f_X12_goesThrough_L42
      refine T_go (S' := (42, [(0, .inr (.inr (x0))), (1, .inl (x1))], [], hp σ, 0, 0)) 1 rfl ?_
      refine T_loc (ls' := [(0, .inr (.inr (x0))), (1, .inl (x1))]) [0, 1] rfl ?_
      exact (ih.1) x0 x1 σ
def f_X12_goesThrough_2 : Nat → Nat → Int32 → Int32 → eMem → Option (Int32 × eMem)
  | 0, _, _, _, _ => none
  | n + 1, x0, x1, x2, σ =>
    if (8192 : Int32) ≤ x2 then
      if (KH x0).1 = 10 then eLet ((eup σ.1 x0 40 (0 : Int32), σ.2) : eMem) (fun σ1 =>
        if (KH x0).1 = 10 then eLet ((eup σ1.1 x0 42 (0 : Int32), σ1.2) : eMem) (fun σ2 =>
          if (KH x0).1 = 10 then eLet ((eup σ2.1 x0 38 (0 : Int32), σ2.2) : eMem) (fun σ3 =>
            if (KH x0).1 = 10 then
              Option.bind (f_X12_piles x0 (0 : Int64) σ3) (fun r4 =>
                f_X12_goesThrough_L42 1000000000000 (.inl (x0, x1)) r4.2
                )
            else none
            ) else none
          ) else none
        ) else none
    else
      if (KH x0).1 = 10 then
        if (KH (RH x0 39)).1 = 12 ∧ eix x2 (KH (RH x0 39)).2 = true then eLet ((σ.1, eup σ.2 (RH x0 39) x2.toNatClampNeg (0 : Int64)) : eMem) (fun σ5 =>
          f_X12_goesThrough_2 n x0 x1 (x2 + (1 : Int32)) σ5
          ) else none
      else none
set_option maxHeartbeats 4000000 in
set_option maxRecDepth 20000 in
theorem s_X12_goesThrough_2 : ∀ (n : Nat) (x0 : Nat) (x1 : Int32) (x2 : Int32) (σ : eMem), Snd false none 3 m_X12_goesThrough (f_X12_goesThrough_2 n x0 x1 x2 σ) (cN iI) (2, [(0, .inr (.inr (x0))), (1, .inl (x1)), (2, .inl (x2))], [], hp σ, 0, 0) := by
  intro n
  induction n with
  | zero => exact fun _ _ _ _ => T_none
  | succ n ih =>
    intro x0 x1 x2 σ
    unfold f_X12_goesThrough_2
    refine T_go (S' := (6, [(0, .inr (.inr (x0))), (1, .inl (x1)), (2, .inl (x2))], [.inl ((8192 : Int32)), .inl (x2)], hp σ, 0, 0)) 2 rfl ?_
    refine T_icmp_ge 22 rfl rfl (fun _ => ?_) (fun _ => ?_)
    · refine T_go (S' := (24, [(0, .inr (.inr (x0))), (1, .inl (x1)), (2, .inl (x2))], [.inl ((0 : Int32)), .inr (.inr (x0))], hp σ, 0, 0)) 2 rfl ?_
      refine T_putI rfl (fun _ => ?_)
      refine T_let (Sf := fun σ1 => (27, [(0, .inr (.inr (x0))), (1, .inl (x1)), (2, .inl (x2))], [], hp σ1, 0, 0)) (fun σ1 => ?_)
      refine T_go (S' := (29, [(0, .inr (.inr (x0))), (1, .inl (x1)), (2, .inl (x2))], [.inl ((0 : Int32)), .inr (.inr (x0))], hp σ1, 0, 0)) 2 rfl ?_
      refine T_putI rfl (fun _ => ?_)
      refine T_let (Sf := fun σ2 => (32, [(0, .inr (.inr (x0))), (1, .inl (x1)), (2, .inl (x2))], [], hp σ2, 0, 0)) (fun σ2 => ?_)
      refine T_go (S' := (34, [(0, .inr (.inr (x0))), (1, .inl (x1)), (2, .inl (x2))], [.inl ((0 : Int32)), .inr (.inr (x0))], hp σ2, 0, 0)) 2 rfl ?_
      refine T_putI rfl (fun _ => ?_)
      refine T_let (Sf := fun σ3 => (37, [(0, .inr (.inr (x0))), (1, .inl (x1)), (2, .inl (x2))], [], hp σ3, 0, 0)) (fun σ3 => ?_)
      refine T_go (S' := (39, [(0, .inr (.inr (x0))), (1, .inl (x1)), (2, .inl (x2))], [.inr (.inl ((0 : Int64))), .inr (.inr (x0))], hp σ3, 0, 0)) 2 rfl ?_
      refine T_cv (i := iU) (as := [.inr (.inr (x0)), .inr (.inl ((0 : Int64)))]) (rest := []) (st := [.inr (.inl ((0 : Int64))), .inr (.inr (x0))]) rfl rfl rfl ⟨lb rfl, lb rfl, lb rfl, lb rfl⟩ (fun _ h => Ew_le (lb rfl) (s_X12_piles x0 (0 : Int64) σ3 _ h)) (fun _ r4 => ?_)
      show Snd false none _ _ _ (cN iI) (42, [(0, .inr (.inr (x0))), (1, .inl (x1)), (2, .inl (x2))], [], hp r4.2, 0, 0)
      refine T_loc (ls' := [(0, .inr (.inr (x0))), (1, .inl (x1))]) [0, 1] rfl ?_
      exact (s_X12_goesThrough_L42 1000000000000).1 x0 x1 r4.2
    · refine T_go (S' := (10, [(0, .inr (.inr (x0))), (1, .inl (x1)), (2, .inl (x2))], [.inr (.inr (x0))], hp σ, 0, 0)) 1 rfl ?_
      refine T_getR rfl (fun _ => ?_)
      refine T_go (S' := (15, [(0, .inr (.inr (x0))), (1, .inl (x1)), (2, .inl (x2))], [.inr (.inl ((0 : Int64))), .inl (x2), .inr (.inr ((RH x0 39)))], hp σ, 0, 0)) 2 rfl ?_
      refine T_last rfl (fun _ => ?_)
      refine T_let (Sf := fun σ5 => (16, [(0, .inr (.inr (x0))), (1, .inl (x1)), (2, .inl (x2))], [], hp σ5, 0, 0)) (fun σ5 => ?_)
      refine T_go (S' := (2, [(2, .inl ((x2 + (1 : Int32)))), (0, .inr (.inr (x0))), (1, .inl (x1))], [], hp σ5, 0, 0)) 2 rfl ?_
      refine T_loc (ls' := [(0, .inr (.inr (x0))), (1, .inl (x1)), (2, .inl ((x2 + (1 : Int32))))]) [1, 2, 0] rfl ?_
      exact ih x0 x1 (x2 + (1 : Int32)) σ5
def f_X12_goesThrough (x0 : Nat) (x1 : Int32) (σ : eMem) : Option (Int32 × eMem) :=
  f_X12_goesThrough_2 1000000 x0 x1 (0 : Int32) σ
set_option maxHeartbeats 4000000 in
set_option maxRecDepth 20000 in
theorem s_X12_goesThrough (x0 : Nat) (x1 : Int32) (σ : eMem) : ∀ r, f_X12_goesThrough x0 x1 σ = some r → Ew false 4 199 [.inr (.inr (x0)), .inl (x1)] (hp σ) (cN iI r) := by
  refine T_meth (md := m_X12_goesThrough) (d0 := 3) (cv := (cN iI)) rfl (lb rfl) (lb rfl) ?_
  unfold f_X12_goesThrough
  show Snd false none _ _ _ _ (0, [(0, .inr (.inr (x0))), (1, .inl (x1))], [], hp σ, 0, 0)
  refine T_go (S' := (2, [(2, .inl ((0 : Int32))), (0, .inr (.inr (x0))), (1, .inl (x1))], [], hp σ, 0, 0)) 2 rfl ?_
  refine T_loc (ls' := [(0, .inr (.inr (x0))), (1, .inl (x1)), (2, .inl ((0 : Int32)))]) [1, 2, 0] rfl ?_
  exact s_X12_goesThrough_2 1000000 x0 x1 (0 : Int32) σ
def f_X12_outcomesTold_39 (s0 : Int32) (σ : eMem) : Option (Int32 × eMem) :=
  some (s0, σ)
set_option maxHeartbeats 4000000 in
set_option maxRecDepth 20000 in
theorem s_X12_outcomesTold_39 (s0 : Int32) (σ : eMem) : Snd false none 4 m_X12_outcomesTold (f_X12_outcomesTold_39 s0 σ) (cN iI) (39, [], [.inl (s0)], hp σ, 0, 0) := by
  unfold f_X12_outcomesTold_39
  exact T_ret rfl
def f_X12_outcomesTold_32 (s0 : Nat) (s1 : Int32) (σ : eMem) : Option (Int32 × eMem) :=
  if (KH s0).1 = 10 then
    Option.bind (f_X12_goesThrough s0 s1 σ) (fun r1 =>
      f_X12_outcomesTold_39 r1.1 r1.2
      )
  else none
set_option maxHeartbeats 4000000 in
set_option maxRecDepth 20000 in
theorem s_X12_outcomesTold_32 (s0 : Nat) (s1 : Int32) (σ : eMem) : Snd false none 4 m_X12_outcomesTold (f_X12_outcomesTold_32 s0 s1 σ) (cN iI) (32, [], [.inl (s1), .inr (.inr (s0))], hp σ, 0, 0) := by
  unfold f_X12_outcomesTold_32
  refine T_cv (i := iI) (as := [.inr (.inr (s0)), .inl (s1)]) (rest := []) (st := [.inl (s1), .inr (.inr (s0))]) rfl rfl rfl ⟨lb rfl, lb rfl, lb rfl, lb rfl⟩ (fun _ h => Ew_le (lb rfl) (s_X12_goesThrough s0 s1 σ _ h)) (fun _ r1 => ?_)
  show Snd false none _ _ _ (cN iI) (35, [], [.inl (r1.1)], hp r1.2, 0, 0)
  refine T_go (S' := (39, [], [.inl (r1.1)], hp r1.2, 0, 0)) 1 rfl ?_
  refine T_loc (ls' := []) [] rfl ?_
  exact s_X12_outcomesTold_39 r1.1 r1.2
def f_X12_outcomesTold_15 (x0 : Nat) (x1 : Int32) (s0 : Nat) (s1 : Int32) (σ : eMem) : Option (Int32 × eMem) :=
  if (KH s0).1 = 10 then
    Option.bind (f_X12_asks s0 s1 σ) (fun r1 =>
      if r1.1 = (0 : Int32) then
        f_X12_outcomesTold_39 (0 : Int32) r1.2
      else
        if ¬ x1 = (1 : Int32) then
          f_X12_outcomesTold_32 x0 (0 : Int32) r1.2
        else
          f_X12_outcomesTold_32 x0 (1 : Int32) r1.2
      )
  else none
set_option maxHeartbeats 4000000 in
set_option maxRecDepth 20000 in
theorem s_X12_outcomesTold_15 (x0 : Nat) (x1 : Int32) (s0 : Nat) (s1 : Int32) (σ : eMem) : Snd false none 4 m_X12_outcomesTold (f_X12_outcomesTold_15 x0 x1 s0 s1 σ) (cN iI) (15, [(0, .inr (.inr (x0))), (1, .inl (x1))], [.inl (s1), .inr (.inr (s0))], hp σ, 0, 0) := by
  unfold f_X12_outcomesTold_15
  refine T_cv (i := iI) (as := [.inr (.inr (s0)), .inl (s1)]) (rest := []) (st := [.inl (s1), .inr (.inr (s0))]) rfl rfl rfl ⟨lb rfl, lb rfl, lb rfl, lb rfl⟩ (fun _ h => Ew_le (lb rfl) (s_X12_asks s0 s1 σ _ h)) (fun _ r1 => ?_)
  show Snd false none _ _ _ (cN iI) (18, [(0, .inr (.inr (x0))), (1, .inl (x1))], [.inl (r1.1)], hp r1.2, 0, 0)
  refine T_if_eq 38 rfl rfl (fun _ => ?_) (fun _ => ?_)
  · refine T_go (S' := (39, [(0, .inr (.inr (x0))), (1, .inl (x1))], [.inl ((0 : Int32))], hp r1.2, 0, 0)) 1 rfl ?_
    refine T_loc (ls' := []) [] rfl ?_
    exact s_X12_outcomesTold_39 (0 : Int32) r1.2
  · refine T_go (S' := (24, [(0, .inr (.inr (x0))), (1, .inl (x1))], [.inl ((1 : Int32)), .inl (x1), .inr (.inr (x0))], hp r1.2, 0, 0)) 3 rfl ?_
    refine T_icmp_ne 31 rfl rfl (fun _ => ?_) (fun _ => ?_)
    · refine T_go (S' := (32, [(0, .inr (.inr (x0))), (1, .inl (x1))], [.inl ((0 : Int32)), .inr (.inr (x0))], hp r1.2, 0, 0)) 1 rfl ?_
      refine T_loc (ls' := []) [] rfl ?_
      exact s_X12_outcomesTold_32 x0 (0 : Int32) r1.2
    · refine T_go (S' := (32, [(0, .inr (.inr (x0))), (1, .inl (x1))], [.inl ((1 : Int32)), .inr (.inr (x0))], hp r1.2, 0, 0)) 2 rfl ?_
      refine T_loc (ls' := []) [] rfl ?_
      exact s_X12_outcomesTold_32 x0 (1 : Int32) r1.2
def f_X12_outcomesTold_10 (x0 : Nat) (x1 : Int32) (s0 : Nat) (σ : eMem) : Option (Int32 × eMem) :=
  f_X12_outcomesTold_15 x0 x1 s0 (1 : Int32) σ
set_option maxHeartbeats 4000000 in
set_option maxRecDepth 20000 in
theorem s_X12_outcomesTold_10 (x0 : Nat) (x1 : Int32) (s0 : Nat) (σ : eMem) : Snd false none 4 m_X12_outcomesTold (f_X12_outcomesTold_10 x0 x1 s0 σ) (cN iI) (10, [(0, .inr (.inr (x0))), (1, .inl (x1))], [.inr (.inr (s0))], hp σ, 0, 0) := by
  unfold f_X12_outcomesTold_10
  refine T_go (S' := (15, [(0, .inr (.inr (x0))), (1, .inl (x1))], [.inl ((1 : Int32)), .inr (.inr (s0))], hp σ, 0, 0)) 2 rfl ?_
  refine T_loc (ls' := [(0, .inr (.inr (x0))), (1, .inl (x1))]) [0, 1] rfl ?_
  exact s_X12_outcomesTold_15 x0 x1 s0 (1 : Int32) σ
def f_X12_outcomesTold (x0 : Nat) (x1 : Int32) (σ : eMem) : Option (Int32 × eMem) :=
  if x1 = (0 : Int32) then
    f_X12_outcomesTold_10 x0 x1 x0 σ
  else
    if ¬ x1 = (1 : Int32) then
      f_X12_outcomesTold_15 x0 x1 x0 (0 : Int32) σ
    else
      f_X12_outcomesTold_10 x0 x1 x0 σ
set_option maxHeartbeats 4000000 in
set_option maxRecDepth 20000 in
theorem s_X12_outcomesTold (x0 : Nat) (x1 : Int32) (σ : eMem) : ∀ r, f_X12_outcomesTold x0 x1 σ = some r → Ew false 5 200 [.inr (.inr (x0)), .inl (x1)] (hp σ) (cN iI r) := by
  refine T_meth (md := m_X12_outcomesTold) (d0 := 4) (cv := (cN iI)) rfl (lb rfl) (lb rfl) ?_
  unfold f_X12_outcomesTold
  show Snd false none _ _ _ _ (0, [(0, .inr (.inr (x0))), (1, .inl (x1))], [], hp σ, 0, 0)
  refine T_go (S' := (2, [(0, .inr (.inr (x0))), (1, .inl (x1))], [.inl (x1), .inr (.inr (x0))], hp σ, 0, 0)) 2 rfl ?_
  refine T_if_eq 10 rfl rfl (fun _ => ?_) (fun _ => ?_)
  · refine T_loc (ls' := [(0, .inr (.inr (x0))), (1, .inl (x1))]) [0, 1] rfl ?_
    exact s_X12_outcomesTold_10 x0 x1 x0 σ
  · refine T_go (S' := (7, [(0, .inr (.inr (x0))), (1, .inl (x1))], [.inl ((1 : Int32)), .inl (x1), .inr (.inr (x0))], hp σ, 0, 0)) 2 rfl ?_
    refine T_icmp_ne 14 rfl rfl (fun _ => ?_) (fun _ => ?_)
    · refine T_go (S' := (15, [(0, .inr (.inr (x0))), (1, .inl (x1))], [.inl ((0 : Int32)), .inr (.inr (x0))], hp σ, 0, 0)) 1 rfl ?_
      refine T_loc (ls' := [(0, .inr (.inr (x0))), (1, .inl (x1))]) [0, 1] rfl ?_
      exact s_X12_outcomesTold_15 x0 x1 x0 (0 : Int32) σ
    · refine T_loc (ls' := [(0, .inr (.inr (x0))), (1, .inl (x1))]) [0, 1] rfl ?_
      exact s_X12_outcomesTold_10 x0 x1 x0 σ
def f_X12_outcomes (x0 : Nat) (x1 : Int32) (σ : eMem) : Option (Int32 × eMem) :=
  if (KH x0).1 = 10 then
    Option.bind (f_X12_outcomesTold x0 x1 σ) (fun r1 =>
      some (r1.1, r1.2)
      )
  else none
set_option maxHeartbeats 4000000 in
set_option maxRecDepth 20000 in
theorem s_X12_outcomes (x0 : Nat) (x1 : Int32) (σ : eMem) : ∀ r, f_X12_outcomes x0 x1 σ = some r → Ew false 6 201 [.inr (.inr (x0)), .inl (x1)] (hp σ) (cN iI r) := by
  refine T_meth (md := m_X12_outcomes) (d0 := 5) (cv := (cN iI)) rfl (lb rfl) (lb rfl) ?_
  unfold f_X12_outcomes
  show Snd false none _ _ _ _ (0, [(0, .inr (.inr (x0))), (1, .inl (x1))], [], hp σ, 0, 0)
  refine T_go (S' := (2, [(0, .inr (.inr (x0))), (1, .inl (x1))], [.inl (x1), .inr (.inr (x0))], hp σ, 0, 0)) 2 rfl ?_
  refine T_cv (i := iI) (as := [.inr (.inr (x0)), .inl (x1)]) (rest := []) (st := [.inl (x1), .inr (.inr (x0))]) rfl rfl rfl ⟨lb rfl, lb rfl, lb rfl, lb rfl⟩ (fun _ h => Ew_le (lb rfl) (s_X12_outcomesTold x0 x1 σ _ h)) (fun _ r1 => ?_)
  show Snd false none _ _ _ (cN iI) (5, [(0, .inr (.inr (x0))), (1, .inl (x1))], [.inl (r1.1)], hp r1.2, 0, 0)
  exact T_ret rfl
